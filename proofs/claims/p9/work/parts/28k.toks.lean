-- TOKENS
def bB (cn : Int) : Bool := decide (cn = 32) || decide (cn = 10)
def bL (cn : Int) : Bool := (decide (97 ≤ cn) && decide (cn ≤ 122)) || (decide (65 ≤ cn) && decide (cn ≤ 90))
def bD (cn : Int) : Bool := decide (48 ≤ cn) && decide (cn ≤ 57)
theorem bB_t {cn : Int} : bB cn = true ↔ (cn = 32 ∨ cn = 10) := by simp [bB]
theorem bL_t {cn : Int} : bL cn = true ↔ ((97 ≤ cn ∧ cn ≤ 122) ∨ (65 ≤ cn ∧ cn ≤ 90)) := by simp [bL]
theorem bD_t {cn : Int} : bD cn = true ↔ (48 ≤ cn ∧ cn ≤ 57) := by simp [bD]
def m_en (P : Int → Bool) (f : Nat → Int32) (n : Nat) : Nat → Nat → Nat
  | 0, p => p
  | k + 1, p => if p < n ∧ P (f p).toInt = true then m_en P f n k (p + 1) else p
def z_E (P : Int → Bool) (f : Nat → Int32) (n p : Nat) : Nat := m_en P f n (n - p) p
theorem z_E1 {P : Int → Bool} {f : Nat → Int32} {n p : Nat} (hp : p < n) (h : P (f p).toInt = true) : z_E P f n p = z_E P f n (p + 1) := by
  unfold z_E
  rw [show n - p = (n - (p + 1)) + 1 from by omega]
  show (if p < n ∧ P (f p).toInt = true then _ else _) = _
  rw [if_pos ⟨hp, h⟩]
theorem z_E0 {P : Int → Bool} {f : Nat → Int32} {n p : Nat} (h : ¬ (p < n ∧ P (f p).toInt = true)) : z_E P f n p = p := by
  unfold z_E
  cases n - p with
  | zero => rfl
  | succ k =>
    show (if p < n ∧ P (f p).toInt = true then _ else _) = _
    rw [if_neg h]
theorem m_en_b {P : Int → Bool} {f : Nat → Int32} {n : Nat} : ∀ k p, p ≤ n → p ≤ m_en P f n k p ∧ m_en P f n k p ≤ n
  | 0, p, h => ⟨Nat.le_refl p, h⟩
  | k + 1, p, h => by
    unfold m_en
    by_cases q : p < n ∧ P (f p).toInt = true
    · rw [if_pos q]
      have := m_en_b (P := P) (f := f) k (p + 1) q.1
      omega
    · rw [if_neg q]
      exact ⟨Nat.le_refl p, h⟩
theorem z_E_b {P : Int → Bool} {f : Nat → Int32} {n p : Nat} (h : p ≤ n) : p ≤ z_E P f n p ∧ z_E P f n p ≤ n := m_en_b _ _ h
theorem m_en_al {P : Int → Bool} {f g : Nat → Int32} {n : Nat} (h : m_al n f g) : ∀ k p, m_en P f n k p = m_en P g n k p
  | 0, _ => rfl
  | k + 1, p => by
    unfold m_en
    by_cases q : p < n
    · rw [h p q, m_en_al h k (p + 1)]
    · rw [if_neg (fun z => q z.1), if_neg (fun z => q z.1)]
theorem z_E_al {P : Int → Bool} {f g : Nat → Int32} {n p : Nat} (h : m_al n f g) : z_E P f n p = z_E P g n p := m_en_al h _ _
/-- where it stops, P fails -/
theorem z_E_stop {P : Int → Bool} {f : Nat → Int32} {n : Nat} : ∀ k p, n - p = k → p ≤ n → ¬ (z_E P f n p < n ∧ P (f (z_E P f n p)).toInt = true)
  | 0, p, hk, hp => by
    have := z_E_b (P := P) (f := f) hp
    omega
  | k + 1, p, hk, hp => by
    by_cases q : p < n ∧ P (f p).toInt = true
    · rw [z_E1 q.1 q.2]
      exact z_E_stop k (p + 1) (by omega) (by omega)
    · rw [z_E0 q]
      exact q
/-- the number of the k digits from a on -/
def m_nv (f : Nat → Int32) (a : Nat) : Nat → Int32
  | 0 => 0
  | k + 1 => m_nv f a k * 10 + f (a + k) - 48
theorem m_nv_al {f g : Nat → Int32} {a n : Nat} (h : m_al n f g) : ∀ k, a + k ≤ n → m_nv f a k = m_nv g a k
  | 0, _ => rfl
  | k + 1, hk => by
    unfold m_nv
    rw [m_nv_al h k (by omega), h (a + k) (by omega)]
theorem m_nv1 {f : Nat → Int32} {a k : Nat} {B : Int} (h : 0 ≤ (m_nv f a k).toInt ∧ (m_nv f a k).toInt ≤ B) (hB : 0 ≤ B ∧ B ≤ 9999) (hd : 48 ≤ (f (a + k)).toInt ∧ (f (a + k)).toInt ≤ 57) : 0 ≤ (m_nv f a (k + 1)).toInt ∧ (m_nv f a (k + 1)).toInt ≤ 10 * B + 9 := by
  obtain ⟨x, ex⟩ : ∃ x, x = m_nv f a k * 10 := ⟨_, rfl⟩
  obtain ⟨y, ey⟩ : ∃ y, y = x + f (a + k) := ⟨_, rfl⟩
  obtain ⟨z, ez⟩ : ∃ z, z = y - 48 := ⟨_, rfl⟩
  have hx := m_mulI ex rfl (by decide : (10 : Int32).toInt = 10) (by omega) (by omega)
  have hy := m_addI ey hx rfl (by omega) (by omega)
  have hz := m_subI ez hy (by decide : (48 : Int32).toInt = 48) (by omega) (by omega)
  have e : m_nv f a (k + 1) = z := by rw [ez, ey, ex]; rfl
  rw [e, hz]
  omega
def m_dg (f : Nat → Int32) (a k : Nat) : Prop := ∀ j, j < k → 48 ≤ (f (a + j)).toInt ∧ (f (a + j)).toInt ≤ 57
theorem m_nv_b {f : Nat → Int32} {a k : Nat} (hk : k ≤ 4) (hd : m_dg f a k) : 0 ≤ (m_nv f a k).toInt ∧ (m_nv f a k).toInt ≤ 9999 ∧ (k ≤ 3 → (m_nv f a k).toInt ≤ 999) := by
  have b0 : 0 ≤ (m_nv f a 0).toInt ∧ (m_nv f a 0).toInt ≤ 0 := by show 0 ≤ (0 : Int32).toInt ∧ (0 : Int32).toInt ≤ 0; decide
  rcases (show k = 0 ∨ k = 1 ∨ k = 2 ∨ k = 3 ∨ k = 4 by omega) with rfl | rfl | rfl | rfl | rfl
  · omega
  · have h1 : 0 ≤ (m_nv f a 1).toInt ∧ (m_nv f a 1).toInt ≤ 10 * 0 + 9 := m_nv1 (k := 0) b0 (by omega) (hd 0 (by omega))
    omega
  · have h1 : 0 ≤ (m_nv f a 1).toInt ∧ (m_nv f a 1).toInt ≤ 10 * 0 + 9 := m_nv1 (k := 0) b0 (by omega) (hd 0 (by omega))
    have h2 : 0 ≤ (m_nv f a 2).toInt ∧ (m_nv f a 2).toInt ≤ 10 * (10 * 0 + 9) + 9 := m_nv1 (k := 1) h1 (by omega) (hd 1 (by omega))
    omega
  · have h1 : 0 ≤ (m_nv f a 1).toInt ∧ (m_nv f a 1).toInt ≤ 10 * 0 + 9 := m_nv1 (k := 0) b0 (by omega) (hd 0 (by omega))
    have h2 : 0 ≤ (m_nv f a 2).toInt ∧ (m_nv f a 2).toInt ≤ 10 * (10 * 0 + 9) + 9 := m_nv1 (k := 1) h1 (by omega) (hd 1 (by omega))
    have h3 : 0 ≤ (m_nv f a 3).toInt ∧ (m_nv f a 3).toInt ≤ 10 * (10 * (10 * 0 + 9) + 9) + 9 := m_nv1 (k := 2) h2 (by omega) (hd 2 (by omega))
    omega
  · have h1 : 0 ≤ (m_nv f a 1).toInt ∧ (m_nv f a 1).toInt ≤ 10 * 0 + 9 := m_nv1 (k := 0) b0 (by omega) (hd 0 (by omega))
    have h2 : 0 ≤ (m_nv f a 2).toInt ∧ (m_nv f a 2).toInt ≤ 10 * (10 * 0 + 9) + 9 := m_nv1 (k := 1) h1 (by omega) (hd 1 (by omega))
    have h3 : 0 ≤ (m_nv f a 3).toInt ∧ (m_nv f a 3).toInt ≤ 10 * (10 * (10 * 0 + 9) + 9) + 9 := m_nv1 (k := 2) h2 (by omega) (hd 2 (by omega))
    have h4 : 0 ≤ (m_nv f a 4).toInt ∧ (m_nv f a 4).toInt ≤ 10 * (10 * (10 * (10 * 0 + 9) + 9) + 9) + 9 := m_nv1 (k := 3) h3 (by omega) (hd 3 (by omega))
    omega
/-- the kind of a sign -/
def m_sk (cn : Int) : Int := if cn = 59 then 3 else if cn = 43 then 4 else if cn = 45 then 5 else if cn = 60 then 6 else if cn = 61 then 7 else if cn = 62 then 8 else 0
/-- the token at or behind p: where it begins, where it ends, its kind (as the class numbers it), its value -/
def m_q (f : Nat → Int32) (n p : Nat) : Nat := z_E bB f n p
def m_te (f : Nat → Int32) (n q : Nat) : Nat := if n ≤ q then q else if bL (f q).toInt = true then z_E bL f n (q + 1) else if bD (f q).toInt = true then z_E bD f n (q + 1) else q + 1
noncomputable def m_tk (f : Nat → Int32) (n q : Nat) : Int := if n ≤ q then 1 else if bL (f q).toInt = true then m_wk f q (m_te f n q) else if bD (f q).toInt = true then (if m_te f n q - q ≤ 4 then 2 else 0) else m_sk (f q).toInt
def m_tv (f : Nat → Int32) (n q : Nat) : Int32 := if q < n ∧ bD (f q).toInt = true then m_nv f q (m_te f n q - q) else 0
def m_P (f : Nat → Int32) (n : Nat) : Nat → Nat
  | 0 => 0
  | i + 1 => m_te f n (m_q f n (m_P f n i))
def m_Q (f : Nat → Int32) (n i : Nat) : Nat := m_q f n (m_P f n i)
noncomputable def m_KK (f : Nat → Int32) (n i : Nat) : Int := m_tk f n (m_Q f n i)
def m_VV (f : Nat → Int32) (n i : Nat) : Int32 := m_tv f n (m_Q f n i)
theorem m_te_b {f : Nat → Int32} {n q : Nat} (h : q < n) : q + 1 ≤ m_te f n q ∧ m_te f n q ≤ n := by
  unfold m_te
  rw [if_neg (by omega)]
  by_cases a : bL (f q).toInt = true
  · rw [if_pos a]
    exact z_E_b (by omega)
  · rw [if_neg a]
    by_cases b : bD (f q).toInt = true
    · rw [if_pos b]
      exact z_E_b (by omega)
    · rw [if_neg b]
      omega
theorem m_P_le {f : Nat → Int32} {n : Nat} : ∀ i, m_P f n i ≤ n
  | 0 => Nat.zero_le n
  | i + 1 => by
    show m_te f n (m_q f n (m_P f n i)) ≤ n
    have h := z_E_b (P := bB) (f := f) (m_P_le (f := f) (n := n) i)
    by_cases q : m_q f n (m_P f n i) < n
    · exact (m_te_b q).2
    · unfold m_te
      rw [if_pos (by omega)]
      exact h.2
theorem m_Q_le {f : Nat → Int32} {n i : Nat} : m_Q f n i ≤ n := (z_E_b (m_P_le i)).2
theorem m_P_Q {f : Nat → Int32} {n i : Nat} : m_P f n i ≤ m_Q f n i := (z_E_b (m_P_le i)).1
/-- behind the last token there is nothing -/
theorem m_KK_end {f : Nat → Int32} {n i : Nat} (h : n ≤ m_Q f n i) : m_KK f n i = 1 ∧ n ≤ m_Q f n (i + 1) := by
  refine ⟨if_pos h, ?_⟩
  have e : m_P f n (i + 1) = m_Q f n i := if_pos h
  have := m_P_Q (f := f) (n := n) (i := i + 1)
  omega
theorem m_Q_ge {f : Nat → Int32} {n : Nat} : ∀ i, i ≤ m_Q f n i ∨ n ≤ m_Q f n i
  | 0 => Or.inl (Nat.zero_le _)
  | i + 1 => by
    rcases m_Q_ge (f := f) (n := n) i with h | h
    · by_cases q : m_Q f n i < n
      · have h1 := (m_te_b (f := f) q).1
        have e : m_P f n (i + 1) = m_te f n (m_Q f n i) := rfl
        have h2 := m_P_Q (f := f) (n := n) (i := i + 1)
        exact Or.inl (by omega)
      · exact Or.inr (m_KK_end (by omega)).2
    · exact Or.inr (m_KK_end h).2
theorem m_KK_400 {f : Nat → Int32} {n i : Nat} (hn : n ≤ 400) (hi : 400 ≤ i) : m_KK f n i = 1 := by
  refine (m_KK_end ?_).1
  rcases m_Q_ge (f := f) (n := n) i with h | h <;> omega
theorem m_te_al {f g : Nat → Int32} {n q : Nat} (h : m_al n f g) : m_te f n q = m_te g n q := by
  unfold m_te
  by_cases cn : n ≤ q
  · rw [if_pos cn, if_pos cn]
  · rw [if_neg cn, if_neg cn, h q (by omega), z_E_al h, z_E_al h]
theorem m_P_al {f g : Nat → Int32} {n : Nat} (h : m_al n f g) : ∀ i, m_P f n i = m_P g n i
  | 0 => rfl
  | i + 1 => by
    show m_te f n (m_q f n (m_P f n i)) = m_te g n (m_q g n (m_P g n i))
    rw [m_P_al h i, m_te_al h]
    unfold m_q
    rw [z_E_al h]
theorem m_Q_al {f g : Nat → Int32} {n i : Nat} (h : m_al n f g) : m_Q f n i = m_Q g n i := by
  unfold m_Q m_q
  rw [m_P_al h, z_E_al h]
theorem m_KK_al {f g : Nat → Int32} {n i : Nat} (h : m_al n f g) : m_KK f n i = m_KK g n i := by
  unfold m_KK m_tk
  rw [m_Q_al h]
  by_cases cn : n ≤ m_Q g n i
  · rw [if_pos cn, if_pos cn]
  · rw [if_neg cn, if_neg cn, h _ (by omega), m_te_al h, m_wk_al h (m_te_b (by omega)).2]
theorem m_VV_al {f g : Nat → Int32} {n i : Nat} (h : m_al n f g) : m_VV f n i = m_VV g n i := by
  unfold m_VV m_tv
  rw [m_Q_al h]
  by_cases cn : m_Q g n i < n
  · have := (m_te_b (f := g) cn)
    rw [h _ cn, m_te_al h, m_nv_al h _ (by omega)]
  · rw [if_neg (fun z => cn z.1), if_neg (fun z => cn z.1)]
/-- so many tokens are kept, the place is pl -/
def m_TA (K L V f : Nat → Int32) (n cn pl : Nat) : Prop := (∀ j, j < cn → (K j).toInt = m_KK f n j ∧ (L j).toInt = m_Q f n j ∧ V j = m_VV f n j) ∧ m_q f n pl = m_Q f n cn ∧ cn ≤ pl ∧ pl ≤ n
theorem m_TA.z {K L V f : Nat → Int32} {n : Nat} : m_TA K L V f n 0 0 := ⟨fun j hj => absurd hj (Nat.not_lt_zero j), rfl, Nat.le_refl 0, Nat.zero_le n⟩
theorem m_TA.skip {K L V f : Nat → Int32} {n cn pl : Nat} (h : m_TA K L V f n cn pl) (hp : pl < n) (hb : bB (f pl).toInt = true) : m_TA K L V f n cn (pl + 1) := ⟨h.1, by rw [← h.2.1]; exact (z_E1 hp hb).symm, by have := h.2.2.1; omega, hp⟩
theorem m_TA.up {K L V f : Nat → Int32} {n cn pl : Nat} {x y z : Int32} (h : m_TA K L V f n cn pl) (hb : m_q f n pl = pl) (hx : x.toInt = m_tk f n pl) (hy : y.toInt = pl) (hz : z = m_tv f n pl) : ∀ j, j < cn + 1 → (m_up K cn x j).toInt = m_KK f n j ∧ (m_up L cn y j).toInt = m_Q f n j ∧ m_up V cn z j = m_VV f n j := by
  intro j hj
  by_cases q : j = cn
  · subst q
    have e : m_Q f n j = pl := by rw [← h.2.1]; exact hb
    rw [m_up_at, m_up_at, m_up_at]
    unfold m_KK m_VV
    rw [e]
    exact ⟨hx, hy, hz⟩
  · rw [m_up_ne q, m_up_ne q, m_up_ne q]
    exact h.1 j (by omega)
theorem m_TA.add {K L V f : Nat → Int32} {n cn pl : Nat} {x y z : Int32} (h : m_TA K L V f n cn pl) (hp : pl < n) (hb : ¬ bB (f pl).toInt = true) (hx : x.toInt = m_tk f n pl) (hy : y.toInt = pl) (hz : z = m_tv f n pl) : m_TA (m_up K cn x) (m_up L cn y) (m_up V cn z) f n (cn + 1) (m_te f n pl) := by
  have hq : m_q f n pl = pl := z_E0 (fun q => hb q.2)
  have ht := m_te_b (f := f) hp
  have h2 := h.2.2.1
  refine ⟨h.up hq hx hy hz, ?_, by omega, ht.2⟩
  have e : m_P f n (cn + 1) = m_te f n pl := by
    show m_te f n (m_Q f n cn) = _
    rw [← h.2.1, hq]
  unfold m_Q
  rw [e]
/-- all tokens are kept: cn of them before the last -/
def m_TD (K L V f : Nat → Int32) (n cn : Nat) : Prop := (∀ j, j ≤ cn → (K j).toInt = m_KK f n j ∧ (L j).toInt = m_Q f n j ∧ V j = m_VV f n j) ∧ m_KK f n cn = 1 ∧ cn ≤ n
theorem m_TA.fin {K L V f : Nat → Int32} {n cn : Nat} {x y z : Int32} (h : m_TA K L V f n cn n) (hx : x = 1) (hy : y.toInt = n) (hz : z = 0) : m_TD (m_up K cn x) (m_up L cn y) (m_up V cn z) f n cn := by
  have hq : m_q f n n = n := z_E0 (fun q => Nat.lt_irrefl n q.1)
  have hu := h.up (x := x) (y := y) (z := z) hq (by rw [hx]; unfold m_tk; rw [if_pos (Nat.le_refl n)]; rfl) hy (by rw [hz]; unfold m_tv; rw [if_neg (fun q => Nat.lt_irrefl n q.1)])
  refine ⟨fun j hj => hu j (by omega), (m_KK_end ?_).1, h.2.2.1⟩
  rw [← h.2.1, hq]
  exact Nat.le_refl n
set_option maxHeartbeats 4000000 in
set_option maxRecDepth 100000 in
theorem g_X8_isLetter_f (l : Launch) (D : va_G) (cy : Nat → ClassId) (b : Nat) (k : Int32) (μ : mM) (hI : IX μ) : m_Ci l yX8_isLetter cX8_isLetter 1 ((some .boolean)) 1 D cy b LAY μ [.int k] (fun r ν => μ = ν ∧ ((r = 1 ∧ ((97 ≤ k.toInt ∧ k.toInt ≤ 122) ∨ (65 ≤ k.toInt ∧ k.toInt ≤ 90))) ∨ (r = 0 ∧ (¬ ((97 ≤ k.toInt ∧ k.toInt ≤ 122) ∨ (65 ≤ k.toInt ∧ k.toInt ≤ 90)))))) := by
  unfold m_Ci
  refine m_of (by decide) (Nat.le_of_ble_eq_true rfl) ?_
  intro p e s m below meth c hx hb hr hml hown hts hlocks _ hW ls hl
  have hown : s.vm.findClass RX8 = some m.cls := hown
  have hl : lv_has ls 1 [(0, .int k)] := hl
  refine lv_iload_n hx hb dX8_isLetter_0 rfl (lv_at hl 0 rfl) ?_
  refine lv_bipush (v := 97) hx hb dX8_isLetter_1 (by decide) ?_
  refine lv_bipush (v := 122) hx hb dX8_isLetter_3 (by decide) ?_
  have l_97 : (97 : Int32).toInt = 97 := by decide
  have l_122 : (122 : Int32).toInt = 122 := by decide
  refine m_aI hW (m_runSN (As := [.int k, .int 97, .int 122]) (rest := []) hx hb hml hown hts hW (g_X11_within l D cy b k 97 122 μ hI) ms_X11_within n_X8_81 rfl hl.1 rfl (Nat.le_of_ble_eq_true rfl) dX8_isLetter_5 ⟨Nat.le_of_ble_eq_true rfl, Nat.le_of_ble_eq_true rfl⟩ ⟨Nat.le_of_ble_eq_true rfl, Nat.le_of_ble_eq_true rfl⟩) (fun x1 μ1 H locs q1 hW => ?_)
  obtain ⟨q1_m, q1⟩ := q1
  subst q1_m
  rcases q1 with ⟨rfl, q1⟩ | ⟨rfl, q1⟩
  · refine lv_if_ne (tgt := 22) hx hb dX8_isLetter_8 (by decide) (fun _ => ?_) (fun c => False.elim (by revert c; decide))
    refine lv_iconst (v := 1) hx hb dX8_isLetter_22 (by decide) ?_
    refine lv_goto (tgt := 27) hx hb dX8_isLetter_23 (by decide) ?_
    exact m_iret hx hb hr hlocks hW (by decide) (⟨rfl, Or.inl ⟨rfl, by omega⟩⟩) dX8_isLetter_27
  · refine lv_if_ne (tgt := 22) hx hb dX8_isLetter_8 (by decide) (fun c => False.elim (by revert c; decide)) (fun _ => ?_)
    refine lv_iload_n hx hb dX8_isLetter_11 rfl (lv_at hl 0 rfl) ?_
    refine lv_bipush (v := 65) hx hb dX8_isLetter_12 (by decide) ?_
    refine lv_bipush (v := 90) hx hb dX8_isLetter_14 (by decide) ?_
    have l_65 : (65 : Int32).toInt = 65 := by decide
    have l_90 : (90 : Int32).toInt = 90 := by decide
    refine m_aI hW (m_runSN (As := [.int k, .int 65, .int 90]) (rest := []) hx hb hml hown hts hW (g_X11_within l D cy b k 65 90 μ hI) ms_X11_within n_X8_81 rfl hl.1 rfl (Nat.le_of_ble_eq_true rfl) dX8_isLetter_16 ⟨Nat.le_of_ble_eq_true rfl, Nat.le_of_ble_eq_true rfl⟩ ⟨Nat.le_of_ble_eq_true rfl, Nat.le_of_ble_eq_true rfl⟩) (fun x2 μ2 H locs q2 hW => ?_)
    obtain ⟨q2_m, q2⟩ := q2
    subst q2_m
    rcases q2 with ⟨rfl, q2⟩ | ⟨rfl, q2⟩
    · refine lv_if_eq (tgt := 26) hx hb dX8_isLetter_19 (by decide) (fun c => False.elim (by revert c; decide)) (fun _ => ?_)
      refine lv_iconst (v := 1) hx hb dX8_isLetter_22 (by decide) ?_
      refine lv_goto (tgt := 27) hx hb dX8_isLetter_23 (by decide) ?_
      exact m_iret hx hb hr hlocks hW (by decide) (⟨rfl, Or.inl ⟨rfl, by omega⟩⟩) dX8_isLetter_27
    · refine lv_if_eq (tgt := 26) hx hb dX8_isLetter_19 (by decide) (fun _ => ?_) (fun c => False.elim (by revert c; decide))
      refine lv_iconst (v := 0) hx hb dX8_isLetter_26 (by decide) ?_
      exact m_iret hx hb hr hlocks hW (by decide) (⟨rfl, Or.inr ⟨rfl, by omega⟩⟩) dX8_isLetter_27
set_option maxHeartbeats 4000000 in
set_option maxRecDepth 100000 in
theorem g_X8_isDigit_f (l : Launch) (D : va_G) (cy : Nat → ClassId) (b : Nat) (k : Int32) (μ : mM) (hI : IX μ) : m_Ci l yX8_isDigit cX8_isDigit 1 ((some .boolean)) 1 D cy b LAY μ [.int k] (fun r ν => μ = ν ∧ ((r = 1 ∧ (48 ≤ k.toInt ∧ k.toInt ≤ 57)) ∨ (r = 0 ∧ (¬ (48 ≤ k.toInt ∧ k.toInt ≤ 57))))) := by
  unfold m_Ci
  refine m_of (by decide) (Nat.le_of_ble_eq_true rfl) ?_
  intro p e s m below meth c hx hb hr hml hown hts hlocks _ hW ls hl
  have hown : s.vm.findClass RX8 = some m.cls := hown
  have hl : lv_has ls 1 [(0, .int k)] := hl
  refine lv_iload_n hx hb dX8_isDigit_0 rfl (lv_at hl 0 rfl) ?_
  refine lv_bipush (v := 48) hx hb dX8_isDigit_1 (by decide) ?_
  refine lv_bipush (v := 57) hx hb dX8_isDigit_3 (by decide) ?_
  have l_48 : (48 : Int32).toInt = 48 := by decide
  have l_57 : (57 : Int32).toInt = 57 := by decide
  refine m_aI hW (m_runSN (As := [.int k, .int 48, .int 57]) (rest := []) hx hb hml hown hts hW (g_X11_within l D cy b k 48 57 μ hI) ms_X11_within n_X8_81 rfl hl.1 rfl (Nat.le_of_ble_eq_true rfl) dX8_isDigit_5 ⟨Nat.le_of_ble_eq_true rfl, Nat.le_of_ble_eq_true rfl⟩ ⟨Nat.le_of_ble_eq_true rfl, Nat.le_of_ble_eq_true rfl⟩) (fun x1 μ1 H locs q1 hW => ?_)
  obtain ⟨q1_m, q1⟩ := q1
  subst q1_m
  rcases q1 with ⟨rfl, q1⟩ | ⟨rfl, q1⟩
  · exact m_iret hx hb hr hlocks hW (by decide) (⟨rfl, Or.inl ⟨rfl, by omega⟩⟩) dX8_isDigit_8
  · exact m_iret hx hb hr hlocks hW (by decide) (⟨rfl, Or.inr ⟨rfl, by omega⟩⟩) dX8_isDigit_8
set_option maxHeartbeats 4000000 in
set_option maxRecDepth 100000 in
theorem g_X8_isBlank_f (l : Launch) (D : va_G) (cy : Nat → ClassId) (b : Nat) (k : Int32) (μ : mM) (hI : IX μ) : m_Ci l yX8_isBlank cX8_isBlank 1 ((some .boolean)) 0 D cy b LAY μ [.int k] (fun r ν => μ = ν ∧ ((r = 1 ∧ (k.toInt = 32 ∨ k.toInt = 10)) ∨ (r = 0 ∧ (¬ (k.toInt = 32 ∨ k.toInt = 10))))) := by
  unfold m_Ci
  refine m_of (by decide) (Nat.le_of_ble_eq_true rfl) ?_
  intro p e s m below meth c hx hb hr hml hown hts hlocks _ hW ls hl
  have hown : s.vm.findClass RX8 = some m.cls := hown
  have hl : lv_has ls 1 [(0, .int k)] := hl
  refine lv_iload_n hx hb dX8_isBlank_0 rfl (lv_at hl 0 rfl) ?_
  refine lv_bipush (v := 32) hx hb dX8_isBlank_1 (by decide) ?_
  refine lv_icmp_eq (tgt := 12) hx hb dX8_isBlank_3 (by decide) (fun c1 => ?_) (fun c1 => ?_)
  · have i1 := m_c5 (rfl : k.toInt = _) (by decide : (32 : Int32).toInt = 32) c1
    refine lv_iconst (v := 1) hx hb dX8_isBlank_12 (by decide) ?_
    refine lv_goto (tgt := 17) hx hb dX8_isBlank_13 (by decide) ?_
    exact m_iret hx hb hr hlocks hW (by decide) (⟨rfl, Or.inl ⟨rfl, by omega⟩⟩) dX8_isBlank_17
  · have i1 := m_c6 (rfl : k.toInt = _) (by decide : (32 : Int32).toInt = 32) c1
    refine lv_iload_n hx hb dX8_isBlank_6 rfl (lv_at hl 0 rfl) ?_
    refine lv_bipush (v := 10) hx hb dX8_isBlank_7 (by decide) ?_
    refine lv_icmp_ne (tgt := 16) hx hb dX8_isBlank_9 (by decide) (fun c2 => ?_) (fun c2 => ?_)
    · have i2 := m_c6 (rfl : k.toInt = _) (by decide : (10 : Int32).toInt = 10) c2
      refine lv_iconst (v := 0) hx hb dX8_isBlank_16 (by decide) ?_
      exact m_iret hx hb hr hlocks hW (by decide) (⟨rfl, Or.inr ⟨rfl, by omega⟩⟩) dX8_isBlank_17
    · have i2 := m_c5 (rfl : k.toInt = _) (by decide : (10 : Int32).toInt = 10) c2
      refine lv_iconst (v := 1) hx hb dX8_isBlank_12 (by decide) ?_
      refine lv_goto (tgt := 17) hx hb dX8_isBlank_13 (by decide) ?_
      exact m_iret hx hb hr hlocks hW (by decide) (⟨rfl, Or.inl ⟨rfl, by omega⟩⟩) dX8_isBlank_17
set_option maxHeartbeats 4000000 in
set_option maxRecDepth 100000 in
theorem g_X8_kindOfSign_f (l : Launch) (D : va_G) (cy : Nat → ClassId) (b : Nat) (k : Int32) (μ : mM) (hI : IX μ) : m_Ci l yX8_kindOfSign cX8_kindOfSign 1 ((some .int)) 0 D cy b LAY μ [.int k] (fun r ν => μ = ν ∧ (r.toInt = m_sk k.toInt)) := by
  unfold m_Ci
  refine m_of (by decide) (Nat.le_of_ble_eq_true rfl) ?_
  intro p e s m below meth c hx hb hr hml hown hts hlocks _ hW ls hl
  have hown : s.vm.findClass RX8 = some m.cls := hown
  have hl : lv_has ls 1 [(0, .int k)] := hl
  refine lv_iload_n hx hb dX8_kindOfSign_0 rfl (lv_at hl 0 rfl) ?_
  by_cases c1 : k.toInt < 43 ∨ 62 < k.toInt
  · refine lv_tableOut (tgt := 111) hx hb dX8_kindOfSign_1 c1 (by decide) ?_
    refine lv_iconst (v := 0) hx hb dX8_kindOfSign_111 (by decide) ?_
    exact m_iret hx hb hr hlocks hW rfl (⟨rfl, (by unfold m_sk; first | (rw [if_pos (by omega)]; rfl) | (rw [if_neg (by omega), if_pos (by omega)]; rfl) | (rw [if_neg (by omega), if_neg (by omega), if_pos (by omega)]; rfl) | (rw [if_neg (by omega), if_neg (by omega), if_neg (by omega), if_pos (by omega)]; rfl) | (rw [if_neg (by omega), if_neg (by omega), if_neg (by omega), if_neg (by omega), if_pos (by omega)]; rfl) | (rw [if_neg (by omega), if_neg (by omega), if_neg (by omega), if_neg (by omega), if_neg (by omega), if_pos (by omega)]; rfl) | (rw [if_neg (by omega), if_neg (by omega), if_neg (by omega), if_neg (by omega), if_neg (by omega), if_neg (by omega)]; rfl))⟩) dX8_kindOfSign_112
  · have q1 : k.toInt = 43 ∨ k.toInt = 44 ∨ k.toInt = 45 ∨ k.toInt = 46 ∨ k.toInt = 47 ∨ k.toInt = 48 ∨ k.toInt = 49 ∨ k.toInt = 50 ∨ k.toInt = 51 ∨ k.toInt = 52 ∨ k.toInt = 53 ∨ k.toInt = 54 ∨ k.toInt = 55 ∨ k.toInt = 56 ∨ k.toInt = 57 ∨ k.toInt = 58 ∨ k.toInt = 59 ∨ k.toInt = 60 ∨ k.toInt = 61 ∨ k.toInt = 62 := by omega
    rcases q1 with q1 | q1 | q1 | q1 | q1 | q1 | q1 | q1 | q1 | q1 | q1 | q1 | q1 | q1 | q1 | q1 | q1 | q1 | q1 | q1
    · refine lv_tableIn (off := 97) (tgt := 98) hx hb dX8_kindOfSign_1 (fun z => c1 (Or.inl z)) (fun z => c1 (Or.inr z)) (by rw [q1]; rfl) (by decide) ?_
      refine lv_iconst (v := 4) hx hb dX8_kindOfSign_98 (by decide) ?_
      exact m_iret hx hb hr hlocks hW rfl (⟨rfl, (by unfold m_sk; first | (rw [if_pos (by omega)]; rfl) | (rw [if_neg (by omega), if_pos (by omega)]; rfl) | (rw [if_neg (by omega), if_neg (by omega), if_pos (by omega)]; rfl) | (rw [if_neg (by omega), if_neg (by omega), if_neg (by omega), if_pos (by omega)]; rfl) | (rw [if_neg (by omega), if_neg (by omega), if_neg (by omega), if_neg (by omega), if_pos (by omega)]; rfl) | (rw [if_neg (by omega), if_neg (by omega), if_neg (by omega), if_neg (by omega), if_neg (by omega), if_pos (by omega)]; rfl) | (rw [if_neg (by omega), if_neg (by omega), if_neg (by omega), if_neg (by omega), if_neg (by omega), if_neg (by omega)]; rfl))⟩) dX8_kindOfSign_99
    · refine lv_tableIn (off := 110) (tgt := 111) hx hb dX8_kindOfSign_1 (fun z => c1 (Or.inl z)) (fun z => c1 (Or.inr z)) (by rw [q1]; rfl) (by decide) ?_
      refine lv_iconst (v := 0) hx hb dX8_kindOfSign_111 (by decide) ?_
      exact m_iret hx hb hr hlocks hW rfl (⟨rfl, (by unfold m_sk; first | (rw [if_pos (by omega)]; rfl) | (rw [if_neg (by omega), if_pos (by omega)]; rfl) | (rw [if_neg (by omega), if_neg (by omega), if_pos (by omega)]; rfl) | (rw [if_neg (by omega), if_neg (by omega), if_neg (by omega), if_pos (by omega)]; rfl) | (rw [if_neg (by omega), if_neg (by omega), if_neg (by omega), if_neg (by omega), if_pos (by omega)]; rfl) | (rw [if_neg (by omega), if_neg (by omega), if_neg (by omega), if_neg (by omega), if_neg (by omega), if_pos (by omega)]; rfl) | (rw [if_neg (by omega), if_neg (by omega), if_neg (by omega), if_neg (by omega), if_neg (by omega), if_neg (by omega)]; rfl))⟩) dX8_kindOfSign_112
    · refine lv_tableIn (off := 99) (tgt := 100) hx hb dX8_kindOfSign_1 (fun z => c1 (Or.inl z)) (fun z => c1 (Or.inr z)) (by rw [q1]; rfl) (by decide) ?_
      refine lv_iconst (v := 5) hx hb dX8_kindOfSign_100 (by decide) ?_
      exact m_iret hx hb hr hlocks hW rfl (⟨rfl, (by unfold m_sk; first | (rw [if_pos (by omega)]; rfl) | (rw [if_neg (by omega), if_pos (by omega)]; rfl) | (rw [if_neg (by omega), if_neg (by omega), if_pos (by omega)]; rfl) | (rw [if_neg (by omega), if_neg (by omega), if_neg (by omega), if_pos (by omega)]; rfl) | (rw [if_neg (by omega), if_neg (by omega), if_neg (by omega), if_neg (by omega), if_pos (by omega)]; rfl) | (rw [if_neg (by omega), if_neg (by omega), if_neg (by omega), if_neg (by omega), if_neg (by omega), if_pos (by omega)]; rfl) | (rw [if_neg (by omega), if_neg (by omega), if_neg (by omega), if_neg (by omega), if_neg (by omega), if_neg (by omega)]; rfl))⟩) dX8_kindOfSign_101
    · refine lv_tableIn (off := 110) (tgt := 111) hx hb dX8_kindOfSign_1 (fun z => c1 (Or.inl z)) (fun z => c1 (Or.inr z)) (by rw [q1]; rfl) (by decide) ?_
      refine lv_iconst (v := 0) hx hb dX8_kindOfSign_111 (by decide) ?_
      exact m_iret hx hb hr hlocks hW rfl (⟨rfl, (by unfold m_sk; first | (rw [if_pos (by omega)]; rfl) | (rw [if_neg (by omega), if_pos (by omega)]; rfl) | (rw [if_neg (by omega), if_neg (by omega), if_pos (by omega)]; rfl) | (rw [if_neg (by omega), if_neg (by omega), if_neg (by omega), if_pos (by omega)]; rfl) | (rw [if_neg (by omega), if_neg (by omega), if_neg (by omega), if_neg (by omega), if_pos (by omega)]; rfl) | (rw [if_neg (by omega), if_neg (by omega), if_neg (by omega), if_neg (by omega), if_neg (by omega), if_pos (by omega)]; rfl) | (rw [if_neg (by omega), if_neg (by omega), if_neg (by omega), if_neg (by omega), if_neg (by omega), if_neg (by omega)]; rfl))⟩) dX8_kindOfSign_112
    · refine lv_tableIn (off := 110) (tgt := 111) hx hb dX8_kindOfSign_1 (fun z => c1 (Or.inl z)) (fun z => c1 (Or.inr z)) (by rw [q1]; rfl) (by decide) ?_
      refine lv_iconst (v := 0) hx hb dX8_kindOfSign_111 (by decide) ?_
      exact m_iret hx hb hr hlocks hW rfl (⟨rfl, (by unfold m_sk; first | (rw [if_pos (by omega)]; rfl) | (rw [if_neg (by omega), if_pos (by omega)]; rfl) | (rw [if_neg (by omega), if_neg (by omega), if_pos (by omega)]; rfl) | (rw [if_neg (by omega), if_neg (by omega), if_neg (by omega), if_pos (by omega)]; rfl) | (rw [if_neg (by omega), if_neg (by omega), if_neg (by omega), if_neg (by omega), if_pos (by omega)]; rfl) | (rw [if_neg (by omega), if_neg (by omega), if_neg (by omega), if_neg (by omega), if_neg (by omega), if_pos (by omega)]; rfl) | (rw [if_neg (by omega), if_neg (by omega), if_neg (by omega), if_neg (by omega), if_neg (by omega), if_neg (by omega)]; rfl))⟩) dX8_kindOfSign_112
    · refine lv_tableIn (off := 110) (tgt := 111) hx hb dX8_kindOfSign_1 (fun z => c1 (Or.inl z)) (fun z => c1 (Or.inr z)) (by rw [q1]; rfl) (by decide) ?_
      refine lv_iconst (v := 0) hx hb dX8_kindOfSign_111 (by decide) ?_
      exact m_iret hx hb hr hlocks hW rfl (⟨rfl, (by unfold m_sk; first | (rw [if_pos (by omega)]; rfl) | (rw [if_neg (by omega), if_pos (by omega)]; rfl) | (rw [if_neg (by omega), if_neg (by omega), if_pos (by omega)]; rfl) | (rw [if_neg (by omega), if_neg (by omega), if_neg (by omega), if_pos (by omega)]; rfl) | (rw [if_neg (by omega), if_neg (by omega), if_neg (by omega), if_neg (by omega), if_pos (by omega)]; rfl) | (rw [if_neg (by omega), if_neg (by omega), if_neg (by omega), if_neg (by omega), if_neg (by omega), if_pos (by omega)]; rfl) | (rw [if_neg (by omega), if_neg (by omega), if_neg (by omega), if_neg (by omega), if_neg (by omega), if_neg (by omega)]; rfl))⟩) dX8_kindOfSign_112
    · refine lv_tableIn (off := 110) (tgt := 111) hx hb dX8_kindOfSign_1 (fun z => c1 (Or.inl z)) (fun z => c1 (Or.inr z)) (by rw [q1]; rfl) (by decide) ?_
      refine lv_iconst (v := 0) hx hb dX8_kindOfSign_111 (by decide) ?_
      exact m_iret hx hb hr hlocks hW rfl (⟨rfl, (by unfold m_sk; first | (rw [if_pos (by omega)]; rfl) | (rw [if_neg (by omega), if_pos (by omega)]; rfl) | (rw [if_neg (by omega), if_neg (by omega), if_pos (by omega)]; rfl) | (rw [if_neg (by omega), if_neg (by omega), if_neg (by omega), if_pos (by omega)]; rfl) | (rw [if_neg (by omega), if_neg (by omega), if_neg (by omega), if_neg (by omega), if_pos (by omega)]; rfl) | (rw [if_neg (by omega), if_neg (by omega), if_neg (by omega), if_neg (by omega), if_neg (by omega), if_pos (by omega)]; rfl) | (rw [if_neg (by omega), if_neg (by omega), if_neg (by omega), if_neg (by omega), if_neg (by omega), if_neg (by omega)]; rfl))⟩) dX8_kindOfSign_112
    · refine lv_tableIn (off := 110) (tgt := 111) hx hb dX8_kindOfSign_1 (fun z => c1 (Or.inl z)) (fun z => c1 (Or.inr z)) (by rw [q1]; rfl) (by decide) ?_
      refine lv_iconst (v := 0) hx hb dX8_kindOfSign_111 (by decide) ?_
      exact m_iret hx hb hr hlocks hW rfl (⟨rfl, (by unfold m_sk; first | (rw [if_pos (by omega)]; rfl) | (rw [if_neg (by omega), if_pos (by omega)]; rfl) | (rw [if_neg (by omega), if_neg (by omega), if_pos (by omega)]; rfl) | (rw [if_neg (by omega), if_neg (by omega), if_neg (by omega), if_pos (by omega)]; rfl) | (rw [if_neg (by omega), if_neg (by omega), if_neg (by omega), if_neg (by omega), if_pos (by omega)]; rfl) | (rw [if_neg (by omega), if_neg (by omega), if_neg (by omega), if_neg (by omega), if_neg (by omega), if_pos (by omega)]; rfl) | (rw [if_neg (by omega), if_neg (by omega), if_neg (by omega), if_neg (by omega), if_neg (by omega), if_neg (by omega)]; rfl))⟩) dX8_kindOfSign_112
    · refine lv_tableIn (off := 110) (tgt := 111) hx hb dX8_kindOfSign_1 (fun z => c1 (Or.inl z)) (fun z => c1 (Or.inr z)) (by rw [q1]; rfl) (by decide) ?_
      refine lv_iconst (v := 0) hx hb dX8_kindOfSign_111 (by decide) ?_
      exact m_iret hx hb hr hlocks hW rfl (⟨rfl, (by unfold m_sk; first | (rw [if_pos (by omega)]; rfl) | (rw [if_neg (by omega), if_pos (by omega)]; rfl) | (rw [if_neg (by omega), if_neg (by omega), if_pos (by omega)]; rfl) | (rw [if_neg (by omega), if_neg (by omega), if_neg (by omega), if_pos (by omega)]; rfl) | (rw [if_neg (by omega), if_neg (by omega), if_neg (by omega), if_neg (by omega), if_pos (by omega)]; rfl) | (rw [if_neg (by omega), if_neg (by omega), if_neg (by omega), if_neg (by omega), if_neg (by omega), if_pos (by omega)]; rfl) | (rw [if_neg (by omega), if_neg (by omega), if_neg (by omega), if_neg (by omega), if_neg (by omega), if_neg (by omega)]; rfl))⟩) dX8_kindOfSign_112
    · refine lv_tableIn (off := 110) (tgt := 111) hx hb dX8_kindOfSign_1 (fun z => c1 (Or.inl z)) (fun z => c1 (Or.inr z)) (by rw [q1]; rfl) (by decide) ?_
      refine lv_iconst (v := 0) hx hb dX8_kindOfSign_111 (by decide) ?_
      exact m_iret hx hb hr hlocks hW rfl (⟨rfl, (by unfold m_sk; first | (rw [if_pos (by omega)]; rfl) | (rw [if_neg (by omega), if_pos (by omega)]; rfl) | (rw [if_neg (by omega), if_neg (by omega), if_pos (by omega)]; rfl) | (rw [if_neg (by omega), if_neg (by omega), if_neg (by omega), if_pos (by omega)]; rfl) | (rw [if_neg (by omega), if_neg (by omega), if_neg (by omega), if_neg (by omega), if_pos (by omega)]; rfl) | (rw [if_neg (by omega), if_neg (by omega), if_neg (by omega), if_neg (by omega), if_neg (by omega), if_pos (by omega)]; rfl) | (rw [if_neg (by omega), if_neg (by omega), if_neg (by omega), if_neg (by omega), if_neg (by omega), if_neg (by omega)]; rfl))⟩) dX8_kindOfSign_112
    · refine lv_tableIn (off := 110) (tgt := 111) hx hb dX8_kindOfSign_1 (fun z => c1 (Or.inl z)) (fun z => c1 (Or.inr z)) (by rw [q1]; rfl) (by decide) ?_
      refine lv_iconst (v := 0) hx hb dX8_kindOfSign_111 (by decide) ?_
      exact m_iret hx hb hr hlocks hW rfl (⟨rfl, (by unfold m_sk; first | (rw [if_pos (by omega)]; rfl) | (rw [if_neg (by omega), if_pos (by omega)]; rfl) | (rw [if_neg (by omega), if_neg (by omega), if_pos (by omega)]; rfl) | (rw [if_neg (by omega), if_neg (by omega), if_neg (by omega), if_pos (by omega)]; rfl) | (rw [if_neg (by omega), if_neg (by omega), if_neg (by omega), if_neg (by omega), if_pos (by omega)]; rfl) | (rw [if_neg (by omega), if_neg (by omega), if_neg (by omega), if_neg (by omega), if_neg (by omega), if_pos (by omega)]; rfl) | (rw [if_neg (by omega), if_neg (by omega), if_neg (by omega), if_neg (by omega), if_neg (by omega), if_neg (by omega)]; rfl))⟩) dX8_kindOfSign_112
    · refine lv_tableIn (off := 110) (tgt := 111) hx hb dX8_kindOfSign_1 (fun z => c1 (Or.inl z)) (fun z => c1 (Or.inr z)) (by rw [q1]; rfl) (by decide) ?_
      refine lv_iconst (v := 0) hx hb dX8_kindOfSign_111 (by decide) ?_
      exact m_iret hx hb hr hlocks hW rfl (⟨rfl, (by unfold m_sk; first | (rw [if_pos (by omega)]; rfl) | (rw [if_neg (by omega), if_pos (by omega)]; rfl) | (rw [if_neg (by omega), if_neg (by omega), if_pos (by omega)]; rfl) | (rw [if_neg (by omega), if_neg (by omega), if_neg (by omega), if_pos (by omega)]; rfl) | (rw [if_neg (by omega), if_neg (by omega), if_neg (by omega), if_neg (by omega), if_pos (by omega)]; rfl) | (rw [if_neg (by omega), if_neg (by omega), if_neg (by omega), if_neg (by omega), if_neg (by omega), if_pos (by omega)]; rfl) | (rw [if_neg (by omega), if_neg (by omega), if_neg (by omega), if_neg (by omega), if_neg (by omega), if_neg (by omega)]; rfl))⟩) dX8_kindOfSign_112
    · refine lv_tableIn (off := 110) (tgt := 111) hx hb dX8_kindOfSign_1 (fun z => c1 (Or.inl z)) (fun z => c1 (Or.inr z)) (by rw [q1]; rfl) (by decide) ?_
      refine lv_iconst (v := 0) hx hb dX8_kindOfSign_111 (by decide) ?_
      exact m_iret hx hb hr hlocks hW rfl (⟨rfl, (by unfold m_sk; first | (rw [if_pos (by omega)]; rfl) | (rw [if_neg (by omega), if_pos (by omega)]; rfl) | (rw [if_neg (by omega), if_neg (by omega), if_pos (by omega)]; rfl) | (rw [if_neg (by omega), if_neg (by omega), if_neg (by omega), if_pos (by omega)]; rfl) | (rw [if_neg (by omega), if_neg (by omega), if_neg (by omega), if_neg (by omega), if_pos (by omega)]; rfl) | (rw [if_neg (by omega), if_neg (by omega), if_neg (by omega), if_neg (by omega), if_neg (by omega), if_pos (by omega)]; rfl) | (rw [if_neg (by omega), if_neg (by omega), if_neg (by omega), if_neg (by omega), if_neg (by omega), if_neg (by omega)]; rfl))⟩) dX8_kindOfSign_112
    · refine lv_tableIn (off := 110) (tgt := 111) hx hb dX8_kindOfSign_1 (fun z => c1 (Or.inl z)) (fun z => c1 (Or.inr z)) (by rw [q1]; rfl) (by decide) ?_
      refine lv_iconst (v := 0) hx hb dX8_kindOfSign_111 (by decide) ?_
      exact m_iret hx hb hr hlocks hW rfl (⟨rfl, (by unfold m_sk; first | (rw [if_pos (by omega)]; rfl) | (rw [if_neg (by omega), if_pos (by omega)]; rfl) | (rw [if_neg (by omega), if_neg (by omega), if_pos (by omega)]; rfl) | (rw [if_neg (by omega), if_neg (by omega), if_neg (by omega), if_pos (by omega)]; rfl) | (rw [if_neg (by omega), if_neg (by omega), if_neg (by omega), if_neg (by omega), if_pos (by omega)]; rfl) | (rw [if_neg (by omega), if_neg (by omega), if_neg (by omega), if_neg (by omega), if_neg (by omega), if_pos (by omega)]; rfl) | (rw [if_neg (by omega), if_neg (by omega), if_neg (by omega), if_neg (by omega), if_neg (by omega), if_neg (by omega)]; rfl))⟩) dX8_kindOfSign_112
    · refine lv_tableIn (off := 110) (tgt := 111) hx hb dX8_kindOfSign_1 (fun z => c1 (Or.inl z)) (fun z => c1 (Or.inr z)) (by rw [q1]; rfl) (by decide) ?_
      refine lv_iconst (v := 0) hx hb dX8_kindOfSign_111 (by decide) ?_
      exact m_iret hx hb hr hlocks hW rfl (⟨rfl, (by unfold m_sk; first | (rw [if_pos (by omega)]; rfl) | (rw [if_neg (by omega), if_pos (by omega)]; rfl) | (rw [if_neg (by omega), if_neg (by omega), if_pos (by omega)]; rfl) | (rw [if_neg (by omega), if_neg (by omega), if_neg (by omega), if_pos (by omega)]; rfl) | (rw [if_neg (by omega), if_neg (by omega), if_neg (by omega), if_neg (by omega), if_pos (by omega)]; rfl) | (rw [if_neg (by omega), if_neg (by omega), if_neg (by omega), if_neg (by omega), if_neg (by omega), if_pos (by omega)]; rfl) | (rw [if_neg (by omega), if_neg (by omega), if_neg (by omega), if_neg (by omega), if_neg (by omega), if_neg (by omega)]; rfl))⟩) dX8_kindOfSign_112
    · refine lv_tableIn (off := 110) (tgt := 111) hx hb dX8_kindOfSign_1 (fun z => c1 (Or.inl z)) (fun z => c1 (Or.inr z)) (by rw [q1]; rfl) (by decide) ?_
      refine lv_iconst (v := 0) hx hb dX8_kindOfSign_111 (by decide) ?_
      exact m_iret hx hb hr hlocks hW rfl (⟨rfl, (by unfold m_sk; first | (rw [if_pos (by omega)]; rfl) | (rw [if_neg (by omega), if_pos (by omega)]; rfl) | (rw [if_neg (by omega), if_neg (by omega), if_pos (by omega)]; rfl) | (rw [if_neg (by omega), if_neg (by omega), if_neg (by omega), if_pos (by omega)]; rfl) | (rw [if_neg (by omega), if_neg (by omega), if_neg (by omega), if_neg (by omega), if_pos (by omega)]; rfl) | (rw [if_neg (by omega), if_neg (by omega), if_neg (by omega), if_neg (by omega), if_neg (by omega), if_pos (by omega)]; rfl) | (rw [if_neg (by omega), if_neg (by omega), if_neg (by omega), if_neg (by omega), if_neg (by omega), if_neg (by omega)]; rfl))⟩) dX8_kindOfSign_112
    · refine lv_tableIn (off := 95) (tgt := 96) hx hb dX8_kindOfSign_1 (fun z => c1 (Or.inl z)) (fun z => c1 (Or.inr z)) (by rw [q1]; rfl) (by decide) ?_
      refine lv_iconst (v := 3) hx hb dX8_kindOfSign_96 (by decide) ?_
      exact m_iret hx hb hr hlocks hW rfl (⟨rfl, (by unfold m_sk; first | (rw [if_pos (by omega)]; rfl) | (rw [if_neg (by omega), if_pos (by omega)]; rfl) | (rw [if_neg (by omega), if_neg (by omega), if_pos (by omega)]; rfl) | (rw [if_neg (by omega), if_neg (by omega), if_neg (by omega), if_pos (by omega)]; rfl) | (rw [if_neg (by omega), if_neg (by omega), if_neg (by omega), if_neg (by omega), if_pos (by omega)]; rfl) | (rw [if_neg (by omega), if_neg (by omega), if_neg (by omega), if_neg (by omega), if_neg (by omega), if_pos (by omega)]; rfl) | (rw [if_neg (by omega), if_neg (by omega), if_neg (by omega), if_neg (by omega), if_neg (by omega), if_neg (by omega)]; rfl))⟩) dX8_kindOfSign_97
    · refine lv_tableIn (off := 101) (tgt := 102) hx hb dX8_kindOfSign_1 (fun z => c1 (Or.inl z)) (fun z => c1 (Or.inr z)) (by rw [q1]; rfl) (by decide) ?_
      refine lv_bipush (v := 6) hx hb dX8_kindOfSign_102 (by decide) ?_
      exact m_iret hx hb hr hlocks hW rfl (⟨rfl, (by unfold m_sk; first | (rw [if_pos (by omega)]; rfl) | (rw [if_neg (by omega), if_pos (by omega)]; rfl) | (rw [if_neg (by omega), if_neg (by omega), if_pos (by omega)]; rfl) | (rw [if_neg (by omega), if_neg (by omega), if_neg (by omega), if_pos (by omega)]; rfl) | (rw [if_neg (by omega), if_neg (by omega), if_neg (by omega), if_neg (by omega), if_pos (by omega)]; rfl) | (rw [if_neg (by omega), if_neg (by omega), if_neg (by omega), if_neg (by omega), if_neg (by omega), if_pos (by omega)]; rfl) | (rw [if_neg (by omega), if_neg (by omega), if_neg (by omega), if_neg (by omega), if_neg (by omega), if_neg (by omega)]; rfl))⟩) dX8_kindOfSign_104
    · refine lv_tableIn (off := 104) (tgt := 105) hx hb dX8_kindOfSign_1 (fun z => c1 (Or.inl z)) (fun z => c1 (Or.inr z)) (by rw [q1]; rfl) (by decide) ?_
      refine lv_bipush (v := 7) hx hb dX8_kindOfSign_105 (by decide) ?_
      exact m_iret hx hb hr hlocks hW rfl (⟨rfl, (by unfold m_sk; first | (rw [if_pos (by omega)]; rfl) | (rw [if_neg (by omega), if_pos (by omega)]; rfl) | (rw [if_neg (by omega), if_neg (by omega), if_pos (by omega)]; rfl) | (rw [if_neg (by omega), if_neg (by omega), if_neg (by omega), if_pos (by omega)]; rfl) | (rw [if_neg (by omega), if_neg (by omega), if_neg (by omega), if_neg (by omega), if_pos (by omega)]; rfl) | (rw [if_neg (by omega), if_neg (by omega), if_neg (by omega), if_neg (by omega), if_neg (by omega), if_pos (by omega)]; rfl) | (rw [if_neg (by omega), if_neg (by omega), if_neg (by omega), if_neg (by omega), if_neg (by omega), if_neg (by omega)]; rfl))⟩) dX8_kindOfSign_107
    · refine lv_tableIn (off := 107) (tgt := 108) hx hb dX8_kindOfSign_1 (fun z => c1 (Or.inl z)) (fun z => c1 (Or.inr z)) (by rw [q1]; rfl) (by decide) ?_
      refine lv_bipush (v := 8) hx hb dX8_kindOfSign_108 (by decide) ?_
      exact m_iret hx hb hr hlocks hW rfl (⟨rfl, (by unfold m_sk; first | (rw [if_pos (by omega)]; rfl) | (rw [if_neg (by omega), if_pos (by omega)]; rfl) | (rw [if_neg (by omega), if_neg (by omega), if_pos (by omega)]; rfl) | (rw [if_neg (by omega), if_neg (by omega), if_neg (by omega), if_pos (by omega)]; rfl) | (rw [if_neg (by omega), if_neg (by omega), if_neg (by omega), if_neg (by omega), if_pos (by omega)]; rfl) | (rw [if_neg (by omega), if_neg (by omega), if_neg (by omega), if_neg (by omega), if_neg (by omega), if_pos (by omega)]; rfl) | (rw [if_neg (by omega), if_neg (by omega), if_neg (by omega), if_neg (by omega), if_neg (by omega), if_neg (by omega)]; rfl))⟩) dX8_kindOfSign_110
set_option maxHeartbeats 4000000 in
set_option maxRecDepth 100000 in
theorem g_X5_add_k (l : Launch) (D : va_G) (cy : Nat → ClassId) (b : Nat) (S : Nat → Bool) (μ0 : mM) (hS11 : S 11 = true) (t : Int32) (h_t : 0 ≤ t.toInt ∧ t.toInt ≤ 400) (v : Int32) (μ : mM) (hI : IY S μ0 μ) (ht : μ.1 31 1 = t) : m_Cv l yX5_add cX5_add 2 (none) 0 D cy b LAY μ [.ref (b + 31), .int v] (fun ν => IY S μ0 ν ∧ ((ν.1 31 1).toInt = t.toInt + 1 ∧ ν.1 32 = m_up (μ.1 32) t.toNatClampNeg v)) := by
  unfold m_Cv
  refine m_of (by decide) (Nat.le_of_ble_eq_true rfl) ?_
  intro p e s m below meth c hx hb hr hml hown hts hlocks _ hW ls hl
  have hown : s.vm.findClass RX5 = some m.cls := hown
  have hl : lv_has ls 2 [(0, .ref (b + 31)), (1, .int v)] := hl
  refine lv_aload_n hx hb dX5_add_0 rfl (lv_at hl 0 rfl) ?_
  refine m_geti hx hb hts hown hW (31) 1 rfl rfl cw_5 rfl (by decide) k_X5_9 dX5_add_1 ?_
  refine lv_topi (fun x1 ex1 => ?_)
  have ex1 : x1 = t := by rw [ex1]; exact ht
  have ex1 := ex1.symm
  subst ex1
  refine lv_aload_n hx hb dX5_add_4 rfl (lv_at hl 0 rfl) ?_
  refine m_getr hx hb hts hown hW (31) 0 (32) rfl rfl cw_5 rfl (by decide) k_X5_21 dX5_add_5 ?_
  refine m_alen hx hb hW (32) rfl dX5_add_8 ?_
  refine lv_topi (fun x2 ex2 => ?_)
  have ex2 : x2 = 401 := by rw [ex2]; rfl
  have ex2 := ex2.symm
  subst ex2
  refine lv_icmp_ge (tgt := 32) hx hb dX5_add_9 (by decide) (fun c3 => ?_) (fun c3 => ?_)
  · have i3 := m_c3 (by decide : (401 : Int32).toInt = 401) (rfl : t.toInt = _) c3
    exfalso; omega
  · have i3 := m_c4 (by decide : (401 : Int32).toInt = 401) (rfl : t.toInt = _) c3
    refine lv_aload_n hx hb dX5_add_12 rfl (lv_at hl 0 rfl) ?_
    refine m_getr hx hb hts hown hW (31) 0 (32) rfl rfl cw_5 rfl (by decide) k_X5_21 dX5_add_13 ?_
    refine lv_aload_n hx hb dX5_add_16 rfl (lv_at hl 0 rfl) ?_
    refine m_geti hx hb hts hown hW (31) 1 rfl rfl cw_5 rfl (by decide) k_X5_9 dX5_add_17 ?_
    refine lv_topi (fun x4 ex4 => ?_)
    have ex4 : x4 = t := by rw [ex4]; exact ht
    have ex4 := ex4.symm
    subst ex4
    refine lv_iload_n hx hb dX5_add_20 rfl (lv_at hl 1 rfl) ?_
    refine m_iast hx hb hW (32) rfl (m_ixI (rfl : t.toInt = _) (by omega) (by omega)) dX5_add_21 (fun H locs hW _ => ?_)
    generalize hμ5 : m_si μ (32) (t : Int32).toNatClampNeg v = μ5 at hW
    have hI := hI.si0 hμ5 rfl hS11
    refine lv_aload_n hx hb dX5_add_22 rfl (lv_at hl 0 rfl) ?_
    refine lv_dup hx hb dX5_add_23 rfl ?_
    refine m_geti hx hb hts hown hW (31) 1 rfl rfl cw_5 rfl (by decide) k_X5_9 dX5_add_24 ?_
    refine lv_topi (fun x6 ex6 => ?_)
    have ex6 : x6 = t := by rw [ex6, ← hμ5]; exact ht
    have ex6 := ex6.symm
    subst ex6
    refine lv_iconst (v := 1) hx hb dX5_add_27 (by decide) ?_
    refine lv_iadd hx hb dX5_add_28 ?_
    refine lv_topi (fun x7 ex7 => ?_)
    have tx7 : x7.toInt = t.toInt + 1 := m_addI ex7 (rfl : t.toInt = _) (by decide : (1 : Int32).toInt = 1) (by omega) (by omega)
    refine m_puti hx hb hts hown hW (31) 1 rfl rfl cw_5 tyX5_ok nmX5 rfl (by decide) k_X5_9 rfl rfl rfl dX5_add_29 (fun H locs hW _ => ?_)
    generalize hμ8 : m_si μ5 (31) 1 x7 = μ8 at hW
    have hI := hI.si1 hμ8 rfl (by omega) hS11
    exact m_vret hx hb hr hlocks hW (⟨hI, ⟨by rw [show μ8.1 31 1 = x7 from by rw [← hμ8]; first | rfl | exact if_pos ⟨rfl, rfl⟩]; omega, by rw [show μ8.1 32 = μ5.1 32 from by rw [← hμ8]; exact m_si_row (by decide), show μ5.1 32 = m_up (μ.1 32) (t : Int32).toNatClampNeg v from by rw [← hμ5]; exact m_si_up]⟩⟩) dX5_add_32
set_option maxHeartbeats 4000000 in
set_option maxRecDepth 100000 in
theorem g_X5_add_l (l : Launch) (D : va_G) (cy : Nat → ClassId) (b : Nat) (S : Nat → Bool) (μ0 : mM) (hS15 : S 15 = true) (t : Int32) (h_t : 0 ≤ t.toInt ∧ t.toInt ≤ 400) (v : Int32) (μ : mM) (hI : IY S μ0 μ) (ht : μ.1 33 1 = t) : m_Cv l yX5_add cX5_add 2 (none) 0 D cy b LAY μ [.ref (b + 33), .int v] (fun ν => IY S μ0 ν ∧ ((ν.1 33 1).toInt = t.toInt + 1 ∧ ν.1 34 = m_up (μ.1 34) t.toNatClampNeg v)) := by
  unfold m_Cv
  refine m_of (by decide) (Nat.le_of_ble_eq_true rfl) ?_
  intro p e s m below meth c hx hb hr hml hown hts hlocks _ hW ls hl
  have hown : s.vm.findClass RX5 = some m.cls := hown
  have hl : lv_has ls 2 [(0, .ref (b + 33)), (1, .int v)] := hl
  refine lv_aload_n hx hb dX5_add_0 rfl (lv_at hl 0 rfl) ?_
  refine m_geti hx hb hts hown hW (33) 1 rfl rfl cw_5 rfl (by decide) k_X5_9 dX5_add_1 ?_
  refine lv_topi (fun x1 ex1 => ?_)
  have ex1 : x1 = t := by rw [ex1]; exact ht
  have ex1 := ex1.symm
  subst ex1
  refine lv_aload_n hx hb dX5_add_4 rfl (lv_at hl 0 rfl) ?_
  refine m_getr hx hb hts hown hW (33) 0 (34) rfl rfl cw_5 rfl (by decide) k_X5_21 dX5_add_5 ?_
  refine m_alen hx hb hW (34) rfl dX5_add_8 ?_
  refine lv_topi (fun x2 ex2 => ?_)
  have ex2 : x2 = 401 := by rw [ex2]; rfl
  have ex2 := ex2.symm
  subst ex2
  refine lv_icmp_ge (tgt := 32) hx hb dX5_add_9 (by decide) (fun c3 => ?_) (fun c3 => ?_)
  · have i3 := m_c3 (by decide : (401 : Int32).toInt = 401) (rfl : t.toInt = _) c3
    exfalso; omega
  · have i3 := m_c4 (by decide : (401 : Int32).toInt = 401) (rfl : t.toInt = _) c3
    refine lv_aload_n hx hb dX5_add_12 rfl (lv_at hl 0 rfl) ?_
    refine m_getr hx hb hts hown hW (33) 0 (34) rfl rfl cw_5 rfl (by decide) k_X5_21 dX5_add_13 ?_
    refine lv_aload_n hx hb dX5_add_16 rfl (lv_at hl 0 rfl) ?_
    refine m_geti hx hb hts hown hW (33) 1 rfl rfl cw_5 rfl (by decide) k_X5_9 dX5_add_17 ?_
    refine lv_topi (fun x4 ex4 => ?_)
    have ex4 : x4 = t := by rw [ex4]; exact ht
    have ex4 := ex4.symm
    subst ex4
    refine lv_iload_n hx hb dX5_add_20 rfl (lv_at hl 1 rfl) ?_
    refine m_iast hx hb hW (34) rfl (m_ixI (rfl : t.toInt = _) (by omega) (by omega)) dX5_add_21 (fun H locs hW _ => ?_)
    generalize hμ5 : m_si μ (34) (t : Int32).toNatClampNeg v = μ5 at hW
    have hI := hI.si0 hμ5 rfl hS15
    refine lv_aload_n hx hb dX5_add_22 rfl (lv_at hl 0 rfl) ?_
    refine lv_dup hx hb dX5_add_23 rfl ?_
    refine m_geti hx hb hts hown hW (33) 1 rfl rfl cw_5 rfl (by decide) k_X5_9 dX5_add_24 ?_
    refine lv_topi (fun x6 ex6 => ?_)
    have ex6 : x6 = t := by rw [ex6, ← hμ5]; exact ht
    have ex6 := ex6.symm
    subst ex6
    refine lv_iconst (v := 1) hx hb dX5_add_27 (by decide) ?_
    refine lv_iadd hx hb dX5_add_28 ?_
    refine lv_topi (fun x7 ex7 => ?_)
    have tx7 : x7.toInt = t.toInt + 1 := m_addI ex7 (rfl : t.toInt = _) (by decide : (1 : Int32).toInt = 1) (by omega) (by omega)
    refine m_puti hx hb hts hown hW (33) 1 rfl rfl cw_5 tyX5_ok nmX5 rfl (by decide) k_X5_9 rfl rfl rfl dX5_add_29 (fun H locs hW _ => ?_)
    generalize hμ8 : m_si μ5 (33) 1 x7 = μ8 at hW
    have hI := hI.si1 hμ8 rfl (by omega) hS15
    exact m_vret hx hb hr hlocks hW (⟨hI, ⟨by rw [show μ8.1 33 1 = x7 from by rw [← hμ8]; first | rfl | exact if_pos ⟨rfl, rfl⟩]; omega, by rw [show μ8.1 34 = μ5.1 34 from by rw [← hμ8]; exact m_si_row (by decide), show μ5.1 34 = m_up (μ.1 34) (t : Int32).toNatClampNeg v from by rw [← hμ5]; exact m_si_up]⟩⟩) dX5_add_32
set_option maxHeartbeats 4000000 in
set_option maxRecDepth 100000 in
theorem g_X5_add_v (l : Launch) (D : va_G) (cy : Nat → ClassId) (b : Nat) (S : Nat → Bool) (μ0 : mM) (hS16 : S 16 = true) (t : Int32) (h_t : 0 ≤ t.toInt ∧ t.toInt ≤ 400) (v : Int32) (μ : mM) (hI : IY S μ0 μ) (ht : μ.1 35 1 = t) : m_Cv l yX5_add cX5_add 2 (none) 0 D cy b LAY μ [.ref (b + 35), .int v] (fun ν => IY S μ0 ν ∧ ((ν.1 35 1).toInt = t.toInt + 1 ∧ ν.1 36 = m_up (μ.1 36) t.toNatClampNeg v)) := by
  unfold m_Cv
  refine m_of (by decide) (Nat.le_of_ble_eq_true rfl) ?_
  intro p e s m below meth c hx hb hr hml hown hts hlocks _ hW ls hl
  have hown : s.vm.findClass RX5 = some m.cls := hown
  have hl : lv_has ls 2 [(0, .ref (b + 35)), (1, .int v)] := hl
  refine lv_aload_n hx hb dX5_add_0 rfl (lv_at hl 0 rfl) ?_
  refine m_geti hx hb hts hown hW (35) 1 rfl rfl cw_5 rfl (by decide) k_X5_9 dX5_add_1 ?_
  refine lv_topi (fun x1 ex1 => ?_)
  have ex1 : x1 = t := by rw [ex1]; exact ht
  have ex1 := ex1.symm
  subst ex1
  refine lv_aload_n hx hb dX5_add_4 rfl (lv_at hl 0 rfl) ?_
  refine m_getr hx hb hts hown hW (35) 0 (36) rfl rfl cw_5 rfl (by decide) k_X5_21 dX5_add_5 ?_
  refine m_alen hx hb hW (36) rfl dX5_add_8 ?_
  refine lv_topi (fun x2 ex2 => ?_)
  have ex2 : x2 = 401 := by rw [ex2]; rfl
  have ex2 := ex2.symm
  subst ex2
  refine lv_icmp_ge (tgt := 32) hx hb dX5_add_9 (by decide) (fun c3 => ?_) (fun c3 => ?_)
  · have i3 := m_c3 (by decide : (401 : Int32).toInt = 401) (rfl : t.toInt = _) c3
    exfalso; omega
  · have i3 := m_c4 (by decide : (401 : Int32).toInt = 401) (rfl : t.toInt = _) c3
    refine lv_aload_n hx hb dX5_add_12 rfl (lv_at hl 0 rfl) ?_
    refine m_getr hx hb hts hown hW (35) 0 (36) rfl rfl cw_5 rfl (by decide) k_X5_21 dX5_add_13 ?_
    refine lv_aload_n hx hb dX5_add_16 rfl (lv_at hl 0 rfl) ?_
    refine m_geti hx hb hts hown hW (35) 1 rfl rfl cw_5 rfl (by decide) k_X5_9 dX5_add_17 ?_
    refine lv_topi (fun x4 ex4 => ?_)
    have ex4 : x4 = t := by rw [ex4]; exact ht
    have ex4 := ex4.symm
    subst ex4
    refine lv_iload_n hx hb dX5_add_20 rfl (lv_at hl 1 rfl) ?_
    refine m_iast hx hb hW (36) rfl (m_ixI (rfl : t.toInt = _) (by omega) (by omega)) dX5_add_21 (fun H locs hW _ => ?_)
    generalize hμ5 : m_si μ (36) (t : Int32).toNatClampNeg v = μ5 at hW
    have hI := hI.si0 hμ5 rfl hS16
    refine lv_aload_n hx hb dX5_add_22 rfl (lv_at hl 0 rfl) ?_
    refine lv_dup hx hb dX5_add_23 rfl ?_
    refine m_geti hx hb hts hown hW (35) 1 rfl rfl cw_5 rfl (by decide) k_X5_9 dX5_add_24 ?_
    refine lv_topi (fun x6 ex6 => ?_)
    have ex6 : x6 = t := by rw [ex6, ← hμ5]; exact ht
    have ex6 := ex6.symm
    subst ex6
    refine lv_iconst (v := 1) hx hb dX5_add_27 (by decide) ?_
    refine lv_iadd hx hb dX5_add_28 ?_
    refine lv_topi (fun x7 ex7 => ?_)
    have tx7 : x7.toInt = t.toInt + 1 := m_addI ex7 (rfl : t.toInt = _) (by decide : (1 : Int32).toInt = 1) (by omega) (by omega)
    refine m_puti hx hb hts hown hW (35) 1 rfl rfl cw_5 tyX5_ok nmX5 rfl (by decide) k_X5_9 rfl rfl rfl dX5_add_29 (fun H locs hW _ => ?_)
    generalize hμ8 : m_si μ5 (35) 1 x7 = μ8 at hW
    have hI := hI.si1 hμ8 rfl (by omega) hS16
    exact m_vret hx hb hr hlocks hW (⟨hI, ⟨by rw [show μ8.1 35 1 = x7 from by rw [← hμ8]; first | rfl | exact if_pos ⟨rfl, rfl⟩]; omega, by rw [show μ8.1 36 = μ5.1 36 from by rw [← hμ8]; exact m_si_row (by decide), show μ5.1 36 = m_up (μ.1 36) (t : Int32).toNatClampNeg v from by rw [← hμ5]; exact m_si_up]⟩⟩) dX5_add_32
set_option maxHeartbeats 4000000 in
set_option maxRecDepth 100000 in
theorem g_X8_keep_f (l : Launch) (D : va_G) (cy : Nat → ClassId) (b : Nat) (S : Nat → Bool) (μ0 : mM) (hS11 : S 11 = true) (hS15 : S 15 = true) (hS16 : S 16 = true) (cn : Int32) (h_c : 0 ≤ cn.toInt ∧ cn.toInt ≤ 400) (k u v : Int32) (μ : mM) (hI : IY S μ0 μ) (h31 : μ.1 31 1 = cn) (h33 : μ.1 33 1 = cn) (h35 : μ.1 35 1 = cn) : m_Cv l yX8_keep cX8_keep 4 (none) 1 D cy b LAY μ [.ref (b + 30), .int k, .int u, .int v] (fun ν => IY S μ0 ν ∧ ((ν.1 31 1).toInt = cn.toInt + 1 ∧ ν.1 33 1 = ν.1 31 1 ∧ ν.1 35 1 = ν.1 31 1 ∧ ν.1 32 = m_up (μ.1 32) cn.toNatClampNeg k ∧ ν.1 34 = m_up (μ.1 34) cn.toNatClampNeg u ∧ ν.1 36 = m_up (μ.1 36) cn.toNatClampNeg v)) := by
  unfold m_Cv
  refine m_of (by decide) (Nat.le_of_ble_eq_true rfl) ?_
  intro p e s m below meth c hx hb hr hml hown hts hlocks _ hW ls hl
  have hown : s.vm.findClass RX8 = some m.cls := hown
  have hl : lv_has ls 4 [(0, .ref (b + 30)), (1, .int k), (2, .int u), (3, .int v)] := hl
  refine lv_aload_n hx hb dX8_keep_0 rfl (lv_at hl 0 rfl) ?_
  refine m_getr hx hb hts hown hW (30) 0 (31) rfl rfl cw_8 rfl (by decide) k_X8_14 dX8_keep_1 ?_
  refine lv_iload_n hx hb dX8_keep_4 rfl (lv_at hl 1 rfl) ?_
  refine m_aV hW (m_runV (As := [.int k]) (rest := []) hx hb hml hown hts hW (31) (g_X5_add_k l D cy b (fun g => [11].contains g) μ rfl cn (by omega) k μ (IY.rf hI.1) (by exact h31)) mi_X5_add k_X8_59 rfl rfl rfl hl.1 rfl (Nat.le_of_ble_eq_true rfl) dX8_keep_5 ⟨Nat.le_of_ble_eq_true rfl, Nat.le_of_ble_eq_true rfl⟩ ⟨Nat.le_of_ble_eq_true rfl, Nat.le_of_ble_eq_true rfl⟩) (fun μ1 H locs q1 hW => ?_)
  obtain ⟨hJ1, q1⟩ := q1
  have hI := hI.tr hJ1 (m_subL (by simp [hS11]))
  obtain ⟨q1, q1r⟩ := q1
  obtain ⟨x2, hx2⟩ : ∃ z, μ1.1 31 1 = z := ⟨_, rfl⟩
  have bx2 : 0 ≤ x2.toInt ∧ x2.toInt ≤ 401 := by rw [← hx2]; exact hI.1 _ _ _ _ rfl
  rw [show μ1.1 31 1 = x2 from by exact hx2] at q1
  refine lv_aload_n hx hb dX8_keep_8 rfl (lv_at hl 0 rfl) ?_
  refine m_getr hx hb hts hown hW (30) 1 (33) rfl rfl cw_8 rfl (by decide) k_X8_20 dX8_keep_9 ?_
  refine lv_iload_n hx hb dX8_keep_12 rfl (lv_at hl 2 rfl) ?_
  refine m_aV hW (m_runV (As := [.int u]) (rest := []) hx hb hml hown hts hW (33) (g_X5_add_l l D cy b (fun g => [15].contains g) μ1 rfl cn (by omega) u μ1 (IY.rf hI.1) (by exact ((hJ1.2.1 33 1 rfl).trans (by exact h33)))) mi_X5_add k_X8_59 rfl rfl rfl hl.1 rfl (Nat.le_of_ble_eq_true rfl) dX8_keep_13 ⟨Nat.le_of_ble_eq_true rfl, Nat.le_of_ble_eq_true rfl⟩ ⟨Nat.le_of_ble_eq_true rfl, Nat.le_of_ble_eq_true rfl⟩) (fun μ3 H locs q3 hW => ?_)
  obtain ⟨hJ3, q3⟩ := q3
  have hI := hI.tr hJ3 (m_subL (by simp [hS15]))
  obtain ⟨q3, q3r⟩ := q3
  obtain ⟨x4, hx4⟩ : ∃ z, μ3.1 33 1 = z := ⟨_, rfl⟩
  have bx4 : 0 ≤ x4.toInt ∧ x4.toInt ≤ 401 := by rw [← hx4]; exact hI.1 _ _ _ _ rfl
  rw [show μ3.1 33 1 = x4 from by exact hx4] at q3
  refine lv_aload_n hx hb dX8_keep_16 rfl (lv_at hl 0 rfl) ?_
  refine m_getr hx hb hts hown hW (30) 2 (35) rfl rfl cw_8 rfl (by decide) k_X8_23 dX8_keep_17 ?_
  refine lv_iload_n hx hb dX8_keep_20 rfl (lv_at hl 3 rfl) ?_
  refine m_aV hW (m_runV (As := [.int v]) (rest := []) hx hb hml hown hts hW (35) (g_X5_add_v l D cy b (fun g => [16].contains g) μ3 rfl cn (by omega) v μ3 (IY.rf hI.1) (by exact ((hJ3.2.1 35 1 rfl).trans (by exact ((hJ1.2.1 35 1 rfl).trans (by exact h35)))))) mi_X5_add k_X8_59 rfl rfl rfl hl.1 rfl (Nat.le_of_ble_eq_true rfl) dX8_keep_21 ⟨Nat.le_of_ble_eq_true rfl, Nat.le_of_ble_eq_true rfl⟩ ⟨Nat.le_of_ble_eq_true rfl, Nat.le_of_ble_eq_true rfl⟩) (fun μ5 H locs q5 hW => ?_)
  obtain ⟨hJ5, q5⟩ := q5
  have hI := hI.tr hJ5 (m_subL (by simp [hS16]))
  obtain ⟨q5, q5r⟩ := q5
  obtain ⟨x6, hx6⟩ : ∃ z, μ5.1 35 1 = z := ⟨_, rfl⟩
  have bx6 : 0 ≤ x6.toInt ∧ x6.toInt ≤ 401 := by rw [← hx6]; exact hI.1 _ _ _ _ rfl
  rw [show μ5.1 35 1 = x6 from by exact hx6] at q5
  exact m_vret hx hb hr hlocks hW (⟨hI, ⟨by rw [show μ5.1 31 1 = x2 from by exact ((hJ5.2.1 31 1 rfl).trans (by exact ((hJ3.2.1 31 1 rfl).trans (by exact hx2))))]; omega, by rw [show μ5.1 33 1 = x4 from by exact ((hJ5.2.1 33 1 rfl).trans (by exact hx4)), show μ5.1 31 1 = x2 from by exact ((hJ5.2.1 31 1 rfl).trans (by exact ((hJ3.2.1 31 1 rfl).trans (by exact hx2))))]; exact m_eqI (by omega), by rw [show μ5.1 35 1 = x6 from by exact hx6, show μ5.1 31 1 = x2 from by exact ((hJ5.2.1 31 1 rfl).trans (by exact ((hJ3.2.1 31 1 rfl).trans (by exact hx2))))]; exact m_eqI (by omega), by rw [show μ5.1 32 = μ3.1 32 from funext fun j => hJ5.2.1 32 j rfl, show μ3.1 32 = μ1.1 32 from funext fun j => hJ3.2.1 32 j rfl, show μ1.1 32 = m_up (μ.1 32) cn.toNatClampNeg k from q1r], by rw [show μ5.1 34 = μ3.1 34 from funext fun j => hJ5.2.1 34 j rfl, show μ3.1 34 = m_up (μ1.1 34) cn.toNatClampNeg u from q3r, show μ1.1 34 = μ.1 34 from funext fun j => hJ1.2.1 34 j rfl], by rw [show μ5.1 36 = m_up (μ3.1 36) cn.toNatClampNeg v from q5r, show μ3.1 36 = μ1.1 36 from funext fun j => hJ3.2.1 36 j rfl, show μ1.1 36 = μ.1 36 from funext fun j => hJ1.2.1 36 j rfl]⟩⟩) dX8_keep_24
set_option maxHeartbeats 4000000 in
set_option maxRecDepth 100000 in
theorem L_X8_takeWord_f_2 {p : Program} {l : Launch} {e : Env} {s : State} {m : MethodId} {args : Array Value} {below : List Frame} {meth : Method} {c : Code} {D : va_G} {cy : Nat → ClassId} {b : Nat} (hx : p.tables.exec = Jvm.exec) (hb : c.code = cX8_takeWord) (hr : meth.sig.returnType = ((some .int))) (hml : c.maxLocals = 4) (hown : s.vm.findClass RX8 = some m.cls) (hts : ∀ w ∈ TB, w.before args s = true) (hlocks : meth.locks = false) {oq oa ov : Nat} (hO : m_O (m_A b LAY) oq oa ov s s.heap) (S : Nat → Bool) (μ0 : mM) (hS11 : S 11 = true) (hS15 : S 15 = true) (hS16 : S 16 = true) (cn : Int32) (h_c : 0 ≤ cn.toInt ∧ cn.toInt ≤ 400) (t : Int32) (h_t : 0 ≤ t.toInt ∧ t.toInt ≤ 400) (fT K0 L0 V0 : Nat → Int32) (k : Int32) (h_k : 0 ≤ k.toInt ∧ k.toInt ≤ 400) (h_kt : k.toInt < t.toInt) : ∀ (f : Nat), ∀ (y3 : Int32) (hy : 0 ≤ y3.toInt ∧ y3.toInt ≤ 400 ∧ k.toInt ≤ y3.toInt ∧ y3.toInt ≤ t.toInt) (hf : 400 - y3.toInt < (f : Int)) (μ : mM) (hI : IY S μ0 μ) (h31 : μ.1 31 1 = cn) (h33 : μ.1 33 1 = cn) (h35 : μ.1 35 1 = cn) (ht : μ.1 23 1 = t) (hfT : μ.1 24 = fT) (hK : μ.1 32 = K0) (hL : μ.1 34 = L0) (hV : μ.1 36 = V0) (hlet : bL (fT k.toNatClampNeg).toInt = true) (hsp : z_E bL fT t.toNatClampNeg y3.toNatClampNeg = z_E bL fT t.toNatClampNeg k.toNatClampNeg) (H : Heap) (locs : List Loc), m_WA (m_A b LAY) D cy s b LAY μ H locs → ∀ ls : Array Slot, lv_has ls 4 [(0, .ref (b + 30)), (1, .ref (b + 23)), (2, .int k), (3, .int y3)] → W p l e (m_R 6 0 0) s m args below meth c H locs 0 0 (MQ below (m_Qi D cy b LAY (fun r ν => IY S μ0 ν ∧ (r.toInt = (z_E bL fT t.toNatClampNeg k.toNatClampNeg : Nat) ∧ (ν.1 31 1).toInt = cn.toInt + 1 ∧ ν.1 33 1 = ν.1 31 1 ∧ ν.1 35 1 = ν.1 31 1 ∧ ∃ x y z : Int32, ν.1 32 = m_up K0 cn.toNatClampNeg x ∧ ν.1 34 = m_up L0 cn.toNatClampNeg y ∧ ν.1 36 = m_up V0 cn.toNatClampNeg z ∧ (x.toInt = m_wk fT k.toNatClampNeg (z_E bL fT t.toNatClampNeg k.toNatClampNeg) ∧ y = k ∧ z = 0)))) args s 0 0 (m_A b LAY)) (F0 m 2 ls []) := by
  intro f
  induction f with
  | zero => intro y3 hy hf; exfalso; omega
  | succ f ih =>
    intro y3 hy hf μ hI h31 h33 h35 ht hfT hK hL hV hlet hsp H locs hW ls hl
    refine lv_iload_n hx hb dX8_takeWord_2 rfl (lv_at hl 3 rfl) ?_
    refine lv_aload_n hx hb dX8_takeWord_3 rfl (lv_at hl 1 rfl) ?_
    refine m_geti hx hb hts hown hW (23) 1 rfl rfl cw_5 rfl (by decide) k_X8_26 dX8_takeWord_4 ?_
    refine lv_topi (fun x1 ex1 => ?_)
    have ex1 : x1 = t := by rw [ex1]; exact ht
    have ex1 := ex1.symm
    subst ex1
    refine lv_icmp_ge (tgt := 28) hx hb dX8_takeWord_7 (by decide) (fun c2 => ?_) (fun c2 => ?_)
    · have i2 := m_c3 (rfl : t.toInt = _) (rfl : y3.toInt = _) c2
      have hend : z_E bL fT t.toNatClampNeg k.toNatClampNeg = y3.toNatClampNeg := (by rw [← hsp]; exact z_E0 (fun q => by have q1 := q.1; have q2 := q.2; have := m_ckI (x := y3) (by omega); have := m_ckI (x := t) (by omega); omega))
      have hky : k.toInt < y3.toInt := by omega
      refine lv_aload_n hx hb dX8_takeWord_28 rfl (lv_at hl 0 rfl) ?_
      refine lv_aload_n hx hb dX8_takeWord_29 rfl (lv_at hl 1 rfl) ?_
      refine lv_iload_n hx hb dX8_takeWord_30 rfl (lv_at hl 2 rfl) ?_
      refine lv_iload_n hx hb dX8_takeWord_31 rfl (lv_at hl 3 rfl) ?_
      refine m_aI hW (m_runSO (As := [.ref (b + 23), .int k, .int y3]) (rest := [.ref (b + 30)]) hx hb hml hown hts hW hO (g_X8_kindOfWord_f l D cy b oq oa ov t (by omega) (μ.1 24) k y3 (by omega) (by omega) (by omega) μ hI.1 (by exact ht) rfl) ms_X8_kindOfWord k_X8_62 rfl hl.1 rfl (Nat.le_of_ble_eq_true rfl) dX8_takeWord_32 ⟨Nat.le_of_ble_eq_true rfl, Nat.le_of_ble_eq_true rfl⟩ ⟨Nat.le_of_ble_eq_true rfl, Nat.le_of_ble_eq_true rfl⟩) (fun x3 μ3 H locs q3 hW => ?_)
      obtain ⟨q3_m, q3⟩ := q3
      subst q3_m
      refine lv_iload_n hx hb dX8_takeWord_35 rfl (lv_at hl 2 rfl) ?_
      refine lv_iconst (v := 0) hx hb dX8_takeWord_36 (by decide) ?_
      have l_0 : (0 : Int32).toInt = 0 := by decide
      refine m_aV hW (m_runV (As := [.int x3, .int k, .int 0]) (rest := []) hx hb hml hown hts hW (30) (g_X8_keep_f l D cy b (fun g => [11, 15, 16].contains g) μ rfl rfl rfl cn (by omega) x3 k 0 μ (IY.rf hI.1) (by exact h31) (by exact h33) (by exact h35)) mi_X8_keep k_X8_55 rfl rfl rfl hl.1 rfl (Nat.le_of_ble_eq_true rfl) dX8_takeWord_37 ⟨Nat.le_of_ble_eq_true rfl, Nat.le_of_ble_eq_true rfl⟩ ⟨Nat.le_of_ble_eq_true rfl, Nat.le_of_ble_eq_true rfl⟩) (fun μ4 H locs q4 hW => ?_)
      obtain ⟨hJ4, q4⟩ := q4
      have hI := hI.tr hJ4 (m_subL (by simp [hS11, hS15, hS16]))
      obtain ⟨q4, q433, q435, q4K, q4L, q4V⟩ := q4
      obtain ⟨x5, hx5⟩ : ∃ z, μ4.1 31 1 = z := ⟨_, rfl⟩
      have bx5 : 0 ≤ x5.toInt ∧ x5.toInt ≤ 401 := by rw [← hx5]; exact hI.1 _ _ _ _ rfl
      rw [show μ4.1 31 1 = x5 from by exact hx5] at q4
      refine lv_iload_n hx hb dX8_takeWord_40 rfl (lv_at hl 3 rfl) ?_
      exact m_iret hx hb hr hlocks hW rfl (⟨hI, ⟨(by rw [show (z_E bL fT t.toNatClampNeg k.toNatClampNeg) = y3.toNatClampNeg from hend]; exact (m_ckI (by omega)).symm), by rw [show μ4.1 31 1 = x5 from by exact hx5]; omega, by rw [show μ4.1 33 1 = x5 from by exact (q433.trans (by exact hx5)), show μ4.1 31 1 = x5 from by exact hx5], by rw [show μ4.1 35 1 = x5 from by exact (q435.trans (by exact hx5)), show μ4.1 31 1 = x5 from by exact hx5], x3, k, 0, by rw [show μ4.1 32 = m_up (μ.1 32) cn.toNatClampNeg x3 from q4K, hK], by rw [show μ4.1 34 = m_up (μ.1 34) cn.toNatClampNeg k from q4L, hL], by rw [show μ4.1 36 = m_up (μ.1 36) cn.toNatClampNeg 0 from q4V, hV], (by rw [hend, ← hfT]; exact q3), rfl, rfl⟩⟩) dX8_takeWord_41
    · have i2 := m_c4 (rfl : t.toInt = _) (rfl : y3.toInt = _) c2
      refine lv_aload_n hx hb dX8_takeWord_10 rfl (lv_at hl 1 rfl) ?_
      refine m_getr hx hb hts hown hW (23) 0 (24) rfl rfl cw_5 rfl (by decide) k_X8_30 dX8_takeWord_11 ?_
      refine lv_iload_n hx hb dX8_takeWord_14 rfl (lv_at hl 3 rfl) ?_
      refine m_iald hx hb hW (24) rfl (m_ixI (rfl : y3.toInt = _) (by omega) (by omega)) dX8_takeWord_15 ?_
      refine lv_topi (fun x6 ex6 => ?_)
      have h_x6 : (fT y3.toNatClampNeg).toInt = x6.toInt := by rw [ex6, hfT]
      refine m_aI hW (m_runS (As := [.int x6]) (rest := []) hx hb hml hown hts hW (g_X8_isLetter_f l D cy b x6 μ hI.1) ms_X8_isLetter k_X8_34 rfl hl.1 rfl (Nat.le_of_ble_eq_true rfl) dX8_takeWord_16 ⟨Nat.le_of_ble_eq_true rfl, Nat.le_of_ble_eq_true rfl⟩ ⟨Nat.le_of_ble_eq_true rfl, Nat.le_of_ble_eq_true rfl⟩) (fun x7 μ7 H locs q7 hW => ?_)
      obtain ⟨q7_m, q7⟩ := q7
      subst q7_m
      rcases q7 with ⟨rfl, q7⟩ | ⟨rfl, q7⟩
      · refine lv_if_eq (tgt := 28) hx hb dX8_takeWord_19 (by decide) (fun c => False.elim (by revert c; decide)) (fun _ => ?_)
        obtain ⟨x8, ex8⟩ : ∃ z : Int32, z = y3 + 1 := ⟨_, rfl⟩
        refine lv_iinc (v := x8) (lv' := [(3, .int x8), (0, .ref (b + 30)), (1, .ref (b + 23)), (2, .int k)]) hx hb dX8_takeWord_22 hl (k := 3) rfl (by rw [ex8]; rfl) (by decide) rfl (fun ls hl => ?_)
        have tx8 : x8.toInt = y3.toInt + 1 := m_addI ex8 (rfl : y3.toInt = _) (by decide : (1 : Int32).toInt = 1) (by omega) (by omega)
        refine lv_goto (tgt := 2) hx hb dX8_takeWord_25 (by decide) ?_
        exact ih x8 (by omega) (by omega) μ hI (h31) (h33) (h35) (ht) (hfT) (hK) (hL) (hV) (hlet) ((by rw [m_cl1 (x := x8) (y := y3) (by omega) (by omega), ← hsp]; exact (z_E1 (by have := m_ckI (x := y3) (by omega); have := m_ckI (x := t) (by omega); omega) (by rw [h_x6]; exact bL_t.mpr (by omega))).symm)) _ _ hW ls (lv_sub hl [1, 2, 3, 0] rfl)
      · refine lv_if_eq (tgt := 28) hx hb dX8_takeWord_19 (by decide) (fun _ => ?_) (fun c => False.elim (by revert c; decide))
        have hend : z_E bL fT t.toNatClampNeg k.toNatClampNeg = y3.toNatClampNeg := (by rw [← hsp]; exact z_E0 (fun q => by have q1 := q.1; have q2 := q.2; have := m_ckI (x := y3) (by omega); have := m_ckI (x := t) (by omega); rw [h_x6] at q2; have q3 := bL_t.mp q2; omega))
        have hky : k.toInt < y3.toInt := by
          rcases (show k.toInt < y3.toInt ∨ k.toInt = y3.toInt by omega) with q | q
          · exact q
          have q2 : k = y3 := m_eqI q
          have q3 := bL_t.mp hlet
          rw [q2, h_x6] at q3
          omega
        refine lv_aload_n hx hb dX8_takeWord_28 rfl (lv_at hl 0 rfl) ?_
        refine lv_aload_n hx hb dX8_takeWord_29 rfl (lv_at hl 1 rfl) ?_
        refine lv_iload_n hx hb dX8_takeWord_30 rfl (lv_at hl 2 rfl) ?_
        refine lv_iload_n hx hb dX8_takeWord_31 rfl (lv_at hl 3 rfl) ?_
        refine m_aI hW (m_runSO (As := [.ref (b + 23), .int k, .int y3]) (rest := [.ref (b + 30)]) hx hb hml hown hts hW hO (g_X8_kindOfWord_f l D cy b oq oa ov t (by omega) (μ.1 24) k y3 (by omega) (by omega) (by omega) μ hI.1 (by exact ht) rfl) ms_X8_kindOfWord k_X8_62 rfl hl.1 rfl (Nat.le_of_ble_eq_true rfl) dX8_takeWord_32 ⟨Nat.le_of_ble_eq_true rfl, Nat.le_of_ble_eq_true rfl⟩ ⟨Nat.le_of_ble_eq_true rfl, Nat.le_of_ble_eq_true rfl⟩) (fun x9 μ9 H locs q9 hW => ?_)
        obtain ⟨q9_m, q9⟩ := q9
        subst q9_m
        refine lv_iload_n hx hb dX8_takeWord_35 rfl (lv_at hl 2 rfl) ?_
        refine lv_iconst (v := 0) hx hb dX8_takeWord_36 (by decide) ?_
        have l_0 : (0 : Int32).toInt = 0 := by decide
        refine m_aV hW (m_runV (As := [.int x9, .int k, .int 0]) (rest := []) hx hb hml hown hts hW (30) (g_X8_keep_f l D cy b (fun g => [11, 15, 16].contains g) μ rfl rfl rfl cn (by omega) x9 k 0 μ (IY.rf hI.1) (by exact h31) (by exact h33) (by exact h35)) mi_X8_keep k_X8_55 rfl rfl rfl hl.1 rfl (Nat.le_of_ble_eq_true rfl) dX8_takeWord_37 ⟨Nat.le_of_ble_eq_true rfl, Nat.le_of_ble_eq_true rfl⟩ ⟨Nat.le_of_ble_eq_true rfl, Nat.le_of_ble_eq_true rfl⟩) (fun μ10 H locs q10 hW => ?_)
        obtain ⟨hJ10, q10⟩ := q10
        have hI := hI.tr hJ10 (m_subL (by simp [hS11, hS15, hS16]))
        obtain ⟨q10, q1033, q1035, q10K, q10L, q10V⟩ := q10
        obtain ⟨x11, hx11⟩ : ∃ z, μ10.1 31 1 = z := ⟨_, rfl⟩
        have bx11 : 0 ≤ x11.toInt ∧ x11.toInt ≤ 401 := by rw [← hx11]; exact hI.1 _ _ _ _ rfl
        rw [show μ10.1 31 1 = x11 from by exact hx11] at q10
        refine lv_iload_n hx hb dX8_takeWord_40 rfl (lv_at hl 3 rfl) ?_
        exact m_iret hx hb hr hlocks hW rfl (⟨hI, ⟨(by rw [show (z_E bL fT t.toNatClampNeg k.toNatClampNeg) = y3.toNatClampNeg from hend]; exact (m_ckI (by omega)).symm), by rw [show μ10.1 31 1 = x11 from by exact hx11]; omega, by rw [show μ10.1 33 1 = x11 from by exact (q1033.trans (by exact hx11)), show μ10.1 31 1 = x11 from by exact hx11], by rw [show μ10.1 35 1 = x11 from by exact (q1035.trans (by exact hx11)), show μ10.1 31 1 = x11 from by exact hx11], x9, k, 0, by rw [show μ10.1 32 = m_up (μ.1 32) cn.toNatClampNeg x9 from q10K, hK], by rw [show μ10.1 34 = m_up (μ.1 34) cn.toNatClampNeg k from q10L, hL], by rw [show μ10.1 36 = m_up (μ.1 36) cn.toNatClampNeg 0 from q10V, hV], (by rw [hend, ← hfT]; exact q9), rfl, rfl⟩⟩) dX8_takeWord_41
set_option maxHeartbeats 4000000 in
set_option maxRecDepth 100000 in
theorem g_X8_takeWord_f (l : Launch) (D : va_G) (cy : Nat → ClassId) (b oq oa ov : Nat) (S : Nat → Bool) (μ0 : mM) (hS11 : S 11 = true) (hS15 : S 15 = true) (hS16 : S 16 = true) (cn : Int32) (h_c : 0 ≤ cn.toInt ∧ cn.toInt ≤ 400) (t : Int32) (h_t : 0 ≤ t.toInt ∧ t.toInt ≤ 400) (fT K0 L0 V0 : Nat → Int32) (k : Int32) (h_k : 0 ≤ k.toInt ∧ k.toInt ≤ 400) (h_kt : k.toInt < t.toInt) (μ : mM) (hI : IY S μ0 μ) (h31 : μ.1 31 1 = cn) (h33 : μ.1 33 1 = cn) (h35 : μ.1 35 1 = cn) (ht : μ.1 23 1 = t) (hfT : μ.1 24 = fT) (hK : μ.1 32 = K0) (hL : μ.1 34 = L0) (hV : μ.1 36 = V0) (hlet : bL (fT k.toNatClampNeg).toInt = true) : m_CiO l yX8_takeWord cX8_takeWord 4 ((some .int)) 6 D cy b oq oa ov μ [.ref (b + 30), .ref (b + 23), .int k] (fun r ν => IY S μ0 ν ∧ (r.toInt = (z_E bL fT t.toNatClampNeg k.toNatClampNeg : Nat) ∧ (ν.1 31 1).toInt = cn.toInt + 1 ∧ ν.1 33 1 = ν.1 31 1 ∧ ν.1 35 1 = ν.1 31 1 ∧ ∃ x y z : Int32, ν.1 32 = m_up K0 cn.toNatClampNeg x ∧ ν.1 34 = m_up L0 cn.toNatClampNeg y ∧ ν.1 36 = m_up V0 cn.toNatClampNeg z ∧ (x.toInt = m_wk fT k.toNatClampNeg (z_E bL fT t.toNatClampNeg k.toNatClampNeg) ∧ y = k ∧ z = 0))) := by
  unfold m_CiO
  refine m_ofO (by decide) (Nat.le_of_ble_eq_true rfl) ?_
  intro p e s m below meth c hx hb hr hml hown hts hlocks _ hW hO ls hl
  have hown : s.vm.findClass RX8 = some m.cls := hown
  have hl : lv_has ls 4 [(0, .ref (b + 30)), (1, .ref (b + 23)), (2, .int k)] := hl
  refine lv_iload_n hx hb dX8_takeWord_0 rfl (lv_at hl 2 rfl) ?_
  refine lv_istore_n (lv' := [(3, .int k), (0, .ref (b + 30)), (1, .ref (b + 23)), (2, .int k)]) hx hb dX8_takeWord_1 rfl hl (by decide) rfl (fun ls hl => ?_)
  exact L_X8_takeWord_f_2 hx hb hr hml hown hts hlocks hO S μ0 hS11 hS15 hS16 cn h_c t h_t fT K0 L0 V0 k h_k h_kt  401 k (by omega) (by omega) μ hI (h31) (h33) (h35) (ht) (hfT) (hK) (hL) (hV) (hlet) (rfl) _ _ hW ls (lv_sub hl [1, 2, 3, 0] rfl)
