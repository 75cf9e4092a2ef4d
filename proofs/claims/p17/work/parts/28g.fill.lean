-- FILL
def m_mx (a b : Int32) : Int32 := if a.toInt < b.toInt then b else a
theorem m_mxE {x y z : Int32} (e : z = if x < y then y else x) : z = m_mx x y := by
  rw [e]
  unfold m_mx
  by_cases q : x < y
  · rw [if_pos q, if_pos (Int32.lt_iff_toInt_lt.mp q)]
  · rw [if_neg q, if_neg (fun h => q (Int32.lt_iff_toInt_lt.mpr h))]
theorem m_mx_as (a b c : Int32) : m_mx a (m_mx b c) = m_mx (m_mx a b) c := by
  unfold m_mx
  by_cases h1 : b.toInt < c.toInt
  · rw [if_pos h1]
    by_cases h2 : a.toInt < b.toInt
    · rw [if_pos h2, if_pos h1, if_pos (by omega)]
    · rw [if_neg h2]
  · rw [if_neg h1]
    by_cases h2 : a.toInt < b.toInt
    · rw [if_pos h2, if_neg h1]
    · rw [if_neg h2, if_neg (by omega)]
def m_bk (fw fh fo : Nat → Int32) (w h : Int) : Nat → Int32
  | 0 => 0
  | n + 1 => if ((fw n).toInt = w ∧ (fh n).toInt = h) ∨ ((fw n).toInt = h ∧ (fh n).toInt = w) then m_mx (m_bk fw fh fo w h n) (fo n) else m_bk fw fh fo w h n
theorem m_bk1 {fw fh fo : Nat → Int32} {w h : Int} {n : Nat} (q : ((fw n).toInt = w ∧ (fh n).toInt = h) ∨ ((fw n).toInt = h ∧ (fh n).toInt = w)) : m_bk fw fh fo w h (n + 1) = m_mx (m_bk fw fh fo w h n) (fo n) := by
  show (if _ then _ else _) = _
  rw [if_pos q]
theorem m_bk0 {fw fh fo : Nat → Int32} {w h : Int} {n : Nat} (q : ¬ (((fw n).toInt = w ∧ (fh n).toInt = h) ∨ ((fw n).toInt = h ∧ (fh n).toInt = w))) : m_bk fw fh fo w h (n + 1) = m_bk fw fh fo w h n := by
  show (if _ then _ else _) = _
  rw [if_neg q]
theorem m_bk_pos {fw fh fo : Nat → Int32} {w h : Int} : ∀ n, 0 ≤ (m_bk fw fh fo w h n).toInt
  | 0 => by show (0 : Int) ≤ (0 : Int32).toInt; decide
  | n + 1 => by
    have := m_bk_pos (fw := fw) (fh := fh) (fo := fo) (w := w) (h := h) n
    unfold m_bk
    split
    · unfold m_mx
      split <;> omega
    · exact this
theorem m_bk_al {fw fh fo gw gh go : Nat → Int32} {w h : Int} : ∀ n, m_al n fw gw → m_al n fh gh → m_al n fo go → m_bk fw fh fo w h n = m_bk gw gh go w h n
  | 0, _, _, _ => rfl
  | n + 1, h1, h2, h3 => by
    unfold m_bk
    rw [h1 n (by omega), h2 n (by omega), h3 n (by omega), m_bk_al n (h1.le (by omega)) (h2.le (by omega)) (h3.le (by omega))]
def m_cw (f : Nat → Int32) (w h : Nat) : Nat → Int32 → Int32
  | 0, a => a
  | n + 1, a => m_mx (m_cw f w h n a) (f (41 * (n + 1) + h) + f (41 * (w - (n + 1)) + h))
def m_ch (f : Nat → Int32) (w h : Nat) : Nat → Int32 → Int32
  | 0, a => a
  | n + 1, a => m_mx (m_ch f w h n a) (f (41 * w + (n + 1)) + f (41 * w + (h - (n + 1))))
theorem m_cw_mx {f : Nat → Int32} {w h : Nat} (k : Int32) : ∀ n a, m_mx k (m_cw f w h n a) = m_cw f w h n (m_mx k a)
  | 0, _ => rfl
  | n + 1, a => by
    unfold m_cw
    rw [m_mx_as, m_cw_mx k n a]
theorem m_ch_mx {f : Nat → Int32} {w h : Nat} (k : Int32) : ∀ n a, m_mx k (m_ch f w h n a) = m_ch f w h n (m_mx k a)
  | 0, _ => rfl
  | n + 1, a => by
    unfold m_ch
    rw [m_mx_as, m_ch_mx k n a]
theorem m_cw_al {f g : Nat → Int32} {w h : Nat} : ∀ n a, n ≤ w / 2 → (∀ c, 1 ≤ c → c < w → f (41 * c + h) = g (41 * c + h)) → m_cw f w h n a = m_cw g w h n a
  | 0, _, _, _ => rfl
  | n + 1, a, hn, q => by
    unfold m_cw
    rw [m_cw_al n a (by omega) q, q (n + 1) (by omega) (by omega), q (w - (n + 1)) (by omega) (by omega)]
theorem m_ch_al {f g : Nat → Int32} {w h : Nat} : ∀ n a, n ≤ h / 2 → (∀ c, 1 ≤ c → c < h → f (41 * w + c) = g (41 * w + c)) → m_ch f w h n a = m_ch g w h n a
  | 0, _, _, _ => rfl
  | n + 1, a, hn, q => by
    unfold m_ch
    rw [m_ch_al n a (by omega) q, q (n + 1) (by omega) (by omega), q (h - (n + 1)) (by omega) (by omega)]
/-- the recurrence -/
def m_st (fw fh fo : Nat → Int32) (t : Nat) (f : Nat → Int32) (w h : Nat) : Int32 := m_ch f w h (h / 2) (m_cw f w h (w / 2) (m_bk fw fh fo w h t))
theorem m_st_X {fw fh fo : Nat → Int32} {t : Nat} {f : Nat → Int32} {w h : Nat} : m_mx (m_bk fw fh fo w h t) (m_ch f w h (h / 2) (m_cw f w h (w / 2) 0)) = m_st fw fh fo t f w h := by
  rw [m_ch_mx, m_cw_mx]
  unfold m_st
  have := m_bk_pos (fw := fw) (fh := fh) (fo := fo) (w := w) (h := h) t
  rw [show m_mx (m_bk fw fh fo w h t) 0 = m_bk fw fh fo w h t from if_neg (by show ¬ _ < (0 : Int); omega)]
theorem m_st_al {fw fh fo : Nat → Int32} {t : Nat} {f g : Nat → Int32} {w h : Nat} (h1 : ∀ c, 1 ≤ c → c < w → f (41 * c + h) = g (41 * c + h)) (h2 : ∀ c, 1 ≤ c → c < h → f (41 * w + c) = g (41 * w + c)) : m_st fw fh fo t f w h = m_st fw fh fo t g w h := by
  unfold m_st
  rw [m_ch_al _ _ (Nat.le_refl _) h2, m_cw_al _ _ (Nat.le_refl _) h1]
/-- done so far: the rows below w, and of the row w the columns below h -/
def m_DN (fw fh fo : Nat → Int32) (t : Nat) (f : Nat → Int32) (B w h : Nat) : Prop := ∀ a b, 1 ≤ a → 1 ≤ b → b ≤ B → (a < w ∨ (a = w ∧ b < h)) → f (41 * a + b) = m_st fw fh fo t f a b
theorem m_DN.z {fw fh fo : Nat → Int32} {t : Nat} {f : Nat → Int32} {B : Nat} : m_DN fw fh fo t f B 1 1 := fun a b h1 h2 _ h4 => by omega
theorem m_DN.row {fw fh fo : Nat → Int32} {t : Nat} {f : Nat → Int32} {B w h : Nat} (q : m_DN fw fh fo t f B w h) (hh : B < h) : m_DN fw fh fo t f B (w + 1) 1 := fun a b h1 h2 h3 h4 => q a b h1 h2 h3 (by omega)
theorem m_DN.step {fw fh fo : Nat → Int32} {t : Nat} {f : Nat → Int32} {B w h : Nat} {v : Int32} (q : m_DN fw fh fo t f B w h) (hw : 1 ≤ w ∧ w ≤ 40) (hh : 1 ≤ h ∧ h ≤ B) (hB : B ≤ 40) (hv : v = m_st fw fh fo t f w h) : m_DN fw fh fo t (m_up f (41 * w + h) v) B w (h + 1) := by
  have key : ∀ a b, 1 ≤ a → 1 ≤ b → b ≤ B → (a < w ∨ (a = w ∧ b ≤ h)) → m_st fw fh fo t (m_up f (41 * w + h) v) a b = m_st fw fh fo t f a b := fun a b h1 h2 h3 h4 =>
    m_st_al (fun c c1 c2 => m_up_ne (by omega)) (fun c c1 c2 => m_up_ne (by omega))
  intro a b h1 h2 h3 h4
  rw [key a b h1 h2 h3 (by omega)]
  by_cases e : a = w ∧ b = h
  · obtain ⟨rfl, rfl⟩ := e
    rw [m_up_at]
    exact hv
  · rw [m_up_ne (by omega)]
    exact q a b h1 h2 h3 (by omega)
/-- two tables of one recurrence are alike -/
theorem m_DN.eq {fw fh fo : Nat → Int32} {t : Nat} {f g : Nat → Int32} {B C w h w' h' : Nat} (p : m_DN fw fh fo t f B w h) (q : m_DN fw fh fo t g C w' h') : ∀ n a b, a + b ≤ n → 1 ≤ a → 1 ≤ b → b ≤ B → b ≤ C → a < w → a < w' → f (41 * a + b) = g (41 * a + b)
  | 0, a, b, hn, h1, _, _, _, _, _ => by omega
  | n + 1, a, b, hn, h1, h2, h3, h4, h5, h6 => by
    rw [p a b h1 h2 h3 (Or.inl h5), q a b h1 h2 h4 (Or.inl h6)]
    exact m_st_al (fun c c1 c2 => m_DN.eq p q n c b (by omega) c1 h2 h3 h4 (by omega) (by omega)) (fun c c1 c2 => m_DN.eq p q n a c (by omega) h1 c1 (by omega) (by omega) h5 h6)
theorem m_DN.al {fw fh fo gw gh go : Nat → Int32} {t : Nat} {f : Nat → Int32} {B w h : Nat} (p : m_DN fw fh fo t f B w h) (a1 : m_al t fw gw) (a2 : m_al t fh gh) (a3 : m_al t fo go) : m_DN gw gh go t f B w h := by
  intro a b h1 h2 h3 h4
  rw [p a b h1 h2 h3 h4]
  unfold m_st
  rw [m_bk_al t a1 a2 a3]
/-- the borders are 0 -/
def m_bz (f : Nat → Int32) : Prop := ∀ i, i ≤ 40 → f i = 0 ∧ f (41 * i) = 0
theorem m_bz.up {f : Nat → Int32} (q : m_bz f) {w h : Nat} {v : Int32} (hw : 1 ≤ w) (hh : 1 ≤ h ∧ h ≤ 40) : m_bz (m_up f (41 * w + h) v) := fun i hi => ⟨by rw [m_up_ne (by omega)]; exact (q i hi).1, by rw [m_up_ne (by omega)]; exact (q i hi).2⟩
theorem m_DN.zero {fw fh fo : Nat → Int32} {f : Nat → Int32} {w h : Nat} (hf : ∀ i, f i = 0) : m_DN fw fh fo 0 f 40 w h := by
  have c0 : ∀ (w h n : Nat), m_cw f w h n 0 = 0 := fun w h n => by
    induction n with
    | zero => rfl
    | succ n ih => unfold m_cw; rw [ih, hf, hf]; rfl
  have c1 : ∀ (w h n : Nat), m_ch f w h n 0 = 0 := fun w h n => by
    induction n with
    | zero => rfl
    | succ n ih => unfold m_ch; rw [ih, hf, hf]; rfl
  intro a b _ _ _ _
  unfold m_st
  rw [hf, show m_bk fw fh fo a b 0 = 0 from rfl, c0, c1]
set_option maxHeartbeats 4000000 in
set_option maxRecDepth 100000 in
theorem L_X0_bestKind_g_5 {p : Program} {l : Launch} {e : Env} {s : State} {m : MethodId} {args : Array Value} {below : List Frame} {meth : Method} {c : Code} {D : va_G} {cy : Nat → ClassId} {b : Nat} (hx : p.tables.exec = Jvm.exec) (hb : c.code = cX0_bestKind) (hr : meth.sig.returnType = ((some .int))) (hml : c.maxLocals = 7) (hown : s.vm.findClass RX0 = some m.cls) (hts : ∀ w ∈ TB, w.before args s = true) (hlocks : meth.locks = false) (μ1 : mM) (t : Int32) (h_t : 0 ≤ t.toInt ∧ t.toInt ≤ 6) (fw fh fo : Nat → Int32) (k u : Int32) (h_k : 1 ≤ k.toInt ∧ k.toInt ≤ 40) (h_u : 1 ≤ u.toInt ∧ u.toInt ≤ 40) : ∀ (f : Nat), ∀ (y3 y4 : Int32) (hy : 0 ≤ y4.toInt ∧ y4.toInt ≤ 6 ∧ y4.toInt ≤ t.toInt) (hf : 6 - y4.toInt < (f : Int)) (μ : mM) (hI : IX μ) (hm : μ = μ1) (ht : μ.1 71 4 = t) (hfw : μ.1 72 = fw) (hfh : μ.1 73 = fh) (hfo : μ.1 74 = fo) (hsp : y3 = m_bk fw fh fo k.toInt u.toInt y4.toNatClampNeg) (H : Heap) (locs : List Loc), m_WA (m_A b LAY) D cy s b LAY μ H locs → ∀ ls : Array Slot, lv_has ls 7 [(0, .ref (b + 71)), (1, .int k), (2, .int u), (3, .int y3), (4, .int y4)] → W p l e (m_R 1 0 0) s m args below meth c H locs 0 0 (MQ below (m_Qi D cy b LAY (fun r ν => μ1 = ν ∧ (r = m_bk fw fh fo k.toInt u.toInt t.toNatClampNeg))) args s 0 0 (m_A b LAY)) (F0 m 5 ls []) := by
  intro f
  induction f with
  | zero => intro y3 y4 hy hf; exfalso; omega
  | succ f ih =>
    intro y3 y4 hy hf μ hI hm ht hfw hfh hfo hsp H locs hW ls hl
    refine lv_iload hx hb dX0_bestKind_5 (lv_at hl 4 rfl) ?_
    refine lv_aload_n hx hb dX0_bestKind_7 rfl (lv_at hl 0 rfl) ?_
    refine m_geti hx hb hts hown hW (71) 4 rfl rfl cw_0 rfl (by decide) k_X0_24 dX0_bestKind_8 ?_
    refine lv_topi (fun x1 ex1 => ?_)
    have ex1 : x1 = t := by rw [ex1]; exact ht
    have ex1 := ex1.symm
    subst ex1
    refine lv_icmp_ge (tgt := 100) hx hb dX0_bestKind_11 (by decide) (fun c2 => ?_) (fun c2 => ?_)
    · have i2 := m_c3 (rfl : t.toInt = _) (rfl : y4.toInt = _) c2
      refine lv_iload_n hx hb dX0_bestKind_100 rfl (lv_at hl 3 rfl) ?_
      exact m_iret hx hb hr hlocks hW rfl (⟨hm.symm, (by rw [show t.toNatClampNeg = y4.toNatClampNeg from by have := m_ckI (x := y4) (by omega); have := m_ckI (x := t) (by omega); omega]; exact hsp)⟩) dX0_bestKind_101
    · have i2 := m_c4 (rfl : t.toInt = _) (rfl : y4.toInt = _) c2
      refine lv_aload_n hx hb dX0_bestKind_14 rfl (lv_at hl 0 rfl) ?_
      refine m_getr hx hb hts hown hW (71) 0 (72) rfl rfl cw_0 rfl (by decide) k_X0_11 dX0_bestKind_15 ?_
      refine lv_iload hx hb dX0_bestKind_18 (lv_at hl 4 rfl) ?_
      refine m_iald hx hb hW (72) rfl (m_ixI (rfl : y4.toInt = _) (by omega) (by omega)) dX0_bestKind_20 ?_
      refine lv_topi (fun x3 ex3 => ?_)
      have h_x3 : x3 = fw y4.toNatClampNeg := by rw [ex3, hfw]
      have fx3 : (fw y4.toNatClampNeg).toInt = x3.toInt := by rw [← h_x3]
      refine lv_iload_n hx hb dX0_bestKind_21 rfl (lv_at hl 1 rfl) ?_
      refine lv_icmp_ne (tgt := 40) hx hb dX0_bestKind_22 (by decide) (fun c4 => ?_) (fun c4 => ?_)
      · have i4 := m_c6 (rfl : x3.toInt = _) (rfl : k.toInt = _) c4
        refine lv_iconst (v := 0) hx hb dX0_bestKind_40 (by decide) ?_
        refine lv_istore (lv' := [(5, .int 0), (0, .ref (b + 71)), (1, .int k), (2, .int u), (3, .int y3), (4, .int y4)]) hx hb dX0_bestKind_41 hl (by decide) rfl (fun ls hl => ?_)
        refine lv_aload_n hx hb dX0_bestKind_43 rfl (lv_at hl 1 rfl) ?_
        refine m_getr hx hb hts hown hW (71) 0 (72) rfl rfl cw_0 rfl (by decide) k_X0_11 dX0_bestKind_44 ?_
        refine lv_iload hx hb dX0_bestKind_47 (lv_at hl 5 rfl) ?_
        refine m_iald hx hb hW (72) rfl (m_ixI (rfl : y4.toInt = _) (by omega) (by omega)) dX0_bestKind_49 ?_
        refine lv_topi (fun x5 ex5 => ?_)
        have ex5 : x5 = x3 := by rw [ex5]; exact ex3.symm
        have ex5 := ex5.symm
        subst ex5
        refine lv_iload_n hx hb dX0_bestKind_50 rfl (lv_at hl 3 rfl) ?_
        refine lv_icmp_ne (tgt := 69) hx hb dX0_bestKind_51 (by decide) (fun c6 => ?_) (fun c6 => ?_)
        · have i6 := m_c6 (rfl : x3.toInt = _) (rfl : u.toInt = _) c6
          refine lv_iconst (v := 0) hx hb dX0_bestKind_69 (by decide) ?_
          refine lv_istore (lv' := [(6, .int 0), (5, .int 0), (0, .ref (b + 71)), (1, .int k), (2, .int u), (3, .int y3), (4, .int y4)]) hx hb dX0_bestKind_70 hl (by decide) rfl (fun ls hl => ?_)
          refine lv_iload hx hb dX0_bestKind_72 (lv_at hl 1 rfl) ?_
          refine lv_if_ne (tgt := 82) hx hb dX0_bestKind_74 (by decide) (fun c => False.elim (by revert c; decide)) (fun _ => ?_)
          refine lv_iload hx hb dX0_bestKind_77 (lv_at hl 0 rfl) ?_
          refine lv_if_eq (tgt := 94) hx hb dX0_bestKind_79 (by decide) (fun _ => ?_) (fun c => False.elim (by revert c; decide))
          obtain ⟨x7, ex7⟩ : ∃ z : Int32, z = y4 + 1 := ⟨_, rfl⟩
          refine lv_iinc (v := x7) (lv' := [(4, .int x7), (6, .int 0), (5, .int 0), (0, .ref (b + 71)), (1, .int k), (2, .int u), (3, .int y3)]) hx hb dX0_bestKind_94 hl (k := 6) rfl (by rw [ex7]; rfl) (by decide) rfl (fun ls hl => ?_)
          have tx7 : x7.toInt = y4.toInt + 1 := m_addI ex7 (rfl : y4.toInt = _) (by decide : (1 : Int32).toInt = 1) (by omega) (by omega)
          refine lv_goto (tgt := 5) hx hb dX0_bestKind_97 (by decide) ?_
          exact ih y3 x7 (by omega) (by omega) μ hI hm (by exact ht) (hfw) (hfh) (hfo) ((by rw [m_cl1 (x := x7) (y := y4) (by omega) (by omega)]; first | (rw [m_bk0 (by omega)]; exact hsp))) _ _ hW ls (lv_sub hl [3, 4, 5, 6, 0] rfl)
        · have i6 := m_c5 (rfl : x3.toInt = _) (rfl : u.toInt = _) c6
          refine lv_aload_n hx hb dX0_bestKind_54 rfl (lv_at hl 1 rfl) ?_
          refine m_getr hx hb hts hown hW (71) 1 (73) rfl rfl cw_0 rfl (by decide) k_X0_15 dX0_bestKind_55 ?_
          refine lv_iload hx hb dX0_bestKind_58 (lv_at hl 5 rfl) ?_
          refine m_iald hx hb hW (73) rfl (m_ixI (rfl : y4.toInt = _) (by omega) (by omega)) dX0_bestKind_60 ?_
          refine lv_topi (fun x8 ex8 => ?_)
          have h_x8 : x8 = fh y4.toNatClampNeg := by rw [ex8, hfh]
          have fx8 : (fh y4.toNatClampNeg).toInt = x8.toInt := by rw [← h_x8]
          refine lv_iload_n hx hb dX0_bestKind_61 rfl (lv_at hl 2 rfl) ?_
          refine lv_icmp_ne (tgt := 69) hx hb dX0_bestKind_62 (by decide) (fun c9 => ?_) (fun c9 => ?_)
          · have i9 := m_c6 (rfl : x8.toInt = _) (rfl : k.toInt = _) c9
            refine lv_iconst (v := 0) hx hb dX0_bestKind_69 (by decide) ?_
            refine lv_istore (lv' := [(6, .int 0), (5, .int 0), (0, .ref (b + 71)), (1, .int k), (2, .int u), (3, .int y3), (4, .int y4)]) hx hb dX0_bestKind_70 hl (by decide) rfl (fun ls hl => ?_)
            refine lv_iload hx hb dX0_bestKind_72 (lv_at hl 1 rfl) ?_
            refine lv_if_ne (tgt := 82) hx hb dX0_bestKind_74 (by decide) (fun c => False.elim (by revert c; decide)) (fun _ => ?_)
            refine lv_iload hx hb dX0_bestKind_77 (lv_at hl 0 rfl) ?_
            refine lv_if_eq (tgt := 94) hx hb dX0_bestKind_79 (by decide) (fun _ => ?_) (fun c => False.elim (by revert c; decide))
            obtain ⟨x10, ex10⟩ : ∃ z : Int32, z = y4 + 1 := ⟨_, rfl⟩
            refine lv_iinc (v := x10) (lv' := [(4, .int x10), (6, .int 0), (5, .int 0), (0, .ref (b + 71)), (1, .int k), (2, .int u), (3, .int y3)]) hx hb dX0_bestKind_94 hl (k := 6) rfl (by rw [ex10]; rfl) (by decide) rfl (fun ls hl => ?_)
            have tx10 : x10.toInt = y4.toInt + 1 := m_addI ex10 (rfl : y4.toInt = _) (by decide : (1 : Int32).toInt = 1) (by omega) (by omega)
            refine lv_goto (tgt := 5) hx hb dX0_bestKind_97 (by decide) ?_
            exact ih y3 x10 (by omega) (by omega) μ hI hm (by exact ht) (hfw) (hfh) (hfo) ((by rw [m_cl1 (x := x10) (y := y4) (by omega) (by omega)]; first | (rw [m_bk0 (by omega)]; exact hsp))) _ _ hW ls (lv_sub hl [3, 4, 5, 6, 0] rfl)
          · have i9 := m_c5 (rfl : x8.toInt = _) (rfl : k.toInt = _) c9
            refine lv_iconst (v := 1) hx hb dX0_bestKind_65 (by decide) ?_
            refine lv_goto (tgt := 70) hx hb dX0_bestKind_66 (by decide) ?_
            refine lv_istore (lv' := [(6, .int 1), (5, .int 0), (0, .ref (b + 71)), (1, .int k), (2, .int u), (3, .int y3), (4, .int y4)]) hx hb dX0_bestKind_70 hl (by decide) rfl (fun ls hl => ?_)
            refine lv_iload hx hb dX0_bestKind_72 (lv_at hl 1 rfl) ?_
            refine lv_if_ne (tgt := 82) hx hb dX0_bestKind_74 (by decide) (fun c => False.elim (by revert c; decide)) (fun _ => ?_)
            refine lv_iload hx hb dX0_bestKind_77 (lv_at hl 0 rfl) ?_
            refine lv_if_eq (tgt := 94) hx hb dX0_bestKind_79 (by decide) (fun c => False.elim (by revert c; decide)) (fun _ => ?_)
            refine lv_iload_n hx hb dX0_bestKind_82 rfl (lv_at hl 5 rfl) ?_
            refine lv_aload_n hx hb dX0_bestKind_83 rfl (lv_at hl 2 rfl) ?_
            refine m_getr hx hb hts hown hW (71) 2 (74) rfl rfl cw_0 rfl (by decide) k_X0_18 dX0_bestKind_84 ?_
            refine lv_iload hx hb dX0_bestKind_87 (lv_at hl 6 rfl) ?_
            refine m_iald hx hb hW (74) rfl (m_ixI (rfl : y4.toInt = _) (by omega) (by omega)) dX0_bestKind_89 ?_
            refine lv_topi (fun x11 ex11 => ?_)
            have h_x11 : x11 = fo y4.toNatClampNeg := by rw [ex11, hfo]
            have fx11 : (fo y4.toNatClampNeg).toInt = x11.toInt := by rw [← h_x11]
            refine va_mmax hx hb (hml.trans hl.1.symm) hown (hts _ k_X0_42) (hts _ kM_max_s) (hts _ kM_n) (hts _ kM_max_c) (Nat.le_of_ble_eq_true rfl) (Nat.le_of_ble_eq_true rfl) (Nat.le_of_ble_eq_true rfl) (Nat.le_of_ble_eq_true rfl) dX0_bestKind_90 ?_
            refine lv_topi (fun x12 ex12 => ?_)
            have tx12 : x12.toInt = max (y3.toInt) (x11.toInt) := m_max ex12 (rfl : y3.toInt = _) (rfl : x11.toInt = _)
            refine lv_istore_n (lv' := [(3, .int x12), (6, .int 1), (5, .int 0), (0, .ref (b + 71)), (1, .int k), (2, .int u), (4, .int y4)]) hx hb dX0_bestKind_93 rfl hl (by decide) rfl (fun ls hl => ?_)
            obtain ⟨x13, ex13⟩ : ∃ z : Int32, z = y4 + 1 := ⟨_, rfl⟩
            refine lv_iinc (v := x13) (lv' := [(4, .int x13), (3, .int x12), (6, .int 1), (5, .int 0), (0, .ref (b + 71)), (1, .int k), (2, .int u)]) hx hb dX0_bestKind_94 hl (k := 6) rfl (by rw [ex13]; rfl) (by decide) rfl (fun ls hl => ?_)
            have tx13 : x13.toInt = y4.toInt + 1 := m_addI ex13 (rfl : y4.toInt = _) (by decide : (1 : Int32).toInt = 1) (by omega) (by omega)
            refine lv_goto (tgt := 5) hx hb dX0_bestKind_97 (by decide) ?_
            exact ih x12 x13 (by omega) (by omega) μ hI hm (by exact ht) (hfw) (hfh) (hfo) ((by rw [m_cl1 (x := x13) (y := y4) (by omega) (by omega)]; first | (rw [m_bk1 (by omega), ← hsp, ← h_x11]; exact m_mxE ex12) | (rw [m_bk1 (by omega), ← hsp, ← h_x11]; unfold m_mx; rw [if_pos (by omega)]))) _ _ hW ls (lv_sub hl [4, 5, 6, 1, 0] rfl)
      · have i4 := m_c5 (rfl : x3.toInt = _) (rfl : k.toInt = _) c4
        refine lv_aload_n hx hb dX0_bestKind_25 rfl (lv_at hl 0 rfl) ?_
        refine m_getr hx hb hts hown hW (71) 1 (73) rfl rfl cw_0 rfl (by decide) k_X0_15 dX0_bestKind_26 ?_
        refine lv_iload hx hb dX0_bestKind_29 (lv_at hl 4 rfl) ?_
        refine m_iald hx hb hW (73) rfl (m_ixI (rfl : y4.toInt = _) (by omega) (by omega)) dX0_bestKind_31 ?_
        refine lv_topi (fun x14 ex14 => ?_)
        have h_x14 : x14 = fh y4.toNatClampNeg := by rw [ex14, hfh]
        have fx14 : (fh y4.toNatClampNeg).toInt = x14.toInt := by rw [← h_x14]
        refine lv_iload_n hx hb dX0_bestKind_32 rfl (lv_at hl 2 rfl) ?_
        refine lv_icmp_ne (tgt := 40) hx hb dX0_bestKind_33 (by decide) (fun c15 => ?_) (fun c15 => ?_)
        · have i15 := m_c6 (rfl : x14.toInt = _) (rfl : u.toInt = _) c15
          refine lv_iconst (v := 0) hx hb dX0_bestKind_40 (by decide) ?_
          refine lv_istore (lv' := [(5, .int 0), (0, .ref (b + 71)), (1, .int k), (2, .int u), (3, .int y3), (4, .int y4)]) hx hb dX0_bestKind_41 hl (by decide) rfl (fun ls hl => ?_)
          refine lv_aload_n hx hb dX0_bestKind_43 rfl (lv_at hl 1 rfl) ?_
          refine m_getr hx hb hts hown hW (71) 0 (72) rfl rfl cw_0 rfl (by decide) k_X0_11 dX0_bestKind_44 ?_
          refine lv_iload hx hb dX0_bestKind_47 (lv_at hl 5 rfl) ?_
          refine m_iald hx hb hW (72) rfl (m_ixI (rfl : y4.toInt = _) (by omega) (by omega)) dX0_bestKind_49 ?_
          refine lv_topi (fun x16 ex16 => ?_)
          have ex16 : x16 = x3 := by rw [ex16]; exact ex3.symm
          have ex16 := ex16.symm
          subst ex16
          refine lv_iload_n hx hb dX0_bestKind_50 rfl (lv_at hl 3 rfl) ?_
          refine lv_icmp_ne (tgt := 69) hx hb dX0_bestKind_51 (by decide) (fun c17 => ?_) (fun c17 => ?_)
          · have i17 := m_c6 (rfl : x3.toInt = _) (rfl : u.toInt = _) c17
            refine lv_iconst (v := 0) hx hb dX0_bestKind_69 (by decide) ?_
            refine lv_istore (lv' := [(6, .int 0), (5, .int 0), (0, .ref (b + 71)), (1, .int k), (2, .int u), (3, .int y3), (4, .int y4)]) hx hb dX0_bestKind_70 hl (by decide) rfl (fun ls hl => ?_)
            refine lv_iload hx hb dX0_bestKind_72 (lv_at hl 1 rfl) ?_
            refine lv_if_ne (tgt := 82) hx hb dX0_bestKind_74 (by decide) (fun c => False.elim (by revert c; decide)) (fun _ => ?_)
            refine lv_iload hx hb dX0_bestKind_77 (lv_at hl 0 rfl) ?_
            refine lv_if_eq (tgt := 94) hx hb dX0_bestKind_79 (by decide) (fun _ => ?_) (fun c => False.elim (by revert c; decide))
            obtain ⟨x18, ex18⟩ : ∃ z : Int32, z = y4 + 1 := ⟨_, rfl⟩
            refine lv_iinc (v := x18) (lv' := [(4, .int x18), (6, .int 0), (5, .int 0), (0, .ref (b + 71)), (1, .int k), (2, .int u), (3, .int y3)]) hx hb dX0_bestKind_94 hl (k := 6) rfl (by rw [ex18]; rfl) (by decide) rfl (fun ls hl => ?_)
            have tx18 : x18.toInt = y4.toInt + 1 := m_addI ex18 (rfl : y4.toInt = _) (by decide : (1 : Int32).toInt = 1) (by omega) (by omega)
            refine lv_goto (tgt := 5) hx hb dX0_bestKind_97 (by decide) ?_
            exact ih y3 x18 (by omega) (by omega) μ hI hm (by exact ht) (hfw) (hfh) (hfo) ((by rw [m_cl1 (x := x18) (y := y4) (by omega) (by omega)]; first | (rw [m_bk0 (by omega)]; exact hsp))) _ _ hW ls (lv_sub hl [3, 4, 5, 6, 0] rfl)
          · have i17 := m_c5 (rfl : x3.toInt = _) (rfl : u.toInt = _) c17
            refine lv_aload_n hx hb dX0_bestKind_54 rfl (lv_at hl 1 rfl) ?_
            refine m_getr hx hb hts hown hW (71) 1 (73) rfl rfl cw_0 rfl (by decide) k_X0_15 dX0_bestKind_55 ?_
            refine lv_iload hx hb dX0_bestKind_58 (lv_at hl 5 rfl) ?_
            refine m_iald hx hb hW (73) rfl (m_ixI (rfl : y4.toInt = _) (by omega) (by omega)) dX0_bestKind_60 ?_
            refine lv_topi (fun x19 ex19 => ?_)
            have ex19 : x19 = x14 := by rw [ex19]; exact ex14.symm
            have ex19 := ex19.symm
            subst ex19
            refine lv_iload_n hx hb dX0_bestKind_61 rfl (lv_at hl 2 rfl) ?_
            refine lv_icmp_ne (tgt := 69) hx hb dX0_bestKind_62 (by decide) (fun c20 => ?_) (fun c20 => ?_)
            · have i20 := m_c6 (rfl : x14.toInt = _) (rfl : k.toInt = _) c20
              refine lv_iconst (v := 0) hx hb dX0_bestKind_69 (by decide) ?_
              refine lv_istore (lv' := [(6, .int 0), (5, .int 0), (0, .ref (b + 71)), (1, .int k), (2, .int u), (3, .int y3), (4, .int y4)]) hx hb dX0_bestKind_70 hl (by decide) rfl (fun ls hl => ?_)
              refine lv_iload hx hb dX0_bestKind_72 (lv_at hl 1 rfl) ?_
              refine lv_if_ne (tgt := 82) hx hb dX0_bestKind_74 (by decide) (fun c => False.elim (by revert c; decide)) (fun _ => ?_)
              refine lv_iload hx hb dX0_bestKind_77 (lv_at hl 0 rfl) ?_
              refine lv_if_eq (tgt := 94) hx hb dX0_bestKind_79 (by decide) (fun _ => ?_) (fun c => False.elim (by revert c; decide))
              obtain ⟨x21, ex21⟩ : ∃ z : Int32, z = y4 + 1 := ⟨_, rfl⟩
              refine lv_iinc (v := x21) (lv' := [(4, .int x21), (6, .int 0), (5, .int 0), (0, .ref (b + 71)), (1, .int k), (2, .int u), (3, .int y3)]) hx hb dX0_bestKind_94 hl (k := 6) rfl (by rw [ex21]; rfl) (by decide) rfl (fun ls hl => ?_)
              have tx21 : x21.toInt = y4.toInt + 1 := m_addI ex21 (rfl : y4.toInt = _) (by decide : (1 : Int32).toInt = 1) (by omega) (by omega)
              refine lv_goto (tgt := 5) hx hb dX0_bestKind_97 (by decide) ?_
              exact ih y3 x21 (by omega) (by omega) μ hI hm (by exact ht) (hfw) (hfh) (hfo) ((by rw [m_cl1 (x := x21) (y := y4) (by omega) (by omega)]; first | (rw [m_bk0 (by omega)]; exact hsp))) _ _ hW ls (lv_sub hl [3, 4, 5, 6, 0] rfl)
            · have i20 := m_c5 (rfl : x14.toInt = _) (rfl : k.toInt = _) c20
              refine lv_iconst (v := 1) hx hb dX0_bestKind_65 (by decide) ?_
              refine lv_goto (tgt := 70) hx hb dX0_bestKind_66 (by decide) ?_
              refine lv_istore (lv' := [(6, .int 1), (5, .int 0), (0, .ref (b + 71)), (1, .int k), (2, .int u), (3, .int y3), (4, .int y4)]) hx hb dX0_bestKind_70 hl (by decide) rfl (fun ls hl => ?_)
              refine lv_iload hx hb dX0_bestKind_72 (lv_at hl 1 rfl) ?_
              refine lv_if_ne (tgt := 82) hx hb dX0_bestKind_74 (by decide) (fun c => False.elim (by revert c; decide)) (fun _ => ?_)
              refine lv_iload hx hb dX0_bestKind_77 (lv_at hl 0 rfl) ?_
              refine lv_if_eq (tgt := 94) hx hb dX0_bestKind_79 (by decide) (fun c => False.elim (by revert c; decide)) (fun _ => ?_)
              refine lv_iload_n hx hb dX0_bestKind_82 rfl (lv_at hl 5 rfl) ?_
              refine lv_aload_n hx hb dX0_bestKind_83 rfl (lv_at hl 2 rfl) ?_
              refine m_getr hx hb hts hown hW (71) 2 (74) rfl rfl cw_0 rfl (by decide) k_X0_18 dX0_bestKind_84 ?_
              refine lv_iload hx hb dX0_bestKind_87 (lv_at hl 6 rfl) ?_
              refine m_iald hx hb hW (74) rfl (m_ixI (rfl : y4.toInt = _) (by omega) (by omega)) dX0_bestKind_89 ?_
              refine lv_topi (fun x22 ex22 => ?_)
              have h_x22 : x22 = fo y4.toNatClampNeg := by rw [ex22, hfo]
              have fx22 : (fo y4.toNatClampNeg).toInt = x22.toInt := by rw [← h_x22]
              refine va_mmax hx hb (hml.trans hl.1.symm) hown (hts _ k_X0_42) (hts _ kM_max_s) (hts _ kM_n) (hts _ kM_max_c) (Nat.le_of_ble_eq_true rfl) (Nat.le_of_ble_eq_true rfl) (Nat.le_of_ble_eq_true rfl) (Nat.le_of_ble_eq_true rfl) dX0_bestKind_90 ?_
              refine lv_topi (fun x23 ex23 => ?_)
              have tx23 : x23.toInt = max (y3.toInt) (x22.toInt) := m_max ex23 (rfl : y3.toInt = _) (rfl : x22.toInt = _)
              refine lv_istore_n (lv' := [(3, .int x23), (6, .int 1), (5, .int 0), (0, .ref (b + 71)), (1, .int k), (2, .int u), (4, .int y4)]) hx hb dX0_bestKind_93 rfl hl (by decide) rfl (fun ls hl => ?_)
              obtain ⟨x24, ex24⟩ : ∃ z : Int32, z = y4 + 1 := ⟨_, rfl⟩
              refine lv_iinc (v := x24) (lv' := [(4, .int x24), (3, .int x23), (6, .int 1), (5, .int 0), (0, .ref (b + 71)), (1, .int k), (2, .int u)]) hx hb dX0_bestKind_94 hl (k := 6) rfl (by rw [ex24]; rfl) (by decide) rfl (fun ls hl => ?_)
              have tx24 : x24.toInt = y4.toInt + 1 := m_addI ex24 (rfl : y4.toInt = _) (by decide : (1 : Int32).toInt = 1) (by omega) (by omega)
              refine lv_goto (tgt := 5) hx hb dX0_bestKind_97 (by decide) ?_
              exact ih x23 x24 (by omega) (by omega) μ hI hm (by exact ht) (hfw) (hfh) (hfo) ((by rw [m_cl1 (x := x24) (y := y4) (by omega) (by omega)]; first | (rw [m_bk1 (by omega), ← hsp, ← h_x22]; exact m_mxE ex23) | (rw [m_bk1 (by omega), ← hsp, ← h_x22]; unfold m_mx; rw [if_pos (by omega)]))) _ _ hW ls (lv_sub hl [4, 5, 6, 1, 0] rfl)
        · have i15 := m_c5 (rfl : x14.toInt = _) (rfl : u.toInt = _) c15
          refine lv_iconst (v := 1) hx hb dX0_bestKind_36 (by decide) ?_
          refine lv_goto (tgt := 41) hx hb dX0_bestKind_37 (by decide) ?_
          refine lv_istore (lv' := [(5, .int 1), (0, .ref (b + 71)), (1, .int k), (2, .int u), (3, .int y3), (4, .int y4)]) hx hb dX0_bestKind_41 hl (by decide) rfl (fun ls hl => ?_)
          refine lv_aload_n hx hb dX0_bestKind_43 rfl (lv_at hl 1 rfl) ?_
          refine m_getr hx hb hts hown hW (71) 0 (72) rfl rfl cw_0 rfl (by decide) k_X0_11 dX0_bestKind_44 ?_
          refine lv_iload hx hb dX0_bestKind_47 (lv_at hl 5 rfl) ?_
          refine m_iald hx hb hW (72) rfl (m_ixI (rfl : y4.toInt = _) (by omega) (by omega)) dX0_bestKind_49 ?_
          refine lv_topi (fun x25 ex25 => ?_)
          have ex25 : x25 = x3 := by rw [ex25]; exact ex3.symm
          have ex25 := ex25.symm
          subst ex25
          refine lv_iload_n hx hb dX0_bestKind_50 rfl (lv_at hl 3 rfl) ?_
          refine lv_icmp_ne (tgt := 69) hx hb dX0_bestKind_51 (by decide) (fun c26 => ?_) (fun c26 => ?_)
          · have i26 := m_c6 (rfl : x3.toInt = _) (rfl : u.toInt = _) c26
            refine lv_iconst (v := 0) hx hb dX0_bestKind_69 (by decide) ?_
            refine lv_istore (lv' := [(6, .int 0), (5, .int 1), (0, .ref (b + 71)), (1, .int k), (2, .int u), (3, .int y3), (4, .int y4)]) hx hb dX0_bestKind_70 hl (by decide) rfl (fun ls hl => ?_)
            refine lv_iload hx hb dX0_bestKind_72 (lv_at hl 1 rfl) ?_
            refine lv_if_ne (tgt := 82) hx hb dX0_bestKind_74 (by decide) (fun _ => ?_) (fun c => False.elim (by revert c; decide))
            refine lv_iload_n hx hb dX0_bestKind_82 rfl (lv_at hl 5 rfl) ?_
            refine lv_aload_n hx hb dX0_bestKind_83 rfl (lv_at hl 2 rfl) ?_
            refine m_getr hx hb hts hown hW (71) 2 (74) rfl rfl cw_0 rfl (by decide) k_X0_18 dX0_bestKind_84 ?_
            refine lv_iload hx hb dX0_bestKind_87 (lv_at hl 6 rfl) ?_
            refine m_iald hx hb hW (74) rfl (m_ixI (rfl : y4.toInt = _) (by omega) (by omega)) dX0_bestKind_89 ?_
            refine lv_topi (fun x27 ex27 => ?_)
            have h_x27 : x27 = fo y4.toNatClampNeg := by rw [ex27, hfo]
            have fx27 : (fo y4.toNatClampNeg).toInt = x27.toInt := by rw [← h_x27]
            refine va_mmax hx hb (hml.trans hl.1.symm) hown (hts _ k_X0_42) (hts _ kM_max_s) (hts _ kM_n) (hts _ kM_max_c) (Nat.le_of_ble_eq_true rfl) (Nat.le_of_ble_eq_true rfl) (Nat.le_of_ble_eq_true rfl) (Nat.le_of_ble_eq_true rfl) dX0_bestKind_90 ?_
            refine lv_topi (fun x28 ex28 => ?_)
            have tx28 : x28.toInt = max (y3.toInt) (x27.toInt) := m_max ex28 (rfl : y3.toInt = _) (rfl : x27.toInt = _)
            refine lv_istore_n (lv' := [(3, .int x28), (6, .int 0), (5, .int 1), (0, .ref (b + 71)), (1, .int k), (2, .int u), (4, .int y4)]) hx hb dX0_bestKind_93 rfl hl (by decide) rfl (fun ls hl => ?_)
            obtain ⟨x29, ex29⟩ : ∃ z : Int32, z = y4 + 1 := ⟨_, rfl⟩
            refine lv_iinc (v := x29) (lv' := [(4, .int x29), (3, .int x28), (6, .int 0), (5, .int 1), (0, .ref (b + 71)), (1, .int k), (2, .int u)]) hx hb dX0_bestKind_94 hl (k := 6) rfl (by rw [ex29]; rfl) (by decide) rfl (fun ls hl => ?_)
            have tx29 : x29.toInt = y4.toInt + 1 := m_addI ex29 (rfl : y4.toInt = _) (by decide : (1 : Int32).toInt = 1) (by omega) (by omega)
            refine lv_goto (tgt := 5) hx hb dX0_bestKind_97 (by decide) ?_
            exact ih x28 x29 (by omega) (by omega) μ hI hm (by exact ht) (hfw) (hfh) (hfo) ((by rw [m_cl1 (x := x29) (y := y4) (by omega) (by omega)]; first | (rw [m_bk1 (by omega), ← hsp, ← h_x27]; exact m_mxE ex28) | (rw [m_bk1 (by omega), ← hsp, ← h_x27]; unfold m_mx; rw [if_pos (by omega)]))) _ _ hW ls (lv_sub hl [4, 5, 6, 1, 0] rfl)
          · have i26 := m_c5 (rfl : x3.toInt = _) (rfl : u.toInt = _) c26
            refine lv_aload_n hx hb dX0_bestKind_54 rfl (lv_at hl 1 rfl) ?_
            refine m_getr hx hb hts hown hW (71) 1 (73) rfl rfl cw_0 rfl (by decide) k_X0_15 dX0_bestKind_55 ?_
            refine lv_iload hx hb dX0_bestKind_58 (lv_at hl 5 rfl) ?_
            refine m_iald hx hb hW (73) rfl (m_ixI (rfl : y4.toInt = _) (by omega) (by omega)) dX0_bestKind_60 ?_
            refine lv_topi (fun x30 ex30 => ?_)
            have ex30 : x30 = x14 := by rw [ex30]; exact ex14.symm
            have ex30 := ex30.symm
            subst ex30
            refine lv_iload_n hx hb dX0_bestKind_61 rfl (lv_at hl 2 rfl) ?_
            refine lv_icmp_ne (tgt := 69) hx hb dX0_bestKind_62 (by decide) (fun c31 => ?_) (fun c31 => ?_)
            · have i31 := m_c6 (rfl : x14.toInt = _) (rfl : k.toInt = _) c31
              refine lv_iconst (v := 0) hx hb dX0_bestKind_69 (by decide) ?_
              refine lv_istore (lv' := [(6, .int 0), (5, .int 1), (0, .ref (b + 71)), (1, .int k), (2, .int u), (3, .int y3), (4, .int y4)]) hx hb dX0_bestKind_70 hl (by decide) rfl (fun ls hl => ?_)
              refine lv_iload hx hb dX0_bestKind_72 (lv_at hl 1 rfl) ?_
              refine lv_if_ne (tgt := 82) hx hb dX0_bestKind_74 (by decide) (fun _ => ?_) (fun c => False.elim (by revert c; decide))
              refine lv_iload_n hx hb dX0_bestKind_82 rfl (lv_at hl 5 rfl) ?_
              refine lv_aload_n hx hb dX0_bestKind_83 rfl (lv_at hl 2 rfl) ?_
              refine m_getr hx hb hts hown hW (71) 2 (74) rfl rfl cw_0 rfl (by decide) k_X0_18 dX0_bestKind_84 ?_
              refine lv_iload hx hb dX0_bestKind_87 (lv_at hl 6 rfl) ?_
              refine m_iald hx hb hW (74) rfl (m_ixI (rfl : y4.toInt = _) (by omega) (by omega)) dX0_bestKind_89 ?_
              refine lv_topi (fun x32 ex32 => ?_)
              have h_x32 : x32 = fo y4.toNatClampNeg := by rw [ex32, hfo]
              have fx32 : (fo y4.toNatClampNeg).toInt = x32.toInt := by rw [← h_x32]
              refine va_mmax hx hb (hml.trans hl.1.symm) hown (hts _ k_X0_42) (hts _ kM_max_s) (hts _ kM_n) (hts _ kM_max_c) (Nat.le_of_ble_eq_true rfl) (Nat.le_of_ble_eq_true rfl) (Nat.le_of_ble_eq_true rfl) (Nat.le_of_ble_eq_true rfl) dX0_bestKind_90 ?_
              refine lv_topi (fun x33 ex33 => ?_)
              have tx33 : x33.toInt = max (y3.toInt) (x32.toInt) := m_max ex33 (rfl : y3.toInt = _) (rfl : x32.toInt = _)
              refine lv_istore_n (lv' := [(3, .int x33), (6, .int 0), (5, .int 1), (0, .ref (b + 71)), (1, .int k), (2, .int u), (4, .int y4)]) hx hb dX0_bestKind_93 rfl hl (by decide) rfl (fun ls hl => ?_)
              obtain ⟨x34, ex34⟩ : ∃ z : Int32, z = y4 + 1 := ⟨_, rfl⟩
              refine lv_iinc (v := x34) (lv' := [(4, .int x34), (3, .int x33), (6, .int 0), (5, .int 1), (0, .ref (b + 71)), (1, .int k), (2, .int u)]) hx hb dX0_bestKind_94 hl (k := 6) rfl (by rw [ex34]; rfl) (by decide) rfl (fun ls hl => ?_)
              have tx34 : x34.toInt = y4.toInt + 1 := m_addI ex34 (rfl : y4.toInt = _) (by decide : (1 : Int32).toInt = 1) (by omega) (by omega)
              refine lv_goto (tgt := 5) hx hb dX0_bestKind_97 (by decide) ?_
              exact ih x33 x34 (by omega) (by omega) μ hI hm (by exact ht) (hfw) (hfh) (hfo) ((by rw [m_cl1 (x := x34) (y := y4) (by omega) (by omega)]; first | (rw [m_bk1 (by omega), ← hsp, ← h_x32]; exact m_mxE ex33) | (rw [m_bk1 (by omega), ← hsp, ← h_x32]; unfold m_mx; rw [if_pos (by omega)]))) _ _ hW ls (lv_sub hl [4, 5, 6, 1, 0] rfl)
            · have i31 := m_c5 (rfl : x14.toInt = _) (rfl : k.toInt = _) c31
              refine lv_iconst (v := 1) hx hb dX0_bestKind_65 (by decide) ?_
              refine lv_goto (tgt := 70) hx hb dX0_bestKind_66 (by decide) ?_
              refine lv_istore (lv' := [(6, .int 1), (5, .int 1), (0, .ref (b + 71)), (1, .int k), (2, .int u), (3, .int y3), (4, .int y4)]) hx hb dX0_bestKind_70 hl (by decide) rfl (fun ls hl => ?_)
              refine lv_iload hx hb dX0_bestKind_72 (lv_at hl 1 rfl) ?_
              refine lv_if_ne (tgt := 82) hx hb dX0_bestKind_74 (by decide) (fun _ => ?_) (fun c => False.elim (by revert c; decide))
              refine lv_iload_n hx hb dX0_bestKind_82 rfl (lv_at hl 5 rfl) ?_
              refine lv_aload_n hx hb dX0_bestKind_83 rfl (lv_at hl 2 rfl) ?_
              refine m_getr hx hb hts hown hW (71) 2 (74) rfl rfl cw_0 rfl (by decide) k_X0_18 dX0_bestKind_84 ?_
              refine lv_iload hx hb dX0_bestKind_87 (lv_at hl 6 rfl) ?_
              refine m_iald hx hb hW (74) rfl (m_ixI (rfl : y4.toInt = _) (by omega) (by omega)) dX0_bestKind_89 ?_
              refine lv_topi (fun x35 ex35 => ?_)
              have h_x35 : x35 = fo y4.toNatClampNeg := by rw [ex35, hfo]
              have fx35 : (fo y4.toNatClampNeg).toInt = x35.toInt := by rw [← h_x35]
              refine va_mmax hx hb (hml.trans hl.1.symm) hown (hts _ k_X0_42) (hts _ kM_max_s) (hts _ kM_n) (hts _ kM_max_c) (Nat.le_of_ble_eq_true rfl) (Nat.le_of_ble_eq_true rfl) (Nat.le_of_ble_eq_true rfl) (Nat.le_of_ble_eq_true rfl) dX0_bestKind_90 ?_
              refine lv_topi (fun x36 ex36 => ?_)
              have tx36 : x36.toInt = max (y3.toInt) (x35.toInt) := m_max ex36 (rfl : y3.toInt = _) (rfl : x35.toInt = _)
              refine lv_istore_n (lv' := [(3, .int x36), (6, .int 1), (5, .int 1), (0, .ref (b + 71)), (1, .int k), (2, .int u), (4, .int y4)]) hx hb dX0_bestKind_93 rfl hl (by decide) rfl (fun ls hl => ?_)
              obtain ⟨x37, ex37⟩ : ∃ z : Int32, z = y4 + 1 := ⟨_, rfl⟩
              refine lv_iinc (v := x37) (lv' := [(4, .int x37), (3, .int x36), (6, .int 1), (5, .int 1), (0, .ref (b + 71)), (1, .int k), (2, .int u)]) hx hb dX0_bestKind_94 hl (k := 6) rfl (by rw [ex37]; rfl) (by decide) rfl (fun ls hl => ?_)
              have tx37 : x37.toInt = y4.toInt + 1 := m_addI ex37 (rfl : y4.toInt = _) (by decide : (1 : Int32).toInt = 1) (by omega) (by omega)
              refine lv_goto (tgt := 5) hx hb dX0_bestKind_97 (by decide) ?_
              exact ih x36 x37 (by omega) (by omega) μ hI hm (by exact ht) (hfw) (hfh) (hfo) ((by rw [m_cl1 (x := x37) (y := y4) (by omega) (by omega)]; first | (rw [m_bk1 (by omega), ← hsp, ← h_x35]; exact m_mxE ex36) | (rw [m_bk1 (by omega), ← hsp, ← h_x35]; unfold m_mx; rw [if_pos (by omega)]))) _ _ hW ls (lv_sub hl [4, 5, 6, 1, 0] rfl)
set_option maxHeartbeats 4000000 in
set_option maxRecDepth 100000 in
theorem g_X0_bestKind_g (l : Launch) (D : va_G) (cy : Nat → ClassId) (b : Nat) (t : Int32) (h_t : 0 ≤ t.toInt ∧ t.toInt ≤ 6) (fw fh fo : Nat → Int32) (k u : Int32) (h_k : 1 ≤ k.toInt ∧ k.toInt ≤ 40) (h_u : 1 ≤ u.toInt ∧ u.toInt ≤ 40) (μ : mM) (hI : IX μ) (ht : μ.1 71 4 = t) (hfw : μ.1 72 = fw) (hfh : μ.1 73 = fh) (hfo : μ.1 74 = fo) : m_Ci l yX0_bestKind cX0_bestKind 7 ((some .int)) 1 D cy b LAY μ [.ref (b + 71), .int k, .int u] (fun r ν => μ = ν ∧ (r = m_bk fw fh fo k.toInt u.toInt t.toNatClampNeg)) := by
  unfold m_Ci
  refine m_of (by decide) (Nat.le_of_ble_eq_true rfl) ?_
  intro p e s m below meth c hx hb hr hml hown hts hlocks _ hW ls hl
  have hown : s.vm.findClass RX0 = some m.cls := hown
  have hl : lv_has ls 7 [(0, .ref (b + 71)), (1, .int k), (2, .int u)] := hl
  refine lv_iconst (v := 0) hx hb dX0_bestKind_0 (by decide) ?_
  refine lv_istore_n (lv' := [(3, .int 0), (0, .ref (b + 71)), (1, .int k), (2, .int u)]) hx hb dX0_bestKind_1 rfl hl (by decide) rfl (fun ls hl => ?_)
  refine lv_iconst (v := 0) hx hb dX0_bestKind_2 (by decide) ?_
  refine lv_istore (lv' := [(4, .int 0), (3, .int 0), (0, .ref (b + 71)), (1, .int k), (2, .int u)]) hx hb dX0_bestKind_3 hl (by decide) rfl (fun ls hl => ?_)
  have l_0 : (0 : Int32).toInt = 0 := by decide
  exact L_X0_bestKind_g_5 hx hb hr hml hown hts hlocks μ t h_t fw fh fo k u h_k h_u  7 0 0 (by omega) (by omega) μ hI rfl (by exact ht) (hfw) (hfh) (hfo) (rfl) _ _ hW ls (lv_sub hl [2, 3, 4, 1, 0] rfl)
set_option maxHeartbeats 4000000 in
set_option maxRecDepth 100000 in
theorem L_X0_bestCut_g_54 {p : Program} {l : Launch} {e : Env} {s : State} {m : MethodId} {args : Array Value} {below : List Frame} {meth : Method} {c : Code} {D : va_G} {cy : Nat → ClassId} {b : Nat} (hx : p.tables.exec = Jvm.exec) (hb : c.code = cX0_bestCut) (hr : meth.sig.returnType = ((some .int))) (hml : c.maxLocals = 5) (hown : s.vm.findClass RX0 = some m.cls) (hts : ∀ w ∈ TB, w.before args s = true) (hlocks : meth.locks = false) (μ1 : mM) (fb : Nat → Int32) (k u : Int32) (h_k : 1 ≤ k.toInt ∧ k.toInt ≤ 40) (h_u : 1 ≤ u.toInt ∧ u.toInt ≤ 40) : ∀ (f : Nat), ∀ (y3 y4 : Int32) (hy : 1 ≤ y4.toInt ∧ y4.toInt ≤ 40 ∧ y4.toInt ≤ u.toInt / 2 + 1) (hf : 40 - y4.toInt < (f : Int)) (μ : mM) (hI : IX μ) (hm : μ = μ1) (hfb : μ.1 75 = fb) (hsp : y3 = m_ch fb k.toNatClampNeg u.toNatClampNeg (y4.toNatClampNeg - 1) (m_cw fb k.toNatClampNeg u.toNatClampNeg (k.toNatClampNeg / 2) 0)) (H : Heap) (locs : List Loc), m_WA (m_A b LAY) D cy s b LAY μ H locs → ∀ ls : Array Slot, lv_has ls 5 [(0, .ref (b + 71)), (1, .int k), (2, .int u), (3, .int y3), (4, .int y4)] → W p l e (m_R 1 0 0) s m args below meth c H locs 0 0 (MQ below (m_Qi D cy b LAY (fun r ν => μ1 = ν ∧ (r = m_ch fb k.toNatClampNeg u.toNatClampNeg (u.toNatClampNeg / 2) (m_cw fb k.toNatClampNeg u.toNatClampNeg (k.toNatClampNeg / 2) 0)))) args s 0 0 (m_A b LAY)) (F0 m 54 ls []) := by
  intro f
  induction f with
  | zero => intro y3 y4 hy hf; exfalso; omega
  | succ f ih =>
    intro y3 y4 hy hf μ hI hm hfb hsp H locs hW ls hl
    refine lv_iload hx hb dX0_bestCut_54 (lv_at hl 4 rfl) ?_
    refine lv_iload_n hx hb dX0_bestCut_56 rfl (lv_at hl 2 rfl) ?_
    refine lv_iconst (v := 2) hx hb dX0_bestCut_57 (by decide) ?_
    refine lv_idiv hx hb dX0_bestCut_58 (by decide) ?_
    refine lv_topi (fun x1 ex1 => ?_)
    have tx1 : x1.toInt = u.toInt / 2 := m_divI ex1 (rfl : u.toInt = _) (by decide : (2 : Int32).toInt = 2) (by omega) (by decide)
    refine lv_icmp_gt (tgt := 100) hx hb dX0_bestCut_59 (by decide) (fun c2 => ?_) (fun c2 => ?_)
    · have i2 := m_c1 (rfl : x1.toInt = _) (rfl : y4.toInt = _) c2
      refine lv_iload_n hx hb dX0_bestCut_100 rfl (lv_at hl 3 rfl) ?_
      exact m_iret hx hb hr hlocks hW rfl (⟨hm.symm, (by rw [show u.toNatClampNeg / 2 = y4.toNatClampNeg - 1 from by have := m_ckI (x := y4) (by omega); have := m_ckI (x := u) (by omega); omega]; exact hsp)⟩) dX0_bestCut_101
    · have i2 := m_c2 (rfl : x1.toInt = _) (rfl : y4.toInt = _) c2
      refine lv_iload_n hx hb dX0_bestCut_62 rfl (lv_at hl 3 rfl) ?_
      refine lv_aload_n hx hb dX0_bestCut_63 rfl (lv_at hl 0 rfl) ?_
      refine m_getr hx hb hts hown hW (71) 3 (75) rfl rfl cw_0 rfl (by decide) k_X0_21 dX0_bestCut_64 ?_
      refine lv_iload_n hx hb dX0_bestCut_67 rfl (lv_at hl 1 rfl) ?_
      refine lv_bipush (v := 41) hx hb dX0_bestCut_68 (by decide) ?_
      refine lv_imul hx hb dX0_bestCut_70 ?_
      refine lv_topi (fun x3 ex3 => ?_)
      have tx3 : x3.toInt = k.toInt * 41 := m_mulI ex3 (rfl : k.toInt = _) (by decide : (41 : Int32).toInt = 41) (by omega) (by omega)
      refine lv_iload hx hb dX0_bestCut_71 (lv_at hl 4 rfl) ?_
      refine lv_iadd hx hb dX0_bestCut_73 ?_
      refine lv_topi (fun x4 ex4 => ?_)
      have tx4 : x4.toInt = x3.toInt + y4.toInt := m_addI ex4 (rfl : x3.toInt = _) (rfl : y4.toInt = _) (by omega) (by omega)
      refine m_iald hx hb hW (75) rfl (m_ixI (rfl : x4.toInt = _) (by omega) (by omega)) dX0_bestCut_74 ?_
      refine lv_topi (fun x5 ex5 => ?_)
      have h_x5 : x5 = fb x4.toNatClampNeg := by rw [ex5, hfb]
      refine lv_aload_n hx hb dX0_bestCut_75 rfl (lv_at hl 0 rfl) ?_
      refine m_getr hx hb hts hown hW (71) 3 (75) rfl rfl cw_0 rfl (by decide) k_X0_21 dX0_bestCut_76 ?_
      refine lv_iload_n hx hb dX0_bestCut_79 rfl (lv_at hl 1 rfl) ?_
      refine lv_bipush (v := 41) hx hb dX0_bestCut_80 (by decide) ?_
      refine lv_imul hx hb dX0_bestCut_82 ?_
      refine lv_topi (fun x6 ex6 => ?_)
      have ex6 : x6 = x3 := ex6.trans ex3.symm
      have ex6 := ex6.symm
      subst ex6
      refine lv_iload_n hx hb dX0_bestCut_83 rfl (lv_at hl 2 rfl) ?_
      refine lv_iadd hx hb dX0_bestCut_84 ?_
      refine lv_topi (fun x7 ex7 => ?_)
      have tx7 : x7.toInt = x3.toInt + u.toInt := m_addI ex7 (rfl : x3.toInt = _) (rfl : u.toInt = _) (by omega) (by omega)
      refine lv_iload hx hb dX0_bestCut_85 (lv_at hl 4 rfl) ?_
      refine lv_isub hx hb dX0_bestCut_87 ?_
      refine lv_topi (fun x8 ex8 => ?_)
      have tx8 : x8.toInt = x7.toInt - y4.toInt := m_subI ex8 (rfl : x7.toInt = _) (rfl : y4.toInt = _) (by omega) (by omega)
      refine m_iald hx hb hW (75) rfl (m_ixI (rfl : x8.toInt = _) (by omega) (by omega)) dX0_bestCut_88 ?_
      refine lv_topi (fun x9 ex9 => ?_)
      have h_x9 : x9 = fb x8.toNatClampNeg := by rw [ex9, hfb]
      refine lv_iadd hx hb dX0_bestCut_89 ?_
      refine lv_topi (fun x10 ex10 => ?_)
      refine va_mmax hx hb (hml.trans hl.1.symm) hown (hts _ k_X0_42) (hts _ kM_max_s) (hts _ kM_n) (hts _ kM_max_c) (Nat.le_of_ble_eq_true rfl) (Nat.le_of_ble_eq_true rfl) (Nat.le_of_ble_eq_true rfl) (Nat.le_of_ble_eq_true rfl) dX0_bestCut_90 ?_
      refine lv_topi (fun x11 ex11 => ?_)
      have tx11 : x11.toInt = max (y3.toInt) (x10.toInt) := m_max ex11 (rfl : y3.toInt = _) (rfl : x10.toInt = _)
      refine lv_istore_n (lv' := [(3, .int x11), (0, .ref (b + 71)), (1, .int k), (2, .int u), (4, .int y4)]) hx hb dX0_bestCut_93 rfl hl (by decide) rfl (fun ls hl => ?_)
      obtain ⟨x12, ex12⟩ : ∃ z : Int32, z = y4 + 1 := ⟨_, rfl⟩
      refine lv_iinc (v := x12) (lv' := [(4, .int x12), (3, .int x11), (0, .ref (b + 71)), (1, .int k), (2, .int u)]) hx hb dX0_bestCut_94 hl (k := 4) rfl (by rw [ex12]; rfl) (by decide) rfl (fun ls hl => ?_)
      have tx12 : x12.toInt = y4.toInt + 1 := m_addI ex12 (rfl : y4.toInt = _) (by decide : (1 : Int32).toInt = 1) (by omega) (by omega)
      refine lv_goto (tgt := 54) hx hb dX0_bestCut_97 (by decide) ?_
      exact ih x11 x12 (by omega) (by omega) μ hI hm (hfb) ((by have := m_ckI (x := y4) (by omega); have := m_ckI (x := x12) (by omega); have := m_ckI (x := k) (by omega); have := m_ckI (x := u) (by omega); have := m_ckI (x := x4) (by omega); have := m_ckI (x := x8) (by omega); rw [show x12.toNatClampNeg - 1 = (y4.toNatClampNeg - 1) + 1 from by omega]; show _ = m_mx (m_ch fb k.toNatClampNeg u.toNatClampNeg (y4.toNatClampNeg - 1) (m_cw fb k.toNatClampNeg u.toNatClampNeg (k.toNatClampNeg / 2) 0)) (fb (41 * k.toNatClampNeg + (y4.toNatClampNeg - 1 + 1)) + fb (41 * k.toNatClampNeg + (u.toNatClampNeg - (y4.toNatClampNeg - 1 + 1)))); rw [← hsp, show 41 * k.toNatClampNeg + (y4.toNatClampNeg - 1 + 1) = x4.toNatClampNeg from by omega, show 41 * k.toNatClampNeg + (u.toNatClampNeg - (y4.toNatClampNeg - 1 + 1)) = x8.toNatClampNeg from by omega, ← h_x5, ← h_x9, ← ex10]; exact m_mxE ex11)) _ _ hW ls (lv_sub hl [2, 3, 4, 1, 0] rfl)
set_option maxHeartbeats 4000000 in
set_option maxRecDepth 100000 in
theorem L_X0_bestCut_g_5 {p : Program} {l : Launch} {e : Env} {s : State} {m : MethodId} {args : Array Value} {below : List Frame} {meth : Method} {c : Code} {D : va_G} {cy : Nat → ClassId} {b : Nat} (hx : p.tables.exec = Jvm.exec) (hb : c.code = cX0_bestCut) (hr : meth.sig.returnType = ((some .int))) (hml : c.maxLocals = 5) (hown : s.vm.findClass RX0 = some m.cls) (hts : ∀ w ∈ TB, w.before args s = true) (hlocks : meth.locks = false) (μ1 : mM) (fb : Nat → Int32) (k u : Int32) (h_k : 1 ≤ k.toInt ∧ k.toInt ≤ 40) (h_u : 1 ≤ u.toInt ∧ u.toInt ≤ 40) : ∀ (f : Nat), ∀ (y3 y4 : Int32) (hy : 1 ≤ y4.toInt ∧ y4.toInt ≤ 40 ∧ y4.toInt ≤ k.toInt / 2 + 1) (hf : 40 - y4.toInt < (f : Int)) (μ : mM) (hI : IX μ) (hm : μ = μ1) (hfb : μ.1 75 = fb) (hsp : y3 = m_cw fb k.toNatClampNeg u.toNatClampNeg (y4.toNatClampNeg - 1) 0) (H : Heap) (locs : List Loc), m_WA (m_A b LAY) D cy s b LAY μ H locs → ∀ ls : Array Slot, lv_has ls 5 [(0, .ref (b + 71)), (1, .int k), (2, .int u), (3, .int y3), (4, .int y4)] → W p l e (m_R 1 0 0) s m args below meth c H locs 0 0 (MQ below (m_Qi D cy b LAY (fun r ν => μ1 = ν ∧ (r = m_ch fb k.toNatClampNeg u.toNatClampNeg (u.toNatClampNeg / 2) (m_cw fb k.toNatClampNeg u.toNatClampNeg (k.toNatClampNeg / 2) 0)))) args s 0 0 (m_A b LAY)) (F0 m 5 ls []) := by
  intro f
  induction f with
  | zero => intro y3 y4 hy hf; exfalso; omega
  | succ f ih =>
    intro y3 y4 hy hf μ hI hm hfb hsp H locs hW ls hl
    refine lv_iload hx hb dX0_bestCut_5 (lv_at hl 4 rfl) ?_
    refine lv_iload_n hx hb dX0_bestCut_7 rfl (lv_at hl 1 rfl) ?_
    refine lv_iconst (v := 2) hx hb dX0_bestCut_8 (by decide) ?_
    refine lv_idiv hx hb dX0_bestCut_9 (by decide) ?_
    refine lv_topi (fun x1 ex1 => ?_)
    have tx1 : x1.toInt = k.toInt / 2 := m_divI ex1 (rfl : k.toInt = _) (by decide : (2 : Int32).toInt = 2) (by omega) (by decide)
    refine lv_icmp_gt (tgt := 51) hx hb dX0_bestCut_10 (by decide) (fun c2 => ?_) (fun c2 => ?_)
    · have i2 := m_c1 (rfl : x1.toInt = _) (rfl : y4.toInt = _) c2
      refine lv_iconst (v := 1) hx hb dX0_bestCut_51 (by decide) ?_
      refine lv_istore (lv' := [(4, .int 1), (0, .ref (b + 71)), (1, .int k), (2, .int u), (3, .int y3)]) hx hb dX0_bestCut_52 hl (by decide) rfl (fun ls hl => ?_)
      have l_1 : (1 : Int32).toInt = 1 := by decide
      exact L_X0_bestCut_g_54 hx hb hr hml hown hts hlocks μ1 fb k u h_k h_u  41 y3 1 (by omega) (by omega) μ hI hm (hfb) ((by rw [show k.toNatClampNeg / 2 = y4.toNatClampNeg - 1 from by have := m_ckI (x := y4) (by omega); have := m_ckI (x := k) (by omega); omega]; exact hsp)) _ _ hW ls (lv_sub hl [1, 2, 3, 4, 0] rfl)
    · have i2 := m_c2 (rfl : x1.toInt = _) (rfl : y4.toInt = _) c2
      refine lv_iload_n hx hb dX0_bestCut_13 rfl (lv_at hl 3 rfl) ?_
      refine lv_aload_n hx hb dX0_bestCut_14 rfl (lv_at hl 0 rfl) ?_
      refine m_getr hx hb hts hown hW (71) 3 (75) rfl rfl cw_0 rfl (by decide) k_X0_21 dX0_bestCut_15 ?_
      refine lv_iload hx hb dX0_bestCut_18 (lv_at hl 4 rfl) ?_
      refine lv_bipush (v := 41) hx hb dX0_bestCut_20 (by decide) ?_
      refine lv_imul hx hb dX0_bestCut_22 ?_
      refine lv_topi (fun x3 ex3 => ?_)
      have tx3 : x3.toInt = y4.toInt * 41 := m_mulI ex3 (rfl : y4.toInt = _) (by decide : (41 : Int32).toInt = 41) (by omega) (by omega)
      refine lv_iload_n hx hb dX0_bestCut_23 rfl (lv_at hl 2 rfl) ?_
      refine lv_iadd hx hb dX0_bestCut_24 ?_
      refine lv_topi (fun x4 ex4 => ?_)
      have tx4 : x4.toInt = x3.toInt + u.toInt := m_addI ex4 (rfl : x3.toInt = _) (rfl : u.toInt = _) (by omega) (by omega)
      refine m_iald hx hb hW (75) rfl (m_ixI (rfl : x4.toInt = _) (by omega) (by omega)) dX0_bestCut_25 ?_
      refine lv_topi (fun x5 ex5 => ?_)
      have h_x5 : x5 = fb x4.toNatClampNeg := by rw [ex5, hfb]
      refine lv_aload_n hx hb dX0_bestCut_26 rfl (lv_at hl 0 rfl) ?_
      refine m_getr hx hb hts hown hW (71) 3 (75) rfl rfl cw_0 rfl (by decide) k_X0_21 dX0_bestCut_27 ?_
      refine lv_iload_n hx hb dX0_bestCut_30 rfl (lv_at hl 1 rfl) ?_
      refine lv_iload hx hb dX0_bestCut_31 (lv_at hl 4 rfl) ?_
      refine lv_isub hx hb dX0_bestCut_33 ?_
      refine lv_topi (fun x6 ex6 => ?_)
      have tx6 : x6.toInt = k.toInt - y4.toInt := m_subI ex6 (rfl : k.toInt = _) (rfl : y4.toInt = _) (by omega) (by omega)
      refine lv_bipush (v := 41) hx hb dX0_bestCut_34 (by decide) ?_
      refine lv_imul hx hb dX0_bestCut_36 ?_
      refine lv_topi (fun x7 ex7 => ?_)
      have tx7 : x7.toInt = x6.toInt * 41 := m_mulI ex7 (rfl : x6.toInt = _) (by decide : (41 : Int32).toInt = 41) (by omega) (by omega)
      refine lv_iload_n hx hb dX0_bestCut_37 rfl (lv_at hl 2 rfl) ?_
      refine lv_iadd hx hb dX0_bestCut_38 ?_
      refine lv_topi (fun x8 ex8 => ?_)
      have tx8 : x8.toInt = x7.toInt + u.toInt := m_addI ex8 (rfl : x7.toInt = _) (rfl : u.toInt = _) (by omega) (by omega)
      refine m_iald hx hb hW (75) rfl (m_ixI (rfl : x8.toInt = _) (by omega) (by omega)) dX0_bestCut_39 ?_
      refine lv_topi (fun x9 ex9 => ?_)
      have h_x9 : x9 = fb x8.toNatClampNeg := by rw [ex9, hfb]
      refine lv_iadd hx hb dX0_bestCut_40 ?_
      refine lv_topi (fun x10 ex10 => ?_)
      refine va_mmax hx hb (hml.trans hl.1.symm) hown (hts _ k_X0_42) (hts _ kM_max_s) (hts _ kM_n) (hts _ kM_max_c) (Nat.le_of_ble_eq_true rfl) (Nat.le_of_ble_eq_true rfl) (Nat.le_of_ble_eq_true rfl) (Nat.le_of_ble_eq_true rfl) dX0_bestCut_41 ?_
      refine lv_topi (fun x11 ex11 => ?_)
      have tx11 : x11.toInt = max (y3.toInt) (x10.toInt) := m_max ex11 (rfl : y3.toInt = _) (rfl : x10.toInt = _)
      refine lv_istore_n (lv' := [(3, .int x11), (0, .ref (b + 71)), (1, .int k), (2, .int u), (4, .int y4)]) hx hb dX0_bestCut_44 rfl hl (by decide) rfl (fun ls hl => ?_)
      obtain ⟨x12, ex12⟩ : ∃ z : Int32, z = y4 + 1 := ⟨_, rfl⟩
      refine lv_iinc (v := x12) (lv' := [(4, .int x12), (3, .int x11), (0, .ref (b + 71)), (1, .int k), (2, .int u)]) hx hb dX0_bestCut_45 hl (k := 4) rfl (by rw [ex12]; rfl) (by decide) rfl (fun ls hl => ?_)
      have tx12 : x12.toInt = y4.toInt + 1 := m_addI ex12 (rfl : y4.toInt = _) (by decide : (1 : Int32).toInt = 1) (by omega) (by omega)
      refine lv_goto (tgt := 5) hx hb dX0_bestCut_48 (by decide) ?_
      exact ih x11 x12 (by omega) (by omega) μ hI hm (hfb) ((by have := m_ckI (x := y4) (by omega); have := m_ckI (x := x12) (by omega); have := m_ckI (x := k) (by omega); have := m_ckI (x := u) (by omega); have := m_ckI (x := x4) (by omega); have := m_ckI (x := x8) (by omega); rw [show x12.toNatClampNeg - 1 = (y4.toNatClampNeg - 1) + 1 from by omega]; show _ = m_mx (m_cw fb k.toNatClampNeg u.toNatClampNeg (y4.toNatClampNeg - 1) 0) (fb (41 * (y4.toNatClampNeg - 1 + 1) + u.toNatClampNeg) + fb (41 * (k.toNatClampNeg - (y4.toNatClampNeg - 1 + 1)) + u.toNatClampNeg)); rw [← hsp, show 41 * (y4.toNatClampNeg - 1 + 1) + u.toNatClampNeg = x4.toNatClampNeg from by omega, show 41 * (k.toNatClampNeg - (y4.toNatClampNeg - 1 + 1)) + u.toNatClampNeg = x8.toNatClampNeg from by omega, ← h_x5, ← h_x9, ← ex10]; exact m_mxE ex11)) _ _ hW ls (lv_sub hl [2, 3, 4, 1, 0] rfl)
set_option maxHeartbeats 4000000 in
set_option maxRecDepth 100000 in
theorem g_X0_bestCut_g (l : Launch) (D : va_G) (cy : Nat → ClassId) (b : Nat) (fb : Nat → Int32) (k u : Int32) (h_k : 1 ≤ k.toInt ∧ k.toInt ≤ 40) (h_u : 1 ≤ u.toInt ∧ u.toInt ≤ 40) (μ : mM) (hI : IX μ) (hfb : μ.1 75 = fb) : m_Ci l yX0_bestCut cX0_bestCut 5 ((some .int)) 1 D cy b LAY μ [.ref (b + 71), .int k, .int u] (fun r ν => μ = ν ∧ (r = m_ch fb k.toNatClampNeg u.toNatClampNeg (u.toNatClampNeg / 2) (m_cw fb k.toNatClampNeg u.toNatClampNeg (k.toNatClampNeg / 2) 0))) := by
  unfold m_Ci
  refine m_of (by decide) (Nat.le_of_ble_eq_true rfl) ?_
  intro p e s m below meth c hx hb hr hml hown hts hlocks _ hW ls hl
  have hown : s.vm.findClass RX0 = some m.cls := hown
  have hl : lv_has ls 5 [(0, .ref (b + 71)), (1, .int k), (2, .int u)] := hl
  refine lv_iconst (v := 0) hx hb dX0_bestCut_0 (by decide) ?_
  refine lv_istore_n (lv' := [(3, .int 0), (0, .ref (b + 71)), (1, .int k), (2, .int u)]) hx hb dX0_bestCut_1 rfl hl (by decide) rfl (fun ls hl => ?_)
  refine lv_iconst (v := 1) hx hb dX0_bestCut_2 (by decide) ?_
  refine lv_istore (lv' := [(4, .int 1), (3, .int 0), (0, .ref (b + 71)), (1, .int k), (2, .int u)]) hx hb dX0_bestCut_3 hl (by decide) rfl (fun ls hl => ?_)
  have l_0 : (0 : Int32).toInt = 0 := by decide
  have l_1 : (1 : Int32).toInt = 1 := by decide
  exact L_X0_bestCut_g_5 hx hb hr hml hown hts hlocks μ fb k u h_k h_u  41 0 1 (by omega) (by omega) μ hI rfl (hfb) (rfl) _ _ hW ls (lv_sub hl [2, 3, 4, 1, 0] rfl)
set_option maxHeartbeats 4000000 in
set_option maxRecDepth 100000 in
theorem L_X12_mostOf_g_153 {p : Program} {l : Launch} {e : Env} {s : State} {m : MethodId} {args : Array Value} {below : List Frame} {meth : Method} {c : Code} {D : va_G} {cy : Nat → ClassId} {b : Nat} (hx : p.tables.exec = Jvm.exec) (hb : c.code = cX12_mostOf) (hr : meth.sig.returnType = ((some .int))) (hml : c.maxLocals = 6) (hown : s.vm.findClass RX12 = some m.cls) (hts : ∀ w ∈ TB, w.before args s = true) (hlocks : meth.locks = false) (μ1 : mM) (t : Int32) (h_t : 0 ≤ t.toInt ∧ t.toInt ≤ 6) (fw fh fo : Nat → Int32) (fb : Nat → Int32) (k u : Int32) (h_k : 1 ≤ k.toInt ∧ k.toInt ≤ 40) (h_u : 1 ≤ u.toInt ∧ u.toInt ≤ 40) : ∀ (f : Nat), ∀ (y3 y4 : Int32) (hy : 1 ≤ y4.toInt ∧ y4.toInt ≤ 21 ∧ y4.toInt ≤ u.toInt / 2 + 1) (hf : 21 - y4.toInt < (f : Int)) (μ : mM) (hI : IX μ) (hm : μ = μ1) (ht : μ.1 81 62 = t) (hfw : μ.1 120 = fw) (hfh : μ.1 121 = fh) (hfo : μ.1 122 = fo) (hfb : μ.1 123 = fb) (hsp : y3 = m_ch fb k.toNatClampNeg u.toNatClampNeg (y4.toNatClampNeg - 1) (m_cw fb k.toNatClampNeg u.toNatClampNeg (k.toNatClampNeg / 2) (m_bk fw fh fo k.toInt u.toInt t.toNatClampNeg))) (H : Heap) (locs : List Loc), m_WA (m_A b LAY) D cy s b LAY μ H locs → ∀ ls : Array Slot, lv_has ls 6 [(0, .ref (b + 81)), (1, .int k), (2, .int u), (3, .int y3), (4, .int y4)] → W p l e (m_R 0 0 0) s m args below meth c H locs 0 0 (MQ below (m_Qi D cy b LAY (fun r ν => μ1 = ν ∧ (r = m_st fw fh fo t.toNatClampNeg fb k.toNatClampNeg u.toNatClampNeg))) args s 0 0 (m_A b LAY)) (F0 m 153 ls []) := by
  intro f
  induction f with
  | zero => intro y3 y4 hy hf; exfalso; omega
  | succ f ih =>
    intro y3 y4 hy hf μ hI hm ht hfw hfh hfo hfb hsp H locs hW ls hl
    refine lv_iload hx hb dX12_mostOf_153 (lv_at hl 4 rfl) ?_
    refine lv_iload_n hx hb dX12_mostOf_155 rfl (lv_at hl 2 rfl) ?_
    refine lv_iconst (v := 2) hx hb dX12_mostOf_156 (by decide) ?_
    refine lv_idiv hx hb dX12_mostOf_157 (by decide) ?_
    refine lv_topi (fun x1 ex1 => ?_)
    have tx1 : x1.toInt = u.toInt / 2 := m_divI ex1 (rfl : u.toInt = _) (by decide : (2 : Int32).toInt = 2) (by omega) (by decide)
    refine lv_icmp_gt (tgt := 205) hx hb dX12_mostOf_158 (by decide) (fun c2 => ?_) (fun c2 => ?_)
    · have i2 := m_c1 (rfl : x1.toInt = _) (rfl : y4.toInt = _) c2
      refine lv_iload_n hx hb dX12_mostOf_205 rfl (lv_at hl 3 rfl) ?_
      exact m_iret hx hb hr hlocks hW rfl (⟨hm.symm, (by unfold m_st; rw [show ((k.toNatClampNeg : Nat) : Int) = k.toInt from m_ckI (by omega), show ((u.toNatClampNeg : Nat) : Int) = u.toInt from m_ckI (by omega), show u.toNatClampNeg / 2 = y4.toNatClampNeg - 1 from by have := m_ckI (x := y4) (by omega); have := m_ckI (x := u) (by omega); omega]; exact hsp)⟩) dX12_mostOf_206
    · have i2 := m_c2 (rfl : x1.toInt = _) (rfl : y4.toInt = _) c2
      refine lv_aload_n hx hb dX12_mostOf_161 rfl (lv_at hl 0 rfl) ?_
      refine m_getr hx hb hts hown hW (81) 66 (123) rfl rfl cw_12 rfl (by decide) k_X12_149 dX12_mostOf_162 ?_
      refine lv_bipush (v := 41) hx hb dX12_mostOf_165 (by decide) ?_
      refine lv_iload_n hx hb dX12_mostOf_167 rfl (lv_at hl 1 rfl) ?_
      refine lv_imul hx hb dX12_mostOf_168 ?_
      refine lv_topi (fun x3 ex3 => ?_)
      have tx3 : x3.toInt = 41 * k.toInt := m_mulI ex3 (by decide : (41 : Int32).toInt = 41) (rfl : k.toInt = _) (by omega) (by omega)
      refine lv_iload hx hb dX12_mostOf_169 (lv_at hl 4 rfl) ?_
      refine lv_iadd hx hb dX12_mostOf_171 ?_
      refine lv_topi (fun x4 ex4 => ?_)
      have tx4 : x4.toInt = x3.toInt + y4.toInt := m_addI ex4 (rfl : x3.toInt = _) (rfl : y4.toInt = _) (by omega) (by omega)
      refine m_iald hx hb hW (123) rfl (m_ixI (rfl : x4.toInt = _) (by omega) (by omega)) dX12_mostOf_172 ?_
      refine lv_topi (fun x5 ex5 => ?_)
      have h_x5 : x5 = fb x4.toNatClampNeg := by rw [ex5, hfb]
      refine lv_aload_n hx hb dX12_mostOf_173 rfl (lv_at hl 0 rfl) ?_
      refine m_getr hx hb hts hown hW (81) 66 (123) rfl rfl cw_12 rfl (by decide) k_X12_149 dX12_mostOf_174 ?_
      refine lv_bipush (v := 41) hx hb dX12_mostOf_177 (by decide) ?_
      refine lv_iload_n hx hb dX12_mostOf_179 rfl (lv_at hl 1 rfl) ?_
      refine lv_imul hx hb dX12_mostOf_180 ?_
      refine lv_topi (fun x6 ex6 => ?_)
      have ex6 : x6 = x3 := ex6.trans ex3.symm
      have ex6 := ex6.symm
      subst ex6
      refine lv_iload_n hx hb dX12_mostOf_181 rfl (lv_at hl 2 rfl) ?_
      refine lv_iadd hx hb dX12_mostOf_182 ?_
      refine lv_topi (fun x7 ex7 => ?_)
      have tx7 : x7.toInt = x3.toInt + u.toInt := m_addI ex7 (rfl : x3.toInt = _) (rfl : u.toInt = _) (by omega) (by omega)
      refine lv_iload hx hb dX12_mostOf_183 (lv_at hl 4 rfl) ?_
      refine lv_isub hx hb dX12_mostOf_185 ?_
      refine lv_topi (fun x8 ex8 => ?_)
      have tx8 : x8.toInt = x7.toInt - y4.toInt := m_subI ex8 (rfl : x7.toInt = _) (rfl : y4.toInt = _) (by omega) (by omega)
      refine m_iald hx hb hW (123) rfl (m_ixI (rfl : x8.toInt = _) (by omega) (by omega)) dX12_mostOf_186 ?_
      refine lv_topi (fun x9 ex9 => ?_)
      have h_x9 : x9 = fb x8.toNatClampNeg := by rw [ex9, hfb]
      refine lv_iadd hx hb dX12_mostOf_187 ?_
      refine lv_topi (fun x10 ex10 => ?_)
      refine lv_istore (lv' := [(5, .int x10), (0, .ref (b + 81)), (1, .int k), (2, .int u), (3, .int y3), (4, .int y4)]) hx hb dX12_mostOf_188 hl (by decide) rfl (fun ls hl => ?_)
      refine lv_iload hx hb dX12_mostOf_190 (lv_at hl 0 rfl) ?_
      refine lv_iload_n hx hb dX12_mostOf_192 rfl (lv_at hl 4 rfl) ?_
      refine lv_icmp_le (tgt := 199) hx hb dX12_mostOf_193 (by decide) (fun c11 => ?_) (fun c11 => ?_)
      · have i11 := m_c3 (rfl : x10.toInt = _) (rfl : y3.toInt = _) c11
        obtain ⟨x12, ex12⟩ : ∃ z : Int32, z = y4 + 1 := ⟨_, rfl⟩
        refine lv_iinc (v := x12) (lv' := [(4, .int x12), (5, .int x10), (0, .ref (b + 81)), (1, .int k), (2, .int u), (3, .int y3)]) hx hb dX12_mostOf_199 hl (k := 5) rfl (by rw [ex12]; rfl) (by decide) rfl (fun ls hl => ?_)
        have tx12 : x12.toInt = y4.toInt + 1 := m_addI ex12 (rfl : y4.toInt = _) (by decide : (1 : Int32).toInt = 1) (by omega) (by omega)
        refine lv_goto (tgt := 153) hx hb dX12_mostOf_202 (by decide) ?_
        exact ih y3 x12 (by omega) (by omega) μ hI hm (by exact ht) (hfw) (hfh) (hfo) (hfb) ((by have := m_ckI (x := y4) (by omega); have := m_ckI (x := x12) (by omega); have := m_ckI (x := k) (by omega); have := m_ckI (x := u) (by omega); have := m_ckI (x := x4) (by omega); have := m_ckI (x := x8) (by omega); rw [show x12.toNatClampNeg - 1 = (y4.toNatClampNeg - 1) + 1 from by omega]; show _ = m_mx (m_ch fb k.toNatClampNeg u.toNatClampNeg (y4.toNatClampNeg - 1) (m_cw fb k.toNatClampNeg u.toNatClampNeg (k.toNatClampNeg / 2) (m_bk fw fh fo k.toInt u.toInt t.toNatClampNeg))) (fb (41 * k.toNatClampNeg + (y4.toNatClampNeg - 1 + 1)) + fb (41 * k.toNatClampNeg + (u.toNatClampNeg - (y4.toNatClampNeg - 1 + 1)))); rw [← hsp, show 41 * k.toNatClampNeg + (y4.toNatClampNeg - 1 + 1) = x4.toNatClampNeg from by omega, show 41 * k.toNatClampNeg + (u.toNatClampNeg - (y4.toNatClampNeg - 1 + 1)) = x8.toNatClampNeg from by omega, ← h_x5, ← h_x9, ← ex10]; unfold m_mx; rw [if_neg (by omega)])) _ _ hW ls (lv_sub hl [2, 3, 4, 5, 0] rfl)
      · have i11 := m_c4 (rfl : x10.toInt = _) (rfl : y3.toInt = _) c11
        refine lv_iload hx hb dX12_mostOf_196 (lv_at hl 0 rfl) ?_
        refine lv_istore_n (lv' := [(3, .int x10), (5, .int x10), (0, .ref (b + 81)), (1, .int k), (2, .int u), (4, .int y4)]) hx hb dX12_mostOf_198 rfl hl (by decide) rfl (fun ls hl => ?_)
        obtain ⟨x13, ex13⟩ : ∃ z : Int32, z = y4 + 1 := ⟨_, rfl⟩
        refine lv_iinc (v := x13) (lv' := [(4, .int x13), (3, .int x10), (5, .int x10), (0, .ref (b + 81)), (1, .int k), (2, .int u)]) hx hb dX12_mostOf_199 hl (k := 5) rfl (by rw [ex13]; rfl) (by decide) rfl (fun ls hl => ?_)
        have tx13 : x13.toInt = y4.toInt + 1 := m_addI ex13 (rfl : y4.toInt = _) (by decide : (1 : Int32).toInt = 1) (by omega) (by omega)
        refine lv_goto (tgt := 153) hx hb dX12_mostOf_202 (by decide) ?_
        exact ih x10 x13 (by omega) (by omega) μ hI hm (by exact ht) (hfw) (hfh) (hfo) (hfb) ((by have := m_ckI (x := y4) (by omega); have := m_ckI (x := x13) (by omega); have := m_ckI (x := k) (by omega); have := m_ckI (x := u) (by omega); have := m_ckI (x := x4) (by omega); have := m_ckI (x := x8) (by omega); rw [show x13.toNatClampNeg - 1 = (y4.toNatClampNeg - 1) + 1 from by omega]; show _ = m_mx (m_ch fb k.toNatClampNeg u.toNatClampNeg (y4.toNatClampNeg - 1) (m_cw fb k.toNatClampNeg u.toNatClampNeg (k.toNatClampNeg / 2) (m_bk fw fh fo k.toInt u.toInt t.toNatClampNeg))) (fb (41 * k.toNatClampNeg + (y4.toNatClampNeg - 1 + 1)) + fb (41 * k.toNatClampNeg + (u.toNatClampNeg - (y4.toNatClampNeg - 1 + 1)))); rw [← hsp, show 41 * k.toNatClampNeg + (y4.toNatClampNeg - 1 + 1) = x4.toNatClampNeg from by omega, show 41 * k.toNatClampNeg + (u.toNatClampNeg - (y4.toNatClampNeg - 1 + 1)) = x8.toNatClampNeg from by omega, ← h_x5, ← h_x9, ← ex10]; unfold m_mx; rw [if_pos (by omega)])) _ _ hW ls (lv_sub hl [3, 4, 5, 1, 0] rfl)
set_option maxHeartbeats 4000000 in
set_option maxRecDepth 100000 in
theorem L_X12_mostOf_g_98 {p : Program} {l : Launch} {e : Env} {s : State} {m : MethodId} {args : Array Value} {below : List Frame} {meth : Method} {c : Code} {D : va_G} {cy : Nat → ClassId} {b : Nat} (hx : p.tables.exec = Jvm.exec) (hb : c.code = cX12_mostOf) (hr : meth.sig.returnType = ((some .int))) (hml : c.maxLocals = 6) (hown : s.vm.findClass RX12 = some m.cls) (hts : ∀ w ∈ TB, w.before args s = true) (hlocks : meth.locks = false) (μ1 : mM) (t : Int32) (h_t : 0 ≤ t.toInt ∧ t.toInt ≤ 6) (fw fh fo : Nat → Int32) (fb : Nat → Int32) (k u : Int32) (h_k : 1 ≤ k.toInt ∧ k.toInt ≤ 40) (h_u : 1 ≤ u.toInt ∧ u.toInt ≤ 40) : ∀ (f : Nat), ∀ (y3 y4 : Int32) (hy : 1 ≤ y4.toInt ∧ y4.toInt ≤ 21 ∧ y4.toInt ≤ k.toInt / 2 + 1) (hf : 21 - y4.toInt < (f : Int)) (μ : mM) (hI : IX μ) (hm : μ = μ1) (ht : μ.1 81 62 = t) (hfw : μ.1 120 = fw) (hfh : μ.1 121 = fh) (hfo : μ.1 122 = fo) (hfb : μ.1 123 = fb) (hsp : y3 = m_cw fb k.toNatClampNeg u.toNatClampNeg (y4.toNatClampNeg - 1) (m_bk fw fh fo k.toInt u.toInt t.toNatClampNeg)) (H : Heap) (locs : List Loc), m_WA (m_A b LAY) D cy s b LAY μ H locs → ∀ ls : Array Slot, lv_has ls 6 [(0, .ref (b + 81)), (1, .int k), (2, .int u), (3, .int y3), (4, .int y4)] → W p l e (m_R 0 0 0) s m args below meth c H locs 0 0 (MQ below (m_Qi D cy b LAY (fun r ν => μ1 = ν ∧ (r = m_st fw fh fo t.toNatClampNeg fb k.toNatClampNeg u.toNatClampNeg))) args s 0 0 (m_A b LAY)) (F0 m 98 ls []) := by
  intro f
  induction f with
  | zero => intro y3 y4 hy hf; exfalso; omega
  | succ f ih =>
    intro y3 y4 hy hf μ hI hm ht hfw hfh hfo hfb hsp H locs hW ls hl
    refine lv_iload hx hb dX12_mostOf_98 (lv_at hl 4 rfl) ?_
    refine lv_iload_n hx hb dX12_mostOf_100 rfl (lv_at hl 1 rfl) ?_
    refine lv_iconst (v := 2) hx hb dX12_mostOf_101 (by decide) ?_
    refine lv_idiv hx hb dX12_mostOf_102 (by decide) ?_
    refine lv_topi (fun x1 ex1 => ?_)
    have tx1 : x1.toInt = k.toInt / 2 := m_divI ex1 (rfl : k.toInt = _) (by decide : (2 : Int32).toInt = 2) (by omega) (by decide)
    refine lv_icmp_gt (tgt := 150) hx hb dX12_mostOf_103 (by decide) (fun c2 => ?_) (fun c2 => ?_)
    · have i2 := m_c1 (rfl : x1.toInt = _) (rfl : y4.toInt = _) c2
      refine lv_iconst (v := 1) hx hb dX12_mostOf_150 (by decide) ?_
      refine lv_istore (lv' := [(4, .int 1), (0, .ref (b + 81)), (1, .int k), (2, .int u), (3, .int y3)]) hx hb dX12_mostOf_151 hl (by decide) rfl (fun ls hl => ?_)
      have l_1 : (1 : Int32).toInt = 1 := by decide
      exact L_X12_mostOf_g_153 hx hb hr hml hown hts hlocks μ1 t h_t fw fh fo fb k u h_k h_u  22 y3 1 (by omega) (by omega) μ hI hm (by exact ht) (hfw) (hfh) (hfo) (hfb) ((by rw [show k.toNatClampNeg / 2 = y4.toNatClampNeg - 1 from by have := m_ckI (x := y4) (by omega); have := m_ckI (x := k) (by omega); omega]; exact hsp)) _ _ hW ls (lv_sub hl [1, 2, 3, 4, 0] rfl)
    · have i2 := m_c2 (rfl : x1.toInt = _) (rfl : y4.toInt = _) c2
      refine lv_aload_n hx hb dX12_mostOf_106 rfl (lv_at hl 0 rfl) ?_
      refine m_getr hx hb hts hown hW (81) 66 (123) rfl rfl cw_12 rfl (by decide) k_X12_149 dX12_mostOf_107 ?_
      refine lv_bipush (v := 41) hx hb dX12_mostOf_110 (by decide) ?_
      refine lv_iload hx hb dX12_mostOf_112 (lv_at hl 4 rfl) ?_
      refine lv_imul hx hb dX12_mostOf_114 ?_
      refine lv_topi (fun x3 ex3 => ?_)
      have tx3 : x3.toInt = 41 * y4.toInt := m_mulI ex3 (by decide : (41 : Int32).toInt = 41) (rfl : y4.toInt = _) (by omega) (by omega)
      refine lv_iload_n hx hb dX12_mostOf_115 rfl (lv_at hl 2 rfl) ?_
      refine lv_iadd hx hb dX12_mostOf_116 ?_
      refine lv_topi (fun x4 ex4 => ?_)
      have tx4 : x4.toInt = x3.toInt + u.toInt := m_addI ex4 (rfl : x3.toInt = _) (rfl : u.toInt = _) (by omega) (by omega)
      refine m_iald hx hb hW (123) rfl (m_ixI (rfl : x4.toInt = _) (by omega) (by omega)) dX12_mostOf_117 ?_
      refine lv_topi (fun x5 ex5 => ?_)
      have h_x5 : x5 = fb x4.toNatClampNeg := by rw [ex5, hfb]
      refine lv_aload_n hx hb dX12_mostOf_118 rfl (lv_at hl 0 rfl) ?_
      refine m_getr hx hb hts hown hW (81) 66 (123) rfl rfl cw_12 rfl (by decide) k_X12_149 dX12_mostOf_119 ?_
      refine lv_bipush (v := 41) hx hb dX12_mostOf_122 (by decide) ?_
      refine lv_iload_n hx hb dX12_mostOf_124 rfl (lv_at hl 1 rfl) ?_
      refine lv_iload hx hb dX12_mostOf_125 (lv_at hl 4 rfl) ?_
      refine lv_isub hx hb dX12_mostOf_127 ?_
      refine lv_topi (fun x6 ex6 => ?_)
      have tx6 : x6.toInt = k.toInt - y4.toInt := m_subI ex6 (rfl : k.toInt = _) (rfl : y4.toInt = _) (by omega) (by omega)
      refine lv_imul hx hb dX12_mostOf_128 ?_
      refine lv_topi (fun x7 ex7 => ?_)
      have tx7 : x7.toInt = 41 * x6.toInt := m_mulI ex7 (by decide : (41 : Int32).toInt = 41) (rfl : x6.toInt = _) (by omega) (by omega)
      refine lv_iload_n hx hb dX12_mostOf_129 rfl (lv_at hl 2 rfl) ?_
      refine lv_iadd hx hb dX12_mostOf_130 ?_
      refine lv_topi (fun x8 ex8 => ?_)
      have tx8 : x8.toInt = x7.toInt + u.toInt := m_addI ex8 (rfl : x7.toInt = _) (rfl : u.toInt = _) (by omega) (by omega)
      refine m_iald hx hb hW (123) rfl (m_ixI (rfl : x8.toInt = _) (by omega) (by omega)) dX12_mostOf_131 ?_
      refine lv_topi (fun x9 ex9 => ?_)
      have h_x9 : x9 = fb x8.toNatClampNeg := by rw [ex9, hfb]
      refine lv_iadd hx hb dX12_mostOf_132 ?_
      refine lv_topi (fun x10 ex10 => ?_)
      refine lv_istore (lv' := [(5, .int x10), (0, .ref (b + 81)), (1, .int k), (2, .int u), (3, .int y3), (4, .int y4)]) hx hb dX12_mostOf_133 hl (by decide) rfl (fun ls hl => ?_)
      refine lv_iload hx hb dX12_mostOf_135 (lv_at hl 0 rfl) ?_
      refine lv_iload_n hx hb dX12_mostOf_137 rfl (lv_at hl 4 rfl) ?_
      refine lv_icmp_le (tgt := 144) hx hb dX12_mostOf_138 (by decide) (fun c11 => ?_) (fun c11 => ?_)
      · have i11 := m_c3 (rfl : x10.toInt = _) (rfl : y3.toInt = _) c11
        obtain ⟨x12, ex12⟩ : ∃ z : Int32, z = y4 + 1 := ⟨_, rfl⟩
        refine lv_iinc (v := x12) (lv' := [(4, .int x12), (5, .int x10), (0, .ref (b + 81)), (1, .int k), (2, .int u), (3, .int y3)]) hx hb dX12_mostOf_144 hl (k := 5) rfl (by rw [ex12]; rfl) (by decide) rfl (fun ls hl => ?_)
        have tx12 : x12.toInt = y4.toInt + 1 := m_addI ex12 (rfl : y4.toInt = _) (by decide : (1 : Int32).toInt = 1) (by omega) (by omega)
        refine lv_goto (tgt := 98) hx hb dX12_mostOf_147 (by decide) ?_
        exact ih y3 x12 (by omega) (by omega) μ hI hm (by exact ht) (hfw) (hfh) (hfo) (hfb) ((by have := m_ckI (x := y4) (by omega); have := m_ckI (x := x12) (by omega); have := m_ckI (x := k) (by omega); have := m_ckI (x := u) (by omega); have := m_ckI (x := x4) (by omega); have := m_ckI (x := x8) (by omega); rw [show x12.toNatClampNeg - 1 = (y4.toNatClampNeg - 1) + 1 from by omega]; show _ = m_mx (m_cw fb k.toNatClampNeg u.toNatClampNeg (y4.toNatClampNeg - 1) (m_bk fw fh fo k.toInt u.toInt t.toNatClampNeg)) (fb (41 * (y4.toNatClampNeg - 1 + 1) + u.toNatClampNeg) + fb (41 * (k.toNatClampNeg - (y4.toNatClampNeg - 1 + 1)) + u.toNatClampNeg)); rw [← hsp, show 41 * (y4.toNatClampNeg - 1 + 1) + u.toNatClampNeg = x4.toNatClampNeg from by omega, show 41 * (k.toNatClampNeg - (y4.toNatClampNeg - 1 + 1)) + u.toNatClampNeg = x8.toNatClampNeg from by omega, ← h_x5, ← h_x9, ← ex10]; unfold m_mx; rw [if_neg (by omega)])) _ _ hW ls (lv_sub hl [2, 3, 4, 5, 0] rfl)
      · have i11 := m_c4 (rfl : x10.toInt = _) (rfl : y3.toInt = _) c11
        refine lv_iload hx hb dX12_mostOf_141 (lv_at hl 0 rfl) ?_
        refine lv_istore_n (lv' := [(3, .int x10), (5, .int x10), (0, .ref (b + 81)), (1, .int k), (2, .int u), (4, .int y4)]) hx hb dX12_mostOf_143 rfl hl (by decide) rfl (fun ls hl => ?_)
        obtain ⟨x13, ex13⟩ : ∃ z : Int32, z = y4 + 1 := ⟨_, rfl⟩
        refine lv_iinc (v := x13) (lv' := [(4, .int x13), (3, .int x10), (5, .int x10), (0, .ref (b + 81)), (1, .int k), (2, .int u)]) hx hb dX12_mostOf_144 hl (k := 5) rfl (by rw [ex13]; rfl) (by decide) rfl (fun ls hl => ?_)
        have tx13 : x13.toInt = y4.toInt + 1 := m_addI ex13 (rfl : y4.toInt = _) (by decide : (1 : Int32).toInt = 1) (by omega) (by omega)
        refine lv_goto (tgt := 98) hx hb dX12_mostOf_147 (by decide) ?_
        exact ih x10 x13 (by omega) (by omega) μ hI hm (by exact ht) (hfw) (hfh) (hfo) (hfb) ((by have := m_ckI (x := y4) (by omega); have := m_ckI (x := x13) (by omega); have := m_ckI (x := k) (by omega); have := m_ckI (x := u) (by omega); have := m_ckI (x := x4) (by omega); have := m_ckI (x := x8) (by omega); rw [show x13.toNatClampNeg - 1 = (y4.toNatClampNeg - 1) + 1 from by omega]; show _ = m_mx (m_cw fb k.toNatClampNeg u.toNatClampNeg (y4.toNatClampNeg - 1) (m_bk fw fh fo k.toInt u.toInt t.toNatClampNeg)) (fb (41 * (y4.toNatClampNeg - 1 + 1) + u.toNatClampNeg) + fb (41 * (k.toNatClampNeg - (y4.toNatClampNeg - 1 + 1)) + u.toNatClampNeg)); rw [← hsp, show 41 * (y4.toNatClampNeg - 1 + 1) + u.toNatClampNeg = x4.toNatClampNeg from by omega, show 41 * (k.toNatClampNeg - (y4.toNatClampNeg - 1 + 1)) + u.toNatClampNeg = x8.toNatClampNeg from by omega, ← h_x5, ← h_x9, ← ex10]; unfold m_mx; rw [if_pos (by omega)])) _ _ hW ls (lv_sub hl [3, 4, 5, 1, 0] rfl)
set_option maxHeartbeats 4000000 in
set_option maxRecDepth 100000 in
theorem L_X12_mostOf_g_5 {p : Program} {l : Launch} {e : Env} {s : State} {m : MethodId} {args : Array Value} {below : List Frame} {meth : Method} {c : Code} {D : va_G} {cy : Nat → ClassId} {b : Nat} (hx : p.tables.exec = Jvm.exec) (hb : c.code = cX12_mostOf) (hr : meth.sig.returnType = ((some .int))) (hml : c.maxLocals = 6) (hown : s.vm.findClass RX12 = some m.cls) (hts : ∀ w ∈ TB, w.before args s = true) (hlocks : meth.locks = false) (μ1 : mM) (t : Int32) (h_t : 0 ≤ t.toInt ∧ t.toInt ≤ 6) (fw fh fo : Nat → Int32) (fb : Nat → Int32) (k u : Int32) (h_k : 1 ≤ k.toInt ∧ k.toInt ≤ 40) (h_u : 1 ≤ u.toInt ∧ u.toInt ≤ 40) : ∀ (f : Nat), ∀ (y3 y4 : Int32) (hy : 0 ≤ y4.toInt ∧ y4.toInt ≤ 6 ∧ y4.toInt ≤ t.toInt) (hf : 6 - y4.toInt < (f : Int)) (μ : mM) (hI : IX μ) (hm : μ = μ1) (ht : μ.1 81 62 = t) (hfw : μ.1 120 = fw) (hfh : μ.1 121 = fh) (hfo : μ.1 122 = fo) (hfb : μ.1 123 = fb) (hsp : y3 = m_bk fw fh fo k.toInt u.toInt y4.toNatClampNeg) (H : Heap) (locs : List Loc), m_WA (m_A b LAY) D cy s b LAY μ H locs → ∀ ls : Array Slot, lv_has ls 6 [(0, .ref (b + 81)), (1, .int k), (2, .int u), (3, .int y3), (4, .int y4)] → W p l e (m_R 0 0 0) s m args below meth c H locs 0 0 (MQ below (m_Qi D cy b LAY (fun r ν => μ1 = ν ∧ (r = m_st fw fh fo t.toNatClampNeg fb k.toNatClampNeg u.toNatClampNeg))) args s 0 0 (m_A b LAY)) (F0 m 5 ls []) := by
  intro f
  induction f with
  | zero => intro y3 y4 hy hf; exfalso; omega
  | succ f ih =>
    intro y3 y4 hy hf μ hI hm ht hfw hfh hfo hfb hsp H locs hW ls hl
    refine lv_iload hx hb dX12_mostOf_5 (lv_at hl 4 rfl) ?_
    refine lv_aload_n hx hb dX12_mostOf_7 rfl (lv_at hl 0 rfl) ?_
    refine m_geti hx hb hts hown hW (81) 62 rfl rfl cw_12 rfl (by decide) k_X12_395 dX12_mostOf_8 ?_
    refine lv_topi (fun x1 ex1 => ?_)
    have ex1 : x1 = t := by rw [ex1]; exact ht
    have ex1 := ex1.symm
    subst ex1
    refine lv_icmp_ge (tgt := 95) hx hb dX12_mostOf_11 (by decide) (fun c2 => ?_) (fun c2 => ?_)
    · have i2 := m_c3 (rfl : t.toInt = _) (rfl : y4.toInt = _) c2
      refine lv_iconst (v := 1) hx hb dX12_mostOf_95 (by decide) ?_
      refine lv_istore (lv' := [(4, .int 1), (0, .ref (b + 81)), (1, .int k), (2, .int u), (3, .int y3)]) hx hb dX12_mostOf_96 hl (by decide) rfl (fun ls hl => ?_)
      have l_1 : (1 : Int32).toInt = 1 := by decide
      exact L_X12_mostOf_g_98 hx hb hr hml hown hts hlocks μ1 t h_t fw fh fo fb k u h_k h_u  22 y3 1 (by omega) (by omega) μ hI hm (by exact ht) (hfw) (hfh) (hfo) (hfb) ((by rw [show t.toNatClampNeg = y4.toNatClampNeg from by have := m_ckI (x := y4) (by omega); have := m_ckI (x := t) (by omega); omega]; exact hsp)) _ _ hW ls (lv_sub hl [1, 2, 3, 4, 0] rfl)
    · have i2 := m_c4 (rfl : t.toInt = _) (rfl : y4.toInt = _) c2
      refine lv_aload_n hx hb dX12_mostOf_14 rfl (lv_at hl 0 rfl) ?_
      refine m_getr hx hb hts hown hW (81) 63 (120) rfl rfl cw_12 rfl (by decide) k_X12_140 dX12_mostOf_15 ?_
      refine lv_iload hx hb dX12_mostOf_18 (lv_at hl 4 rfl) ?_
      refine m_iald hx hb hW (120) rfl (m_ixI (rfl : y4.toInt = _) (by omega) (by omega)) dX12_mostOf_20 ?_
      refine lv_topi (fun x3 ex3 => ?_)
      have h_x3 : x3 = fw y4.toNatClampNeg := by rw [ex3, hfw]
      have fx3 : (fw y4.toNatClampNeg).toInt = x3.toInt := by rw [← h_x3]
      refine lv_iload_n hx hb dX12_mostOf_21 rfl (lv_at hl 1 rfl) ?_
      refine lv_icmp_ne (tgt := 36) hx hb dX12_mostOf_22 (by decide) (fun c4 => ?_) (fun c4 => ?_)
      · have i4 := m_c6 (rfl : x3.toInt = _) (rfl : k.toInt = _) c4
        refine lv_aload_n hx hb dX12_mostOf_36 rfl (lv_at hl 0 rfl) ?_
        refine m_getr hx hb hts hown hW (81) 63 (120) rfl rfl cw_12 rfl (by decide) k_X12_140 dX12_mostOf_37 ?_
        refine lv_iload hx hb dX12_mostOf_40 (lv_at hl 4 rfl) ?_
        refine m_iald hx hb hW (120) rfl (m_ixI (rfl : y4.toInt = _) (by omega) (by omega)) dX12_mostOf_42 ?_
        refine lv_topi (fun x5 ex5 => ?_)
        have ex5 : x5 = x3 := by rw [ex5]; exact ex3.symm
        have ex5 := ex5.symm
        subst ex5
        refine lv_iload_n hx hb dX12_mostOf_43 rfl (lv_at hl 2 rfl) ?_
        refine lv_icmp_ne (tgt := 62) hx hb dX12_mostOf_44 (by decide) (fun c6 => ?_) (fun c6 => ?_)
        · have i6 := m_c6 (rfl : x3.toInt = _) (rfl : u.toInt = _) c6
          refine lv_iconst (v := 0) hx hb dX12_mostOf_62 (by decide) ?_
          refine lv_istore (lv' := [(5, .int 0), (0, .ref (b + 81)), (1, .int k), (2, .int u), (3, .int y3), (4, .int y4)]) hx hb dX12_mostOf_63 hl (by decide) rfl (fun ls hl => ?_)
          refine lv_iload hx hb dX12_mostOf_65 (lv_at hl 0 rfl) ?_
          refine lv_if_eq (tgt := 89) hx hb dX12_mostOf_67 (by decide) (fun _ => ?_) (fun c => False.elim (by revert c; decide))
          obtain ⟨x7, ex7⟩ : ∃ z : Int32, z = y4 + 1 := ⟨_, rfl⟩
          refine lv_iinc (v := x7) (lv' := [(4, .int x7), (5, .int 0), (0, .ref (b + 81)), (1, .int k), (2, .int u), (3, .int y3)]) hx hb dX12_mostOf_89 hl (k := 5) rfl (by rw [ex7]; rfl) (by decide) rfl (fun ls hl => ?_)
          have tx7 : x7.toInt = y4.toInt + 1 := m_addI ex7 (rfl : y4.toInt = _) (by decide : (1 : Int32).toInt = 1) (by omega) (by omega)
          refine lv_goto (tgt := 5) hx hb dX12_mostOf_92 (by decide) ?_
          exact ih y3 x7 (by omega) (by omega) μ hI hm (by exact ht) (hfw) (hfh) (hfo) (hfb) ((by rw [m_cl1 (x := x7) (y := y4) (by omega) (by omega)]; first | (rw [m_bk0 (by omega)]; exact hsp))) _ _ hW ls (lv_sub hl [2, 3, 4, 5, 0] rfl)
        · have i6 := m_c5 (rfl : x3.toInt = _) (rfl : u.toInt = _) c6
          refine lv_aload_n hx hb dX12_mostOf_47 rfl (lv_at hl 0 rfl) ?_
          refine m_getr hx hb hts hown hW (81) 64 (121) rfl rfl cw_12 rfl (by decide) k_X12_143 dX12_mostOf_48 ?_
          refine lv_iload hx hb dX12_mostOf_51 (lv_at hl 4 rfl) ?_
          refine m_iald hx hb hW (121) rfl (m_ixI (rfl : y4.toInt = _) (by omega) (by omega)) dX12_mostOf_53 ?_
          refine lv_topi (fun x8 ex8 => ?_)
          have h_x8 : x8 = fh y4.toNatClampNeg := by rw [ex8, hfh]
          have fx8 : (fh y4.toNatClampNeg).toInt = x8.toInt := by rw [← h_x8]
          refine lv_iload_n hx hb dX12_mostOf_54 rfl (lv_at hl 1 rfl) ?_
          refine lv_icmp_ne (tgt := 62) hx hb dX12_mostOf_55 (by decide) (fun c9 => ?_) (fun c9 => ?_)
          · have i9 := m_c6 (rfl : x8.toInt = _) (rfl : k.toInt = _) c9
            refine lv_iconst (v := 0) hx hb dX12_mostOf_62 (by decide) ?_
            refine lv_istore (lv' := [(5, .int 0), (0, .ref (b + 81)), (1, .int k), (2, .int u), (3, .int y3), (4, .int y4)]) hx hb dX12_mostOf_63 hl (by decide) rfl (fun ls hl => ?_)
            refine lv_iload hx hb dX12_mostOf_65 (lv_at hl 0 rfl) ?_
            refine lv_if_eq (tgt := 89) hx hb dX12_mostOf_67 (by decide) (fun _ => ?_) (fun c => False.elim (by revert c; decide))
            obtain ⟨x10, ex10⟩ : ∃ z : Int32, z = y4 + 1 := ⟨_, rfl⟩
            refine lv_iinc (v := x10) (lv' := [(4, .int x10), (5, .int 0), (0, .ref (b + 81)), (1, .int k), (2, .int u), (3, .int y3)]) hx hb dX12_mostOf_89 hl (k := 5) rfl (by rw [ex10]; rfl) (by decide) rfl (fun ls hl => ?_)
            have tx10 : x10.toInt = y4.toInt + 1 := m_addI ex10 (rfl : y4.toInt = _) (by decide : (1 : Int32).toInt = 1) (by omega) (by omega)
            refine lv_goto (tgt := 5) hx hb dX12_mostOf_92 (by decide) ?_
            exact ih y3 x10 (by omega) (by omega) μ hI hm (by exact ht) (hfw) (hfh) (hfo) (hfb) ((by rw [m_cl1 (x := x10) (y := y4) (by omega) (by omega)]; first | (rw [m_bk0 (by omega)]; exact hsp))) _ _ hW ls (lv_sub hl [2, 3, 4, 5, 0] rfl)
          · have i9 := m_c5 (rfl : x8.toInt = _) (rfl : k.toInt = _) c9
            refine lv_iconst (v := 1) hx hb dX12_mostOf_58 (by decide) ?_
            refine lv_goto (tgt := 63) hx hb dX12_mostOf_59 (by decide) ?_
            refine lv_istore (lv' := [(5, .int 1), (0, .ref (b + 81)), (1, .int k), (2, .int u), (3, .int y3), (4, .int y4)]) hx hb dX12_mostOf_63 hl (by decide) rfl (fun ls hl => ?_)
            refine lv_iload hx hb dX12_mostOf_65 (lv_at hl 0 rfl) ?_
            refine lv_if_eq (tgt := 89) hx hb dX12_mostOf_67 (by decide) (fun c => False.elim (by revert c; decide)) (fun _ => ?_)
            refine lv_aload_n hx hb dX12_mostOf_70 rfl (lv_at hl 1 rfl) ?_
            refine m_getr hx hb hts hown hW (81) 65 (122) rfl rfl cw_12 rfl (by decide) k_X12_146 dX12_mostOf_71 ?_
            refine lv_iload hx hb dX12_mostOf_74 (lv_at hl 5 rfl) ?_
            refine m_iald hx hb hW (122) rfl (m_ixI (rfl : y4.toInt = _) (by omega) (by omega)) dX12_mostOf_76 ?_
            refine lv_topi (fun x11 ex11 => ?_)
            have h_x11 : x11 = fo y4.toNatClampNeg := by rw [ex11, hfo]
            have fx11 : (fo y4.toNatClampNeg).toInt = x11.toInt := by rw [← h_x11]
            refine lv_iload_n hx hb dX12_mostOf_77 rfl (lv_at hl 4 rfl) ?_
            refine lv_icmp_le (tgt := 89) hx hb dX12_mostOf_78 (by decide) (fun c12 => ?_) (fun c12 => ?_)
            · have i12 := m_c3 (rfl : x11.toInt = _) (rfl : y3.toInt = _) c12
              obtain ⟨x13, ex13⟩ : ∃ z : Int32, z = y4 + 1 := ⟨_, rfl⟩
              refine lv_iinc (v := x13) (lv' := [(4, .int x13), (5, .int 1), (0, .ref (b + 81)), (1, .int k), (2, .int u), (3, .int y3)]) hx hb dX12_mostOf_89 hl (k := 5) rfl (by rw [ex13]; rfl) (by decide) rfl (fun ls hl => ?_)
              have tx13 : x13.toInt = y4.toInt + 1 := m_addI ex13 (rfl : y4.toInt = _) (by decide : (1 : Int32).toInt = 1) (by omega) (by omega)
              refine lv_goto (tgt := 5) hx hb dX12_mostOf_92 (by decide) ?_
              exact ih y3 x13 (by omega) (by omega) μ hI hm (by exact ht) (hfw) (hfh) (hfo) (hfb) ((by rw [m_cl1 (x := x13) (y := y4) (by omega) (by omega)]; first | (rw [m_bk0 (by omega)]; exact hsp) | (rw [m_bk1 (by omega), ← hsp]; unfold m_mx; rw [if_neg (by omega)]))) _ _ hW ls (lv_sub hl [2, 3, 4, 5, 0] rfl)
            · have i12 := m_c4 (rfl : x11.toInt = _) (rfl : y3.toInt = _) c12
              refine lv_aload_n hx hb dX12_mostOf_81 rfl (lv_at hl 1 rfl) ?_
              refine m_getr hx hb hts hown hW (81) 65 (122) rfl rfl cw_12 rfl (by decide) k_X12_146 dX12_mostOf_82 ?_
              refine lv_iload hx hb dX12_mostOf_85 (lv_at hl 5 rfl) ?_
              refine m_iald hx hb hW (122) rfl (m_ixI (rfl : y4.toInt = _) (by omega) (by omega)) dX12_mostOf_87 ?_
              refine lv_topi (fun x14 ex14 => ?_)
              have ex14 : x14 = x11 := by rw [ex14]; exact ex11.symm
              have ex14 := ex14.symm
              subst ex14
              refine lv_istore_n (lv' := [(3, .int x11), (5, .int 1), (0, .ref (b + 81)), (1, .int k), (2, .int u), (4, .int y4)]) hx hb dX12_mostOf_88 rfl hl (by decide) rfl (fun ls hl => ?_)
              obtain ⟨x15, ex15⟩ : ∃ z : Int32, z = y4 + 1 := ⟨_, rfl⟩
              refine lv_iinc (v := x15) (lv' := [(4, .int x15), (3, .int x11), (5, .int 1), (0, .ref (b + 81)), (1, .int k), (2, .int u)]) hx hb dX12_mostOf_89 hl (k := 5) rfl (by rw [ex15]; rfl) (by decide) rfl (fun ls hl => ?_)
              have tx15 : x15.toInt = y4.toInt + 1 := m_addI ex15 (rfl : y4.toInt = _) (by decide : (1 : Int32).toInt = 1) (by omega) (by omega)
              refine lv_goto (tgt := 5) hx hb dX12_mostOf_92 (by decide) ?_
              exact ih x11 x15 (by omega) (by omega) μ hI hm (by exact ht) (hfw) (hfh) (hfo) (hfb) ((by rw [m_cl1 (x := x15) (y := y4) (by omega) (by omega)]; first | (rw [m_bk1 (by omega), ← hsp, ← h_x11]; exact m_mxE ex11) | (rw [m_bk1 (by omega), ← hsp, ← h_x11]; unfold m_mx; rw [if_pos (by omega)]))) _ _ hW ls (lv_sub hl [3, 4, 5, 1, 0] rfl)
      · have i4 := m_c5 (rfl : x3.toInt = _) (rfl : k.toInt = _) c4
        refine lv_aload_n hx hb dX12_mostOf_25 rfl (lv_at hl 0 rfl) ?_
        refine m_getr hx hb hts hown hW (81) 64 (121) rfl rfl cw_12 rfl (by decide) k_X12_143 dX12_mostOf_26 ?_
        refine lv_iload hx hb dX12_mostOf_29 (lv_at hl 4 rfl) ?_
        refine m_iald hx hb hW (121) rfl (m_ixI (rfl : y4.toInt = _) (by omega) (by omega)) dX12_mostOf_31 ?_
        refine lv_topi (fun x16 ex16 => ?_)
        have h_x16 : x16 = fh y4.toNatClampNeg := by rw [ex16, hfh]
        have fx16 : (fh y4.toNatClampNeg).toInt = x16.toInt := by rw [← h_x16]
        refine lv_iload_n hx hb dX12_mostOf_32 rfl (lv_at hl 2 rfl) ?_
        refine lv_icmp_eq (tgt := 58) hx hb dX12_mostOf_33 (by decide) (fun c17 => ?_) (fun c17 => ?_)
        · have i17 := m_c5 (rfl : x16.toInt = _) (rfl : u.toInt = _) c17
          refine lv_iconst (v := 1) hx hb dX12_mostOf_58 (by decide) ?_
          refine lv_goto (tgt := 63) hx hb dX12_mostOf_59 (by decide) ?_
          refine lv_istore (lv' := [(5, .int 1), (0, .ref (b + 81)), (1, .int k), (2, .int u), (3, .int y3), (4, .int y4)]) hx hb dX12_mostOf_63 hl (by decide) rfl (fun ls hl => ?_)
          refine lv_iload hx hb dX12_mostOf_65 (lv_at hl 0 rfl) ?_
          refine lv_if_eq (tgt := 89) hx hb dX12_mostOf_67 (by decide) (fun c => False.elim (by revert c; decide)) (fun _ => ?_)
          refine lv_aload_n hx hb dX12_mostOf_70 rfl (lv_at hl 1 rfl) ?_
          refine m_getr hx hb hts hown hW (81) 65 (122) rfl rfl cw_12 rfl (by decide) k_X12_146 dX12_mostOf_71 ?_
          refine lv_iload hx hb dX12_mostOf_74 (lv_at hl 5 rfl) ?_
          refine m_iald hx hb hW (122) rfl (m_ixI (rfl : y4.toInt = _) (by omega) (by omega)) dX12_mostOf_76 ?_
          refine lv_topi (fun x18 ex18 => ?_)
          have h_x18 : x18 = fo y4.toNatClampNeg := by rw [ex18, hfo]
          have fx18 : (fo y4.toNatClampNeg).toInt = x18.toInt := by rw [← h_x18]
          refine lv_iload_n hx hb dX12_mostOf_77 rfl (lv_at hl 4 rfl) ?_
          refine lv_icmp_le (tgt := 89) hx hb dX12_mostOf_78 (by decide) (fun c19 => ?_) (fun c19 => ?_)
          · have i19 := m_c3 (rfl : x18.toInt = _) (rfl : y3.toInt = _) c19
            obtain ⟨x20, ex20⟩ : ∃ z : Int32, z = y4 + 1 := ⟨_, rfl⟩
            refine lv_iinc (v := x20) (lv' := [(4, .int x20), (5, .int 1), (0, .ref (b + 81)), (1, .int k), (2, .int u), (3, .int y3)]) hx hb dX12_mostOf_89 hl (k := 5) rfl (by rw [ex20]; rfl) (by decide) rfl (fun ls hl => ?_)
            have tx20 : x20.toInt = y4.toInt + 1 := m_addI ex20 (rfl : y4.toInt = _) (by decide : (1 : Int32).toInt = 1) (by omega) (by omega)
            refine lv_goto (tgt := 5) hx hb dX12_mostOf_92 (by decide) ?_
            exact ih y3 x20 (by omega) (by omega) μ hI hm (by exact ht) (hfw) (hfh) (hfo) (hfb) ((by rw [m_cl1 (x := x20) (y := y4) (by omega) (by omega)]; first | (rw [m_bk0 (by omega)]; exact hsp) | (rw [m_bk1 (by omega), ← hsp]; unfold m_mx; rw [if_neg (by omega)]))) _ _ hW ls (lv_sub hl [2, 3, 4, 5, 0] rfl)
          · have i19 := m_c4 (rfl : x18.toInt = _) (rfl : y3.toInt = _) c19
            refine lv_aload_n hx hb dX12_mostOf_81 rfl (lv_at hl 1 rfl) ?_
            refine m_getr hx hb hts hown hW (81) 65 (122) rfl rfl cw_12 rfl (by decide) k_X12_146 dX12_mostOf_82 ?_
            refine lv_iload hx hb dX12_mostOf_85 (lv_at hl 5 rfl) ?_
            refine m_iald hx hb hW (122) rfl (m_ixI (rfl : y4.toInt = _) (by omega) (by omega)) dX12_mostOf_87 ?_
            refine lv_topi (fun x21 ex21 => ?_)
            have ex21 : x21 = x18 := by rw [ex21]; exact ex18.symm
            have ex21 := ex21.symm
            subst ex21
            refine lv_istore_n (lv' := [(3, .int x18), (5, .int 1), (0, .ref (b + 81)), (1, .int k), (2, .int u), (4, .int y4)]) hx hb dX12_mostOf_88 rfl hl (by decide) rfl (fun ls hl => ?_)
            obtain ⟨x22, ex22⟩ : ∃ z : Int32, z = y4 + 1 := ⟨_, rfl⟩
            refine lv_iinc (v := x22) (lv' := [(4, .int x22), (3, .int x18), (5, .int 1), (0, .ref (b + 81)), (1, .int k), (2, .int u)]) hx hb dX12_mostOf_89 hl (k := 5) rfl (by rw [ex22]; rfl) (by decide) rfl (fun ls hl => ?_)
            have tx22 : x22.toInt = y4.toInt + 1 := m_addI ex22 (rfl : y4.toInt = _) (by decide : (1 : Int32).toInt = 1) (by omega) (by omega)
            refine lv_goto (tgt := 5) hx hb dX12_mostOf_92 (by decide) ?_
            exact ih x18 x22 (by omega) (by omega) μ hI hm (by exact ht) (hfw) (hfh) (hfo) (hfb) ((by rw [m_cl1 (x := x22) (y := y4) (by omega) (by omega)]; first | (rw [m_bk1 (by omega), ← hsp, ← h_x18]; exact m_mxE ex18) | (rw [m_bk1 (by omega), ← hsp, ← h_x18]; unfold m_mx; rw [if_pos (by omega)]))) _ _ hW ls (lv_sub hl [3, 4, 5, 1, 0] rfl)
        · have i17 := m_c6 (rfl : x16.toInt = _) (rfl : u.toInt = _) c17
          refine lv_aload_n hx hb dX12_mostOf_36 rfl (lv_at hl 0 rfl) ?_
          refine m_getr hx hb hts hown hW (81) 63 (120) rfl rfl cw_12 rfl (by decide) k_X12_140 dX12_mostOf_37 ?_
          refine lv_iload hx hb dX12_mostOf_40 (lv_at hl 4 rfl) ?_
          refine m_iald hx hb hW (120) rfl (m_ixI (rfl : y4.toInt = _) (by omega) (by omega)) dX12_mostOf_42 ?_
          refine lv_topi (fun x23 ex23 => ?_)
          have ex23 : x23 = x3 := by rw [ex23]; exact ex3.symm
          have ex23 := ex23.symm
          subst ex23
          refine lv_iload_n hx hb dX12_mostOf_43 rfl (lv_at hl 2 rfl) ?_
          refine lv_icmp_ne (tgt := 62) hx hb dX12_mostOf_44 (by decide) (fun c24 => ?_) (fun c24 => ?_)
          · have i24 := m_c6 (rfl : x3.toInt = _) (rfl : u.toInt = _) c24
            refine lv_iconst (v := 0) hx hb dX12_mostOf_62 (by decide) ?_
            refine lv_istore (lv' := [(5, .int 0), (0, .ref (b + 81)), (1, .int k), (2, .int u), (3, .int y3), (4, .int y4)]) hx hb dX12_mostOf_63 hl (by decide) rfl (fun ls hl => ?_)
            refine lv_iload hx hb dX12_mostOf_65 (lv_at hl 0 rfl) ?_
            refine lv_if_eq (tgt := 89) hx hb dX12_mostOf_67 (by decide) (fun _ => ?_) (fun c => False.elim (by revert c; decide))
            obtain ⟨x25, ex25⟩ : ∃ z : Int32, z = y4 + 1 := ⟨_, rfl⟩
            refine lv_iinc (v := x25) (lv' := [(4, .int x25), (5, .int 0), (0, .ref (b + 81)), (1, .int k), (2, .int u), (3, .int y3)]) hx hb dX12_mostOf_89 hl (k := 5) rfl (by rw [ex25]; rfl) (by decide) rfl (fun ls hl => ?_)
            have tx25 : x25.toInt = y4.toInt + 1 := m_addI ex25 (rfl : y4.toInt = _) (by decide : (1 : Int32).toInt = 1) (by omega) (by omega)
            refine lv_goto (tgt := 5) hx hb dX12_mostOf_92 (by decide) ?_
            exact ih y3 x25 (by omega) (by omega) μ hI hm (by exact ht) (hfw) (hfh) (hfo) (hfb) ((by rw [m_cl1 (x := x25) (y := y4) (by omega) (by omega)]; first | (rw [m_bk0 (by omega)]; exact hsp))) _ _ hW ls (lv_sub hl [2, 3, 4, 5, 0] rfl)
          · have i24 := m_c5 (rfl : x3.toInt = _) (rfl : u.toInt = _) c24
            refine lv_aload_n hx hb dX12_mostOf_47 rfl (lv_at hl 0 rfl) ?_
            refine m_getr hx hb hts hown hW (81) 64 (121) rfl rfl cw_12 rfl (by decide) k_X12_143 dX12_mostOf_48 ?_
            refine lv_iload hx hb dX12_mostOf_51 (lv_at hl 4 rfl) ?_
            refine m_iald hx hb hW (121) rfl (m_ixI (rfl : y4.toInt = _) (by omega) (by omega)) dX12_mostOf_53 ?_
            refine lv_topi (fun x26 ex26 => ?_)
            have ex26 : x26 = x16 := by rw [ex26]; exact ex16.symm
            have ex26 := ex26.symm
            subst ex26
            refine lv_iload_n hx hb dX12_mostOf_54 rfl (lv_at hl 1 rfl) ?_
            refine lv_icmp_ne (tgt := 62) hx hb dX12_mostOf_55 (by decide) (fun c27 => ?_) (fun c27 => ?_)
            · have i27 := m_c6 (rfl : x16.toInt = _) (rfl : k.toInt = _) c27
              refine lv_iconst (v := 0) hx hb dX12_mostOf_62 (by decide) ?_
              refine lv_istore (lv' := [(5, .int 0), (0, .ref (b + 81)), (1, .int k), (2, .int u), (3, .int y3), (4, .int y4)]) hx hb dX12_mostOf_63 hl (by decide) rfl (fun ls hl => ?_)
              refine lv_iload hx hb dX12_mostOf_65 (lv_at hl 0 rfl) ?_
              refine lv_if_eq (tgt := 89) hx hb dX12_mostOf_67 (by decide) (fun _ => ?_) (fun c => False.elim (by revert c; decide))
              obtain ⟨x28, ex28⟩ : ∃ z : Int32, z = y4 + 1 := ⟨_, rfl⟩
              refine lv_iinc (v := x28) (lv' := [(4, .int x28), (5, .int 0), (0, .ref (b + 81)), (1, .int k), (2, .int u), (3, .int y3)]) hx hb dX12_mostOf_89 hl (k := 5) rfl (by rw [ex28]; rfl) (by decide) rfl (fun ls hl => ?_)
              have tx28 : x28.toInt = y4.toInt + 1 := m_addI ex28 (rfl : y4.toInt = _) (by decide : (1 : Int32).toInt = 1) (by omega) (by omega)
              refine lv_goto (tgt := 5) hx hb dX12_mostOf_92 (by decide) ?_
              exact ih y3 x28 (by omega) (by omega) μ hI hm (by exact ht) (hfw) (hfh) (hfo) (hfb) ((by rw [m_cl1 (x := x28) (y := y4) (by omega) (by omega)]; first | (rw [m_bk0 (by omega)]; exact hsp))) _ _ hW ls (lv_sub hl [2, 3, 4, 5, 0] rfl)
            · have i27 := m_c5 (rfl : x16.toInt = _) (rfl : k.toInt = _) c27
              refine lv_iconst (v := 1) hx hb dX12_mostOf_58 (by decide) ?_
              refine lv_goto (tgt := 63) hx hb dX12_mostOf_59 (by decide) ?_
              refine lv_istore (lv' := [(5, .int 1), (0, .ref (b + 81)), (1, .int k), (2, .int u), (3, .int y3), (4, .int y4)]) hx hb dX12_mostOf_63 hl (by decide) rfl (fun ls hl => ?_)
              refine lv_iload hx hb dX12_mostOf_65 (lv_at hl 0 rfl) ?_
              refine lv_if_eq (tgt := 89) hx hb dX12_mostOf_67 (by decide) (fun c => False.elim (by revert c; decide)) (fun _ => ?_)
              refine lv_aload_n hx hb dX12_mostOf_70 rfl (lv_at hl 1 rfl) ?_
              refine m_getr hx hb hts hown hW (81) 65 (122) rfl rfl cw_12 rfl (by decide) k_X12_146 dX12_mostOf_71 ?_
              refine lv_iload hx hb dX12_mostOf_74 (lv_at hl 5 rfl) ?_
              refine m_iald hx hb hW (122) rfl (m_ixI (rfl : y4.toInt = _) (by omega) (by omega)) dX12_mostOf_76 ?_
              refine lv_topi (fun x29 ex29 => ?_)
              have h_x29 : x29 = fo y4.toNatClampNeg := by rw [ex29, hfo]
              have fx29 : (fo y4.toNatClampNeg).toInt = x29.toInt := by rw [← h_x29]
              refine lv_iload_n hx hb dX12_mostOf_77 rfl (lv_at hl 4 rfl) ?_
              refine lv_icmp_le (tgt := 89) hx hb dX12_mostOf_78 (by decide) (fun c30 => ?_) (fun c30 => ?_)
              · have i30 := m_c3 (rfl : x29.toInt = _) (rfl : y3.toInt = _) c30
                obtain ⟨x31, ex31⟩ : ∃ z : Int32, z = y4 + 1 := ⟨_, rfl⟩
                refine lv_iinc (v := x31) (lv' := [(4, .int x31), (5, .int 1), (0, .ref (b + 81)), (1, .int k), (2, .int u), (3, .int y3)]) hx hb dX12_mostOf_89 hl (k := 5) rfl (by rw [ex31]; rfl) (by decide) rfl (fun ls hl => ?_)
                have tx31 : x31.toInt = y4.toInt + 1 := m_addI ex31 (rfl : y4.toInt = _) (by decide : (1 : Int32).toInt = 1) (by omega) (by omega)
                refine lv_goto (tgt := 5) hx hb dX12_mostOf_92 (by decide) ?_
                exact ih y3 x31 (by omega) (by omega) μ hI hm (by exact ht) (hfw) (hfh) (hfo) (hfb) ((by rw [m_cl1 (x := x31) (y := y4) (by omega) (by omega)]; first | (rw [m_bk0 (by omega)]; exact hsp) | (rw [m_bk1 (by omega), ← hsp]; unfold m_mx; rw [if_neg (by omega)]))) _ _ hW ls (lv_sub hl [2, 3, 4, 5, 0] rfl)
              · have i30 := m_c4 (rfl : x29.toInt = _) (rfl : y3.toInt = _) c30
                refine lv_aload_n hx hb dX12_mostOf_81 rfl (lv_at hl 1 rfl) ?_
                refine m_getr hx hb hts hown hW (81) 65 (122) rfl rfl cw_12 rfl (by decide) k_X12_146 dX12_mostOf_82 ?_
                refine lv_iload hx hb dX12_mostOf_85 (lv_at hl 5 rfl) ?_
                refine m_iald hx hb hW (122) rfl (m_ixI (rfl : y4.toInt = _) (by omega) (by omega)) dX12_mostOf_87 ?_
                refine lv_topi (fun x32 ex32 => ?_)
                have ex32 : x32 = x29 := by rw [ex32]; exact ex29.symm
                have ex32 := ex32.symm
                subst ex32
                refine lv_istore_n (lv' := [(3, .int x29), (5, .int 1), (0, .ref (b + 81)), (1, .int k), (2, .int u), (4, .int y4)]) hx hb dX12_mostOf_88 rfl hl (by decide) rfl (fun ls hl => ?_)
                obtain ⟨x33, ex33⟩ : ∃ z : Int32, z = y4 + 1 := ⟨_, rfl⟩
                refine lv_iinc (v := x33) (lv' := [(4, .int x33), (3, .int x29), (5, .int 1), (0, .ref (b + 81)), (1, .int k), (2, .int u)]) hx hb dX12_mostOf_89 hl (k := 5) rfl (by rw [ex33]; rfl) (by decide) rfl (fun ls hl => ?_)
                have tx33 : x33.toInt = y4.toInt + 1 := m_addI ex33 (rfl : y4.toInt = _) (by decide : (1 : Int32).toInt = 1) (by omega) (by omega)
                refine lv_goto (tgt := 5) hx hb dX12_mostOf_92 (by decide) ?_
                exact ih x29 x33 (by omega) (by omega) μ hI hm (by exact ht) (hfw) (hfh) (hfo) (hfb) ((by rw [m_cl1 (x := x33) (y := y4) (by omega) (by omega)]; first | (rw [m_bk1 (by omega), ← hsp, ← h_x29]; exact m_mxE ex29) | (rw [m_bk1 (by omega), ← hsp, ← h_x29]; unfold m_mx; rw [if_pos (by omega)]))) _ _ hW ls (lv_sub hl [3, 4, 5, 1, 0] rfl)
set_option maxHeartbeats 4000000 in
set_option maxRecDepth 100000 in
theorem g_X12_mostOf_g (l : Launch) (D : va_G) (cy : Nat → ClassId) (b : Nat) (t : Int32) (h_t : 0 ≤ t.toInt ∧ t.toInt ≤ 6) (fw fh fo : Nat → Int32) (fb : Nat → Int32) (k u : Int32) (h_k : 1 ≤ k.toInt ∧ k.toInt ≤ 40) (h_u : 1 ≤ u.toInt ∧ u.toInt ≤ 40) (μ : mM) (hI : IX μ) (ht : μ.1 81 62 = t) (hfw : μ.1 120 = fw) (hfh : μ.1 121 = fh) (hfo : μ.1 122 = fo) (hfb : μ.1 123 = fb) : m_Ci l yX12_mostOf cX12_mostOf 6 ((some .int)) 0 D cy b LAY μ [.ref (b + 81), .int k, .int u] (fun r ν => μ = ν ∧ (r = m_st fw fh fo t.toNatClampNeg fb k.toNatClampNeg u.toNatClampNeg)) := by
  unfold m_Ci
  refine m_of (by decide) (Nat.le_of_ble_eq_true rfl) ?_
  intro p e s m below meth c hx hb hr hml hown hts hlocks _ hW ls hl
  have hown : s.vm.findClass RX12 = some m.cls := hown
  have hl : lv_has ls 6 [(0, .ref (b + 81)), (1, .int k), (2, .int u)] := hl
  refine lv_iconst (v := 0) hx hb dX12_mostOf_0 (by decide) ?_
  refine lv_istore_n (lv' := [(3, .int 0), (0, .ref (b + 81)), (1, .int k), (2, .int u)]) hx hb dX12_mostOf_1 rfl hl (by decide) rfl (fun ls hl => ?_)
  refine lv_iconst (v := 0) hx hb dX12_mostOf_2 (by decide) ?_
  refine lv_istore (lv' := [(4, .int 0), (3, .int 0), (0, .ref (b + 81)), (1, .int k), (2, .int u)]) hx hb dX12_mostOf_3 hl (by decide) rfl (fun ls hl => ?_)
  have l_0 : (0 : Int32).toInt = 0 := by decide
  exact L_X12_mostOf_g_5 hx hb hr hml hown hts hlocks μ t h_t fw fh fo fb k u h_k h_u  7 0 0 (by omega) (by omega) μ hI rfl (by exact ht) (hfw) (hfh) (hfo) (hfb) (rfl) _ _ hW ls (lv_sub hl [2, 3, 4, 1, 0] rfl)
