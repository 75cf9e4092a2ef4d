-- THE PARSER AS A FUNCTION: K the kinds, L the places, V the values of the tokens; IF is false, AGAIN true
def a_b {α : Type} (x : Sum (Int × Int) Nat) (g : Nat → Sum (Int × Int) α) : Sum (Int × Int) α := match x with
  | .inl e => .inl e
  | .inr j => g j
def a_k (K L : Nat → Int) (lo hi : Int) (i : Nat) : Sum (Int × Int) Nat := if lo ≤ K i ∧ K i ≤ hi then .inr (i + 1) else .inl (1, L i)
def a_T (K L : Nat → Int) (i : Nat) : Sum (Int × Int) Nat := if K i = 2 ∨ (23 ≤ K i ∧ K i ≤ 27) then .inr (i + 1) else .inl (1, L i)
def a_N (K L V : Nat → Int) (lo hi : Int) (i : Nat) : Sum (Int × Int) Nat := if K i = 2 then (if lo ≤ V i ∧ V i ≤ hi then .inr (i + 1) else .inl (2, L i)) else .inl (1, L i)
def a_Sl (K L : Nat → Int) : Nat → Nat → Sum (Int × Int) Nat
  | 0, i => .inr i
  | m + 1, i => if K i = 4 ∨ K i = 5 then a_b (a_T K L (i + 1)) (a_Sl K L m) else .inr i
def a_S (K L : Nat → Int) (i : Nat) : Sum (Int × Int) Nat := a_b (a_T K L i) (a_Sl K L 401)
def a_plain (K L V : Nat → Int) (i : Nat) : Sum (Int × Int) Nat :=
  if K i = 9 ∨ K i = 10 then .inr (i + 1) else if K i = 11 then a_b (a_N K L V 0 9999 (i + 1)) (a_N K L V 0 9999) else if K i = 12 then a_b (a_k K L 19 22 (i + 1)) (a_N K L V 0 9999) else if K i = 13 then a_N K L V 0 9999 (i + 1) else a_N K L V 1 20 (i + 1)
def a_pop : List Bool → List Bool
  | false :: sl => a_pop sl
  | sl => sl
def a_close (K L : Nat → Int) (sl : List Bool) (i : Nat) : Sum (Int × Int) (Nat × List Bool) := a_b (a_k K L 3 3 i) (fun j => .inr (j, a_pop sl))
def a_again (K L V : Nat → Int) (i : Nat) : Sum (Int × Int) Nat := a_b (a_N K L V 1 99 (i + 1)) (a_k K L 17 17)
def a_if (K L : Nat → Int) (i : Nat) : Sum (Int × Int) Nat := a_b (a_S K L (i + 1)) (fun j => a_b (a_k K L 6 8 j) (a_S K L))
def a_step (K L V : Nat → Int) (i : Nat) (sl : List Bool) : Sum (Int × Int) (Nat × List Bool) :=
  if 9 ≤ K i ∧ K i ≤ 14 then a_b (a_plain K L V i) (a_close K L sl)
  else if K i = 15 then (if 4 ≤ sl.length then .inl (3, L i) else a_b (a_again K L V i) (fun j => .inr (j, true :: sl)))
  else if K i = 16 then (if 4 ≤ sl.length then .inl (3, L i) else a_b (a_if K L i) (fun j => .inr (j, false :: sl)))
  else match sl with
    | true :: t => if K i = 18 then a_close K L t (i + 1) else .inl (1, L i)
    | _ => .inl (1, L i)
def a_all (K L V : Nat → Int) : Nat → Nat → List Bool → Option (Int × Int)
  | 0, _, _ => none
  | m + 1, i, sl => if K i = 1 ∧ sl = [] then none else match a_step K L V i sl with
    | .inl e => some e
    | .inr x => a_all K L V m x.1 x.2
theorem a_Sl_m {K L : Nat → Int} (hK : ∀ j, 400 ≤ j → K j = 1) : ∀ (d m m' j : Nat), 400 - j = d → d ≤ m → d ≤ m' → a_Sl K L m j = a_Sl K L m' j
  | 0, m, m', j, hd, _, _ => by
    have h := hK j (by omega)
    have e : ∀ m, a_Sl K L m j = .inr j := fun m => by
      cases m with
      | zero => rfl
      | succ m =>
        unfold a_Sl
        rw [if_neg (by omega)]
    rw [e, e]
  | d + 1, m, m', j, hd, h1, h2 => by
    obtain ⟨a, rfl⟩ : ∃ a, m = a + 1 := ⟨m - 1, by omega⟩
    obtain ⟨b, rfl⟩ : ∃ b, m' = b + 1 := ⟨m' - 1, by omega⟩
    unfold a_Sl
    by_cases q : K j = 4 ∨ K j = 5
    · rw [if_pos q, if_pos q]
      unfold a_T
      by_cases q2 : K (j + 1) = 2 ∨ (23 ≤ K (j + 1) ∧ K (j + 1) ≤ 27)
      · rw [if_pos q2]
        show a_Sl K L a (j + 1 + 1) = a_Sl K L b (j + 1 + 1)
        exact a_Sl_m hK (400 - (j + 1 + 1)) a b (j + 1 + 1) rfl (by omega) (by omega)
      · rw [if_neg q2]
        rfl
    · rw [if_neg q, if_neg q]
theorem a_Sl_1 {K L : Nat → Int} (hK : ∀ j, 400 ≤ j → K j = 1) {j : Nat} (q : K j = 4 ∨ K j = 5) : a_Sl K L 401 j = a_b (a_T K L (j + 1)) (a_Sl K L 401) := by
  show (if K j = 4 ∨ K j = 5 then a_b (a_T K L (j + 1)) (a_Sl K L 400) else .inr j) = _
  have e : a_Sl K L 400 = a_Sl K L 401 := funext fun i => a_Sl_m hK (400 - i) 400 401 i rfl (by omega) (by omega)
  rw [if_pos q, e]
theorem a_Sl_0 {K L : Nat → Int} {j : Nat} (q : ¬ (K j = 4 ∨ K j = 5)) : a_Sl K L 401 j = .inr j := by
  show (if K j = 4 ∨ K j = 5 then _ else _) = _
  rw [if_neg q]
/-- the tokens of the text -/
noncomputable def t_K (f : Nat → Int32) (n : Nat) : Nat → Int := m_KK f n
def t_L (f : Nat → Int32) (n : Nat) : Nat → Int := fun i => (m_Q f n i : Nat)
def t_V (f : Nat → Int32) (n : Nat) : Nat → Int := fun i => (m_VV f n i).toInt
theorem t_K4 {f : Nat → Int32} {n : Nat} (hn : n ≤ 400) : ∀ j, 400 ≤ j → t_K f n j = 1 := fun _ hj => m_KK_400 hn hj
/-- the reference stands at the token i -/
def m_MS (μ : mM) (f : Nat → Int32) (n i : Nat) : Prop := (μ.1 81 36).toInt = (m_P f n (i + 1) : Nat) ∧ (μ.1 81 37).toInt = t_L f n i ∧ m_TV (t_K f n i) (m_VV f n i) (μ.1 81 38) (μ.1 81 39)
theorem m_MS.cg {μ ν : mM} {f : Nat → Int32} {n i : Nat} (h : m_MS μ f n i) (h1 : ν.1 81 36 = μ.1 81 36) (h2 : ν.1 81 37 = μ.1 81 37) (h3 : ν.1 81 38 = μ.1 81 38) (h4 : ν.1 81 39 = μ.1 81 39) : m_MS ν f n i := by
  unfold m_MS
  rw [h1, h2, h3, h4]
  exact h
theorem m_MS.fr {S : Nat → Bool} {μ ν : mM} {f : Nat → Int32} {n i : Nat} (h : m_MS μ f n i) (hJ : IY S μ ν) (h1 : S 24 = false) : m_MS ν f n i := h.cg (hJ.2.1 _ _ h1) (hJ.2.1 _ _ h1) (hJ.2.1 _ _ h1) (hJ.2.1 _ _ h1)
theorem m_MS.si {μ ν : mM} {f : Nat → Int32} {n i : Nat} (h : m_MS μ f n i) {k j : Nat} {v : Int32} (e : m_si μ k j v = ν) (hk : k = 81 → j ≠ 36 ∧ j ≠ 37 ∧ j ≠ 38 ∧ j ≠ 39) : m_MS ν f n i := by
  subst e
  have key : ∀ a : Nat, (k = 81 → j ≠ a) → (m_si μ k j v).1 81 a = μ.1 81 a := fun a ha => if_neg (fun q => ha q.1.symm q.2.symm)
  exact h.cg (key _ fun q => (hk q).1) (key _ fun q => (hk q).2.1) (key _ fun q => (hk q).2.2.1) (key _ fun q => (hk q).2.2.2)
theorem m_MS.next {μ ν : mM} {f : Nat → Int32} {n i : Nat} {a : Int32} (h : m_MS μ f n i) (ha : μ.1 81 36 = a) (hq : (ν.1 81 37).toInt = (m_q f n a.toNatClampNeg : Nat) ∧ (ν.1 81 36).toInt = (m_te f n (m_q f n a.toNatClampNeg) : Nat) ∧ m_TV (m_tk f n (m_q f n a.toNatClampNeg)) (m_tv f n (m_q f n a.toNatClampNeg)) (ν.1 81 38) (ν.1 81 39)) : m_MS ν f n (i + 1) := by
  have e : a.toNatClampNeg = m_P f n (i + 1) := by
    have h1 := h.1
    rw [ha] at h1
    show a.toInt.toNat = _
    omega
  rw [e] at hq
  exact ⟨hq.2.1, hq.1, hq.2.2⟩
theorem m_MS.first {μ ν : mM} {f : Nat → Int32} {n : Nat} (hq : (ν.1 81 37).toInt = (m_q f n (0 : Int32).toNatClampNeg : Nat) ∧ (ν.1 81 36).toInt = (m_te f n (m_q f n (0 : Int32).toNatClampNeg) : Nat) ∧ m_TV (m_tk f n (m_q f n (0 : Int32).toNatClampNeg)) (m_tv f n (m_q f n (0 : Int32).toNatClampNeg)) (ν.1 81 38) (ν.1 81 39)) : m_MS ν f n 0 := ⟨hq.2.1, hq.1, hq.2.2⟩
theorem m_MS.at_le {μ : mM} {f : Nat → Int32} {n i : Nat} (h : m_MS μ f n i) : 0 ≤ (μ.1 81 36).toInt ∧ (μ.1 81 36).toInt ≤ n := by
  have h1 := h.1
  have h2 := m_P_le (f := f) (n := n) (i + 1)
  omega
/-- the reference'sl fault -/
def m_FT (μ : mM) (e : Int × Int) : Prop := (μ.1 81 54).toInt = e.1 ∧ (μ.1 81 55).toInt = e.2
/-- what the token and the value of the reference say of the kind (kept shut: omega would split over it) -/
def m_TQ (kd : Int) (vl tok v : Int32) : Prop := m_TV kd vl tok v
theorem m_TQ.t {kd : Int} {vl tok v : Int32} (h : m_TQ kd vl tok v) : (tok.toInt = 0 ∧ kd = 1) ∨ (tok.toInt = 1 ∧ kd = 0) ∨ (tok.toInt = 3 ∧ kd = 2) ∨ (tok.toInt = 4 ∧ 3 ≤ kd ∧ kd ≤ 8) ∨ (tok.toInt = 2 ∧ 9 ≤ kd ∧ kd ≤ 27) := by
  rcases h with ⟨h1, h2⟩ | ⟨h1, h2⟩ | ⟨h1, h2, h3⟩ | ⟨h1, h2, h3⟩ | ⟨q, h1, h2, h3, h4⟩
  · omega
  · omega
  · omega
  · omega
  · have hl := (m_kw_kx q h1).2
    omega
theorem m_TQ.n {kd : Int} {vl tok v : Int32} (h : m_TQ kd vl tok v) (ht : tok.toInt = 3) : v = vl := by
  rcases h with ⟨h1, h2⟩ | ⟨h1, h2⟩ | ⟨h1, h2, h3⟩ | ⟨h1, h2, h3⟩ | ⟨q, h1, h2, h3, h4⟩
  · omega
  · omega
  · exact h3
  · omega
  · omega
theorem m_TQ.g {kd : Int} {vl tok v : Int32} (h : m_TQ kd vl tok v) (ht : tok.toInt = 4) : m_sk v.toInt = kd := by
  rcases h with ⟨h1, h2⟩ | ⟨h1, h2⟩ | ⟨h1, h2, h3⟩ | ⟨h1, h2, h3⟩ | ⟨q, h1, h2, h3, h4⟩
  · omega
  · omega
  · omega
  · exact h3
  · omega
/-- a word: the kind of it in the class -/
def m_wq (v : Int) : Int := 9 + (m_sg v.toNat : Nat)
theorem m_TQ.w {kd : Int} {vl tok v : Int32} (h : m_TQ kd vl tok v) (ht : tok.toInt = 2) : kd = m_wq v.toInt ∧ 0 ≤ v.toInt ∧ v.toInt ≤ 18 := by
  rcases h with ⟨h1, h2⟩ | ⟨h1, h2⟩ | ⟨h1, h2, h3⟩ | ⟨h1, h2, h3⟩ | ⟨q, h1, h2, h3, h4⟩
  · omega
  · omega
  · omega
  · omega
  · refine ⟨?_, by omega, by omega⟩
    unfold m_wq
    rw [h3]
    exact h4
theorem m_wq_q : ∀ q : Nat, q < 19 → ((q : Int) ≤ 6 ∧ m_wq q = q + 9) ∨ ((q : Int) = 7 ∧ m_wq q = 17) ∨ ((q : Int) = 8 ∧ m_wq q = 18) ∨ ((q : Int) = 9 ∧ m_wq q = 16) ∨ (10 ≤ (q : Int) ∧ m_wq q = q + 9) := by decide +kernel
theorem m_TQ.wd {kd : Int} {vl tok v : Int32} (h : m_TQ kd vl tok v) (ht : tok.toInt = 2) : (0 ≤ v.toInt ∧ v.toInt ≤ 6 ∧ kd = v.toInt + 9) ∨ (v.toInt = 7 ∧ kd = 17) ∨ (v.toInt = 8 ∧ kd = 18) ∨ (v.toInt = 9 ∧ kd = 16) ∨ (10 ≤ v.toInt ∧ v.toInt ≤ 18 ∧ kd = v.toInt + 9) := by
  obtain ⟨h1, h2, h3⟩ := h.w ht
  have e := m_wq_q v.toInt.toNat (by omega)
  rw [show ((v.toInt.toNat : Nat) : Int) = v.toInt from by omega] at e
  rw [h1]
  omega
/-- the signs one by one -/
theorem m_TQ.sg {kd : Int} {vl tok v : Int32} (h : m_TQ kd vl tok v) (ht : tok.toInt = 4) : (kd = 3 ∧ v.toInt = 59) ∨ (kd = 4 ∧ v.toInt = 43) ∨ (kd = 5 ∧ v.toInt = 45) ∨ (kd = 6 ∧ v.toInt = 60) ∨ (kd = 7 ∧ v.toInt = 61) ∨ (kd = 8 ∧ v.toInt = 62) := by
  have hg := h.g ht
  have hk := h.t
  generalize v.toInt = w at hg ⊢
  unfold m_sk at hg
  repeat' split at hg
  all_goals omega
/-- all cases of a token -/
theorem m_TQ.all {kd : Int} {vl tok v : Int32} (h : m_TQ kd vl tok v) : (tok.toInt = 0 ∧ kd = 1) ∨ (tok.toInt = 1 ∧ kd = 0) ∨ (tok.toInt = 3 ∧ kd = 2) ∨ (tok.toInt = 4 ∧ ((kd = 3 ∧ v.toInt = 59) ∨ (kd = 4 ∧ v.toInt = 43) ∨ (kd = 5 ∧ v.toInt = 45) ∨ (kd = 6 ∧ v.toInt = 60) ∨ (kd = 7 ∧ v.toInt = 61) ∨ (kd = 8 ∧ v.toInt = 62))) ∨ (tok.toInt = 2 ∧ ((0 ≤ v.toInt ∧ v.toInt ≤ 6 ∧ kd = v.toInt + 9) ∨ (v.toInt = 7 ∧ kd = 17) ∨ (v.toInt = 8 ∧ kd = 18) ∨ (v.toInt = 9 ∧ kd = 16) ∨ (10 ≤ v.toInt ∧ v.toInt ≤ 18 ∧ kd = v.toInt + 9))) := by
  rcases h.t with q | q | q | ⟨q, _⟩ | ⟨q, _⟩
  · exact Or.inl q
  · exact Or.inr (Or.inl q)
  · exact Or.inr (Or.inr (Or.inl q))
  · exact Or.inr (Or.inr (Or.inr (Or.inl ⟨q, h.sg q⟩)))
  · exact Or.inr (Or.inr (Or.inr (Or.inr ⟨q, h.wd q⟩)))
theorem m_sk_c {cn : Int} : (m_sk cn = 3 ↔ cn = 59) ∧ (m_sk cn = 4 ↔ cn = 43) ∧ (m_sk cn = 5 ↔ cn = 45) ∧ (m_sk cn = 6 ↔ cn = 60) ∧ (m_sk cn = 7 ↔ cn = 61) ∧ (m_sk cn = 8 ↔ cn = 62) := by
  unfold m_sk
  by_cases h1 : cn = 59
  · subst h1; decide
  · rw [if_neg h1]
    by_cases h2 : cn = 43
    · subst h2; decide
    · rw [if_neg h2]
      by_cases h3 : cn = 45
      · subst h3; decide
      · rw [if_neg h3]
        by_cases h4 : cn = 60
        · subst h4; decide
        · rw [if_neg h4]
          by_cases h5 : cn = 61
          · subst h5; decide
          · rw [if_neg h5]
            by_cases h6 : cn = 62
            · subst h6; decide
            · rw [if_neg h6]
              omega
