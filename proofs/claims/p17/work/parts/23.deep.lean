-- DEPTHS: how many agains are open before a step
def m_dd (x : Int32) : Int := if x = 6 then 1 else if x = 7 then -1 else 0
def m_dep (f : Nat → Int32) : Nat → Int
  | 0 => 0
  | n + 1 => m_dep f n + m_dd (f n)
theorem m_dep_same {f g : Nat → Int32} : ∀ n, (∀ i, i < n → g i = f i) → m_dep g n = m_dep f n
  | 0, _ => rfl
  | n + 1, h => by
    unfold m_dep
    rw [m_dep_same n (fun i hi => h i (by omega)), h n (by omega)]
def m_cnt (fr : Nat → Int32) : Nat → Int
  | 0 => 0
  | n + 1 => m_cnt fr n + (if 0 ≤ (fr n).toInt then 1 else 0)
theorem m_cnt_same {f g : Nat → Int32} : ∀ n, (∀ i, i < n → g i = f i) → m_cnt g n = m_cnt f n
  | 0, _ => rfl
  | n + 1, h => by
    unfold m_cnt
    rw [m_cnt_same n (fun i hi => h i (by omega)), h n (by omega)]
theorem m_cnt_le (f : Nat → Int32) : ∀ n, 0 ≤ m_cnt f n ∧ m_cnt f n ≤ n
  | 0 => ⟨Int.le_refl 0, Int.le_refl 0⟩
  | n + 1 => by
    have := m_cnt_le f n
    unfold m_cnt
    split <;> omega
/-- a draft: n steps, N frames open -/
def m_DF (f g fr : Nat → Int32) (n N : Nat) : Prop :=
  (∀ i, i < n → (f i = 6 → m_dep f i ≤ 3 ∧ 1 ≤ (g i).toInt ∧ (g i).toInt ≤ 99) ∧ (f i = 7 → 1 ≤ m_dep f i ∧ ∃ t : Nat, (g i).toInt = t ∧ t ≤ i ∧ m_dep f t = m_dep f i) ∧ (f i = 8 → (∃ t : Nat, (g i).toInt = t ∧ t ≤ n ∧ m_dep f t = m_dep f i) ∨ ∃ e, e < N ∧ (fr e).toInt = (i : Int) - 1000)) ∧
  (∀ i, i ≤ n → 0 ≤ m_dep f i) ∧ m_dep f n = m_cnt fr N ∧
  (∀ e, e < N → (0 ≤ (fr e).toInt → ∃ t : Nat, (fr e).toInt = t ∧ t < n ∧ m_dep f (t + 1) = m_cnt fr (e + 1)) ∧ ((fr e).toInt < 0 → ∃ t : Nat, (fr e).toInt = (t : Int) - 1000 ∧ t < n ∧ t ≤ 399 ∧ m_dep f t = m_cnt fr e ∧ f t = 8))
/-- a program: its jumps keep the depth -/
def m_WF (f g : Nat → Int32) (n : Nat) : Prop :=
  (∀ i, i < n → (f i = 6 → m_dep f i ≤ 3 ∧ 1 ≤ (g i).toInt ∧ (g i).toInt ≤ 99) ∧ (f i = 7 → 1 ≤ m_dep f i ∧ ∃ t : Nat, (g i).toInt = t ∧ t ≤ i ∧ m_dep f t = m_dep f i) ∧ (f i = 8 → ∃ t : Nat, (g i).toInt = t ∧ t ≤ n ∧ m_dep f t = m_dep f i)) ∧
  (∀ i, i ≤ n → 0 ≤ m_dep f i)
theorem m_DF.wf {f g fr : Nat → Int32} {n : Nat} (h : m_DF f g fr n 0) : m_WF f g n := by
  refine ⟨fun i hi => ⟨(h.1 i hi).1, (h.1 i hi).2.1, fun h8 => ?_⟩, h.2.1⟩
  rcases (h.1 i hi).2.2 h8 with q | ⟨e, he, _⟩
  · exact q
  · exact absurd he (by omega)
theorem m_DF.z {f g fr : Nat → Int32} : m_DF f g fr 0 0 := ⟨fun i hi => absurd hi (by omega), fun i hi => by
  have : i = 0 := by omega
  subst this
  exact Int.le_refl 0, rfl, fun e he => absurd he (by omega)⟩
/-- a step more, in general -/
theorem m_DF.step {f g fr f' g' fr' : Nat → Int32} {n N N' : Nat} (h : m_DF f g fr n N) (hf : ∀ i, i ≠ n → f' i = f i) (hg : ∀ i, i ≠ n → g' i = g i) (hN : N ≤ N') (hfr : ∀ e, e < N → fr' e = fr e)
    (h6 : f' n = 6 → m_dep f n ≤ 3 ∧ 1 ≤ (g' n).toInt ∧ (g' n).toInt ≤ 99) (h7 : f' n ≠ 7) (h8 : f' n = 8 → ∃ e, e < N' ∧ (fr' e).toInt = (n : Int) - 1000)
    (hd : m_dep f n + m_dd (f' n) = m_cnt fr' N')
    (hn : ∀ e, N ≤ e → e < N' → (0 ≤ (fr' e).toInt → ∃ t : Nat, (fr' e).toInt = t ∧ t < n + 1 ∧ m_dep f' (t + 1) = m_cnt fr' (e + 1)) ∧ ((fr' e).toInt < 0 → ∃ t : Nat, (fr' e).toInt = (t : Int) - 1000 ∧ t < n + 1 ∧ t ≤ 399 ∧ m_dep f' t = m_cnt fr' e ∧ f' t = 8)) : m_DF f' g' fr' (n + 1) N' := by
  have dl : ∀ i, i ≤ n → m_dep f' i = m_dep f i := fun i hi => m_dep_same i (fun j hj => hf j (by omega))
  have cl : ∀ e, e ≤ N → m_cnt fr' e = m_cnt fr e := fun e he => m_cnt_same e (fun j hj => hfr j (by omega))
  have dn : m_dep f' (n + 1) = m_dep f n + m_dd (f' n) := by
    show m_dep f' n + m_dd (f' n) = _
    rw [dl n (Nat.le_refl n)]
  refine ⟨fun i hi => ?_, fun i hi => ?_, by rw [dn]; exact hd, fun e he => ?_⟩
  · by_cases q : i = n
    · subst q
      refine ⟨fun k => by rw [dl i (Nat.le_refl i)]; exact h6 k, fun k => absurd k h7, fun k => Or.inr (h8 k)⟩
    · have hi' : i < n := by omega
      obtain ⟨a1, a2, a3⟩ := h.1 i hi'
      rw [hf i q, hg i q, dl i (by omega)]
      refine ⟨a1, fun k => ?_, fun k => ?_⟩
      · obtain ⟨b1, t, b2, b3, b4⟩ := a2 k
        exact ⟨b1, t, b2, b3, by rw [dl t (by omega)]; exact b4⟩
      · rcases a3 k with ⟨t, b2, b3, b4⟩ | ⟨e, b1, b2⟩
        · exact Or.inl ⟨t, b2, by omega, by rw [dl t b3]; exact b4⟩
        · exact Or.inr ⟨e, by omega, by rw [hfr e b1]; exact b2⟩
  · by_cases q : i = n + 1
    · subst q
      rw [dn, hd]
      exact (m_cnt_le fr' N').1
    · rw [dl i (by omega)]
      exact h.2.1 i (by omega)
  · by_cases q : e < N
    · obtain ⟨a1, a2⟩ := h.2.2.2 e q
      rw [hfr e q, cl e (by omega), cl (e + 1) (by omega)]
      refine ⟨fun k => ?_, fun k => ?_⟩
      · obtain ⟨t, b1, b2, b3⟩ := a1 k
        exact ⟨t, b1, by omega, by rw [dl (t + 1) (by omega)]; exact b3⟩
      · obtain ⟨t, b1, b2, b3, b4, b5⟩ := a2 k
        exact ⟨t, b1, by omega, b3, by rw [dl t (by omega)]; exact b4, by rw [hf t (by omega)]; exact b5⟩
    · exact hn e (by omega) he
theorem m_DF.plain {f g fr f' g' : Nat → Int32} {n N : Nat} (h : m_DF f g fr n N) (hf : ∀ i, i ≠ n → f' i = f i) (hg : ∀ i, i ≠ n → g' i = g i) (h6 : f' n ≠ 6) (h7 : f' n ≠ 7) (h8 : f' n ≠ 8) : m_DF f' g' fr (n + 1) N := by
  refine h.step hf hg (Nat.le_refl N) (fun _ _ => rfl) (fun k => absurd k h6) h7 (fun k => absurd k h8) ?_ (fun e h1 h2 => absurd h2 (by omega))
  rw [m_dd, if_neg h6, if_neg h7, h.2.2.1]
  omega
theorem m_DF.iff {f g fr f' g' fr' : Nat → Int32} {n N : Nat} (h : m_DF f g fr n N) (hf : ∀ i, i ≠ n → f' i = f i) (hg : ∀ i, i ≠ n → g' i = g i) (hfr : ∀ e, e ≠ N → fr' e = fr e) (hN : (fr' N).toInt = (n : Int) - 1000) (hn : n ≤ 399) (h8 : f' n = 8) : m_DF f' g' fr' (n + 1) (N + 1) := by
  have dl : m_dep f' n = m_dep f n := m_dep_same n (fun j hj => hf j (by omega))
  have cl : m_cnt fr' N = m_cnt fr N := m_cnt_same N (fun j hj => hfr j (by omega))
  refine h.step hf hg (by omega) (fun e he => hfr e (by omega)) (fun k => absurd (h8.symm.trans k) (by decide)) (fun k => absurd (h8.symm.trans k) (by decide)) (fun _ => ⟨N, by omega, hN⟩) ?_ (fun e h1 h2 => ?_)
  · show m_dep f n + m_dd (f' n) = m_cnt fr' N + _
    rw [h8, cl, h.2.2.1, if_neg (by omega)]
    show _ + (0 : Int) = _
    omega
  · have : e = N := by omega
    subst this
    exact ⟨fun k => absurd k (by omega), fun _ => ⟨n, hN, by omega, hn, by rw [dl, cl]; exact h.2.2.1, h8⟩⟩
theorem m_DF.again {f g fr f' g' fr' : Nat → Int32} {n N : Nat} (h : m_DF f g fr n N) (hf : ∀ i, i ≠ n → f' i = f i) (hg : ∀ i, i ≠ n → g' i = g i) (hfr : ∀ e, e ≠ N → fr' e = fr e) (hN : (fr' N).toInt = (n : Int)) (hN3 : N ≤ 3) (h6 : f' n = 6) (ha : 1 ≤ (g' n).toInt ∧ (g' n).toInt ≤ 99) : m_DF f' g' fr' (n + 1) (N + 1) := by
  have dl : m_dep f' n = m_dep f n := m_dep_same n (fun j hj => hf j (by omega))
  have cl : m_cnt fr' N = m_cnt fr N := m_cnt_same N (fun j hj => hfr j (by omega))
  have hc := m_cnt_le fr N
  have hd := h.2.2.1
  have c1 : m_cnt fr' (N + 1) = m_cnt fr N + 1 := by
    show m_cnt fr' N + _ = _
    rw [cl, if_pos (by omega)]
  refine h.step hf hg (by omega) (fun e he => hfr e (by omega)) (fun _ => ⟨by omega, ha⟩) (fun k => absurd (h6.symm.trans k) (by decide)) (fun k => absurd (h6.symm.trans k) (by decide)) ?_ (fun e h1 h2 => ?_)
  · rw [c1, h6, hd]
    rfl
  · have : e = N := by omega
    subst this
    refine ⟨fun _ => ⟨n, hN, by omega, ?_⟩, fun k => absurd k (by omega)⟩
    show m_dep f' n + m_dd (f' n) = _
    rw [dl, h6, hd, c1]
    rfl
theorem m_DF.close {f g fr f' g' : Nat → Int32} {n N : Nat} (h : m_DF f g fr n (N + 1)) (hn4 : n ≤ 999) (hb : 0 ≤ (fr N).toInt) (hf : ∀ i, i ≠ n → f' i = f i) (hg : ∀ i, i ≠ n → g' i = g i) (h7 : f' n = 7) (ha : (g' n).toInt = (fr N).toInt + 1) : m_DF f' g' fr (n + 1) N := by
  have dl : ∀ i, i ≤ n → m_dep f' i = m_dep f i := fun i hi => m_dep_same i (fun j hj => hf j (by omega))
  have hd : m_dep f n = m_cnt fr N + 1 := by
    rw [h.2.2.1]
    show m_cnt fr N + _ = _
    rw [if_pos hb]
  have hc := m_cnt_le fr N
  have dn : m_dep f' (n + 1) = m_cnt fr N := by
    show m_dep f' n + m_dd (f' n) = _
    rw [dl n (Nat.le_refl n), h7, hd]
    show _ + (-1 : Int) = _
    omega
  refine ⟨fun i hi => ?_, fun i hi => ?_, dn, fun e he => ?_⟩
  · by_cases q : i = n
    · subst q
      refine ⟨fun k => absurd (h7.symm.trans k) (by decide), fun _ => ?_, fun k => absurd (h7.symm.trans k) (by decide)⟩
      obtain ⟨t, b1, b2, b3⟩ := (h.2.2.2 N (by omega)).1 hb
      rw [dl i (Nat.le_refl i), hd]
      refine ⟨by omega, t + 1, by omega, by omega, ?_⟩
      rw [dl (t + 1) (by omega), b3]
      show m_cnt fr N + _ = _
      rw [if_pos hb]
    · have hi' : i < n := by omega
      obtain ⟨a1, a2, a3⟩ := h.1 i hi'
      rw [hf i q, hg i q, dl i (by omega)]
      refine ⟨a1, fun k => ?_, fun k => ?_⟩
      · obtain ⟨b1, t, b2, b3, b4⟩ := a2 k
        exact ⟨b1, t, b2, b3, by rw [dl t (by omega)]; exact b4⟩
      · rcases a3 k with ⟨t, b2, b3, b4⟩ | ⟨e, b1, b2⟩
        · exact Or.inl ⟨t, b2, by omega, by rw [dl t b3]; exact b4⟩
        · by_cases qe : e = N
          · subst qe
            rcases (h.1 i hi').2.2 k with ⟨t, c2, c3, c4⟩ | ⟨e', c1, c2⟩
            · exact Or.inl ⟨t, c2, by omega, by rw [dl t c3]; exact c4⟩
            · by_cases qe' : e' = e
              · subst qe'
                obtain ⟨t, d1, d2, _⟩ := (h.2.2.2 e' (by omega)).1 hb
                exact absurd b2 (by have := hi'; omega)
              · exact Or.inr ⟨e', by omega, c2⟩
          · exact Or.inr ⟨e, by omega, b2⟩
  · by_cases q : i = n + 1
    · subst q
      rw [dn]
      exact hc.1
    · rw [dl i (by omega)]
      exact h.2.1 i (by omega)
  · obtain ⟨a1, a2⟩ := h.2.2.2 e (by omega)
    refine ⟨fun k => ?_, fun k => ?_⟩
    · obtain ⟨t, b1, b2, b3⟩ := a1 k
      exact ⟨t, b1, by omega, by rw [dl (t + 1) (by omega)]; exact b3⟩
    · obtain ⟨t, b1, b2, b3, b4, b5⟩ := a2 k
      exact ⟨t, b1, by omega, b3, by rw [dl t (by omega)]; exact b4, by rw [hf t (by omega)]; exact b5⟩
theorem m_DF.ends {f g fr g' : Nat → Int32} {n N : Nat} (h : m_DF f g fr n (N + 1)) (hb : (fr N).toInt < 0) (hg : ∀ i : Nat, (i : Int) ≠ (fr N).toInt + 1000 → g' i = g i) (hg2 : ∀ i : Nat, (i : Int) = (fr N).toInt + 1000 → (g' i).toInt = n) : m_DF f g' fr n N := by
  have hd : m_dep f n = m_cnt fr N := by
    rw [h.2.2.1]
    show m_cnt fr N + _ = _
    rw [if_neg (by omega)]
    omega
  obtain ⟨t0, b1, b2, b3, b4, b5⟩ := (h.2.2.2 N (by omega)).2 hb
  refine ⟨fun i hi => ?_, h.2.1, hd, fun e he => h.2.2.2 e (by omega)⟩
  obtain ⟨a1, a2, a3⟩ := h.1 i hi
  by_cases q : i = t0
  · subst q
    refine ⟨fun k => absurd (b5.symm.trans k) (by decide), fun k => absurd (b5.symm.trans k) (by decide), fun _ => Or.inl ⟨n, hg2 i (by omega), Nat.le_refl n, by rw [b4, hd]⟩⟩
  · rw [hg i (by omega)]
    refine ⟨a1, a2, fun k => ?_⟩
    rcases a3 k with c | ⟨e, c1, c2⟩
    · exact Or.inl c
    · by_cases qe : e = N
      · subst qe
        exact absurd c2 (by omega)
      · exact Or.inr ⟨e, by omega, c2⟩
-- in the memory
def m_PS (μ : mM) : Prop := m_DF (fun i => μ.1 108 (3200 + i)) (fun i => μ.1 109 (3200 + i)) (μ.1 118) (μ.1 111 8).toNatClampNeg (μ.1 81 53).toNatClampNeg
theorem m_PS.cg {μ ν : mM} (h : m_PS μ) (h1 : ν.1 108 = μ.1 108) (h2 : ν.1 109 = μ.1 109) (h3 : ν.1 118 = μ.1 118) (h4 : ν.1 111 8 = μ.1 111 8) (h5 : ν.1 81 53 = μ.1 81 53) : m_PS ν := by
  unfold m_PS
  rw [h1, h2, h3, h4, h5]
  exact h
theorem m_PS.fr {S : Nat → Bool} {μ ν : mM} (h : m_PS μ) (hJ : IY S μ ν) (h1 : S 41 = false) (h2 : S 33 = false) (h3 : S 35 = false) : m_PS ν :=
  h.cg (funext fun j => hJ.2.1 108 j h1) (funext fun j => hJ.2.1 109 j h1) (funext fun j => hJ.2.1 118 j h3) (hJ.2.1 111 8 h2) (hJ.2.1 81 53 h3)
theorem m_PS.si {μ ν : mM} (h : m_PS μ) {k j : Nat} {v : Int32} (e : m_si μ k j v = ν) (h1 : 108 ≠ k) (h2 : 109 ≠ k) (h3 : 118 ≠ k) (h4 : 111 ≠ k) (h5 : k = 81 → 53 ≠ j) : m_PS ν := by
  subst e
  refine h.cg (m_si_row h1) (m_si_row h2) (m_si_row h3) (m_si_ne h4) ?_
  by_cases q : k = 81
  · subst q
    exact m_si_el (h5 rfl)
  · exact m_si_ne (Ne.symm q)
/-- what emits does -/
def m_em (μ ν : mM) (w a ov : Int32) : Prop := (∀ i, i ≠ ov.toNatClampNeg → ν.1 108 (3200 + i) = μ.1 108 (3200 + i)) ∧ ν.1 108 (3200 + ov.toNatClampNeg) = w ∧ (∀ i, i ≠ ov.toNatClampNeg → ν.1 109 (3200 + i) = μ.1 109 (3200 + i)) ∧ ν.1 109 (3200 + ov.toNatClampNeg) = a ∧ (ν.1 111 8).toInt = ov.toInt + 1
theorem m_em_of {μ : mM} {w a z ov x k : Int32} (hk : k.toInt = 3200 + ov.toInt) (h0 : 0 ≤ ov.toInt) (hx : x.toInt = ov.toInt + 1) : m_em μ (m_si (m_si (m_si (m_si μ 108 k.toNatClampNeg w) 109 k.toNatClampNeg a) 110 k.toNatClampNeg z) 111 8 x) w a ov := by
  have hk : k.toNatClampNeg = 3200 + ov.toNatClampNeg := by
    have := m_ckI h0
    have := m_ckI (x := k) (by omega)
    omega
  rw [hk]
  refine ⟨fun i hi => ?_, ?_, fun i hi => ?_, ?_, ?_⟩
  · rw [m_si_ne (by decide), m_si_ne (by decide), m_si_ne (by decide), m_si_el (by omega)]
  · rw [m_si_ne (by decide), m_si_ne (by decide), m_si_ne (by decide), m_si_at]
  · rw [m_si_ne (by decide), m_si_ne (by decide), m_si_el (by omega), m_si_ne (by decide)]
  · rw [m_si_ne (by decide), m_si_ne (by decide), m_si_at]
  · rw [m_si_at]
    exact hx
theorem m_cl1 {x y : Int32} (h : x.toInt = y.toInt + 1) (h0 : 0 ≤ y.toInt) : x.toNatClampNeg = y.toNatClampNeg + 1 := by
  have := m_ckI h0
  have := m_ckI (x := x) (by omega)
  omega
theorem m_PS.plain {μ ν : mM} (h : m_PS μ) {w a ov : Int32} (ho : μ.1 111 8 = ov) (h0 : 0 ≤ ov.toInt) (he : m_em μ ν w a ov) (hF : ν.1 118 = μ.1 118) (hN : ν.1 81 53 = μ.1 81 53) (h6 : w ≠ 6) (h7 : w ≠ 7) (h8 : w ≠ 8) : m_PS ν := by
  obtain ⟨e1, e2, e3, e4, e5⟩ := he
  unfold m_PS at h ⊢
  rw [ho] at h
  rw [hF, hN, m_cl1 e5 h0]
  exact h.plain e1 e3 (by rw [e2]; exact h6) (by rw [e2]; exact h7) (by rw [e2]; exact h8)
theorem m_PS.iff {μ μ2 ν : mM} (h : m_PS μ) {ov nv x y : Int32} (ho : μ.1 111 8 = ov) (h0 : 0 ≤ ov.toInt ∧ ov.toInt ≤ 399) (hn : μ.1 81 53 = nv) (hn0 : 0 ≤ nv.toInt) (e2 : m_si (m_si μ 118 nv.toNatClampNeg x) 81 53 y = μ2) (hx : x.toInt = ov.toInt - 1000) (hy : y.toInt = nv.toInt + 1) (he : m_em μ2 ν 8 0 ov) (hF : ν.1 118 = μ2.1 118) (hN : ν.1 81 53 = μ2.1 81 53) : m_PS ν := by
  subst e2
  obtain ⟨e1, e2, e3, e4, e5⟩ := he
  unfold m_PS at h ⊢
  rw [ho, hn] at h
  have c := m_ckI h0.1
  rw [hF, hN, m_si_at, m_cl1 e5 h0.1, m_cl1 hy hn0, m_si_row (by decide)]
  refine h.iff (fun i hi => (e1 i hi).trans (by rw [m_si_ne (by decide), m_si_ne (by decide)])) (fun i hi => (e3 i hi).trans (by rw [m_si_ne (by decide), m_si_ne (by decide)])) (fun e he => m_si_el he) ?_ (by omega) e2
  rw [m_si_at]
  omega
theorem m_PS.again {μ μ2 ν : mM} (h : m_PS μ) {ov nv y a : Int32} (ho : μ.1 111 8 = ov) (h0 : 0 ≤ ov.toInt) (hn : μ.1 81 53 = nv) (hn0 : 0 ≤ nv.toInt ∧ nv.toInt ≤ 3) (e2 : m_si (m_si μ 118 nv.toNatClampNeg ov) 81 53 y = μ2) (hy : y.toInt = nv.toInt + 1) (ha : 1 ≤ a.toInt ∧ a.toInt ≤ 99) (he : m_em μ2 ν 6 a ov) (hF : ν.1 118 = μ2.1 118) (hN : ν.1 81 53 = μ2.1 81 53) : m_PS ν := by
  subst e2
  obtain ⟨e1, e2, e3, e4, e5⟩ := he
  unfold m_PS at h ⊢
  rw [ho, hn] at h
  have c := m_ckI h0
  have c2 := m_ckI hn0.1
  rw [hF, hN, m_si_at, m_cl1 e5 h0, m_cl1 hy hn0.1, m_si_row (by decide)]
  refine h.again (fun i hi => (e1 i hi).trans (by rw [m_si_ne (by decide), m_si_ne (by decide)])) (fun i hi => (e3 i hi).trans (by rw [m_si_ne (by decide), m_si_ne (by decide)])) (fun e he => m_si_el he) ?_ (by omega) e2 (by rw [e4]; exact ha)
  rw [m_si_at]
  omega
theorem m_PS.close {μ μ2 ν : mM} (h : m_PS μ) {ov nv y bv a : Int32} (ho : μ.1 111 8 = ov) (h0 : 0 ≤ ov.toInt) (h04 : ov.toInt ≤ 999) (hn : μ.1 81 53 = nv) (hn1 : 1 ≤ nv.toInt) (e2 : m_si μ 81 53 y = μ2) (hy : y.toInt = nv.toInt - 1) (hb : μ2.1 118 y.toNatClampNeg = bv) (hb0 : 0 ≤ bv.toInt) (ha : a.toInt = bv.toInt + 1) (he : m_em μ2 ν 7 a ov) (hF : ν.1 118 = μ2.1 118) (hN : ν.1 81 53 = μ2.1 81 53) : m_PS ν := by
  subst e2
  obtain ⟨e1, e2, e3, e4, e5⟩ := he
  unfold m_PS at h ⊢
  have c : nv.toNatClampNeg = y.toNatClampNeg + 1 := m_cl1 (by omega) (by omega)
  rw [m_si_ne (by decide)] at hb
  rw [ho, hn, c] at h
  rw [hF, hN, m_si_at, m_cl1 e5 h0, m_si_row (by decide)]
  exact h.close (by have := m_ckI h0; omega) (by rw [hb]; exact hb0) (fun i hi => (e1 i hi).trans (by rw [m_si_ne (by decide)])) (fun i hi => (e3 i hi).trans (by rw [m_si_ne (by decide)])) e2 (by rw [e4, hb]; exact ha)
theorem m_PS.ends {μ μ2 ν : mM} (h : m_PS μ) {ov nv y bv k : Int32} (ho : μ.1 111 8 = ov) (h0 : 0 ≤ ov.toInt) (hn : μ.1 81 53 = nv) (hn1 : 1 ≤ nv.toInt) (e2 : m_si μ 81 53 y = μ2) (hy : y.toInt = nv.toInt - 1) (hb : μ2.1 118 y.toNatClampNeg = bv) (hb0 : bv.toInt < 0) (hk : k.toInt = bv.toInt + 4200) (hb1 : -1000 ≤ bv.toInt) (e3 : m_si μ2 109 k.toNatClampNeg ov = ν) : m_PS ν := by
  subst e2
  subst e3
  unfold m_PS at h ⊢
  have c : nv.toNatClampNeg = y.toNatClampNeg + 1 := m_cl1 (by omega) (by omega)
  have c0 := m_ckI h0
  have ck := m_ckI (x := k) (by omega)
  rw [m_si_ne (by decide)] at hb
  rw [ho, hn, c] at h
  rw [m_si_row (by decide), m_si_row (by decide), m_si_row (k := 109) (P := 118) (by decide), m_si_row (k := 81) (P := 118) (by decide), m_si_ne (k := 111) (by decide), m_si_ne (k := 111) (by decide), m_si_ne (k := 81) (by decide), m_si_at, ho]
  refine h.ends (by rw [hb]; exact hb0) (fun i hi => ?_) (fun i hi => ?_)
  · rw [hb] at hi
    rw [m_si_el (by omega), m_si_ne (by decide)]
  · rw [hb] at hi
    rw [show 3200 + i = k.toNatClampNeg by omega, m_si_at]
    omega
/-- a frame of an if lies deep enough -/
theorem m_PS.top {μ : mM} (h : m_PS μ) {nv y bv : Int32} (hn : μ.1 81 53 = nv) (hn1 : 1 ≤ nv.toInt) (hy : y.toInt = nv.toInt - 1) (hb : μ.1 118 y.toNatClampNeg = bv) (hb0 : bv.toInt < 0) : -1000 ≤ bv.toInt ∧ bv.toInt ≤ -601 := by
  unfold m_PS at h
  have c : nv.toNatClampNeg = y.toNatClampNeg + 1 := m_cl1 (by omega) (by omega)
  rw [hn, c] at h
  obtain ⟨t, b1, b2, b3, b4, b5⟩ := (h.2.2.2 y.toNatClampNeg (by omega)).2 (by rw [hb]; exact hb0)
  rw [hb] at b1
  omega
