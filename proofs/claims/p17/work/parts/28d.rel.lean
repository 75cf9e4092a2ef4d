-- WHAT HOLDS BETWEEN THE TWO SIDES
def m_RT (μ : mM) : Prop := μ.1 23 1 = μ.1 81 35 ∧ m_al (μ.1 81 35).toNatClampNeg (μ.1 24) (μ.1 106)
def m_RP (μ : mM) : Prop := μ.1 25 1 = μ.1 81 73 ∧ m_al (μ.1 81 73).toNatClampNeg (μ.1 26) (μ.1 128)
def m_RK (μ : mM) : Prop := μ.1 71 4 = μ.1 81 62 ∧ m_al (μ.1 81 62).toNatClampNeg (μ.1 72) (μ.1 120) ∧ m_al (μ.1 81 62).toNatClampNeg (μ.1 73) (μ.1 121) ∧ m_al (μ.1 81 62).toNatClampNeg (μ.1 74) (μ.1 122)
def m_ld (n : Int32) (f : Nat → Int32) : Int32 := if n = 0 then 0 else f (n.toNatClampNeg - 1)
def m_RE (μ : mM) : Prop := μ.1 76 4 = μ.1 81 67 ∧ μ.1 76 5 = m_ld (μ.1 81 67) (μ.1 127) ∧ m_al (μ.1 81 67).toNatClampNeg (μ.1 77) (μ.1 124) ∧ m_al (μ.1 81 67).toNatClampNeg (μ.1 78) (μ.1 125) ∧ m_al (μ.1 81 67).toNatClampNeg (μ.1 79) (μ.1 127) ∧ m_al (μ.1 81 67).toNatClampNeg (μ.1 80) (μ.1 126) ∧ ∀ i, i < (μ.1 81 67).toNatClampNeg → 1 ≤ (μ.1 125 i).toInt ∧ (μ.1 125 i).toInt ≤ 9999
theorem m_RT.fr {S : Nat → Bool} {μ ν : mM} (h : m_RT μ) (hJ : IY S μ ν) (h1 : S 3 = false) (h2 : S 23 = false) : m_RT ν := by
  unfold m_RT
  rw [show ν.1 23 1 = μ.1 23 1 from hJ.2.1 23 1 h1, show ν.1 81 35 = μ.1 81 35 from hJ.2.1 81 35 h2, show ν.1 24 = μ.1 24 from funext fun j => hJ.2.1 24 j h1, show ν.1 106 = μ.1 106 from funext fun j => hJ.2.1 106 j h2]
  exact h
theorem m_RP.fr {S : Nat → Bool} {μ ν : mM} (h : m_RP μ) (hJ : IY S μ ν) (h1 : S 4 = false) (h2 : S 30 = false) : m_RP ν := by
  unfold m_RP
  rw [show ν.1 25 1 = μ.1 25 1 from hJ.2.1 25 1 h1, show ν.1 81 73 = μ.1 81 73 from hJ.2.1 81 73 h2, show ν.1 26 = μ.1 26 from funext fun j => hJ.2.1 26 j h1, show ν.1 128 = μ.1 128 from funext fun j => hJ.2.1 128 j h2]
  exact h
theorem m_RK.fr {S : Nat → Bool} {μ ν : mM} (h : m_RK μ) (hJ : IY S μ ν) (h1 : S 9 = false) (h2 : S 28 = false) : m_RK ν := by
  unfold m_RK
  rw [show ν.1 71 4 = μ.1 71 4 from hJ.2.1 71 4 h1, show ν.1 81 62 = μ.1 81 62 from hJ.2.1 81 62 h2, show ν.1 72 = μ.1 72 from funext fun j => hJ.2.1 72 j h1, show ν.1 73 = μ.1 73 from funext fun j => hJ.2.1 73 j h1, show ν.1 74 = μ.1 74 from funext fun j => hJ.2.1 74 j h1, show ν.1 120 = μ.1 120 from funext fun j => hJ.2.1 120 j h2, show ν.1 121 = μ.1 121 from funext fun j => hJ.2.1 121 j h2, show ν.1 122 = μ.1 122 from funext fun j => hJ.2.1 122 j h2]
  exact h
theorem m_RE.fr {S : Nat → Bool} {μ ν : mM} (h : m_RE μ) (hJ : IY S μ ν) (h1 : S 10 = false) (h2 : S 29 = false) : m_RE ν := by
  unfold m_RE
  rw [show ν.1 76 4 = μ.1 76 4 from hJ.2.1 76 4 h1, show ν.1 76 5 = μ.1 76 5 from hJ.2.1 76 5 h1, show ν.1 81 67 = μ.1 81 67 from hJ.2.1 81 67 h2, show ν.1 77 = μ.1 77 from funext fun j => hJ.2.1 77 j h1, show ν.1 78 = μ.1 78 from funext fun j => hJ.2.1 78 j h1, show ν.1 79 = μ.1 79 from funext fun j => hJ.2.1 79 j h1, show ν.1 80 = μ.1 80 from funext fun j => hJ.2.1 80 j h1, show ν.1 124 = μ.1 124 from funext fun j => hJ.2.1 124 j h2, show ν.1 125 = μ.1 125 from funext fun j => hJ.2.1 125 j h2, show ν.1 127 = μ.1 127 from funext fun j => hJ.2.1 127 j h2, show ν.1 126 = μ.1 126 from funext fun j => hJ.2.1 126 j h2]
  exact h
theorem m_cl20 {x y : Int32} {n : Nat} (h : x.toInt = y.toInt + n) (h0 : 0 ≤ y.toInt) : x.toNatClampNeg = y.toNatClampNeg + n := by
  have := m_ckI h0
  have := m_ckI (x := x) (by omega)
  omega
theorem m_RT.feed {S T : Nat → Bool} {μ μ1 ν : mM} {r1 r2 a1 a2 a3 a4 a5 : Int32} (h : m_RT μ) (h0 : 0 ≤ (μ.1 81 35).toInt) (hX : (r1 = -1 ∧ 380 < (μ.1 23 1).toInt ∧ μ1.1 23 1 = (μ.1 23 1) ∧ μ1.1 24 = μ.1 24) ∨ ((μ.1 23 1).toInt ≤ 380 ∧ r1 = μ1.1 23 1 ∧ (μ1.1 23 1).toInt = (μ.1 23 1).toInt + 20 ∧ μ1.1 24 = m_f20 m_ub (μ.1 24) (μ.1 23 1).toNatClampNeg a1 a2 a3 a4 a5)) (hM : (r2 = -1 ∧ 380 < (μ1.1 81 35).toInt ∧ ν.1 81 35 = (μ1.1 81 35) ∧ ν.1 106 = μ1.1 106) ∨ ((μ1.1 81 35).toInt ≤ 380 ∧ r2 = ν.1 81 35 ∧ (ν.1 81 35).toInt = (μ1.1 81 35).toInt + 20 ∧ ν.1 106 = m_f20 m_sb (μ1.1 106) (μ1.1 81 35).toNatClampNeg a1 a2 a3 a4 a5)) (J1 : IY S μ μ1) (s1 : S 23 = false) (J2 : IY T μ1 ν) (s2 : T 3 = false) : m_RT ν ∧ r1 = r2 := by
  have f1 : μ1.1 81 35 = μ.1 81 35 := J1.2.1 81 35 s1
  have f2 : μ1.1 106 = μ.1 106 := funext fun j => J1.2.1 106 j s1
  have f3 : ν.1 23 1 = μ1.1 23 1 := J2.2.1 23 1 s2
  have f4 : ν.1 24 = μ1.1 24 := funext fun j => J2.2.1 24 j s2
  obtain ⟨h1, h2⟩ := h
  rcases hX with ⟨x1, x2, x3, x4⟩ | ⟨x1, x2, x3, x4⟩ <;> rcases hM with ⟨y1, y2, y3, y4⟩ | ⟨y1, y2, y3, y4⟩
  · refine ⟨⟨?_, ?_⟩, x1.trans y1.symm⟩
    · rw [f3, x3, y3, f1]
      exact h1
    · rw [f4, x4, y3, y4, f1, f2]
      exact h2
  · rw [h1] at x2
    rw [f1] at y1
    omega
  · rw [h1] at x1
    rw [f1] at y2
    omega
  · have e : μ1.1 23 1 = ν.1 81 35 := m_eqI (by rw [x3, y3, f1, h1])
    refine ⟨⟨?_, ?_⟩, by rw [x2, y2]; exact e⟩
    · rw [f3]
      exact e
    · rw [f1] at y3
      rw [f4, x4, y4, f1, f2, h1, m_cl20 (n := 20) y3 h0]
      exact h2.f20
theorem m_RT.end_ {S T : Nat → Bool} {μ μ1 ν : mM} {r1 r2 a1 : Int32} (h : m_RT μ) (hX : ((r1 = 1 ∧ (0 ≤ a1.toInt ∧ a1.toInt ≤ (μ.1 23 1).toInt) ∧ μ1.1 23 1 = a1) ∨ (r1 = 0 ∧ ¬ (0 ≤ a1.toInt ∧ a1.toInt ≤ (μ.1 23 1).toInt) ∧ μ1.1 23 1 = (μ.1 23 1))) ∧ μ1.1 24 = μ.1 24) (hM : ((r2 = 1 ∧ (0 ≤ a1.toInt ∧ a1.toInt ≤ (μ1.1 81 35).toInt) ∧ ν.1 81 35 = a1) ∨ (r2 = 0 ∧ ¬ (0 ≤ a1.toInt ∧ a1.toInt ≤ (μ1.1 81 35).toInt) ∧ ν.1 81 35 = (μ1.1 81 35))) ∧ ν.1 106 = μ1.1 106) (J1 : IY S μ μ1) (s1 : S 23 = false) (J2 : IY T μ1 ν) (s2 : T 3 = false) : m_RT ν ∧ r1 = r2 := by
  have f1 : μ1.1 81 35 = μ.1 81 35 := J1.2.1 81 35 s1
  have f2 : μ1.1 106 = μ.1 106 := funext fun j => J1.2.1 106 j s1
  have f3 : ν.1 23 1 = μ1.1 23 1 := J2.2.1 23 1 s2
  have f4 : ν.1 24 = μ1.1 24 := funext fun j => J2.2.1 24 j s2
  obtain ⟨h1, h2⟩ := h
  obtain ⟨hX, x4⟩ := hX
  obtain ⟨hM, y4⟩ := hM
  rcases hX with ⟨x1, x2, x3⟩ | ⟨x1, x2, x3⟩ <;> rcases hM with ⟨y1, y2, y3⟩ | ⟨y1, y2, y3⟩
  · refine ⟨⟨?_, ?_⟩, x1.trans y1.symm⟩
    · rw [f3, x3, y3]
    · rw [f4, x4, y3, y4, f2]
      rw [h1] at x2
      refine h2.le ?_
      have := m_ckI (x := a1) (by omega)
      have := m_ckI (x := μ.1 81 35) (by omega)
      omega
  · rw [h1] at x2
    rw [f1] at y2
    exact absurd x2 y2
  · rw [h1] at x2
    rw [f1] at y2
    exact absurd y2 x2
  · refine ⟨⟨?_, ?_⟩, x1.trans y1.symm⟩
    · rw [f3, x3, y3, f1]
      exact h1
    · rw [f4, x4, y3, y4, f1, f2]
      exact h2
theorem m_RT.zero {T : Nat → Bool} {μ1 ν : mM} (hX : μ1.1 23 1 = 0) (hM : ν.1 81 35 = 0) (J2 : IY T μ1 ν) (s2 : T 3 = false) : m_RT ν := by
  refine ⟨by rw [J2.2.1 23 1 s2, hX, hM], fun i hi => absurd hi ?_⟩
  rw [hM]
  exact Nat.not_lt_zero i
theorem m_RP.spark {S T : Nat → Bool} {μ μ1 ν : mM} {r1 r2 : Int32} (h : m_RT μ) (h0 : 0 ≤ (μ.1 81 35).toInt) (hX : r1 = (μ.1 23 1) ∧ μ1.1 23 1 = 0 ∧ μ1.1 25 1 = (μ.1 23 1) ∧ ∀ i : Nat, (i : Int) < (μ.1 23 1).toInt → μ1.1 26 i = μ.1 24 i) (hM : r2 = (μ1.1 81 35) ∧ ν.1 81 35 = 0 ∧ ν.1 81 73 = (μ1.1 81 35) ∧ ∀ i : Nat, (i : Int) < (μ1.1 81 35).toInt → ν.1 128 i = (μ1.1 106) i) (J1 : IY S μ μ1) (s1 : S 23 = false) (J2 : IY T μ1 ν) (s2 : T 3 = false) (s3 : T 4 = false) : m_RT ν ∧ m_RP ν ∧ r1 = r2 := by
  obtain ⟨x1, x2, x3, x4⟩ := hX
  obtain ⟨y1, y2, y3, y4⟩ := hM
  have f1 : μ1.1 81 35 = μ.1 81 35 := J1.2.1 81 35 s1
  refine ⟨m_RT.zero x2 y2 J2 s2, ⟨?_, fun i hi => ?_⟩, ?_⟩
  · rw [J2.2.1 25 1 s3, x3, y3, f1]
    exact h.1
  · rw [y3, f1] at hi
    have c := m_ckI h0
    rw [J2.2.1 26 i s3, x4 i (by rw [h.1]; omega), y4 i (by rw [f1]; omega), J1.2.1 106 i s1]
    exact h.2 i hi
  · rw [x1, y1, f1]
    exact h.1
theorem m_RK.kind {S T : Nat → Bool} {μ μ1 ν : mM} {r1 r2 a1 a2 a3 : Int32} (h : m_RK μ) (h0 : 0 ≤ (μ.1 81 62).toInt) (hX : ((1 ≤ a1.toInt ∧ a1.toInt ≤ 40 ∧ 1 ≤ a2.toInt ∧ a2.toInt ≤ 40 ∧ 0 ≤ a3.toInt ∧ a3.toInt ≤ 999 ∧ (μ.1 71 4).toInt < 6) ∧ r1 = (μ.1 71 4) ∧ (μ1.1 71 4).toInt = (μ.1 71 4).toInt + 1 ∧ μ1.1 72 = m_up (μ.1 72) (μ.1 71 4).toNatClampNeg a1 ∧ μ1.1 73 = m_up (μ.1 73) (μ.1 71 4).toNatClampNeg a2 ∧ μ1.1 74 = m_up (μ.1 74) (μ.1 71 4).toNatClampNeg a3) ∨ (¬ (1 ≤ a1.toInt ∧ a1.toInt ≤ 40 ∧ 1 ≤ a2.toInt ∧ a2.toInt ≤ 40 ∧ 0 ≤ a3.toInt ∧ a3.toInt ≤ 999 ∧ (μ.1 71 4).toInt < 6) ∧ r1 = -1 ∧ μ1.1 71 4 = (μ.1 71 4) ∧ μ1.1 72 = μ.1 72 ∧ μ1.1 73 = μ.1 73 ∧ μ1.1 74 = μ.1 74)) (hM : ((1 ≤ a1.toInt ∧ a1.toInt ≤ 40 ∧ 1 ≤ a2.toInt ∧ a2.toInt ≤ 40 ∧ 0 ≤ a3.toInt ∧ a3.toInt ≤ 999 ∧ (μ1.1 81 62).toInt < 6) ∧ r2 = (μ1.1 81 62) ∧ (ν.1 81 62).toInt = (μ1.1 81 62).toInt + 1 ∧ ν.1 120 = m_up (μ1.1 120) (μ1.1 81 62).toNatClampNeg a1 ∧ ν.1 121 = m_up (μ1.1 121) (μ1.1 81 62).toNatClampNeg a2 ∧ ν.1 122 = m_up (μ1.1 122) (μ1.1 81 62).toNatClampNeg a3) ∨ (¬ (1 ≤ a1.toInt ∧ a1.toInt ≤ 40 ∧ 1 ≤ a2.toInt ∧ a2.toInt ≤ 40 ∧ 0 ≤ a3.toInt ∧ a3.toInt ≤ 999 ∧ (μ1.1 81 62).toInt < 6) ∧ r2 = -1 ∧ ν.1 81 62 = (μ1.1 81 62) ∧ ν.1 120 = μ1.1 120 ∧ ν.1 121 = μ1.1 121 ∧ ν.1 122 = μ1.1 122)) (J1 : IY S μ μ1) (s1 : S 28 = false) (J2 : IY T μ1 ν) (s2 : T 9 = false) : m_RK ν ∧ r1 = r2 := by
  have f1 : μ1.1 81 62 = μ.1 81 62 := J1.2.1 81 62 s1
  have g1 : μ1.1 120 = μ.1 120 := funext fun j => J1.2.1 120 j s1
  have g2 : μ1.1 121 = μ.1 121 := funext fun j => J1.2.1 121 j s1
  have g3 : μ1.1 122 = μ.1 122 := funext fun j => J1.2.1 122 j s1
  have f3 : ν.1 71 4 = μ1.1 71 4 := J2.2.1 71 4 s2
  have e1 : ν.1 72 = μ1.1 72 := funext fun j => J2.2.1 72 j s2
  have e2 : ν.1 73 = μ1.1 73 := funext fun j => J2.2.1 73 j s2
  have e3 : ν.1 74 = μ1.1 74 := funext fun j => J2.2.1 74 j s2
  obtain ⟨h1, k1, k2, k3⟩ := h
  rcases hX with ⟨x1, x2, x3, x4, x5, x6⟩ | ⟨x1, x2, x3, x4, x5, x6⟩ <;> rcases hM with ⟨y1, y2, y3, y4, y5, y6⟩ | ⟨y1, y2, y3, y4, y5, y6⟩
  · have e : μ1.1 71 4 = ν.1 81 62 := m_eqI (by rw [x3, y3, f1, h1])
    rw [f1] at y3
    refine ⟨⟨by rw [f3]; exact e, ?_, ?_, ?_⟩, by rw [x2, y2, f1, h1]⟩
    · rw [e1, x4, y4, f1, g1, h1, m_cl20 (n := 1) y3 h0]
      exact k1.up rfl
    · rw [e2, x5, y5, f1, g2, h1, m_cl20 (n := 1) y3 h0]
      exact k2.up rfl
    · rw [e3, x6, y6, f1, g3, h1, m_cl20 (n := 1) y3 h0]
      exact k3.up rfl
  · rw [h1] at x1
    rw [f1] at y1
    exact absurd x1 y1
  · rw [h1] at x1
    rw [f1] at y1
    exact absurd y1 x1
  · refine ⟨⟨?_, ?_, ?_, ?_⟩, x2.trans y2.symm⟩
    · rw [f3, x3, y3, f1]
      exact h1
    · rw [e1, x4, y3, y4, f1, g1]
      exact k1
    · rw [e2, x5, y3, y5, f1, g2]
      exact k2
    · rw [e3, x6, y3, y6, f1, g3]
      exact k3
theorem m_RE.test {S T : Nat → Bool} {μ μ1 ν : mM} {r1 r2 a1 a2 a3 a4 : Int32} (h : m_RE μ) (h0 : 0 ≤ (μ.1 81 67).toInt) (hX : (r1 = 1 ∧ (0 ≤ a1.toInt ∧ a1.toInt ≤ 3 ∧ 1 ≤ a2.toInt ∧ a2.toInt ≤ 9999 ∧ (μ.1 76 5).toInt ≤ a4.toInt ∧ a4.toInt ≤ 999 ∧ (μ.1 76 4).toInt < 200) ∧ (μ1.1 76 4).toInt = (μ.1 76 4).toInt + 1 ∧ μ1.1 76 5 = a4 ∧ μ1.1 77 = m_up (μ.1 77) (μ.1 76 4).toNatClampNeg a1 ∧ μ1.1 78 = m_up (μ.1 78) (μ.1 76 4).toNatClampNeg a2 ∧ μ1.1 79 = m_up (μ.1 79) (μ.1 76 4).toNatClampNeg a4 ∧ μ1.1 80 = m_up (μ.1 80) (μ.1 76 4).toNatClampNeg a3) ∨ (r1 = 0 ∧ ¬ (0 ≤ a1.toInt ∧ a1.toInt ≤ 3 ∧ 1 ≤ a2.toInt ∧ a2.toInt ≤ 9999 ∧ (μ.1 76 5).toInt ≤ a4.toInt ∧ a4.toInt ≤ 999 ∧ (μ.1 76 4).toInt < 200) ∧ μ1.1 76 4 = (μ.1 76 4) ∧ μ1.1 76 5 = (μ.1 76 5) ∧ μ1.1 77 = μ.1 77 ∧ μ1.1 78 = μ.1 78 ∧ μ1.1 79 = μ.1 79 ∧ μ1.1 80 = μ.1 80)) (hM : (r2 = 1 ∧ (0 ≤ a1.toInt ∧ a1.toInt ≤ 3 ∧ 1 ≤ a2.toInt ∧ a2.toInt ≤ 9999 ∧ (m_ld (μ1.1 81 67) (μ1.1 127)).toInt ≤ a4.toInt ∧ a4.toInt ≤ 999 ∧ (μ1.1 81 67).toInt < 200) ∧ (ν.1 81 67).toInt = (μ1.1 81 67).toInt + 1 ∧ ν.1 124 = m_up (μ1.1 124) (μ1.1 81 67).toNatClampNeg a1 ∧ ν.1 125 = m_up (μ1.1 125) (μ1.1 81 67).toNatClampNeg a2 ∧ ν.1 127 = m_up (μ1.1 127) (μ1.1 81 67).toNatClampNeg a4 ∧ ν.1 126 = m_up (μ1.1 126) (μ1.1 81 67).toNatClampNeg a3) ∨ (r2 = 0 ∧ ¬ (0 ≤ a1.toInt ∧ a1.toInt ≤ 3 ∧ 1 ≤ a2.toInt ∧ a2.toInt ≤ 9999 ∧ (m_ld (μ1.1 81 67) (μ1.1 127)).toInt ≤ a4.toInt ∧ a4.toInt ≤ 999 ∧ (μ1.1 81 67).toInt < 200) ∧ ν.1 81 67 = (μ1.1 81 67) ∧ ν.1 124 = μ1.1 124 ∧ ν.1 125 = μ1.1 125 ∧ ν.1 127 = μ1.1 127 ∧ ν.1 126 = μ1.1 126)) (J1 : IY S μ μ1) (s1 : S 29 = false) (J2 : IY T μ1 ν) (s2 : T 10 = false) : m_RE ν ∧ r1 = r2 := by
  have f1 : μ1.1 81 67 = μ.1 81 67 := J1.2.1 81 67 s1
  have g1 : μ1.1 124 = μ.1 124 := funext fun j => J1.2.1 124 j s1
  have g2 : μ1.1 125 = μ.1 125 := funext fun j => J1.2.1 125 j s1
  have g3 : μ1.1 127 = μ.1 127 := funext fun j => J1.2.1 127 j s1
  have g4 : μ1.1 126 = μ.1 126 := funext fun j => J1.2.1 126 j s1
  have f3 : ν.1 76 4 = μ1.1 76 4 := J2.2.1 76 4 s2
  have f5 : ν.1 76 5 = μ1.1 76 5 := J2.2.1 76 5 s2
  have e1 : ν.1 77 = μ1.1 77 := funext fun j => J2.2.1 77 j s2
  have e2 : ν.1 78 = μ1.1 78 := funext fun j => J2.2.1 78 j s2
  have e3 : ν.1 79 = μ1.1 79 := funext fun j => J2.2.1 79 j s2
  have e4 : ν.1 80 = μ1.1 80 := funext fun j => J2.2.1 80 j s2
  obtain ⟨h1, h5, k1, k2, k3, k4, k5⟩ := h
  have hl : m_ld (μ1.1 81 67) (μ1.1 127) = μ.1 76 5 := by rw [f1, g3]; exact h5.symm
  rw [hl, f1, ← h1] at hM
  rcases hX with ⟨x1, x2, x3, x4, x5, x6, x7, x8⟩ | ⟨x1, x2, x3, x4, x5, x6, x7, x8⟩ <;> rcases hM with ⟨y1, y2, y3, y5, y6, y7, y8⟩ | ⟨y1, y2, y3, y5, y6, y7, y8⟩
  · have e : μ1.1 76 4 = ν.1 81 67 := m_eqI (by rw [x3, y3])
    rw [h1] at y3 x5 x6 x7 x8 y5 y6 y7 y8
    have c := m_cl20 (n := 1) y3 h0
    refine ⟨⟨by rw [f3]; exact e, ?_, ?_, ?_, ?_, ?_, ?_⟩, x1.trans y1.symm⟩
    · unfold m_ld
      rw [f5, x4, if_neg (m_neI (by show (ν.1 81 67).toInt ≠ 0; omega)), y7, c, Nat.add_sub_cancel, m_up_at]
    · rw [e1, x5, y5, g1, c]
      exact k1.up rfl
    · rw [e2, x6, y6, g2, c]
      exact k2.up rfl
    · rw [e3, x7, y7, g3, c]
      exact k3.up rfl
    · rw [e4, x8, y8, g4, c]
      exact k4.up rfl
    · intro i hi
      rw [c] at hi
      rw [y6, g2]
      by_cases q : i = (μ.1 81 67).toNatClampNeg
      · rw [q, m_up_at]
        exact ⟨y2.2.2.1, y2.2.2.2.1⟩
      · rw [m_up_ne q]
        exact k5 i (by omega)
  · exact absurd x2 y2
  · exact absurd y2 x2
  · rw [h1] at y3
    refine ⟨⟨?_, ?_, ?_, ?_, ?_, ?_, ?_⟩, x1.trans y1.symm⟩
    · rw [f3, x3, y3]
      exact h1
    · rw [f5, x4, y3, y7, g3]
      exact h5
    · rw [e1, x5, y3, y5, g1]
      exact k1
    · rw [e2, x6, y3, y6, g2]
      exact k2
    · rw [e3, x7, y3, y7, g3]
      exact k3
    · rw [e4, x8, y3, y8, g4]
      exact k4
    · rw [y3, y6, g2]
      exact k5
theorem MU0_R : m_RT MU0 ∧ m_RP MU0 ∧ m_RK MU0 ∧ m_RE MU0 := by
  have a1 : MU0.1 81 35 = 0 := by decide +kernel
  have a2 : MU0.1 81 73 = 0 := by decide +kernel
  have a3 : MU0.1 81 62 = 0 := by decide +kernel
  have a4 : MU0.1 81 67 = 0 := by decide +kernel
  have z : ∀ {f g : Nat → Int32}, m_al (0 : Int32).toNatClampNeg f g := fun i hi => absurd hi (Nat.not_lt_zero i)
  unfold m_RT m_RP m_RK m_RE
  rw [a1, a2, a3, a4]
  exact ⟨⟨by decide +kernel, z⟩, ⟨by decide +kernel, z⟩, ⟨by decide +kernel, z, z, z⟩, ⟨by decide +kernel, by decide +kernel, z, z, z, z, fun i hi => absurd hi (Nat.not_lt_zero i)⟩⟩
