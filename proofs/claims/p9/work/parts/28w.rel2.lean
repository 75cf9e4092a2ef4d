def m_RA (μ : mM) : Prop := μ.1 0 9 = μ.1 81 56 ∧ μ.1 0 10 = μ.1 81 57
theorem m_RA.fr {S : Nat → Bool} {μ ν : mM} (h : m_RA μ) (hJ : IY S μ ν) (h1 : S 0 = false) (h2 : S 26 = false) : m_RA ν := by
  unfold m_RA
  rw [show ν.1 0 9 = μ.1 0 9 from hJ.2.1 0 9 h1, show ν.1 0 10 = μ.1 0 10 from hJ.2.1 0 10 h1, show ν.1 81 56 = μ.1 81 56 from hJ.2.1 81 56 h2, show ν.1 81 57 = μ.1 81 57 from hJ.2.1 81 57 h2]
  exact h
theorem t_al {f g : Nat → Int32} {n : Nat} (h : m_al n f g) : t_K f n = t_K g n ∧ t_L f n = t_L g n ∧ t_V f n = t_V g n := by
  refine ⟨funext fun i => m_KK_al h, funext fun i => ?_, funext fun i => ?_⟩
  · unfold t_L
    rw [m_Q_al h]
  · unfold t_V
    rw [m_VV_al h]
theorem m_RA.way {S T : Nat → Bool} {μ μ1 ν : mM} {r1 r2 a1 : Int32} (hT : m_RT μ) (hX : (((0 ≤ a1.toInt ∧ a1.toInt ≤ 7) ∧ ((r1 = 1 ∧ a_all (t_K (μ.1 24) (μ.1 23 1).toNatClampNeg) (t_L (μ.1 24) (μ.1 23 1).toNatClampNeg) (t_V (μ.1 24) (μ.1 23 1).toNatClampNeg) 401 0 [] = none ∧ μ1.1 0 9 = 0 ∧ μ1.1 0 10 = -1) ∨ (r1 = 0 ∧ ∃ e, a_all (t_K (μ.1 24) (μ.1 23 1).toNatClampNeg) (t_L (μ.1 24) (μ.1 23 1).toNatClampNeg) (t_V (μ.1 24) (μ.1 23 1).toNatClampNeg) 401 0 [] = some e ∧ (μ1.1 0 9).toInt = e.1 ∧ (μ1.1 0 10).toInt = e.2))) ∨ (¬ (0 ≤ a1.toInt ∧ a1.toInt ≤ 7) ∧ r1 = 0 ∧ μ1.1 0 9 = 0 ∧ μ1.1 0 10 = -1)) ∧ μ1.1 23 1 = 0) (hM : ((((0 ≤ a1.toInt ∧ a1.toInt ≤ 7) ∧ ((r2 = 1 ∧ a_all (t_K (μ1.1 106) (μ1.1 81 35).toNatClampNeg) (t_L (μ1.1 106) (μ1.1 81 35).toNatClampNeg) (t_V (μ1.1 106) (μ1.1 81 35).toNatClampNeg) 401 0 [] = none ∧ ν.1 81 56 = 0 ∧ ν.1 81 57 = -1) ∨ (r2 = 0 ∧ ∃ e, a_all (t_K (μ1.1 106) (μ1.1 81 35).toNatClampNeg) (t_L (μ1.1 106) (μ1.1 81 35).toNatClampNeg) (t_V (μ1.1 106) (μ1.1 81 35).toNatClampNeg) 401 0 [] = some e ∧ (ν.1 81 56).toInt = e.1 ∧ (ν.1 81 57).toInt = e.2))) ∨ (¬ (0 ≤ a1.toInt ∧ a1.toInt ≤ 7) ∧ r2 = 0 ∧ ν.1 81 56 = 0 ∧ ν.1 81 57 = -1)) ∧ ν.1 81 35 = 0)) (J1 : IY S μ μ1) (s1 : S 23 = false) (J2 : IY T μ1 ν) (s2 : T 3 = false) (s3 : T 0 = false) : m_RT ν ∧ m_RA ν ∧ r1 = r2 := by
  have f1 : μ1.1 81 35 = μ.1 81 35 := J1.2.1 81 35 s1
  have f2 : μ1.1 106 = μ.1 106 := funext fun j => J1.2.1 106 j s1
  have g1 : ν.1 0 9 = μ1.1 0 9 := J2.2.1 0 9 s3
  have g2 : ν.1 0 10 = μ1.1 0 10 := J2.2.1 0 10 s3
  obtain ⟨hX, x0⟩ := hX
  obtain ⟨hM, y0⟩ := hM
  obtain ⟨e1, e2, e3⟩ := t_al hT.2
  rw [f1, f2] at hM
  rw [hT.1, e1, e2, e3] at hX
  refine ⟨m_RT.zero x0 y0 J2 s2, ?_⟩
  unfold m_RA
  rw [g1, g2]
  rcases hX with ⟨x1, hX⟩ | ⟨x1, x2, x3, x4⟩ <;> rcases hM with ⟨y1, hM⟩ | ⟨y1, y2, y3, y4⟩
  · rcases hX with ⟨x2, x3, x4, x5⟩ | ⟨x2, e, x3, x4, x5⟩ <;> rcases hM with ⟨y2, y3, y4, y5⟩ | ⟨y2, e', y3, y4, y5⟩
    · exact ⟨⟨by rw [x4, y4], by rw [x5, y5]⟩, by rw [x2, y2]⟩
    · rw [x3] at y3
      cases y3
    · rw [x3] at y3
      cases y3
    · rw [x3] at y3
      cases y3
      exact ⟨⟨m_eqI (by rw [x4, y4]), m_eqI (by rw [x5, y5])⟩, by rw [x2, y2]⟩
  · exact absurd x1 y1
  · exact absurd y1 x1
  · exact ⟨⟨by rw [x3, y3], by rw [x4, y4]⟩, by rw [x2, y2]⟩
theorem MU0_A : m_RA MU0 := by
  unfold m_RA
  exact ⟨by decide +kernel, by decide +kernel⟩
