def LM : List mL := [.inl (12, [0, 85, 86, 87, 88, 0, 0, 0, 0, 0, 0, 0, 0, 89, 90, 91, 92, 93, 94, 95, 96, 97, 98, 99, 100, 101, 102, 103, 104, 105, 0, 106, 107, 108, 109, 0, 0, 0, 0, 0, 110, 111, 112, 113, 114, 115, 116, 117, 118, 119, 120, 0, 121, 0, 0, 0, 0, 0, 0, 0, 0, 122, 0, 123, 124, 125, 126, 0, 127, 128, 129, 130, 131, 0]), .inr (0, 4, []), .inr (0, 4, []), .inr (0, 4, []), .inr (0, 4, []), .inr (0, 384, []), .inr (0, 192, []), .inr (0, 384, []), .inr (1, 384, []), .inr (1, 384, []), .inr (0, 2, []), .inr (0, 2, []), .inr (1, 2, []), .inr (0, 2, []), .inr (0, 2, []), .inr (0, 2, []), .inr (0, 2, []), .inr (2, 2, []), .inr (2, 2, []), .inr (2, 2, []), .inr (0, 192, []), .inr (0, 192, []), .inr (0, 193, []), .inr (0, 193, []), .inr (1, 193, []), .inr (0, 400, []), .inr (0, 83, []), .inr (0, 3600, []), .inr (0, 3600, []), .inr (0, 3600, []), .inr (0, 9, []), .inr (0, 3600, []), .inr (0, 3600, []), .inr (0, 3600, []), .inr (0, 3600, []), .inr (0, 3600, []), .inr (0, 3600, []), .inr (0, 4, []), .inr (0, 4, []), .inr (0, 6, []), .inr (0, 6, []), .inr (0, 6, []), .inr (0, 1681, []), .inr (0, 200, []), .inr (0, 200, []), .inr (1, 200, []), .inr (0, 200, []), .inr (0, 400, [])]
theorem LAY_eq : LX ++ LM = LAY := rfl
theorem LX_eq : LX = [] ++ S_142 0 := rfl
theorem LAY_eq2 : LAY = LX ++ S_236 81 := rfl
def m_0 : mM := (fun _ _ => 0, fun _ _ => 0)
def MU1 : mM := m_us 0 m_0 U_29
def MU0 : mM := m_us 81 MU1 U_132
theorem m_0z : m_Zr 0 m_0 := fun _ _ => ⟨fun _ => rfl, fun _ => rfl⟩
theorem m_us_lt (P k j : Nat) (hk : k < P) : ∀ (L : List (Nat × Nat × Int32)) (μ : mM), (m_us P μ L).1 k j = μ.1 k j
  | [], _ => rfl
  | u :: L, μ => by
    show (m_us P (m_si μ (P + u.1) u.2.1 u.2.2) L).1 k j = μ.1 k j
    rw [m_us_lt P k j hk L]
    exact if_neg (fun h => by have := h.1; omega)
theorem m_us_all {P i : Nat} {μ : mM} (hμ : m_Zr P μ) (L : List (Nat × Nat × Int32)) (h : L.all (fun u => !(u.1 == i)) = true) (j : Nat) : (m_us P μ L).1 (P + i) j = 0 := by
  refine m_us_0 hμ L i j ?_
  rw [List.all_eq_true] at h ⊢
  intro u hu
  have := h u hu
  simp only [Bool.not_eq_true', beq_eq_false_iff_ne, ne_eq] at this
  simp [this]
theorem m_us_all' {P i k : Nat} {μ : mM} (hμ : m_Zr P μ) (L : List (Nat × Nat × Int32)) (h : L.all (fun u => !(u.1 == i)) = true) (hk : P + i = k) (j : Nat) : (m_us P μ L).1 k j = 0 := by
  subst hk
  exact m_us_all hμ L h j
theorem MU1_z : m_Zr 81 MU1 := m_us_zr m_0z U_29 81 (by decide +kernel)
theorem MU0_x (k j : Nat) (hk : k < 81) : MU0.1 k j = MU1.1 k j := by
  unfold MU0
  exact m_us_lt 81 k j hk _ _
theorem MU0_l (k j : Nat) : MU0.2 k j = 0 := by
  unfold MU0
  rw [m_us_2]
  unfold MU1
  rw [m_us_2]
  rfl
/-- two memories side by side -/
def m_gl (n : Nat) (ν μ : mM) : mM := (fun a j => if a < n then ν.1 a j else μ.1 a j, fun a j => if a < n then ν.2 a j else μ.2 a j)
theorem m_pre {A : Nat → Prop} {D : va_G} {cy : Nat → ClassId} {s : State} {b : Nat} {l1 l2 : List mL} {μ : mM} {H : Heap} {locs : List Loc} (hW : m_WA A D cy s b (l1 ++ l2) μ H locs) : m_WA A D cy s b l1 μ H locs := by
  refine ⟨hW.1, fun k q hq => ?_, hW.2.2.1, fun k hk => hW.2.2.2 k (by rw [List.length_append]; omega)⟩
  obtain ⟨x, h1, rfl⟩ := m_w_get hq
  exact hW.2.1 k _ (m_w_at (by rw [List.getElem?_append_left (List.getElem?_eq_some_iff.mp h1).1]; exact h1))
theorem m_glue {A : Nat → Prop} {D : va_G} {cy : Nat → ClassId} {s : State} {b : Nat} {l1 l2 : List mL} {μ ν : mM} {H H1 : Heap} {locs locs1 : List Loc} (hW : m_WA A D cy s b (l1 ++ l2) μ H locs) (hP1 : va_P D vwCl (m_w cy b l1 ν) H1) (hk : ∀ q, q < H.size → ¬ m_A b l1 q → H1[q]? = H[q]?) (hS : va_S A s.heap H1 locs1) : m_WA A D cy s b (l1 ++ l2) (m_gl l1.length ν μ) H1 locs1 := by
  refine ⟨hW.1, fun k q hq => ?_, hS, hW.2.2.2⟩
  obtain ⟨x, h1, rfl⟩ := m_w_get hq
  by_cases hl : k < l1.length
  · rw [List.getElem?_append_left hl] at h1
    have := hP1 k _ (m_w_at h1)
    rw [m_e_cong (μ := ν) (ν := m_gl l1.length ν μ) (fun j => if_pos hl) (fun j => if_pos hl) x]
    exact this
  · have h2 := hW.2.1 k _ (m_w_at h1)
    rw [m_e_cong (μ := μ) (ν := m_gl l1.length ν μ) (fun j => if_neg hl) (fun j => if_neg hl) x]
    exact h2.kept (hk (b + k) h2.lt (fun h => hl (by have := h.2; omega)))
section LWX
variable {p : Program} {l : Launch} {e : Env} {R : Room} {s : State} {m : MethodId} {args : Array Value} {below : List Frame} {meth : Method} {c : Code} {H : Heap} {locs : List Loc} {cells slots : Nat} {Q : State → Prop} {pc : Nat} {ls : Array Slot} {st rest : List Value} {D : va_G} {cy : Nat → ClassId} {b : Nat} {μ : mM} {A : Nat → Prop}
theorem m_aIx {post : Int32 → mM → Prop} {a : Array Value} (hW : m_WA A D cy s b LAY μ H locs) (hr : va_Run p l e R s m args below meth c H locs cells slots 0 0 (F0 m pc ls st) rest (m_Qi D cy b LX post a) (m_A b LX)) (kk : ∀ (r : Int32) (ν : mM) (H1 : Heap) (locs1 : List Loc), post r ν → m_WA A D cy s b LAY (m_gl LX.length ν μ) H1 locs1 → W p l e R s m args below meth c H1 locs1 cells slots Q (F0 m (pc + 3) ls (.int r :: rest))) : W p l e R s m args below meth c H locs cells slots Q (F0 m pc ls st) := by
  have hW0 : m_WA A D cy s b (LX ++ LM) μ H locs := hW
  have hX := m_pre hW0
  exact va_calli hr hX.2.2.1 (fun q _ h => m_A_in hX.2.2.2 h) (fun q h => m_A_in hX.2.2.2 h) (fun r ν t H1 locs1 ht _ hp hB _ hk hS => kk r ν H1 locs1 hp (m_glue hW0 (by rw [← ht]; exact hB) hk hS))
theorem m_aLx {post : Int64 → mM → Prop} {a : Array Value} (hW : m_WA A D cy s b LAY μ H locs) (hr : va_Run p l e R s m args below meth c H locs cells slots 0 0 (F0 m pc ls st) rest (m_Ql D cy b LX post a) (m_A b LX)) (kk : ∀ (r : Int64) (ν : mM) (H1 : Heap) (locs1 : List Loc), post r ν → m_WA A D cy s b LAY (m_gl LX.length ν μ) H1 locs1 → W p l e R s m args below meth c H1 locs1 cells slots Q (F0 m (pc + 3) ls (.long r :: rest))) : W p l e R s m args below meth c H locs cells slots Q (F0 m pc ls st) := by
  have hW0 : m_WA A D cy s b (LX ++ LM) μ H locs := hW
  have hX := m_pre hW0
  exact va_calll hr hX.2.2.1 (fun q _ h => m_A_in hX.2.2.2 h) (fun q h => m_A_in hX.2.2.2 h) (fun r ν t H1 locs1 ht _ hp hB _ hk hS => kk r ν H1 locs1 hp (m_glue hW0 (by rw [← ht]; exact hB) hk hS))
end LWX
theorem m_cmp (x : Int64) : lg_cmp x x = 0 := by simp [lg_cmp]
theorem m_L6 {L : Nat} {x : Int32} (hL : L ≤ 6) (e : x = Int32.ofNat L - 6) (h : ¬ x < 0) : L = 6 := by
  subst e
  rcases (show L = 0 ∨ L = 1 ∨ L = 2 ∨ L = 3 ∨ L = 4 ∨ L = 5 ∨ L = 6 by omega) with rfl | rfl | rfl | rfl | rfl | rfl | rfl
  · exact absurd (by decide) h
  · exact absurd (by decide) h
  · exact absurd (by decide) h
  · exact absurd (by decide) h
  · exact absurd (by decide) h
  · exact absurd (by decide) h
  · rfl
theorem m_nestOf {A : Array Value} {U : State} {w : Cond} (hn : m_isN w = true) (h : w.before A U = true) : va_Nw w U := by
  cases w <;> first | exact va_Nw.of rfl h | (simp [m_isN] at hn)
theorem z_23_1 : MU0.1 23 1 = 0 := by decide +kernel
theorem z_0_9 : MU0.1 0 9 = 0 := by decide +kernel
theorem z_0_10 : MU0.1 0 10 = -1 := by decide +kernel
theorem z_41_2 : MU0.1 41 2 = 0 := by decide +kernel
theorem z_41_0 : MU0.1 41 0 = 0 := by decide +kernel
theorem z_71_4 : MU0.1 71 4 = 0 := by decide +kernel
theorem z_76_4 : MU0.1 76 4 = 0 := by decide +kernel
theorem z_76_5 : MU0.1 76 5 = 0 := by decide +kernel
theorem z_25_1 : MU0.1 25 1 = 0 := by decide +kernel
theorem z_81_35 : MU0.1 81 35 = 0 := by decide +kernel
theorem z_81_56 : MU0.1 81 56 = 0 := by decide +kernel
theorem z_81_57 : MU0.1 81 57 = -1 := by decide +kernel
theorem z_81_5 : MU0.1 81 5 = 0 := by decide +kernel
theorem z_81_62 : MU0.1 81 62 = 0 := by decide +kernel
theorem z_81_67 : MU0.1 81 67 = 0 := by decide +kernel
theorem z_81_73 : MU0.1 81 73 = 0 := by decide +kernel
theorem z_75 (j : Nat) : MU0.1 75 j = 0 := by
  rw [MU0_x 75 j (by decide)]
  unfold MU1
  have h := m_us_all (P := 0) (i := 75) m_0z U_29 (by decide +kernel) j
  rw [Nat.zero_add] at h
  exact h
theorem z_86 (j : Nat) : MU0.1 86 j = 0 := by
  unfold MU0
  exact m_us_all' (i := 5) MU1_z U_132 (by decide +kernel) (by decide) j
theorem z_123 (j : Nat) : MU0.1 123 j = 0 := by
  unfold MU0
  exact m_us_all' (i := 42) MU1_z U_132 (by decide +kernel) (by decide) j
set_option maxHeartbeats 4000000 in
theorem m_start {s : State} {args : Array Value} (hts : ∀ w ∈ lw_tbl, w.before args s = true) : ∃ (D : va_G) (cy : Nat → ClassId), m_K D cy s := by
  have hT : ∀ w ∈ TB, w.before args s = true := fun w h => hts w (tb_tbl h)
  obtain ⟨d0, i0, h0⟩ := u_known (C := RX0) (T := TX0) (N := 5) (n := 5) hT cw_0 (hT _ ki_X0)
  obtain ⟨d1, i1, h1⟩ := u_known (C := RX1) (T := TX1) (N := 5) (n := 5) hT cw_1 (hT _ ki_X1)
  obtain ⟨d2, i2, h2⟩ := u_known (C := RX2) (T := TX2) (N := 5) (n := 5) hT cw_2 (hT _ ki_X2)
  obtain ⟨d3, i3, h3⟩ := u_known (C := RX3) (T := TX3) (N := 18) (n := 18) hT cw_3 (hT _ ki_X3)
  obtain ⟨d4, i4, h4⟩ := u_known (C := RX4) (T := TX4) (N := 8) (n := 8) hT cw_4 (hT _ ki_X4)
  obtain ⟨d5, i5, h5⟩ := u_known (C := RX5) (T := TX5) (N := 2) (n := 2) hT cw_5 (hT _ ki_X5)
  obtain ⟨d6, i6, h6⟩ := u_known (C := RX6) (T := TX6) (N := 3) (n := 3) hT cw_6 (hT _ ki_X6)
  obtain ⟨d7, i7, h7⟩ := u_known (C := RX7) (T := TX7) (N := 6) (n := 6) hT cw_7 (hT _ ki_X7)
  obtain ⟨d8, i8, h8⟩ := u_known (C := RX8) (T := TX8) (N := 3) (n := 3) hT cw_8 (hT _ ki_X8)
  obtain ⟨d9, i9, h9⟩ := u_known (C := RX9) (T := TX9) (N := 7) (n := 7) hT cw_9 (hT _ ki_X9)
  obtain ⟨d10, i10, h10⟩ := u_known (C := RX10) (T := TX10) (N := 8) (n := 8) hT cw_10 (hT _ ki_X10)
  obtain ⟨d11, i11, h11⟩ := u_known (C := RX11) (T := TX11) (N := 11) (n := 11) hT cw_11 (hT _ ki_X11)
  obtain ⟨d12, i12, h12⟩ := u_known (C := RX12) (T := TX12) (N := 74) (n := 74) hT cw_12 (hT _ ki_X12)
  obtain ⟨a0, k0, p0, f0, g0, e0⟩ := Cond.arrayClass_spec (hT _ ka_int)
  obtain ⟨a1, k1, p1, f1, g1, e1⟩ := Cond.arrayClass_spec (hT _ ka_boolean)
  obtain ⟨a2, k2, p2, f2, g2, e2⟩ := Cond.arrayClass_spec (hT _ ka_long)
  have hAO : va_AO "BeamPlate$Row" s := va_AO.of (hts (.arrayOver (.object "BeamPlate$Row")) (List.mem_append_right _ (List.mem_append_left _ (List.mem_of_getElem? (i := 37) rfl))))
  obtain ⟨p3, a3, k3, c3, x3, g3, e3, f3⟩ := Cond.arrayOver_spec hAO
  refine ⟨(fun k => match k with | 0 => d0 | 1 => d1 | 2 => d2 | 3 => d3 | 4 => d4 | 5 => d5 | 6 => d6 | 7 => d7 | 8 => d8 | 9 => d9 | 10 => d10 | 11 => d11 | _ => d12, fun k => match k with | 0 => i0 | 1 => i1 | 2 => i2 | 3 => i3 | 4 => i4 | 5 => i5 | 6 => i6 | 7 => i7 | 8 => i8 | 9 => i9 | 10 => i10 | 11 => i11 | _ => i12), fun k => match k with | 0 => a0 | 1 => a1 | 2 => a2 | _ => a3, ⟨?_, ?_⟩, fun w hw hn => m_nestOf hn (hts w hw), hAO⟩
  · intro k q hq
    match k, hq with
    | 0, hq => cases hq; exact h0
    | 1, hq => cases hq; exact h1
    | 2, hq => cases hq; exact h2
    | 3, hq => cases hq; exact h3
    | 4, hq => cases hq; exact h4
    | 5, hq => cases hq; exact h5
    | 6, hq => cases hq; exact h6
    | 7, hq => cases hq; exact h7
    | 8, hq => cases hq; exact h8
    | 9, hq => cases hq; exact h9
    | 10, hq => cases hq; exact h10
    | 11, hq => cases hq; exact h11
    | 12, hq => cases hq; exact h12
    | k + 13, hq => simp [vwCl] at hq
  · intro k q hq
    match k, hq with
    | 0, hq => cases hq; exact ⟨fun N z => ⟨fun k h => (by cases h), k0, g0, p0, e0⟩, f0⟩
    | 1, hq => cases hq; exact ⟨fun N z => ⟨fun k h => (by cases h), k1, g1, p1, e1⟩, f1⟩
    | 2, hq => cases hq; exact ⟨fun N z => ⟨fun k h => (by cases h), k2, g2, p2, e2⟩, f2⟩
    | 3, hq => cases hq; exact ⟨fun N z => ⟨fun k h => (by cases h), k3, g3, p3, e3⟩, k3, p3, g3, e3, c3, f3⟩
    | k + 4, hq => simp at hq
