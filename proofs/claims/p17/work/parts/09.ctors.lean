theorem m_max0 {a : Int32} (h : ¬ a < 0) : ¬ (if (0 : Int32) < a then a else 0) < 0 := by
  by_cases q : (0 : Int32) < a
  · rw [if_pos q]; exact h
  · rw [if_neg q]; decide
theorem m_max1 {a : Int32} {n : Nat} (h : ¬ a < 0) (ha : a.toNatClampNeg = n) : (if (0 : Int32) < a then a else 0).toNatClampNeg = n := by
  by_cases q : (0 : Int32) < a
  · rw [if_pos q]; exact ha
  · rw [if_neg q]
    have e : a = 0 := by
      have h1 := Int32.not_lt.mp h
      have h2 := Int32.not_lt.mp q
      exact Int32.le_antisymm h2 h1
    rw [e] at ha
    exact ha
set_option maxHeartbeats 4000000 in
set_option maxRecDepth 100000 in
theorem c_X5_init (l : Launch) (D : va_G) (cy : Nat → ClassId) (b : Nat) (pre : List mL) (P : Nat) (hP : pre.length = P) (lay0 lay1 : List mL) (h0 : lay0 = pre ++ [.inl (5, f0_5)]) (μ : mM) (hμ : m_Zr P μ) (a : Int32) (n : Nat) (ha : a.toNatClampNeg = n) (ha2 : ¬ a < 0 ∧ n ≤ 3600) (h1 : lay1 = pre ++ [.inl (5, [P + 1 + 3, 0]), .inr (0, n, [])]) : m_Cz l yX5_init cX5_init 2 1 1 n D cy b lay0 lay1 μ [.ref (b + P), .int a] (fun ν => ν = m_us P μ []) := by
  subst h0
  refine m_ofz (cc := cX5_init) (n := 2) (d := 1) (by decide) (Nat.le_of_ble_eq_true rfl) ?_
  intro p e s m below meth c hx hb hr hml hown hts hlocks hnm hW hz ls hl
  have hown : s.vm.findClass RX5 = some m.cls := hown
  have hl : lv_has ls 2 [(0, .ref (b + (P + 0))), (1, .int a)] := hl
  have hW : m_W D cy s b (pre ++ [.inl (5, [2, 0])]) (m_us P μ []) s.heap [] := hW
  have hz : s.heap.size = b + (P + 1) := hz.trans (congrArg (fun z => b + z) (m_suflen (n := 1) hP rfl))
  refine lv_aload_n hx hb dX5_init_0 rfl (lv_at hl 0 rfl) ?_
  refine W.objInit hx hb hown (hts _ k_X5_3) (hts _ ko_i) (hts _ ko_c) rfl (by rw [hml]; exact hl.1) rfl dX5_init_1 (Nat.le_of_ble_eq_true rfl) (Nat.le_of_ble_eq_true rfl) ?_
  refine W.eq (g2 := F0 m 4 ls []) rfl ?_
  refine lv_aload_n hx hb dX5_init_4 rfl (lv_at hl 0 rfl) ?_
  refine lv_iconst (v := 0) hx hb dX5_init_5 (by decide) ?_
  refine m_puti hx hb hts hown hW (P + 0) 1 (m_suf hP rfl) rfl cw_5 tyX5_ok nmX5 rfl (by decide) k_X5_9 rfl rfl rfl dX5_init_6 (fun H locs hW hz1 => ?_)
  have hz := hz1.trans hz
  rw [m_si_same (m_us_0 hμ [] 0 1 rfl)] at hW
  refine lv_aload_n hx hb dX5_init_9 rfl (lv_at hl 0 rfl) ?_
  refine lv_iconst (v := 0) hx hb dX5_init_10 (by decide) ?_
  refine lv_iload_n hx hb dX5_init_11 rfl (lv_at hl 1 rfl) ?_
  refine va_mmax hx hb (hml.trans hl.1.symm) hown (hts _ k_X5_15) (hts _ kM_max_s) (hts _ kM_n) (hts _ kM_max_c) (Nat.le_of_ble_eq_true rfl) (Nat.le_of_ble_eq_true rfl) (Nat.le_of_ble_eq_true rfl) (Nat.le_of_ble_eq_true rfl) dX5_init_12 ?_
  refine lv_topi (fun x1 ex1 => ?_)
  refine m_newa' (N0 := P + 1) (atype := .int) hx hb hts hW (m_suflen (n := 1) hP rfl) hz 0 ka_int (Or.inl ⟨rfl, rfl⟩) (N := n) (lay' := pre ++ [.inl (5, [2, 0]), .inr (0, n, [])]) (List.append_assoc _ _ _) (by rw [ex1]; exact m_max0 ha2.1) (by rw [ex1]; exact m_max1 ha2.1 ha) (by omega) (Nat.le_of_ble_eq_true rfl) (by show 0 + n ≤ n; omega) dX5_init_15 (fun H hW hz => ?_)
  rw [m_us_z hμ [] 1 rfl] at hW
  have hW : m_W D cy s b (pre ++ [.inl (5, [2, 0]), .inr (0, n, [])]) (m_us P μ []) H _ := hW
  have hz : H.size = b + (P + 2) := hz
  refine m_putr hx hb hts hown hW (P + 0) 0 (P + 1) (m_suf hP rfl) rfl cw_5 tyX5_ok nmX5 rfl (by decide) k_X5_21 ⟨rfl, hnm, rfl⟩ rfl rfl (lay' := pre ++ [.inl (5, [P + 1 + 3, 0]), .inr (0, n, [])]) (m_sufset hP rfl) dX5_init_17 (fun H locs hW hz1 => ?_)
  have hz := hz1.trans hz
  have hW : m_W D cy s b (pre ++ [.inl (5, [P + 1 + 3, 0]), .inr (0, n, [])]) (m_us P μ []) H _ := hW
  refine W.widen (k := 1) (n := n) (Nat.le_of_ble_eq_true rfl) (by show 0 + n ≤ n; omega) ?_
  subst h1
  exact m_zret hx hb hr hlocks hW (hz.trans (congrArg (fun z => b + z) (m_suflen (n := 2) hP rfl).symm)) rfl dX5_init_20
def U_0 : List (Nat × Nat × Int32) := [] ++ [(0, 3, 5)]
def S_0 (P : Nat) : List mL := [.inl (1, [0, 0, 0, 0, 0])]
set_option maxHeartbeats 4000000 in
set_option maxRecDepth 100000 in
theorem c_X1_init (l : Launch) (D : va_G) (cy : Nat → ClassId) (b : Nat) (pre : List mL) (P : Nat) (hP : pre.length = P) (lay0 lay1 : List mL) (h0 : lay0 = pre ++ [.inl (1, f0_1)]) (μ : mM) (hμ : m_Zr P μ) (h1 : lay1 = pre ++ (S_0 P)) : m_Cz l yX1_init cX1_init 1 1 0 0 D cy b lay0 lay1 μ [.ref (b + P)] (fun ν => ν = m_us P μ U_0) := by
  subst h0
  refine m_ofz (cc := cX1_init) (n := 1) (d := 1) (by decide) (Nat.le_of_ble_eq_true rfl) ?_
  intro p e s m below meth c hx hb hr hml hown hts hlocks hnm hW hz ls hl
  have hown : s.vm.findClass RX1 = some m.cls := hown
  have hl : lv_has ls 1 [(0, .ref (b + (P + 0)))] := hl
  have hW : m_W D cy s b (pre ++ (S_0 P)) (m_us P μ []) s.heap [] := hW
  have hz : s.heap.size = b + (P + 1) := hz.trans (congrArg (fun z => b + z) (m_suflen (n := 1) hP rfl))
  refine lv_aload_n hx hb dX1_init_0 rfl (lv_at hl 0 rfl) ?_
  refine W.objInit hx hb hown (hts _ k_X1_1) (hts _ ko_i) (hts _ ko_c) rfl (by rw [hml]; exact hl.1) rfl dX1_init_1 (Nat.le_of_ble_eq_true rfl) (Nat.le_of_ble_eq_true rfl) ?_
  refine W.eq (g2 := F0 m 4 ls []) rfl ?_
  refine lv_aload_n hx hb dX1_init_4 rfl (lv_at hl 0 rfl) ?_
  refine lv_iconst (v := 0) hx hb dX1_init_5 (by decide) ?_
  refine m_puti hx hb hts hown hW (P + 0) 0 (m_suf hP rfl) rfl cw_1 tyX1_ok nmX1 rfl (by decide) k_X1_7 rfl rfl rfl dX1_init_6 (fun H locs hW hz1 => ?_)
  have hz := hz1.trans hz
  rw [m_si_same (m_us_0 hμ [] 0 0 rfl)] at hW
  refine lv_aload_n hx hb dX1_init_9 rfl (lv_at hl 0 rfl) ?_
  refine lv_iconst (v := 0) hx hb dX1_init_10 (by decide) ?_
  refine m_puti hx hb hts hown hW (P + 0) 1 (m_suf hP rfl) rfl cw_1 tyX1_ok nmX1 rfl (by decide) k_X1_13 rfl rfl rfl dX1_init_11 (fun H locs hW hz1 => ?_)
  have hz := hz1.trans hz
  rw [m_si_same (m_us_0 hμ [] 0 1 rfl)] at hW
  refine lv_aload_n hx hb dX1_init_14 rfl (lv_at hl 0 rfl) ?_
  refine lv_iconst (v := 0) hx hb dX1_init_15 (by decide) ?_
  refine m_puti hx hb hts hown hW (P + 0) 2 (m_suf hP rfl) rfl cw_1 tyX1_ok nmX1 rfl (by decide) k_X1_16 rfl (by decide) rfl dX1_init_16 (fun H locs hW hz1 => ?_)
  have hz := hz1.trans hz
  rw [m_si_same (m_us_0 hμ [] 0 2 rfl)] at hW
  refine lv_aload_n hx hb dX1_init_19 rfl (lv_at hl 0 rfl) ?_
  refine lv_iconst (v := 5) hx hb dX1_init_20 (by decide) ?_
  refine m_puti hx hb hts hown hW (P + 0) 3 (m_suf hP rfl) rfl cw_1 tyX1_ok nmX1 rfl (by decide) k_X1_20 rfl rfl rfl dX1_init_21 (fun H locs hW hz1 => ?_)
  have hz := hz1.trans hz
  rw [m_us_snoc] at hW
  have hW : m_W D cy s b (pre ++ (S_0 P)) (m_us P μ U_0) H _ := hW
  refine lv_aload_n hx hb dX1_init_24 rfl (lv_at hl 0 rfl) ?_
  refine lv_iconst (v := 0) hx hb dX1_init_25 (by decide) ?_
  refine m_puti hx hb hts hown hW (P + 0) 4 (m_suf hP rfl) rfl cw_1 tyX1_ok nmX1 rfl (by decide) k_X1_23 rfl rfl rfl dX1_init_26 (fun H locs hW hz1 => ?_)
  have hz := hz1.trans hz
  rw [m_si_same (m_us_0 hμ U_0 0 4 rfl)] at hW
  refine W.widen (k := 0) (n := 0) (Nat.le_of_ble_eq_true rfl) (Nat.le_of_ble_eq_true rfl) ?_
  subst h1
  exact m_zret hx hb hr hlocks hW (hz.trans (congrArg (fun z => b + z) (m_suflen (n := 1) hP rfl).symm)) rfl dX1_init_29
def S_1 (P : Nat) : List mL := [.inl (2, [2, 2, 0, 0, 0]), .inr (0, 192, [])]
def S_2 (P : Nat) : List mL := [.inl (2, [P + 1 + 3, 2, 0, 0, 0]), .inr (0, 192, [])]
def S_3 (P : Nat) : List mL := [.inl (2, [P + 1 + 3, 2, 0, 0, 0]), .inr (0, 192, []), .inr (0, 192, [])]
def S_4 (P : Nat) : List mL := [.inl (2, [P + 1 + 3, P + 2 + 3, 0, 0, 0]), .inr (0, 192, []), .inr (0, 192, [])]
def S_5 (P : Nat) : List mL := [.inl (2, [2, 2, 0, 0, 0])]
set_option maxHeartbeats 4000000 in
set_option maxRecDepth 100000 in
theorem c_X2_init (l : Launch) (D : va_G) (cy : Nat → ClassId) (b : Nat) (pre : List mL) (P : Nat) (hP : pre.length = P) (lay0 lay1 : List mL) (h0 : lay0 = pre ++ [.inl (2, f0_2)]) (μ : mM) (hμ : m_Zr P μ) (h1 : lay1 = pre ++ (S_4 P)) : m_Cz l yX2_init cX2_init 1 1 2 384 D cy b lay0 lay1 μ [.ref (b + P)] (fun ν => ν = m_us P μ []) := by
  subst h0
  refine m_ofz (cc := cX2_init) (n := 1) (d := 1) (by decide) (Nat.le_of_ble_eq_true rfl) ?_
  intro p e s m below meth c hx hb hr hml hown hts hlocks hnm hW hz ls hl
  have hown : s.vm.findClass RX2 = some m.cls := hown
  have hl : lv_has ls 1 [(0, .ref (b + (P + 0)))] := hl
  have hW : m_W D cy s b (pre ++ (S_5 P)) (m_us P μ []) s.heap [] := hW
  have hz : s.heap.size = b + (P + 1) := hz.trans (congrArg (fun z => b + z) (m_suflen (n := 1) hP rfl))
  refine lv_aload_n hx hb dX2_init_0 rfl (lv_at hl 0 rfl) ?_
  refine W.objInit hx hb hown (hts _ k_X2_1) (hts _ ko_i) (hts _ ko_c) rfl (by rw [hml]; exact hl.1) rfl dX2_init_1 (Nat.le_of_ble_eq_true rfl) (Nat.le_of_ble_eq_true rfl) ?_
  refine W.eq (g2 := F0 m 4 ls []) rfl ?_
  refine lv_aload_n hx hb dX2_init_4 rfl (lv_at hl 0 rfl) ?_
  refine lv_sipush (v := 192) hx hb dX2_init_5 (by decide) ?_
  refine m_newa' (N0 := P + 1) (atype := .int) hx hb hts hW (m_suflen (n := 1) hP rfl) hz 0 ka_int (Or.inl ⟨rfl, rfl⟩) (N := 192) (lay' := pre ++ (S_1 P)) (List.append_assoc _ _ _) (by decide) (by decide) (by decide) (Nat.le_of_ble_eq_true rfl) (Nat.le_of_ble_eq_true rfl) dX2_init_8 (fun H hW hz => ?_)
  rw [m_us_z hμ [] 1 rfl] at hW
  have hW : m_W D cy s b (pre ++ (S_1 P)) (m_us P μ []) H _ := hW
  have hz : H.size = b + (P + 2) := hz
  refine m_putr hx hb hts hown hW (P + 0) 0 (P + 1) (m_suf hP rfl) rfl cw_2 tyX2_ok nmX2 rfl (by decide) k_X2_9 ⟨rfl, hnm, rfl⟩ rfl rfl (lay' := pre ++ (S_2 P)) (m_sufset hP rfl) dX2_init_10 (fun H locs hW hz1 => ?_)
  have hz := hz1.trans hz
  have hW : m_W D cy s b (pre ++ (S_2 P)) (m_us P μ []) H _ := hW
  refine lv_aload_n hx hb dX2_init_13 rfl (lv_at hl 0 rfl) ?_
  refine lv_sipush (v := 192) hx hb dX2_init_14 (by decide) ?_
  refine m_newa' (N0 := P + 2) (atype := .int) hx hb hts hW (m_suflen (n := 2) hP rfl) hz 0 ka_int (Or.inl ⟨rfl, rfl⟩) (N := 192) (lay' := pre ++ (S_3 P)) (List.append_assoc _ _ _) (by decide) (by decide) (by decide) (Nat.le_of_ble_eq_true rfl) (Nat.le_of_ble_eq_true rfl) dX2_init_17 (fun H hW hz => ?_)
  rw [m_us_z hμ [] 2 rfl] at hW
  have hW : m_W D cy s b (pre ++ (S_3 P)) (m_us P μ []) H _ := hW
  have hz : H.size = b + (P + 3) := hz
  refine m_putr hx hb hts hown hW (P + 0) 1 (P + 2) (m_suf hP rfl) rfl cw_2 tyX2_ok nmX2 rfl (by decide) k_X2_15 ⟨rfl, hnm, rfl⟩ rfl rfl (lay' := pre ++ (S_4 P)) (m_sufset hP rfl) dX2_init_19 (fun H locs hW hz1 => ?_)
  have hz := hz1.trans hz
  have hW : m_W D cy s b (pre ++ (S_4 P)) (m_us P μ []) H _ := hW
  refine lv_aload_n hx hb dX2_init_22 rfl (lv_at hl 0 rfl) ?_
  refine lv_iconst (v := 0) hx hb dX2_init_23 (by decide) ?_
  refine m_puti hx hb hts hown hW (P + 0) 2 (m_suf hP rfl) rfl cw_2 tyX2_ok nmX2 rfl (by decide) k_X2_18 rfl rfl rfl dX2_init_24 (fun H locs hW hz1 => ?_)
  have hz := hz1.trans hz
  rw [m_si_same (m_us_0 hμ [] 0 2 rfl)] at hW
  refine lv_aload_n hx hb dX2_init_27 rfl (lv_at hl 0 rfl) ?_
  refine lv_iconst (v := 0) hx hb dX2_init_28 (by decide) ?_
  refine m_puti hx hb hts hown hW (P + 0) 3 (m_suf hP rfl) rfl cw_2 tyX2_ok nmX2 rfl (by decide) k_X2_22 rfl rfl rfl dX2_init_29 (fun H locs hW hz1 => ?_)
  have hz := hz1.trans hz
  rw [m_si_same (m_us_0 hμ [] 0 3 rfl)] at hW
  refine lv_aload_n hx hb dX2_init_32 rfl (lv_at hl 0 rfl) ?_
  refine lv_iconst (v := 0) hx hb dX2_init_33 (by decide) ?_
  refine m_puti hx hb hts hown hW (P + 0) 4 (m_suf hP rfl) rfl cw_2 tyX2_ok nmX2 rfl (by decide) k_X2_25 rfl (by decide) rfl dX2_init_34 (fun H locs hW hz1 => ?_)
  have hz := hz1.trans hz
  rw [m_si_same (m_us_0 hμ [] 0 4 rfl)] at hW
  refine W.widen (k := 2) (n := 384) (Nat.le_of_ble_eq_true rfl) (Nat.le_of_ble_eq_true rfl) ?_
  subst h1
  exact m_zret hx hb hr hlocks hW (hz.trans (congrArg (fun z => b + z) (m_suflen (n := 3) hP rfl).symm)) rfl dX2_init_37
def S_6 (P : Nat) : List mL := [.inl (6, [2, 0, 0]), .inr (0, 5, [])]
def S_7 (P : Nat) : List mL := [.inl (6, [P + 1 + 3, 0, 0]), .inr (0, 5, [])]
def S_8 (P : Nat) : List mL := [.inl (6, [2, 0, 0])]
set_option maxHeartbeats 4000000 in
set_option maxRecDepth 100000 in
theorem c_X6_init (l : Launch) (D : va_G) (cy : Nat → ClassId) (b : Nat) (pre : List mL) (P : Nat) (hP : pre.length = P) (lay0 lay1 : List mL) (h0 : lay0 = pre ++ [.inl (6, f0_6)]) (μ : mM) (hμ : m_Zr P μ) (h1 : lay1 = pre ++ (S_7 P)) : m_Cz l yX6_init cX6_init 1 1 1 5 D cy b lay0 lay1 μ [.ref (b + P)] (fun ν => ν = m_us P μ []) := by
  subst h0
  refine m_ofz (cc := cX6_init) (n := 1) (d := 1) (by decide) (Nat.le_of_ble_eq_true rfl) ?_
  intro p e s m below meth c hx hb hr hml hown hts hlocks hnm hW hz ls hl
  have hown : s.vm.findClass RX6 = some m.cls := hown
  have hl : lv_has ls 1 [(0, .ref (b + (P + 0)))] := hl
  have hW : m_W D cy s b (pre ++ (S_8 P)) (m_us P μ []) s.heap [] := hW
  have hz : s.heap.size = b + (P + 1) := hz.trans (congrArg (fun z => b + z) (m_suflen (n := 1) hP rfl))
  refine lv_aload_n hx hb dX6_init_0 rfl (lv_at hl 0 rfl) ?_
  refine W.objInit hx hb hown (hts _ k_X6_3) (hts _ ko_i) (hts _ ko_c) rfl (by rw [hml]; exact hl.1) rfl dX6_init_1 (Nat.le_of_ble_eq_true rfl) (Nat.le_of_ble_eq_true rfl) ?_
  refine W.eq (g2 := F0 m 4 ls []) rfl ?_
  refine lv_aload_n hx hb dX6_init_4 rfl (lv_at hl 0 rfl) ?_
  refine lv_iconst (v := 5) hx hb dX6_init_5 (by decide) ?_
  refine m_newa' (N0 := P + 1) (atype := .int) hx hb hts hW (m_suflen (n := 1) hP rfl) hz 0 ka_int (Or.inl ⟨rfl, rfl⟩) (N := 5) (lay' := pre ++ (S_6 P)) (List.append_assoc _ _ _) (by decide) (by decide) (by decide) (Nat.le_of_ble_eq_true rfl) (Nat.le_of_ble_eq_true rfl) dX6_init_6 (fun H hW hz => ?_)
  rw [m_us_z hμ [] 1 rfl] at hW
  have hW : m_W D cy s b (pre ++ (S_6 P)) (m_us P μ []) H _ := hW
  have hz : H.size = b + (P + 2) := hz
  refine m_putr hx hb hts hown hW (P + 0) 0 (P + 1) (m_suf hP rfl) rfl cw_6 tyX6_ok nmX6 rfl (by decide) k_X6_11 ⟨rfl, hnm, rfl⟩ rfl rfl (lay' := pre ++ (S_7 P)) (m_sufset hP rfl) dX6_init_8 (fun H locs hW hz1 => ?_)
  have hz := hz1.trans hz
  have hW : m_W D cy s b (pre ++ (S_7 P)) (m_us P μ []) H _ := hW
  refine lv_aload_n hx hb dX6_init_11 rfl (lv_at hl 0 rfl) ?_
  refine lv_iconst (v := 0) hx hb dX6_init_12 (by decide) ?_
  refine m_puti hx hb hts hown hW (P + 0) 1 (m_suf hP rfl) rfl cw_6 tyX6_ok nmX6 rfl (by decide) k_X6_15 rfl rfl rfl dX6_init_13 (fun H locs hW hz1 => ?_)
  have hz := hz1.trans hz
  rw [m_si_same (m_us_0 hμ [] 0 1 rfl)] at hW
  refine lv_aload_n hx hb dX6_init_16 rfl (lv_at hl 0 rfl) ?_
  refine lv_iconst (v := 0) hx hb dX6_init_17 (by decide) ?_
  refine m_puti hx hb hts hown hW (P + 0) 2 (m_suf hP rfl) rfl cw_6 tyX6_ok nmX6 rfl (by decide) k_X6_19 rfl rfl rfl dX6_init_18 (fun H locs hW hz1 => ?_)
  have hz := hz1.trans hz
  rw [m_si_same (m_us_0 hμ [] 0 2 rfl)] at hW
  refine W.widen (k := 1) (n := 5) (Nat.le_of_ble_eq_true rfl) (Nat.le_of_ble_eq_true rfl) ?_
  subst h1
  exact m_zret hx hb hr hlocks hW (hz.trans (congrArg (fun z => b + z) (m_suflen (n := 2) hP rfl).symm)) rfl dX6_init_21
def U_1 : List (Nat × Nat × Int32) := [] ++ [(0, 4, 1)]
def S_9 (P : Nat) : List mL := [.inl (3, [0, 0, 0, 0, 0, 0, 0, 1, 1, 1, 2, 2, 2, 2, 2, 2, 2, 2])]
def S_10 (P : Nat) : List mL := [.inl (3, [0, 0, 0, 0, 0, 0, 0, 1, 1, 1, 2, 2, 2, 2, 2, 2, 2, 2]), .inl (1, [0, 0, 0, 0, 0])]
def U_2 : List (Nat × Nat × Int32) := U_1 ++ m_sh 1 U_0
def S_11 (P : Nat) : List mL := [.inl (3, [0, 0, 0, 0, 0, 0, 0, 1, 1, 1, P + 1 + 3, 2, 2, 2, 2, 2, 2, 2]), .inl (1, [0, 0, 0, 0, 0])]
def S_12 (P : Nat) : List mL := [.inl (3, [0, 0, 0, 0, 0, 0, 0, 1, 1, 1, P + 1 + 3, 2, 2, 2, 2, 2, 2, 2]), .inl (1, [0, 0, 0, 0, 0]), .inr (0, 192, [])]
def S_13 (P : Nat) : List mL := [.inl (3, [0, 0, 0, 0, 0, 0, 0, 1, 1, 1, P + 1 + 3, P + 2 + 3, 2, 2, 2, 2, 2, 2]), .inl (1, [0, 0, 0, 0, 0]), .inr (0, 192, [])]
def S_14 (P : Nat) : List mL := [.inl (3, [0, 0, 0, 0, 0, 0, 0, 1, 1, 1, P + 1 + 3, P + 2 + 3, 2, 2, 2, 2, 2, 2]), .inl (1, [0, 0, 0, 0, 0]), .inr (0, 192, []), .inr (0, 192, [])]
def S_15 (P : Nat) : List mL := [.inl (3, [0, 0, 0, 0, 0, 0, 0, 1, 1, 1, P + 1 + 3, P + 2 + 3, P + 3 + 3, 2, 2, 2, 2, 2]), .inl (1, [0, 0, 0, 0, 0]), .inr (0, 192, []), .inr (0, 192, [])]
def S_16 (P : Nat) : List mL := [.inl (3, [0, 0, 0, 0, 0, 0, 0, 1, 1, 1, P + 1 + 3, P + 2 + 3, P + 3 + 3, 2, 2, 2, 2, 2]), .inl (1, [0, 0, 0, 0, 0]), .inr (0, 192, []), .inr (0, 192, []), .inr (0, 192, [])]
def S_17 (P : Nat) : List mL := [.inl (3, [0, 0, 0, 0, 0, 0, 0, 1, 1, 1, P + 1 + 3, P + 2 + 3, P + 3 + 3, P + 4 + 3, 2, 2, 2, 2]), .inl (1, [0, 0, 0, 0, 0]), .inr (0, 192, []), .inr (0, 192, []), .inr (0, 192, [])]
def S_18 (P : Nat) : List mL := [.inl (3, [0, 0, 0, 0, 0, 0, 0, 1, 1, 1, P + 1 + 3, P + 2 + 3, P + 3 + 3, P + 4 + 3, 2, 2, 2, 2]), .inl (1, [0, 0, 0, 0, 0]), .inr (0, 192, []), .inr (0, 192, []), .inr (0, 192, []), .inr (0, 192, [])]
def S_19 (P : Nat) : List mL := [.inl (3, [0, 0, 0, 0, 0, 0, 0, 1, 1, 1, P + 1 + 3, P + 2 + 3, P + 3 + 3, P + 4 + 3, P + 5 + 3, 2, 2, 2]), .inl (1, [0, 0, 0, 0, 0]), .inr (0, 192, []), .inr (0, 192, []), .inr (0, 192, []), .inr (0, 192, [])]
def S_20 (P : Nat) : List mL := [.inl (3, [0, 0, 0, 0, 0, 0, 0, 1, 1, 1, P + 1 + 3, P + 2 + 3, P + 3 + 3, P + 4 + 3, P + 5 + 3, 2, 2, 2]), .inl (1, [0, 0, 0, 0, 0]), .inr (0, 192, []), .inr (0, 192, []), .inr (0, 192, []), .inr (0, 192, []), .inr (0, 192, [])]
def S_21 (P : Nat) : List mL := [.inl (3, [0, 0, 0, 0, 0, 0, 0, 1, 1, 1, P + 1 + 3, P + 2 + 3, P + 3 + 3, P + 4 + 3, P + 5 + 3, P + 6 + 3, 2, 2]), .inl (1, [0, 0, 0, 0, 0]), .inr (0, 192, []), .inr (0, 192, []), .inr (0, 192, []), .inr (0, 192, []), .inr (0, 192, [])]
def S_22 (P : Nat) : List mL := [.inl (3, [0, 0, 0, 0, 0, 0, 0, 1, 1, 1, P + 1 + 3, P + 2 + 3, P + 3 + 3, P + 4 + 3, P + 5 + 3, P + 6 + 3, 2, 2]), .inl (1, [0, 0, 0, 0, 0]), .inr (0, 192, []), .inr (0, 192, []), .inr (0, 192, []), .inr (0, 192, []), .inr (0, 192, []), .inr (0, 192, [])]
def S_23 (P : Nat) : List mL := [.inl (3, [0, 0, 0, 0, 0, 0, 0, 1, 1, 1, P + 1 + 3, P + 2 + 3, P + 3 + 3, P + 4 + 3, P + 5 + 3, P + 6 + 3, P + 7 + 3, 2]), .inl (1, [0, 0, 0, 0, 0]), .inr (0, 192, []), .inr (0, 192, []), .inr (0, 192, []), .inr (0, 192, []), .inr (0, 192, []), .inr (0, 192, [])]
def S_24 (P : Nat) : List mL := [.inl (3, [0, 0, 0, 0, 0, 0, 0, 1, 1, 1, P + 1 + 3, P + 2 + 3, P + 3 + 3, P + 4 + 3, P + 5 + 3, P + 6 + 3, P + 7 + 3, 2]), .inl (1, [0, 0, 0, 0, 0]), .inr (0, 192, []), .inr (0, 192, []), .inr (0, 192, []), .inr (0, 192, []), .inr (0, 192, []), .inr (0, 192, []), .inl (2, [2, 2, 0, 0, 0])]
def S_25 (P : Nat) : List mL := [.inl (3, [0, 0, 0, 0, 0, 0, 0, 1, 1, 1, P + 1 + 3, P + 2 + 3, P + 3 + 3, P + 4 + 3, P + 5 + 3, P + 6 + 3, P + 7 + 3, 2]), .inl (1, [0, 0, 0, 0, 0]), .inr (0, 192, []), .inr (0, 192, []), .inr (0, 192, []), .inr (0, 192, []), .inr (0, 192, []), .inr (0, 192, []), .inl (2, [P + 9 + 3, P + 10 + 3, 0, 0, 0]), .inr (0, 192, []), .inr (0, 192, [])]
def S_26 (P : Nat) : List mL := [.inl (3, [0, 0, 0, 0, 0, 0, 0, 1, 1, 1, P + 1 + 3, P + 2 + 3, P + 3 + 3, P + 4 + 3, P + 5 + 3, P + 6 + 3, P + 7 + 3, P + 8 + 3]), .inl (1, [0, 0, 0, 0, 0]), .inr (0, 192, []), .inr (0, 192, []), .inr (0, 192, []), .inr (0, 192, []), .inr (0, 192, []), .inr (0, 192, []), .inl (2, [P + 9 + 3, P + 10 + 3, 0, 0, 0]), .inr (0, 192, []), .inr (0, 192, [])]
set_option maxHeartbeats 4000000 in
set_option maxRecDepth 100000 in
theorem c_X3_init (l : Launch) (D : va_G) (cy : Nat → ClassId) (b : Nat) (pre : List mL) (P : Nat) (hP : pre.length = P) (lay0 lay1 : List mL) (h0 : lay0 = pre ++ [.inl (3, f0_3)]) (μ : mM) (hμ : m_Zr P μ) (h1 : lay1 = pre ++ (S_26 P)) : m_Cz l yX3_init cX3_init 1 2 10 1546 D cy b lay0 lay1 μ [.ref (b + P)] (fun ν => ν = m_us P μ U_2) := by
  subst h0
  refine m_ofz (cc := cX3_init) (n := 1) (d := 2) (by decide) (Nat.le_of_ble_eq_true rfl) ?_
  intro p e s m below meth c hx hb hr hml hown hts hlocks hnm hW hz ls hl
  have hown : s.vm.findClass RX3 = some m.cls := hown
  have hl : lv_has ls 1 [(0, .ref (b + (P + 0)))] := hl
  have hW : m_W D cy s b (pre ++ (S_9 P)) (m_us P μ []) s.heap [] := hW
  have hz : s.heap.size = b + (P + 1) := hz.trans (congrArg (fun z => b + z) (m_suflen (n := 1) hP rfl))
  refine lv_aload_n hx hb dX3_init_0 rfl (lv_at hl 0 rfl) ?_
  refine W.objInit hx hb hown (hts _ k_X3_5) (hts _ ko_i) (hts _ ko_c) rfl (by rw [hml]; exact hl.1) rfl dX3_init_1 (Nat.le_of_ble_eq_true rfl) (Nat.le_of_ble_eq_true rfl) ?_
  refine W.eq (g2 := F0 m 4 ls []) rfl ?_
  refine lv_aload_n hx hb dX3_init_4 rfl (lv_at hl 0 rfl) ?_
  refine lv_iconst (v := 0) hx hb dX3_init_5 (by decide) ?_
  refine m_puti hx hb hts hown hW (P + 0) 0 (m_suf hP rfl) rfl cw_3 tyX3_ok nmX3 rfl (by decide) k_X3_11 rfl rfl rfl dX3_init_6 (fun H locs hW hz1 => ?_)
  have hz := hz1.trans hz
  rw [m_si_same (m_us_0 hμ [] 0 0 rfl)] at hW
  refine lv_aload_n hx hb dX3_init_9 rfl (lv_at hl 0 rfl) ?_
  refine lv_iconst (v := 0) hx hb dX3_init_10 (by decide) ?_
  refine m_puti hx hb hts hown hW (P + 0) 1 (m_suf hP rfl) rfl cw_3 tyX3_ok nmX3 rfl (by decide) k_X3_15 rfl rfl rfl dX3_init_11 (fun H locs hW hz1 => ?_)
  have hz := hz1.trans hz
  rw [m_si_same (m_us_0 hμ [] 0 1 rfl)] at hW
  refine lv_aload_n hx hb dX3_init_14 rfl (lv_at hl 0 rfl) ?_
  refine lv_iconst (v := 0) hx hb dX3_init_15 (by decide) ?_
  refine m_puti hx hb hts hown hW (P + 0) 2 (m_suf hP rfl) rfl cw_3 tyX3_ok nmX3 rfl (by decide) k_X3_18 rfl rfl rfl dX3_init_16 (fun H locs hW hz1 => ?_)
  have hz := hz1.trans hz
  rw [m_si_same (m_us_0 hμ [] 0 2 rfl)] at hW
  refine lv_aload_n hx hb dX3_init_19 rfl (lv_at hl 0 rfl) ?_
  refine lv_iconst (v := 0) hx hb dX3_init_20 (by decide) ?_
  refine m_puti hx hb hts hown hW (P + 0) 3 (m_suf hP rfl) rfl cw_3 tyX3_ok nmX3 rfl (by decide) k_X3_21 rfl rfl rfl dX3_init_21 (fun H locs hW hz1 => ?_)
  have hz := hz1.trans hz
  rw [m_si_same (m_us_0 hμ [] 0 3 rfl)] at hW
  refine lv_aload_n hx hb dX3_init_24 rfl (lv_at hl 0 rfl) ?_
  refine lv_iconst (v := 1) hx hb dX3_init_25 (by decide) ?_
  refine m_puti hx hb hts hown hW (P + 0) 4 (m_suf hP rfl) rfl cw_3 tyX3_ok nmX3 rfl (by decide) k_X3_24 rfl rfl rfl dX3_init_26 (fun H locs hW hz1 => ?_)
  have hz := hz1.trans hz
  rw [m_us_snoc] at hW
  have hW : m_W D cy s b (pre ++ (S_9 P)) (m_us P μ U_1) H _ := hW
  refine lv_aload_n hx hb dX3_init_29 rfl (lv_at hl 0 rfl) ?_
  refine lv_iconst (v := 0) hx hb dX3_init_30 (by decide) ?_
  refine m_puti hx hb hts hown hW (P + 0) 5 (m_suf hP rfl) rfl cw_3 tyX3_ok nmX3 rfl (by decide) k_X3_27 rfl rfl rfl dX3_init_31 (fun H locs hW hz1 => ?_)
  have hz := hz1.trans hz
  rw [m_si_same (m_us_0 hμ U_1 0 5 rfl)] at hW
  refine lv_aload_n hx hb dX3_init_34 rfl (lv_at hl 0 rfl) ?_
  refine lv_iconst (v := 0) hx hb dX3_init_35 (by decide) ?_
  refine m_puti hx hb hts hown hW (P + 0) 6 (m_suf hP rfl) rfl cw_3 tyX3_ok nmX3 rfl (by decide) k_X3_30 rfl rfl rfl dX3_init_36 (fun H locs hW hz1 => ?_)
  have hz := hz1.trans hz
  rw [m_si_same (m_us_0 hμ U_1 0 6 rfl)] at hW
  refine lv_aload_n hx hb dX3_init_39 rfl (lv_at hl 0 rfl) ?_
  refine lv_lconst (v := 0) hx hb dX3_init_40 (by decide) ?_
  refine m_putl hx hb hts hown hW (P + 0) 7 (m_suf hP rfl) rfl cw_3 tyX3_ok nmX3 rfl (by decide) k_X3_33 rfl rfl rfl dX3_init_41 (fun H locs hW hz1 => ?_)
  have hz := hz1.trans hz
  rw [m_sl_same (m_us_0l hμ U_1 0 7)] at hW
  refine lv_aload_n hx hb dX3_init_44 rfl (lv_at hl 0 rfl) ?_
  refine lv_lconst (v := 0) hx hb dX3_init_45 (by decide) ?_
  refine m_putl hx hb hts hown hW (P + 0) 8 (m_suf hP rfl) rfl cw_3 tyX3_ok nmX3 rfl (by decide) k_X3_37 rfl rfl rfl dX3_init_46 (fun H locs hW hz1 => ?_)
  have hz := hz1.trans hz
  rw [m_sl_same (m_us_0l hμ U_1 0 8)] at hW
  refine lv_aload_n hx hb dX3_init_49 rfl (lv_at hl 0 rfl) ?_
  refine lv_lconst (v := 0) hx hb dX3_init_50 (by decide) ?_
  refine m_putl hx hb hts hown hW (P + 0) 9 (m_suf hP rfl) rfl cw_3 tyX3_ok nmX3 rfl (by decide) k_X3_40 rfl rfl rfl dX3_init_51 (fun H locs hW hz1 => ?_)
  have hz := hz1.trans hz
  rw [m_sl_same (m_us_0l hμ U_1 0 9)] at hW
  refine lv_aload_n hx hb dX3_init_54 rfl (lv_at hl 0 rfl) ?_
  refine m_new' (N0 := P + 1) hx hb hts hown hW (m_suflen (n := 1) hP rfl) hz cw_1 tyX1_ok k_X3_43 ki_X1 kn_X1 rfl f0_1 (lay' := pre ++ (S_10 P)) (List.append_assoc _ _ _) f0_1_ok (Nat.le_of_ble_eq_true rfl) (Nat.le_of_ble_eq_true rfl) dX3_init_55 (fun H hW hz => ?_)
  rw [m_us_z hμ U_1 1 rfl] at hW
  have hW : m_W D cy s b (pre ++ (S_10 P)) (m_us P μ U_1) H _ := hW
  have hz : H.size = b + (P + 2) := hz
  refine lv_dup hx hb dX3_init_58 rfl ?_
  refine m_aZ hW (m_runIN (As := []) (rest := [.ref (b + (P + 1)), .ref (b + (P + 0))]) hx hb hml hown hts hW (hz.trans (congrArg (fun z => b + z) (m_suflen (n := 2) hP rfl).symm)) (P + 1) (c_X1_init l D cy b (pre ++ (S_9 P)) (P + 1) (m_suflen (n := 1) hP rfl) _ (pre ++ (S_10 P)) ((List.append_assoc _ _ _).symm) (m_us P μ U_1) (m_us_zr hμ U_1 1 rfl) (List.append_assoc pre (S_9 P) [.inl (1, [0, 0, 0, 0, 0])]).symm) mc_X1_init n_X3_45 rfl hl.1 rfl (Nat.le_of_ble_eq_true rfl) dX3_init_59 ⟨Nat.le_of_ble_eq_true rfl, Nat.le_of_ble_eq_true rfl⟩ ⟨Nat.le_of_ble_eq_true rfl, Nat.le_of_ble_eq_true rfl⟩) (fun ν H locs hν hW hz => ?_)
  rw [hν, m_us_join] at hW
  have hW : m_W D cy s b (pre ++ (S_10 P)) (m_us P μ U_2) H _ := hW
  have hz : H.size = b + (P + 2) := hz.trans (congrArg (fun z => b + z) (m_suflen (n := 2) hP rfl))
  refine m_putr hx hb hts hown hW (P + 0) 10 (P + 1) (m_suf hP rfl) rfl cw_3 tyX3_ok nmX3 rfl (by decide) k_X3_46 ⟨rfl, hnm, rfl⟩ rfl rfl (lay' := pre ++ (S_11 P)) (m_sufset hP rfl) dX3_init_62 (fun H locs hW hz1 => ?_)
  have hz := hz1.trans hz
  have hW : m_W D cy s b (pre ++ (S_11 P)) (m_us P μ U_2) H _ := hW
  refine lv_aload_n hx hb dX3_init_65 rfl (lv_at hl 0 rfl) ?_
  refine lv_sipush (v := 192) hx hb dX3_init_66 (by decide) ?_
  refine m_newa' (N0 := P + 2) (atype := .int) hx hb hts hW (m_suflen (n := 2) hP rfl) hz 0 ka_int (Or.inl ⟨rfl, rfl⟩) (N := 192) (lay' := pre ++ (S_12 P)) (List.append_assoc _ _ _) (by decide) (by decide) (by decide) (Nat.le_of_ble_eq_true rfl) (Nat.le_of_ble_eq_true rfl) dX3_init_69 (fun H hW hz => ?_)
  rw [m_us_z hμ U_2 2 rfl] at hW
  have hW : m_W D cy s b (pre ++ (S_12 P)) (m_us P μ U_2) H _ := hW
  have hz : H.size = b + (P + 3) := hz
  refine m_putr hx hb hts hown hW (P + 0) 11 (P + 2) (m_suf hP rfl) rfl cw_3 tyX3_ok nmX3 rfl (by decide) k_X3_50 ⟨rfl, hnm, rfl⟩ rfl rfl (lay' := pre ++ (S_13 P)) (m_sufset hP rfl) dX3_init_71 (fun H locs hW hz1 => ?_)
  have hz := hz1.trans hz
  have hW : m_W D cy s b (pre ++ (S_13 P)) (m_us P μ U_2) H _ := hW
  refine lv_aload_n hx hb dX3_init_74 rfl (lv_at hl 0 rfl) ?_
  refine lv_sipush (v := 192) hx hb dX3_init_75 (by decide) ?_
  refine m_newa' (N0 := P + 3) (atype := .int) hx hb hts hW (m_suflen (n := 3) hP rfl) hz 0 ka_int (Or.inl ⟨rfl, rfl⟩) (N := 192) (lay' := pre ++ (S_14 P)) (List.append_assoc _ _ _) (by decide) (by decide) (by decide) (Nat.le_of_ble_eq_true rfl) (Nat.le_of_ble_eq_true rfl) dX3_init_78 (fun H hW hz => ?_)
  rw [m_us_z hμ U_2 3 rfl] at hW
  have hW : m_W D cy s b (pre ++ (S_14 P)) (m_us P μ U_2) H _ := hW
  have hz : H.size = b + (P + 4) := hz
  refine m_putr hx hb hts hown hW (P + 0) 12 (P + 3) (m_suf hP rfl) rfl cw_3 tyX3_ok nmX3 rfl (by decide) k_X3_54 ⟨rfl, hnm, rfl⟩ rfl rfl (lay' := pre ++ (S_15 P)) (m_sufset hP rfl) dX3_init_80 (fun H locs hW hz1 => ?_)
  have hz := hz1.trans hz
  have hW : m_W D cy s b (pre ++ (S_15 P)) (m_us P μ U_2) H _ := hW
  refine lv_aload_n hx hb dX3_init_83 rfl (lv_at hl 0 rfl) ?_
  refine lv_sipush (v := 192) hx hb dX3_init_84 (by decide) ?_
  refine m_newa' (N0 := P + 4) (atype := .int) hx hb hts hW (m_suflen (n := 4) hP rfl) hz 0 ka_int (Or.inl ⟨rfl, rfl⟩) (N := 192) (lay' := pre ++ (S_16 P)) (List.append_assoc _ _ _) (by decide) (by decide) (by decide) (Nat.le_of_ble_eq_true rfl) (Nat.le_of_ble_eq_true rfl) dX3_init_87 (fun H hW hz => ?_)
  rw [m_us_z hμ U_2 4 rfl] at hW
  have hW : m_W D cy s b (pre ++ (S_16 P)) (m_us P μ U_2) H _ := hW
  have hz : H.size = b + (P + 5) := hz
  refine m_putr hx hb hts hown hW (P + 0) 13 (P + 4) (m_suf hP rfl) rfl cw_3 tyX3_ok nmX3 rfl (by decide) k_X3_57 ⟨rfl, hnm, rfl⟩ rfl rfl (lay' := pre ++ (S_17 P)) (m_sufset hP rfl) dX3_init_89 (fun H locs hW hz1 => ?_)
  have hz := hz1.trans hz
  have hW : m_W D cy s b (pre ++ (S_17 P)) (m_us P μ U_2) H _ := hW
  refine lv_aload_n hx hb dX3_init_92 rfl (lv_at hl 0 rfl) ?_
  refine lv_sipush (v := 192) hx hb dX3_init_93 (by decide) ?_
  refine m_newa' (N0 := P + 5) (atype := .int) hx hb hts hW (m_suflen (n := 5) hP rfl) hz 0 ka_int (Or.inl ⟨rfl, rfl⟩) (N := 192) (lay' := pre ++ (S_18 P)) (List.append_assoc _ _ _) (by decide) (by decide) (by decide) (Nat.le_of_ble_eq_true rfl) (Nat.le_of_ble_eq_true rfl) dX3_init_96 (fun H hW hz => ?_)
  rw [m_us_z hμ U_2 5 rfl] at hW
  have hW : m_W D cy s b (pre ++ (S_18 P)) (m_us P μ U_2) H _ := hW
  have hz : H.size = b + (P + 6) := hz
  refine m_putr hx hb hts hown hW (P + 0) 14 (P + 5) (m_suf hP rfl) rfl cw_3 tyX3_ok nmX3 rfl (by decide) k_X3_60 ⟨rfl, hnm, rfl⟩ rfl rfl (lay' := pre ++ (S_19 P)) (m_sufset hP rfl) dX3_init_98 (fun H locs hW hz1 => ?_)
  have hz := hz1.trans hz
  have hW : m_W D cy s b (pre ++ (S_19 P)) (m_us P μ U_2) H _ := hW
  refine lv_aload_n hx hb dX3_init_101 rfl (lv_at hl 0 rfl) ?_
  refine lv_sipush (v := 192) hx hb dX3_init_102 (by decide) ?_
  refine m_newa' (N0 := P + 6) (atype := .int) hx hb hts hW (m_suflen (n := 6) hP rfl) hz 0 ka_int (Or.inl ⟨rfl, rfl⟩) (N := 192) (lay' := pre ++ (S_20 P)) (List.append_assoc _ _ _) (by decide) (by decide) (by decide) (Nat.le_of_ble_eq_true rfl) (Nat.le_of_ble_eq_true rfl) dX3_init_105 (fun H hW hz => ?_)
  rw [m_us_z hμ U_2 6 rfl] at hW
  have hW : m_W D cy s b (pre ++ (S_20 P)) (m_us P μ U_2) H _ := hW
  have hz : H.size = b + (P + 7) := hz
  refine m_putr hx hb hts hown hW (P + 0) 15 (P + 6) (m_suf hP rfl) rfl cw_3 tyX3_ok nmX3 rfl (by decide) k_X3_63 ⟨rfl, hnm, rfl⟩ rfl rfl (lay' := pre ++ (S_21 P)) (m_sufset hP rfl) dX3_init_107 (fun H locs hW hz1 => ?_)
  have hz := hz1.trans hz
  have hW : m_W D cy s b (pre ++ (S_21 P)) (m_us P μ U_2) H _ := hW
  refine lv_aload_n hx hb dX3_init_110 rfl (lv_at hl 0 rfl) ?_
  refine lv_sipush (v := 192) hx hb dX3_init_111 (by decide) ?_
  refine m_newa' (N0 := P + 7) (atype := .int) hx hb hts hW (m_suflen (n := 7) hP rfl) hz 0 ka_int (Or.inl ⟨rfl, rfl⟩) (N := 192) (lay' := pre ++ (S_22 P)) (List.append_assoc _ _ _) (by decide) (by decide) (by decide) (Nat.le_of_ble_eq_true rfl) (Nat.le_of_ble_eq_true rfl) dX3_init_114 (fun H hW hz => ?_)
  rw [m_us_z hμ U_2 7 rfl] at hW
  have hW : m_W D cy s b (pre ++ (S_22 P)) (m_us P μ U_2) H _ := hW
  have hz : H.size = b + (P + 8) := hz
  refine m_putr hx hb hts hown hW (P + 0) 16 (P + 7) (m_suf hP rfl) rfl cw_3 tyX3_ok nmX3 rfl (by decide) k_X3_66 ⟨rfl, hnm, rfl⟩ rfl rfl (lay' := pre ++ (S_23 P)) (m_sufset hP rfl) dX3_init_116 (fun H locs hW hz1 => ?_)
  have hz := hz1.trans hz
  have hW : m_W D cy s b (pre ++ (S_23 P)) (m_us P μ U_2) H _ := hW
  refine lv_aload_n hx hb dX3_init_119 rfl (lv_at hl 0 rfl) ?_
  refine m_new' (N0 := P + 8) hx hb hts hown hW (m_suflen (n := 8) hP rfl) hz cw_2 tyX2_ok k_X3_69 ki_X2 kn_X2 rfl f0_2 (lay' := pre ++ (S_24 P)) (List.append_assoc _ _ _) f0_2_ok (Nat.le_of_ble_eq_true rfl) (Nat.le_of_ble_eq_true rfl) dX3_init_120 (fun H hW hz => ?_)
  rw [m_us_z hμ U_2 8 rfl] at hW
  have hW : m_W D cy s b (pre ++ (S_24 P)) (m_us P μ U_2) H _ := hW
  have hz : H.size = b + (P + 9) := hz
  refine lv_dup hx hb dX3_init_123 rfl ?_
  refine m_aZ hW (m_runIN (As := []) (rest := [.ref (b + (P + 8)), .ref (b + (P + 0))]) hx hb hml hown hts hW (hz.trans (congrArg (fun z => b + z) (m_suflen (n := 9) hP rfl).symm)) (P + 8) (c_X2_init l D cy b (pre ++ (S_23 P)) (P + 8) (m_suflen (n := 8) hP rfl) _ (pre ++ (S_25 P)) ((List.append_assoc _ _ _).symm) (m_us P μ U_2) (m_us_zr hμ U_2 8 rfl) (List.append_assoc pre (S_23 P) [.inl (2, [P + 9 + 3, P + 10 + 3, 0, 0, 0]), .inr (0, 192, []), .inr (0, 192, [])]).symm) mc_X2_init n_X3_71 rfl hl.1 rfl (Nat.le_of_ble_eq_true rfl) dX3_init_124 ⟨Nat.le_of_ble_eq_true rfl, Nat.le_of_ble_eq_true rfl⟩ ⟨Nat.le_of_ble_eq_true rfl, Nat.le_of_ble_eq_true rfl⟩) (fun ν H locs hν hW hz => ?_)
  rw [hν] at hW
  have hW : m_W D cy s b (pre ++ (S_25 P)) (m_us P μ U_2) H _ := hW
  have hz : H.size = b + (P + 11) := hz.trans (congrArg (fun z => b + z) (m_suflen (n := 11) hP rfl))
  refine m_putr hx hb hts hown hW (P + 0) 17 (P + 8) (m_suf hP rfl) rfl cw_3 tyX3_ok nmX3 rfl (by decide) k_X3_72 ⟨rfl, hnm, rfl⟩ rfl rfl (lay' := pre ++ (S_26 P)) (m_sufset hP rfl) dX3_init_127 (fun H locs hW hz1 => ?_)
  have hz := hz1.trans hz
  have hW : m_W D cy s b (pre ++ (S_26 P)) (m_us P μ U_2) H _ := hW
  refine W.widen (k := 10) (n := 1546) (Nat.le_of_ble_eq_true rfl) (Nat.le_of_ble_eq_true rfl) ?_
  subst h1
  exact m_zret hx hb hr hlocks hW (hz.trans (congrArg (fun z => b + z) (m_suflen (n := 11) hP rfl).symm)) rfl dX3_init_130
def S_27 (P : Nat) : List mL := [.inl (8, [2, 2, 2]), .inl (5, [2, 0])]
def S_28 (P : Nat) : List mL := [.inl (8, [2, 2, 2])]
def S_29 (P : Nat) : List mL := [.inl (8, [2, 2, 2]), .inl (5, [P + 2 + 3, 0]), .inr (0, 401, [])]
def S_30 (P : Nat) : List mL := [.inl (8, [P + 1 + 3, 2, 2]), .inl (5, [P + 2 + 3, 0]), .inr (0, 401, [])]
def S_31 (P : Nat) : List mL := [.inl (8, [P + 1 + 3, 2, 2]), .inl (5, [P + 2 + 3, 0]), .inr (0, 401, []), .inl (5, [2, 0])]
def S_32 (P : Nat) : List mL := [.inl (8, [P + 1 + 3, 2, 2]), .inl (5, [P + 2 + 3, 0]), .inr (0, 401, []), .inl (5, [P + 4 + 3, 0]), .inr (0, 401, [])]
def S_33 (P : Nat) : List mL := [.inl (8, [P + 1 + 3, P + 3 + 3, 2]), .inl (5, [P + 2 + 3, 0]), .inr (0, 401, []), .inl (5, [P + 4 + 3, 0]), .inr (0, 401, [])]
def S_34 (P : Nat) : List mL := [.inl (8, [P + 1 + 3, P + 3 + 3, 2]), .inl (5, [P + 2 + 3, 0]), .inr (0, 401, []), .inl (5, [P + 4 + 3, 0]), .inr (0, 401, []), .inl (5, [2, 0])]
def S_35 (P : Nat) : List mL := [.inl (8, [P + 1 + 3, P + 3 + 3, 2]), .inl (5, [P + 2 + 3, 0]), .inr (0, 401, []), .inl (5, [P + 4 + 3, 0]), .inr (0, 401, []), .inl (5, [P + 6 + 3, 0]), .inr (0, 401, [])]
def S_36 (P : Nat) : List mL := [.inl (8, [P + 1 + 3, P + 3 + 3, P + 5 + 3]), .inl (5, [P + 2 + 3, 0]), .inr (0, 401, []), .inl (5, [P + 4 + 3, 0]), .inr (0, 401, []), .inl (5, [P + 6 + 3, 0]), .inr (0, 401, [])]
set_option maxHeartbeats 4000000 in
set_option maxRecDepth 100000 in
theorem c_X8_init (l : Launch) (D : va_G) (cy : Nat → ClassId) (b : Nat) (pre : List mL) (P : Nat) (hP : pre.length = P) (lay0 lay1 : List mL) (h0 : lay0 = pre ++ [.inl (8, f0_8)]) (μ : mM) (hμ : m_Zr P μ) (h1 : lay1 = pre ++ (S_36 P)) : m_Cz l yX8_init cX8_init 1 2 6 1209 D cy b lay0 lay1 μ [.ref (b + P)] (fun ν => ν = m_us P μ []) := by
  subst h0
  refine m_ofz (cc := cX8_init) (n := 1) (d := 2) (by decide) (Nat.le_of_ble_eq_true rfl) ?_
  intro p e s m below meth c hx hb hr hml hown hts hlocks hnm hW hz ls hl
  have hown : s.vm.findClass RX8 = some m.cls := hown
  have hl : lv_has ls 1 [(0, .ref (b + (P + 0)))] := hl
  have hW : m_W D cy s b (pre ++ (S_28 P)) (m_us P μ []) s.heap [] := hW
  have hz : s.heap.size = b + (P + 1) := hz.trans (congrArg (fun z => b + z) (m_suflen (n := 1) hP rfl))
  refine lv_aload_n hx hb dX8_init_0 rfl (lv_at hl 0 rfl) ?_
  refine W.objInit hx hb hown (hts _ k_X8_3) (hts _ ko_i) (hts _ ko_c) rfl (by rw [hml]; exact hl.1) rfl dX8_init_1 (Nat.le_of_ble_eq_true rfl) (Nat.le_of_ble_eq_true rfl) ?_
  refine W.eq (g2 := F0 m 4 ls []) rfl ?_
  refine lv_aload_n hx hb dX8_init_4 rfl (lv_at hl 0 rfl) ?_
  refine m_new' (N0 := P + 1) hx hb hts hown hW (m_suflen (n := 1) hP rfl) hz cw_5 tyX5_ok k_X8_9 ki_X5 kn_X5 rfl f0_5 (lay' := pre ++ (S_27 P)) (List.append_assoc _ _ _) f0_5_ok (Nat.le_of_ble_eq_true rfl) (Nat.le_of_ble_eq_true rfl) dX8_init_5 (fun H hW hz => ?_)
  rw [m_us_z hμ [] 1 rfl] at hW
  have hW : m_W D cy s b (pre ++ (S_27 P)) (m_us P μ []) H _ := hW
  have hz : H.size = b + (P + 2) := hz
  refine lv_dup hx hb dX8_init_8 rfl ?_
  refine lv_sipush (v := 401) hx hb dX8_init_9 (by decide) ?_
  refine m_aZ hW (m_runI (As := [.int 401]) (rest := [.ref (b + (P + 1)), .ref (b + (P + 0))]) hx hb hml hown hts hW (hz.trans (congrArg (fun z => b + z) (m_suflen (n := 2) hP rfl).symm)) (P + 1) (c_X5_init l D cy b (pre ++ (S_28 P)) (P + 1) (m_suflen (n := 1) hP rfl) _ (pre ++ (S_29 P)) ((List.append_assoc _ _ _).symm) (m_us P μ []) (m_us_zr hμ [] 1 rfl) 401 401 (by decide) (by decide) (List.append_assoc pre (S_28 P) [.inl (5, [P + 2 + 3, 0]), .inr (0, 401, [])]).symm) mc_X5_init k_X8_11 rfl hl.1 rfl (Nat.le_of_ble_eq_true rfl) dX8_init_12 ⟨Nat.le_of_ble_eq_true rfl, Nat.le_of_ble_eq_true rfl⟩ ⟨Nat.le_of_ble_eq_true rfl, Nat.le_of_ble_eq_true rfl⟩) (fun ν H locs hν hW hz => ?_)
  rw [hν] at hW
  have hW : m_W D cy s b (pre ++ (S_29 P)) (m_us P μ []) H _ := hW
  have hz : H.size = b + (P + 3) := hz.trans (congrArg (fun z => b + z) (m_suflen (n := 3) hP rfl))
  refine m_putr hx hb hts hown hW (P + 0) 0 (P + 1) (m_suf hP rfl) rfl cw_8 tyX8_ok nmX8 rfl (by decide) k_X8_14 ⟨rfl, hnm, rfl⟩ rfl rfl (lay' := pre ++ (S_30 P)) (m_sufset hP rfl) dX8_init_15 (fun H locs hW hz1 => ?_)
  have hz := hz1.trans hz
  have hW : m_W D cy s b (pre ++ (S_30 P)) (m_us P μ []) H _ := hW
  refine lv_aload_n hx hb dX8_init_18 rfl (lv_at hl 0 rfl) ?_
  refine m_new' (N0 := P + 3) hx hb hts hown hW (m_suflen (n := 3) hP rfl) hz cw_5 tyX5_ok k_X8_9 ki_X5 kn_X5 rfl f0_5 (lay' := pre ++ (S_31 P)) (List.append_assoc _ _ _) f0_5_ok (Nat.le_of_ble_eq_true rfl) (Nat.le_of_ble_eq_true rfl) dX8_init_19 (fun H hW hz => ?_)
  rw [m_us_z hμ [] 3 rfl] at hW
  have hW : m_W D cy s b (pre ++ (S_31 P)) (m_us P μ []) H _ := hW
  have hz : H.size = b + (P + 4) := hz
  refine lv_dup hx hb dX8_init_22 rfl ?_
  refine lv_sipush (v := 401) hx hb dX8_init_23 (by decide) ?_
  refine m_aZ hW (m_runI (As := [.int 401]) (rest := [.ref (b + (P + 3)), .ref (b + (P + 0))]) hx hb hml hown hts hW (hz.trans (congrArg (fun z => b + z) (m_suflen (n := 4) hP rfl).symm)) (P + 3) (c_X5_init l D cy b (pre ++ (S_30 P)) (P + 3) (m_suflen (n := 3) hP rfl) _ (pre ++ (S_32 P)) ((List.append_assoc _ _ _).symm) (m_us P μ []) (m_us_zr hμ [] 3 rfl) 401 401 (by decide) (by decide) (List.append_assoc pre (S_30 P) [.inl (5, [P + 4 + 3, 0]), .inr (0, 401, [])]).symm) mc_X5_init k_X8_11 rfl hl.1 rfl (Nat.le_of_ble_eq_true rfl) dX8_init_26 ⟨Nat.le_of_ble_eq_true rfl, Nat.le_of_ble_eq_true rfl⟩ ⟨Nat.le_of_ble_eq_true rfl, Nat.le_of_ble_eq_true rfl⟩) (fun ν H locs hν hW hz => ?_)
  rw [hν] at hW
  have hW : m_W D cy s b (pre ++ (S_32 P)) (m_us P μ []) H _ := hW
  have hz : H.size = b + (P + 5) := hz.trans (congrArg (fun z => b + z) (m_suflen (n := 5) hP rfl))
  refine m_putr hx hb hts hown hW (P + 0) 1 (P + 3) (m_suf hP rfl) rfl cw_8 tyX8_ok nmX8 rfl (by decide) k_X8_20 ⟨rfl, hnm, rfl⟩ rfl rfl (lay' := pre ++ (S_33 P)) (m_sufset hP rfl) dX8_init_29 (fun H locs hW hz1 => ?_)
  have hz := hz1.trans hz
  have hW : m_W D cy s b (pre ++ (S_33 P)) (m_us P μ []) H _ := hW
  refine lv_aload_n hx hb dX8_init_32 rfl (lv_at hl 0 rfl) ?_
  refine m_new' (N0 := P + 5) hx hb hts hown hW (m_suflen (n := 5) hP rfl) hz cw_5 tyX5_ok k_X8_9 ki_X5 kn_X5 rfl f0_5 (lay' := pre ++ (S_34 P)) (List.append_assoc _ _ _) f0_5_ok (Nat.le_of_ble_eq_true rfl) (Nat.le_of_ble_eq_true rfl) dX8_init_33 (fun H hW hz => ?_)
  rw [m_us_z hμ [] 5 rfl] at hW
  have hW : m_W D cy s b (pre ++ (S_34 P)) (m_us P μ []) H _ := hW
  have hz : H.size = b + (P + 6) := hz
  refine lv_dup hx hb dX8_init_36 rfl ?_
  refine lv_sipush (v := 401) hx hb dX8_init_37 (by decide) ?_
  refine m_aZ hW (m_runI (As := [.int 401]) (rest := [.ref (b + (P + 5)), .ref (b + (P + 0))]) hx hb hml hown hts hW (hz.trans (congrArg (fun z => b + z) (m_suflen (n := 6) hP rfl).symm)) (P + 5) (c_X5_init l D cy b (pre ++ (S_33 P)) (P + 5) (m_suflen (n := 5) hP rfl) _ (pre ++ (S_35 P)) ((List.append_assoc _ _ _).symm) (m_us P μ []) (m_us_zr hμ [] 5 rfl) 401 401 (by decide) (by decide) (List.append_assoc pre (S_33 P) [.inl (5, [P + 6 + 3, 0]), .inr (0, 401, [])]).symm) mc_X5_init k_X8_11 rfl hl.1 rfl (Nat.le_of_ble_eq_true rfl) dX8_init_40 ⟨Nat.le_of_ble_eq_true rfl, Nat.le_of_ble_eq_true rfl⟩ ⟨Nat.le_of_ble_eq_true rfl, Nat.le_of_ble_eq_true rfl⟩) (fun ν H locs hν hW hz => ?_)
  rw [hν] at hW
  have hW : m_W D cy s b (pre ++ (S_35 P)) (m_us P μ []) H _ := hW
  have hz : H.size = b + (P + 7) := hz.trans (congrArg (fun z => b + z) (m_suflen (n := 7) hP rfl))
  refine m_putr hx hb hts hown hW (P + 0) 2 (P + 5) (m_suf hP rfl) rfl cw_8 tyX8_ok nmX8 rfl (by decide) k_X8_23 ⟨rfl, hnm, rfl⟩ rfl rfl (lay' := pre ++ (S_36 P)) (m_sufset hP rfl) dX8_init_43 (fun H locs hW hz1 => ?_)
  have hz := hz1.trans hz
  have hW : m_W D cy s b (pre ++ (S_36 P)) (m_us P μ []) H _ := hW
  refine W.widen (k := 6) (n := 1209) (Nat.le_of_ble_eq_true rfl) (Nat.le_of_ble_eq_true rfl) ?_
  subst h1
  exact m_zret hx hb hr hlocks hW (hz.trans (congrArg (fun z => b + z) (m_suflen (n := 7) hP rfl).symm)) rfl dX8_init_46
def S_37 (P : Nat) : List mL := [.inl (4, [2, 0, 0, 2, 0, 0, 2, 2]), .inl (5, [2, 0])]
def S_38 (P : Nat) : List mL := [.inl (4, [2, 0, 0, 2, 0, 0, 2, 2])]
def S_39 (P : Nat) : List mL := [.inl (4, [2, 0, 0, 2, 0, 0, 2, 2]), .inl (5, [P + 2 + 3, 0]), .inr (0, 800, [])]
def S_40 (P : Nat) : List mL := [.inl (4, [P + 1 + 3, 0, 0, 2, 0, 0, 2, 2]), .inl (5, [P + 2 + 3, 0]), .inr (0, 800, [])]
def U_3 : List (Nat × Nat × Int32) := [] ++ [(0, 2, (-1))]
def S_41 (P : Nat) : List mL := [.inl (4, [P + 1 + 3, 0, 0, 2, 0, 0, 2, 2]), .inl (5, [P + 2 + 3, 0]), .inr (0, 800, []), .inl (8, [2, 2, 2])]
def S_42 (P : Nat) : List mL := [.inl (4, [P + 1 + 3, 0, 0, 2, 0, 0, 2, 2]), .inl (5, [P + 2 + 3, 0]), .inr (0, 800, []), .inl (8, [P + 4 + 3, P + 6 + 3, P + 8 + 3]), .inl (5, [P + 5 + 3, 0]), .inr (0, 401, []), .inl (5, [P + 7 + 3, 0]), .inr (0, 401, []), .inl (5, [P + 9 + 3, 0]), .inr (0, 401, [])]
def S_43 (P : Nat) : List mL := [.inl (4, [P + 1 + 3, 0, 0, P + 3 + 3, 0, 0, 2, 2]), .inl (5, [P + 2 + 3, 0]), .inr (0, 800, []), .inl (8, [P + 4 + 3, P + 6 + 3, P + 8 + 3]), .inl (5, [P + 5 + 3, 0]), .inr (0, 401, []), .inl (5, [P + 7 + 3, 0]), .inr (0, 401, []), .inl (5, [P + 9 + 3, 0]), .inr (0, 401, [])]
def S_44 (P : Nat) : List mL := [.inl (4, [P + 1 + 3, 0, 0, P + 3 + 3, 0, 0, 2, 2]), .inl (5, [P + 2 + 3, 0]), .inr (0, 800, []), .inl (8, [P + 4 + 3, P + 6 + 3, P + 8 + 3]), .inl (5, [P + 5 + 3, 0]), .inr (0, 401, []), .inl (5, [P + 7 + 3, 0]), .inr (0, 401, []), .inl (5, [P + 9 + 3, 0]), .inr (0, 401, []), .inl (5, [2, 0])]
def S_45 (P : Nat) : List mL := [.inl (4, [P + 1 + 3, 0, 0, P + 3 + 3, 0, 0, 2, 2]), .inl (5, [P + 2 + 3, 0]), .inr (0, 800, []), .inl (8, [P + 4 + 3, P + 6 + 3, P + 8 + 3]), .inl (5, [P + 5 + 3, 0]), .inr (0, 401, []), .inl (5, [P + 7 + 3, 0]), .inr (0, 401, []), .inl (5, [P + 9 + 3, 0]), .inr (0, 401, []), .inl (5, [P + 11 + 3, 0]), .inr (0, 4, [])]
def S_46 (P : Nat) : List mL := [.inl (4, [P + 1 + 3, 0, 0, P + 3 + 3, 0, 0, P + 10 + 3, 2]), .inl (5, [P + 2 + 3, 0]), .inr (0, 800, []), .inl (8, [P + 4 + 3, P + 6 + 3, P + 8 + 3]), .inl (5, [P + 5 + 3, 0]), .inr (0, 401, []), .inl (5, [P + 7 + 3, 0]), .inr (0, 401, []), .inl (5, [P + 9 + 3, 0]), .inr (0, 401, []), .inl (5, [P + 11 + 3, 0]), .inr (0, 4, [])]
def S_47 (P : Nat) : List mL := [.inl (4, [P + 1 + 3, 0, 0, P + 3 + 3, 0, 0, P + 10 + 3, 2]), .inl (5, [P + 2 + 3, 0]), .inr (0, 800, []), .inl (8, [P + 4 + 3, P + 6 + 3, P + 8 + 3]), .inl (5, [P + 5 + 3, 0]), .inr (0, 401, []), .inl (5, [P + 7 + 3, 0]), .inr (0, 401, []), .inl (5, [P + 9 + 3, 0]), .inr (0, 401, []), .inl (5, [P + 11 + 3, 0]), .inr (0, 4, []), .inl (5, [2, 0])]
def S_48 (P : Nat) : List mL := [.inl (4, [P + 1 + 3, 0, 0, P + 3 + 3, 0, 0, P + 10 + 3, 2]), .inl (5, [P + 2 + 3, 0]), .inr (0, 800, []), .inl (8, [P + 4 + 3, P + 6 + 3, P + 8 + 3]), .inl (5, [P + 5 + 3, 0]), .inr (0, 401, []), .inl (5, [P + 7 + 3, 0]), .inr (0, 401, []), .inl (5, [P + 9 + 3, 0]), .inr (0, 401, []), .inl (5, [P + 11 + 3, 0]), .inr (0, 4, []), .inl (5, [P + 13 + 3, 0]), .inr (0, 4, [])]
def S_49 (P : Nat) : List mL := [.inl (4, [P + 1 + 3, 0, 0, P + 3 + 3, 0, 0, P + 10 + 3, P + 12 + 3]), .inl (5, [P + 2 + 3, 0]), .inr (0, 800, []), .inl (8, [P + 4 + 3, P + 6 + 3, P + 8 + 3]), .inl (5, [P + 5 + 3, 0]), .inr (0, 401, []), .inl (5, [P + 7 + 3, 0]), .inr (0, 401, []), .inl (5, [P + 9 + 3, 0]), .inr (0, 401, []), .inl (5, [P + 11 + 3, 0]), .inr (0, 4, []), .inl (5, [P + 13 + 3, 0]), .inr (0, 4, [])]
set_option maxHeartbeats 4000000 in
set_option maxRecDepth 100000 in
theorem c_X4_init (l : Launch) (D : va_G) (cy : Nat → ClassId) (b : Nat) (pre : List mL) (P : Nat) (hP : pre.length = P) (lay0 lay1 : List mL) (h0 : lay0 = pre ++ [.inl (4, f0_4)]) (μ : mM) (hμ : m_Zr P μ) (h1 : lay1 = pre ++ (S_49 P)) : m_Cz l yX4_init cX4_init 1 3 13 2026 D cy b lay0 lay1 μ [.ref (b + P)] (fun ν => ν = m_us P μ U_3) := by
  subst h0
  refine m_ofz (cc := cX4_init) (n := 1) (d := 3) (by decide) (Nat.le_of_ble_eq_true rfl) ?_
  intro p e s m below meth c hx hb hr hml hown hts hlocks hnm hW hz ls hl
  have hown : s.vm.findClass RX4 = some m.cls := hown
  have hl : lv_has ls 1 [(0, .ref (b + (P + 0)))] := hl
  have hW : m_W D cy s b (pre ++ (S_38 P)) (m_us P μ []) s.heap [] := hW
  have hz : s.heap.size = b + (P + 1) := hz.trans (congrArg (fun z => b + z) (m_suflen (n := 1) hP rfl))
  refine lv_aload_n hx hb dX4_init_0 rfl (lv_at hl 0 rfl) ?_
  refine W.objInit hx hb hown (hts _ k_X4_3) (hts _ ko_i) (hts _ ko_c) rfl (by rw [hml]; exact hl.1) rfl dX4_init_1 (Nat.le_of_ble_eq_true rfl) (Nat.le_of_ble_eq_true rfl) ?_
  refine W.eq (g2 := F0 m 4 ls []) rfl ?_
  refine lv_aload_n hx hb dX4_init_4 rfl (lv_at hl 0 rfl) ?_
  refine m_new' (N0 := P + 1) hx hb hts hown hW (m_suflen (n := 1) hP rfl) hz cw_5 tyX5_ok k_X4_9 ki_X5 kn_X5 rfl f0_5 (lay' := pre ++ (S_37 P)) (List.append_assoc _ _ _) f0_5_ok (Nat.le_of_ble_eq_true rfl) (Nat.le_of_ble_eq_true rfl) dX4_init_5 (fun H hW hz => ?_)
  rw [m_us_z hμ [] 1 rfl] at hW
  have hW : m_W D cy s b (pre ++ (S_37 P)) (m_us P μ []) H _ := hW
  have hz : H.size = b + (P + 2) := hz
  refine lv_dup hx hb dX4_init_8 rfl ?_
  refine lv_sipush (v := 800) hx hb dX4_init_9 (by decide) ?_
  refine m_aZ hW (m_runI (As := [.int 800]) (rest := [.ref (b + (P + 1)), .ref (b + (P + 0))]) hx hb hml hown hts hW (hz.trans (congrArg (fun z => b + z) (m_suflen (n := 2) hP rfl).symm)) (P + 1) (c_X5_init l D cy b (pre ++ (S_38 P)) (P + 1) (m_suflen (n := 1) hP rfl) _ (pre ++ (S_39 P)) ((List.append_assoc _ _ _).symm) (m_us P μ []) (m_us_zr hμ [] 1 rfl) 800 800 (by decide) (by decide) (List.append_assoc pre (S_38 P) [.inl (5, [P + 2 + 3, 0]), .inr (0, 800, [])]).symm) mc_X5_init k_X4_13 rfl hl.1 rfl (Nat.le_of_ble_eq_true rfl) dX4_init_12 ⟨Nat.le_of_ble_eq_true rfl, Nat.le_of_ble_eq_true rfl⟩ ⟨Nat.le_of_ble_eq_true rfl, Nat.le_of_ble_eq_true rfl⟩) (fun ν H locs hν hW hz => ?_)
  rw [hν] at hW
  have hW : m_W D cy s b (pre ++ (S_39 P)) (m_us P μ []) H _ := hW
  have hz : H.size = b + (P + 3) := hz.trans (congrArg (fun z => b + z) (m_suflen (n := 3) hP rfl))
  refine m_putr hx hb hts hown hW (P + 0) 0 (P + 1) (m_suf hP rfl) rfl cw_4 tyX4_ok nmX4 rfl (by decide) k_X4_16 ⟨rfl, hnm, rfl⟩ rfl rfl (lay' := pre ++ (S_40 P)) (m_sufset hP rfl) dX4_init_15 (fun H locs hW hz1 => ?_)
  have hz := hz1.trans hz
  have hW : m_W D cy s b (pre ++ (S_40 P)) (m_us P μ []) H _ := hW
  refine lv_aload_n hx hb dX4_init_18 rfl (lv_at hl 0 rfl) ?_
  refine lv_iconst (v := 0) hx hb dX4_init_19 (by decide) ?_
  refine m_puti hx hb hts hown hW (P + 0) 1 (m_suf hP rfl) rfl cw_4 tyX4_ok nmX4 rfl (by decide) k_X4_20 rfl rfl rfl dX4_init_20 (fun H locs hW hz1 => ?_)
  have hz := hz1.trans hz
  rw [m_si_same (m_us_0 hμ [] 0 1 rfl)] at hW
  refine lv_aload_n hx hb dX4_init_23 rfl (lv_at hl 0 rfl) ?_
  refine lv_iconst (v := (-1)) hx hb dX4_init_24 (by decide) ?_
  refine m_puti hx hb hts hown hW (P + 0) 2 (m_suf hP rfl) rfl cw_4 tyX4_ok nmX4 rfl (by decide) k_X4_24 rfl rfl rfl dX4_init_25 (fun H locs hW hz1 => ?_)
  have hz := hz1.trans hz
  rw [m_us_snoc] at hW
  have hW : m_W D cy s b (pre ++ (S_40 P)) (m_us P μ U_3) H _ := hW
  refine lv_aload_n hx hb dX4_init_28 rfl (lv_at hl 0 rfl) ?_
  refine m_new' (N0 := P + 3) hx hb hts hown hW (m_suflen (n := 3) hP rfl) hz cw_8 tyX8_ok k_X4_27 ki_X8 kn_X8 rfl f0_8 (lay' := pre ++ (S_41 P)) (List.append_assoc _ _ _) f0_8_ok (Nat.le_of_ble_eq_true rfl) (Nat.le_of_ble_eq_true rfl) dX4_init_29 (fun H hW hz => ?_)
  rw [m_us_z hμ U_3 3 rfl] at hW
  have hW : m_W D cy s b (pre ++ (S_41 P)) (m_us P μ U_3) H _ := hW
  have hz : H.size = b + (P + 4) := hz
  refine lv_dup hx hb dX4_init_32 rfl ?_
  refine m_aZ hW (m_runIN (As := []) (rest := [.ref (b + (P + 3)), .ref (b + (P + 0))]) hx hb hml hown hts hW (hz.trans (congrArg (fun z => b + z) (m_suflen (n := 4) hP rfl).symm)) (P + 3) (c_X8_init l D cy b (pre ++ (S_40 P)) (P + 3) (m_suflen (n := 3) hP rfl) _ (pre ++ (S_42 P)) ((List.append_assoc _ _ _).symm) (m_us P μ U_3) (m_us_zr hμ U_3 3 rfl) (List.append_assoc pre (S_40 P) [.inl (8, [P + 4 + 3, P + 6 + 3, P + 8 + 3]), .inl (5, [P + 5 + 3, 0]), .inr (0, 401, []), .inl (5, [P + 7 + 3, 0]), .inr (0, 401, []), .inl (5, [P + 9 + 3, 0]), .inr (0, 401, [])]).symm) mc_X8_init n_X4_29 rfl hl.1 rfl (Nat.le_of_ble_eq_true rfl) dX4_init_33 ⟨Nat.le_of_ble_eq_true rfl, Nat.le_of_ble_eq_true rfl⟩ ⟨Nat.le_of_ble_eq_true rfl, Nat.le_of_ble_eq_true rfl⟩) (fun ν H locs hν hW hz => ?_)
  rw [hν] at hW
  have hW : m_W D cy s b (pre ++ (S_42 P)) (m_us P μ U_3) H _ := hW
  have hz : H.size = b + (P + 10) := hz.trans (congrArg (fun z => b + z) (m_suflen (n := 10) hP rfl))
  refine m_putr hx hb hts hown hW (P + 0) 3 (P + 3) (m_suf hP rfl) rfl cw_4 tyX4_ok nmX4 rfl (by decide) k_X4_30 ⟨rfl, hnm, rfl⟩ rfl rfl (lay' := pre ++ (S_43 P)) (m_sufset hP rfl) dX4_init_36 (fun H locs hW hz1 => ?_)
  have hz := hz1.trans hz
  have hW : m_W D cy s b (pre ++ (S_43 P)) (m_us P μ U_3) H _ := hW
  refine lv_aload_n hx hb dX4_init_39 rfl (lv_at hl 0 rfl) ?_
  refine lv_iconst (v := 0) hx hb dX4_init_40 (by decide) ?_
  refine m_puti hx hb hts hown hW (P + 0) 4 (m_suf hP rfl) rfl cw_4 tyX4_ok nmX4 rfl (by decide) k_X4_34 rfl rfl rfl dX4_init_41 (fun H locs hW hz1 => ?_)
  have hz := hz1.trans hz
  rw [m_si_same (m_us_0 hμ U_3 0 4 rfl)] at hW
  refine lv_aload_n hx hb dX4_init_44 rfl (lv_at hl 0 rfl) ?_
  refine lv_iconst (v := 0) hx hb dX4_init_45 (by decide) ?_
  refine m_puti hx hb hts hown hW (P + 0) 5 (m_suf hP rfl) rfl cw_4 tyX4_ok nmX4 rfl (by decide) k_X4_37 rfl rfl rfl dX4_init_46 (fun H locs hW hz1 => ?_)
  have hz := hz1.trans hz
  rw [m_si_same (m_us_0 hμ U_3 0 5 rfl)] at hW
  refine lv_aload_n hx hb dX4_init_49 rfl (lv_at hl 0 rfl) ?_
  refine m_new' (N0 := P + 10) hx hb hts hown hW (m_suflen (n := 10) hP rfl) hz cw_5 tyX5_ok k_X4_9 ki_X5 kn_X5 rfl f0_5 (lay' := pre ++ (S_44 P)) (List.append_assoc _ _ _) f0_5_ok (Nat.le_of_ble_eq_true rfl) (Nat.le_of_ble_eq_true rfl) dX4_init_50 (fun H hW hz => ?_)
  rw [m_us_z hμ U_3 10 rfl] at hW
  have hW : m_W D cy s b (pre ++ (S_44 P)) (m_us P μ U_3) H _ := hW
  have hz : H.size = b + (P + 11) := hz
  refine lv_dup hx hb dX4_init_53 rfl ?_
  refine lv_iconst (v := 4) hx hb dX4_init_54 (by decide) ?_
  refine m_aZ hW (m_runI (As := [.int 4]) (rest := [.ref (b + (P + 10)), .ref (b + (P + 0))]) hx hb hml hown hts hW (hz.trans (congrArg (fun z => b + z) (m_suflen (n := 11) hP rfl).symm)) (P + 10) (c_X5_init l D cy b (pre ++ (S_43 P)) (P + 10) (m_suflen (n := 10) hP rfl) _ (pre ++ (S_45 P)) ((List.append_assoc _ _ _).symm) (m_us P μ U_3) (m_us_zr hμ U_3 10 rfl) 4 4 (by decide) (by decide) (List.append_assoc pre (S_43 P) [.inl (5, [P + 11 + 3, 0]), .inr (0, 4, [])]).symm) mc_X5_init k_X4_13 rfl hl.1 rfl (Nat.le_of_ble_eq_true rfl) dX4_init_55 ⟨Nat.le_of_ble_eq_true rfl, Nat.le_of_ble_eq_true rfl⟩ ⟨Nat.le_of_ble_eq_true rfl, Nat.le_of_ble_eq_true rfl⟩) (fun ν H locs hν hW hz => ?_)
  rw [hν] at hW
  have hW : m_W D cy s b (pre ++ (S_45 P)) (m_us P μ U_3) H _ := hW
  have hz : H.size = b + (P + 12) := hz.trans (congrArg (fun z => b + z) (m_suflen (n := 12) hP rfl))
  refine m_putr hx hb hts hown hW (P + 0) 6 (P + 10) (m_suf hP rfl) rfl cw_4 tyX4_ok nmX4 rfl (by decide) k_X4_40 ⟨rfl, hnm, rfl⟩ rfl rfl (lay' := pre ++ (S_46 P)) (m_sufset hP rfl) dX4_init_58 (fun H locs hW hz1 => ?_)
  have hz := hz1.trans hz
  have hW : m_W D cy s b (pre ++ (S_46 P)) (m_us P μ U_3) H _ := hW
  refine lv_aload_n hx hb dX4_init_61 rfl (lv_at hl 0 rfl) ?_
  refine m_new' (N0 := P + 12) hx hb hts hown hW (m_suflen (n := 12) hP rfl) hz cw_5 tyX5_ok k_X4_9 ki_X5 kn_X5 rfl f0_5 (lay' := pre ++ (S_47 P)) (List.append_assoc _ _ _) f0_5_ok (Nat.le_of_ble_eq_true rfl) (Nat.le_of_ble_eq_true rfl) dX4_init_62 (fun H hW hz => ?_)
  rw [m_us_z hμ U_3 12 rfl] at hW
  have hW : m_W D cy s b (pre ++ (S_47 P)) (m_us P μ U_3) H _ := hW
  have hz : H.size = b + (P + 13) := hz
  refine lv_dup hx hb dX4_init_65 rfl ?_
  refine lv_iconst (v := 4) hx hb dX4_init_66 (by decide) ?_
  refine m_aZ hW (m_runI (As := [.int 4]) (rest := [.ref (b + (P + 12)), .ref (b + (P + 0))]) hx hb hml hown hts hW (hz.trans (congrArg (fun z => b + z) (m_suflen (n := 13) hP rfl).symm)) (P + 12) (c_X5_init l D cy b (pre ++ (S_46 P)) (P + 12) (m_suflen (n := 12) hP rfl) _ (pre ++ (S_48 P)) ((List.append_assoc _ _ _).symm) (m_us P μ U_3) (m_us_zr hμ U_3 12 rfl) 4 4 (by decide) (by decide) (List.append_assoc pre (S_46 P) [.inl (5, [P + 13 + 3, 0]), .inr (0, 4, [])]).symm) mc_X5_init k_X4_13 rfl hl.1 rfl (Nat.le_of_ble_eq_true rfl) dX4_init_67 ⟨Nat.le_of_ble_eq_true rfl, Nat.le_of_ble_eq_true rfl⟩ ⟨Nat.le_of_ble_eq_true rfl, Nat.le_of_ble_eq_true rfl⟩) (fun ν H locs hν hW hz => ?_)
  rw [hν] at hW
  have hW : m_W D cy s b (pre ++ (S_48 P)) (m_us P μ U_3) H _ := hW
  have hz : H.size = b + (P + 14) := hz.trans (congrArg (fun z => b + z) (m_suflen (n := 14) hP rfl))
  refine m_putr hx hb hts hown hW (P + 0) 7 (P + 12) (m_suf hP rfl) rfl cw_4 tyX4_ok nmX4 rfl (by decide) k_X4_43 ⟨rfl, hnm, rfl⟩ rfl rfl (lay' := pre ++ (S_49 P)) (m_sufset hP rfl) dX4_init_70 (fun H locs hW hz1 => ?_)
  have hz := hz1.trans hz
  have hW : m_W D cy s b (pre ++ (S_49 P)) (m_us P μ U_3) H _ := hW
  refine W.widen (k := 13) (n := 2026) (Nat.le_of_ble_eq_true rfl) (Nat.le_of_ble_eq_true rfl) ?_
  subst h1
  exact m_zret hx hb hr hlocks hW (hz.trans (congrArg (fun z => b + z) (m_suflen (n := 14) hP rfl).symm)) rfl dX4_init_73
def S_50 (P : Nat) : List mL := [.inl (10, [2, 2, 2, 2, 0, 0, 0, 2]), .inr (0, 4, [])]
def U_4 : List (Nat × Nat × Int32) := [] ++ [(1, 0, 100)]
def U_5 : List (Nat × Nat × Int32) := U_4 ++ [(1, 1, 100)]
def U_6 : List (Nat × Nat × Int32) := U_5 ++ [(1, 2, 100)]
def U_7 : List (Nat × Nat × Int32) := U_6 ++ [(1, 3, 100)]
def S_51 (P : Nat) : List mL := [.inl (10, [P + 1 + 3, 2, 2, 2, 0, 0, 0, 2]), .inr (0, 4, [])]
def S_52 (P : Nat) : List mL := [.inl (10, [P + 1 + 3, 2, 2, 2, 0, 0, 0, 2]), .inr (0, 4, []), .inr (0, 4, [])]
def U_8 : List (Nat × Nat × Int32) := U_7 ++ [(2, 0, 10)]
def U_9 : List (Nat × Nat × Int32) := U_8 ++ [(2, 1, 10)]
def U_10 : List (Nat × Nat × Int32) := U_9 ++ [(2, 2, 10)]
def U_11 : List (Nat × Nat × Int32) := U_10 ++ [(2, 3, 10)]
def S_53 (P : Nat) : List mL := [.inl (10, [P + 1 + 3, P + 2 + 3, 2, 2, 0, 0, 0, 2]), .inr (0, 4, []), .inr (0, 4, [])]
def S_54 (P : Nat) : List mL := [.inl (10, [P + 1 + 3, P + 2 + 3, 2, 2, 0, 0, 0, 2]), .inr (0, 4, []), .inr (0, 4, []), .inr (0, 4, [])]
def U_12 : List (Nat × Nat × Int32) := U_11 ++ [(3, 0, 2)]
def U_13 : List (Nat × Nat × Int32) := U_12 ++ [(3, 1, 2)]
def U_14 : List (Nat × Nat × Int32) := U_13 ++ [(3, 2, 2)]
def U_15 : List (Nat × Nat × Int32) := U_14 ++ [(3, 3, 2)]
def S_55 (P : Nat) : List mL := [.inl (10, [P + 1 + 3, P + 2 + 3, P + 3 + 3, 2, 0, 0, 0, 2]), .inr (0, 4, []), .inr (0, 4, []), .inr (0, 4, [])]
def S_56 (P : Nat) : List mL := [.inl (10, [P + 1 + 3, P + 2 + 3, P + 3 + 3, 2, 0, 0, 0, 2]), .inr (0, 4, []), .inr (0, 4, []), .inr (0, 4, []), .inr (0, 4, [])]
def U_16 : List (Nat × Nat × Int32) := U_15 ++ [(4, 0, 60)]
def U_17 : List (Nat × Nat × Int32) := U_16 ++ [(4, 1, 60)]
def U_18 : List (Nat × Nat × Int32) := U_17 ++ [(4, 2, 60)]
def U_19 : List (Nat × Nat × Int32) := U_18 ++ [(4, 3, 60)]
def S_57 (P : Nat) : List mL := [.inl (10, [P + 1 + 3, P + 2 + 3, P + 3 + 3, P + 4 + 3, 0, 0, 0, 2]), .inr (0, 4, []), .inr (0, 4, []), .inr (0, 4, []), .inr (0, 4, [])]
def U_20 : List (Nat × Nat × Int32) := U_19 ++ [(0, 4, 100)]
def U_21 : List (Nat × Nat × Int32) := U_20 ++ [(0, 5, 1)]
def U_22 : List (Nat × Nat × Int32) := U_21 ++ [(0, 6, 4)]
def S_58 (P : Nat) : List mL := [.inl (10, [P + 1 + 3, P + 2 + 3, P + 3 + 3, P + 4 + 3, 0, 0, 0, 2]), .inr (0, 4, []), .inr (0, 4, []), .inr (0, 4, []), .inr (0, 4, []), .inr (3, 8, [])]
def S_59 (P : Nat) : List mL := [.inl (10, [P + 1 + 3, P + 2 + 3, P + 3 + 3, P + 4 + 3, 0, 0, 0, P + 5 + 3]), .inr (0, 4, []), .inr (0, 4, []), .inr (0, 4, []), .inr (0, 4, []), .inr (3, 8, [])]
def S_60 (P : Nat) : List mL := [.inl (10, [P + 1 + 3, P + 2 + 3, P + 3 + 3, P + 4 + 3, 0, 0, 0, P + 5 + 3]), .inr (0, 4, []), .inr (0, 4, []), .inr (0, 4, []), .inr (0, 4, []), .inr (3, 8, []), .inl (5, [2, 0])]
def S_61 (P : Nat) : List mL := [.inl (10, [P + 1 + 3, P + 2 + 3, P + 3 + 3, P + 4 + 3, 0, 0, 0, P + 5 + 3]), .inr (0, 4, []), .inr (0, 4, []), .inr (0, 4, []), .inr (0, 4, []), .inr (3, 8, []), .inl (5, [P + 7 + 3, 0]), .inr (0, 800, [])]
def S_62 (P : Nat) : List mL := [.inl (10, [P + 1 + 3, P + 2 + 3, P + 3 + 3, P + 4 + 3, 0, 0, 0, P + 5 + 3]), .inr (0, 4, []), .inr (0, 4, []), .inr (0, 4, []), .inr (0, 4, []), .inr (3, 8, [P + 6]), .inl (5, [P + 7 + 3, 0]), .inr (0, 800, [])]
def S_63 (P : Nat) : List mL := [.inl (10, [P + 1 + 3, P + 2 + 3, P + 3 + 3, P + 4 + 3, 0, 0, 0, P + 5 + 3]), .inr (0, 4, []), .inr (0, 4, []), .inr (0, 4, []), .inr (0, 4, []), .inr (3, 8, [P + 6]), .inl (5, [P + 7 + 3, 0]), .inr (0, 800, []), .inl (5, [2, 0])]
def S_64 (P : Nat) : List mL := [.inl (10, [P + 1 + 3, P + 2 + 3, P + 3 + 3, P + 4 + 3, 0, 0, 0, P + 5 + 3]), .inr (0, 4, []), .inr (0, 4, []), .inr (0, 4, []), .inr (0, 4, []), .inr (3, 8, [P + 6]), .inl (5, [P + 7 + 3, 0]), .inr (0, 800, []), .inl (5, [P + 9 + 3, 0]), .inr (0, 800, [])]
def S_65 (P : Nat) : List mL := [.inl (10, [P + 1 + 3, P + 2 + 3, P + 3 + 3, P + 4 + 3, 0, 0, 0, P + 5 + 3]), .inr (0, 4, []), .inr (0, 4, []), .inr (0, 4, []), .inr (0, 4, []), .inr (3, 8, [P + 6, P + 8]), .inl (5, [P + 7 + 3, 0]), .inr (0, 800, []), .inl (5, [P + 9 + 3, 0]), .inr (0, 800, [])]
def S_66 (P : Nat) : List mL := [.inl (10, [P + 1 + 3, P + 2 + 3, P + 3 + 3, P + 4 + 3, 0, 0, 0, P + 5 + 3]), .inr (0, 4, []), .inr (0, 4, []), .inr (0, 4, []), .inr (0, 4, []), .inr (3, 8, [P + 6, P + 8]), .inl (5, [P + 7 + 3, 0]), .inr (0, 800, []), .inl (5, [P + 9 + 3, 0]), .inr (0, 800, []), .inl (5, [2, 0])]
def S_67 (P : Nat) : List mL := [.inl (10, [P + 1 + 3, P + 2 + 3, P + 3 + 3, P + 4 + 3, 0, 0, 0, P + 5 + 3]), .inr (0, 4, []), .inr (0, 4, []), .inr (0, 4, []), .inr (0, 4, []), .inr (3, 8, [P + 6, P + 8]), .inl (5, [P + 7 + 3, 0]), .inr (0, 800, []), .inl (5, [P + 9 + 3, 0]), .inr (0, 800, []), .inl (5, [P + 11 + 3, 0]), .inr (0, 800, [])]
def S_68 (P : Nat) : List mL := [.inl (10, [P + 1 + 3, P + 2 + 3, P + 3 + 3, P + 4 + 3, 0, 0, 0, P + 5 + 3]), .inr (0, 4, []), .inr (0, 4, []), .inr (0, 4, []), .inr (0, 4, []), .inr (3, 8, [P + 6, P + 8, P + 10]), .inl (5, [P + 7 + 3, 0]), .inr (0, 800, []), .inl (5, [P + 9 + 3, 0]), .inr (0, 800, []), .inl (5, [P + 11 + 3, 0]), .inr (0, 800, [])]
def S_69 (P : Nat) : List mL := [.inl (10, [P + 1 + 3, P + 2 + 3, P + 3 + 3, P + 4 + 3, 0, 0, 0, P + 5 + 3]), .inr (0, 4, []), .inr (0, 4, []), .inr (0, 4, []), .inr (0, 4, []), .inr (3, 8, [P + 6, P + 8, P + 10]), .inl (5, [P + 7 + 3, 0]), .inr (0, 800, []), .inl (5, [P + 9 + 3, 0]), .inr (0, 800, []), .inl (5, [P + 11 + 3, 0]), .inr (0, 800, []), .inl (5, [2, 0])]
def S_70 (P : Nat) : List mL := [.inl (10, [P + 1 + 3, P + 2 + 3, P + 3 + 3, P + 4 + 3, 0, 0, 0, P + 5 + 3]), .inr (0, 4, []), .inr (0, 4, []), .inr (0, 4, []), .inr (0, 4, []), .inr (3, 8, [P + 6, P + 8, P + 10]), .inl (5, [P + 7 + 3, 0]), .inr (0, 800, []), .inl (5, [P + 9 + 3, 0]), .inr (0, 800, []), .inl (5, [P + 11 + 3, 0]), .inr (0, 800, []), .inl (5, [P + 13 + 3, 0]), .inr (0, 800, [])]
def S_71 (P : Nat) : List mL := [.inl (10, [P + 1 + 3, P + 2 + 3, P + 3 + 3, P + 4 + 3, 0, 0, 0, P + 5 + 3]), .inr (0, 4, []), .inr (0, 4, []), .inr (0, 4, []), .inr (0, 4, []), .inr (3, 8, [P + 6, P + 8, P + 10, P + 12]), .inl (5, [P + 7 + 3, 0]), .inr (0, 800, []), .inl (5, [P + 9 + 3, 0]), .inr (0, 800, []), .inl (5, [P + 11 + 3, 0]), .inr (0, 800, []), .inl (5, [P + 13 + 3, 0]), .inr (0, 800, [])]
def S_72 (P : Nat) : List mL := [.inl (10, [P + 1 + 3, P + 2 + 3, P + 3 + 3, P + 4 + 3, 0, 0, 0, P + 5 + 3]), .inr (0, 4, []), .inr (0, 4, []), .inr (0, 4, []), .inr (0, 4, []), .inr (3, 8, [P + 6, P + 8, P + 10, P + 12]), .inl (5, [P + 7 + 3, 0]), .inr (0, 800, []), .inl (5, [P + 9 + 3, 0]), .inr (0, 800, []), .inl (5, [P + 11 + 3, 0]), .inr (0, 800, []), .inl (5, [P + 13 + 3, 0]), .inr (0, 800, []), .inl (5, [2, 0])]
def S_73 (P : Nat) : List mL := [.inl (10, [P + 1 + 3, P + 2 + 3, P + 3 + 3, P + 4 + 3, 0, 0, 0, P + 5 + 3]), .inr (0, 4, []), .inr (0, 4, []), .inr (0, 4, []), .inr (0, 4, []), .inr (3, 8, [P + 6, P + 8, P + 10, P + 12]), .inl (5, [P + 7 + 3, 0]), .inr (0, 800, []), .inl (5, [P + 9 + 3, 0]), .inr (0, 800, []), .inl (5, [P + 11 + 3, 0]), .inr (0, 800, []), .inl (5, [P + 13 + 3, 0]), .inr (0, 800, []), .inl (5, [P + 15 + 3, 0]), .inr (0, 800, [])]
def S_74 (P : Nat) : List mL := [.inl (10, [P + 1 + 3, P + 2 + 3, P + 3 + 3, P + 4 + 3, 0, 0, 0, P + 5 + 3]), .inr (0, 4, []), .inr (0, 4, []), .inr (0, 4, []), .inr (0, 4, []), .inr (3, 8, [P + 6, P + 8, P + 10, P + 12, P + 14]), .inl (5, [P + 7 + 3, 0]), .inr (0, 800, []), .inl (5, [P + 9 + 3, 0]), .inr (0, 800, []), .inl (5, [P + 11 + 3, 0]), .inr (0, 800, []), .inl (5, [P + 13 + 3, 0]), .inr (0, 800, []), .inl (5, [P + 15 + 3, 0]), .inr (0, 800, [])]
def S_75 (P : Nat) : List mL := [.inl (10, [P + 1 + 3, P + 2 + 3, P + 3 + 3, P + 4 + 3, 0, 0, 0, P + 5 + 3]), .inr (0, 4, []), .inr (0, 4, []), .inr (0, 4, []), .inr (0, 4, []), .inr (3, 8, [P + 6, P + 8, P + 10, P + 12, P + 14]), .inl (5, [P + 7 + 3, 0]), .inr (0, 800, []), .inl (5, [P + 9 + 3, 0]), .inr (0, 800, []), .inl (5, [P + 11 + 3, 0]), .inr (0, 800, []), .inl (5, [P + 13 + 3, 0]), .inr (0, 800, []), .inl (5, [P + 15 + 3, 0]), .inr (0, 800, []), .inl (5, [2, 0])]
def S_76 (P : Nat) : List mL := [.inl (10, [P + 1 + 3, P + 2 + 3, P + 3 + 3, P + 4 + 3, 0, 0, 0, P + 5 + 3]), .inr (0, 4, []), .inr (0, 4, []), .inr (0, 4, []), .inr (0, 4, []), .inr (3, 8, [P + 6, P + 8, P + 10, P + 12, P + 14]), .inl (5, [P + 7 + 3, 0]), .inr (0, 800, []), .inl (5, [P + 9 + 3, 0]), .inr (0, 800, []), .inl (5, [P + 11 + 3, 0]), .inr (0, 800, []), .inl (5, [P + 13 + 3, 0]), .inr (0, 800, []), .inl (5, [P + 15 + 3, 0]), .inr (0, 800, []), .inl (5, [P + 17 + 3, 0]), .inr (0, 800, [])]
def S_77 (P : Nat) : List mL := [.inl (10, [P + 1 + 3, P + 2 + 3, P + 3 + 3, P + 4 + 3, 0, 0, 0, P + 5 + 3]), .inr (0, 4, []), .inr (0, 4, []), .inr (0, 4, []), .inr (0, 4, []), .inr (3, 8, [P + 6, P + 8, P + 10, P + 12, P + 14, P + 16]), .inl (5, [P + 7 + 3, 0]), .inr (0, 800, []), .inl (5, [P + 9 + 3, 0]), .inr (0, 800, []), .inl (5, [P + 11 + 3, 0]), .inr (0, 800, []), .inl (5, [P + 13 + 3, 0]), .inr (0, 800, []), .inl (5, [P + 15 + 3, 0]), .inr (0, 800, []), .inl (5, [P + 17 + 3, 0]), .inr (0, 800, [])]
def S_78 (P : Nat) : List mL := [.inl (10, [P + 1 + 3, P + 2 + 3, P + 3 + 3, P + 4 + 3, 0, 0, 0, P + 5 + 3]), .inr (0, 4, []), .inr (0, 4, []), .inr (0, 4, []), .inr (0, 4, []), .inr (3, 8, [P + 6, P + 8, P + 10, P + 12, P + 14, P + 16]), .inl (5, [P + 7 + 3, 0]), .inr (0, 800, []), .inl (5, [P + 9 + 3, 0]), .inr (0, 800, []), .inl (5, [P + 11 + 3, 0]), .inr (0, 800, []), .inl (5, [P + 13 + 3, 0]), .inr (0, 800, []), .inl (5, [P + 15 + 3, 0]), .inr (0, 800, []), .inl (5, [P + 17 + 3, 0]), .inr (0, 800, []), .inl (5, [2, 0])]
def S_79 (P : Nat) : List mL := [.inl (10, [P + 1 + 3, P + 2 + 3, P + 3 + 3, P + 4 + 3, 0, 0, 0, P + 5 + 3]), .inr (0, 4, []), .inr (0, 4, []), .inr (0, 4, []), .inr (0, 4, []), .inr (3, 8, [P + 6, P + 8, P + 10, P + 12, P + 14, P + 16]), .inl (5, [P + 7 + 3, 0]), .inr (0, 800, []), .inl (5, [P + 9 + 3, 0]), .inr (0, 800, []), .inl (5, [P + 11 + 3, 0]), .inr (0, 800, []), .inl (5, [P + 13 + 3, 0]), .inr (0, 800, []), .inl (5, [P + 15 + 3, 0]), .inr (0, 800, []), .inl (5, [P + 17 + 3, 0]), .inr (0, 800, []), .inl (5, [P + 19 + 3, 0]), .inr (0, 800, [])]
def S_80 (P : Nat) : List mL := [.inl (10, [P + 1 + 3, P + 2 + 3, P + 3 + 3, P + 4 + 3, 0, 0, 0, P + 5 + 3]), .inr (0, 4, []), .inr (0, 4, []), .inr (0, 4, []), .inr (0, 4, []), .inr (3, 8, [P + 6, P + 8, P + 10, P + 12, P + 14, P + 16, P + 18]), .inl (5, [P + 7 + 3, 0]), .inr (0, 800, []), .inl (5, [P + 9 + 3, 0]), .inr (0, 800, []), .inl (5, [P + 11 + 3, 0]), .inr (0, 800, []), .inl (5, [P + 13 + 3, 0]), .inr (0, 800, []), .inl (5, [P + 15 + 3, 0]), .inr (0, 800, []), .inl (5, [P + 17 + 3, 0]), .inr (0, 800, []), .inl (5, [P + 19 + 3, 0]), .inr (0, 800, [])]
def S_81 (P : Nat) : List mL := [.inl (10, [P + 1 + 3, P + 2 + 3, P + 3 + 3, P + 4 + 3, 0, 0, 0, P + 5 + 3]), .inr (0, 4, []), .inr (0, 4, []), .inr (0, 4, []), .inr (0, 4, []), .inr (3, 8, [P + 6, P + 8, P + 10, P + 12, P + 14, P + 16, P + 18]), .inl (5, [P + 7 + 3, 0]), .inr (0, 800, []), .inl (5, [P + 9 + 3, 0]), .inr (0, 800, []), .inl (5, [P + 11 + 3, 0]), .inr (0, 800, []), .inl (5, [P + 13 + 3, 0]), .inr (0, 800, []), .inl (5, [P + 15 + 3, 0]), .inr (0, 800, []), .inl (5, [P + 17 + 3, 0]), .inr (0, 800, []), .inl (5, [P + 19 + 3, 0]), .inr (0, 800, []), .inl (5, [2, 0])]
def S_82 (P : Nat) : List mL := [.inl (10, [P + 1 + 3, P + 2 + 3, P + 3 + 3, P + 4 + 3, 0, 0, 0, P + 5 + 3]), .inr (0, 4, []), .inr (0, 4, []), .inr (0, 4, []), .inr (0, 4, []), .inr (3, 8, [P + 6, P + 8, P + 10, P + 12, P + 14, P + 16, P + 18]), .inl (5, [P + 7 + 3, 0]), .inr (0, 800, []), .inl (5, [P + 9 + 3, 0]), .inr (0, 800, []), .inl (5, [P + 11 + 3, 0]), .inr (0, 800, []), .inl (5, [P + 13 + 3, 0]), .inr (0, 800, []), .inl (5, [P + 15 + 3, 0]), .inr (0, 800, []), .inl (5, [P + 17 + 3, 0]), .inr (0, 800, []), .inl (5, [P + 19 + 3, 0]), .inr (0, 800, []), .inl (5, [P + 21 + 3, 0]), .inr (0, 800, [])]
def S_83 (P : Nat) : List mL := [.inl (10, [P + 1 + 3, P + 2 + 3, P + 3 + 3, P + 4 + 3, 0, 0, 0, P + 5 + 3]), .inr (0, 4, []), .inr (0, 4, []), .inr (0, 4, []), .inr (0, 4, []), .inr (3, 8, [P + 6, P + 8, P + 10, P + 12, P + 14, P + 16, P + 18, P + 20]), .inl (5, [P + 7 + 3, 0]), .inr (0, 800, []), .inl (5, [P + 9 + 3, 0]), .inr (0, 800, []), .inl (5, [P + 11 + 3, 0]), .inr (0, 800, []), .inl (5, [P + 13 + 3, 0]), .inr (0, 800, []), .inl (5, [P + 15 + 3, 0]), .inr (0, 800, []), .inl (5, [P + 17 + 3, 0]), .inr (0, 800, []), .inl (5, [P + 19 + 3, 0]), .inr (0, 800, []), .inl (5, [P + 21 + 3, 0]), .inr (0, 800, [])]
def S_84 (P : Nat) : List mL := [.inl (10, [2, 2, 2, 2, 0, 0, 0, 2])]
set_option maxHeartbeats 4000000 in
set_option maxRecDepth 100000 in
theorem c_X10_init (l : Launch) (D : va_G) (cy : Nat → ClassId) (b : Nat) (pre : List mL) (P : Nat) (hP : pre.length = P) (lay0 lay1 : List mL) (h0 : lay0 = pre ++ [.inl (10, f0_10)]) (μ : mM) (hμ : m_Zr P μ) (h1 : lay1 = pre ++ (S_83 P)) : m_Cz l yX10_init cX10_init 2 2 21 6440 D cy b lay0 lay1 μ [.ref (b + P)] (fun ν => ν = m_us P μ U_22) := by
  subst h0
  refine m_ofz (cc := cX10_init) (n := 2) (d := 2) (by decide) (Nat.le_of_ble_eq_true rfl) ?_
  intro p e s m below meth c hx hb hr hml hown hts hlocks hnm hW hz ls hl
  have hown : s.vm.findClass RX10 = some m.cls := hown
  have hl : lv_has ls 2 [(0, .ref (b + (P + 0)))] := hl
  have hW : m_W D cy s b (pre ++ (S_84 P)) (m_us P μ []) s.heap [] := hW
  have hz : s.heap.size = b + (P + 1) := hz.trans (congrArg (fun z => b + z) (m_suflen (n := 1) hP rfl))
  refine lv_aload_n hx hb dX10_init_0 rfl (lv_at hl 0 rfl) ?_
  refine W.objInit hx hb hown (hts _ k_X10_3) (hts _ ko_i) (hts _ ko_c) rfl (by rw [hml]; exact hl.1) rfl dX10_init_1 (Nat.le_of_ble_eq_true rfl) (Nat.le_of_ble_eq_true rfl) ?_
  refine W.eq (g2 := F0 m 4 ls []) rfl ?_
  refine lv_aload_n hx hb dX10_init_4 rfl (lv_at hl 0 rfl) ?_
  refine lv_iconst (v := 4) hx hb dX10_init_5 (by decide) ?_
  refine m_newa' (N0 := P + 1) (atype := .int) hx hb hts hW (m_suflen (n := 1) hP rfl) hz 0 ka_int (Or.inl ⟨rfl, rfl⟩) (N := 4) (lay' := pre ++ (S_50 P)) (List.append_assoc _ _ _) (by decide) (by decide) (by decide) (Nat.le_of_ble_eq_true rfl) (Nat.le_of_ble_eq_true rfl) dX10_init_6 (fun H hW hz => ?_)
  rw [m_us_z hμ [] 1 rfl] at hW
  have hW : m_W D cy s b (pre ++ (S_50 P)) (m_us P μ []) H _ := hW
  have hz : H.size = b + (P + 2) := hz
  refine lv_dup hx hb dX10_init_8 rfl ?_
  refine lv_iconst (v := 0) hx hb dX10_init_9 (by decide) ?_
  refine lv_bipush (v := 100) hx hb dX10_init_10 (by decide) ?_
  refine m_iast hx hb hW (P + 1) (m_suf hP rfl) (vp_in_iff.mpr ⟨by decide, by decide⟩) dX10_init_12 (fun H locs hW hz1 => ?_)
  have hz := hz1.trans hz
  rw [show (0 : Int32).toNatClampNeg = 0 from by decide, m_us_snoc] at hW
  have hW : m_W D cy s b (pre ++ (S_50 P)) (m_us P μ U_4) H _ := hW
  refine lv_dup hx hb dX10_init_13 rfl ?_
  refine lv_iconst (v := 1) hx hb dX10_init_14 (by decide) ?_
  refine lv_bipush (v := 100) hx hb dX10_init_15 (by decide) ?_
  refine m_iast hx hb hW (P + 1) (m_suf hP rfl) (vp_in_iff.mpr ⟨by decide, by decide⟩) dX10_init_17 (fun H locs hW hz1 => ?_)
  have hz := hz1.trans hz
  rw [show (1 : Int32).toNatClampNeg = 1 from by decide, m_us_snoc] at hW
  have hW : m_W D cy s b (pre ++ (S_50 P)) (m_us P μ U_5) H _ := hW
  refine lv_dup hx hb dX10_init_18 rfl ?_
  refine lv_iconst (v := 2) hx hb dX10_init_19 (by decide) ?_
  refine lv_bipush (v := 100) hx hb dX10_init_20 (by decide) ?_
  refine m_iast hx hb hW (P + 1) (m_suf hP rfl) (vp_in_iff.mpr ⟨by decide, by decide⟩) dX10_init_22 (fun H locs hW hz1 => ?_)
  have hz := hz1.trans hz
  rw [show (2 : Int32).toNatClampNeg = 2 from by decide, m_us_snoc] at hW
  have hW : m_W D cy s b (pre ++ (S_50 P)) (m_us P μ U_6) H _ := hW
  refine lv_dup hx hb dX10_init_23 rfl ?_
  refine lv_iconst (v := 3) hx hb dX10_init_24 (by decide) ?_
  refine lv_bipush (v := 100) hx hb dX10_init_25 (by decide) ?_
  refine m_iast hx hb hW (P + 1) (m_suf hP rfl) (vp_in_iff.mpr ⟨by decide, by decide⟩) dX10_init_27 (fun H locs hW hz1 => ?_)
  have hz := hz1.trans hz
  rw [show (3 : Int32).toNatClampNeg = 3 from by decide, m_us_snoc] at hW
  have hW : m_W D cy s b (pre ++ (S_50 P)) (m_us P μ U_7) H _ := hW
  refine m_putr hx hb hts hown hW (P + 0) 0 (P + 1) (m_suf hP rfl) rfl cw_10 tyX10_ok nmX10 rfl (by decide) k_X10_9 ⟨rfl, hnm, rfl⟩ rfl rfl (lay' := pre ++ (S_51 P)) (m_sufset hP rfl) dX10_init_28 (fun H locs hW hz1 => ?_)
  have hz := hz1.trans hz
  have hW : m_W D cy s b (pre ++ (S_51 P)) (m_us P μ U_7) H _ := hW
  refine lv_aload_n hx hb dX10_init_31 rfl (lv_at hl 0 rfl) ?_
  refine lv_iconst (v := 4) hx hb dX10_init_32 (by decide) ?_
  refine m_newa' (N0 := P + 2) (atype := .int) hx hb hts hW (m_suflen (n := 2) hP rfl) hz 0 ka_int (Or.inl ⟨rfl, rfl⟩) (N := 4) (lay' := pre ++ (S_52 P)) (List.append_assoc _ _ _) (by decide) (by decide) (by decide) (Nat.le_of_ble_eq_true rfl) (Nat.le_of_ble_eq_true rfl) dX10_init_33 (fun H hW hz => ?_)
  rw [m_us_z hμ U_7 2 rfl] at hW
  have hW : m_W D cy s b (pre ++ (S_52 P)) (m_us P μ U_7) H _ := hW
  have hz : H.size = b + (P + 3) := hz
  refine lv_dup hx hb dX10_init_35 rfl ?_
  refine lv_iconst (v := 0) hx hb dX10_init_36 (by decide) ?_
  refine lv_bipush (v := 10) hx hb dX10_init_37 (by decide) ?_
  refine m_iast hx hb hW (P + 2) (m_suf hP rfl) (vp_in_iff.mpr ⟨by decide, by decide⟩) dX10_init_39 (fun H locs hW hz1 => ?_)
  have hz := hz1.trans hz
  rw [show (0 : Int32).toNatClampNeg = 0 from by decide, m_us_snoc] at hW
  have hW : m_W D cy s b (pre ++ (S_52 P)) (m_us P μ U_8) H _ := hW
  refine lv_dup hx hb dX10_init_40 rfl ?_
  refine lv_iconst (v := 1) hx hb dX10_init_41 (by decide) ?_
  refine lv_bipush (v := 10) hx hb dX10_init_42 (by decide) ?_
  refine m_iast hx hb hW (P + 2) (m_suf hP rfl) (vp_in_iff.mpr ⟨by decide, by decide⟩) dX10_init_44 (fun H locs hW hz1 => ?_)
  have hz := hz1.trans hz
  rw [show (1 : Int32).toNatClampNeg = 1 from by decide, m_us_snoc] at hW
  have hW : m_W D cy s b (pre ++ (S_52 P)) (m_us P μ U_9) H _ := hW
  refine lv_dup hx hb dX10_init_45 rfl ?_
  refine lv_iconst (v := 2) hx hb dX10_init_46 (by decide) ?_
  refine lv_bipush (v := 10) hx hb dX10_init_47 (by decide) ?_
  refine m_iast hx hb hW (P + 2) (m_suf hP rfl) (vp_in_iff.mpr ⟨by decide, by decide⟩) dX10_init_49 (fun H locs hW hz1 => ?_)
  have hz := hz1.trans hz
  rw [show (2 : Int32).toNatClampNeg = 2 from by decide, m_us_snoc] at hW
  have hW : m_W D cy s b (pre ++ (S_52 P)) (m_us P μ U_10) H _ := hW
  refine lv_dup hx hb dX10_init_50 rfl ?_
  refine lv_iconst (v := 3) hx hb dX10_init_51 (by decide) ?_
  refine lv_bipush (v := 10) hx hb dX10_init_52 (by decide) ?_
  refine m_iast hx hb hW (P + 2) (m_suf hP rfl) (vp_in_iff.mpr ⟨by decide, by decide⟩) dX10_init_54 (fun H locs hW hz1 => ?_)
  have hz := hz1.trans hz
  rw [show (3 : Int32).toNatClampNeg = 3 from by decide, m_us_snoc] at hW
  have hW : m_W D cy s b (pre ++ (S_52 P)) (m_us P μ U_11) H _ := hW
  refine m_putr hx hb hts hown hW (P + 0) 1 (P + 2) (m_suf hP rfl) rfl cw_10 tyX10_ok nmX10 rfl (by decide) k_X10_15 ⟨rfl, hnm, rfl⟩ rfl rfl (lay' := pre ++ (S_53 P)) (m_sufset hP rfl) dX10_init_55 (fun H locs hW hz1 => ?_)
  have hz := hz1.trans hz
  have hW : m_W D cy s b (pre ++ (S_53 P)) (m_us P μ U_11) H _ := hW
  refine lv_aload_n hx hb dX10_init_58 rfl (lv_at hl 0 rfl) ?_
  refine lv_iconst (v := 4) hx hb dX10_init_59 (by decide) ?_
  refine m_newa' (N0 := P + 3) (atype := .int) hx hb hts hW (m_suflen (n := 3) hP rfl) hz 0 ka_int (Or.inl ⟨rfl, rfl⟩) (N := 4) (lay' := pre ++ (S_54 P)) (List.append_assoc _ _ _) (by decide) (by decide) (by decide) (Nat.le_of_ble_eq_true rfl) (Nat.le_of_ble_eq_true rfl) dX10_init_60 (fun H hW hz => ?_)
  rw [m_us_z hμ U_11 3 rfl] at hW
  have hW : m_W D cy s b (pre ++ (S_54 P)) (m_us P μ U_11) H _ := hW
  have hz : H.size = b + (P + 4) := hz
  refine lv_dup hx hb dX10_init_62 rfl ?_
  refine lv_iconst (v := 0) hx hb dX10_init_63 (by decide) ?_
  refine lv_iconst (v := 2) hx hb dX10_init_64 (by decide) ?_
  refine m_iast hx hb hW (P + 3) (m_suf hP rfl) (vp_in_iff.mpr ⟨by decide, by decide⟩) dX10_init_65 (fun H locs hW hz1 => ?_)
  have hz := hz1.trans hz
  rw [show (0 : Int32).toNatClampNeg = 0 from by decide, m_us_snoc] at hW
  have hW : m_W D cy s b (pre ++ (S_54 P)) (m_us P μ U_12) H _ := hW
  refine lv_dup hx hb dX10_init_66 rfl ?_
  refine lv_iconst (v := 1) hx hb dX10_init_67 (by decide) ?_
  refine lv_iconst (v := 2) hx hb dX10_init_68 (by decide) ?_
  refine m_iast hx hb hW (P + 3) (m_suf hP rfl) (vp_in_iff.mpr ⟨by decide, by decide⟩) dX10_init_69 (fun H locs hW hz1 => ?_)
  have hz := hz1.trans hz
  rw [show (1 : Int32).toNatClampNeg = 1 from by decide, m_us_snoc] at hW
  have hW : m_W D cy s b (pre ++ (S_54 P)) (m_us P μ U_13) H _ := hW
  refine lv_dup hx hb dX10_init_70 rfl ?_
  refine lv_iconst (v := 2) hx hb dX10_init_71 (by decide) ?_
  refine lv_iconst (v := 2) hx hb dX10_init_72 (by decide) ?_
  refine m_iast hx hb hW (P + 3) (m_suf hP rfl) (vp_in_iff.mpr ⟨by decide, by decide⟩) dX10_init_73 (fun H locs hW hz1 => ?_)
  have hz := hz1.trans hz
  rw [show (2 : Int32).toNatClampNeg = 2 from by decide, m_us_snoc] at hW
  have hW : m_W D cy s b (pre ++ (S_54 P)) (m_us P μ U_14) H _ := hW
  refine lv_dup hx hb dX10_init_74 rfl ?_
  refine lv_iconst (v := 3) hx hb dX10_init_75 (by decide) ?_
  refine lv_iconst (v := 2) hx hb dX10_init_76 (by decide) ?_
  refine m_iast hx hb hW (P + 3) (m_suf hP rfl) (vp_in_iff.mpr ⟨by decide, by decide⟩) dX10_init_77 (fun H locs hW hz1 => ?_)
  have hz := hz1.trans hz
  rw [show (3 : Int32).toNatClampNeg = 3 from by decide, m_us_snoc] at hW
  have hW : m_W D cy s b (pre ++ (S_54 P)) (m_us P μ U_15) H _ := hW
  refine m_putr hx hb hts hown hW (P + 0) 2 (P + 3) (m_suf hP rfl) rfl cw_10 tyX10_ok nmX10 rfl (by decide) k_X10_18 ⟨rfl, hnm, rfl⟩ rfl rfl (lay' := pre ++ (S_55 P)) (m_sufset hP rfl) dX10_init_78 (fun H locs hW hz1 => ?_)
  have hz := hz1.trans hz
  have hW : m_W D cy s b (pre ++ (S_55 P)) (m_us P μ U_15) H _ := hW
  refine lv_aload_n hx hb dX10_init_81 rfl (lv_at hl 0 rfl) ?_
  refine lv_iconst (v := 4) hx hb dX10_init_82 (by decide) ?_
  refine m_newa' (N0 := P + 4) (atype := .int) hx hb hts hW (m_suflen (n := 4) hP rfl) hz 0 ka_int (Or.inl ⟨rfl, rfl⟩) (N := 4) (lay' := pre ++ (S_56 P)) (List.append_assoc _ _ _) (by decide) (by decide) (by decide) (Nat.le_of_ble_eq_true rfl) (Nat.le_of_ble_eq_true rfl) dX10_init_83 (fun H hW hz => ?_)
  rw [m_us_z hμ U_15 4 rfl] at hW
  have hW : m_W D cy s b (pre ++ (S_56 P)) (m_us P μ U_15) H _ := hW
  have hz : H.size = b + (P + 5) := hz
  refine lv_dup hx hb dX10_init_85 rfl ?_
  refine lv_iconst (v := 0) hx hb dX10_init_86 (by decide) ?_
  refine lv_bipush (v := 60) hx hb dX10_init_87 (by decide) ?_
  refine m_iast hx hb hW (P + 4) (m_suf hP rfl) (vp_in_iff.mpr ⟨by decide, by decide⟩) dX10_init_89 (fun H locs hW hz1 => ?_)
  have hz := hz1.trans hz
  rw [show (0 : Int32).toNatClampNeg = 0 from by decide, m_us_snoc] at hW
  have hW : m_W D cy s b (pre ++ (S_56 P)) (m_us P μ U_16) H _ := hW
  refine lv_dup hx hb dX10_init_90 rfl ?_
  refine lv_iconst (v := 1) hx hb dX10_init_91 (by decide) ?_
  refine lv_bipush (v := 60) hx hb dX10_init_92 (by decide) ?_
  refine m_iast hx hb hW (P + 4) (m_suf hP rfl) (vp_in_iff.mpr ⟨by decide, by decide⟩) dX10_init_94 (fun H locs hW hz1 => ?_)
  have hz := hz1.trans hz
  rw [show (1 : Int32).toNatClampNeg = 1 from by decide, m_us_snoc] at hW
  have hW : m_W D cy s b (pre ++ (S_56 P)) (m_us P μ U_17) H _ := hW
  refine lv_dup hx hb dX10_init_95 rfl ?_
  refine lv_iconst (v := 2) hx hb dX10_init_96 (by decide) ?_
  refine lv_bipush (v := 60) hx hb dX10_init_97 (by decide) ?_
  refine m_iast hx hb hW (P + 4) (m_suf hP rfl) (vp_in_iff.mpr ⟨by decide, by decide⟩) dX10_init_99 (fun H locs hW hz1 => ?_)
  have hz := hz1.trans hz
  rw [show (2 : Int32).toNatClampNeg = 2 from by decide, m_us_snoc] at hW
  have hW : m_W D cy s b (pre ++ (S_56 P)) (m_us P μ U_18) H _ := hW
  refine lv_dup hx hb dX10_init_100 rfl ?_
  refine lv_iconst (v := 3) hx hb dX10_init_101 (by decide) ?_
  refine lv_bipush (v := 60) hx hb dX10_init_102 (by decide) ?_
  refine m_iast hx hb hW (P + 4) (m_suf hP rfl) (vp_in_iff.mpr ⟨by decide, by decide⟩) dX10_init_104 (fun H locs hW hz1 => ?_)
  have hz := hz1.trans hz
  rw [show (3 : Int32).toNatClampNeg = 3 from by decide, m_us_snoc] at hW
  have hW : m_W D cy s b (pre ++ (S_56 P)) (m_us P μ U_19) H _ := hW
  refine m_putr hx hb hts hown hW (P + 0) 3 (P + 4) (m_suf hP rfl) rfl cw_10 tyX10_ok nmX10 rfl (by decide) k_X10_21 ⟨rfl, hnm, rfl⟩ rfl rfl (lay' := pre ++ (S_57 P)) (m_sufset hP rfl) dX10_init_105 (fun H locs hW hz1 => ?_)
  have hz := hz1.trans hz
  have hW : m_W D cy s b (pre ++ (S_57 P)) (m_us P μ U_19) H _ := hW
  refine lv_aload_n hx hb dX10_init_108 rfl (lv_at hl 0 rfl) ?_
  refine lv_bipush (v := 100) hx hb dX10_init_109 (by decide) ?_
  refine m_puti hx hb hts hown hW (P + 0) 4 (m_suf hP rfl) rfl cw_10 tyX10_ok nmX10 rfl (by decide) k_X10_24 rfl rfl rfl dX10_init_111 (fun H locs hW hz1 => ?_)
  have hz := hz1.trans hz
  rw [m_us_snoc] at hW
  have hW : m_W D cy s b (pre ++ (S_57 P)) (m_us P μ U_20) H _ := hW
  refine lv_aload_n hx hb dX10_init_114 rfl (lv_at hl 0 rfl) ?_
  refine lv_iconst (v := 1) hx hb dX10_init_115 (by decide) ?_
  refine m_puti hx hb hts hown hW (P + 0) 5 (m_suf hP rfl) rfl cw_10 tyX10_ok nmX10 rfl (by decide) k_X10_28 rfl (by decide) rfl dX10_init_116 (fun H locs hW hz1 => ?_)
  have hz := hz1.trans hz
  rw [m_us_snoc] at hW
  have hW : m_W D cy s b (pre ++ (S_57 P)) (m_us P μ U_21) H _ := hW
  refine lv_aload_n hx hb dX10_init_119 rfl (lv_at hl 0 rfl) ?_
  refine lv_iconst (v := 4) hx hb dX10_init_120 (by decide) ?_
  refine m_puti hx hb hts hown hW (P + 0) 6 (m_suf hP rfl) rfl cw_10 tyX10_ok nmX10 rfl (by decide) k_X10_32 rfl rfl rfl dX10_init_121 (fun H locs hW hz1 => ?_)
  have hz := hz1.trans hz
  rw [m_us_snoc] at hW
  have hW : m_W D cy s b (pre ++ (S_57 P)) (m_us P μ U_22) H _ := hW
  refine lv_aload_n hx hb dX10_init_124 rfl (lv_at hl 0 rfl) ?_
  refine lv_bipush (v := 8) hx hb dX10_init_125 (by decide) ?_
  refine m_newq' (N0 := P + 5) hx hb hts hown hW (m_suflen (n := 5) hP rfl) hz k_X10_35 (N := 8) (lay' := pre ++ (S_58 P)) (List.append_assoc _ _ _) (by decide) (by decide) (by decide) (Nat.le_of_ble_eq_true rfl) (Nat.le_of_ble_eq_true rfl) dX10_init_127 (fun H hW hz => ?_)
  rw [m_us_z hμ U_22 5 rfl] at hW
  have hW : m_W D cy s b (pre ++ (S_58 P)) (m_us P μ U_22) H _ := hW
  have hz : H.size = b + (P + 6) := hz
  refine m_putr hx hb hts hown hW (P + 0) 7 (P + 5) (m_suf hP rfl) rfl cw_10 tyX10_ok nmX10 rfl (by decide) k_X10_37 ⟨rfl, hnm, rfl⟩ rfl rfl (lay' := pre ++ (S_59 P)) (m_sufset hP rfl) dX10_init_130 (fun H locs hW hz1 => ?_)
  have hz := hz1.trans hz
  have hW : m_W D cy s b (pre ++ (S_59 P)) (m_us P μ U_22) H _ := hW
  refine lv_iconst (v := 0) hx hb dX10_init_133 (by decide) ?_
  refine lv_istore_n (lv' := [(1, .int 0), (0, .ref (b + (P + 0)))]) hx hb dX10_init_134 rfl hl (by decide) rfl (fun ls hl => ?_)
  refine lv_iload_n hx hb dX10_init_135 rfl (lv_at hl 0 rfl) ?_
  refine lv_bipush (v := 8) hx hb dX10_init_136 (by decide) ?_
  refine lv_icmp_ge (tgt := 163) hx hb dX10_init_138 (by decide) (fun c => absurd c (by decide)) (fun _ => ?_)
  refine lv_aload_n hx hb dX10_init_141 rfl (lv_at hl 1 rfl) ?_
  refine m_getr hx hb hts hown hW (P + 0) 7 (P + 5) (m_suf hP rfl) rfl cw_10 rfl (by decide) k_X10_37 dX10_init_142 ?_
  refine lv_iload_n hx hb dX10_init_145 rfl (lv_at hl 0 rfl) ?_
  refine m_new' (N0 := P + 6) hx hb hts hown hW (m_suflen (n := 6) hP rfl) hz cw_5 tyX5_ok k_X10_35 ki_X5 kn_X5 rfl f0_5 (lay' := pre ++ (S_60 P)) (List.append_assoc _ _ _) f0_5_ok (Nat.le_of_ble_eq_true rfl) (Nat.le_of_ble_eq_true rfl) dX10_init_146 (fun H hW hz => ?_)
  rw [m_us_z hμ U_22 6 rfl] at hW
  have hW : m_W D cy s b (pre ++ (S_60 P)) (m_us P μ U_22) H _ := hW
  have hz : H.size = b + (P + 7) := hz
  refine lv_dup hx hb dX10_init_149 rfl ?_
  refine lv_sipush (v := 800) hx hb dX10_init_150 (by decide) ?_
  refine m_aZ hW (m_runI (As := [.int 800]) (rest := [.ref (b + (P + 6)), .int 0, .ref (b + (P + 5))]) hx hb hml hown hts hW (hz.trans (congrArg (fun z => b + z) (m_suflen (n := 7) hP rfl).symm)) (P + 6) (c_X5_init l D cy b (pre ++ (S_59 P)) (P + 6) (m_suflen (n := 6) hP rfl) _ (pre ++ (S_61 P)) ((List.append_assoc _ _ _).symm) (m_us P μ U_22) (m_us_zr hμ U_22 6 rfl) 800 800 (by decide) (by decide) (List.append_assoc pre (S_59 P) [.inl (5, [P + 7 + 3, 0]), .inr (0, 800, [])]).symm) mc_X5_init k_X10_43 rfl hl.1 rfl (Nat.le_of_ble_eq_true rfl) dX10_init_153 ⟨Nat.le_of_ble_eq_true rfl, Nat.le_of_ble_eq_true rfl⟩ ⟨Nat.le_of_ble_eq_true rfl, Nat.le_of_ble_eq_true rfl⟩) (fun ν H locs hν hW hz => ?_)
  rw [hν] at hW
  have hW : m_W D cy s b (pre ++ (S_61 P)) (m_us P μ U_22) H _ := hW
  have hz : H.size = b + (P + 8) := hz.trans (congrArg (fun z => b + z) (m_suflen (n := 8) hP rfl))
  refine m_aast hx hb hW (P + 5) (P + 6) (m_suf hP rfl) (m_suf hP rfl) (vp_in_iff.mpr ⟨by decide, by decide⟩) rfl (lay' := pre ++ (S_62 P)) (m_sufset hP rfl) dX10_init_156 (fun H locs hW hz1 => ?_)
  have hz := hz1.trans hz
  have hW : m_W D cy s b (pre ++ (S_62 P)) (m_us P μ U_22) H _ := hW
  refine lv_iinc (v := 1) (lv' := [(1, .int 1), (0, .ref (b + (P + 0)))]) hx hb dX10_init_157 hl (k := 0) rfl (by decide) (by decide) rfl (fun ls hl => ?_)
  refine lv_goto (tgt := 135) hx hb dX10_init_160 (by decide) ?_
  refine lv_iload_n hx hb dX10_init_135 rfl (lv_at hl 0 rfl) ?_
  refine lv_bipush (v := 8) hx hb dX10_init_136 (by decide) ?_
  refine lv_icmp_ge (tgt := 163) hx hb dX10_init_138 (by decide) (fun c => absurd c (by decide)) (fun _ => ?_)
  refine lv_aload_n hx hb dX10_init_141 rfl (lv_at hl 1 rfl) ?_
  refine m_getr hx hb hts hown hW (P + 0) 7 (P + 5) (m_suf hP rfl) rfl cw_10 rfl (by decide) k_X10_37 dX10_init_142 ?_
  refine lv_iload_n hx hb dX10_init_145 rfl (lv_at hl 0 rfl) ?_
  refine m_new' (N0 := P + 8) hx hb hts hown hW (m_suflen (n := 8) hP rfl) hz cw_5 tyX5_ok k_X10_35 ki_X5 kn_X5 rfl f0_5 (lay' := pre ++ (S_63 P)) (List.append_assoc _ _ _) f0_5_ok (Nat.le_of_ble_eq_true rfl) (Nat.le_of_ble_eq_true rfl) dX10_init_146 (fun H hW hz => ?_)
  rw [m_us_z hμ U_22 8 rfl] at hW
  have hW : m_W D cy s b (pre ++ (S_63 P)) (m_us P μ U_22) H _ := hW
  have hz : H.size = b + (P + 9) := hz
  refine lv_dup hx hb dX10_init_149 rfl ?_
  refine lv_sipush (v := 800) hx hb dX10_init_150 (by decide) ?_
  refine m_aZ hW (m_runI (As := [.int 800]) (rest := [.ref (b + (P + 8)), .int 1, .ref (b + (P + 5))]) hx hb hml hown hts hW (hz.trans (congrArg (fun z => b + z) (m_suflen (n := 9) hP rfl).symm)) (P + 8) (c_X5_init l D cy b (pre ++ (S_62 P)) (P + 8) (m_suflen (n := 8) hP rfl) _ (pre ++ (S_64 P)) ((List.append_assoc _ _ _).symm) (m_us P μ U_22) (m_us_zr hμ U_22 8 rfl) 800 800 (by decide) (by decide) (List.append_assoc pre (S_62 P) [.inl (5, [P + 9 + 3, 0]), .inr (0, 800, [])]).symm) mc_X5_init k_X10_43 rfl hl.1 rfl (Nat.le_of_ble_eq_true rfl) dX10_init_153 ⟨Nat.le_of_ble_eq_true rfl, Nat.le_of_ble_eq_true rfl⟩ ⟨Nat.le_of_ble_eq_true rfl, Nat.le_of_ble_eq_true rfl⟩) (fun ν H locs hν hW hz => ?_)
  rw [hν] at hW
  have hW : m_W D cy s b (pre ++ (S_64 P)) (m_us P μ U_22) H _ := hW
  have hz : H.size = b + (P + 10) := hz.trans (congrArg (fun z => b + z) (m_suflen (n := 10) hP rfl))
  refine m_aast hx hb hW (P + 5) (P + 8) (m_suf hP rfl) (m_suf hP rfl) (vp_in_iff.mpr ⟨by decide, by decide⟩) rfl (lay' := pre ++ (S_65 P)) (m_sufset hP rfl) dX10_init_156 (fun H locs hW hz1 => ?_)
  have hz := hz1.trans hz
  have hW : m_W D cy s b (pre ++ (S_65 P)) (m_us P μ U_22) H _ := hW
  refine lv_iinc (v := 2) (lv' := [(1, .int 2), (0, .ref (b + (P + 0)))]) hx hb dX10_init_157 hl (k := 0) rfl (by decide) (by decide) rfl (fun ls hl => ?_)
  refine lv_goto (tgt := 135) hx hb dX10_init_160 (by decide) ?_
  refine lv_iload_n hx hb dX10_init_135 rfl (lv_at hl 0 rfl) ?_
  refine lv_bipush (v := 8) hx hb dX10_init_136 (by decide) ?_
  refine lv_icmp_ge (tgt := 163) hx hb dX10_init_138 (by decide) (fun c => absurd c (by decide)) (fun _ => ?_)
  refine lv_aload_n hx hb dX10_init_141 rfl (lv_at hl 1 rfl) ?_
  refine m_getr hx hb hts hown hW (P + 0) 7 (P + 5) (m_suf hP rfl) rfl cw_10 rfl (by decide) k_X10_37 dX10_init_142 ?_
  refine lv_iload_n hx hb dX10_init_145 rfl (lv_at hl 0 rfl) ?_
  refine m_new' (N0 := P + 10) hx hb hts hown hW (m_suflen (n := 10) hP rfl) hz cw_5 tyX5_ok k_X10_35 ki_X5 kn_X5 rfl f0_5 (lay' := pre ++ (S_66 P)) (List.append_assoc _ _ _) f0_5_ok (Nat.le_of_ble_eq_true rfl) (Nat.le_of_ble_eq_true rfl) dX10_init_146 (fun H hW hz => ?_)
  rw [m_us_z hμ U_22 10 rfl] at hW
  have hW : m_W D cy s b (pre ++ (S_66 P)) (m_us P μ U_22) H _ := hW
  have hz : H.size = b + (P + 11) := hz
  refine lv_dup hx hb dX10_init_149 rfl ?_
  refine lv_sipush (v := 800) hx hb dX10_init_150 (by decide) ?_
  refine m_aZ hW (m_runI (As := [.int 800]) (rest := [.ref (b + (P + 10)), .int 2, .ref (b + (P + 5))]) hx hb hml hown hts hW (hz.trans (congrArg (fun z => b + z) (m_suflen (n := 11) hP rfl).symm)) (P + 10) (c_X5_init l D cy b (pre ++ (S_65 P)) (P + 10) (m_suflen (n := 10) hP rfl) _ (pre ++ (S_67 P)) ((List.append_assoc _ _ _).symm) (m_us P μ U_22) (m_us_zr hμ U_22 10 rfl) 800 800 (by decide) (by decide) (List.append_assoc pre (S_65 P) [.inl (5, [P + 11 + 3, 0]), .inr (0, 800, [])]).symm) mc_X5_init k_X10_43 rfl hl.1 rfl (Nat.le_of_ble_eq_true rfl) dX10_init_153 ⟨Nat.le_of_ble_eq_true rfl, Nat.le_of_ble_eq_true rfl⟩ ⟨Nat.le_of_ble_eq_true rfl, Nat.le_of_ble_eq_true rfl⟩) (fun ν H locs hν hW hz => ?_)
  rw [hν] at hW
  have hW : m_W D cy s b (pre ++ (S_67 P)) (m_us P μ U_22) H _ := hW
  have hz : H.size = b + (P + 12) := hz.trans (congrArg (fun z => b + z) (m_suflen (n := 12) hP rfl))
  refine m_aast hx hb hW (P + 5) (P + 10) (m_suf hP rfl) (m_suf hP rfl) (vp_in_iff.mpr ⟨by decide, by decide⟩) rfl (lay' := pre ++ (S_68 P)) (m_sufset hP rfl) dX10_init_156 (fun H locs hW hz1 => ?_)
  have hz := hz1.trans hz
  have hW : m_W D cy s b (pre ++ (S_68 P)) (m_us P μ U_22) H _ := hW
  refine lv_iinc (v := 3) (lv' := [(1, .int 3), (0, .ref (b + (P + 0)))]) hx hb dX10_init_157 hl (k := 0) rfl (by decide) (by decide) rfl (fun ls hl => ?_)
  refine lv_goto (tgt := 135) hx hb dX10_init_160 (by decide) ?_
  refine lv_iload_n hx hb dX10_init_135 rfl (lv_at hl 0 rfl) ?_
  refine lv_bipush (v := 8) hx hb dX10_init_136 (by decide) ?_
  refine lv_icmp_ge (tgt := 163) hx hb dX10_init_138 (by decide) (fun c => absurd c (by decide)) (fun _ => ?_)
  refine lv_aload_n hx hb dX10_init_141 rfl (lv_at hl 1 rfl) ?_
  refine m_getr hx hb hts hown hW (P + 0) 7 (P + 5) (m_suf hP rfl) rfl cw_10 rfl (by decide) k_X10_37 dX10_init_142 ?_
  refine lv_iload_n hx hb dX10_init_145 rfl (lv_at hl 0 rfl) ?_
  refine m_new' (N0 := P + 12) hx hb hts hown hW (m_suflen (n := 12) hP rfl) hz cw_5 tyX5_ok k_X10_35 ki_X5 kn_X5 rfl f0_5 (lay' := pre ++ (S_69 P)) (List.append_assoc _ _ _) f0_5_ok (Nat.le_of_ble_eq_true rfl) (Nat.le_of_ble_eq_true rfl) dX10_init_146 (fun H hW hz => ?_)
  rw [m_us_z hμ U_22 12 rfl] at hW
  have hW : m_W D cy s b (pre ++ (S_69 P)) (m_us P μ U_22) H _ := hW
  have hz : H.size = b + (P + 13) := hz
  refine lv_dup hx hb dX10_init_149 rfl ?_
  refine lv_sipush (v := 800) hx hb dX10_init_150 (by decide) ?_
  refine m_aZ hW (m_runI (As := [.int 800]) (rest := [.ref (b + (P + 12)), .int 3, .ref (b + (P + 5))]) hx hb hml hown hts hW (hz.trans (congrArg (fun z => b + z) (m_suflen (n := 13) hP rfl).symm)) (P + 12) (c_X5_init l D cy b (pre ++ (S_68 P)) (P + 12) (m_suflen (n := 12) hP rfl) _ (pre ++ (S_70 P)) ((List.append_assoc _ _ _).symm) (m_us P μ U_22) (m_us_zr hμ U_22 12 rfl) 800 800 (by decide) (by decide) (List.append_assoc pre (S_68 P) [.inl (5, [P + 13 + 3, 0]), .inr (0, 800, [])]).symm) mc_X5_init k_X10_43 rfl hl.1 rfl (Nat.le_of_ble_eq_true rfl) dX10_init_153 ⟨Nat.le_of_ble_eq_true rfl, Nat.le_of_ble_eq_true rfl⟩ ⟨Nat.le_of_ble_eq_true rfl, Nat.le_of_ble_eq_true rfl⟩) (fun ν H locs hν hW hz => ?_)
  rw [hν] at hW
  have hW : m_W D cy s b (pre ++ (S_70 P)) (m_us P μ U_22) H _ := hW
  have hz : H.size = b + (P + 14) := hz.trans (congrArg (fun z => b + z) (m_suflen (n := 14) hP rfl))
  refine m_aast hx hb hW (P + 5) (P + 12) (m_suf hP rfl) (m_suf hP rfl) (vp_in_iff.mpr ⟨by decide, by decide⟩) rfl (lay' := pre ++ (S_71 P)) (m_sufset hP rfl) dX10_init_156 (fun H locs hW hz1 => ?_)
  have hz := hz1.trans hz
  have hW : m_W D cy s b (pre ++ (S_71 P)) (m_us P μ U_22) H _ := hW
  refine lv_iinc (v := 4) (lv' := [(1, .int 4), (0, .ref (b + (P + 0)))]) hx hb dX10_init_157 hl (k := 0) rfl (by decide) (by decide) rfl (fun ls hl => ?_)
  refine lv_goto (tgt := 135) hx hb dX10_init_160 (by decide) ?_
  refine lv_iload_n hx hb dX10_init_135 rfl (lv_at hl 0 rfl) ?_
  refine lv_bipush (v := 8) hx hb dX10_init_136 (by decide) ?_
  refine lv_icmp_ge (tgt := 163) hx hb dX10_init_138 (by decide) (fun c => absurd c (by decide)) (fun _ => ?_)
  refine lv_aload_n hx hb dX10_init_141 rfl (lv_at hl 1 rfl) ?_
  refine m_getr hx hb hts hown hW (P + 0) 7 (P + 5) (m_suf hP rfl) rfl cw_10 rfl (by decide) k_X10_37 dX10_init_142 ?_
  refine lv_iload_n hx hb dX10_init_145 rfl (lv_at hl 0 rfl) ?_
  refine m_new' (N0 := P + 14) hx hb hts hown hW (m_suflen (n := 14) hP rfl) hz cw_5 tyX5_ok k_X10_35 ki_X5 kn_X5 rfl f0_5 (lay' := pre ++ (S_72 P)) (List.append_assoc _ _ _) f0_5_ok (Nat.le_of_ble_eq_true rfl) (Nat.le_of_ble_eq_true rfl) dX10_init_146 (fun H hW hz => ?_)
  rw [m_us_z hμ U_22 14 rfl] at hW
  have hW : m_W D cy s b (pre ++ (S_72 P)) (m_us P μ U_22) H _ := hW
  have hz : H.size = b + (P + 15) := hz
  refine lv_dup hx hb dX10_init_149 rfl ?_
  refine lv_sipush (v := 800) hx hb dX10_init_150 (by decide) ?_
  refine m_aZ hW (m_runI (As := [.int 800]) (rest := [.ref (b + (P + 14)), .int 4, .ref (b + (P + 5))]) hx hb hml hown hts hW (hz.trans (congrArg (fun z => b + z) (m_suflen (n := 15) hP rfl).symm)) (P + 14) (c_X5_init l D cy b (pre ++ (S_71 P)) (P + 14) (m_suflen (n := 14) hP rfl) _ (pre ++ (S_73 P)) ((List.append_assoc _ _ _).symm) (m_us P μ U_22) (m_us_zr hμ U_22 14 rfl) 800 800 (by decide) (by decide) (List.append_assoc pre (S_71 P) [.inl (5, [P + 15 + 3, 0]), .inr (0, 800, [])]).symm) mc_X5_init k_X10_43 rfl hl.1 rfl (Nat.le_of_ble_eq_true rfl) dX10_init_153 ⟨Nat.le_of_ble_eq_true rfl, Nat.le_of_ble_eq_true rfl⟩ ⟨Nat.le_of_ble_eq_true rfl, Nat.le_of_ble_eq_true rfl⟩) (fun ν H locs hν hW hz => ?_)
  rw [hν] at hW
  have hW : m_W D cy s b (pre ++ (S_73 P)) (m_us P μ U_22) H _ := hW
  have hz : H.size = b + (P + 16) := hz.trans (congrArg (fun z => b + z) (m_suflen (n := 16) hP rfl))
  refine m_aast hx hb hW (P + 5) (P + 14) (m_suf hP rfl) (m_suf hP rfl) (vp_in_iff.mpr ⟨by decide, by decide⟩) rfl (lay' := pre ++ (S_74 P)) (m_sufset hP rfl) dX10_init_156 (fun H locs hW hz1 => ?_)
  have hz := hz1.trans hz
  have hW : m_W D cy s b (pre ++ (S_74 P)) (m_us P μ U_22) H _ := hW
  refine lv_iinc (v := 5) (lv' := [(1, .int 5), (0, .ref (b + (P + 0)))]) hx hb dX10_init_157 hl (k := 0) rfl (by decide) (by decide) rfl (fun ls hl => ?_)
  refine lv_goto (tgt := 135) hx hb dX10_init_160 (by decide) ?_
  refine lv_iload_n hx hb dX10_init_135 rfl (lv_at hl 0 rfl) ?_
  refine lv_bipush (v := 8) hx hb dX10_init_136 (by decide) ?_
  refine lv_icmp_ge (tgt := 163) hx hb dX10_init_138 (by decide) (fun c => absurd c (by decide)) (fun _ => ?_)
  refine lv_aload_n hx hb dX10_init_141 rfl (lv_at hl 1 rfl) ?_
  refine m_getr hx hb hts hown hW (P + 0) 7 (P + 5) (m_suf hP rfl) rfl cw_10 rfl (by decide) k_X10_37 dX10_init_142 ?_
  refine lv_iload_n hx hb dX10_init_145 rfl (lv_at hl 0 rfl) ?_
  refine m_new' (N0 := P + 16) hx hb hts hown hW (m_suflen (n := 16) hP rfl) hz cw_5 tyX5_ok k_X10_35 ki_X5 kn_X5 rfl f0_5 (lay' := pre ++ (S_75 P)) (List.append_assoc _ _ _) f0_5_ok (Nat.le_of_ble_eq_true rfl) (Nat.le_of_ble_eq_true rfl) dX10_init_146 (fun H hW hz => ?_)
  rw [m_us_z hμ U_22 16 rfl] at hW
  have hW : m_W D cy s b (pre ++ (S_75 P)) (m_us P μ U_22) H _ := hW
  have hz : H.size = b + (P + 17) := hz
  refine lv_dup hx hb dX10_init_149 rfl ?_
  refine lv_sipush (v := 800) hx hb dX10_init_150 (by decide) ?_
  refine m_aZ hW (m_runI (As := [.int 800]) (rest := [.ref (b + (P + 16)), .int 5, .ref (b + (P + 5))]) hx hb hml hown hts hW (hz.trans (congrArg (fun z => b + z) (m_suflen (n := 17) hP rfl).symm)) (P + 16) (c_X5_init l D cy b (pre ++ (S_74 P)) (P + 16) (m_suflen (n := 16) hP rfl) _ (pre ++ (S_76 P)) ((List.append_assoc _ _ _).symm) (m_us P μ U_22) (m_us_zr hμ U_22 16 rfl) 800 800 (by decide) (by decide) (List.append_assoc pre (S_74 P) [.inl (5, [P + 17 + 3, 0]), .inr (0, 800, [])]).symm) mc_X5_init k_X10_43 rfl hl.1 rfl (Nat.le_of_ble_eq_true rfl) dX10_init_153 ⟨Nat.le_of_ble_eq_true rfl, Nat.le_of_ble_eq_true rfl⟩ ⟨Nat.le_of_ble_eq_true rfl, Nat.le_of_ble_eq_true rfl⟩) (fun ν H locs hν hW hz => ?_)
  rw [hν] at hW
  have hW : m_W D cy s b (pre ++ (S_76 P)) (m_us P μ U_22) H _ := hW
  have hz : H.size = b + (P + 18) := hz.trans (congrArg (fun z => b + z) (m_suflen (n := 18) hP rfl))
  refine m_aast hx hb hW (P + 5) (P + 16) (m_suf hP rfl) (m_suf hP rfl) (vp_in_iff.mpr ⟨by decide, by decide⟩) rfl (lay' := pre ++ (S_77 P)) (m_sufset hP rfl) dX10_init_156 (fun H locs hW hz1 => ?_)
  have hz := hz1.trans hz
  have hW : m_W D cy s b (pre ++ (S_77 P)) (m_us P μ U_22) H _ := hW
  refine lv_iinc (v := 6) (lv' := [(1, .int 6), (0, .ref (b + (P + 0)))]) hx hb dX10_init_157 hl (k := 0) rfl (by decide) (by decide) rfl (fun ls hl => ?_)
  refine lv_goto (tgt := 135) hx hb dX10_init_160 (by decide) ?_
  refine lv_iload_n hx hb dX10_init_135 rfl (lv_at hl 0 rfl) ?_
  refine lv_bipush (v := 8) hx hb dX10_init_136 (by decide) ?_
  refine lv_icmp_ge (tgt := 163) hx hb dX10_init_138 (by decide) (fun c => absurd c (by decide)) (fun _ => ?_)
  refine lv_aload_n hx hb dX10_init_141 rfl (lv_at hl 1 rfl) ?_
  refine m_getr hx hb hts hown hW (P + 0) 7 (P + 5) (m_suf hP rfl) rfl cw_10 rfl (by decide) k_X10_37 dX10_init_142 ?_
  refine lv_iload_n hx hb dX10_init_145 rfl (lv_at hl 0 rfl) ?_
  refine m_new' (N0 := P + 18) hx hb hts hown hW (m_suflen (n := 18) hP rfl) hz cw_5 tyX5_ok k_X10_35 ki_X5 kn_X5 rfl f0_5 (lay' := pre ++ (S_78 P)) (List.append_assoc _ _ _) f0_5_ok (Nat.le_of_ble_eq_true rfl) (Nat.le_of_ble_eq_true rfl) dX10_init_146 (fun H hW hz => ?_)
  rw [m_us_z hμ U_22 18 rfl] at hW
  have hW : m_W D cy s b (pre ++ (S_78 P)) (m_us P μ U_22) H _ := hW
  have hz : H.size = b + (P + 19) := hz
  refine lv_dup hx hb dX10_init_149 rfl ?_
  refine lv_sipush (v := 800) hx hb dX10_init_150 (by decide) ?_
  refine m_aZ hW (m_runI (As := [.int 800]) (rest := [.ref (b + (P + 18)), .int 6, .ref (b + (P + 5))]) hx hb hml hown hts hW (hz.trans (congrArg (fun z => b + z) (m_suflen (n := 19) hP rfl).symm)) (P + 18) (c_X5_init l D cy b (pre ++ (S_77 P)) (P + 18) (m_suflen (n := 18) hP rfl) _ (pre ++ (S_79 P)) ((List.append_assoc _ _ _).symm) (m_us P μ U_22) (m_us_zr hμ U_22 18 rfl) 800 800 (by decide) (by decide) (List.append_assoc pre (S_77 P) [.inl (5, [P + 19 + 3, 0]), .inr (0, 800, [])]).symm) mc_X5_init k_X10_43 rfl hl.1 rfl (Nat.le_of_ble_eq_true rfl) dX10_init_153 ⟨Nat.le_of_ble_eq_true rfl, Nat.le_of_ble_eq_true rfl⟩ ⟨Nat.le_of_ble_eq_true rfl, Nat.le_of_ble_eq_true rfl⟩) (fun ν H locs hν hW hz => ?_)
  rw [hν] at hW
  have hW : m_W D cy s b (pre ++ (S_79 P)) (m_us P μ U_22) H _ := hW
  have hz : H.size = b + (P + 20) := hz.trans (congrArg (fun z => b + z) (m_suflen (n := 20) hP rfl))
  refine m_aast hx hb hW (P + 5) (P + 18) (m_suf hP rfl) (m_suf hP rfl) (vp_in_iff.mpr ⟨by decide, by decide⟩) rfl (lay' := pre ++ (S_80 P)) (m_sufset hP rfl) dX10_init_156 (fun H locs hW hz1 => ?_)
  have hz := hz1.trans hz
  have hW : m_W D cy s b (pre ++ (S_80 P)) (m_us P μ U_22) H _ := hW
  refine lv_iinc (v := 7) (lv' := [(1, .int 7), (0, .ref (b + (P + 0)))]) hx hb dX10_init_157 hl (k := 0) rfl (by decide) (by decide) rfl (fun ls hl => ?_)
  refine lv_goto (tgt := 135) hx hb dX10_init_160 (by decide) ?_
  refine lv_iload_n hx hb dX10_init_135 rfl (lv_at hl 0 rfl) ?_
  refine lv_bipush (v := 8) hx hb dX10_init_136 (by decide) ?_
  refine lv_icmp_ge (tgt := 163) hx hb dX10_init_138 (by decide) (fun c => absurd c (by decide)) (fun _ => ?_)
  refine lv_aload_n hx hb dX10_init_141 rfl (lv_at hl 1 rfl) ?_
  refine m_getr hx hb hts hown hW (P + 0) 7 (P + 5) (m_suf hP rfl) rfl cw_10 rfl (by decide) k_X10_37 dX10_init_142 ?_
  refine lv_iload_n hx hb dX10_init_145 rfl (lv_at hl 0 rfl) ?_
  refine m_new' (N0 := P + 20) hx hb hts hown hW (m_suflen (n := 20) hP rfl) hz cw_5 tyX5_ok k_X10_35 ki_X5 kn_X5 rfl f0_5 (lay' := pre ++ (S_81 P)) (List.append_assoc _ _ _) f0_5_ok (Nat.le_of_ble_eq_true rfl) (Nat.le_of_ble_eq_true rfl) dX10_init_146 (fun H hW hz => ?_)
  rw [m_us_z hμ U_22 20 rfl] at hW
  have hW : m_W D cy s b (pre ++ (S_81 P)) (m_us P μ U_22) H _ := hW
  have hz : H.size = b + (P + 21) := hz
  refine lv_dup hx hb dX10_init_149 rfl ?_
  refine lv_sipush (v := 800) hx hb dX10_init_150 (by decide) ?_
  refine m_aZ hW (m_runI (As := [.int 800]) (rest := [.ref (b + (P + 20)), .int 7, .ref (b + (P + 5))]) hx hb hml hown hts hW (hz.trans (congrArg (fun z => b + z) (m_suflen (n := 21) hP rfl).symm)) (P + 20) (c_X5_init l D cy b (pre ++ (S_80 P)) (P + 20) (m_suflen (n := 20) hP rfl) _ (pre ++ (S_82 P)) ((List.append_assoc _ _ _).symm) (m_us P μ U_22) (m_us_zr hμ U_22 20 rfl) 800 800 (by decide) (by decide) (List.append_assoc pre (S_80 P) [.inl (5, [P + 21 + 3, 0]), .inr (0, 800, [])]).symm) mc_X5_init k_X10_43 rfl hl.1 rfl (Nat.le_of_ble_eq_true rfl) dX10_init_153 ⟨Nat.le_of_ble_eq_true rfl, Nat.le_of_ble_eq_true rfl⟩ ⟨Nat.le_of_ble_eq_true rfl, Nat.le_of_ble_eq_true rfl⟩) (fun ν H locs hν hW hz => ?_)
  rw [hν] at hW
  have hW : m_W D cy s b (pre ++ (S_82 P)) (m_us P μ U_22) H _ := hW
  have hz : H.size = b + (P + 22) := hz.trans (congrArg (fun z => b + z) (m_suflen (n := 22) hP rfl))
  refine m_aast hx hb hW (P + 5) (P + 20) (m_suf hP rfl) (m_suf hP rfl) (vp_in_iff.mpr ⟨by decide, by decide⟩) rfl (lay' := pre ++ (S_83 P)) (m_sufset hP rfl) dX10_init_156 (fun H locs hW hz1 => ?_)
  have hz := hz1.trans hz
  have hW : m_W D cy s b (pre ++ (S_83 P)) (m_us P μ U_22) H _ := hW
  refine lv_iinc (v := 8) (lv' := [(1, .int 8), (0, .ref (b + (P + 0)))]) hx hb dX10_init_157 hl (k := 0) rfl (by decide) (by decide) rfl (fun ls hl => ?_)
  refine lv_goto (tgt := 135) hx hb dX10_init_160 (by decide) ?_
  refine lv_iload_n hx hb dX10_init_135 rfl (lv_at hl 0 rfl) ?_
  refine lv_bipush (v := 8) hx hb dX10_init_136 (by decide) ?_
  refine lv_icmp_ge (tgt := 163) hx hb dX10_init_138 (by decide) (fun _ => ?_) (fun c => absurd (by decide) c)
  refine W.widen (k := 21) (n := 6440) (Nat.le_of_ble_eq_true rfl) (Nat.le_of_ble_eq_true rfl) ?_
  subst h1
  exact m_zret hx hb hr hlocks hW (hz.trans (congrArg (fun z => b + z) (m_suflen (n := 22) hP rfl).symm)) rfl dX10_init_163
def U_23 : List (Nat × Nat × Int32) := [] ++ [(0, 2, (-1))]
def S_85 (P : Nat) : List mL := [.inl (9, [0, 0, 0, 2, 2, 2, 2])]
def S_86 (P : Nat) : List mL := [.inl (9, [0, 0, 0, 2, 2, 2, 2]), .inl (6, [2, 0, 0])]
def S_87 (P : Nat) : List mL := [.inl (9, [0, 0, 0, 2, 2, 2, 2]), .inl (6, [P + 2 + 3, 0, 0]), .inr (0, 5, [])]
def S_88 (P : Nat) : List mL := [.inl (9, [0, 0, 0, P + 1 + 3, 2, 2, 2]), .inl (6, [P + 2 + 3, 0, 0]), .inr (0, 5, [])]
def S_89 (P : Nat) : List mL := [.inl (9, [0, 0, 0, P + 1 + 3, 2, 2, 2]), .inl (6, [P + 2 + 3, 0, 0]), .inr (0, 5, []), .inl (5, [2, 0])]
def S_90 (P : Nat) : List mL := [.inl (9, [0, 0, 0, P + 1 + 3, 2, 2, 2]), .inl (6, [P + 2 + 3, 0, 0]), .inr (0, 5, []), .inl (5, [P + 4 + 3, 0]), .inr (0, 4, [])]
def S_91 (P : Nat) : List mL := [.inl (9, [0, 0, 0, P + 1 + 3, P + 3 + 3, 2, 2]), .inl (6, [P + 2 + 3, 0, 0]), .inr (0, 5, []), .inl (5, [P + 4 + 3, 0]), .inr (0, 4, [])]
def S_92 (P : Nat) : List mL := [.inl (9, [0, 0, 0, P + 1 + 3, P + 3 + 3, 2, 2]), .inl (6, [P + 2 + 3, 0, 0]), .inr (0, 5, []), .inl (5, [P + 4 + 3, 0]), .inr (0, 4, []), .inl (3, [0, 0, 0, 0, 0, 0, 0, 1, 1, 1, 2, 2, 2, 2, 2, 2, 2, 2])]
def S_93 (P : Nat) : List mL := [.inl (9, [0, 0, 0, P + 1 + 3, P + 3 + 3, 2, 2]), .inl (6, [P + 2 + 3, 0, 0]), .inr (0, 5, []), .inl (5, [P + 4 + 3, 0]), .inr (0, 4, []), .inl (3, [0, 0, 0, 0, 0, 0, 0, 1, 1, 1, P + 6 + 3, P + 7 + 3, P + 8 + 3, P + 9 + 3, P + 10 + 3, P + 11 + 3, P + 12 + 3, P + 13 + 3]), .inl (1, [0, 0, 0, 0, 0]), .inr (0, 192, []), .inr (0, 192, []), .inr (0, 192, []), .inr (0, 192, []), .inr (0, 192, []), .inr (0, 192, []), .inl (2, [P + 14 + 3, P + 15 + 3, 0, 0, 0]), .inr (0, 192, []), .inr (0, 192, [])]
def U_24 : List (Nat × Nat × Int32) := U_23 ++ m_sh 5 U_2
def S_94 (P : Nat) : List mL := [.inl (9, [0, 0, 0, P + 1 + 3, P + 3 + 3, P + 5 + 3, 2]), .inl (6, [P + 2 + 3, 0, 0]), .inr (0, 5, []), .inl (5, [P + 4 + 3, 0]), .inr (0, 4, []), .inl (3, [0, 0, 0, 0, 0, 0, 0, 1, 1, 1, P + 6 + 3, P + 7 + 3, P + 8 + 3, P + 9 + 3, P + 10 + 3, P + 11 + 3, P + 12 + 3, P + 13 + 3]), .inl (1, [0, 0, 0, 0, 0]), .inr (0, 192, []), .inr (0, 192, []), .inr (0, 192, []), .inr (0, 192, []), .inr (0, 192, []), .inr (0, 192, []), .inl (2, [P + 14 + 3, P + 15 + 3, 0, 0, 0]), .inr (0, 192, []), .inr (0, 192, [])]
def S_95 (P : Nat) : List mL := [.inl (9, [0, 0, 0, P + 1 + 3, P + 3 + 3, P + 5 + 3, 2]), .inl (6, [P + 2 + 3, 0, 0]), .inr (0, 5, []), .inl (5, [P + 4 + 3, 0]), .inr (0, 4, []), .inl (3, [0, 0, 0, 0, 0, 0, 0, 1, 1, 1, P + 6 + 3, P + 7 + 3, P + 8 + 3, P + 9 + 3, P + 10 + 3, P + 11 + 3, P + 12 + 3, P + 13 + 3]), .inl (1, [0, 0, 0, 0, 0]), .inr (0, 192, []), .inr (0, 192, []), .inr (0, 192, []), .inr (0, 192, []), .inr (0, 192, []), .inr (0, 192, []), .inl (2, [P + 14 + 3, P + 15 + 3, 0, 0, 0]), .inr (0, 192, []), .inr (0, 192, []), .inr (0, 3, [])]
def S_96 (P : Nat) : List mL := [.inl (9, [0, 0, 0, P + 1 + 3, P + 3 + 3, P + 5 + 3, P + 16 + 3]), .inl (6, [P + 2 + 3, 0, 0]), .inr (0, 5, []), .inl (5, [P + 4 + 3, 0]), .inr (0, 4, []), .inl (3, [0, 0, 0, 0, 0, 0, 0, 1, 1, 1, P + 6 + 3, P + 7 + 3, P + 8 + 3, P + 9 + 3, P + 10 + 3, P + 11 + 3, P + 12 + 3, P + 13 + 3]), .inl (1, [0, 0, 0, 0, 0]), .inr (0, 192, []), .inr (0, 192, []), .inr (0, 192, []), .inr (0, 192, []), .inr (0, 192, []), .inr (0, 192, []), .inl (2, [P + 14 + 3, P + 15 + 3, 0, 0, 0]), .inr (0, 192, []), .inr (0, 192, []), .inr (0, 3, [])]
set_option maxHeartbeats 4000000 in
set_option maxRecDepth 100000 in
theorem c_X9_init (l : Launch) (D : va_G) (cy : Nat → ClassId) (b : Nat) (pre : List mL) (P : Nat) (hP : pre.length = P) (lay0 lay1 : List mL) (h0 : lay0 = pre ++ [.inl (9, f0_9)]) (μ : mM) (hμ : m_Zr P μ) (h1 : lay1 = pre ++ (S_96 P)) : m_Cz l yX9_init cX9_init 1 3 16 1581 D cy b lay0 lay1 μ [.ref (b + P)] (fun ν => ν = m_us P μ U_24) := by
  subst h0
  refine m_ofz (cc := cX9_init) (n := 1) (d := 3) (by decide) (Nat.le_of_ble_eq_true rfl) ?_
  intro p e s m below meth c hx hb hr hml hown hts hlocks hnm hW hz ls hl
  have hown : s.vm.findClass RX9 = some m.cls := hown
  have hl : lv_has ls 1 [(0, .ref (b + (P + 0)))] := hl
  have hW : m_W D cy s b (pre ++ (S_85 P)) (m_us P μ []) s.heap [] := hW
  have hz : s.heap.size = b + (P + 1) := hz.trans (congrArg (fun z => b + z) (m_suflen (n := 1) hP rfl))
  refine lv_aload_n hx hb dX9_init_0 rfl (lv_at hl 0 rfl) ?_
  refine W.objInit hx hb hown (hts _ k_X9_3) (hts _ ko_i) (hts _ ko_c) rfl (by rw [hml]; exact hl.1) rfl dX9_init_1 (Nat.le_of_ble_eq_true rfl) (Nat.le_of_ble_eq_true rfl) ?_
  refine W.eq (g2 := F0 m 4 ls []) rfl ?_
  refine lv_aload_n hx hb dX9_init_4 rfl (lv_at hl 0 rfl) ?_
  refine lv_iconst (v := 0) hx hb dX9_init_5 (by decide) ?_
  refine m_puti hx hb hts hown hW (P + 0) 0 (m_suf hP rfl) rfl cw_9 tyX9_ok nmX9 rfl (by decide) k_X9_9 rfl rfl rfl dX9_init_6 (fun H locs hW hz1 => ?_)
  have hz := hz1.trans hz
  rw [m_si_same (m_us_0 hμ [] 0 0 rfl)] at hW
  refine lv_aload_n hx hb dX9_init_9 rfl (lv_at hl 0 rfl) ?_
  refine lv_iconst (v := 0) hx hb dX9_init_10 (by decide) ?_
  refine m_puti hx hb hts hown hW (P + 0) 1 (m_suf hP rfl) rfl cw_9 tyX9_ok nmX9 rfl (by decide) k_X9_15 rfl rfl rfl dX9_init_11 (fun H locs hW hz1 => ?_)
  have hz := hz1.trans hz
  rw [m_si_same (m_us_0 hμ [] 0 1 rfl)] at hW
  refine lv_aload_n hx hb dX9_init_14 rfl (lv_at hl 0 rfl) ?_
  refine lv_iconst (v := (-1)) hx hb dX9_init_15 (by decide) ?_
  refine m_puti hx hb hts hown hW (P + 0) 2 (m_suf hP rfl) rfl cw_9 tyX9_ok nmX9 rfl (by decide) k_X9_18 rfl rfl rfl dX9_init_16 (fun H locs hW hz1 => ?_)
  have hz := hz1.trans hz
  rw [m_us_snoc] at hW
  have hW : m_W D cy s b (pre ++ (S_85 P)) (m_us P μ U_23) H _ := hW
  refine lv_aload_n hx hb dX9_init_19 rfl (lv_at hl 0 rfl) ?_
  refine m_new' (N0 := P + 1) hx hb hts hown hW (m_suflen (n := 1) hP rfl) hz cw_6 tyX6_ok k_X9_21 ki_X6 kn_X6 rfl f0_6 (lay' := pre ++ (S_86 P)) (List.append_assoc _ _ _) f0_6_ok (Nat.le_of_ble_eq_true rfl) (Nat.le_of_ble_eq_true rfl) dX9_init_20 (fun H hW hz => ?_)
  rw [m_us_z hμ U_23 1 rfl] at hW
  have hW : m_W D cy s b (pre ++ (S_86 P)) (m_us P μ U_23) H _ := hW
  have hz : H.size = b + (P + 2) := hz
  refine lv_dup hx hb dX9_init_23 rfl ?_
  refine m_aZ hW (m_runIN (As := []) (rest := [.ref (b + (P + 1)), .ref (b + (P + 0))]) hx hb hml hown hts hW (hz.trans (congrArg (fun z => b + z) (m_suflen (n := 2) hP rfl).symm)) (P + 1) (c_X6_init l D cy b (pre ++ (S_85 P)) (P + 1) (m_suflen (n := 1) hP rfl) _ (pre ++ (S_87 P)) ((List.append_assoc _ _ _).symm) (m_us P μ U_23) (m_us_zr hμ U_23 1 rfl) (List.append_assoc pre (S_85 P) [.inl (6, [P + 2 + 3, 0, 0]), .inr (0, 5, [])]).symm) mc_X6_init n_X9_23 rfl hl.1 rfl (Nat.le_of_ble_eq_true rfl) dX9_init_24 ⟨Nat.le_of_ble_eq_true rfl, Nat.le_of_ble_eq_true rfl⟩ ⟨Nat.le_of_ble_eq_true rfl, Nat.le_of_ble_eq_true rfl⟩) (fun ν H locs hν hW hz => ?_)
  rw [hν] at hW
  have hW : m_W D cy s b (pre ++ (S_87 P)) (m_us P μ U_23) H _ := hW
  have hz : H.size = b + (P + 3) := hz.trans (congrArg (fun z => b + z) (m_suflen (n := 3) hP rfl))
  refine m_putr hx hb hts hown hW (P + 0) 3 (P + 1) (m_suf hP rfl) rfl cw_9 tyX9_ok nmX9 rfl (by decide) k_X9_24 ⟨rfl, hnm, rfl⟩ rfl rfl (lay' := pre ++ (S_88 P)) (m_sufset hP rfl) dX9_init_27 (fun H locs hW hz1 => ?_)
  have hz := hz1.trans hz
  have hW : m_W D cy s b (pre ++ (S_88 P)) (m_us P μ U_23) H _ := hW
  refine lv_aload_n hx hb dX9_init_30 rfl (lv_at hl 0 rfl) ?_
  refine m_new' (N0 := P + 3) hx hb hts hown hW (m_suflen (n := 3) hP rfl) hz cw_5 tyX5_ok k_X9_28 ki_X5 kn_X5 rfl f0_5 (lay' := pre ++ (S_89 P)) (List.append_assoc _ _ _) f0_5_ok (Nat.le_of_ble_eq_true rfl) (Nat.le_of_ble_eq_true rfl) dX9_init_31 (fun H hW hz => ?_)
  rw [m_us_z hμ U_23 3 rfl] at hW
  have hW : m_W D cy s b (pre ++ (S_89 P)) (m_us P μ U_23) H _ := hW
  have hz : H.size = b + (P + 4) := hz
  refine lv_dup hx hb dX9_init_34 rfl ?_
  refine lv_iconst (v := 4) hx hb dX9_init_35 (by decide) ?_
  refine m_aZ hW (m_runI (As := [.int 4]) (rest := [.ref (b + (P + 3)), .ref (b + (P + 0))]) hx hb hml hown hts hW (hz.trans (congrArg (fun z => b + z) (m_suflen (n := 4) hP rfl).symm)) (P + 3) (c_X5_init l D cy b (pre ++ (S_88 P)) (P + 3) (m_suflen (n := 3) hP rfl) _ (pre ++ (S_90 P)) ((List.append_assoc _ _ _).symm) (m_us P μ U_23) (m_us_zr hμ U_23 3 rfl) 4 4 (by decide) (by decide) (List.append_assoc pre (S_88 P) [.inl (5, [P + 4 + 3, 0]), .inr (0, 4, [])]).symm) mc_X5_init k_X9_30 rfl hl.1 rfl (Nat.le_of_ble_eq_true rfl) dX9_init_36 ⟨Nat.le_of_ble_eq_true rfl, Nat.le_of_ble_eq_true rfl⟩ ⟨Nat.le_of_ble_eq_true rfl, Nat.le_of_ble_eq_true rfl⟩) (fun ν H locs hν hW hz => ?_)
  rw [hν] at hW
  have hW : m_W D cy s b (pre ++ (S_90 P)) (m_us P μ U_23) H _ := hW
  have hz : H.size = b + (P + 5) := hz.trans (congrArg (fun z => b + z) (m_suflen (n := 5) hP rfl))
  refine m_putr hx hb hts hown hW (P + 0) 4 (P + 3) (m_suf hP rfl) rfl cw_9 tyX9_ok nmX9 rfl (by decide) k_X9_33 ⟨rfl, hnm, rfl⟩ rfl rfl (lay' := pre ++ (S_91 P)) (m_sufset hP rfl) dX9_init_39 (fun H locs hW hz1 => ?_)
  have hz := hz1.trans hz
  have hW : m_W D cy s b (pre ++ (S_91 P)) (m_us P μ U_23) H _ := hW
  refine lv_aload_n hx hb dX9_init_42 rfl (lv_at hl 0 rfl) ?_
  refine m_new' (N0 := P + 5) hx hb hts hown hW (m_suflen (n := 5) hP rfl) hz cw_3 tyX3_ok k_X9_37 ki_X3 kn_X3 rfl f0_3 (lay' := pre ++ (S_92 P)) (List.append_assoc _ _ _) f0_3_ok (Nat.le_of_ble_eq_true rfl) (Nat.le_of_ble_eq_true rfl) dX9_init_43 (fun H hW hz => ?_)
  rw [m_us_z hμ U_23 5 rfl] at hW
  have hW : m_W D cy s b (pre ++ (S_92 P)) (m_us P μ U_23) H _ := hW
  have hz : H.size = b + (P + 6) := hz
  refine lv_dup hx hb dX9_init_46 rfl ?_
  refine m_aZ hW (m_runIN (As := []) (rest := [.ref (b + (P + 5)), .ref (b + (P + 0))]) hx hb hml hown hts hW (hz.trans (congrArg (fun z => b + z) (m_suflen (n := 6) hP rfl).symm)) (P + 5) (c_X3_init l D cy b (pre ++ (S_91 P)) (P + 5) (m_suflen (n := 5) hP rfl) _ (pre ++ (S_93 P)) ((List.append_assoc _ _ _).symm) (m_us P μ U_23) (m_us_zr hμ U_23 5 rfl) (List.append_assoc pre (S_91 P) [.inl (3, [0, 0, 0, 0, 0, 0, 0, 1, 1, 1, P + 6 + 3, P + 7 + 3, P + 8 + 3, P + 9 + 3, P + 10 + 3, P + 11 + 3, P + 12 + 3, P + 13 + 3]), .inl (1, [0, 0, 0, 0, 0]), .inr (0, 192, []), .inr (0, 192, []), .inr (0, 192, []), .inr (0, 192, []), .inr (0, 192, []), .inr (0, 192, []), .inl (2, [P + 14 + 3, P + 15 + 3, 0, 0, 0]), .inr (0, 192, []), .inr (0, 192, [])]).symm) mc_X3_init n_X9_39 rfl hl.1 rfl (Nat.le_of_ble_eq_true rfl) dX9_init_47 ⟨Nat.le_of_ble_eq_true rfl, Nat.le_of_ble_eq_true rfl⟩ ⟨Nat.le_of_ble_eq_true rfl, Nat.le_of_ble_eq_true rfl⟩) (fun ν H locs hν hW hz => ?_)
  rw [hν, m_us_join] at hW
  have hW : m_W D cy s b (pre ++ (S_93 P)) (m_us P μ U_24) H _ := hW
  have hz : H.size = b + (P + 16) := hz.trans (congrArg (fun z => b + z) (m_suflen (n := 16) hP rfl))
  refine m_putr hx hb hts hown hW (P + 0) 5 (P + 5) (m_suf hP rfl) rfl cw_9 tyX9_ok nmX9 rfl (by decide) k_X9_40 ⟨rfl, hnm, rfl⟩ rfl rfl (lay' := pre ++ (S_94 P)) (m_sufset hP rfl) dX9_init_50 (fun H locs hW hz1 => ?_)
  have hz := hz1.trans hz
  have hW : m_W D cy s b (pre ++ (S_94 P)) (m_us P μ U_24) H _ := hW
  refine lv_aload_n hx hb dX9_init_53 rfl (lv_at hl 0 rfl) ?_
  refine lv_iconst (v := 3) hx hb dX9_init_54 (by decide) ?_
  refine m_newa' (N0 := P + 16) (atype := .int) hx hb hts hW (m_suflen (n := 16) hP rfl) hz 0 ka_int (Or.inl ⟨rfl, rfl⟩) (N := 3) (lay' := pre ++ (S_95 P)) (List.append_assoc _ _ _) (by decide) (by decide) (by decide) (Nat.le_of_ble_eq_true rfl) (Nat.le_of_ble_eq_true rfl) dX9_init_55 (fun H hW hz => ?_)
  rw [m_us_z hμ U_24 16 rfl] at hW
  have hW : m_W D cy s b (pre ++ (S_95 P)) (m_us P μ U_24) H _ := hW
  have hz : H.size = b + (P + 17) := hz
  refine m_putr hx hb hts hown hW (P + 0) 6 (P + 16) (m_suf hP rfl) rfl cw_9 tyX9_ok nmX9 rfl (by decide) k_X9_44 ⟨rfl, hnm, rfl⟩ rfl rfl (lay' := pre ++ (S_96 P)) (m_sufset hP rfl) dX9_init_57 (fun H locs hW hz1 => ?_)
  have hz := hz1.trans hz
  have hW : m_W D cy s b (pre ++ (S_96 P)) (m_us P μ U_24) H _ := hW
  refine W.widen (k := 16) (n := 1581) (Nat.le_of_ble_eq_true rfl) (Nat.le_of_ble_eq_true rfl) ?_
  subst h1
  exact m_zret hx hb hr hlocks hW (hz.trans (congrArg (fun z => b + z) (m_suflen (n := 17) hP rfl).symm)) rfl dX9_init_60
def S_97 (P : Nat) : List mL := [.inl (0, [2, 2, 2, 2, 0]), .inr (0, 6, [])]
def S_98 (P : Nat) : List mL := [.inl (0, [P + 1 + 3, 2, 2, 2, 0]), .inr (0, 6, [])]
def S_99 (P : Nat) : List mL := [.inl (0, [P + 1 + 3, 2, 2, 2, 0]), .inr (0, 6, []), .inr (0, 6, [])]
def S_100 (P : Nat) : List mL := [.inl (0, [P + 1 + 3, P + 2 + 3, 2, 2, 0]), .inr (0, 6, []), .inr (0, 6, [])]
def S_101 (P : Nat) : List mL := [.inl (0, [P + 1 + 3, P + 2 + 3, 2, 2, 0]), .inr (0, 6, []), .inr (0, 6, []), .inr (0, 6, [])]
def S_102 (P : Nat) : List mL := [.inl (0, [P + 1 + 3, P + 2 + 3, P + 3 + 3, 2, 0]), .inr (0, 6, []), .inr (0, 6, []), .inr (0, 6, [])]
def S_103 (P : Nat) : List mL := [.inl (0, [P + 1 + 3, P + 2 + 3, P + 3 + 3, 2, 0]), .inr (0, 6, []), .inr (0, 6, []), .inr (0, 6, []), .inr (0, 1681, [])]
def S_104 (P : Nat) : List mL := [.inl (0, [P + 1 + 3, P + 2 + 3, P + 3 + 3, P + 4 + 3, 0]), .inr (0, 6, []), .inr (0, 6, []), .inr (0, 6, []), .inr (0, 1681, [])]
def S_105 (P : Nat) : List mL := [.inl (0, [2, 2, 2, 2, 0])]
set_option maxHeartbeats 4000000 in
set_option maxRecDepth 100000 in
theorem c_X0_init (l : Launch) (D : va_G) (cy : Nat → ClassId) (b : Nat) (pre : List mL) (P : Nat) (hP : pre.length = P) (lay0 lay1 : List mL) (h0 : lay0 = pre ++ [.inl (0, f0_0)]) (μ : mM) (hμ : m_Zr P μ) (h1 : lay1 = pre ++ (S_104 P)) : m_Cz l yX0_init cX0_init 1 1 4 1699 D cy b lay0 lay1 μ [.ref (b + P)] (fun ν => ν = m_us P μ []) := by
  subst h0
  refine m_ofz (cc := cX0_init) (n := 1) (d := 1) (by decide) (Nat.le_of_ble_eq_true rfl) ?_
  intro p e s m below meth c hx hb hr hml hown hts hlocks hnm hW hz ls hl
  have hown : s.vm.findClass RX0 = some m.cls := hown
  have hl : lv_has ls 1 [(0, .ref (b + (P + 0)))] := hl
  have hW : m_W D cy s b (pre ++ (S_105 P)) (m_us P μ []) s.heap [] := hW
  have hz : s.heap.size = b + (P + 1) := hz.trans (congrArg (fun z => b + z) (m_suflen (n := 1) hP rfl))
  refine lv_aload_n hx hb dX0_init_0 rfl (lv_at hl 0 rfl) ?_
  refine W.objInit hx hb hown (hts _ k_X0_5) (hts _ ko_i) (hts _ ko_c) rfl (by rw [hml]; exact hl.1) rfl dX0_init_1 (Nat.le_of_ble_eq_true rfl) (Nat.le_of_ble_eq_true rfl) ?_
  refine W.eq (g2 := F0 m 4 ls []) rfl ?_
  refine lv_aload_n hx hb dX0_init_4 rfl (lv_at hl 0 rfl) ?_
  refine lv_bipush (v := 6) hx hb dX0_init_5 (by decide) ?_
  refine m_newa' (N0 := P + 1) (atype := .int) hx hb hts hW (m_suflen (n := 1) hP rfl) hz 0 ka_int (Or.inl ⟨rfl, rfl⟩) (N := 6) (lay' := pre ++ (S_97 P)) (List.append_assoc _ _ _) (by decide) (by decide) (by decide) (Nat.le_of_ble_eq_true rfl) (Nat.le_of_ble_eq_true rfl) dX0_init_7 (fun H hW hz => ?_)
  rw [m_us_z hμ [] 1 rfl] at hW
  have hW : m_W D cy s b (pre ++ (S_97 P)) (m_us P μ []) H _ := hW
  have hz : H.size = b + (P + 2) := hz
  refine m_putr hx hb hts hown hW (P + 0) 0 (P + 1) (m_suf hP rfl) rfl cw_0 tyX0_ok nmX0 rfl (by decide) k_X0_11 ⟨rfl, hnm, rfl⟩ rfl rfl (lay' := pre ++ (S_98 P)) (m_sufset hP rfl) dX0_init_9 (fun H locs hW hz1 => ?_)
  have hz := hz1.trans hz
  have hW : m_W D cy s b (pre ++ (S_98 P)) (m_us P μ []) H _ := hW
  refine lv_aload_n hx hb dX0_init_12 rfl (lv_at hl 0 rfl) ?_
  refine lv_bipush (v := 6) hx hb dX0_init_13 (by decide) ?_
  refine m_newa' (N0 := P + 2) (atype := .int) hx hb hts hW (m_suflen (n := 2) hP rfl) hz 0 ka_int (Or.inl ⟨rfl, rfl⟩) (N := 6) (lay' := pre ++ (S_99 P)) (List.append_assoc _ _ _) (by decide) (by decide) (by decide) (Nat.le_of_ble_eq_true rfl) (Nat.le_of_ble_eq_true rfl) dX0_init_15 (fun H hW hz => ?_)
  rw [m_us_z hμ [] 2 rfl] at hW
  have hW : m_W D cy s b (pre ++ (S_99 P)) (m_us P μ []) H _ := hW
  have hz : H.size = b + (P + 3) := hz
  refine m_putr hx hb hts hown hW (P + 0) 1 (P + 2) (m_suf hP rfl) rfl cw_0 tyX0_ok nmX0 rfl (by decide) k_X0_15 ⟨rfl, hnm, rfl⟩ rfl rfl (lay' := pre ++ (S_100 P)) (m_sufset hP rfl) dX0_init_17 (fun H locs hW hz1 => ?_)
  have hz := hz1.trans hz
  have hW : m_W D cy s b (pre ++ (S_100 P)) (m_us P μ []) H _ := hW
  refine lv_aload_n hx hb dX0_init_20 rfl (lv_at hl 0 rfl) ?_
  refine lv_bipush (v := 6) hx hb dX0_init_21 (by decide) ?_
  refine m_newa' (N0 := P + 3) (atype := .int) hx hb hts hW (m_suflen (n := 3) hP rfl) hz 0 ka_int (Or.inl ⟨rfl, rfl⟩) (N := 6) (lay' := pre ++ (S_101 P)) (List.append_assoc _ _ _) (by decide) (by decide) (by decide) (Nat.le_of_ble_eq_true rfl) (Nat.le_of_ble_eq_true rfl) dX0_init_23 (fun H hW hz => ?_)
  rw [m_us_z hμ [] 3 rfl] at hW
  have hW : m_W D cy s b (pre ++ (S_101 P)) (m_us P μ []) H _ := hW
  have hz : H.size = b + (P + 4) := hz
  refine m_putr hx hb hts hown hW (P + 0) 2 (P + 3) (m_suf hP rfl) rfl cw_0 tyX0_ok nmX0 rfl (by decide) k_X0_18 ⟨rfl, hnm, rfl⟩ rfl rfl (lay' := pre ++ (S_102 P)) (m_sufset hP rfl) dX0_init_25 (fun H locs hW hz1 => ?_)
  have hz := hz1.trans hz
  have hW : m_W D cy s b (pre ++ (S_102 P)) (m_us P μ []) H _ := hW
  refine lv_aload_n hx hb dX0_init_28 rfl (lv_at hl 0 rfl) ?_
  refine lv_sipush (v := 1681) hx hb dX0_init_29 (by decide) ?_
  refine m_newa' (N0 := P + 4) (atype := .int) hx hb hts hW (m_suflen (n := 4) hP rfl) hz 0 ka_int (Or.inl ⟨rfl, rfl⟩) (N := 1681) (lay' := pre ++ (S_103 P)) (List.append_assoc _ _ _) (by decide) (by decide) (by decide) (Nat.le_of_ble_eq_true rfl) (Nat.le_of_ble_eq_true rfl) dX0_init_32 (fun H hW hz => ?_)
  rw [m_us_z hμ [] 4 rfl] at hW
  have hW : m_W D cy s b (pre ++ (S_103 P)) (m_us P μ []) H _ := hW
  have hz : H.size = b + (P + 5) := hz
  refine m_putr hx hb hts hown hW (P + 0) 3 (P + 4) (m_suf hP rfl) rfl cw_0 tyX0_ok nmX0 rfl (by decide) k_X0_21 ⟨rfl, hnm, rfl⟩ rfl rfl (lay' := pre ++ (S_104 P)) (m_sufset hP rfl) dX0_init_34 (fun H locs hW hz1 => ?_)
  have hz := hz1.trans hz
  have hW : m_W D cy s b (pre ++ (S_104 P)) (m_us P μ []) H _ := hW
  refine lv_aload_n hx hb dX0_init_37 rfl (lv_at hl 0 rfl) ?_
  refine lv_iconst (v := 0) hx hb dX0_init_38 (by decide) ?_
  refine m_puti hx hb hts hown hW (P + 0) 4 (m_suf hP rfl) rfl cw_0 tyX0_ok nmX0 rfl (by decide) k_X0_24 rfl rfl rfl dX0_init_39 (fun H locs hW hz1 => ?_)
  have hz := hz1.trans hz
  rw [m_si_same (m_us_0 hμ [] 0 4 rfl)] at hW
  refine W.widen (k := 4) (n := 1699) (Nat.le_of_ble_eq_true rfl) (Nat.le_of_ble_eq_true rfl) ?_
  subst h1
  exact m_zret hx hb hr hlocks hW (hz.trans (congrArg (fun z => b + z) (m_suflen (n := 5) hP rfl).symm)) rfl dX0_init_42
def S_106 (P : Nat) : List mL := [.inl (7, [2, 2, 2, 2, 0, 0]), .inr (0, 200, [])]
def S_107 (P : Nat) : List mL := [.inl (7, [P + 1 + 3, 2, 2, 2, 0, 0]), .inr (0, 200, [])]
def S_108 (P : Nat) : List mL := [.inl (7, [P + 1 + 3, 2, 2, 2, 0, 0]), .inr (0, 200, []), .inr (0, 200, [])]
def S_109 (P : Nat) : List mL := [.inl (7, [P + 1 + 3, P + 2 + 3, 2, 2, 0, 0]), .inr (0, 200, []), .inr (0, 200, [])]
def S_110 (P : Nat) : List mL := [.inl (7, [P + 1 + 3, P + 2 + 3, 2, 2, 0, 0]), .inr (0, 200, []), .inr (0, 200, []), .inr (0, 200, [])]
def S_111 (P : Nat) : List mL := [.inl (7, [P + 1 + 3, P + 2 + 3, P + 3 + 3, 2, 0, 0]), .inr (0, 200, []), .inr (0, 200, []), .inr (0, 200, [])]
def S_112 (P : Nat) : List mL := [.inl (7, [P + 1 + 3, P + 2 + 3, P + 3 + 3, 2, 0, 0]), .inr (0, 200, []), .inr (0, 200, []), .inr (0, 200, []), .inr (1, 200, [])]
def S_113 (P : Nat) : List mL := [.inl (7, [P + 1 + 3, P + 2 + 3, P + 3 + 3, P + 4 + 3, 0, 0]), .inr (0, 200, []), .inr (0, 200, []), .inr (0, 200, []), .inr (1, 200, [])]
def S_114 (P : Nat) : List mL := [.inl (7, [2, 2, 2, 2, 0, 0])]
set_option maxHeartbeats 4000000 in
set_option maxRecDepth 100000 in
theorem c_X7_init (l : Launch) (D : va_G) (cy : Nat → ClassId) (b : Nat) (pre : List mL) (P : Nat) (hP : pre.length = P) (lay0 lay1 : List mL) (h0 : lay0 = pre ++ [.inl (7, f0_7)]) (μ : mM) (hμ : m_Zr P μ) (h1 : lay1 = pre ++ (S_113 P)) : m_Cz l yX7_init cX7_init 1 1 4 800 D cy b lay0 lay1 μ [.ref (b + P)] (fun ν => ν = m_us P μ []) := by
  subst h0
  refine m_ofz (cc := cX7_init) (n := 1) (d := 1) (by decide) (Nat.le_of_ble_eq_true rfl) ?_
  intro p e s m below meth c hx hb hr hml hown hts hlocks hnm hW hz ls hl
  have hown : s.vm.findClass RX7 = some m.cls := hown
  have hl : lv_has ls 1 [(0, .ref (b + (P + 0)))] := hl
  have hW : m_W D cy s b (pre ++ (S_114 P)) (m_us P μ []) s.heap [] := hW
  have hz : s.heap.size = b + (P + 1) := hz.trans (congrArg (fun z => b + z) (m_suflen (n := 1) hP rfl))
  refine lv_aload_n hx hb dX7_init_0 rfl (lv_at hl 0 rfl) ?_
  refine W.objInit hx hb hown (hts _ k_X7_3) (hts _ ko_i) (hts _ ko_c) rfl (by rw [hml]; exact hl.1) rfl dX7_init_1 (Nat.le_of_ble_eq_true rfl) (Nat.le_of_ble_eq_true rfl) ?_
  refine W.eq (g2 := F0 m 4 ls []) rfl ?_
  refine lv_aload_n hx hb dX7_init_4 rfl (lv_at hl 0 rfl) ?_
  refine lv_sipush (v := 200) hx hb dX7_init_5 (by decide) ?_
  refine m_newa' (N0 := P + 1) (atype := .int) hx hb hts hW (m_suflen (n := 1) hP rfl) hz 0 ka_int (Or.inl ⟨rfl, rfl⟩) (N := 200) (lay' := pre ++ (S_106 P)) (List.append_assoc _ _ _) (by decide) (by decide) (by decide) (Nat.le_of_ble_eq_true rfl) (Nat.le_of_ble_eq_true rfl) dX7_init_8 (fun H hW hz => ?_)
  rw [m_us_z hμ [] 1 rfl] at hW
  have hW : m_W D cy s b (pre ++ (S_106 P)) (m_us P μ []) H _ := hW
  have hz : H.size = b + (P + 2) := hz
  refine m_putr hx hb hts hown hW (P + 0) 0 (P + 1) (m_suf hP rfl) rfl cw_7 tyX7_ok nmX7 rfl (by decide) k_X7_11 ⟨rfl, hnm, rfl⟩ rfl rfl (lay' := pre ++ (S_107 P)) (m_sufset hP rfl) dX7_init_10 (fun H locs hW hz1 => ?_)
  have hz := hz1.trans hz
  have hW : m_W D cy s b (pre ++ (S_107 P)) (m_us P μ []) H _ := hW
  refine lv_aload_n hx hb dX7_init_13 rfl (lv_at hl 0 rfl) ?_
  refine lv_sipush (v := 200) hx hb dX7_init_14 (by decide) ?_
  refine m_newa' (N0 := P + 2) (atype := .int) hx hb hts hW (m_suflen (n := 2) hP rfl) hz 0 ka_int (Or.inl ⟨rfl, rfl⟩) (N := 200) (lay' := pre ++ (S_108 P)) (List.append_assoc _ _ _) (by decide) (by decide) (by decide) (Nat.le_of_ble_eq_true rfl) (Nat.le_of_ble_eq_true rfl) dX7_init_17 (fun H hW hz => ?_)
  rw [m_us_z hμ [] 2 rfl] at hW
  have hW : m_W D cy s b (pre ++ (S_108 P)) (m_us P μ []) H _ := hW
  have hz : H.size = b + (P + 3) := hz
  refine m_putr hx hb hts hown hW (P + 0) 1 (P + 2) (m_suf hP rfl) rfl cw_7 tyX7_ok nmX7 rfl (by decide) k_X7_15 ⟨rfl, hnm, rfl⟩ rfl rfl (lay' := pre ++ (S_109 P)) (m_sufset hP rfl) dX7_init_19 (fun H locs hW hz1 => ?_)
  have hz := hz1.trans hz
  have hW : m_W D cy s b (pre ++ (S_109 P)) (m_us P μ []) H _ := hW
  refine lv_aload_n hx hb dX7_init_22 rfl (lv_at hl 0 rfl) ?_
  refine lv_sipush (v := 200) hx hb dX7_init_23 (by decide) ?_
  refine m_newa' (N0 := P + 3) (atype := .int) hx hb hts hW (m_suflen (n := 3) hP rfl) hz 0 ka_int (Or.inl ⟨rfl, rfl⟩) (N := 200) (lay' := pre ++ (S_110 P)) (List.append_assoc _ _ _) (by decide) (by decide) (by decide) (Nat.le_of_ble_eq_true rfl) (Nat.le_of_ble_eq_true rfl) dX7_init_26 (fun H hW hz => ?_)
  rw [m_us_z hμ [] 3 rfl] at hW
  have hW : m_W D cy s b (pre ++ (S_110 P)) (m_us P μ []) H _ := hW
  have hz : H.size = b + (P + 4) := hz
  refine m_putr hx hb hts hown hW (P + 0) 2 (P + 3) (m_suf hP rfl) rfl cw_7 tyX7_ok nmX7 rfl (by decide) k_X7_18 ⟨rfl, hnm, rfl⟩ rfl rfl (lay' := pre ++ (S_111 P)) (m_sufset hP rfl) dX7_init_28 (fun H locs hW hz1 => ?_)
  have hz := hz1.trans hz
  have hW : m_W D cy s b (pre ++ (S_111 P)) (m_us P μ []) H _ := hW
  refine lv_aload_n hx hb dX7_init_31 rfl (lv_at hl 0 rfl) ?_
  refine lv_sipush (v := 200) hx hb dX7_init_32 (by decide) ?_
  refine m_newa' (N0 := P + 4) (atype := .boolean) hx hb hts hW (m_suflen (n := 4) hP rfl) hz 1 ka_boolean (Or.inr (Or.inl ⟨rfl, rfl⟩)) (N := 200) (lay' := pre ++ (S_112 P)) (List.append_assoc _ _ _) (by decide) (by decide) (by decide) (Nat.le_of_ble_eq_true rfl) (Nat.le_of_ble_eq_true rfl) dX7_init_35 (fun H hW hz => ?_)
  rw [m_us_z hμ [] 4 rfl] at hW
  have hW : m_W D cy s b (pre ++ (S_112 P)) (m_us P μ []) H _ := hW
  have hz : H.size = b + (P + 5) := hz
  refine m_putr hx hb hts hown hW (P + 0) 3 (P + 4) (m_suf hP rfl) rfl cw_7 tyX7_ok nmX7 rfl (by decide) k_X7_21 ⟨rfl, hnm, rfl⟩ rfl rfl (lay' := pre ++ (S_113 P)) (m_sufset hP rfl) dX7_init_37 (fun H locs hW hz1 => ?_)
  have hz := hz1.trans hz
  have hW : m_W D cy s b (pre ++ (S_113 P)) (m_us P μ []) H _ := hW
  refine lv_aload_n hx hb dX7_init_40 rfl (lv_at hl 0 rfl) ?_
  refine lv_iconst (v := 0) hx hb dX7_init_41 (by decide) ?_
  refine m_puti hx hb hts hown hW (P + 0) 4 (m_suf hP rfl) rfl cw_7 tyX7_ok nmX7 rfl (by decide) k_X7_25 rfl rfl rfl dX7_init_42 (fun H locs hW hz1 => ?_)
  have hz := hz1.trans hz
  rw [m_si_same (m_us_0 hμ [] 0 4 rfl)] at hW
  refine lv_aload_n hx hb dX7_init_45 rfl (lv_at hl 0 rfl) ?_
  refine lv_iconst (v := 0) hx hb dX7_init_46 (by decide) ?_
  refine m_puti hx hb hts hown hW (P + 0) 5 (m_suf hP rfl) rfl cw_7 tyX7_ok nmX7 rfl (by decide) k_X7_29 rfl rfl rfl dX7_init_47 (fun H locs hW hz1 => ?_)
  have hz := hz1.trans hz
  rw [m_si_same (m_us_0 hμ [] 0 5 rfl)] at hW
  refine W.widen (k := 4) (n := 800) (Nat.le_of_ble_eq_true rfl) (Nat.le_of_ble_eq_true rfl) ?_
  subst h1
  exact m_zret hx hb hr hlocks hW (hz.trans (congrArg (fun z => b + z) (m_suflen (n := 5) hP rfl).symm)) rfl dX7_init_50
