set_option maxHeartbeats 4000000 in
set_option maxRecDepth 100000 in
theorem c_X11_way (l : Launch) (D : va_G) (cy : Nat → ClassId) (b : Nat) (μ : mM) (h0 : μ.1 23 1 = 0) (k : Int32) : m_Ci l yX11_way cX11_way 4 ((some .boolean)) 4 D cy b LX μ [.ref (b + 0), .int k] (fun r ν => r = Fway k) := by
  unfold m_Ci
  refine m_of (by decide) (Nat.le_of_ble_eq_true rfl) ?_
  intro p e s m below meth c hx hb hr hml hown hts hlocks _ hW ls hl
  have hown : s.vm.findClass RX11 = some m.cls := hown
  have hl : lv_has ls 4 [(0, .ref (b + 0)), (1, .int k)] := hl
  refine lv_aload_n hx hb dX11_way_0 rfl (lv_at hl 0 rfl) ?_
  refine lv_iconst (v := 0) hx hb dX11_way_1 (by decide) ?_
  refine m_puti hx hb hts hown hW (0) 9 rfl rfl cw_11 tyX11_ok nmX11 rfl (by decide) k_X11_70 rfl rfl rfl dX11_way_2 (fun H locs hW _ => ?_)
  generalize hμ1 : m_si μ (0) 9 0 = μ1 at hW
  refine lv_aload_n hx hb dX11_way_5 rfl (lv_at hl 0 rfl) ?_
  refine lv_iconst (v := (-1)) hx hb dX11_way_6 (by decide) ?_
  refine m_puti hx hb hts hown hW (0) 10 rfl rfl cw_11 tyX11_ok nmX11 rfl (by decide) k_X11_74 rfl rfl rfl dX11_way_7 (fun H locs hW _ => ?_)
  generalize hμ2 : m_si μ1 (0) 10 (-1) = μ2 at hW
  refine lv_iconst (v := 0) hx hb dX11_way_10 (by decide) ?_
  refine lv_istore_n (lv' := [(2, .int 0), (0, .ref (b + 0)), (1, .int k)]) hx hb dX11_way_11 rfl hl (by decide) rfl (fun ls hl => ?_)
  refine lv_aload_n hx hb dX11_way_12 rfl (lv_at hl 1 rfl) ?_
  refine m_getr hx hb hts hown hW (0) 0 (1) rfl rfl cw_11 rfl (by decide) k_X11_10 dX11_way_13 ?_
  refine lv_iload_n hx hb dX11_way_16 rfl (lv_at hl 2 rfl) ?_
  refine m_aQ hW (m_runV (As := [.int k]) (rest := []) hx hb hml hown hts hW (1) (c_X10_programOf l D cy b μ2 k) mi_X10_programOf k_X11_105 rfl rfl rfl hl.1 rfl (Nat.le_of_ble_eq_true rfl) dX11_way_17 ⟨Nat.le_of_ble_eq_true rfl, Nat.le_of_ble_eq_true rfl⟩ ⟨Nat.le_of_ble_eq_true rfl, Nat.le_of_ble_eq_true rfl⟩) (fun μ3 H locs q3 hW => ?_) (fun i3 μ3 H locs q3 hW => ?_)
  · obtain ⟨q3_m, q3⟩ := q3
    subst q3_m
    have q3 : k.toInt < 0 ∨ 7 < k.toInt := by
      rcases q3 with ⟨-, h⟩ | ⟨_, h, -⟩
      · exact h
      · cases h
    refine lv_astore_nN (lv' := [(3, .null), (2, .int 0), (0, .ref (b + 0)), (1, .int k)]) hx hb dX11_way_20 rfl hl (by decide) rfl (fun ls hl => ?_)
    refine lv_aload_nN hx hb dX11_way_21 rfl (lv_at hl 0 rfl) ?_
    refine lv_ifnullN (tgt := 74) hx hb dX11_way_22 (by decide) ?_
    refine lv_aload_n hx hb dX11_way_74 rfl (lv_at hl 2 rfl) ?_
    refine m_getr hx hb hts hown hW (0) 1 (23) rfl rfl cw_11 rfl (by decide) k_X11_21 dX11_way_75 ?_
    refine lv_iconst (v := 0) hx hb dX11_way_78 (by decide) ?_
    refine m_puti hx hb hts hown hW (23) 1 rfl rfl cw_5 tyX5_ok nmX5 rfl (by decide) k_X11_99 rfl rfl rfl dX11_way_79 (fun H locs hW _ => ?_)
    generalize hμ4 : m_si μ2 (23) 1 0 = μ4 at hW
    refine lv_iload_n hx hb dX11_way_82 rfl (lv_at hl 1 rfl) ?_
    exact m_iret hx hb hr hlocks hW (by decide) ((if_neg (by omega)).symm) dX11_way_83
  · obtain ⟨q3_m, q3⟩ := q3
    subst q3_m
    obtain ⟨q3a, q3b, q3⟩ : LX[i3]? = some (.inl (5, [i3 + 1 + 3, 0])) ∧ LX[i3 + 1]? = some (.inr (0, 800, [])) ∧ 0 ≤ k.toInt ∧ k.toInt ≤ 7 := by
      rcases q3 with ⟨h, -⟩ | ⟨_, h, h1, h2, h3, h4⟩
      · cases h
      · cases h; exact ⟨h3, h4, h1, h2⟩
    refine lv_astore_n (lv' := [(3, .ref (b + i3)), (2, .int 0), (0, .ref (b + 0)), (1, .int k)]) hx hb dX11_way_20 rfl hl (by decide) rfl (fun ls hl => ?_)
    refine lv_aload_n hx hb dX11_way_21 rfl (lv_at hl 0 rfl) ?_
    refine lv_ifnull hx hb dX11_way_22 ?_
    refine lv_aload_n hx hb dX11_way_25 rfl (lv_at hl 2 rfl) ?_
    refine m_getr hx hb hts hown hW (0) 3 (27) rfl rfl cw_11 rfl (by decide) k_X11_31 dX11_way_26 ?_
    refine lv_aload_n hx hb dX11_way_29 rfl (lv_at hl 2 rfl) ?_
    refine m_getr hx hb hts hown hW (0) 1 (23) rfl rfl cw_11 rfl (by decide) k_X11_21 dX11_way_30 ?_
    refine m_aI hW (m_runV (As := [.ref (b + 23)]) (rest := []) hx hb hml hown hts hW (27) (c_X4_read l D cy b μ2 (by rw [← hμ2, ← hμ1]; exact h0)) mi_X4_read k_X11_109 rfl rfl rfl hl.1 rfl (Nat.le_of_ble_eq_true rfl) dX11_way_33 ⟨Nat.le_of_ble_eq_true rfl, Nat.le_of_ble_eq_true rfl⟩ ⟨Nat.le_of_ble_eq_true rfl, Nat.le_of_ble_eq_true rfl⟩) (fun x5 μ5 H locs q5 hW => ?_)
    obtain ⟨rfl, q5⟩ := q5
    refine lv_istore_n (lv' := [(2, .int 1), (3, .ref (b + i3)), (0, .ref (b + 0)), (1, .int k)]) hx hb dX11_way_36 rfl hl (by decide) rfl (fun ls hl => ?_)
    refine lv_aload_n hx hb dX11_way_37 rfl (lv_at hl 2 rfl) ?_
    refine lv_aload_n hx hb dX11_way_38 rfl (lv_at hl 2 rfl) ?_
    refine m_getr hx hb hts hown hW (0) 3 (27) rfl rfl cw_11 rfl (by decide) k_X11_31 dX11_way_39 ?_
    refine m_geti hx hb hts hown hW (27) 1 rfl rfl cw_4 rfl (by decide) k_X11_113 dX11_way_42 ?_
    refine lv_topi (fun x6 ex6 => ?_)
    refine m_puti hx hb hts hown hW (0) 9 rfl rfl cw_11 tyX11_ok nmX11 rfl (by decide) k_X11_70 rfl rfl rfl dX11_way_45 (fun H locs hW _ => ?_)
    generalize hμ7 : m_si μ5 (0) 9 x6 = μ7 at hW
    refine lv_aload_n hx hb dX11_way_48 rfl (lv_at hl 2 rfl) ?_
    refine lv_aload_n hx hb dX11_way_49 rfl (lv_at hl 2 rfl) ?_
    refine m_getr hx hb hts hown hW (0) 3 (27) rfl rfl cw_11 rfl (by decide) k_X11_31 dX11_way_50 ?_
    refine m_geti hx hb hts hown hW (27) 2 rfl rfl cw_4 rfl (by decide) k_X11_116 dX11_way_53 ?_
    refine lv_topi (fun x8 ex8 => ?_)
    refine m_puti hx hb hts hown hW (0) 10 rfl rfl cw_11 tyX11_ok nmX11 rfl (by decide) k_X11_74 rfl rfl rfl dX11_way_56 (fun H locs hW _ => ?_)
    generalize hμ9 : m_si μ7 (0) 10 x8 = μ9 at hW
    refine lv_iload_n hx hb dX11_way_59 rfl (lv_at hl 0 rfl) ?_
    refine lv_if_eq (tgt := 74) hx hb dX11_way_60 (by decide) (fun c => False.elim (by revert c; decide)) (fun _ => ?_)
    refine lv_aload_n hx hb dX11_way_63 rfl (lv_at hl 1 rfl) ?_
    refine lv_aload_n hx hb dX11_way_64 rfl (lv_at hl 2 rfl) ?_
    refine m_getr hx hb hts hown hW (0) 3 (27) rfl rfl cw_11 rfl (by decide) k_X11_31 dX11_way_65 ?_
    refine m_getr hx hb hts hown hW (27) 0 (28) rfl rfl cw_4 rfl (by decide) k_X11_117 dX11_way_68 ?_
    refine m_aV hW (m_runV (As := [.ref (b + 28)]) (rest := []) hx hb hml hown hts hW (i3) (c_X5_copyFrom l D cy b μ9 i3 (i3 + 1) 800 28 29 800 q3a q3b rfl rfl (by omega) (by decide) (by rw [← hμ9, ← hμ7]; exact q5)) mi_X5_copyFrom k_X11_120 q3a rfl rfl hl.1 rfl (Nat.le_of_ble_eq_true rfl) dX11_way_71 ⟨Nat.le_of_ble_eq_true rfl, Nat.le_of_ble_eq_true rfl⟩ ⟨Nat.le_of_ble_eq_true rfl, Nat.le_of_ble_eq_true rfl⟩) (fun μ10 H locs q10 hW => ?_)
    refine lv_aload_n hx hb dX11_way_74 rfl (lv_at hl 2 rfl) ?_
    refine m_getr hx hb hts hown hW (0) 1 (23) rfl rfl cw_11 rfl (by decide) k_X11_21 dX11_way_75 ?_
    refine lv_iconst (v := 0) hx hb dX11_way_78 (by decide) ?_
    refine m_puti hx hb hts hown hW (23) 1 rfl rfl cw_5 tyX5_ok nmX5 rfl (by decide) k_X11_99 rfl rfl rfl dX11_way_79 (fun H locs hW _ => ?_)
    generalize hμ11 : m_si μ10 (23) 1 0 = μ11 at hW
    refine lv_iload_n hx hb dX11_way_82 rfl (lv_at hl 0 rfl) ?_
    exact m_iret hx hb hr hlocks hW (by decide) ((if_pos (by omega)).symm) dX11_way_83
set_option maxHeartbeats 4000000 in
set_option maxRecDepth 100000 in
theorem c_X11_fault (l : Launch) (D : va_G) (cy : Nat → ClassId) (b : Nat) (μ : mM) (h0 : μ.1 0 9 = 0) (h1 : μ.1 0 10 = -1) (k : Int32) : m_Ci l yX11_fault cX11_fault 2 ((some .int)) 0 D cy b LX μ [.ref (b + 0), .int k] (fun r ν => r = Ffault k) := by
  unfold m_Ci
  refine m_of (by decide) (Nat.le_of_ble_eq_true rfl) ?_
  intro p e s m below meth c hx hb hr hml hown hts hlocks _ hW ls hl
  have hown : s.vm.findClass RX11 = some m.cls := hown
  have hl : lv_has ls 2 [(0, .ref (b + 0)), (1, .int k)] := hl
  refine lv_iload_n hx hb dX11_fault_0 rfl (lv_at hl 1 rfl) ?_
  by_cases c1_0 : k.toInt = 0
  · refine lv_lookup (off := 27) (tgt := 28) hx hb dX11_fault_1 (by decide) (by rw [c1_0]; rfl) (by decide) ?_
    refine lv_aload_n hx hb dX11_fault_28 rfl (lv_at hl 0 rfl) ?_
    refine m_geti hx hb hts hown hW (0) 9 rfl rfl cw_11 rfl (by decide) k_X11_70 dX11_fault_29 ?_
    refine lv_topi (fun x2 ex2 => ?_)
    have ex2 : x2 = 0 := by rw [ex2]; exact h0
    subst ex2
    exact m_iret hx hb hr hlocks hW rfl ((if_pos (by omega)).symm) dX11_fault_32
  by_cases c1_1 : k.toInt = 1
  · refine lv_lookup (off := 32) (tgt := 33) hx hb dX11_fault_1 (by decide) (by rw [c1_1]; rfl) (by decide) ?_
    refine lv_aload_n hx hb dX11_fault_33 rfl (lv_at hl 0 rfl) ?_
    refine m_geti hx hb hts hown hW (0) 10 rfl rfl cw_11 rfl (by decide) k_X11_74 dX11_fault_34 ?_
    refine lv_topi (fun x3 ex3 => ?_)
    have ex3 : x3 = (-1) := by rw [ex3]; exact h1
    subst ex3
    exact m_iret hx hb hr hlocks hW rfl ((if_neg (by omega)).symm) dX11_fault_37
  refine lv_lookup (off := 37) (tgt := 38) hx hb dX11_fault_1 (by decide) (by simp [Op.lookupswitch.offset_cons, Op.lookupswitch.offset_nil, Ne.symm c1_0, Ne.symm c1_1]) (by decide) ?_
  refine lv_iconst (v := (-1)) hx hb dX11_fault_38 (by decide) ?_
  exact m_iret hx hb hr hlocks hW rfl ((if_neg (by omega)).symm) dX11_fault_39
set_option maxHeartbeats 4000000 in
set_option maxRecDepth 100000 in
theorem c_X3_isLaid (l : Launch) (D : va_G) (cy : Nat → ClassId) (b : Nat) (μ : mM) (h0 : μ.1 41 2 = 0) : m_Ci l yX3_isLaid cX3_isLaid 1 ((some .boolean)) 0 D cy b LX μ [.ref (b + 41)] (fun r ν => μ = ν ∧ r = 0) := by
  unfold m_Ci
  refine m_of (by decide) (Nat.le_of_ble_eq_true rfl) ?_
  intro p e s m below meth c hx hb hr hml hown hts hlocks _ hW ls hl
  have hown : s.vm.findClass RX3 = some m.cls := hown
  have hl : lv_has ls 1 [(0, .ref (b + 41))] := hl
  refine lv_aload_n hx hb dX3_isLaid_0 rfl (lv_at hl 0 rfl) ?_
  refine m_geti hx hb hts hown hW (41) 2 rfl rfl cw_3 rfl (by decide) k_X3_18 dX3_isLaid_1 ?_
  refine lv_topi (fun x1 ex1 => ?_)
  have ex1 : x1 = 0 := by rw [ex1]; exact h0
  subst ex1
  refine lv_if_le (tgt := 11) hx hb dX3_isLaid_4 (by decide) (fun _ => ?_) (fun c => False.elim (by revert c; decide))
  refine lv_iconst (v := 0) hx hb dX3_isLaid_11 (by decide) ?_
  exact m_iret hx hb hr hlocks hW (by decide) (⟨rfl, rfl⟩) dX3_isLaid_12
set_option maxHeartbeats 4000000 in
set_option maxRecDepth 100000 in
theorem c_X11_run (l : Launch) (D : va_G) (cy : Nat → ClassId) (b : Nat) (μ : mM) (h0 : μ.1 41 2 = 0) (k : Int32) : m_Ci l yX11_run cX11_run 3 ((some .int)) 2 D cy b LX μ [.ref (b + 0), .int k] (fun r ν => r = -1) := by
  unfold m_Ci
  refine m_of (by decide) (Nat.le_of_ble_eq_true rfl) ?_
  intro p e s m below meth c hx hb hr hml hown hts hlocks _ hW ls hl
  have hown : s.vm.findClass RX11 = some m.cls := hown
  have hl : lv_has ls 3 [(0, .ref (b + 0)), (1, .int k)] := hl
  refine lv_aload_n hx hb dX11_run_0 rfl (lv_at hl 0 rfl) ?_
  refine m_getr hx hb hts hown hW (0) 0 (1) rfl rfl cw_11 rfl (by decide) k_X11_10 dX11_run_1 ?_
  refine lv_iload_n hx hb dX11_run_4 rfl (lv_at hl 1 rfl) ?_
  refine m_aQ hW (m_runV (As := [.int k]) (rest := []) hx hb hml hown hts hW (1) (c_X10_programOf l D cy b μ k) mi_X10_programOf k_X11_105 rfl rfl rfl hl.1 rfl (Nat.le_of_ble_eq_true rfl) dX11_run_5 ⟨Nat.le_of_ble_eq_true rfl, Nat.le_of_ble_eq_true rfl⟩ ⟨Nat.le_of_ble_eq_true rfl, Nat.le_of_ble_eq_true rfl⟩) (fun μ1 H locs q1 hW => ?_) (fun i1 μ1 H locs q1 hW => ?_)
  · obtain ⟨q1_m, q1⟩ := q1
    subst q1_m
    have q1 : k.toInt < 0 ∨ 7 < k.toInt := by
      rcases q1 with ⟨-, h⟩ | ⟨_, h, -⟩
      · exact h
      · cases h
    refine lv_astore_nN (lv' := [(2, .null), (0, .ref (b + 0)), (1, .int k)]) hx hb dX11_run_8 rfl hl (by decide) rfl (fun ls hl => ?_)
    refine lv_aload_nN hx hb dX11_run_9 rfl (lv_at hl 0 rfl) ?_
    refine lv_ifnullN (tgt := 23) hx hb dX11_run_10 (by decide) ?_
    refine lv_iconst (v := (-1)) hx hb dX11_run_23 (by decide) ?_
    exact m_iret hx hb hr hlocks hW rfl (rfl) dX11_run_24
  · obtain ⟨q1_m, q1⟩ := q1
    subst q1_m
    obtain ⟨q1a, q1b, q1⟩ : LX[i1]? = some (.inl (5, [i1 + 1 + 3, 0])) ∧ LX[i1 + 1]? = some (.inr (0, 800, [])) ∧ 0 ≤ k.toInt ∧ k.toInt ≤ 7 := by
      rcases q1 with ⟨h, -⟩ | ⟨_, h, h1, h2, h3, h4⟩
      · cases h
      · cases h; exact ⟨h3, h4, h1, h2⟩
    refine lv_astore_n (lv' := [(2, .ref (b + i1)), (0, .ref (b + 0)), (1, .int k)]) hx hb dX11_run_8 rfl hl (by decide) rfl (fun ls hl => ?_)
    refine lv_aload_n hx hb dX11_run_9 rfl (lv_at hl 0 rfl) ?_
    refine lv_ifnull hx hb dX11_run_10 ?_
    refine lv_aload_n hx hb dX11_run_13 rfl (lv_at hl 1 rfl) ?_
    refine m_getr hx hb hts hown hW (0) 4 (41) rfl rfl cw_11 rfl (by decide) k_X11_38 dX11_run_14 ?_
    refine m_aI hW (m_runV (As := []) (rest := []) hx hb hml hown hts hW (41) (c_X3_isLaid l D cy b μ (h0)) mi_X3_isLaid k_X11_124 rfl rfl rfl hl.1 rfl (Nat.le_of_ble_eq_true rfl) dX11_run_17 ⟨Nat.le_of_ble_eq_true rfl, Nat.le_of_ble_eq_true rfl⟩ ⟨Nat.le_of_ble_eq_true rfl, Nat.le_of_ble_eq_true rfl⟩) (fun x2 μ2 H locs q2 hW => ?_)
    obtain ⟨q2_m, q2⟩ := q2
    subst q2_m
    subst q2
    refine lv_if_ne (tgt := 25) hx hb dX11_run_20 (by decide) (fun c => False.elim (by revert c; decide)) (fun _ => ?_)
    refine lv_iconst (v := (-1)) hx hb dX11_run_23 (by decide) ?_
    exact m_iret hx hb hr hlocks hW rfl (rfl) dX11_run_24
set_option maxHeartbeats 4000000 in
set_option maxRecDepth 100000 in
theorem c_X3_has (l : Launch) (D : va_G) (cy : Nat → ClassId) (b : Nat) (μ : mM) (h0 : μ.1 41 0 = 0) (k u : Int32) : m_Ci l yX3_has cX3_has 3 ((some .boolean)) 0 D cy b LX μ [.ref (b + 41), .int k, .int u] (fun r ν => μ = ν ∧ r = 0) := by
  unfold m_Ci
  refine m_of (by decide) (Nat.le_of_ble_eq_true rfl) ?_
  intro p e s m below meth c hx hb hr hml hown hts hlocks _ hW ls hl
  have hown : s.vm.findClass RX3 = some m.cls := hown
  have hl : lv_has ls 3 [(0, .ref (b + 41)), (1, .int k), (2, .int u)] := hl
  refine lv_iload_n hx hb dX3_has_0 rfl (lv_at hl 1 rfl) ?_
  refine lv_if_lt (tgt := 28) hx hb dX3_has_1 (by decide) (fun c1 => ?_) (fun c1 => ?_)
  · refine lv_iconst (v := 0) hx hb dX3_has_28 (by decide) ?_
    exact m_iret hx hb hr hlocks hW (by decide) (⟨rfl, rfl⟩) dX3_has_29
  · refine lv_iload_n hx hb dX3_has_4 rfl (lv_at hl 1 rfl) ?_
    refine lv_aload_n hx hb dX3_has_5 rfl (lv_at hl 0 rfl) ?_
    refine m_geti hx hb hts hown hW (41) 0 rfl rfl cw_3 rfl (by decide) k_X3_11 dX3_has_6 ?_
    refine lv_topi (fun x2 ex2 => ?_)
    have ex2 : x2 = 0 := by rw [ex2]; exact h0
    subst ex2
    refine lv_icmp_ge (tgt := 28) hx hb dX3_has_9 (by decide) (fun c3 => ?_) (fun c => absurd (Int32.not_lt.mp c1) c)
    refine lv_iconst (v := 0) hx hb dX3_has_28 (by decide) ?_
    exact m_iret hx hb hr hlocks hW (by decide) (⟨rfl, rfl⟩) dX3_has_29
set_option maxHeartbeats 4000000 in
set_option maxRecDepth 100000 in
theorem c_X11_cell (l : Launch) (D : va_G) (cy : Nat → ClassId) (b : Nat) (μ : mM) (h0 : μ.1 41 0 = 0) (k u v : Int32) : m_Ci l yX11_cell cX11_cell 5 ((some .int)) 1 D cy b LX μ [.ref (b + 0), .int k, .int u, .int v] (fun r ν => r = -1) := by
  unfold m_Ci
  refine m_of (by decide) (Nat.le_of_ble_eq_true rfl) ?_
  intro p e s m below meth c hx hb hr hml hown hts hlocks _ hW ls hl
  have hown : s.vm.findClass RX11 = some m.cls := hown
  have hl : lv_has ls 5 [(0, .ref (b + 0)), (1, .int k), (2, .int u), (3, .int v)] := hl
  refine lv_aload_n hx hb dX11_cell_0 rfl (lv_at hl 0 rfl) ?_
  refine m_getr hx hb hts hown hW (0) 4 (41) rfl rfl cw_11 rfl (by decide) k_X11_38 dX11_cell_1 ?_
  refine lv_iload_n hx hb dX11_cell_4 rfl (lv_at hl 1 rfl) ?_
  refine lv_iload_n hx hb dX11_cell_5 rfl (lv_at hl 2 rfl) ?_
  refine m_aI hW (m_runV (As := [.int k, .int u]) (rest := []) hx hb hml hown hts hW (41) (c_X3_has l D cy b μ h0 k u) mi_X3_has k_X11_132 rfl rfl rfl hl.1 rfl (Nat.le_of_ble_eq_true rfl) dX11_cell_6 ⟨Nat.le_of_ble_eq_true rfl, Nat.le_of_ble_eq_true rfl⟩ ⟨Nat.le_of_ble_eq_true rfl, Nat.le_of_ble_eq_true rfl⟩) (fun x1 μ1 H locs q1 hW => ?_)
  obtain ⟨q1_m, q1⟩ := q1
  subst q1_m
  subst q1
  refine lv_if_ne (tgt := 14) hx hb dX11_cell_9 (by decide) (fun c => False.elim (by revert c; decide)) (fun _ => ?_)
  refine lv_iconst (v := (-1)) hx hb dX11_cell_12 (by decide) ?_
  exact m_iret hx hb hr hlocks hW rfl (rfl) dX11_cell_13
set_option maxHeartbeats 4000000 in
set_option maxRecDepth 100000 in
theorem c_X11_look (l : Launch) (D : va_G) (cy : Nat → ClassId) (b : Nat) (μ : mM) (h0 : μ.1 41 2 = 0) (k : Int32) : m_Ci l yX11_look cX11_look 2 ((some .int)) 1 D cy b LX μ [.ref (b + 0), .int k] (fun r ν => r = Flook k) := by
  unfold m_Ci
  refine m_of (by decide) (Nat.le_of_ble_eq_true rfl) ?_
  intro p e s m below meth c hx hb hr hml hown hts hlocks _ hW ls hl
  have hown : s.vm.findClass RX11 = some m.cls := hown
  have hl : lv_has ls 2 [(0, .ref (b + 0)), (1, .int k)] := hl
  refine lv_iload_n hx hb dX11_look_0 rfl (lv_at hl 1 rfl) ?_
  refine lv_iconst (v := 0) hx hb dX11_look_1 (by decide) ?_
  refine lv_bipush (v := 13) hx hb dX11_look_2 (by decide) ?_
  refine m_aI hW (m_runS (As := [.int k, .int 0, .int 13]) (rest := []) hx hb hml hown hts hW (c_X11_within l D cy b LX μ k 0 13 0 13 (by decide) (by decide)) ms_X11_within k_X11_81 rfl hl.1 rfl (Nat.le_of_ble_eq_true rfl) dX11_look_4 ⟨Nat.le_of_ble_eq_true rfl, Nat.le_of_ble_eq_true rfl⟩ ⟨Nat.le_of_ble_eq_true rfl, Nat.le_of_ble_eq_true rfl⟩) (fun x1 μ1 H locs q1 hW => ?_)
  obtain ⟨q1_m, q1⟩ := q1
  subst q1_m
  rcases q1 with ⟨rfl, q1⟩ | ⟨rfl, q1⟩
  · refine lv_if_ne (tgt := 12) hx hb dX11_look_7 (by decide) (fun _ => ?_) (fun c => False.elim (by revert c; decide))
    refine lv_aload_n hx hb dX11_look_12 rfl (lv_at hl 0 rfl) ?_
    refine m_getr hx hb hts hown hW (0) 4 (41) rfl rfl cw_11 rfl (by decide) k_X11_38 dX11_look_13 ?_
    refine m_aI hW (m_runV (As := []) (rest := []) hx hb hml hown hts hW (41) (c_X3_isLaid l D cy b μ (h0)) mi_X3_isLaid k_X11_124 rfl rfl rfl hl.1 rfl (Nat.le_of_ble_eq_true rfl) dX11_look_16 ⟨Nat.le_of_ble_eq_true rfl, Nat.le_of_ble_eq_true rfl⟩ ⟨Nat.le_of_ble_eq_true rfl, Nat.le_of_ble_eq_true rfl⟩) (fun x2 μ2 H locs q2 hW => ?_)
    obtain ⟨q2_m, q2⟩ := q2
    subst q2_m
    subst q2
    refine lv_if_ne (tgt := 24) hx hb dX11_look_19 (by decide) (fun c => False.elim (by revert c; decide)) (fun _ => ?_)
    refine lv_iconst (v := 0) hx hb dX11_look_22 (by decide) ?_
    exact m_iret hx hb hr hlocks hW rfl ((if_pos (by omega)).symm) dX11_look_23
  · refine lv_if_ne (tgt := 12) hx hb dX11_look_7 (by decide) (fun c => False.elim (by revert c; decide)) (fun _ => ?_)
    refine lv_iconst (v := (-1)) hx hb dX11_look_10 (by decide) ?_
    exact m_iret hx hb hr hlocks hW rfl ((if_neg (by omega)).symm) dX11_look_11
set_option maxHeartbeats 4000000 in
set_option maxRecDepth 100000 in
theorem c_X3_heatInAll (l : Launch) (D : va_G) (cy : Nat → ClassId) (b : Nat) (μ : mM) (h0 : μ.1 41 2 = 0) : m_Cl l yX3_heatInAll cX3_heatInAll 4 ((some .long)) 0 D cy b LX μ [.ref (b + 41)] (fun r ν => μ = ν ∧ r = 0) := by
  unfold m_Cl
  refine m_of (by decide) (Nat.le_of_ble_eq_true rfl) ?_
  intro p e s m below meth c hx hb hr hml hown hts hlocks _ hW ls hl
  have hown : s.vm.findClass RX3 = some m.cls := hown
  have hl : lv_has ls 4 [(0, .ref (b + 41))] := hl
  refine lv_lconst (v := 0) hx hb dX3_heatInAll_0 (by decide) ?_
  refine lv_lstore_n (lv' := [(1, .long 0), (0, .ref (b + 41))]) hx hb dX3_heatInAll_1 rfl hl (by decide) rfl (fun ls hl => ?_)
  refine lv_iconst (v := 0) hx hb dX3_heatInAll_2 (by decide) ?_
  refine lv_istore_n (lv' := [(3, .int 0), (1, .long 0), (0, .ref (b + 41))]) hx hb dX3_heatInAll_3 rfl hl (by decide) rfl (fun ls hl => ?_)
  refine lv_iload_n hx hb dX3_heatInAll_4 rfl (lv_at hl 0 rfl) ?_
  refine lv_aload_n hx hb dX3_heatInAll_5 rfl (lv_at hl 2 rfl) ?_
  refine m_geti hx hb hts hown hW (41) 2 rfl rfl cw_3 rfl (by decide) k_X3_18 dX3_heatInAll_6 ?_
  refine lv_topi (fun x1 ex1 => ?_)
  have ex1 : x1 = 0 := by rw [ex1]; exact h0
  subst ex1
  refine lv_icmp_ge (tgt := 28) hx hb dX3_heatInAll_9 (by decide) (fun _ => ?_) (fun c => False.elim (by revert c; decide))
  refine lv_lload_n hx hb dX3_heatInAll_28 rfl (lv_at hl 1 rfl) ?_
  exact m_lret hx hb hr hlocks hW (⟨rfl, rfl⟩) dX3_heatInAll_29
set_option maxHeartbeats 4000000 in
set_option maxRecDepth 100000 in
theorem c_X11_heat (l : Launch) (D : va_G) (cy : Nat → ClassId) (b : Nat) (μ : mM) (h0 : μ.1 41 2 = 0) (h7 : μ.2 41 7 = 0) (h8 : μ.2 41 8 = 0) (h9 : μ.2 41 9 = 0) (k : Int32) : m_Cl l yX11_heat cX11_heat 2 ((some .long)) 1 D cy b LX μ [.ref (b + 0), .int k] (fun r ν => r = Fheat k) := by
  unfold m_Cl
  refine m_of (by decide) (Nat.le_of_ble_eq_true rfl) ?_
  intro p e s m below meth c hx hb hr hml hown hts hlocks _ hW ls hl
  have hown : s.vm.findClass RX11 = some m.cls := hown
  have hl : lv_has ls 2 [(0, .ref (b + 0)), (1, .int k)] := hl
  refine lv_iload_n hx hb dX11_heat_0 rfl (lv_at hl 1 rfl) ?_
  by_cases c1 : k.toInt < 0 ∨ 3 < k.toInt
  · refine lv_tableOut (tgt := 64) hx hb dX11_heat_1 c1 (by decide) ?_
    refine lv_ldc2 hx hb hown (hts _ k_X11_223) dX11_heat_64 ?_
    exact m_lret hx hb hr hlocks hW ((if_neg (by omega)).symm) dX11_heat_67
  · have q1 : k.toInt = 0 ∨ k.toInt = 1 ∨ k.toInt = 2 ∨ k.toInt = 3 := by omega
    rcases q1 with q1 | q1 | q1 | q1
    · refine lv_tableIn (off := 31) (tgt := 32) hx hb dX11_heat_1 (fun z => c1 (Or.inl z)) (fun z => c1 (Or.inr z)) (by rw [q1]; rfl) (by decide) ?_
      refine lv_aload_n hx hb dX11_heat_32 rfl (lv_at hl 0 rfl) ?_
      refine m_getr hx hb hts hown hW (0) 4 (41) rfl rfl cw_11 rfl (by decide) k_X11_38 dX11_heat_33 ?_
      refine m_getl hx hb hts hown hW (41) 7 rfl rfl cw_3 rfl (by decide) k_X11_209 dX11_heat_36 ?_
      refine lv_topl (fun x2 ex2 => ?_)
      have ex2 : x2 = 0 := by rw [ex2]; exact h7
      subst ex2
      exact m_lret hx hb hr hlocks hW ((if_pos (by omega)).symm) dX11_heat_39
    · refine lv_tableIn (off := 39) (tgt := 40) hx hb dX11_heat_1 (fun z => c1 (Or.inl z)) (fun z => c1 (Or.inr z)) (by rw [q1]; rfl) (by decide) ?_
      refine lv_aload_n hx hb dX11_heat_40 rfl (lv_at hl 0 rfl) ?_
      refine m_getr hx hb hts hown hW (0) 4 (41) rfl rfl cw_11 rfl (by decide) k_X11_38 dX11_heat_41 ?_
      refine m_aL hW (m_runV (As := []) (rest := []) hx hb hml hown hts hW (41) (c_X3_heatInAll l D cy b μ h0) mi_X3_heatInAll k_X11_213 rfl rfl rfl hl.1 rfl (Nat.le_of_ble_eq_true rfl) dX11_heat_44 ⟨Nat.le_of_ble_eq_true rfl, Nat.le_of_ble_eq_true rfl⟩ ⟨Nat.le_of_ble_eq_true rfl, Nat.le_of_ble_eq_true rfl⟩) (fun x3 μ3 H locs q3 hW => ?_)
      obtain ⟨q3_m, q3⟩ := q3
      subst q3_m
      subst q3
      exact m_lret hx hb hr hlocks hW ((if_pos (by omega)).symm) dX11_heat_47
    · refine lv_tableIn (off := 47) (tgt := 48) hx hb dX11_heat_1 (fun z => c1 (Or.inl z)) (fun z => c1 (Or.inr z)) (by rw [q1]; rfl) (by decide) ?_
      refine lv_aload_n hx hb dX11_heat_48 rfl (lv_at hl 0 rfl) ?_
      refine m_getr hx hb hts hown hW (0) 4 (41) rfl rfl cw_11 rfl (by decide) k_X11_38 dX11_heat_49 ?_
      refine m_getl hx hb hts hown hW (41) 8 rfl rfl cw_3 rfl (by decide) k_X11_217 dX11_heat_52 ?_
      refine lv_topl (fun x4 ex4 => ?_)
      have ex4 : x4 = 0 := by rw [ex4]; exact h8
      subst ex4
      exact m_lret hx hb hr hlocks hW ((if_pos (by omega)).symm) dX11_heat_55
    · refine lv_tableIn (off := 55) (tgt := 56) hx hb dX11_heat_1 (fun z => c1 (Or.inl z)) (fun z => c1 (Or.inr z)) (by rw [q1]; rfl) (by decide) ?_
      refine lv_aload_n hx hb dX11_heat_56 rfl (lv_at hl 0 rfl) ?_
      refine m_getr hx hb hts hown hW (0) 4 (41) rfl rfl cw_11 rfl (by decide) k_X11_38 dX11_heat_57 ?_
      refine m_getl hx hb hts hown hW (41) 9 rfl rfl cw_3 rfl (by decide) k_X11_220 dX11_heat_60 ?_
      refine lv_topl (fun x5 ex5 => ?_)
      have ex5 : x5 = 0 := by rw [ex5]; exact h9
      subst ex5
      exact m_lret hx hb hr hlocks hW ((if_pos (by omega)).symm) dX11_heat_63
set_option maxHeartbeats 4000000 in
set_option maxRecDepth 100000 in
theorem c_J6_bitCount_0f7a4 (l : Launch) (D : va_G) (cy : Nat → ClassId) (b : Nat) (μ : mM) (k : Int32) : m_Ci l yJ6_bitCount_0f7a4 cJ6_bitCount_0f7a4 1 ((some .int)) 0 D cy b LX μ [.int k] (fun r ν => μ = ν ∧ True) := by
  unfold m_Ci
  refine m_of (by decide) (Nat.le_of_ble_eq_true rfl) ?_
  intro p e s m below meth c hx hb hr hml hown hts hlocks _ hW ls hl
  have hown : s.vm.findClass RJ6 = some m.cls := hown
  have hl : lv_has ls 1 [(0, .int k)] := hl
  refine lv_iload_n hx hb dJ6_bitCount_0f7a4_0 rfl (lv_at hl 0 rfl) ?_
  refine lv_iload_n hx hb dJ6_bitCount_0f7a4_1 rfl (lv_at hl 0 rfl) ?_
  refine lv_iconst (v := 1) hx hb dJ6_bitCount_0f7a4_2 (by decide) ?_
  refine lv_iushr hx hb dJ6_bitCount_0f7a4_3 rfl ?_
  refine lv_topi (fun x1 ex1 => ?_)
  refine lv_ldcw hx hb hown (hts _ k_J6_265) dJ6_bitCount_0f7a4_4 ?_
  refine lv_iand hx hb dJ6_bitCount_0f7a4_7 ?_
  refine lv_topi (fun x2 ex2 => ?_)
  refine lv_isub hx hb dJ6_bitCount_0f7a4_8 ?_
  refine lv_topi (fun x3 ex3 => ?_)
  refine lv_istore_n (lv' := [(0, .int x3)]) hx hb dJ6_bitCount_0f7a4_9 rfl hl (by decide) rfl (fun ls hl => ?_)
  refine lv_iload_n hx hb dJ6_bitCount_0f7a4_10 rfl (lv_at hl 0 rfl) ?_
  refine lv_ldcw hx hb hown (hts _ k_J6_266) dJ6_bitCount_0f7a4_11 ?_
  refine lv_iand hx hb dJ6_bitCount_0f7a4_14 ?_
  refine lv_topi (fun x4 ex4 => ?_)
  refine lv_iload_n hx hb dJ6_bitCount_0f7a4_15 rfl (lv_at hl 0 rfl) ?_
  refine lv_iconst (v := 2) hx hb dJ6_bitCount_0f7a4_16 (by decide) ?_
  refine lv_iushr hx hb dJ6_bitCount_0f7a4_17 rfl ?_
  refine lv_topi (fun x5 ex5 => ?_)
  refine lv_ldcw hx hb hown (hts _ k_J6_266) dJ6_bitCount_0f7a4_18 ?_
  refine lv_iand hx hb dJ6_bitCount_0f7a4_21 ?_
  refine lv_topi (fun x6 ex6 => ?_)
  refine lv_iadd hx hb dJ6_bitCount_0f7a4_22 ?_
  refine lv_topi (fun x7 ex7 => ?_)
  refine lv_istore_n (lv' := [(0, .int x7)]) hx hb dJ6_bitCount_0f7a4_23 rfl hl (by decide) rfl (fun ls hl => ?_)
  refine lv_iload_n hx hb dJ6_bitCount_0f7a4_24 rfl (lv_at hl 0 rfl) ?_
  refine lv_iload_n hx hb dJ6_bitCount_0f7a4_25 rfl (lv_at hl 0 rfl) ?_
  refine lv_iconst (v := 4) hx hb dJ6_bitCount_0f7a4_26 (by decide) ?_
  refine lv_iushr hx hb dJ6_bitCount_0f7a4_27 rfl ?_
  refine lv_topi (fun x8 ex8 => ?_)
  refine lv_iadd hx hb dJ6_bitCount_0f7a4_28 ?_
  refine lv_topi (fun x9 ex9 => ?_)
  refine lv_ldcw hx hb hown (hts _ k_J6_267) dJ6_bitCount_0f7a4_29 ?_
  refine lv_iand hx hb dJ6_bitCount_0f7a4_32 ?_
  refine lv_topi (fun x10 ex10 => ?_)
  refine lv_istore_n (lv' := [(0, .int x10)]) hx hb dJ6_bitCount_0f7a4_33 rfl hl (by decide) rfl (fun ls hl => ?_)
  refine lv_iload_n hx hb dJ6_bitCount_0f7a4_34 rfl (lv_at hl 0 rfl) ?_
  refine lv_iload_n hx hb dJ6_bitCount_0f7a4_35 rfl (lv_at hl 0 rfl) ?_
  refine lv_bipush (v := 8) hx hb dJ6_bitCount_0f7a4_36 (by decide) ?_
  refine lv_iushr hx hb dJ6_bitCount_0f7a4_38 rfl ?_
  refine lv_topi (fun x11 ex11 => ?_)
  refine lv_iadd hx hb dJ6_bitCount_0f7a4_39 ?_
  refine lv_topi (fun x12 ex12 => ?_)
  refine lv_istore_n (lv' := [(0, .int x12)]) hx hb dJ6_bitCount_0f7a4_40 rfl hl (by decide) rfl (fun ls hl => ?_)
  refine lv_iload_n hx hb dJ6_bitCount_0f7a4_41 rfl (lv_at hl 0 rfl) ?_
  refine lv_iload_n hx hb dJ6_bitCount_0f7a4_42 rfl (lv_at hl 0 rfl) ?_
  refine lv_bipush (v := 16) hx hb dJ6_bitCount_0f7a4_43 (by decide) ?_
  refine lv_iushr hx hb dJ6_bitCount_0f7a4_45 rfl ?_
  refine lv_topi (fun x13 ex13 => ?_)
  refine lv_iadd hx hb dJ6_bitCount_0f7a4_46 ?_
  refine lv_topi (fun x14 ex14 => ?_)
  refine lv_istore_n (lv' := [(0, .int x14)]) hx hb dJ6_bitCount_0f7a4_47 rfl hl (by decide) rfl (fun ls hl => ?_)
  refine lv_iload_n hx hb dJ6_bitCount_0f7a4_48 rfl (lv_at hl 0 rfl) ?_
  refine lv_bipush (v := 63) hx hb dJ6_bitCount_0f7a4_49 (by decide) ?_
  refine lv_iand hx hb dJ6_bitCount_0f7a4_51 ?_
  refine lv_topi (fun x15 ex15 => ?_)
  exact m_iret hx hb hr hlocks hW rfl (⟨rfl, trivial⟩) dJ6_bitCount_0f7a4_52
set_option maxHeartbeats 4000000 in
set_option maxRecDepth 100000 in
theorem c_X11_order (l : Launch) (D : va_G) (cy : Nat → ClassId) (b : Nat) (μ : mM) (h0 : μ.1 41 2 = 0) (k u : Int32) : m_Ci l yX11_order cX11_order 4 ((some .int)) 1 D cy b LX μ [.ref (b + 0), .int k, .int u] (fun r ν => r = -1) := by
  unfold m_Ci
  refine m_of (by decide) (Nat.le_of_ble_eq_true rfl) ?_
  intro p e s m below meth c hx hb hr hml hown hts hlocks _ hW ls hl
  have hown : s.vm.findClass RX11 = some m.cls := hown
  have hl : lv_has ls 4 [(0, .ref (b + 0)), (1, .int k), (2, .int u)] := hl
  refine lv_iload_n hx hb dX11_order_0 rfl (lv_at hl 1 rfl) ?_
  refine lv_iconst (v := 1) hx hb dX11_order_1 (by decide) ?_
  refine lv_sipush (v := 255) hx hb dX11_order_2 (by decide) ?_
  refine m_aI hW (m_runS (As := [.int k, .int 1, .int 255]) (rest := []) hx hb hml hown hts hW (c_X11_within l D cy b LX μ k 1 255 1 255 (by decide) (by decide)) ms_X11_within k_X11_81 rfl hl.1 rfl (Nat.le_of_ble_eq_true rfl) dX11_order_5 ⟨Nat.le_of_ble_eq_true rfl, Nat.le_of_ble_eq_true rfl⟩ ⟨Nat.le_of_ble_eq_true rfl, Nat.le_of_ble_eq_true rfl⟩) (fun x1 μ1 H locs q1 hW => ?_)
  obtain ⟨q1_m, q1⟩ := q1
  subst q1_m
  rcases q1 with ⟨rfl, q1⟩ | ⟨rfl, q1⟩
  · refine lv_if_eq (tgt := 23) hx hb dX11_order_8 (by decide) (fun c => False.elim (by revert c; decide)) (fun _ => ?_)
    refine lv_iload_n hx hb dX11_order_11 rfl (lv_at hl 1 rfl) ?_
    refine m_aI hW (m_runS (As := [.int k]) (rest := []) hx hb hml hown hts hW (c_J6_bitCount_0f7a4 l D cy b μ k) ms_J6_bitCount_0f7a4 k_X11_225 rfl hl.1 rfl (Nat.le_of_ble_eq_true rfl) dX11_order_12 ⟨Nat.le_of_ble_eq_true rfl, Nat.le_of_ble_eq_true rfl⟩ ⟨Nat.le_of_ble_eq_true rfl, Nat.le_of_ble_eq_true rfl⟩) (fun x2 μ2 H locs q2 hW => ?_)
    obtain ⟨q2_m, q2⟩ := q2
    subst q2_m
    refine lv_iconst (v := 3) hx hb dX11_order_15 (by decide) ?_
    refine lv_icmp_gt (tgt := 23) hx hb dX11_order_16 (by decide) (fun c3 => ?_) (fun c3 => ?_)
    · refine lv_iconst (v := 0) hx hb dX11_order_23 (by decide) ?_
      refine lv_istore_n (lv' := [(3, .int 0), (0, .ref (b + 0)), (1, .int k), (2, .int u)]) hx hb dX11_order_24 rfl hl (by decide) rfl (fun ls hl => ?_)
      refine lv_iload_n hx hb dX11_order_25 rfl (lv_at hl 0 rfl) ?_
      refine lv_if_eq (tgt := 48) hx hb dX11_order_26 (by decide) (fun _ => ?_) (fun c => False.elim (by revert c; decide))
      refine lv_iconst (v := (-1)) hx hb dX11_order_48 (by decide) ?_
      exact m_iret hx hb hr hlocks hW rfl (rfl) dX11_order_49
    · refine lv_iconst (v := 1) hx hb dX11_order_19 (by decide) ?_
      refine lv_goto (tgt := 24) hx hb dX11_order_20 (by decide) ?_
      refine lv_istore_n (lv' := [(3, .int 1), (0, .ref (b + 0)), (1, .int k), (2, .int u)]) hx hb dX11_order_24 rfl hl (by decide) rfl (fun ls hl => ?_)
      refine lv_iload_n hx hb dX11_order_25 rfl (lv_at hl 0 rfl) ?_
      refine lv_if_eq (tgt := 48) hx hb dX11_order_26 (by decide) (fun c => False.elim (by revert c; decide)) (fun _ => ?_)
      refine lv_aload_n hx hb dX11_order_29 rfl (lv_at hl 1 rfl) ?_
      refine m_getr hx hb hts hown hW (0) 4 (41) rfl rfl cw_11 rfl (by decide) k_X11_38 dX11_order_30 ?_
      refine m_aI hW (m_runV (As := []) (rest := []) hx hb hml hown hts hW (41) (c_X3_isLaid l D cy b μ (h0)) mi_X3_isLaid k_X11_124 rfl rfl rfl hl.1 rfl (Nat.le_of_ble_eq_true rfl) dX11_order_33 ⟨Nat.le_of_ble_eq_true rfl, Nat.le_of_ble_eq_true rfl⟩ ⟨Nat.le_of_ble_eq_true rfl, Nat.le_of_ble_eq_true rfl⟩) (fun x4 μ4 H locs q4 hW => ?_)
      obtain ⟨q4_m, q4⟩ := q4
      subst q4_m
      subst q4
      refine lv_if_eq (tgt := 48) hx hb dX11_order_36 (by decide) (fun _ => ?_) (fun c => False.elim (by revert c; decide))
      refine lv_iconst (v := (-1)) hx hb dX11_order_48 (by decide) ?_
      exact m_iret hx hb hr hlocks hW rfl (rfl) dX11_order_49
  · refine lv_if_eq (tgt := 23) hx hb dX11_order_8 (by decide) (fun _ => ?_) (fun c => False.elim (by revert c; decide))
    refine lv_iconst (v := 0) hx hb dX11_order_23 (by decide) ?_
    refine lv_istore_n (lv' := [(3, .int 0), (0, .ref (b + 0)), (1, .int k), (2, .int u)]) hx hb dX11_order_24 rfl hl (by decide) rfl (fun ls hl => ?_)
    refine lv_iload_n hx hb dX11_order_25 rfl (lv_at hl 0 rfl) ?_
    refine lv_if_eq (tgt := 48) hx hb dX11_order_26 (by decide) (fun _ => ?_) (fun c => False.elim (by revert c; decide))
    refine lv_iconst (v := (-1)) hx hb dX11_order_48 (by decide) ?_
    exact m_iret hx hb hr hlocks hW rfl (rfl) dX11_order_49
set_option maxHeartbeats 4000000 in
set_option maxRecDepth 100000 in
theorem c_X11_speed (l : Launch) (D : va_G) (cy : Nat → ClassId) (b : Nat) (μ : mM) (h0 : μ.1 41 2 = 0) (k u : Int32) : m_Ci l yX11_speed cX11_speed 3 ((some .int)) 1 D cy b LX μ [.ref (b + 0), .int k, .int u] (fun r ν => r = -1) := by
  unfold m_Ci
  refine m_of (by decide) (Nat.le_of_ble_eq_true rfl) ?_
  intro p e s m below meth c hx hb hr hml hown hts hlocks _ hW ls hl
  have hown : s.vm.findClass RX11 = some m.cls := hown
  have hl : lv_has ls 3 [(0, .ref (b + 0)), (1, .int k), (2, .int u)] := hl
  refine lv_iload_n hx hb dX11_speed_0 rfl (lv_at hl 1 rfl) ?_
  refine lv_iconst (v := 0) hx hb dX11_speed_1 (by decide) ?_
  refine lv_iconst (v := 3) hx hb dX11_speed_2 (by decide) ?_
  refine m_aI hW (m_runS (As := [.int k, .int 0, .int 3]) (rest := []) hx hb hml hown hts hW (c_X11_within l D cy b LX μ k 0 3 0 3 (by decide) (by decide)) ms_X11_within k_X11_81 rfl hl.1 rfl (Nat.le_of_ble_eq_true rfl) dX11_speed_3 ⟨Nat.le_of_ble_eq_true rfl, Nat.le_of_ble_eq_true rfl⟩ ⟨Nat.le_of_ble_eq_true rfl, Nat.le_of_ble_eq_true rfl⟩) (fun x1 μ1 H locs q1 hW => ?_)
  obtain ⟨q1_m, q1⟩ := q1
  subst q1_m
  rcases q1 with ⟨rfl, q1⟩ | ⟨rfl, q1⟩
  · refine lv_if_eq (tgt := 29) hx hb dX11_speed_6 (by decide) (fun c => False.elim (by revert c; decide)) (fun _ => ?_)
    refine lv_iload_n hx hb dX11_speed_9 rfl (lv_at hl 2 rfl) ?_
    refine lv_iconst (v := 1) hx hb dX11_speed_10 (by decide) ?_
    refine lv_bipush (v := 15) hx hb dX11_speed_11 (by decide) ?_
    refine m_aI hW (m_runS (As := [.int u, .int 1, .int 15]) (rest := []) hx hb hml hown hts hW (c_X11_within l D cy b LX μ u 1 15 1 15 (by decide) (by decide)) ms_X11_within k_X11_81 rfl hl.1 rfl (Nat.le_of_ble_eq_true rfl) dX11_speed_13 ⟨Nat.le_of_ble_eq_true rfl, Nat.le_of_ble_eq_true rfl⟩ ⟨Nat.le_of_ble_eq_true rfl, Nat.le_of_ble_eq_true rfl⟩) (fun x2 μ2 H locs q2 hW => ?_)
    obtain ⟨q2_m, q2⟩ := q2
    subst q2_m
    rcases q2 with ⟨rfl, q2⟩ | ⟨rfl, q2⟩
    · refine lv_if_eq (tgt := 29) hx hb dX11_speed_16 (by decide) (fun c => False.elim (by revert c; decide)) (fun _ => ?_)
      refine lv_aload_n hx hb dX11_speed_19 rfl (lv_at hl 0 rfl) ?_
      refine m_getr hx hb hts hown hW (0) 4 (41) rfl rfl cw_11 rfl (by decide) k_X11_38 dX11_speed_20 ?_
      refine m_aI hW (m_runV (As := []) (rest := []) hx hb hml hown hts hW (41) (c_X3_isLaid l D cy b μ (h0)) mi_X3_isLaid k_X11_124 rfl rfl rfl hl.1 rfl (Nat.le_of_ble_eq_true rfl) dX11_speed_23 ⟨Nat.le_of_ble_eq_true rfl, Nat.le_of_ble_eq_true rfl⟩ ⟨Nat.le_of_ble_eq_true rfl, Nat.le_of_ble_eq_true rfl⟩) (fun x3 μ3 H locs q3 hW => ?_)
      obtain ⟨q3_m, q3⟩ := q3
      subst q3_m
      subst q3
      refine lv_if_ne (tgt := 31) hx hb dX11_speed_26 (by decide) (fun c => False.elim (by revert c; decide)) (fun _ => ?_)
      refine lv_iconst (v := (-1)) hx hb dX11_speed_29 (by decide) ?_
      exact m_iret hx hb hr hlocks hW rfl (rfl) dX11_speed_30
    · refine lv_if_eq (tgt := 29) hx hb dX11_speed_16 (by decide) (fun _ => ?_) (fun c => False.elim (by revert c; decide))
      refine lv_iconst (v := (-1)) hx hb dX11_speed_29 (by decide) ?_
      exact m_iret hx hb hr hlocks hW rfl (rfl) dX11_speed_30
  · refine lv_if_eq (tgt := 29) hx hb dX11_speed_6 (by decide) (fun _ => ?_) (fun c => False.elim (by revert c; decide))
    refine lv_iconst (v := (-1)) hx hb dX11_speed_29 (by decide) ?_
    exact m_iret hx hb hr hlocks hW rfl (rfl) dX11_speed_30
set_option maxHeartbeats 4000000 in
set_option maxRecDepth 100000 in
theorem c_X0_bestKind (l : Launch) (D : va_G) (cy : Nat → ClassId) (b : Nat) (μ : mM) (h0 : μ.1 71 4 = 1) (k u : Int32) : m_Ci l yX0_bestKind cX0_bestKind 7 ((some .int)) 1 D cy b LX μ [.ref (b + 71), .int k, .int u] (fun r ν => μ = ν ∧ True) := by
  unfold m_Ci
  refine m_of (by decide) (Nat.le_of_ble_eq_true rfl) ?_
  intro p e s m below meth c hx hb hr hml hown hts hlocks _ hW ls hl
  have hown : s.vm.findClass RX0 = some m.cls := hown
  have hl : lv_has ls 7 [(0, .ref (b + 71)), (1, .int k), (2, .int u)] := hl
  refine lv_iconst (v := 0) hx hb dX0_bestKind_0 (by decide) ?_
  refine lv_istore_n (lv' := [(3, .int 0), (0, .ref (b + 71)), (1, .int k), (2, .int u)]) hx hb dX0_bestKind_1 rfl hl (by decide) rfl (fun ls hl => ?_)
  refine lv_iconst (v := 0) hx hb dX0_bestKind_2 (by decide) ?_
  refine lv_istore (lv' := [(4, .int 0), (3, .int 0), (0, .ref (b + 71)), (1, .int k), (2, .int u)]) hx hb dX0_bestKind_3 hl (by decide) rfl (fun ls hl => ?_)
  refine lv_iload hx hb dX0_bestKind_5 (lv_at hl 0 rfl) ?_
  refine lv_aload_n hx hb dX0_bestKind_7 rfl (lv_at hl 2 rfl) ?_
  refine m_geti hx hb hts hown hW (71) 4 rfl rfl cw_0 rfl (by decide) k_X0_24 dX0_bestKind_8 ?_
  refine lv_topi (fun x1 ex1 => ?_)
  have ex1 : x1 = 1 := by rw [ex1]; exact h0
  subst ex1
  refine lv_icmp_ge (tgt := 100) hx hb dX0_bestKind_11 (by decide) (fun c => False.elim (by revert c; decide)) (fun _ => ?_)
  refine lv_aload_n hx hb dX0_bestKind_14 rfl (lv_at hl 2 rfl) ?_
  refine m_getr hx hb hts hown hW (71) 0 (72) rfl rfl cw_0 rfl (by decide) k_X0_11 dX0_bestKind_15 ?_
  refine lv_iload hx hb dX0_bestKind_18 (lv_at hl 0 rfl) ?_
  refine m_iald hx hb hW (72) rfl (vp_in_iff.mpr ⟨by decide, by decide⟩) dX0_bestKind_20 ?_
  refine lv_topi (fun x2 ex2 => ?_)
  refine lv_iload_n hx hb dX0_bestKind_21 rfl (lv_at hl 3 rfl) ?_
  refine lv_icmp_ne (tgt := 40) hx hb dX0_bestKind_22 (by decide) (fun c3 => ?_) (fun c3 => ?_)
  · refine lv_iconst (v := 0) hx hb dX0_bestKind_40 (by decide) ?_
    refine lv_istore (lv' := [(5, .int 0), (4, .int 0), (3, .int 0), (0, .ref (b + 71)), (1, .int k), (2, .int u)]) hx hb dX0_bestKind_41 hl (by decide) rfl (fun ls hl => ?_)
    refine lv_aload_n hx hb dX0_bestKind_43 rfl (lv_at hl 3 rfl) ?_
    refine m_getr hx hb hts hown hW (71) 0 (72) rfl rfl cw_0 rfl (by decide) k_X0_11 dX0_bestKind_44 ?_
    refine lv_iload hx hb dX0_bestKind_47 (lv_at hl 1 rfl) ?_
    refine m_iald hx hb hW (72) rfl (vp_in_iff.mpr ⟨by decide, by decide⟩) dX0_bestKind_49 ?_
    refine lv_topi (fun x4 ex4 => ?_)
    refine lv_iload_n hx hb dX0_bestKind_50 rfl (lv_at hl 5 rfl) ?_
    refine lv_icmp_ne (tgt := 69) hx hb dX0_bestKind_51 (by decide) (fun c5 => ?_) (fun c5 => ?_)
    · refine lv_iconst (v := 0) hx hb dX0_bestKind_69 (by decide) ?_
      refine lv_istore (lv' := [(6, .int 0), (5, .int 0), (4, .int 0), (3, .int 0), (0, .ref (b + 71)), (1, .int k), (2, .int u)]) hx hb dX0_bestKind_70 hl (by decide) rfl (fun ls hl => ?_)
      refine lv_iload hx hb dX0_bestKind_72 (lv_at hl 1 rfl) ?_
      refine lv_if_ne (tgt := 82) hx hb dX0_bestKind_74 (by decide) (fun c => False.elim (by revert c; decide)) (fun _ => ?_)
      refine lv_iload hx hb dX0_bestKind_77 (lv_at hl 0 rfl) ?_
      refine lv_if_eq (tgt := 94) hx hb dX0_bestKind_79 (by decide) (fun _ => ?_) (fun c => False.elim (by revert c; decide))
      refine lv_iinc (v := 1) (lv' := [(4, .int 1), (6, .int 0), (5, .int 0), (3, .int 0), (0, .ref (b + 71)), (1, .int k), (2, .int u)]) hx hb dX0_bestKind_94 hl (k := 2) rfl (by decide) (by decide) rfl (fun ls hl => ?_)
      refine lv_goto (tgt := 5) hx hb dX0_bestKind_97 (by decide) ?_
      refine lv_iload hx hb dX0_bestKind_5 (lv_at hl 0 rfl) ?_
      refine lv_aload_n hx hb dX0_bestKind_7 rfl (lv_at hl 4 rfl) ?_
      refine m_geti hx hb hts hown hW (71) 4 rfl rfl cw_0 rfl (by decide) k_X0_24 dX0_bestKind_8 ?_
      refine lv_topi (fun x6 ex6 => ?_)
      have ex6 : x6 = 1 := by rw [ex6]; exact h0
      subst ex6
      refine lv_icmp_ge (tgt := 100) hx hb dX0_bestKind_11 (by decide) (fun _ => ?_) (fun c => False.elim (by revert c; decide))
      refine lv_iload_n hx hb dX0_bestKind_100 rfl (lv_at hl 3 rfl) ?_
      exact m_iret hx hb hr hlocks hW rfl (⟨rfl, trivial⟩) dX0_bestKind_101
    · refine lv_aload_n hx hb dX0_bestKind_54 rfl (lv_at hl 3 rfl) ?_
      refine m_getr hx hb hts hown hW (71) 1 (73) rfl rfl cw_0 rfl (by decide) k_X0_15 dX0_bestKind_55 ?_
      refine lv_iload hx hb dX0_bestKind_58 (lv_at hl 1 rfl) ?_
      refine m_iald hx hb hW (73) rfl (vp_in_iff.mpr ⟨by decide, by decide⟩) dX0_bestKind_60 ?_
      refine lv_topi (fun x7 ex7 => ?_)
      refine lv_iload_n hx hb dX0_bestKind_61 rfl (lv_at hl 4 rfl) ?_
      refine lv_icmp_ne (tgt := 69) hx hb dX0_bestKind_62 (by decide) (fun c8 => ?_) (fun c8 => ?_)
      · refine lv_iconst (v := 0) hx hb dX0_bestKind_69 (by decide) ?_
        refine lv_istore (lv' := [(6, .int 0), (5, .int 0), (4, .int 0), (3, .int 0), (0, .ref (b + 71)), (1, .int k), (2, .int u)]) hx hb dX0_bestKind_70 hl (by decide) rfl (fun ls hl => ?_)
        refine lv_iload hx hb dX0_bestKind_72 (lv_at hl 1 rfl) ?_
        refine lv_if_ne (tgt := 82) hx hb dX0_bestKind_74 (by decide) (fun c => False.elim (by revert c; decide)) (fun _ => ?_)
        refine lv_iload hx hb dX0_bestKind_77 (lv_at hl 0 rfl) ?_
        refine lv_if_eq (tgt := 94) hx hb dX0_bestKind_79 (by decide) (fun _ => ?_) (fun c => False.elim (by revert c; decide))
        refine lv_iinc (v := 1) (lv' := [(4, .int 1), (6, .int 0), (5, .int 0), (3, .int 0), (0, .ref (b + 71)), (1, .int k), (2, .int u)]) hx hb dX0_bestKind_94 hl (k := 2) rfl (by decide) (by decide) rfl (fun ls hl => ?_)
        refine lv_goto (tgt := 5) hx hb dX0_bestKind_97 (by decide) ?_
        refine lv_iload hx hb dX0_bestKind_5 (lv_at hl 0 rfl) ?_
        refine lv_aload_n hx hb dX0_bestKind_7 rfl (lv_at hl 4 rfl) ?_
        refine m_geti hx hb hts hown hW (71) 4 rfl rfl cw_0 rfl (by decide) k_X0_24 dX0_bestKind_8 ?_
        refine lv_topi (fun x9 ex9 => ?_)
        have ex9 : x9 = 1 := by rw [ex9]; exact h0
        subst ex9
        refine lv_icmp_ge (tgt := 100) hx hb dX0_bestKind_11 (by decide) (fun _ => ?_) (fun c => False.elim (by revert c; decide))
        refine lv_iload_n hx hb dX0_bestKind_100 rfl (lv_at hl 3 rfl) ?_
        exact m_iret hx hb hr hlocks hW rfl (⟨rfl, trivial⟩) dX0_bestKind_101
      · refine lv_iconst (v := 1) hx hb dX0_bestKind_65 (by decide) ?_
        refine lv_goto (tgt := 70) hx hb dX0_bestKind_66 (by decide) ?_
        refine lv_istore (lv' := [(6, .int 1), (5, .int 0), (4, .int 0), (3, .int 0), (0, .ref (b + 71)), (1, .int k), (2, .int u)]) hx hb dX0_bestKind_70 hl (by decide) rfl (fun ls hl => ?_)
        refine lv_iload hx hb dX0_bestKind_72 (lv_at hl 1 rfl) ?_
        refine lv_if_ne (tgt := 82) hx hb dX0_bestKind_74 (by decide) (fun c => False.elim (by revert c; decide)) (fun _ => ?_)
        refine lv_iload hx hb dX0_bestKind_77 (lv_at hl 0 rfl) ?_
        refine lv_if_eq (tgt := 94) hx hb dX0_bestKind_79 (by decide) (fun c => False.elim (by revert c; decide)) (fun _ => ?_)
        refine lv_iload_n hx hb dX0_bestKind_82 rfl (lv_at hl 3 rfl) ?_
        refine lv_aload_n hx hb dX0_bestKind_83 rfl (lv_at hl 4 rfl) ?_
        refine m_getr hx hb hts hown hW (71) 2 (74) rfl rfl cw_0 rfl (by decide) k_X0_18 dX0_bestKind_84 ?_
        refine lv_iload hx hb dX0_bestKind_87 (lv_at hl 2 rfl) ?_
        refine m_iald hx hb hW (74) rfl (vp_in_iff.mpr ⟨by decide, by decide⟩) dX0_bestKind_89 ?_
        refine lv_topi (fun x10 ex10 => ?_)
        refine va_mmax hx hb (hml.trans hl.1.symm) hown (hts _ k_X0_42) (hts _ kM_max_s) (hts _ kM_n) (hts _ kM_max_c) (Nat.le_of_ble_eq_true rfl) (Nat.le_of_ble_eq_true rfl) (Nat.le_of_ble_eq_true rfl) (Nat.le_of_ble_eq_true rfl) dX0_bestKind_90 ?_
        refine lv_topi (fun x11 ex11 => ?_)
        refine lv_istore_n (lv' := [(3, .int x11), (6, .int 1), (5, .int 0), (4, .int 0), (0, .ref (b + 71)), (1, .int k), (2, .int u)]) hx hb dX0_bestKind_93 rfl hl (by decide) rfl (fun ls hl => ?_)
        refine lv_iinc (v := 1) (lv' := [(4, .int 1), (3, .int x11), (6, .int 1), (5, .int 0), (0, .ref (b + 71)), (1, .int k), (2, .int u)]) hx hb dX0_bestKind_94 hl (k := 3) rfl (by decide) (by decide) rfl (fun ls hl => ?_)
        refine lv_goto (tgt := 5) hx hb dX0_bestKind_97 (by decide) ?_
        refine lv_iload hx hb dX0_bestKind_5 (lv_at hl 0 rfl) ?_
        refine lv_aload_n hx hb dX0_bestKind_7 rfl (lv_at hl 4 rfl) ?_
        refine m_geti hx hb hts hown hW (71) 4 rfl rfl cw_0 rfl (by decide) k_X0_24 dX0_bestKind_8 ?_
        refine lv_topi (fun x12 ex12 => ?_)
        have ex12 : x12 = 1 := by rw [ex12]; exact h0
        subst ex12
        refine lv_icmp_ge (tgt := 100) hx hb dX0_bestKind_11 (by decide) (fun _ => ?_) (fun c => False.elim (by revert c; decide))
        refine lv_iload_n hx hb dX0_bestKind_100 rfl (lv_at hl 1 rfl) ?_
        exact m_iret hx hb hr hlocks hW rfl (⟨rfl, trivial⟩) dX0_bestKind_101
  · refine lv_aload_n hx hb dX0_bestKind_25 rfl (lv_at hl 2 rfl) ?_
    refine m_getr hx hb hts hown hW (71) 1 (73) rfl rfl cw_0 rfl (by decide) k_X0_15 dX0_bestKind_26 ?_
    refine lv_iload hx hb dX0_bestKind_29 (lv_at hl 0 rfl) ?_
    refine m_iald hx hb hW (73) rfl (vp_in_iff.mpr ⟨by decide, by decide⟩) dX0_bestKind_31 ?_
    refine lv_topi (fun x13 ex13 => ?_)
    refine lv_iload_n hx hb dX0_bestKind_32 rfl (lv_at hl 4 rfl) ?_
    refine lv_icmp_ne (tgt := 40) hx hb dX0_bestKind_33 (by decide) (fun c14 => ?_) (fun c14 => ?_)
    · refine lv_iconst (v := 0) hx hb dX0_bestKind_40 (by decide) ?_
      refine lv_istore (lv' := [(5, .int 0), (4, .int 0), (3, .int 0), (0, .ref (b + 71)), (1, .int k), (2, .int u)]) hx hb dX0_bestKind_41 hl (by decide) rfl (fun ls hl => ?_)
      refine lv_aload_n hx hb dX0_bestKind_43 rfl (lv_at hl 3 rfl) ?_
      refine m_getr hx hb hts hown hW (71) 0 (72) rfl rfl cw_0 rfl (by decide) k_X0_11 dX0_bestKind_44 ?_
      refine lv_iload hx hb dX0_bestKind_47 (lv_at hl 1 rfl) ?_
      refine m_iald hx hb hW (72) rfl (vp_in_iff.mpr ⟨by decide, by decide⟩) dX0_bestKind_49 ?_
      refine lv_topi (fun x15 ex15 => ?_)
      refine lv_iload_n hx hb dX0_bestKind_50 rfl (lv_at hl 5 rfl) ?_
      refine lv_icmp_ne (tgt := 69) hx hb dX0_bestKind_51 (by decide) (fun c16 => ?_) (fun c16 => ?_)
      · refine lv_iconst (v := 0) hx hb dX0_bestKind_69 (by decide) ?_
        refine lv_istore (lv' := [(6, .int 0), (5, .int 0), (4, .int 0), (3, .int 0), (0, .ref (b + 71)), (1, .int k), (2, .int u)]) hx hb dX0_bestKind_70 hl (by decide) rfl (fun ls hl => ?_)
        refine lv_iload hx hb dX0_bestKind_72 (lv_at hl 1 rfl) ?_
        refine lv_if_ne (tgt := 82) hx hb dX0_bestKind_74 (by decide) (fun c => False.elim (by revert c; decide)) (fun _ => ?_)
        refine lv_iload hx hb dX0_bestKind_77 (lv_at hl 0 rfl) ?_
        refine lv_if_eq (tgt := 94) hx hb dX0_bestKind_79 (by decide) (fun _ => ?_) (fun c => False.elim (by revert c; decide))
        refine lv_iinc (v := 1) (lv' := [(4, .int 1), (6, .int 0), (5, .int 0), (3, .int 0), (0, .ref (b + 71)), (1, .int k), (2, .int u)]) hx hb dX0_bestKind_94 hl (k := 2) rfl (by decide) (by decide) rfl (fun ls hl => ?_)
        refine lv_goto (tgt := 5) hx hb dX0_bestKind_97 (by decide) ?_
        refine lv_iload hx hb dX0_bestKind_5 (lv_at hl 0 rfl) ?_
        refine lv_aload_n hx hb dX0_bestKind_7 rfl (lv_at hl 4 rfl) ?_
        refine m_geti hx hb hts hown hW (71) 4 rfl rfl cw_0 rfl (by decide) k_X0_24 dX0_bestKind_8 ?_
        refine lv_topi (fun x17 ex17 => ?_)
        have ex17 : x17 = 1 := by rw [ex17]; exact h0
        subst ex17
        refine lv_icmp_ge (tgt := 100) hx hb dX0_bestKind_11 (by decide) (fun _ => ?_) (fun c => False.elim (by revert c; decide))
        refine lv_iload_n hx hb dX0_bestKind_100 rfl (lv_at hl 3 rfl) ?_
        exact m_iret hx hb hr hlocks hW rfl (⟨rfl, trivial⟩) dX0_bestKind_101
      · refine lv_aload_n hx hb dX0_bestKind_54 rfl (lv_at hl 3 rfl) ?_
        refine m_getr hx hb hts hown hW (71) 1 (73) rfl rfl cw_0 rfl (by decide) k_X0_15 dX0_bestKind_55 ?_
        refine lv_iload hx hb dX0_bestKind_58 (lv_at hl 1 rfl) ?_
        refine m_iald hx hb hW (73) rfl (vp_in_iff.mpr ⟨by decide, by decide⟩) dX0_bestKind_60 ?_
        refine lv_topi (fun x18 ex18 => ?_)
        refine lv_iload_n hx hb dX0_bestKind_61 rfl (lv_at hl 4 rfl) ?_
        refine lv_icmp_ne (tgt := 69) hx hb dX0_bestKind_62 (by decide) (fun c19 => ?_) (fun c19 => ?_)
        · refine lv_iconst (v := 0) hx hb dX0_bestKind_69 (by decide) ?_
          refine lv_istore (lv' := [(6, .int 0), (5, .int 0), (4, .int 0), (3, .int 0), (0, .ref (b + 71)), (1, .int k), (2, .int u)]) hx hb dX0_bestKind_70 hl (by decide) rfl (fun ls hl => ?_)
          refine lv_iload hx hb dX0_bestKind_72 (lv_at hl 1 rfl) ?_
          refine lv_if_ne (tgt := 82) hx hb dX0_bestKind_74 (by decide) (fun c => False.elim (by revert c; decide)) (fun _ => ?_)
          refine lv_iload hx hb dX0_bestKind_77 (lv_at hl 0 rfl) ?_
          refine lv_if_eq (tgt := 94) hx hb dX0_bestKind_79 (by decide) (fun _ => ?_) (fun c => False.elim (by revert c; decide))
          refine lv_iinc (v := 1) (lv' := [(4, .int 1), (6, .int 0), (5, .int 0), (3, .int 0), (0, .ref (b + 71)), (1, .int k), (2, .int u)]) hx hb dX0_bestKind_94 hl (k := 2) rfl (by decide) (by decide) rfl (fun ls hl => ?_)
          refine lv_goto (tgt := 5) hx hb dX0_bestKind_97 (by decide) ?_
          refine lv_iload hx hb dX0_bestKind_5 (lv_at hl 0 rfl) ?_
          refine lv_aload_n hx hb dX0_bestKind_7 rfl (lv_at hl 4 rfl) ?_
          refine m_geti hx hb hts hown hW (71) 4 rfl rfl cw_0 rfl (by decide) k_X0_24 dX0_bestKind_8 ?_
          refine lv_topi (fun x20 ex20 => ?_)
          have ex20 : x20 = 1 := by rw [ex20]; exact h0
          subst ex20
          refine lv_icmp_ge (tgt := 100) hx hb dX0_bestKind_11 (by decide) (fun _ => ?_) (fun c => False.elim (by revert c; decide))
          refine lv_iload_n hx hb dX0_bestKind_100 rfl (lv_at hl 3 rfl) ?_
          exact m_iret hx hb hr hlocks hW rfl (⟨rfl, trivial⟩) dX0_bestKind_101
        · refine lv_iconst (v := 1) hx hb dX0_bestKind_65 (by decide) ?_
          refine lv_goto (tgt := 70) hx hb dX0_bestKind_66 (by decide) ?_
          refine lv_istore (lv' := [(6, .int 1), (5, .int 0), (4, .int 0), (3, .int 0), (0, .ref (b + 71)), (1, .int k), (2, .int u)]) hx hb dX0_bestKind_70 hl (by decide) rfl (fun ls hl => ?_)
          refine lv_iload hx hb dX0_bestKind_72 (lv_at hl 1 rfl) ?_
          refine lv_if_ne (tgt := 82) hx hb dX0_bestKind_74 (by decide) (fun c => False.elim (by revert c; decide)) (fun _ => ?_)
          refine lv_iload hx hb dX0_bestKind_77 (lv_at hl 0 rfl) ?_
          refine lv_if_eq (tgt := 94) hx hb dX0_bestKind_79 (by decide) (fun c => False.elim (by revert c; decide)) (fun _ => ?_)
          refine lv_iload_n hx hb dX0_bestKind_82 rfl (lv_at hl 3 rfl) ?_
          refine lv_aload_n hx hb dX0_bestKind_83 rfl (lv_at hl 4 rfl) ?_
          refine m_getr hx hb hts hown hW (71) 2 (74) rfl rfl cw_0 rfl (by decide) k_X0_18 dX0_bestKind_84 ?_
          refine lv_iload hx hb dX0_bestKind_87 (lv_at hl 2 rfl) ?_
          refine m_iald hx hb hW (74) rfl (vp_in_iff.mpr ⟨by decide, by decide⟩) dX0_bestKind_89 ?_
          refine lv_topi (fun x21 ex21 => ?_)
          refine va_mmax hx hb (hml.trans hl.1.symm) hown (hts _ k_X0_42) (hts _ kM_max_s) (hts _ kM_n) (hts _ kM_max_c) (Nat.le_of_ble_eq_true rfl) (Nat.le_of_ble_eq_true rfl) (Nat.le_of_ble_eq_true rfl) (Nat.le_of_ble_eq_true rfl) dX0_bestKind_90 ?_
          refine lv_topi (fun x22 ex22 => ?_)
          refine lv_istore_n (lv' := [(3, .int x22), (6, .int 1), (5, .int 0), (4, .int 0), (0, .ref (b + 71)), (1, .int k), (2, .int u)]) hx hb dX0_bestKind_93 rfl hl (by decide) rfl (fun ls hl => ?_)
          refine lv_iinc (v := 1) (lv' := [(4, .int 1), (3, .int x22), (6, .int 1), (5, .int 0), (0, .ref (b + 71)), (1, .int k), (2, .int u)]) hx hb dX0_bestKind_94 hl (k := 3) rfl (by decide) (by decide) rfl (fun ls hl => ?_)
          refine lv_goto (tgt := 5) hx hb dX0_bestKind_97 (by decide) ?_
          refine lv_iload hx hb dX0_bestKind_5 (lv_at hl 0 rfl) ?_
          refine lv_aload_n hx hb dX0_bestKind_7 rfl (lv_at hl 4 rfl) ?_
          refine m_geti hx hb hts hown hW (71) 4 rfl rfl cw_0 rfl (by decide) k_X0_24 dX0_bestKind_8 ?_
          refine lv_topi (fun x23 ex23 => ?_)
          have ex23 : x23 = 1 := by rw [ex23]; exact h0
          subst ex23
          refine lv_icmp_ge (tgt := 100) hx hb dX0_bestKind_11 (by decide) (fun _ => ?_) (fun c => False.elim (by revert c; decide))
          refine lv_iload_n hx hb dX0_bestKind_100 rfl (lv_at hl 1 rfl) ?_
          exact m_iret hx hb hr hlocks hW rfl (⟨rfl, trivial⟩) dX0_bestKind_101
    · refine lv_iconst (v := 1) hx hb dX0_bestKind_36 (by decide) ?_
      refine lv_goto (tgt := 41) hx hb dX0_bestKind_37 (by decide) ?_
      refine lv_istore (lv' := [(5, .int 1), (4, .int 0), (3, .int 0), (0, .ref (b + 71)), (1, .int k), (2, .int u)]) hx hb dX0_bestKind_41 hl (by decide) rfl (fun ls hl => ?_)
      refine lv_aload_n hx hb dX0_bestKind_43 rfl (lv_at hl 3 rfl) ?_
      refine m_getr hx hb hts hown hW (71) 0 (72) rfl rfl cw_0 rfl (by decide) k_X0_11 dX0_bestKind_44 ?_
      refine lv_iload hx hb dX0_bestKind_47 (lv_at hl 1 rfl) ?_
      refine m_iald hx hb hW (72) rfl (vp_in_iff.mpr ⟨by decide, by decide⟩) dX0_bestKind_49 ?_
      refine lv_topi (fun x24 ex24 => ?_)
      refine lv_iload_n hx hb dX0_bestKind_50 rfl (lv_at hl 5 rfl) ?_
      refine lv_icmp_ne (tgt := 69) hx hb dX0_bestKind_51 (by decide) (fun c25 => ?_) (fun c25 => ?_)
      · refine lv_iconst (v := 0) hx hb dX0_bestKind_69 (by decide) ?_
        refine lv_istore (lv' := [(6, .int 0), (5, .int 1), (4, .int 0), (3, .int 0), (0, .ref (b + 71)), (1, .int k), (2, .int u)]) hx hb dX0_bestKind_70 hl (by decide) rfl (fun ls hl => ?_)
        refine lv_iload hx hb dX0_bestKind_72 (lv_at hl 1 rfl) ?_
        refine lv_if_ne (tgt := 82) hx hb dX0_bestKind_74 (by decide) (fun _ => ?_) (fun c => False.elim (by revert c; decide))
        refine lv_iload_n hx hb dX0_bestKind_82 rfl (lv_at hl 3 rfl) ?_
        refine lv_aload_n hx hb dX0_bestKind_83 rfl (lv_at hl 4 rfl) ?_
        refine m_getr hx hb hts hown hW (71) 2 (74) rfl rfl cw_0 rfl (by decide) k_X0_18 dX0_bestKind_84 ?_
        refine lv_iload hx hb dX0_bestKind_87 (lv_at hl 2 rfl) ?_
        refine m_iald hx hb hW (74) rfl (vp_in_iff.mpr ⟨by decide, by decide⟩) dX0_bestKind_89 ?_
        refine lv_topi (fun x26 ex26 => ?_)
        refine va_mmax hx hb (hml.trans hl.1.symm) hown (hts _ k_X0_42) (hts _ kM_max_s) (hts _ kM_n) (hts _ kM_max_c) (Nat.le_of_ble_eq_true rfl) (Nat.le_of_ble_eq_true rfl) (Nat.le_of_ble_eq_true rfl) (Nat.le_of_ble_eq_true rfl) dX0_bestKind_90 ?_
        refine lv_topi (fun x27 ex27 => ?_)
        refine lv_istore_n (lv' := [(3, .int x27), (6, .int 0), (5, .int 1), (4, .int 0), (0, .ref (b + 71)), (1, .int k), (2, .int u)]) hx hb dX0_bestKind_93 rfl hl (by decide) rfl (fun ls hl => ?_)
        refine lv_iinc (v := 1) (lv' := [(4, .int 1), (3, .int x27), (6, .int 0), (5, .int 1), (0, .ref (b + 71)), (1, .int k), (2, .int u)]) hx hb dX0_bestKind_94 hl (k := 3) rfl (by decide) (by decide) rfl (fun ls hl => ?_)
        refine lv_goto (tgt := 5) hx hb dX0_bestKind_97 (by decide) ?_
        refine lv_iload hx hb dX0_bestKind_5 (lv_at hl 0 rfl) ?_
        refine lv_aload_n hx hb dX0_bestKind_7 rfl (lv_at hl 4 rfl) ?_
        refine m_geti hx hb hts hown hW (71) 4 rfl rfl cw_0 rfl (by decide) k_X0_24 dX0_bestKind_8 ?_
        refine lv_topi (fun x28 ex28 => ?_)
        have ex28 : x28 = 1 := by rw [ex28]; exact h0
        subst ex28
        refine lv_icmp_ge (tgt := 100) hx hb dX0_bestKind_11 (by decide) (fun _ => ?_) (fun c => False.elim (by revert c; decide))
        refine lv_iload_n hx hb dX0_bestKind_100 rfl (lv_at hl 1 rfl) ?_
        exact m_iret hx hb hr hlocks hW rfl (⟨rfl, trivial⟩) dX0_bestKind_101
      · refine lv_aload_n hx hb dX0_bestKind_54 rfl (lv_at hl 3 rfl) ?_
        refine m_getr hx hb hts hown hW (71) 1 (73) rfl rfl cw_0 rfl (by decide) k_X0_15 dX0_bestKind_55 ?_
        refine lv_iload hx hb dX0_bestKind_58 (lv_at hl 1 rfl) ?_
        refine m_iald hx hb hW (73) rfl (vp_in_iff.mpr ⟨by decide, by decide⟩) dX0_bestKind_60 ?_
        refine lv_topi (fun x29 ex29 => ?_)
        refine lv_iload_n hx hb dX0_bestKind_61 rfl (lv_at hl 4 rfl) ?_
        refine lv_icmp_ne (tgt := 69) hx hb dX0_bestKind_62 (by decide) (fun c30 => ?_) (fun c30 => ?_)
        · refine lv_iconst (v := 0) hx hb dX0_bestKind_69 (by decide) ?_
          refine lv_istore (lv' := [(6, .int 0), (5, .int 1), (4, .int 0), (3, .int 0), (0, .ref (b + 71)), (1, .int k), (2, .int u)]) hx hb dX0_bestKind_70 hl (by decide) rfl (fun ls hl => ?_)
          refine lv_iload hx hb dX0_bestKind_72 (lv_at hl 1 rfl) ?_
          refine lv_if_ne (tgt := 82) hx hb dX0_bestKind_74 (by decide) (fun _ => ?_) (fun c => False.elim (by revert c; decide))
          refine lv_iload_n hx hb dX0_bestKind_82 rfl (lv_at hl 3 rfl) ?_
          refine lv_aload_n hx hb dX0_bestKind_83 rfl (lv_at hl 4 rfl) ?_
          refine m_getr hx hb hts hown hW (71) 2 (74) rfl rfl cw_0 rfl (by decide) k_X0_18 dX0_bestKind_84 ?_
          refine lv_iload hx hb dX0_bestKind_87 (lv_at hl 2 rfl) ?_
          refine m_iald hx hb hW (74) rfl (vp_in_iff.mpr ⟨by decide, by decide⟩) dX0_bestKind_89 ?_
          refine lv_topi (fun x31 ex31 => ?_)
          refine va_mmax hx hb (hml.trans hl.1.symm) hown (hts _ k_X0_42) (hts _ kM_max_s) (hts _ kM_n) (hts _ kM_max_c) (Nat.le_of_ble_eq_true rfl) (Nat.le_of_ble_eq_true rfl) (Nat.le_of_ble_eq_true rfl) (Nat.le_of_ble_eq_true rfl) dX0_bestKind_90 ?_
          refine lv_topi (fun x32 ex32 => ?_)
          refine lv_istore_n (lv' := [(3, .int x32), (6, .int 0), (5, .int 1), (4, .int 0), (0, .ref (b + 71)), (1, .int k), (2, .int u)]) hx hb dX0_bestKind_93 rfl hl (by decide) rfl (fun ls hl => ?_)
          refine lv_iinc (v := 1) (lv' := [(4, .int 1), (3, .int x32), (6, .int 0), (5, .int 1), (0, .ref (b + 71)), (1, .int k), (2, .int u)]) hx hb dX0_bestKind_94 hl (k := 3) rfl (by decide) (by decide) rfl (fun ls hl => ?_)
          refine lv_goto (tgt := 5) hx hb dX0_bestKind_97 (by decide) ?_
          refine lv_iload hx hb dX0_bestKind_5 (lv_at hl 0 rfl) ?_
          refine lv_aload_n hx hb dX0_bestKind_7 rfl (lv_at hl 4 rfl) ?_
          refine m_geti hx hb hts hown hW (71) 4 rfl rfl cw_0 rfl (by decide) k_X0_24 dX0_bestKind_8 ?_
          refine lv_topi (fun x33 ex33 => ?_)
          have ex33 : x33 = 1 := by rw [ex33]; exact h0
          subst ex33
          refine lv_icmp_ge (tgt := 100) hx hb dX0_bestKind_11 (by decide) (fun _ => ?_) (fun c => False.elim (by revert c; decide))
          refine lv_iload_n hx hb dX0_bestKind_100 rfl (lv_at hl 1 rfl) ?_
          exact m_iret hx hb hr hlocks hW rfl (⟨rfl, trivial⟩) dX0_bestKind_101
        · refine lv_iconst (v := 1) hx hb dX0_bestKind_65 (by decide) ?_
          refine lv_goto (tgt := 70) hx hb dX0_bestKind_66 (by decide) ?_
          refine lv_istore (lv' := [(6, .int 1), (5, .int 1), (4, .int 0), (3, .int 0), (0, .ref (b + 71)), (1, .int k), (2, .int u)]) hx hb dX0_bestKind_70 hl (by decide) rfl (fun ls hl => ?_)
          refine lv_iload hx hb dX0_bestKind_72 (lv_at hl 1 rfl) ?_
          refine lv_if_ne (tgt := 82) hx hb dX0_bestKind_74 (by decide) (fun _ => ?_) (fun c => False.elim (by revert c; decide))
          refine lv_iload_n hx hb dX0_bestKind_82 rfl (lv_at hl 3 rfl) ?_
          refine lv_aload_n hx hb dX0_bestKind_83 rfl (lv_at hl 4 rfl) ?_
          refine m_getr hx hb hts hown hW (71) 2 (74) rfl rfl cw_0 rfl (by decide) k_X0_18 dX0_bestKind_84 ?_
          refine lv_iload hx hb dX0_bestKind_87 (lv_at hl 2 rfl) ?_
          refine m_iald hx hb hW (74) rfl (vp_in_iff.mpr ⟨by decide, by decide⟩) dX0_bestKind_89 ?_
          refine lv_topi (fun x34 ex34 => ?_)
          refine va_mmax hx hb (hml.trans hl.1.symm) hown (hts _ k_X0_42) (hts _ kM_max_s) (hts _ kM_n) (hts _ kM_max_c) (Nat.le_of_ble_eq_true rfl) (Nat.le_of_ble_eq_true rfl) (Nat.le_of_ble_eq_true rfl) (Nat.le_of_ble_eq_true rfl) dX0_bestKind_90 ?_
          refine lv_topi (fun x35 ex35 => ?_)
          refine lv_istore_n (lv' := [(3, .int x35), (6, .int 1), (5, .int 1), (4, .int 0), (0, .ref (b + 71)), (1, .int k), (2, .int u)]) hx hb dX0_bestKind_93 rfl hl (by decide) rfl (fun ls hl => ?_)
          refine lv_iinc (v := 1) (lv' := [(4, .int 1), (3, .int x35), (6, .int 1), (5, .int 1), (0, .ref (b + 71)), (1, .int k), (2, .int u)]) hx hb dX0_bestKind_94 hl (k := 3) rfl (by decide) (by decide) rfl (fun ls hl => ?_)
          refine lv_goto (tgt := 5) hx hb dX0_bestKind_97 (by decide) ?_
          refine lv_iload hx hb dX0_bestKind_5 (lv_at hl 0 rfl) ?_
          refine lv_aload_n hx hb dX0_bestKind_7 rfl (lv_at hl 4 rfl) ?_
          refine m_geti hx hb hts hown hW (71) 4 rfl rfl cw_0 rfl (by decide) k_X0_24 dX0_bestKind_8 ?_
          refine lv_topi (fun x36 ex36 => ?_)
          have ex36 : x36 = 1 := by rw [ex36]; exact h0
          subst ex36
          refine lv_icmp_ge (tgt := 100) hx hb dX0_bestKind_11 (by decide) (fun _ => ?_) (fun c => False.elim (by revert c; decide))
          refine lv_iload_n hx hb dX0_bestKind_100 rfl (lv_at hl 1 rfl) ?_
          exact m_iret hx hb hr hlocks hW rfl (⟨rfl, trivial⟩) dX0_bestKind_101
set_option maxHeartbeats 4000000 in
set_option maxRecDepth 100000 in
theorem L_cut1 {p : Program} {l : Launch} {e : Env} {s : State} {m : MethodId} {args : Array Value} {below : List Frame} {meth : Method} {c : Code} {Q : State → Prop} {D : va_G} {cy : Nat → ClassId} {b : Nat} {A : Nat → Prop} (hx : p.tables.exec = Jvm.exec) (hb : c.code = cX0_bestCut) (hml : c.maxLocals = 5) (hown : s.vm.findClass RX0 = some m.cls) (hts : ∀ w ∈ TB, w.before args s = true) (μ0 : mM) (k u : Int32) (hk : 1 ≤ k.toInt ∧ k.toInt ≤ 40) (hu : 1 ≤ u.toInt ∧ u.toInt ≤ 40) (K : ∀ (μ : mM) (hm : μ = μ0) (H : Heap) (locs : List Loc) (y3 : Int32), m_WA A D cy s b LX μ H locs → ∀ ls : Array Slot, lv_has ls 5 [(0, .ref (b + 71)), (1, .int k), (2, .int u), (3, .int y3)] → W p l e (m_R 1 0 0) s m args below meth c H locs 0 0 Q (F0 m 51 ls [])) : ∀ (f : Nat) (y3 y4 : Int32) (h4 : 1 ≤ y4.toInt ∧ y4.toInt ≤ 41) (hf : 42 ≤ y4.toInt + f) (μ : mM) (hm : μ = μ0) (H : Heap) (locs : List Loc), m_WA A D cy s b LX μ H locs → ∀ ls : Array Slot, lv_has ls 5 [(0, .ref (b + 71)), (1, .int k), (2, .int u), (3, .int y3), (4, .int y4)] → W p l e (m_R 1 0 0) s m args below meth c H locs 0 0 Q (F0 m 5 ls []) := by
  intro f
  induction f with
  | zero => intro y3 y4 h4 hf; exfalso; omega
  | succ f ih =>
    intro y3 y4 h4 hf μ hm H locs hW ls hl
    refine lv_iload hx hb dX0_bestCut_5 (lv_at hl 4 rfl) ?_
    refine lv_iload_n hx hb dX0_bestCut_7 rfl (lv_at hl 1 rfl) ?_
    refine lv_iconst (v := 2) hx hb dX0_bestCut_8 (by decide) ?_
    refine lv_idiv hx hb dX0_bestCut_9 (by decide) ?_
    refine lv_topi (fun x1 ex1 => ?_)
    have tx1 : x1.toInt = k.toInt / 2 := m_half ex1 (by omega)
    refine lv_icmp_gt (tgt := 51) hx hb dX0_bestCut_10 (by decide) (fun c2 => ?_) (fun c2 => ?_)
    · exact K μ hm _ _ y3 hW ls (lv_sub hl [0, 1, 2, 3] rfl)
    · have cc := m_nlt tx1 c2
      refine lv_iload_n hx hb dX0_bestCut_13 rfl (lv_at hl 3 rfl) ?_
      refine lv_aload_n hx hb dX0_bestCut_14 rfl (lv_at hl 0 rfl) ?_
      refine m_getr hx hb hts hown hW (71) 3 (75) rfl rfl cw_0 rfl (by decide) k_X0_21 dX0_bestCut_15 ?_
      refine lv_iload hx hb dX0_bestCut_18 (lv_at hl 4 rfl) ?_
      refine lv_bipush (v := 41) hx hb dX0_bestCut_20 (by decide) ?_
      refine lv_imul hx hb dX0_bestCut_22 ?_
      refine lv_topi (fun x3 ex3 => ?_)
      have tx3 : x3.toInt = y4.toInt * 41 := m_mulI ex3 rfl (by decide) (by omega) (by omega)
      refine lv_iload_n hx hb dX0_bestCut_23 rfl (lv_at hl 2 rfl) ?_
      refine lv_iadd hx hb dX0_bestCut_24 ?_
      refine lv_topi (fun x4 ex4 => ?_)
      have tx4 : x4.toInt = (y4.toInt * 41) + u.toInt := m_addI ex4 tx3 rfl (by omega) (by omega)
      refine m_iald hx hb hW (75) rfl (m_ixI tx4 (by omega) (by omega)) dX0_bestCut_25 ?_
      refine lv_topi (fun x5 ex5 => ?_)
      refine lv_aload_n hx hb dX0_bestCut_26 rfl (lv_at hl 0 rfl) ?_
      refine m_getr hx hb hts hown hW (71) 3 (75) rfl rfl cw_0 rfl (by decide) k_X0_21 dX0_bestCut_27 ?_
      refine lv_iload_n hx hb dX0_bestCut_30 rfl (lv_at hl 1 rfl) ?_
      refine lv_iload hx hb dX0_bestCut_31 (lv_at hl 4 rfl) ?_
      refine lv_isub hx hb dX0_bestCut_33 ?_
      refine lv_topi (fun x6 ex6 => ?_)
      have tx6 : x6.toInt = k.toInt - y4.toInt := m_subI ex6 rfl rfl (by omega) (by omega)
      refine lv_bipush (v := 41) hx hb dX0_bestCut_34 (by decide) ?_
      refine lv_imul hx hb dX0_bestCut_36 ?_
      refine lv_topi (fun x7 ex7 => ?_)
      have tx7 : x7.toInt = (k.toInt - y4.toInt) * 41 := m_mulI ex7 tx6 (by decide) (by omega) (by omega)
      refine lv_iload_n hx hb dX0_bestCut_37 rfl (lv_at hl 2 rfl) ?_
      refine lv_iadd hx hb dX0_bestCut_38 ?_
      refine lv_topi (fun x8 ex8 => ?_)
      have tx8 : x8.toInt = ((k.toInt - y4.toInt) * 41) + u.toInt := m_addI ex8 tx7 rfl (by omega) (by omega)
      refine m_iald hx hb hW (75) rfl (m_ixI tx8 (by omega) (by omega)) dX0_bestCut_39 ?_
      refine lv_topi (fun x9 ex9 => ?_)
      refine lv_iadd hx hb dX0_bestCut_40 ?_
      refine lv_topi (fun x10 ex10 => ?_)
      refine va_mmax hx hb (hml.trans hl.1.symm) hown (hts _ k_X0_42) (hts _ kM_max_s) (hts _ kM_n) (hts _ kM_max_c) (Nat.le_of_ble_eq_true rfl) (Nat.le_of_ble_eq_true rfl) (Nat.le_of_ble_eq_true rfl) (Nat.le_of_ble_eq_true rfl) dX0_bestCut_41 ?_
      refine lv_topi (fun x11 ex11 => ?_)
      refine lv_istore_n (lv' := [(3, .int x11), (0, .ref (b + 71)), (1, .int k), (2, .int u), (4, .int y4)]) hx hb dX0_bestCut_44 rfl hl (by decide) rfl (fun ls hl => ?_)
      obtain ⟨x12, ex12⟩ : ∃ z : Int32, z = y4 + 1 := ⟨_, rfl⟩
      refine lv_iinc (v := x12) (lv' := [(4, .int x12), (3, .int x11), (0, .ref (b + 71)), (1, .int k), (2, .int u)]) hx hb dX0_bestCut_45 hl (k := 4) rfl (by rw [ex12]; rfl) (by decide) rfl (fun ls hl => ?_)
      refine lv_goto (tgt := 5) hx hb dX0_bestCut_48 (by decide) ?_
      exact ih x11 x12 (by have := m_addI ex12 rfl (Y := 1) (by decide) (by omega) (by omega); omega) (by have := m_addI ex12 rfl (Y := 1) (by decide) (by omega) (by omega); omega) μ hm _ _ hW ls (lv_sub hl [2, 3, 4, 1, 0] rfl)
set_option maxHeartbeats 4000000 in
set_option maxRecDepth 100000 in
theorem L_cut2 {p : Program} {l : Launch} {e : Env} {s : State} {m : MethodId} {args : Array Value} {below : List Frame} {meth : Method} {c : Code} {Q : State → Prop} {D : va_G} {cy : Nat → ClassId} {b : Nat} {A : Nat → Prop} (hx : p.tables.exec = Jvm.exec) (hb : c.code = cX0_bestCut) (hml : c.maxLocals = 5) (hown : s.vm.findClass RX0 = some m.cls) (hts : ∀ w ∈ TB, w.before args s = true) (μ0 : mM) (k u : Int32) (hk : 1 ≤ k.toInt ∧ k.toInt ≤ 40) (hu : 1 ≤ u.toInt ∧ u.toInt ≤ 40) (K : ∀ (μ : mM) (hm : μ = μ0) (H : Heap) (locs : List Loc) (y3 : Int32), m_WA A D cy s b LX μ H locs → ∀ ls : Array Slot, lv_has ls 5 [(0, .ref (b + 71)), (1, .int k), (2, .int u), (3, .int y3)] → W p l e (m_R 1 0 0) s m args below meth c H locs 0 0 Q (F0 m 100 ls [])) : ∀ (f : Nat) (y3 y4 : Int32) (h4 : 1 ≤ y4.toInt ∧ y4.toInt ≤ 41) (hf : 42 ≤ y4.toInt + f) (μ : mM) (hm : μ = μ0) (H : Heap) (locs : List Loc), m_WA A D cy s b LX μ H locs → ∀ ls : Array Slot, lv_has ls 5 [(0, .ref (b + 71)), (1, .int k), (2, .int u), (3, .int y3), (4, .int y4)] → W p l e (m_R 1 0 0) s m args below meth c H locs 0 0 Q (F0 m 54 ls []) := by
  intro f
  induction f with
  | zero => intro y3 y4 h4 hf; exfalso; omega
  | succ f ih =>
    intro y3 y4 h4 hf μ hm H locs hW ls hl
    refine lv_iload hx hb dX0_bestCut_54 (lv_at hl 4 rfl) ?_
    refine lv_iload_n hx hb dX0_bestCut_56 rfl (lv_at hl 2 rfl) ?_
    refine lv_iconst (v := 2) hx hb dX0_bestCut_57 (by decide) ?_
    refine lv_idiv hx hb dX0_bestCut_58 (by decide) ?_
    refine lv_topi (fun x1 ex1 => ?_)
    have tx1 : x1.toInt = u.toInt / 2 := m_half ex1 (by omega)
    refine lv_icmp_gt (tgt := 100) hx hb dX0_bestCut_59 (by decide) (fun c2 => ?_) (fun c2 => ?_)
    · exact K μ hm _ _ y3 hW ls (lv_sub hl [0, 1, 2, 3] rfl)
    · have cc := m_nlt tx1 c2
      refine lv_iload_n hx hb dX0_bestCut_62 rfl (lv_at hl 3 rfl) ?_
      refine lv_aload_n hx hb dX0_bestCut_63 rfl (lv_at hl 0 rfl) ?_
      refine m_getr hx hb hts hown hW (71) 3 (75) rfl rfl cw_0 rfl (by decide) k_X0_21 dX0_bestCut_64 ?_
      refine lv_iload_n hx hb dX0_bestCut_67 rfl (lv_at hl 1 rfl) ?_
      refine lv_bipush (v := 41) hx hb dX0_bestCut_68 (by decide) ?_
      refine lv_imul hx hb dX0_bestCut_70 ?_
      refine lv_topi (fun x3 ex3 => ?_)
      have tx3 : x3.toInt = k.toInt * 41 := m_mulI ex3 rfl (by decide) (by omega) (by omega)
      refine lv_iload hx hb dX0_bestCut_71 (lv_at hl 4 rfl) ?_
      refine lv_iadd hx hb dX0_bestCut_73 ?_
      refine lv_topi (fun x4 ex4 => ?_)
      have tx4 : x4.toInt = (k.toInt * 41) + y4.toInt := m_addI ex4 tx3 rfl (by omega) (by omega)
      refine m_iald hx hb hW (75) rfl (m_ixI tx4 (by omega) (by omega)) dX0_bestCut_74 ?_
      refine lv_topi (fun x5 ex5 => ?_)
      refine lv_aload_n hx hb dX0_bestCut_75 rfl (lv_at hl 0 rfl) ?_
      refine m_getr hx hb hts hown hW (71) 3 (75) rfl rfl cw_0 rfl (by decide) k_X0_21 dX0_bestCut_76 ?_
      refine lv_iload_n hx hb dX0_bestCut_79 rfl (lv_at hl 1 rfl) ?_
      refine lv_bipush (v := 41) hx hb dX0_bestCut_80 (by decide) ?_
      refine lv_imul hx hb dX0_bestCut_82 ?_
      refine lv_topi (fun x6 ex6 => ?_)
      have tx6 : x6.toInt = k.toInt * 41 := m_mulI ex6 rfl (by decide) (by omega) (by omega)
      refine lv_iload_n hx hb dX0_bestCut_83 rfl (lv_at hl 2 rfl) ?_
      refine lv_iadd hx hb dX0_bestCut_84 ?_
      refine lv_topi (fun x7 ex7 => ?_)
      have tx7 : x7.toInt = (k.toInt * 41) + u.toInt := m_addI ex7 tx6 rfl (by omega) (by omega)
      refine lv_iload hx hb dX0_bestCut_85 (lv_at hl 4 rfl) ?_
      refine lv_isub hx hb dX0_bestCut_87 ?_
      refine lv_topi (fun x8 ex8 => ?_)
      have tx8 : x8.toInt = ((k.toInt * 41) + u.toInt) - y4.toInt := m_subI ex8 tx7 rfl (by omega) (by omega)
      refine m_iald hx hb hW (75) rfl (m_ixI tx8 (by omega) (by omega)) dX0_bestCut_88 ?_
      refine lv_topi (fun x9 ex9 => ?_)
      refine lv_iadd hx hb dX0_bestCut_89 ?_
      refine lv_topi (fun x10 ex10 => ?_)
      refine va_mmax hx hb (hml.trans hl.1.symm) hown (hts _ k_X0_42) (hts _ kM_max_s) (hts _ kM_n) (hts _ kM_max_c) (Nat.le_of_ble_eq_true rfl) (Nat.le_of_ble_eq_true rfl) (Nat.le_of_ble_eq_true rfl) (Nat.le_of_ble_eq_true rfl) dX0_bestCut_90 ?_
      refine lv_topi (fun x11 ex11 => ?_)
      refine lv_istore_n (lv' := [(3, .int x11), (0, .ref (b + 71)), (1, .int k), (2, .int u), (4, .int y4)]) hx hb dX0_bestCut_93 rfl hl (by decide) rfl (fun ls hl => ?_)
      obtain ⟨x12, ex12⟩ : ∃ z : Int32, z = y4 + 1 := ⟨_, rfl⟩
      refine lv_iinc (v := x12) (lv' := [(4, .int x12), (3, .int x11), (0, .ref (b + 71)), (1, .int k), (2, .int u)]) hx hb dX0_bestCut_94 hl (k := 4) rfl (by rw [ex12]; rfl) (by decide) rfl (fun ls hl => ?_)
      refine lv_goto (tgt := 54) hx hb dX0_bestCut_97 (by decide) ?_
      exact ih x11 x12 (by have := m_addI ex12 rfl (Y := 1) (by decide) (by omega) (by omega); omega) (by have := m_addI ex12 rfl (Y := 1) (by decide) (by omega) (by omega); omega) μ hm _ _ hW ls (lv_sub hl [2, 3, 4, 1, 0] rfl)
set_option maxHeartbeats 4000000 in
set_option maxRecDepth 100000 in
theorem c_X0_bestCut (l : Launch) (D : va_G) (cy : Nat → ClassId) (b : Nat) (μ : mM) (k u : Int32) (hk : 1 ≤ k.toInt ∧ k.toInt ≤ 40) (hu : 1 ≤ u.toInt ∧ u.toInt ≤ 40) : m_Ci l yX0_bestCut cX0_bestCut 5 ((some .int)) 1 D cy b LX μ [.ref (b + 71), .int k, .int u] (fun r ν => μ = ν ∧ True) := by
  unfold m_Ci
  refine m_of (by decide) (Nat.le_of_ble_eq_true rfl) ?_
  intro p e s m below meth c hx hb hr hml hown hts hlocks _ hW ls hl
  have hown : s.vm.findClass RX0 = some m.cls := hown
  have hl : lv_has ls 5 [(0, .ref (b + 71)), (1, .int k), (2, .int u)] := hl
  refine lv_iconst (v := 0) hx hb dX0_bestCut_0 (by decide) ?_
  refine lv_istore_n (lv' := [(3, .int 0), (0, .ref (b + 71)), (1, .int k), (2, .int u)]) hx hb dX0_bestCut_1 rfl hl (by decide) rfl (fun ls hl => ?_)
  refine lv_iconst (v := 1) hx hb dX0_bestCut_2 (by decide) ?_
  refine lv_istore (lv' := [(4, .int 1), (3, .int 0), (0, .ref (b + 71)), (1, .int k), (2, .int u)]) hx hb dX0_bestCut_3 hl (by decide) rfl (fun ls hl => ?_)
  refine L_cut1 hx hb hml hown hts μ k u hk hu (fun μ1 hm1 H locs y3_1 hW ls hl => ?_) _ 0 1 (by decide) (by decide : (42 : Int) ≤ (1 : Int32).toInt + (41 : Nat)) μ rfl _ _ hW ls (lv_sub hl [2, 3, 4, 1, 0] rfl)
  refine lv_iconst (v := 1) hx hb dX0_bestCut_51 (by decide) ?_
  refine lv_istore (lv' := [(4, .int 1), (0, .ref (b + 71)), (1, .int k), (2, .int u), (3, .int y3_1)]) hx hb dX0_bestCut_52 hl (by decide) rfl (fun ls hl => ?_)
  refine L_cut2 hx hb hml hown hts μ1 k u hk hu (fun μ2 hm2 H locs y3_2 hW ls hl => ?_) _ y3_1 1 (by decide) (by decide : (42 : Int) ≤ (1 : Int32).toInt + (41 : Nat)) μ1 rfl _ _ hW ls (lv_sub hl [1, 2, 3, 4, 0] rfl)
  refine lv_iload_n hx hb dX0_bestCut_100 rfl (lv_at hl 3 rfl) ?_
  exact m_iret hx hb hr hlocks hW rfl (⟨by subst_vars; rfl, trivial⟩) dX0_bestCut_101
set_option maxHeartbeats 4000000 in
set_option maxRecDepth 100000 in
theorem L_fillin {p : Program} {l : Launch} {e : Env} {s : State} {m : MethodId} {args : Array Value} {below : List Frame} {meth : Method} {c : Code} {Q : State → Prop} {D : va_G} {cy : Nat → ClassId} {b : Nat} {A : Nat → Prop} (hx : p.tables.exec = Jvm.exec) (hb : c.code = cX0_fillAll) (hml : c.maxLocals = 3) (hown : s.vm.findClass RX0 = some m.cls) (hts : ∀ w ∈ TB, w.before args s = true) (y1 : Int32) (h1 : 1 ≤ y1.toInt ∧ y1.toInt ≤ 40) (K : ∀ (μ : mM) (h0 : μ.1 71 4 = 1) (H : Heap) (locs : List Loc), m_WA A D cy s b LX μ H locs → ∀ ls : Array Slot, lv_has ls 3 [(0, .ref (b + 71)), (1, .int y1)] → W p l e (m_R 2 0 0) s m args below meth c H locs 0 0 Q (F0 m 48 ls [])) : ∀ (f : Nat) (y2 : Int32) (h2 : 1 ≤ y2.toInt ∧ y2.toInt ≤ 41) (hf : 42 ≤ y2.toInt + f) (μ : mM) (h0 : μ.1 71 4 = 1) (H : Heap) (locs : List Loc), m_WA A D cy s b LX μ H locs → ∀ ls : Array Slot, lv_has ls 3 [(0, .ref (b + 71)), (1, .int y1), (2, .int y2)] → W p l e (m_R 2 0 0) s m args below meth c H locs 0 0 Q (F0 m 10 ls []) := by
  intro f
  induction f with
  | zero => intro y2 h2 hf; exfalso; omega
  | succ f ih =>
    intro y2 h2 hf μ h0 H locs hW ls hl
    refine lv_iload_n hx hb dX0_fillAll_10 rfl (lv_at hl 2 rfl) ?_
    refine lv_bipush (v := 40) hx hb dX0_fillAll_11 (by decide) ?_
    refine lv_icmp_gt (tgt := 48) hx hb dX0_fillAll_13 (by decide) (fun c1 => ?_) (fun c1 => ?_)
    · exact K μ (h0) _ _  hW ls (lv_sub hl [0, 1] rfl)
    · have cc := m_nlt (Y := 40) (by decide) c1
      refine lv_aload_n hx hb dX0_fillAll_16 rfl (lv_at hl 0 rfl) ?_
      refine m_getr hx hb hts hown hW (71) 3 (75) rfl rfl cw_0 rfl (by decide) k_X0_21 dX0_fillAll_17 ?_
      refine lv_iload_n hx hb dX0_fillAll_20 rfl (lv_at hl 1 rfl) ?_
      refine lv_bipush (v := 41) hx hb dX0_fillAll_21 (by decide) ?_
      refine lv_imul hx hb dX0_fillAll_23 ?_
      refine lv_topi (fun x2 ex2 => ?_)
      have tx2 : x2.toInt = y1.toInt * 41 := m_mulI ex2 rfl (by decide) (by omega) (by omega)
      refine lv_iload_n hx hb dX0_fillAll_24 rfl (lv_at hl 2 rfl) ?_
      refine lv_iadd hx hb dX0_fillAll_25 ?_
      refine lv_topi (fun x3 ex3 => ?_)
      have tx3 : x3.toInt = (y1.toInt * 41) + y2.toInt := m_addI ex3 tx2 rfl (by omega) (by omega)
      refine lv_aload_n hx hb dX0_fillAll_26 rfl (lv_at hl 0 rfl) ?_
      refine lv_iload_n hx hb dX0_fillAll_27 rfl (lv_at hl 1 rfl) ?_
      refine lv_iload_n hx hb dX0_fillAll_28 rfl (lv_at hl 2 rfl) ?_
      refine m_aI hW (m_runV (As := [.int y1, .int y2]) (rest := [.int x3, .ref (b + 75)]) hx hb hml hown hts hW (71) (c_X0_bestKind l D cy b μ (h0) y1 y2) mi_X0_bestKind k_X0_35 rfl rfl rfl hl.1 rfl (Nat.le_of_ble_eq_true rfl) dX0_fillAll_29 ⟨Nat.le_of_ble_eq_true rfl, Nat.le_of_ble_eq_true rfl⟩ ⟨Nat.le_of_ble_eq_true rfl, Nat.le_of_ble_eq_true rfl⟩) (fun x4 μ4 H locs q4 hW => ?_)
      obtain ⟨q4_m, q4⟩ := q4
      subst q4_m
      refine lv_aload_n hx hb dX0_fillAll_32 rfl (lv_at hl 0 rfl) ?_
      refine lv_iload_n hx hb dX0_fillAll_33 rfl (lv_at hl 1 rfl) ?_
      refine lv_iload_n hx hb dX0_fillAll_34 rfl (lv_at hl 2 rfl) ?_
      refine m_aI hW (m_runV (As := [.int y1, .int y2]) (rest := [.int x4, .int x3, .ref (b + 75)]) hx hb hml hown hts hW (71) (c_X0_bestCut l D cy b μ y1 y2 h1 (by omega)) mi_X0_bestCut k_X0_39 rfl rfl rfl hl.1 rfl (Nat.le_of_ble_eq_true rfl) dX0_fillAll_35 ⟨Nat.le_of_ble_eq_true rfl, Nat.le_of_ble_eq_true rfl⟩ ⟨Nat.le_of_ble_eq_true rfl, Nat.le_of_ble_eq_true rfl⟩) (fun x5 μ5 H locs q5 hW => ?_)
      obtain ⟨q5_m, q5⟩ := q5
      subst q5_m
      refine va_mmax hx hb (hml.trans hl.1.symm) hown (hts _ k_X0_42) (hts _ kM_max_s) (hts _ kM_n) (hts _ kM_max_c) (Nat.le_of_ble_eq_true rfl) (Nat.le_of_ble_eq_true rfl) (Nat.le_of_ble_eq_true rfl) (Nat.le_of_ble_eq_true rfl) dX0_fillAll_38 ?_
      refine lv_topi (fun x6 ex6 => ?_)
      refine m_iast hx hb hW (75) rfl (m_ixI tx3 (by omega) (by omega)) dX0_fillAll_41 (fun H locs hW _ => ?_)
      generalize hμ7 : m_si μ (75) (x3 : Int32).toNatClampNeg x6 = μ7 at hW
      obtain ⟨x8, ex8⟩ : ∃ z : Int32, z = y2 + 1 := ⟨_, rfl⟩
      refine lv_iinc (v := x8) (lv' := [(2, .int x8), (0, .ref (b + 71)), (1, .int y1)]) hx hb dX0_fillAll_42 hl (k := 2) rfl (by rw [ex8]; rfl) (by decide) rfl (fun ls hl => ?_)
      refine lv_goto (tgt := 10) hx hb dX0_fillAll_45 (by decide) ?_
      exact ih x8 (by have := m_addI ex8 rfl (Y := 1) (by decide) (by omega) (by omega); omega) (by have := m_addI ex8 rfl (Y := 1) (by decide) (by omega) (by omega); omega) μ7 (by rw [← hμ7]; exact h0) _ _ hW ls (lv_sub hl [1, 2, 0] rfl)
set_option maxHeartbeats 4000000 in
set_option maxRecDepth 100000 in
theorem L_fillout {p : Program} {l : Launch} {e : Env} {s : State} {m : MethodId} {args : Array Value} {below : List Frame} {meth : Method} {c : Code} {Q : State → Prop} {D : va_G} {cy : Nat → ClassId} {b : Nat} {A : Nat → Prop} (hx : p.tables.exec = Jvm.exec) (hb : c.code = cX0_fillAll) (hml : c.maxLocals = 3) (hown : s.vm.findClass RX0 = some m.cls) (hts : ∀ w ∈ TB, w.before args s = true) (K : ∀ (μ : mM) (h0 : μ.1 71 4 = 1) (H : Heap) (locs : List Loc), m_WA A D cy s b LX μ H locs → ∀ ls : Array Slot, lv_has ls 3 [(0, .ref (b + 71))] → W p l e (m_R 2 0 0) s m args below meth c H locs 0 0 Q (F0 m 54 ls [])) : ∀ (f : Nat) (y1 : Int32) (h1 : 1 ≤ y1.toInt ∧ y1.toInt ≤ 41) (hf : 42 ≤ y1.toInt + f) (μ : mM) (h0 : μ.1 71 4 = 1) (H : Heap) (locs : List Loc), m_WA A D cy s b LX μ H locs → ∀ ls : Array Slot, lv_has ls 3 [(0, .ref (b + 71)), (1, .int y1)] → W p l e (m_R 2 0 0) s m args below meth c H locs 0 0 Q (F0 m 2 ls []) := by
  intro f
  induction f with
  | zero => intro y1 h1 hf; exfalso; omega
  | succ f ih =>
    intro y1 h1 hf μ h0 H locs hW ls hl
    refine lv_iload_n hx hb dX0_fillAll_2 rfl (lv_at hl 1 rfl) ?_
    refine lv_bipush (v := 40) hx hb dX0_fillAll_3 (by decide) ?_
    refine lv_icmp_gt (tgt := 54) hx hb dX0_fillAll_5 (by decide) (fun c1 => ?_) (fun c1 => ?_)
    · exact K μ (h0) _ _  hW ls (lv_sub hl [0] rfl)
    · have cc := m_nlt (Y := 40) (by decide) c1
      refine lv_iconst (v := 1) hx hb dX0_fillAll_8 (by decide) ?_
      refine lv_istore_n (lv' := [(2, .int 1), (0, .ref (b + 71)), (1, .int y1)]) hx hb dX0_fillAll_9 rfl hl (by decide) rfl (fun ls hl => ?_)
      refine L_fillin hx hb hml hown hts y1 (by omega) (fun μ2 h02 H locs  hW ls hl => ?_) _ 1 (by decide) (by decide : (42 : Int) ≤ (1 : Int32).toInt + (41 : Nat)) μ (h0) _ _ hW ls (lv_sub hl [1, 2, 0] rfl)
      obtain ⟨x3, ex3⟩ : ∃ z : Int32, z = y1 + 1 := ⟨_, rfl⟩
      refine lv_iinc (v := x3) (lv' := [(1, .int x3), (0, .ref (b + 71))]) hx hb dX0_fillAll_48 hl (k := 1) rfl (by rw [ex3]; rfl) (by decide) rfl (fun ls hl => ?_)
      refine lv_goto (tgt := 2) hx hb dX0_fillAll_51 (by decide) ?_
      exact ih x3 (by have := m_addI ex3 rfl (Y := 1) (by decide) (by omega) (by omega); omega) (by have := m_addI ex3 rfl (Y := 1) (by decide) (by omega) (by omega); omega) μ2 (h02) _ _ hW ls (lv_sub hl [1, 0] rfl)
set_option maxHeartbeats 4000000 in
set_option maxRecDepth 100000 in
theorem c_X0_fillAll (l : Launch) (D : va_G) (cy : Nat → ClassId) (b : Nat) (μ : mM) (h0 : μ.1 71 4 = 1) : m_Cv l yX0_fillAll cX0_fillAll 3 (none) 2 D cy b LX μ [.ref (b + 71)] (fun ν => ν.1 71 4 = 1) := by
  unfold m_Cv
  refine m_of (by decide) (Nat.le_of_ble_eq_true rfl) ?_
  intro p e s m below meth c hx hb hr hml hown hts hlocks _ hW ls hl
  have hown : s.vm.findClass RX0 = some m.cls := hown
  have hl : lv_has ls 3 [(0, .ref (b + 71))] := hl
  refine lv_iconst (v := 1) hx hb dX0_fillAll_0 (by decide) ?_
  refine lv_istore_n (lv' := [(1, .int 1), (0, .ref (b + 71))]) hx hb dX0_fillAll_1 rfl hl (by decide) rfl (fun ls hl => ?_)
  refine L_fillout hx hb hml hown hts  (fun μ1 h01 H locs  hW ls hl => ?_) _ 1 (by decide) (by decide : (42 : Int) ≤ (1 : Int32).toInt + (41 : Nat)) μ h0 _ _ hW ls (lv_sub hl [1, 0] rfl)
  exact m_vret hx hb hr hlocks hW (h01) dX0_fillAll_54
set_option maxHeartbeats 4000000 in
set_option maxRecDepth 100000 in
theorem c_X0_addKind (l : Launch) (D : va_G) (cy : Nat → ClassId) (b : Nat) (μ : mM) (h0 : μ.1 71 4 = 0) (k u v : Int32) : m_Ci l yX0_addKind cX0_addKind 4 ((some .int)) 3 D cy b LX μ [.ref (b + 71), .int k, .int u, .int v] (fun r ν => r = Fkind k u v) := by
  unfold m_Ci
  refine m_of (by decide) (Nat.le_of_ble_eq_true rfl) ?_
  intro p e s m below meth c hx hb hr hml hown hts hlocks _ hW ls hl
  have hown : s.vm.findClass RX0 = some m.cls := hown
  have hl : lv_has ls 4 [(0, .ref (b + 71)), (1, .int k), (2, .int u), (3, .int v)] := hl
  refine lv_iload_n hx hb dX0_addKind_0 rfl (lv_at hl 1 rfl) ?_
  refine lv_iconst (v := 1) hx hb dX0_addKind_1 (by decide) ?_
  refine lv_bipush (v := 40) hx hb dX0_addKind_2 (by decide) ?_
  refine m_aI hW (m_runSN (As := [.int k, .int 1, .int 40]) (rest := []) hx hb hml hown hts hW (c_X11_within l D cy b LX μ k 1 40 1 40 (by decide) (by decide)) ms_X11_within n_X0_28 rfl hl.1 rfl (Nat.le_of_ble_eq_true rfl) dX0_addKind_4 ⟨Nat.le_of_ble_eq_true rfl, Nat.le_of_ble_eq_true rfl⟩ ⟨Nat.le_of_ble_eq_true rfl, Nat.le_of_ble_eq_true rfl⟩) (fun x1 μ1 H locs q1 hW => ?_)
  obtain ⟨q1_m, q1⟩ := q1
  subst q1_m
  rcases q1 with ⟨rfl, q1⟩ | ⟨rfl, q1⟩
  · refine lv_if_eq (tgt := 40) hx hb dX0_addKind_7 (by decide) (fun c => False.elim (by revert c; decide)) (fun _ => ?_)
    refine lv_iload_n hx hb dX0_addKind_10 rfl (lv_at hl 2 rfl) ?_
    refine lv_iconst (v := 1) hx hb dX0_addKind_11 (by decide) ?_
    refine lv_bipush (v := 40) hx hb dX0_addKind_12 (by decide) ?_
    refine m_aI hW (m_runSN (As := [.int u, .int 1, .int 40]) (rest := []) hx hb hml hown hts hW (c_X11_within l D cy b LX μ u 1 40 1 40 (by decide) (by decide)) ms_X11_within n_X0_28 rfl hl.1 rfl (Nat.le_of_ble_eq_true rfl) dX0_addKind_14 ⟨Nat.le_of_ble_eq_true rfl, Nat.le_of_ble_eq_true rfl⟩ ⟨Nat.le_of_ble_eq_true rfl, Nat.le_of_ble_eq_true rfl⟩) (fun x2 μ2 H locs q2 hW => ?_)
    obtain ⟨q2_m, q2⟩ := q2
    subst q2_m
    rcases q2 with ⟨rfl, q2⟩ | ⟨rfl, q2⟩
    · refine lv_if_eq (tgt := 40) hx hb dX0_addKind_17 (by decide) (fun c => False.elim (by revert c; decide)) (fun _ => ?_)
      refine lv_iload_n hx hb dX0_addKind_20 rfl (lv_at hl 3 rfl) ?_
      refine lv_iconst (v := 0) hx hb dX0_addKind_21 (by decide) ?_
      refine lv_sipush (v := 999) hx hb dX0_addKind_22 (by decide) ?_
      refine m_aI hW (m_runSN (As := [.int v, .int 0, .int 999]) (rest := []) hx hb hml hown hts hW (c_X11_within l D cy b LX μ v 0 999 0 999 (by decide) (by decide)) ms_X11_within n_X0_28 rfl hl.1 rfl (Nat.le_of_ble_eq_true rfl) dX0_addKind_25 ⟨Nat.le_of_ble_eq_true rfl, Nat.le_of_ble_eq_true rfl⟩ ⟨Nat.le_of_ble_eq_true rfl, Nat.le_of_ble_eq_true rfl⟩) (fun x3 μ3 H locs q3 hW => ?_)
      obtain ⟨q3_m, q3⟩ := q3
      subst q3_m
      rcases q3 with ⟨rfl, q3⟩ | ⟨rfl, q3⟩
      · refine lv_if_eq (tgt := 40) hx hb dX0_addKind_28 (by decide) (fun c => False.elim (by revert c; decide)) (fun _ => ?_)
        refine lv_aload_n hx hb dX0_addKind_31 rfl (lv_at hl 0 rfl) ?_
        refine m_geti hx hb hts hown hW (71) 4 rfl rfl cw_0 rfl (by decide) k_X0_24 dX0_addKind_32 ?_
        refine lv_topi (fun x4 ex4 => ?_)
        have ex4 : x4 = 0 := by rw [ex4]; exact h0
        subst ex4
        refine lv_bipush (v := 6) hx hb dX0_addKind_35 (by decide) ?_
        refine lv_icmp_lt (tgt := 42) hx hb dX0_addKind_37 (by decide) (fun _ => ?_) (fun c => False.elim (by revert c; decide))
        refine lv_aload_n hx hb dX0_addKind_42 rfl (lv_at hl 0 rfl) ?_
        refine m_getr hx hb hts hown hW (71) 0 (72) rfl rfl cw_0 rfl (by decide) k_X0_11 dX0_addKind_43 ?_
        refine lv_aload_n hx hb dX0_addKind_46 rfl (lv_at hl 0 rfl) ?_
        refine m_geti hx hb hts hown hW (71) 4 rfl rfl cw_0 rfl (by decide) k_X0_24 dX0_addKind_47 ?_
        refine lv_topi (fun x5 ex5 => ?_)
        have ex5 : x5 = 0 := by rw [ex5]; exact h0
        subst ex5
        refine lv_iload_n hx hb dX0_addKind_50 rfl (lv_at hl 1 rfl) ?_
        refine m_iast hx hb hW (72) rfl (vp_in_iff.mpr ⟨by decide, by decide⟩) dX0_addKind_51 (fun H locs hW _ => ?_)
        generalize hμ6 : m_si μ (72) (0 : Int32).toNatClampNeg k = μ6 at hW
        refine lv_aload_n hx hb dX0_addKind_52 rfl (lv_at hl 0 rfl) ?_
        refine m_getr hx hb hts hown hW (71) 1 (73) rfl rfl cw_0 rfl (by decide) k_X0_15 dX0_addKind_53 ?_
        refine lv_aload_n hx hb dX0_addKind_56 rfl (lv_at hl 0 rfl) ?_
        refine m_geti hx hb hts hown hW (71) 4 rfl rfl cw_0 rfl (by decide) k_X0_24 dX0_addKind_57 ?_
        refine lv_topi (fun x7 ex7 => ?_)
        have ex7 : x7 = 0 := by rw [ex7, ← hμ6]; exact h0
        subst ex7
        refine lv_iload_n hx hb dX0_addKind_60 rfl (lv_at hl 2 rfl) ?_
        refine m_iast hx hb hW (73) rfl (vp_in_iff.mpr ⟨by decide, by decide⟩) dX0_addKind_61 (fun H locs hW _ => ?_)
        generalize hμ8 : m_si μ6 (73) (0 : Int32).toNatClampNeg u = μ8 at hW
        refine lv_aload_n hx hb dX0_addKind_62 rfl (lv_at hl 0 rfl) ?_
        refine m_getr hx hb hts hown hW (71) 2 (74) rfl rfl cw_0 rfl (by decide) k_X0_18 dX0_addKind_63 ?_
        refine lv_aload_n hx hb dX0_addKind_66 rfl (lv_at hl 0 rfl) ?_
        refine m_geti hx hb hts hown hW (71) 4 rfl rfl cw_0 rfl (by decide) k_X0_24 dX0_addKind_67 ?_
        refine lv_topi (fun x9 ex9 => ?_)
        have ex9 : x9 = 0 := by rw [ex9, ← hμ8, ← hμ6]; exact h0
        subst ex9
        refine lv_iload_n hx hb dX0_addKind_70 rfl (lv_at hl 3 rfl) ?_
        refine m_iast hx hb hW (74) rfl (vp_in_iff.mpr ⟨by decide, by decide⟩) dX0_addKind_71 (fun H locs hW _ => ?_)
        generalize hμ10 : m_si μ8 (74) (0 : Int32).toNatClampNeg v = μ10 at hW
        refine lv_aload_n hx hb dX0_addKind_72 rfl (lv_at hl 0 rfl) ?_
        refine lv_dup hx hb dX0_addKind_73 rfl ?_
        refine m_geti hx hb hts hown hW (71) 4 rfl rfl cw_0 rfl (by decide) k_X0_24 dX0_addKind_74 ?_
        refine lv_topi (fun x11 ex11 => ?_)
        have ex11 : x11 = 0 := by rw [ex11, ← hμ10, ← hμ8, ← hμ6]; exact h0
        subst ex11
        refine lv_iconst (v := 1) hx hb dX0_addKind_77 (by decide) ?_
        refine lv_iadd hx hb dX0_addKind_78 ?_
        refine lv_topi (fun x12 ex12 => ?_)
        have ex12 : x12 = 1 := by rw [ex12]; decide
        subst ex12
        refine m_puti hx hb hts hown hW (71) 4 rfl rfl cw_0 tyX0_ok nmX0 rfl (by decide) k_X0_24 rfl rfl rfl dX0_addKind_79 (fun H locs hW _ => ?_)
        generalize hμ13 : m_si μ10 (71) 4 1 = μ13 at hW
        refine lv_aload_n hx hb dX0_addKind_82 rfl (lv_at hl 0 rfl) ?_
        refine m_aV hW (m_runV (As := []) (rest := []) hx hb hml hown hts hW (71) (c_X0_fillAll l D cy b μ13 (by rw [← hμ13]; first | rfl | exact if_pos ⟨rfl, rfl⟩)) mi_X0_fillAll k_X0_32 rfl rfl rfl hl.1 rfl (Nat.le_of_ble_eq_true rfl) dX0_addKind_83 ⟨Nat.le_of_ble_eq_true rfl, Nat.le_of_ble_eq_true rfl⟩ ⟨Nat.le_of_ble_eq_true rfl, Nat.le_of_ble_eq_true rfl⟩) (fun μ14 H locs q14 hW => ?_)
        refine lv_aload_n hx hb dX0_addKind_86 rfl (lv_at hl 0 rfl) ?_
        refine m_geti hx hb hts hown hW (71) 4 rfl rfl cw_0 rfl (by decide) k_X0_24 dX0_addKind_87 ?_
        refine lv_topi (fun x15 ex15 => ?_)
        have ex15 : x15 = 1 := by rw [ex15]; exact q14
        subst ex15
        refine lv_iconst (v := 1) hx hb dX0_addKind_90 (by decide) ?_
        refine lv_isub hx hb dX0_addKind_91 ?_
        refine lv_topi (fun x16 ex16 => ?_)
        have ex16 : x16 = 0 := by rw [ex16]; decide
        subst ex16
        exact m_iret hx hb hr hlocks hW rfl ((if_pos (by omega)).symm) dX0_addKind_92
      · refine lv_if_eq (tgt := 40) hx hb dX0_addKind_28 (by decide) (fun _ => ?_) (fun c => False.elim (by revert c; decide))
        refine lv_iconst (v := (-1)) hx hb dX0_addKind_40 (by decide) ?_
        exact m_iret hx hb hr hlocks hW rfl ((if_neg (by omega)).symm) dX0_addKind_41
    · refine lv_if_eq (tgt := 40) hx hb dX0_addKind_17 (by decide) (fun _ => ?_) (fun c => False.elim (by revert c; decide))
      refine lv_iconst (v := (-1)) hx hb dX0_addKind_40 (by decide) ?_
      exact m_iret hx hb hr hlocks hW rfl ((if_neg (by omega)).symm) dX0_addKind_41
  · refine lv_if_eq (tgt := 40) hx hb dX0_addKind_7 (by decide) (fun _ => ?_) (fun c => False.elim (by revert c; decide))
    refine lv_iconst (v := (-1)) hx hb dX0_addKind_40 (by decide) ?_
    exact m_iret hx hb hr hlocks hW rfl ((if_neg (by omega)).symm) dX0_addKind_41
set_option maxHeartbeats 4000000 in
set_option maxRecDepth 100000 in
theorem c_X11_kind (l : Launch) (D : va_G) (cy : Nat → ClassId) (b : Nat) (μ : mM) (h0 : μ.1 71 4 = 0) (k u v : Int32) : m_Ci l yX11_kind cX11_kind 4 ((some .int)) 4 D cy b LX μ [.ref (b + 0), .int k, .int u, .int v] (fun r ν => r = Fkind k u v) := by
  unfold m_Ci
  refine m_of (by decide) (Nat.le_of_ble_eq_true rfl) ?_
  intro p e s m below meth c hx hb hr hml hown hts hlocks _ hW ls hl
  have hown : s.vm.findClass RX11 = some m.cls := hown
  have hl : lv_has ls 4 [(0, .ref (b + 0)), (1, .int k), (2, .int u), (3, .int v)] := hl
  refine lv_aload_n hx hb dX11_kind_0 rfl (lv_at hl 0 rfl) ?_
  refine m_getr hx hb hts hown hW (0) 7 (71) rfl rfl cw_11 rfl (by decide) k_X11_59 dX11_kind_1 ?_
  refine lv_iload_n hx hb dX11_kind_4 rfl (lv_at hl 1 rfl) ?_
  refine lv_iload_n hx hb dX11_kind_5 rfl (lv_at hl 2 rfl) ?_
  refine lv_iload_n hx hb dX11_kind_6 rfl (lv_at hl 3 rfl) ?_
  refine m_aI hW (m_runV (As := [.int k, .int u, .int v]) (rest := []) hx hb hml hown hts hW (71) (c_X0_addKind l D cy b μ h0 k u v) mi_X0_addKind k_X11_247 rfl rfl rfl hl.1 rfl (Nat.le_of_ble_eq_true rfl) dX11_kind_7 ⟨Nat.le_of_ble_eq_true rfl, Nat.le_of_ble_eq_true rfl⟩ ⟨Nat.le_of_ble_eq_true rfl, Nat.le_of_ble_eq_true rfl⟩) (fun x1 μ1 H locs q1 hW => ?_)
  exact m_iret hx hb hr hlocks hW rfl (q1) dX11_kind_10
set_option maxHeartbeats 4000000 in
set_option maxRecDepth 100000 in
theorem c_X0_greatestWorth (l : Launch) (D : va_G) (cy : Nat → ClassId) (b : Nat) (μ : mM) (h0 : ∀ j, μ.1 75 j = 0) (k u : Int32) : m_Ci l yX0_greatestWorth cX0_greatestWorth 3 ((some .int)) 1 D cy b LX μ [.ref (b + 71), .int k, .int u] (fun r ν => r = Ffill k u) := by
  unfold m_Ci
  refine m_of (by decide) (Nat.le_of_ble_eq_true rfl) ?_
  intro p e s m below meth c hx hb hr hml hown hts hlocks _ hW ls hl
  have hown : s.vm.findClass RX0 = some m.cls := hown
  have hl : lv_has ls 3 [(0, .ref (b + 71)), (1, .int k), (2, .int u)] := hl
  refine lv_iload_n hx hb dX0_greatestWorth_0 rfl (lv_at hl 1 rfl) ?_
  refine lv_iconst (v := 0) hx hb dX0_greatestWorth_1 (by decide) ?_
  refine lv_bipush (v := 40) hx hb dX0_greatestWorth_2 (by decide) ?_
  refine m_aI hW (m_runSN (As := [.int k, .int 0, .int 40]) (rest := []) hx hb hml hown hts hW (c_X11_within l D cy b LX μ k 0 40 0 40 (by decide) (by decide)) ms_X11_within n_X0_28 rfl hl.1 rfl (Nat.le_of_ble_eq_true rfl) dX0_greatestWorth_4 ⟨Nat.le_of_ble_eq_true rfl, Nat.le_of_ble_eq_true rfl⟩ ⟨Nat.le_of_ble_eq_true rfl, Nat.le_of_ble_eq_true rfl⟩) (fun x1 μ1 H locs q1 hW => ?_)
  obtain ⟨q1_m, q1⟩ := q1
  subst q1_m
  rcases q1 with ⟨rfl, q1⟩ | ⟨rfl, q1⟩
  · refine lv_if_eq (tgt := 20) hx hb dX0_greatestWorth_7 (by decide) (fun c => False.elim (by revert c; decide)) (fun _ => ?_)
    refine lv_iload_n hx hb dX0_greatestWorth_10 rfl (lv_at hl 2 rfl) ?_
    refine lv_iconst (v := 0) hx hb dX0_greatestWorth_11 (by decide) ?_
    refine lv_bipush (v := 40) hx hb dX0_greatestWorth_12 (by decide) ?_
    refine m_aI hW (m_runSN (As := [.int u, .int 0, .int 40]) (rest := []) hx hb hml hown hts hW (c_X11_within l D cy b LX μ u 0 40 0 40 (by decide) (by decide)) ms_X11_within n_X0_28 rfl hl.1 rfl (Nat.le_of_ble_eq_true rfl) dX0_greatestWorth_14 ⟨Nat.le_of_ble_eq_true rfl, Nat.le_of_ble_eq_true rfl⟩ ⟨Nat.le_of_ble_eq_true rfl, Nat.le_of_ble_eq_true rfl⟩) (fun x2 μ2 H locs q2 hW => ?_)
    obtain ⟨q2_m, q2⟩ := q2
    subst q2_m
    rcases q2 with ⟨rfl, q2⟩ | ⟨rfl, q2⟩
    · refine lv_if_ne (tgt := 22) hx hb dX0_greatestWorth_17 (by decide) (fun _ => ?_) (fun c => False.elim (by revert c; decide))
      refine lv_aload_n hx hb dX0_greatestWorth_22 rfl (lv_at hl 0 rfl) ?_
      refine m_getr hx hb hts hown hW (71) 3 (75) rfl rfl cw_0 rfl (by decide) k_X0_21 dX0_greatestWorth_23 ?_
      refine lv_iload_n hx hb dX0_greatestWorth_26 rfl (lv_at hl 1 rfl) ?_
      refine lv_bipush (v := 41) hx hb dX0_greatestWorth_27 (by decide) ?_
      refine lv_imul hx hb dX0_greatestWorth_29 ?_
      refine lv_topi (fun x3 ex3 => ?_)
      have tx3 : x3.toInt = k.toInt * 41 := m_mulI ex3 rfl (by decide) (by omega) (by omega)
      refine lv_iload_n hx hb dX0_greatestWorth_30 rfl (lv_at hl 2 rfl) ?_
      refine lv_iadd hx hb dX0_greatestWorth_31 ?_
      refine lv_topi (fun x4 ex4 => ?_)
      have tx4 : x4.toInt = (k.toInt * 41) + u.toInt := m_addI ex4 tx3 rfl (by omega) (by omega)
      refine m_iald hx hb hW (75) rfl (m_ixI tx4 (by omega) (by omega)) dX0_greatestWorth_32 ?_
      refine lv_topi (fun x5 ex5 => ?_)
      have ex5 : x5 = 0 := by rw [ex5]; exact h0 _
      subst ex5
      exact m_iret hx hb hr hlocks hW rfl ((if_pos (by omega)).symm) dX0_greatestWorth_33
    · refine lv_if_ne (tgt := 22) hx hb dX0_greatestWorth_17 (by decide) (fun c => False.elim (by revert c; decide)) (fun _ => ?_)
      refine lv_iconst (v := (-1)) hx hb dX0_greatestWorth_20 (by decide) ?_
      exact m_iret hx hb hr hlocks hW rfl ((if_neg (by omega)).symm) dX0_greatestWorth_21
  · refine lv_if_eq (tgt := 20) hx hb dX0_greatestWorth_7 (by decide) (fun _ => ?_) (fun c => False.elim (by revert c; decide))
    refine lv_iconst (v := (-1)) hx hb dX0_greatestWorth_20 (by decide) ?_
    exact m_iret hx hb hr hlocks hW rfl ((if_neg (by omega)).symm) dX0_greatestWorth_21
set_option maxHeartbeats 4000000 in
set_option maxRecDepth 100000 in
theorem c_X11_fill (l : Launch) (D : va_G) (cy : Nat → ClassId) (b : Nat) (μ : mM) (h0 : ∀ j, μ.1 75 j = 0) (k u : Int32) : m_Ci l yX11_fill cX11_fill 3 ((some .int)) 2 D cy b LX μ [.ref (b + 0), .int k, .int u] (fun r ν => r = Ffill k u) := by
  unfold m_Ci
  refine m_of (by decide) (Nat.le_of_ble_eq_true rfl) ?_
  intro p e s m below meth c hx hb hr hml hown hts hlocks _ hW ls hl
  have hown : s.vm.findClass RX11 = some m.cls := hown
  have hl : lv_has ls 3 [(0, .ref (b + 0)), (1, .int k), (2, .int u)] := hl
  refine lv_aload_n hx hb dX11_fill_0 rfl (lv_at hl 0 rfl) ?_
  refine m_getr hx hb hts hown hW (0) 7 (71) rfl rfl cw_11 rfl (by decide) k_X11_59 dX11_fill_1 ?_
  refine lv_iload_n hx hb dX11_fill_4 rfl (lv_at hl 1 rfl) ?_
  refine lv_iload_n hx hb dX11_fill_5 rfl (lv_at hl 2 rfl) ?_
  refine m_aI hW (m_runV (As := [.int k, .int u]) (rest := []) hx hb hml hown hts hW (71) (c_X0_greatestWorth l D cy b μ h0 k u) mi_X0_greatestWorth k_X11_251 rfl rfl rfl hl.1 rfl (Nat.le_of_ble_eq_true rfl) dX11_fill_6 ⟨Nat.le_of_ble_eq_true rfl, Nat.le_of_ble_eq_true rfl⟩ ⟨Nat.le_of_ble_eq_true rfl, Nat.le_of_ble_eq_true rfl⟩) (fun x1 μ1 H locs q1 hW => ?_)
  exact m_iret hx hb hr hlocks hW rfl (q1) dX11_fill_9
set_option maxHeartbeats 4000000 in
set_option maxRecDepth 100000 in
theorem c_X7_tell (l : Launch) (D : va_G) (cy : Nat → ClassId) (b : Nat) (μ : mM) (h4 : μ.1 76 4 = 0) (h5 : μ.1 76 5 = 0) (k u g w : Int32) (hg : g = 0 ∨ g = 1) : m_Ci l yX7_tell cX7_tell 5 ((some .boolean)) 1 D cy b LX μ [.ref (b + 76), .int k, .int u, .int g, .int w] (fun r ν => r = Ftest k u w) := by
  unfold m_Ci
  refine m_of (by decide) (Nat.le_of_ble_eq_true rfl) ?_
  intro p e s m below meth c hx hb hr hml hown hts hlocks _ hW ls hl
  have hown : s.vm.findClass RX7 = some m.cls := hown
  have hl : lv_has ls 5 [(0, .ref (b + 76)), (1, .int k), (2, .int u), (3, .int g), (4, .int w)] := hl
  refine lv_iload_n hx hb dX7_tell_0 rfl (lv_at hl 1 rfl) ?_
  refine lv_iconst (v := 0) hx hb dX7_tell_1 (by decide) ?_
  refine lv_iconst (v := 3) hx hb dX7_tell_2 (by decide) ?_
  refine m_aI hW (m_runSN (As := [.int k, .int 0, .int 3]) (rest := []) hx hb hml hown hts hW (c_X11_within l D cy b LX μ k 0 3 0 3 (by decide) (by decide)) ms_X11_within n_X7_32 rfl hl.1 rfl (Nat.le_of_ble_eq_true rfl) dX7_tell_3 ⟨Nat.le_of_ble_eq_true rfl, Nat.le_of_ble_eq_true rfl⟩ ⟨Nat.le_of_ble_eq_true rfl, Nat.le_of_ble_eq_true rfl⟩) (fun x1 μ1 H locs q1 hW => ?_)
  obtain ⟨q1_m, q1⟩ := q1
  subst q1_m
  rcases q1 with ⟨rfl, q1⟩ | ⟨rfl, q1⟩
  · refine lv_if_eq (tgt := 45) hx hb dX7_tell_6 (by decide) (fun c => False.elim (by revert c; decide)) (fun _ => ?_)
    refine lv_iload_n hx hb dX7_tell_9 rfl (lv_at hl 2 rfl) ?_
    refine lv_iconst (v := 1) hx hb dX7_tell_10 (by decide) ?_
    refine lv_sipush (v := 9999) hx hb dX7_tell_11 (by decide) ?_
    refine m_aI hW (m_runSN (As := [.int u, .int 1, .int 9999]) (rest := []) hx hb hml hown hts hW (c_X11_within l D cy b LX μ u 1 9999 1 9999 (by decide) (by decide)) ms_X11_within n_X7_32 rfl hl.1 rfl (Nat.le_of_ble_eq_true rfl) dX7_tell_14 ⟨Nat.le_of_ble_eq_true rfl, Nat.le_of_ble_eq_true rfl⟩ ⟨Nat.le_of_ble_eq_true rfl, Nat.le_of_ble_eq_true rfl⟩) (fun x2 μ2 H locs q2 hW => ?_)
    obtain ⟨q2_m, q2⟩ := q2
    subst q2_m
    rcases q2 with ⟨rfl, q2⟩ | ⟨rfl, q2⟩
    · refine lv_if_eq (tgt := 45) hx hb dX7_tell_17 (by decide) (fun c => False.elim (by revert c; decide)) (fun _ => ?_)
      refine lv_iload hx hb dX7_tell_20 (lv_at hl 4 rfl) ?_
      refine lv_aload_n hx hb dX7_tell_22 rfl (lv_at hl 0 rfl) ?_
      refine m_geti hx hb hts hown hW (76) 5 rfl rfl cw_7 rfl (by decide) k_X7_29 dX7_tell_23 ?_
      refine lv_topi (fun x3 ex3 => ?_)
      have ex3 : x3 = 0 := by rw [ex3]; exact h5
      subst ex3
      refine lv_sipush (v := 999) hx hb dX7_tell_26 (by decide) ?_
      refine m_aI hW (m_runSN (As := [.int w, .int 0, .int 999]) (rest := []) hx hb hml hown hts hW (c_X11_within l D cy b LX μ w 0 999 0 999 (by decide) (by decide)) ms_X11_within n_X7_32 rfl hl.1 rfl (Nat.le_of_ble_eq_true rfl) dX7_tell_29 ⟨Nat.le_of_ble_eq_true rfl, Nat.le_of_ble_eq_true rfl⟩ ⟨Nat.le_of_ble_eq_true rfl, Nat.le_of_ble_eq_true rfl⟩) (fun x4 μ4 H locs q4 hW => ?_)
      obtain ⟨q4_m, q4⟩ := q4
      subst q4_m
      rcases q4 with ⟨rfl, q4⟩ | ⟨rfl, q4⟩
      · refine lv_if_eq (tgt := 45) hx hb dX7_tell_32 (by decide) (fun c => False.elim (by revert c; decide)) (fun _ => ?_)
        refine lv_aload_n hx hb dX7_tell_35 rfl (lv_at hl 0 rfl) ?_
        refine m_geti hx hb hts hown hW (76) 4 rfl rfl cw_7 rfl (by decide) k_X7_25 dX7_tell_36 ?_
        refine lv_topi (fun x5 ex5 => ?_)
        have ex5 : x5 = 0 := by rw [ex5]; exact h4
        subst ex5
        refine lv_sipush (v := 200) hx hb dX7_tell_39 (by decide) ?_
        refine lv_icmp_lt (tgt := 47) hx hb dX7_tell_42 (by decide) (fun _ => ?_) (fun c => False.elim (by revert c; decide))
        refine lv_aload_n hx hb dX7_tell_47 rfl (lv_at hl 0 rfl) ?_
        refine m_getr hx hb hts hown hW (76) 0 (77) rfl rfl cw_7 rfl (by decide) k_X7_11 dX7_tell_48 ?_
        refine lv_aload_n hx hb dX7_tell_51 rfl (lv_at hl 0 rfl) ?_
        refine m_geti hx hb hts hown hW (76) 4 rfl rfl cw_7 rfl (by decide) k_X7_25 dX7_tell_52 ?_
        refine lv_topi (fun x6 ex6 => ?_)
        have ex6 : x6 = 0 := by rw [ex6]; exact h4
        subst ex6
        refine lv_iload_n hx hb dX7_tell_55 rfl (lv_at hl 1 rfl) ?_
        refine m_iast hx hb hW (77) rfl (vp_in_iff.mpr ⟨by decide, by decide⟩) dX7_tell_56 (fun H locs hW _ => ?_)
        generalize hμ7 : m_si μ (77) (0 : Int32).toNatClampNeg k = μ7 at hW
        refine lv_aload_n hx hb dX7_tell_57 rfl (lv_at hl 0 rfl) ?_
        refine m_getr hx hb hts hown hW (76) 1 (78) rfl rfl cw_7 rfl (by decide) k_X7_15 dX7_tell_58 ?_
        refine lv_aload_n hx hb dX7_tell_61 rfl (lv_at hl 0 rfl) ?_
        refine m_geti hx hb hts hown hW (76) 4 rfl rfl cw_7 rfl (by decide) k_X7_25 dX7_tell_62 ?_
        refine lv_topi (fun x8 ex8 => ?_)
        have ex8 : x8 = 0 := by rw [ex8, ← hμ7]; exact h4
        subst ex8
        refine lv_iload_n hx hb dX7_tell_65 rfl (lv_at hl 2 rfl) ?_
        refine m_iast hx hb hW (78) rfl (vp_in_iff.mpr ⟨by decide, by decide⟩) dX7_tell_66 (fun H locs hW _ => ?_)
        generalize hμ9 : m_si μ7 (78) (0 : Int32).toNatClampNeg u = μ9 at hW
        refine lv_aload_n hx hb dX7_tell_67 rfl (lv_at hl 0 rfl) ?_
        refine m_getr hx hb hts hown hW (76) 3 (80) rfl rfl cw_7 rfl (by decide) k_X7_21 dX7_tell_68 ?_
        refine lv_aload_n hx hb dX7_tell_71 rfl (lv_at hl 0 rfl) ?_
        refine m_geti hx hb hts hown hW (76) 4 rfl rfl cw_7 rfl (by decide) k_X7_25 dX7_tell_72 ?_
        refine lv_topi (fun x10 ex10 => ?_)
        have ex10 : x10 = 0 := by rw [ex10, ← hμ9, ← hμ7]; exact h4
        subst ex10
        refine lv_iload_n hx hb dX7_tell_75 rfl (lv_at hl 3 rfl) ?_
        refine m_zast hx hb hW (80) rfl (vp_in_iff.mpr ⟨by decide, by decide⟩) (m_nb hg) dX7_tell_76 (fun H locs hW _ => ?_)
        generalize hμ11 : m_si μ9 (80) (0 : Int32).toNatClampNeg g = μ11 at hW
        refine lv_aload_n hx hb dX7_tell_77 rfl (lv_at hl 0 rfl) ?_
        refine m_getr hx hb hts hown hW (76) 2 (79) rfl rfl cw_7 rfl (by decide) k_X7_18 dX7_tell_78 ?_
        refine lv_aload_n hx hb dX7_tell_81 rfl (lv_at hl 0 rfl) ?_
        refine m_geti hx hb hts hown hW (76) 4 rfl rfl cw_7 rfl (by decide) k_X7_25 dX7_tell_82 ?_
        refine lv_topi (fun x12 ex12 => ?_)
        have ex12 : x12 = 0 := by rw [ex12, ← hμ11, ← hμ9, ← hμ7]; exact h4
        subst ex12
        refine lv_iload hx hb dX7_tell_85 (lv_at hl 4 rfl) ?_
        refine m_iast hx hb hW (79) rfl (vp_in_iff.mpr ⟨by decide, by decide⟩) dX7_tell_87 (fun H locs hW _ => ?_)
        generalize hμ13 : m_si μ11 (79) (0 : Int32).toNatClampNeg w = μ13 at hW
        refine lv_aload_n hx hb dX7_tell_88 rfl (lv_at hl 0 rfl) ?_
        refine lv_dup hx hb dX7_tell_89 rfl ?_
        refine m_geti hx hb hts hown hW (76) 4 rfl rfl cw_7 rfl (by decide) k_X7_25 dX7_tell_90 ?_
        refine lv_topi (fun x14 ex14 => ?_)
        have ex14 : x14 = 0 := by rw [ex14, ← hμ13, ← hμ11, ← hμ9, ← hμ7]; exact h4
        subst ex14
        refine lv_iconst (v := 1) hx hb dX7_tell_93 (by decide) ?_
        refine lv_iadd hx hb dX7_tell_94 ?_
        refine lv_topi (fun x15 ex15 => ?_)
        have ex15 : x15 = 1 := by rw [ex15]; decide
        subst ex15
        refine m_puti hx hb hts hown hW (76) 4 rfl rfl cw_7 tyX7_ok nmX7 rfl (by decide) k_X7_25 rfl rfl rfl dX7_tell_95 (fun H locs hW _ => ?_)
        generalize hμ16 : m_si μ13 (76) 4 1 = μ16 at hW
        refine lv_aload_n hx hb dX7_tell_98 rfl (lv_at hl 0 rfl) ?_
        refine lv_iload hx hb dX7_tell_99 (lv_at hl 4 rfl) ?_
        refine m_puti hx hb hts hown hW (76) 5 rfl rfl cw_7 tyX7_ok nmX7 rfl (by decide) k_X7_29 rfl rfl rfl dX7_tell_101 (fun H locs hW _ => ?_)
        generalize hμ17 : m_si μ16 (76) 5 w = μ17 at hW
        refine lv_iconst (v := 1) hx hb dX7_tell_104 (by decide) ?_
        exact m_iret hx hb hr hlocks hW (by decide) ((if_pos (by omega)).symm) dX7_tell_105
      · refine lv_if_eq (tgt := 45) hx hb dX7_tell_32 (by decide) (fun _ => ?_) (fun c => False.elim (by revert c; decide))
        refine lv_iconst (v := 0) hx hb dX7_tell_45 (by decide) ?_
        exact m_iret hx hb hr hlocks hW (by decide) ((if_neg (by omega)).symm) dX7_tell_46
    · refine lv_if_eq (tgt := 45) hx hb dX7_tell_17 (by decide) (fun _ => ?_) (fun c => False.elim (by revert c; decide))
      refine lv_iconst (v := 0) hx hb dX7_tell_45 (by decide) ?_
      exact m_iret hx hb hr hlocks hW (by decide) ((if_neg (by omega)).symm) dX7_tell_46
  · refine lv_if_eq (tgt := 45) hx hb dX7_tell_6 (by decide) (fun _ => ?_) (fun c => False.elim (by revert c; decide))
    refine lv_iconst (v := 0) hx hb dX7_tell_45 (by decide) ?_
    exact m_iret hx hb hr hlocks hW (by decide) ((if_neg (by omega)).symm) dX7_tell_46
set_option maxHeartbeats 4000000 in
set_option maxRecDepth 100000 in
theorem c_X11_test (l : Launch) (D : va_G) (cy : Nat → ClassId) (b : Nat) (μ : mM) (h4 : μ.1 76 4 = 0) (h5 : μ.1 76 5 = 0) (k u g w : Int32) (hg : g = 0 ∨ g = 1) : m_Ci l yX11_test cX11_test 5 ((some .boolean)) 2 D cy b LX μ [.ref (b + 0), .int k, .int u, .int g, .int w] (fun r ν => r = Ftest k u w) := by
  unfold m_Ci
  refine m_of (by decide) (Nat.le_of_ble_eq_true rfl) ?_
  intro p e s m below meth c hx hb hr hml hown hts hlocks _ hW ls hl
  have hown : s.vm.findClass RX11 = some m.cls := hown
  have hl : lv_has ls 5 [(0, .ref (b + 0)), (1, .int k), (2, .int u), (3, .int g), (4, .int w)] := hl
  refine lv_aload_n hx hb dX11_test_0 rfl (lv_at hl 0 rfl) ?_
  refine m_getr hx hb hts hown hW (0) 8 (76) rfl rfl cw_11 rfl (by decide) k_X11_66 dX11_test_1 ?_
  refine lv_iload_n hx hb dX11_test_4 rfl (lv_at hl 1 rfl) ?_
  refine lv_iload_n hx hb dX11_test_5 rfl (lv_at hl 2 rfl) ?_
  refine lv_iload_n hx hb dX11_test_6 rfl (lv_at hl 3 rfl) ?_
  refine lv_iload hx hb dX11_test_7 (lv_at hl 4 rfl) ?_
  refine m_aI hW (m_runV (As := [.int k, .int u, .int g, .int w]) (rest := []) hx hb hml hown hts hW (76) (c_X7_tell l D cy b μ h4 h5 k u g w hg) mi_X7_tell k_X11_254 rfl rfl rfl hl.1 rfl (Nat.le_of_ble_eq_true rfl) dX11_test_9 ⟨Nat.le_of_ble_eq_true rfl, Nat.le_of_ble_eq_true rfl⟩ ⟨Nat.le_of_ble_eq_true rfl, Nat.le_of_ble_eq_true rfl⟩) (fun x1 μ1 H locs q1 hW => ?_)
  exact m_iret hx hb hr hlocks hW (by rw [q1]; exact m_nb m_01) (q1) dX11_test_12
set_option maxHeartbeats 4000000 in
set_option maxRecDepth 100000 in
theorem c_X7_leastMelt (l : Launch) (D : va_G) (cy : Nat → ClassId) (b : Nat) (μ : mM) (h4 : μ.1 76 4 = 0) (k u : Int32) : m_Ci l yX7_leastMelt cX7_leastMelt 5 ((some .int)) 0 D cy b LX μ [.ref (b + 76), .int k, .int u] (fun r ν => μ = ν ∧ r = 1) := by
  unfold m_Ci
  refine m_of (by decide) (Nat.le_of_ble_eq_true rfl) ?_
  intro p e s m below meth c hx hb hr hml hown hts hlocks _ hW ls hl
  have hown : s.vm.findClass RX7 = some m.cls := hown
  have hl : lv_has ls 5 [(0, .ref (b + 76)), (1, .int k), (2, .int u)] := hl
  refine lv_iconst (v := 1) hx hb dX7_leastMelt_0 (by decide) ?_
  refine lv_istore_n (lv' := [(3, .int 1), (0, .ref (b + 76)), (1, .int k), (2, .int u)]) hx hb dX7_leastMelt_1 rfl hl (by decide) rfl (fun ls hl => ?_)
  refine lv_iconst (v := 0) hx hb dX7_leastMelt_2 (by decide) ?_
  refine lv_istore (lv' := [(4, .int 0), (3, .int 1), (0, .ref (b + 76)), (1, .int k), (2, .int u)]) hx hb dX7_leastMelt_3 hl (by decide) rfl (fun ls hl => ?_)
  refine lv_iload hx hb dX7_leastMelt_5 (lv_at hl 0 rfl) ?_
  refine lv_aload_n hx hb dX7_leastMelt_7 rfl (lv_at hl 2 rfl) ?_
  refine m_geti hx hb hts hown hW (76) 4 rfl rfl cw_7 rfl (by decide) k_X7_25 dX7_leastMelt_8 ?_
  refine lv_topi (fun x1 ex1 => ?_)
  have ex1 : x1 = 0 := by rw [ex1]; exact h4
  subst ex1
  refine lv_icmp_ge (tgt := 66) hx hb dX7_leastMelt_11 (by decide) (fun _ => ?_) (fun c => False.elim (by revert c; decide))
  refine lv_iload_n hx hb dX7_leastMelt_66 rfl (lv_at hl 1 rfl) ?_
  exact m_iret hx hb hr hlocks hW rfl (⟨rfl, rfl⟩) dX7_leastMelt_67
set_option maxHeartbeats 4000000 in
set_option maxRecDepth 100000 in
theorem c_X7_greatestMelt (l : Launch) (D : va_G) (cy : Nat → ClassId) (b : Nat) (μ : mM) (h4 : μ.1 76 4 = 0) (k u : Int32) : m_Ci l yX7_greatestMelt cX7_greatestMelt 5 ((some .int)) 0 D cy b LX μ [.ref (b + 76), .int k, .int u] (fun r ν => μ = ν ∧ r = 999) := by
  unfold m_Ci
  refine m_of (by decide) (Nat.le_of_ble_eq_true rfl) ?_
  intro p e s m below meth c hx hb hr hml hown hts hlocks _ hW ls hl
  have hown : s.vm.findClass RX7 = some m.cls := hown
  have hl : lv_has ls 5 [(0, .ref (b + 76)), (1, .int k), (2, .int u)] := hl
  refine lv_sipush (v := 999) hx hb dX7_greatestMelt_0 (by decide) ?_
  refine lv_istore_n (lv' := [(3, .int 999), (0, .ref (b + 76)), (1, .int k), (2, .int u)]) hx hb dX7_greatestMelt_3 rfl hl (by decide) rfl (fun ls hl => ?_)
  refine lv_iconst (v := 0) hx hb dX7_greatestMelt_4 (by decide) ?_
  refine lv_istore (lv' := [(4, .int 0), (3, .int 999), (0, .ref (b + 76)), (1, .int k), (2, .int u)]) hx hb dX7_greatestMelt_5 hl (by decide) rfl (fun ls hl => ?_)
  refine lv_iload hx hb dX7_greatestMelt_7 (lv_at hl 0 rfl) ?_
  refine lv_aload_n hx hb dX7_greatestMelt_9 rfl (lv_at hl 2 rfl) ?_
  refine m_geti hx hb hts hown hW (76) 4 rfl rfl cw_7 rfl (by decide) k_X7_25 dX7_greatestMelt_10 ?_
  refine lv_topi (fun x1 ex1 => ?_)
  have ex1 : x1 = 0 := by rw [ex1]; exact h4
  subst ex1
  refine lv_icmp_ge (tgt := 66) hx hb dX7_greatestMelt_13 (by decide) (fun _ => ?_) (fun c => False.elim (by revert c; decide))
  refine lv_iload_n hx hb dX7_greatestMelt_66 rfl (lv_at hl 1 rfl) ?_
  exact m_iret hx hb hr hlocks hW rfl (⟨rfl, rfl⟩) dX7_greatestMelt_67
set_option maxHeartbeats 4000000 in
set_option maxRecDepth 100000 in
theorem c_X11_known (l : Launch) (D : va_G) (cy : Nat → ClassId) (b : Nat) (μ : mM) (h4 : μ.1 76 4 = 0) (k u v : Int32) : m_Ci l yX11_known cX11_known 6 ((some .int)) 1 D cy b LX μ [.ref (b + 0), .int k, .int u, .int v] (fun r ν => r = Fknown k u v) := by
  unfold m_Ci
  refine m_of (by decide) (Nat.le_of_ble_eq_true rfl) ?_
  intro p e s m below meth c hx hb hr hml hown hts hlocks _ hW ls hl
  have hown : s.vm.findClass RX11 = some m.cls := hown
  have hl : lv_has ls 6 [(0, .ref (b + 0)), (1, .int k), (2, .int u), (3, .int v)] := hl
  refine lv_iload_n hx hb dX11_known_0 rfl (lv_at hl 1 rfl) ?_
  refine lv_iconst (v := 0) hx hb dX11_known_1 (by decide) ?_
  refine lv_iconst (v := 3) hx hb dX11_known_2 (by decide) ?_
  refine m_aI hW (m_runS (As := [.int k, .int 0, .int 3]) (rest := []) hx hb hml hown hts hW (c_X11_within l D cy b LX μ k 0 3 0 3 (by decide) (by decide)) ms_X11_within k_X11_81 rfl hl.1 rfl (Nat.le_of_ble_eq_true rfl) dX11_known_3 ⟨Nat.le_of_ble_eq_true rfl, Nat.le_of_ble_eq_true rfl⟩ ⟨Nat.le_of_ble_eq_true rfl, Nat.le_of_ble_eq_true rfl⟩) (fun x1 μ1 H locs q1 hW => ?_)
  obtain ⟨q1_m, q1⟩ := q1
  subst q1_m
  rcases q1 with ⟨rfl, q1⟩ | ⟨rfl, q1⟩
  · refine lv_if_eq (tgt := 20) hx hb dX11_known_6 (by decide) (fun c => False.elim (by revert c; decide)) (fun _ => ?_)
    refine lv_iload_n hx hb dX11_known_9 rfl (lv_at hl 2 rfl) ?_
    refine lv_iconst (v := 0) hx hb dX11_known_10 (by decide) ?_
    refine lv_sipush (v := 999) hx hb dX11_known_11 (by decide) ?_
    refine m_aI hW (m_runS (As := [.int u, .int 0, .int 999]) (rest := []) hx hb hml hown hts hW (c_X11_within l D cy b LX μ u 0 999 0 999 (by decide) (by decide)) ms_X11_within k_X11_81 rfl hl.1 rfl (Nat.le_of_ble_eq_true rfl) dX11_known_14 ⟨Nat.le_of_ble_eq_true rfl, Nat.le_of_ble_eq_true rfl⟩ ⟨Nat.le_of_ble_eq_true rfl, Nat.le_of_ble_eq_true rfl⟩) (fun x2 μ2 H locs q2 hW => ?_)
    obtain ⟨q2_m, q2⟩ := q2
    subst q2_m
    rcases q2 with ⟨rfl, q2⟩ | ⟨rfl, q2⟩
    · refine lv_if_ne (tgt := 22) hx hb dX11_known_17 (by decide) (fun _ => ?_) (fun c => False.elim (by revert c; decide))
      refine lv_aload_n hx hb dX11_known_22 rfl (lv_at hl 0 rfl) ?_
      refine m_getr hx hb hts hown hW (0) 8 (76) rfl rfl cw_11 rfl (by decide) k_X11_66 dX11_known_23 ?_
      refine lv_iload_n hx hb dX11_known_26 rfl (lv_at hl 1 rfl) ?_
      refine lv_iload_n hx hb dX11_known_27 rfl (lv_at hl 2 rfl) ?_
      refine m_aI hW (m_runV (As := [.int k, .int u]) (rest := []) hx hb hml hown hts hW (76) (c_X7_leastMelt l D cy b μ h4 k u) mi_X7_leastMelt k_X11_258 rfl rfl rfl hl.1 rfl (Nat.le_of_ble_eq_true rfl) dX11_known_28 ⟨Nat.le_of_ble_eq_true rfl, Nat.le_of_ble_eq_true rfl⟩ ⟨Nat.le_of_ble_eq_true rfl, Nat.le_of_ble_eq_true rfl⟩) (fun x3 μ3 H locs q3 hW => ?_)
      obtain ⟨q3_m, q3⟩ := q3
      subst q3_m
      subst q3
      refine lv_istore (lv' := [(4, .int 1), (0, .ref (b + 0)), (1, .int k), (2, .int u), (3, .int v)]) hx hb dX11_known_31 hl (by decide) rfl (fun ls hl => ?_)
      refine lv_aload_n hx hb dX11_known_33 rfl (lv_at hl 1 rfl) ?_
      refine m_getr hx hb hts hown hW (0) 8 (76) rfl rfl cw_11 rfl (by decide) k_X11_66 dX11_known_34 ?_
      refine lv_iload_n hx hb dX11_known_37 rfl (lv_at hl 2 rfl) ?_
      refine lv_iload_n hx hb dX11_known_38 rfl (lv_at hl 3 rfl) ?_
      refine m_aI hW (m_runV (As := [.int k, .int u]) (rest := []) hx hb hml hown hts hW (76) (c_X7_greatestMelt l D cy b μ h4 k u) mi_X7_greatestMelt k_X11_261 rfl rfl rfl hl.1 rfl (Nat.le_of_ble_eq_true rfl) dX11_known_39 ⟨Nat.le_of_ble_eq_true rfl, Nat.le_of_ble_eq_true rfl⟩ ⟨Nat.le_of_ble_eq_true rfl, Nat.le_of_ble_eq_true rfl⟩) (fun x4 μ4 H locs q4 hW => ?_)
      obtain ⟨q4_m, q4⟩ := q4
      subst q4_m
      subst q4
      refine lv_istore (lv' := [(5, .int 999), (4, .int 1), (0, .ref (b + 0)), (1, .int k), (2, .int u), (3, .int v)]) hx hb dX11_known_42 hl (by decide) rfl (fun ls hl => ?_)
      refine lv_iload_n hx hb dX11_known_44 rfl (lv_at hl 5 rfl) ?_
      by_cases c5 : v.toInt < 0 ∨ 3 < v.toInt
      · refine lv_tableOut (tgt := 114) hx hb dX11_known_45 c5 (by decide) ?_
        refine lv_iconst (v := (-1)) hx hb dX11_known_114 (by decide) ?_
        exact m_iret hx hb hr hlocks hW rfl (((if_pos (by omega)).trans ((if_neg (by omega)).trans ((if_neg (by omega)).trans ((if_neg (by omega)).trans (if_neg (by omega)))))).symm) dX11_known_115
      · have q5 : v.toInt = 0 ∨ v.toInt = 1 ∨ v.toInt = 2 ∨ v.toInt = 3 := by omega
        rcases q5 with q5 | q5 | q5 | q5
        · refine lv_tableIn (off := 31) (tgt := 76) hx hb dX11_known_45 (fun z => c5 (Or.inl z)) (fun z => c5 (Or.inr z)) (by rw [q5]; rfl) (by decide) ?_
          refine lv_iload hx hb dX11_known_76 (lv_at hl 1 rfl) ?_
          exact m_iret hx hb hr hlocks hW rfl (((if_pos (by omega)).trans (if_pos (by omega))).symm) dX11_known_78
        · refine lv_tableIn (off := 34) (tgt := 79) hx hb dX11_known_45 (fun z => c5 (Or.inl z)) (fun z => c5 (Or.inr z)) (by rw [q5]; rfl) (by decide) ?_
          refine lv_iload hx hb dX11_known_79 (lv_at hl 0 rfl) ?_
          exact m_iret hx hb hr hlocks hW rfl (((if_pos (by omega)).trans ((if_neg (by omega)).trans (if_pos (by omega)))).symm) dX11_known_81
        · refine lv_tableIn (off := 37) (tgt := 82) hx hb dX11_known_45 (fun z => c5 (Or.inl z)) (fun z => c5 (Or.inr z)) (by rw [q5]; rfl) (by decide) ?_
          refine lv_iload hx hb dX11_known_82 (lv_at hl 1 rfl) ?_
          refine lv_iload hx hb dX11_known_84 (lv_at hl 0 rfl) ?_
          refine lv_icmp_le (tgt := 93) hx hb dX11_known_86 (by decide) (fun _ => ?_) (fun c => False.elim (by revert c; decide))
          refine lv_iconst (v := 0) hx hb dX11_known_93 (by decide) ?_
          exact m_iret hx hb hr hlocks hW rfl (((if_pos (by omega)).trans ((if_neg (by omega)).trans ((if_neg (by omega)).trans (if_pos (by omega))))).symm) dX11_known_94
        · refine lv_tableIn (off := 50) (tgt := 95) hx hb dX11_known_45 (fun z => c5 (Or.inl z)) (fun z => c5 (Or.inr z)) (by rw [q5]; rfl) (by decide) ?_
          refine lv_iload hx hb dX11_known_95 (lv_at hl 1 rfl) ?_
          refine lv_iload hx hb dX11_known_97 (lv_at hl 0 rfl) ?_
          refine lv_icmp_ge (tgt := 112) hx hb dX11_known_99 (by decide) (fun c => False.elim (by revert c; decide)) (fun _ => ?_)
          refine lv_iload hx hb dX11_known_102 (lv_at hl 1 rfl) ?_
          refine lv_iload hx hb dX11_known_104 (lv_at hl 0 rfl) ?_
          refine lv_iadd hx hb dX11_known_106 ?_
          refine lv_topi (fun x6 ex6 => ?_)
          have ex6 : x6 = 1000 := by rw [ex6]; decide
          subst ex6
          refine lv_iconst (v := 2) hx hb dX11_known_107 (by decide) ?_
          refine lv_idiv hx hb dX11_known_108 (by decide) ?_
          refine lv_topi (fun x7 ex7 => ?_)
          have ex7 : x7 = 500 := by rw [ex7]; decide
          subst ex7
          refine lv_goto (tgt := 113) hx hb dX11_known_109 (by decide) ?_
          exact m_iret hx hb hr hlocks hW rfl (((if_pos (by omega)).trans ((if_neg (by omega)).trans ((if_neg (by omega)).trans ((if_neg (by omega)).trans (if_pos (by omega)))))).symm) dX11_known_113
    · refine lv_if_ne (tgt := 22) hx hb dX11_known_17 (by decide) (fun c => False.elim (by revert c; decide)) (fun _ => ?_)
      refine lv_iconst (v := (-1)) hx hb dX11_known_20 (by decide) ?_
      exact m_iret hx hb hr hlocks hW rfl ((if_neg (by omega)).symm) dX11_known_21
  · refine lv_if_eq (tgt := 20) hx hb dX11_known_6 (by decide) (fun _ => ?_) (fun c => False.elim (by revert c; decide))
    refine lv_iconst (v := (-1)) hx hb dX11_known_20 (by decide) ?_
    exact m_iret hx hb hr hlocks hW rfl ((if_neg (by omega)).symm) dX11_known_21
set_option maxHeartbeats 4000000 in
set_option maxRecDepth 100000 in
theorem c_X11_sparks (l : Launch) (D : va_G) (cy : Nat → ClassId) (b : Nat) (μ : mM) (h0 : μ.1 23 1 = 0) : m_Ci l yX11_sparks cX11_sparks 1 ((some .int)) 2 D cy b LX μ [.ref (b + 0)] (fun r ν => r = 0) := by
  unfold m_Ci
  refine m_of (by decide) (Nat.le_of_ble_eq_true rfl) ?_
  intro p e s m below meth c hx hb hr hml hown hts hlocks _ hW ls hl
  have hown : s.vm.findClass RX11 = some m.cls := hown
  have hl : lv_has ls 1 [(0, .ref (b + 0))] := hl
  refine lv_aload_n hx hb dX11_sparks_0 rfl (lv_at hl 0 rfl) ?_
  refine m_getr hx hb hts hown hW (0) 2 (25) rfl rfl cw_11 rfl (by decide) k_X11_25 dX11_sparks_1 ?_
  refine lv_aload_n hx hb dX11_sparks_4 rfl (lv_at hl 0 rfl) ?_
  refine m_getr hx hb hts hown hW (0) 1 (23) rfl rfl cw_11 rfl (by decide) k_X11_21 dX11_sparks_5 ?_
  refine m_aV hW (m_runV (As := [.ref (b + 23)]) (rest := []) hx hb hml hown hts hW (25) (c_X5_copyFrom l D cy b μ 25 26 400 23 24 400 rfl rfl rfl rfl (by decide) (by decide) h0) mi_X5_copyFrom k_X11_120 rfl rfl rfl hl.1 rfl (Nat.le_of_ble_eq_true rfl) dX11_sparks_8 ⟨Nat.le_of_ble_eq_true rfl, Nat.le_of_ble_eq_true rfl⟩ ⟨Nat.le_of_ble_eq_true rfl, Nat.le_of_ble_eq_true rfl⟩) (fun μ1 H locs q1 hW => ?_)
  refine lv_aload_n hx hb dX11_sparks_11 rfl (lv_at hl 0 rfl) ?_
  refine m_getr hx hb hts hown hW (0) 1 (23) rfl rfl cw_11 rfl (by decide) k_X11_21 dX11_sparks_12 ?_
  refine lv_iconst (v := 0) hx hb dX11_sparks_15 (by decide) ?_
  refine m_puti hx hb hts hown hW (23) 1 rfl rfl cw_5 tyX5_ok nmX5 rfl (by decide) k_X11_99 rfl rfl rfl dX11_sparks_16 (fun H locs hW _ => ?_)
  generalize hμ2 : m_si μ1 (23) 1 0 = μ2 at hW
  refine lv_aload_n hx hb dX11_sparks_19 rfl (lv_at hl 0 rfl) ?_
  refine m_getr hx hb hts hown hW (0) 2 (25) rfl rfl cw_11 rfl (by decide) k_X11_25 dX11_sparks_20 ?_
  refine m_geti hx hb hts hown hW (25) 1 rfl rfl cw_5 rfl (by decide) k_X11_99 dX11_sparks_23 ?_
  refine lv_topi (fun x3 ex3 => ?_)
  have ex3 : x3 = 0 := by rw [ex3, ← hμ2]; exact q1
  subst ex3
  exact m_iret hx hb hr hlocks hW rfl (rfl) dX11_sparks_26
set_option maxHeartbeats 4000000 in
set_option maxRecDepth 100000 in
theorem c_X5_firstRunBelow (l : Launch) (D : va_G) (cy : Nat → ClassId) (b : Nat) (μ : mM) (h0 : μ.1 25 1 = 0) (k u : Int32) : m_Ci l yX5_firstRunBelow cX5_firstRunBelow 5 ((some .int)) 0 D cy b LX μ [.ref (b + 25), .int k, .int u] (fun r ν => μ = ν ∧ r = -1) := by
  unfold m_Ci
  refine m_of (by decide) (Nat.le_of_ble_eq_true rfl) ?_
  intro p e s m below meth c hx hb hr hml hown hts hlocks _ hW ls hl
  have hown : s.vm.findClass RX5 = some m.cls := hown
  have hl : lv_has ls 5 [(0, .ref (b + 25)), (1, .int k), (2, .int u)] := hl
  refine lv_iconst (v := 0) hx hb dX5_firstRunBelow_0 (by decide) ?_
  refine lv_istore_n (lv' := [(3, .int 0), (0, .ref (b + 25)), (1, .int k), (2, .int u)]) hx hb dX5_firstRunBelow_1 rfl hl (by decide) rfl (fun ls hl => ?_)
  refine lv_iconst (v := 0) hx hb dX5_firstRunBelow_2 (by decide) ?_
  refine lv_istore (lv' := [(4, .int 0), (3, .int 0), (0, .ref (b + 25)), (1, .int k), (2, .int u)]) hx hb dX5_firstRunBelow_3 hl (by decide) rfl (fun ls hl => ?_)
  refine lv_iload hx hb dX5_firstRunBelow_5 (lv_at hl 0 rfl) ?_
  refine lv_aload_n hx hb dX5_firstRunBelow_7 rfl (lv_at hl 2 rfl) ?_
  refine m_geti hx hb hts hown hW (25) 1 rfl rfl cw_5 rfl (by decide) k_X5_9 dX5_firstRunBelow_8 ?_
  refine lv_topi (fun x1 ex1 => ?_)
  have ex1 : x1 = 0 := by rw [ex1]; exact h0
  subst ex1
  refine lv_icmp_ge (tgt := 51) hx hb dX5_firstRunBelow_11 (by decide) (fun _ => ?_) (fun c => False.elim (by revert c; decide))
  refine lv_iconst (v := (-1)) hx hb dX5_firstRunBelow_51 (by decide) ?_
  exact m_iret hx hb hr hlocks hW rfl (⟨rfl, rfl⟩) dX5_firstRunBelow_52
set_option maxHeartbeats 4000000 in
set_option maxRecDepth 100000 in
theorem c_X11_lost (l : Launch) (D : va_G) (cy : Nat → ClassId) (b : Nat) (μ : mM) (h0 : μ.1 25 1 = 0) (k u : Int32) : m_Ci l yX11_lost cX11_lost 3 ((some .int)) 1 D cy b LX μ [.ref (b + 0), .int k, .int u] (fun r ν => r = -1) := by
  unfold m_Ci
  refine m_of (by decide) (Nat.le_of_ble_eq_true rfl) ?_
  intro p e s m below meth c hx hb hr hml hown hts hlocks _ hW ls hl
  have hown : s.vm.findClass RX11 = some m.cls := hown
  have hl : lv_has ls 3 [(0, .ref (b + 0)), (1, .int k), (2, .int u)] := hl
  refine lv_iload_n hx hb dX11_lost_0 rfl (lv_at hl 1 rfl) ?_
  refine lv_iconst (v := 0) hx hb dX11_lost_1 (by decide) ?_
  refine lv_sipush (v := 256) hx hb dX11_lost_2 (by decide) ?_
  refine m_aI hW (m_runS (As := [.int k, .int 0, .int 256]) (rest := []) hx hb hml hown hts hW (c_X11_within l D cy b LX μ k 0 256 0 256 (by decide) (by decide)) ms_X11_within k_X11_81 rfl hl.1 rfl (Nat.le_of_ble_eq_true rfl) dX11_lost_5 ⟨Nat.le_of_ble_eq_true rfl, Nat.le_of_ble_eq_true rfl⟩ ⟨Nat.le_of_ble_eq_true rfl, Nat.le_of_ble_eq_true rfl⟩) (fun x1 μ1 H locs q1 hW => ?_)
  obtain ⟨q1_m, q1⟩ := q1
  subst q1_m
  rcases q1 with ⟨rfl, q1⟩ | ⟨rfl, q1⟩
  · refine lv_if_eq (tgt := 21) hx hb dX11_lost_8 (by decide) (fun c => False.elim (by revert c; decide)) (fun _ => ?_)
    refine lv_iload_n hx hb dX11_lost_11 rfl (lv_at hl 2 rfl) ?_
    refine lv_iconst (v := 1) hx hb dX11_lost_12 (by decide) ?_
    refine lv_bipush (v := 99) hx hb dX11_lost_13 (by decide) ?_
    refine m_aI hW (m_runS (As := [.int u, .int 1, .int 99]) (rest := []) hx hb hml hown hts hW (c_X11_within l D cy b LX μ u 1 99 1 99 (by decide) (by decide)) ms_X11_within k_X11_81 rfl hl.1 rfl (Nat.le_of_ble_eq_true rfl) dX11_lost_15 ⟨Nat.le_of_ble_eq_true rfl, Nat.le_of_ble_eq_true rfl⟩ ⟨Nat.le_of_ble_eq_true rfl, Nat.le_of_ble_eq_true rfl⟩) (fun x2 μ2 H locs q2 hW => ?_)
    obtain ⟨q2_m, q2⟩ := q2
    subst q2_m
    rcases q2 with ⟨rfl, q2⟩ | ⟨rfl, q2⟩
    · refine lv_if_ne (tgt := 23) hx hb dX11_lost_18 (by decide) (fun _ => ?_) (fun c => False.elim (by revert c; decide))
      refine lv_aload_n hx hb dX11_lost_23 rfl (lv_at hl 0 rfl) ?_
      refine m_getr hx hb hts hown hW (0) 2 (25) rfl rfl cw_11 rfl (by decide) k_X11_25 dX11_lost_24 ?_
      refine lv_iload_n hx hb dX11_lost_27 rfl (lv_at hl 1 rfl) ?_
      refine lv_iload_n hx hb dX11_lost_28 rfl (lv_at hl 2 rfl) ?_
      refine m_aI hW (m_runV (As := [.int k, .int u]) (rest := []) hx hb hml hown hts hW (25) (c_X5_firstRunBelow l D cy b μ h0 k u) mi_X5_firstRunBelow k_X11_264 rfl rfl rfl hl.1 rfl (Nat.le_of_ble_eq_true rfl) dX11_lost_29 ⟨Nat.le_of_ble_eq_true rfl, Nat.le_of_ble_eq_true rfl⟩ ⟨Nat.le_of_ble_eq_true rfl, Nat.le_of_ble_eq_true rfl⟩) (fun x3 μ3 H locs q3 hW => ?_)
      obtain ⟨q3_m, q3⟩ := q3
      subst q3_m
      subst q3
      exact m_iret hx hb hr hlocks hW rfl (rfl) dX11_lost_32
    · refine lv_if_ne (tgt := 23) hx hb dX11_lost_18 (by decide) (fun c => False.elim (by revert c; decide)) (fun _ => ?_)
      refine lv_iconst (v := (-1)) hx hb dX11_lost_21 (by decide) ?_
      exact m_iret hx hb hr hlocks hW rfl (rfl) dX11_lost_22
  · refine lv_if_eq (tgt := 21) hx hb dX11_lost_8 (by decide) (fun _ => ?_) (fun c => False.elim (by revert c; decide))
    refine lv_iconst (v := (-1)) hx hb dX11_lost_21 (by decide) ?_
    exact m_iret hx hb hr hlocks hW rfl (rfl) dX11_lost_22
