set_option maxHeartbeats 4000000 in
set_option maxRecDepth 100000 in
theorem g_X10_setStuff (l : Launch) (D : va_G) (cy : Nat → ClassId) (b : Nat) (S : Nat → Bool) (μ0 : mM) (hS1 : S 1 = true) (k u v w z : Int32) (μ : mM) (hI : IY S μ0 μ) : m_Ci l yX10_setStuff cX10_setStuff 6 ((some .boolean)) 1 D cy b LAY μ [.ref (b + 1), .int k, .int u, .int v, .int w, .int z] (fun r ν => IY S μ0 ν ∧ ((r = 1 ∧ (0 ≤ k.toInt ∧ k.toInt ≤ 3 ∧ 1 ≤ u.toInt ∧ u.toInt ≤ 999 ∧ 0 ≤ v.toInt ∧ v.toInt ≤ 20 ∧ 0 ≤ w.toInt ∧ w.toInt ≤ 20 ∧ 1 ≤ z.toInt ∧ z.toInt ≤ 9999)) ∨ (r = 0 ∧ (¬ (0 ≤ k.toInt ∧ k.toInt ≤ 3 ∧ 1 ≤ u.toInt ∧ u.toInt ≤ 999 ∧ 0 ≤ v.toInt ∧ v.toInt ≤ 20 ∧ 0 ≤ w.toInt ∧ w.toInt ≤ 20 ∧ 1 ≤ z.toInt ∧ z.toInt ≤ 9999))))) := by
  unfold m_Ci
  refine m_of (by decide) (Nat.le_of_ble_eq_true rfl) ?_
  intro p e s m below meth c hx hb hr hml hown hts hlocks _ hW ls hl
  have hown : s.vm.findClass RX10 = some m.cls := hown
  have hl : lv_has ls 6 [(0, .ref (b + 1)), (1, .int k), (2, .int u), (3, .int v), (4, .int w), (5, .int z)] := hl
  refine lv_iload_n hx hb dX10_setStuff_0 rfl (lv_at hl 1 rfl) ?_
  refine lv_iconst (v := 0) hx hb dX10_setStuff_1 (by decide) ?_
  refine lv_iconst (v := 3) hx hb dX10_setStuff_2 (by decide) ?_
  have l_0 : (0 : Int32).toInt = 0 := by decide
  have l_3 : (3 : Int32).toInt = 3 := by decide
  refine m_aI hW (m_runSN (As := [.int k, .int 0, .int 3]) (rest := []) hx hb hml hown hts hW (g_X11_within l D cy b k 0 3 μ hI.1) ms_X11_within n_X10_46 rfl hl.1 rfl (Nat.le_of_ble_eq_true rfl) dX10_setStuff_3 ⟨Nat.le_of_ble_eq_true rfl, Nat.le_of_ble_eq_true rfl⟩ ⟨Nat.le_of_ble_eq_true rfl, Nat.le_of_ble_eq_true rfl⟩) (fun x1 μ1 H locs q1 hW => ?_)
  obtain ⟨q1_m, q1⟩ := q1
  subst q1_m
  rcases q1 with ⟨rfl, q1⟩ | ⟨rfl, q1⟩
  · refine lv_if_eq (tgt := 53) hx hb dX10_setStuff_6 (by decide) (fun c => False.elim (by revert c; decide)) (fun _ => ?_)
    refine lv_iload_n hx hb dX10_setStuff_9 rfl (lv_at hl 2 rfl) ?_
    refine lv_iconst (v := 1) hx hb dX10_setStuff_10 (by decide) ?_
    refine lv_sipush (v := 999) hx hb dX10_setStuff_11 (by decide) ?_
    have l_1 : (1 : Int32).toInt = 1 := by decide
    have l_999 : (999 : Int32).toInt = 999 := by decide
    refine m_aI hW (m_runSN (As := [.int u, .int 1, .int 999]) (rest := []) hx hb hml hown hts hW (g_X11_within l D cy b u 1 999 μ hI.1) ms_X11_within n_X10_46 rfl hl.1 rfl (Nat.le_of_ble_eq_true rfl) dX10_setStuff_14 ⟨Nat.le_of_ble_eq_true rfl, Nat.le_of_ble_eq_true rfl⟩ ⟨Nat.le_of_ble_eq_true rfl, Nat.le_of_ble_eq_true rfl⟩) (fun x2 μ2 H locs q2 hW => ?_)
    obtain ⟨q2_m, q2⟩ := q2
    subst q2_m
    rcases q2 with ⟨rfl, q2⟩ | ⟨rfl, q2⟩
    · refine lv_if_eq (tgt := 53) hx hb dX10_setStuff_17 (by decide) (fun c => False.elim (by revert c; decide)) (fun _ => ?_)
      refine lv_iload_n hx hb dX10_setStuff_20 rfl (lv_at hl 3 rfl) ?_
      refine lv_iconst (v := 0) hx hb dX10_setStuff_21 (by decide) ?_
      refine lv_bipush (v := 20) hx hb dX10_setStuff_22 (by decide) ?_
      have l_20 : (20 : Int32).toInt = 20 := by decide
      refine m_aI hW (m_runSN (As := [.int v, .int 0, .int 20]) (rest := []) hx hb hml hown hts hW (g_X11_within l D cy b v 0 20 μ hI.1) ms_X11_within n_X10_46 rfl hl.1 rfl (Nat.le_of_ble_eq_true rfl) dX10_setStuff_24 ⟨Nat.le_of_ble_eq_true rfl, Nat.le_of_ble_eq_true rfl⟩ ⟨Nat.le_of_ble_eq_true rfl, Nat.le_of_ble_eq_true rfl⟩) (fun x3 μ3 H locs q3 hW => ?_)
      obtain ⟨q3_m, q3⟩ := q3
      subst q3_m
      rcases q3 with ⟨rfl, q3⟩ | ⟨rfl, q3⟩
      · refine lv_if_eq (tgt := 53) hx hb dX10_setStuff_27 (by decide) (fun c => False.elim (by revert c; decide)) (fun _ => ?_)
        refine lv_iload hx hb dX10_setStuff_30 (lv_at hl 4 rfl) ?_
        refine lv_iconst (v := 0) hx hb dX10_setStuff_32 (by decide) ?_
        refine lv_bipush (v := 20) hx hb dX10_setStuff_33 (by decide) ?_
        refine m_aI hW (m_runSN (As := [.int w, .int 0, .int 20]) (rest := []) hx hb hml hown hts hW (g_X11_within l D cy b w 0 20 μ hI.1) ms_X11_within n_X10_46 rfl hl.1 rfl (Nat.le_of_ble_eq_true rfl) dX10_setStuff_35 ⟨Nat.le_of_ble_eq_true rfl, Nat.le_of_ble_eq_true rfl⟩ ⟨Nat.le_of_ble_eq_true rfl, Nat.le_of_ble_eq_true rfl⟩) (fun x4 μ4 H locs q4 hW => ?_)
        obtain ⟨q4_m, q4⟩ := q4
        subst q4_m
        rcases q4 with ⟨rfl, q4⟩ | ⟨rfl, q4⟩
        · refine lv_if_eq (tgt := 53) hx hb dX10_setStuff_38 (by decide) (fun c => False.elim (by revert c; decide)) (fun _ => ?_)
          refine lv_iload hx hb dX10_setStuff_41 (lv_at hl 5 rfl) ?_
          refine lv_iconst (v := 1) hx hb dX10_setStuff_43 (by decide) ?_
          refine lv_sipush (v := 9999) hx hb dX10_setStuff_44 (by decide) ?_
          have l_9999 : (9999 : Int32).toInt = 9999 := by decide
          refine m_aI hW (m_runSN (As := [.int z, .int 1, .int 9999]) (rest := []) hx hb hml hown hts hW (g_X11_within l D cy b z 1 9999 μ hI.1) ms_X11_within n_X10_46 rfl hl.1 rfl (Nat.le_of_ble_eq_true rfl) dX10_setStuff_47 ⟨Nat.le_of_ble_eq_true rfl, Nat.le_of_ble_eq_true rfl⟩ ⟨Nat.le_of_ble_eq_true rfl, Nat.le_of_ble_eq_true rfl⟩) (fun x5 μ5 H locs q5 hW => ?_)
          obtain ⟨q5_m, q5⟩ := q5
          subst q5_m
          rcases q5 with ⟨rfl, q5⟩ | ⟨rfl, q5⟩
          · refine lv_if_ne (tgt := 55) hx hb dX10_setStuff_50 (by decide) (fun _ => ?_) (fun c => False.elim (by revert c; decide))
            refine lv_aload_n hx hb dX10_setStuff_55 rfl (lv_at hl 0 rfl) ?_
            refine m_getr hx hb hts hown hW (1) 0 (2) rfl rfl cw_10 rfl (by decide) k_X10_9 dX10_setStuff_56 ?_
            refine lv_iload_n hx hb dX10_setStuff_59 rfl (lv_at hl 1 rfl) ?_
            refine lv_iload_n hx hb dX10_setStuff_60 rfl (lv_at hl 2 rfl) ?_
            refine m_iast hx hb hW (2) rfl (m_ixI (rfl : k.toInt = _) (by omega) (by omega)) dX10_setStuff_61 (fun H locs hW _ => ?_)
            generalize hμ6 : m_si μ (2) (k : Int32).toNatClampNeg u = μ6 at hW
            have hI := hI.si0 hμ6 rfl hS1
            refine lv_aload_n hx hb dX10_setStuff_62 rfl (lv_at hl 0 rfl) ?_
            refine m_getr hx hb hts hown hW (1) 1 (3) rfl rfl cw_10 rfl (by decide) k_X10_15 dX10_setStuff_63 ?_
            refine lv_iload_n hx hb dX10_setStuff_66 rfl (lv_at hl 1 rfl) ?_
            refine lv_iload_n hx hb dX10_setStuff_67 rfl (lv_at hl 3 rfl) ?_
            refine m_iast hx hb hW (3) rfl (m_ixI (rfl : k.toInt = _) (by omega) (by omega)) dX10_setStuff_68 (fun H locs hW _ => ?_)
            generalize hμ7 : m_si μ6 (3) (k : Int32).toNatClampNeg v = μ7 at hW
            have hI := hI.si0 hμ7 rfl hS1
            refine lv_aload_n hx hb dX10_setStuff_69 rfl (lv_at hl 0 rfl) ?_
            refine m_getr hx hb hts hown hW (1) 2 (4) rfl rfl cw_10 rfl (by decide) k_X10_18 dX10_setStuff_70 ?_
            refine lv_iload_n hx hb dX10_setStuff_73 rfl (lv_at hl 1 rfl) ?_
            refine lv_iload hx hb dX10_setStuff_74 (lv_at hl 4 rfl) ?_
            refine m_iast hx hb hW (4) rfl (m_ixI (rfl : k.toInt = _) (by omega) (by omega)) dX10_setStuff_76 (fun H locs hW _ => ?_)
            generalize hμ8 : m_si μ7 (4) (k : Int32).toNatClampNeg w = μ8 at hW
            have hI := hI.si0 hμ8 rfl hS1
            refine lv_aload_n hx hb dX10_setStuff_77 rfl (lv_at hl 0 rfl) ?_
            refine m_getr hx hb hts hown hW (1) 3 (5) rfl rfl cw_10 rfl (by decide) k_X10_21 dX10_setStuff_78 ?_
            refine lv_iload_n hx hb dX10_setStuff_81 rfl (lv_at hl 1 rfl) ?_
            refine lv_iload hx hb dX10_setStuff_82 (lv_at hl 5 rfl) ?_
            refine m_iast hx hb hW (5) rfl (m_ixI (rfl : k.toInt = _) (by omega) (by omega)) dX10_setStuff_84 (fun H locs hW _ => ?_)
            generalize hμ9 : m_si μ8 (5) (k : Int32).toNatClampNeg z = μ9 at hW
            have hI := hI.si0 hμ9 rfl hS1
            refine lv_iconst (v := 1) hx hb dX10_setStuff_85 (by decide) ?_
            exact m_iret hx hb hr hlocks hW (by decide) (⟨hI, Or.inl ⟨rfl, by omega⟩⟩) dX10_setStuff_86
          · refine lv_if_ne (tgt := 55) hx hb dX10_setStuff_50 (by decide) (fun c => False.elim (by revert c; decide)) (fun _ => ?_)
            refine lv_iconst (v := 0) hx hb dX10_setStuff_53 (by decide) ?_
            exact m_iret hx hb hr hlocks hW (by decide) (⟨hI, Or.inr ⟨rfl, by omega⟩⟩) dX10_setStuff_54
        · refine lv_if_eq (tgt := 53) hx hb dX10_setStuff_38 (by decide) (fun _ => ?_) (fun c => False.elim (by revert c; decide))
          refine lv_iconst (v := 0) hx hb dX10_setStuff_53 (by decide) ?_
          exact m_iret hx hb hr hlocks hW (by decide) (⟨hI, Or.inr ⟨rfl, by omega⟩⟩) dX10_setStuff_54
      · refine lv_if_eq (tgt := 53) hx hb dX10_setStuff_27 (by decide) (fun _ => ?_) (fun c => False.elim (by revert c; decide))
        refine lv_iconst (v := 0) hx hb dX10_setStuff_53 (by decide) ?_
        exact m_iret hx hb hr hlocks hW (by decide) (⟨hI, Or.inr ⟨rfl, by omega⟩⟩) dX10_setStuff_54
    · refine lv_if_eq (tgt := 53) hx hb dX10_setStuff_17 (by decide) (fun _ => ?_) (fun c => False.elim (by revert c; decide))
      refine lv_iconst (v := 0) hx hb dX10_setStuff_53 (by decide) ?_
      exact m_iret hx hb hr hlocks hW (by decide) (⟨hI, Or.inr ⟨rfl, by omega⟩⟩) dX10_setStuff_54
  · refine lv_if_eq (tgt := 53) hx hb dX10_setStuff_6 (by decide) (fun _ => ?_) (fun c => False.elim (by revert c; decide))
    refine lv_iconst (v := 0) hx hb dX10_setStuff_53 (by decide) ?_
    exact m_iret hx hb hr hlocks hW (by decide) (⟨hI, Or.inr ⟨rfl, by omega⟩⟩) dX10_setStuff_54
set_option maxHeartbeats 4000000 in
set_option maxRecDepth 100000 in
theorem g_X10_programOf (l : Launch) (D : va_G) (cy : Nat → ClassId) (b : Nat) (k : Int32) (μ : mM) (hI : IX μ) : m_Cq l yX10_programOf cX10_programOf 2 ((some (.object "BeamPlate$Row"))) 1 D cy b LAY μ [.ref (b + 1), .int k] (fun q ν => μ = ν ∧ ((q = none ∧ (k.toInt < 0 ∨ 7 < k.toInt)) ∨ ∃ n, n < 8 ∧ q = some (7 + 2 * n))) := by
  unfold m_Cq
  refine m_of (by decide) (Nat.le_of_ble_eq_true rfl) ?_
  intro p e s m below meth c hx hb hr hml hown hts hlocks _ hW ls hl
  have hown : s.vm.findClass RX10 = some m.cls := hown
  have hl : lv_has ls 2 [(0, .ref (b + 1)), (1, .int k)] := hl
  refine lv_iload_n hx hb dX10_programOf_0 rfl (lv_at hl 1 rfl) ?_
  refine lv_iconst (v := 0) hx hb dX10_programOf_1 (by decide) ?_
  refine lv_bipush (v := 7) hx hb dX10_programOf_2 (by decide) ?_
  have l_0 : (0 : Int32).toInt = 0 := by decide
  have l_7 : (7 : Int32).toInt = 7 := by decide
  refine m_aI hW (m_runSN (As := [.int k, .int 0, .int 7]) (rest := []) hx hb hml hown hts hW (g_X11_within l D cy b k 0 7 μ hI) ms_X11_within n_X10_46 rfl hl.1 rfl (Nat.le_of_ble_eq_true rfl) dX10_programOf_4 ⟨Nat.le_of_ble_eq_true rfl, Nat.le_of_ble_eq_true rfl⟩ ⟨Nat.le_of_ble_eq_true rfl, Nat.le_of_ble_eq_true rfl⟩) (fun x1 μ1 H locs q1 hW => ?_)
  obtain ⟨q1_m, q1⟩ := q1
  subst q1_m
  rcases q1 with ⟨rfl, q1⟩ | ⟨rfl, q1⟩
  · refine lv_if_eq (tgt := 19) hx hb dX10_programOf_7 (by decide) (fun c => False.elim (by revert c; decide)) (fun _ => ?_)
    refine lv_aload_n hx hb dX10_programOf_10 rfl (lv_at hl 0 rfl) ?_
    refine m_getr hx hb hts hown hW (1) 7 (6) rfl rfl cw_10 rfl (by decide) k_X10_37 dX10_programOf_11 ?_
    refine lv_iload_n hx hb dX10_programOf_14 rfl (lv_at hl 1 rfl) ?_
    refine m_aald hx hb hW (6) rfl (m_ixI (rfl : k.toInt = _) (by omega) (by omega)) ((m_rows _ (m_nat (by omega))).1) dX10_programOf_15 ?_
    refine lv_goto (tgt := 20) hx hb dX10_programOf_16 (by decide) ?_
    exact m_aret hx hb hr hlocks hW (⟨rfl, Or.inr ⟨_, m_nat (by omega), rfl⟩⟩) dX10_programOf_20
  · refine lv_if_eq (tgt := 19) hx hb dX10_programOf_7 (by decide) (fun _ => ?_) (fun c => False.elim (by revert c; decide))
    refine lv_null hx hb dX10_programOf_19 ?_
    exact m_nret hx hb hr hlocks hW (⟨rfl, Or.inl ⟨rfl, by omega⟩⟩) dX10_programOf_20
set_option maxHeartbeats 4000000 in
set_option maxRecDepth 100000 in
theorem g_X10_hasSlatAt (l : Launch) (D : va_G) (cy : Nat → ClassId) (b : Nat) (k : Int32) (μ : mM) (hI : IX μ) : m_Ci l yX10_hasSlatAt cX10_hasSlatAt 2 ((some .boolean)) 0 D cy b LAY μ [.ref (b + 1), .int k] (fun r ν => μ = ν ∧ ((r = 1 ∧ (True)) ∨ (r = 0 ∧ (True)))) := by
  unfold m_Ci
  refine m_of (by decide) (Nat.le_of_ble_eq_true rfl) ?_
  intro p e s m below meth c hx hb hr hml hown hts hlocks _ hW ls hl
  have hown : s.vm.findClass RX10 = some m.cls := hown
  have hl : lv_has ls 2 [(0, .ref (b + 1)), (1, .int k)] := hl
  refine lv_aload_n hx hb dX10_hasSlatAt_0 rfl (lv_at hl 0 rfl) ?_
  refine m_geti hx hb hts hown hW (1) 6 rfl rfl cw_10 rfl (by decide) k_X10_32 dX10_hasSlatAt_1 ?_
  refine lv_topi (fun x1 ex1 => ?_)
  refine lv_if_le (tgt := 20) hx hb dX10_hasSlatAt_4 (by decide) (fun c2 => ?_) (fun c2 => ?_)
  · have i2 := m_c3 (rfl : x1.toInt = _) (by decide : (0 : Int32).toInt = 0) c2
    refine lv_iconst (v := 0) hx hb dX10_hasSlatAt_20 (by decide) ?_
    exact m_iret hx hb hr hlocks hW (by decide) (⟨rfl, Or.inr ⟨rfl, trivial⟩⟩) dX10_hasSlatAt_21
  · have i2 := m_c4 (rfl : x1.toInt = _) (by decide : (0 : Int32).toInt = 0) c2
    refine lv_iload_n hx hb dX10_hasSlatAt_7 rfl (lv_at hl 1 rfl) ?_
    refine lv_aload_n hx hb dX10_hasSlatAt_8 rfl (lv_at hl 0 rfl) ?_
    refine m_geti hx hb hts hown hW (1) 6 rfl rfl cw_10 rfl (by decide) k_X10_32 dX10_hasSlatAt_9 ?_
    refine lv_topi (fun x3 ex3 => ?_)
    have ex3 : x3 = x1 := by rw [ex3]; exact ex1.symm
    have ex3 := ex3.symm
    subst ex3
    refine lv_irem hx hb dX10_hasSlatAt_12 (m_n0 (rfl : x1.toInt = _) (by omega)) ?_
    refine lv_topi (fun x4 ex4 => ?_)
    refine lv_if_ne (tgt := 20) hx hb dX10_hasSlatAt_13 (by decide) (fun c5 => ?_) (fun c5 => ?_)
    · have i5 := m_c6 (rfl : x4.toInt = _) (by decide : (0 : Int32).toInt = 0) c5
      refine lv_iconst (v := 0) hx hb dX10_hasSlatAt_20 (by decide) ?_
      exact m_iret hx hb hr hlocks hW (by decide) (⟨rfl, Or.inr ⟨rfl, trivial⟩⟩) dX10_hasSlatAt_21
    · have i5 := m_c5 (rfl : x4.toInt = _) (by decide : (0 : Int32).toInt = 0) c5
      refine lv_iconst (v := 1) hx hb dX10_hasSlatAt_16 (by decide) ?_
      refine lv_goto (tgt := 21) hx hb dX10_hasSlatAt_17 (by decide) ?_
      exact m_iret hx hb hr hlocks hW (by decide) (⟨rfl, Or.inl ⟨rfl, trivial⟩⟩) dX10_hasSlatAt_21
set_option maxHeartbeats 4000000 in
set_option maxRecDepth 100000 in
theorem g_X1_renew (l : Launch) (D : va_G) (cy : Nat → ClassId) (b : Nat) (S : Nat → Bool) (μ0 : mM) (hS6 : S 6 = true) (μ : mM) (hI : IY S μ0 μ) : m_Cv l yX1_renew cX1_renew 1 (none) 0 D cy b LAY μ [.ref (b + 42)] (fun ν => IY S μ0 ν ∧ (True)) := by
  unfold m_Cv
  refine m_of (by decide) (Nat.le_of_ble_eq_true rfl) ?_
  intro p e s m below meth c hx hb hr hml hown hts hlocks _ hW ls hl
  have hown : s.vm.findClass RX1 = some m.cls := hown
  have hl : lv_has ls 1 [(0, .ref (b + 42))] := hl
  refine lv_aload_n hx hb dX1_renew_0 rfl (lv_at hl 0 rfl) ?_
  refine lv_iconst (v := 0) hx hb dX1_renew_1 (by decide) ?_
  refine m_puti hx hb hts hown hW (42) 0 rfl rfl cw_1 tyX1_ok nmX1 rfl (by decide) k_X1_7 rfl rfl rfl dX1_renew_2 (fun H locs hW _ => ?_)
  generalize hμ1 : m_si μ (42) 0 0 = μ1 at hW
  have hI := hI.si0 hμ1 rfl hS6
  refine lv_aload_n hx hb dX1_renew_5 rfl (lv_at hl 0 rfl) ?_
  refine lv_iconst (v := 0) hx hb dX1_renew_6 (by decide) ?_
  refine m_puti hx hb hts hown hW (42) 1 rfl rfl cw_1 tyX1_ok nmX1 rfl (by decide) k_X1_13 rfl rfl rfl dX1_renew_7 (fun H locs hW _ => ?_)
  generalize hμ2 : m_si μ1 (42) 1 0 = μ2 at hW
  have hI := hI.si0 hμ2 rfl hS6
  refine lv_aload_n hx hb dX1_renew_10 rfl (lv_at hl 0 rfl) ?_
  refine lv_iconst (v := 0) hx hb dX1_renew_11 (by decide) ?_
  refine m_puti hx hb hts hown hW (42) 2 rfl rfl cw_1 tyX1_ok nmX1 rfl (by decide) k_X1_16 rfl (by decide) rfl dX1_renew_12 (fun H locs hW _ => ?_)
  generalize hμ3 : m_si μ2 (42) 2 0 = μ3 at hW
  have hI := hI.si1 hμ3 rfl (by decide) hS6
  refine lv_aload_n hx hb dX1_renew_15 rfl (lv_at hl 0 rfl) ?_
  refine lv_iconst (v := 5) hx hb dX1_renew_16 (by decide) ?_
  refine m_puti hx hb hts hown hW (42) 3 rfl rfl cw_1 tyX1_ok nmX1 rfl (by decide) k_X1_20 rfl rfl rfl dX1_renew_17 (fun H locs hW _ => ?_)
  generalize hμ4 : m_si μ3 (42) 3 5 = μ4 at hW
  have hI := hI.si0 hμ4 rfl hS6
  refine lv_aload_n hx hb dX1_renew_20 rfl (lv_at hl 0 rfl) ?_
  refine lv_iconst (v := 0) hx hb dX1_renew_21 (by decide) ?_
  refine m_puti hx hb hts hown hW (42) 4 rfl rfl cw_1 tyX1_ok nmX1 rfl (by decide) k_X1_23 rfl rfl rfl dX1_renew_22 (fun H locs hW _ => ?_)
  generalize hμ5 : m_si μ4 (42) 4 0 = μ5 at hW
  have hI := hI.si0 hμ5 rfl hS6
  exact m_vret hx hb hr hlocks hW (⟨hI, trivial⟩) dX1_renew_25
set_option maxHeartbeats 4000000 in
set_option maxRecDepth 100000 in
theorem g_X1_copyFrom (l : Launch) (D : va_G) (cy : Nat → ClassId) (b : Nat) (S : Nat → Bool) (μ0 : mM) (hS8 : S 8 = true) (μ : mM) (hI : IY S μ0 μ) : m_Cv l yX1_copyFrom cX1_copyFrom 2 (none) 0 D cy b LAY μ [.ref (b + 60), .ref (b + 42)] (fun ν => IY S μ0 ν ∧ (True)) := by
  unfold m_Cv
  refine m_of (by decide) (Nat.le_of_ble_eq_true rfl) ?_
  intro p e s m below meth c hx hb hr hml hown hts hlocks _ hW ls hl
  have hown : s.vm.findClass RX1 = some m.cls := hown
  have hl : lv_has ls 2 [(0, .ref (b + 60)), (1, .ref (b + 42))] := hl
  refine lv_aload_n hx hb dX1_copyFrom_0 rfl (lv_at hl 0 rfl) ?_
  refine lv_aload_n hx hb dX1_copyFrom_1 rfl (lv_at hl 1 rfl) ?_
  refine m_geti hx hb hts hown hW (42) 0 rfl rfl cw_1 rfl (by decide) k_X1_7 dX1_copyFrom_2 ?_
  refine lv_topi (fun x1 ex1 => ?_)
  refine m_puti hx hb hts hown hW (60) 0 rfl rfl cw_1 tyX1_ok nmX1 rfl (by decide) k_X1_7 rfl rfl rfl dX1_copyFrom_5 (fun H locs hW _ => ?_)
  generalize hμ2 : m_si μ (60) 0 x1 = μ2 at hW
  have hI := hI.si0 hμ2 rfl hS8
  refine lv_aload_n hx hb dX1_copyFrom_8 rfl (lv_at hl 0 rfl) ?_
  refine lv_aload_n hx hb dX1_copyFrom_9 rfl (lv_at hl 1 rfl) ?_
  refine m_geti hx hb hts hown hW (42) 1 rfl rfl cw_1 rfl (by decide) k_X1_13 dX1_copyFrom_10 ?_
  refine lv_topi (fun x3 ex3 => ?_)
  refine m_puti hx hb hts hown hW (60) 1 rfl rfl cw_1 tyX1_ok nmX1 rfl (by decide) k_X1_13 rfl rfl rfl dX1_copyFrom_13 (fun H locs hW _ => ?_)
  generalize hμ4 : m_si μ2 (60) 1 x3 = μ4 at hW
  have hI := hI.si0 hμ4 rfl hS8
  refine lv_aload_n hx hb dX1_copyFrom_16 rfl (lv_at hl 0 rfl) ?_
  refine lv_aload_n hx hb dX1_copyFrom_17 rfl (lv_at hl 1 rfl) ?_
  refine m_geti hx hb hts hown hW (42) 2 rfl rfl cw_1 rfl (by decide) k_X1_16 dX1_copyFrom_18 ?_
  refine lv_topi (fun x5 ex5 => ?_)
  have bx5 : 0 ≤ x5.toInt ∧ x5.toInt ≤ 1 := by rw [ex5]; exact hI.1 _ _ _ _ rfl
  refine m_puti hx hb hts hown hW (60) 2 rfl rfl cw_1 tyX1_ok nmX1 rfl (by decide) k_X1_16 rfl (m_nb (m_b01 (by omega))) (m_nbf (m_b01 (by omega))) dX1_copyFrom_21 (fun H locs hW _ => ?_)
  generalize hμ6 : m_si μ4 (60) 2 x5 = μ6 at hW
  have hI := hI.si1 hμ6 rfl (by omega) hS8
  refine lv_aload_n hx hb dX1_copyFrom_24 rfl (lv_at hl 0 rfl) ?_
  refine lv_aload_n hx hb dX1_copyFrom_25 rfl (lv_at hl 1 rfl) ?_
  refine m_geti hx hb hts hown hW (42) 3 rfl rfl cw_1 rfl (by decide) k_X1_20 dX1_copyFrom_26 ?_
  refine lv_topi (fun x7 ex7 => ?_)
  refine m_puti hx hb hts hown hW (60) 3 rfl rfl cw_1 tyX1_ok nmX1 rfl (by decide) k_X1_20 rfl rfl rfl dX1_copyFrom_29 (fun H locs hW _ => ?_)
  generalize hμ8 : m_si μ6 (60) 3 x7 = μ8 at hW
  have hI := hI.si0 hμ8 rfl hS8
  refine lv_aload_n hx hb dX1_copyFrom_32 rfl (lv_at hl 0 rfl) ?_
  refine lv_aload_n hx hb dX1_copyFrom_33 rfl (lv_at hl 1 rfl) ?_
  refine m_geti hx hb hts hown hW (42) 4 rfl rfl cw_1 rfl (by decide) k_X1_23 dX1_copyFrom_34 ?_
  refine lv_topi (fun x9 ex9 => ?_)
  refine m_puti hx hb hts hown hW (60) 4 rfl rfl cw_1 tyX1_ok nmX1 rfl (by decide) k_X1_23 rfl rfl rfl dX1_copyFrom_37 (fun H locs hW _ => ?_)
  generalize hμ10 : m_si μ8 (60) 4 x9 = μ10 at hW
  have hI := hI.si0 hμ10 rfl hS8
  exact m_vret hx hb hr hlocks hW (⟨hI, trivial⟩) dX1_copyFrom_40
set_option maxHeartbeats 4000000 in
set_option maxRecDepth 100000 in
theorem g_X3_isLaid_41 (l : Launch) (D : va_G) (cy : Nat → ClassId) (b : Nat) (μ : mM) (hI : IX μ) : m_Ci l yX3_isLaid cX3_isLaid 1 ((some .boolean)) 0 D cy b LAY μ [.ref (b + 41)] (fun r ν => μ = ν ∧ ((r = 1 ∧ (True)) ∨ (r = 0 ∧ (True)))) := by
  unfold m_Ci
  refine m_of (by decide) (Nat.le_of_ble_eq_true rfl) ?_
  intro p e s m below meth c hx hb hr hml hown hts hlocks _ hW ls hl
  have hown : s.vm.findClass RX3 = some m.cls := hown
  have hl : lv_has ls 1 [(0, .ref (b + 41))] := hl
  refine lv_aload_n hx hb dX3_isLaid_0 rfl (lv_at hl 0 rfl) ?_
  refine m_geti hx hb hts hown hW (41) 2 rfl rfl cw_3 rfl (by decide) k_X3_18 dX3_isLaid_1 ?_
  refine lv_topi (fun x1 ex1 => ?_)
  have bx1 : 0 ≤ x1.toInt ∧ x1.toInt ≤ 192 := by rw [ex1]; exact hI _ _ _ _ rfl
  refine lv_if_le (tgt := 11) hx hb dX3_isLaid_4 (by decide) (fun c2 => ?_) (fun c2 => ?_)
  · have i2 := m_c3 (rfl : x1.toInt = _) (by decide : (0 : Int32).toInt = 0) c2
    refine lv_iconst (v := 0) hx hb dX3_isLaid_11 (by decide) ?_
    exact m_iret hx hb hr hlocks hW (by decide) (⟨rfl, Or.inr ⟨rfl, trivial⟩⟩) dX3_isLaid_12
  · have i2 := m_c4 (rfl : x1.toInt = _) (by decide : (0 : Int32).toInt = 0) c2
    refine lv_iconst (v := 1) hx hb dX3_isLaid_7 (by decide) ?_
    refine lv_goto (tgt := 12) hx hb dX3_isLaid_8 (by decide) ?_
    exact m_iret hx hb hr hlocks hW (by decide) (⟨rfl, Or.inl ⟨rfl, trivial⟩⟩) dX3_isLaid_12
set_option maxHeartbeats 4000000 in
set_option maxRecDepth 100000 in
theorem g_X3_has_41 (l : Launch) (D : va_G) (cy : Nat → ClassId) (b : Nat) (k u : Int32) (μ : mM) (hI : IX μ) : m_Ci l yX3_has cX3_has 3 ((some .boolean)) 0 D cy b LAY μ [.ref (b + 41), .int k, .int u] (fun r ν => μ = ν ∧ ((r = 1 ∧ (0 ≤ k.toInt ∧ k.toInt ≤ 15 ∧ 0 ≤ u.toInt ∧ u.toInt ≤ 11)) ∨ (r = 0 ∧ (True)))) := by
  unfold m_Ci
  refine m_of (by decide) (Nat.le_of_ble_eq_true rfl) ?_
  intro p e s m below meth c hx hb hr hml hown hts hlocks _ hW ls hl
  have hown : s.vm.findClass RX3 = some m.cls := hown
  have hl : lv_has ls 3 [(0, .ref (b + 41)), (1, .int k), (2, .int u)] := hl
  refine lv_iload_n hx hb dX3_has_0 rfl (lv_at hl 1 rfl) ?_
  refine lv_if_lt (tgt := 28) hx hb dX3_has_1 (by decide) (fun c1 => ?_) (fun c1 => ?_)
  · have i1 := m_c1 (rfl : k.toInt = _) (by decide : (0 : Int32).toInt = 0) c1
    refine lv_iconst (v := 0) hx hb dX3_has_28 (by decide) ?_
    exact m_iret hx hb hr hlocks hW (by decide) (⟨rfl, Or.inr ⟨rfl, trivial⟩⟩) dX3_has_29
  · have i1 := m_c2 (rfl : k.toInt = _) (by decide : (0 : Int32).toInt = 0) c1
    refine lv_iload_n hx hb dX3_has_4 rfl (lv_at hl 1 rfl) ?_
    refine lv_aload_n hx hb dX3_has_5 rfl (lv_at hl 0 rfl) ?_
    refine m_geti hx hb hts hown hW (41) 0 rfl rfl cw_3 rfl (by decide) k_X3_11 dX3_has_6 ?_
    refine lv_topi (fun x2 ex2 => ?_)
    have bx2 : 0 ≤ x2.toInt ∧ x2.toInt ≤ 16 := by rw [ex2]; exact hI _ _ _ _ rfl
    refine lv_icmp_ge (tgt := 28) hx hb dX3_has_9 (by decide) (fun c3 => ?_) (fun c3 => ?_)
    · have i3 := m_c3 (rfl : x2.toInt = _) (rfl : k.toInt = _) c3
      refine lv_iconst (v := 0) hx hb dX3_has_28 (by decide) ?_
      exact m_iret hx hb hr hlocks hW (by decide) (⟨rfl, Or.inr ⟨rfl, trivial⟩⟩) dX3_has_29
    · have i3 := m_c4 (rfl : x2.toInt = _) (rfl : k.toInt = _) c3
      refine lv_iload_n hx hb dX3_has_12 rfl (lv_at hl 2 rfl) ?_
      refine lv_if_lt (tgt := 28) hx hb dX3_has_13 (by decide) (fun c4 => ?_) (fun c4 => ?_)
      · have i4 := m_c1 (rfl : u.toInt = _) (by decide : (0 : Int32).toInt = 0) c4
        refine lv_iconst (v := 0) hx hb dX3_has_28 (by decide) ?_
        exact m_iret hx hb hr hlocks hW (by decide) (⟨rfl, Or.inr ⟨rfl, trivial⟩⟩) dX3_has_29
      · have i4 := m_c2 (rfl : u.toInt = _) (by decide : (0 : Int32).toInt = 0) c4
        refine lv_iload_n hx hb dX3_has_16 rfl (lv_at hl 2 rfl) ?_
        refine lv_aload_n hx hb dX3_has_17 rfl (lv_at hl 0 rfl) ?_
        refine m_geti hx hb hts hown hW (41) 1 rfl rfl cw_3 rfl (by decide) k_X3_15 dX3_has_18 ?_
        refine lv_topi (fun x5 ex5 => ?_)
        have bx5 : 0 ≤ x5.toInt ∧ x5.toInt ≤ 12 := by rw [ex5]; exact hI _ _ _ _ rfl
        refine lv_icmp_ge (tgt := 28) hx hb dX3_has_21 (by decide) (fun c6 => ?_) (fun c6 => ?_)
        · have i6 := m_c3 (rfl : x5.toInt = _) (rfl : u.toInt = _) c6
          refine lv_iconst (v := 0) hx hb dX3_has_28 (by decide) ?_
          exact m_iret hx hb hr hlocks hW (by decide) (⟨rfl, Or.inr ⟨rfl, trivial⟩⟩) dX3_has_29
        · have i6 := m_c4 (rfl : x5.toInt = _) (rfl : u.toInt = _) c6
          refine lv_iconst (v := 1) hx hb dX3_has_24 (by decide) ?_
          refine lv_goto (tgt := 29) hx hb dX3_has_25 (by decide) ?_
          exact m_iret hx hb hr hlocks hW (by decide) (⟨rfl, Or.inl ⟨rfl, by omega⟩⟩) dX3_has_29
set_option maxHeartbeats 4000000 in
set_option maxRecDepth 100000 in
theorem g_X3_isBorder_41 (l : Launch) (D : va_G) (cy : Nat → ClassId) (b : Nat) (k u : Int32) (μ : mM) (hI : IX μ) : m_Ci l yX3_isBorder cX3_isBorder 3 ((some .boolean)) 0 D cy b LAY μ [.ref (b + 41), .int k, .int u] (fun r ν => μ = ν ∧ ((r = 1 ∧ (True)) ∨ (r = 0 ∧ (True)))) := by
  unfold m_Ci
  refine m_of (by decide) (Nat.le_of_ble_eq_true rfl) ?_
  intro p e s m below meth c hx hb hr hml hown hts hlocks _ hW ls hl
  have hown : s.vm.findClass RX3 = some m.cls := hown
  have hl : lv_has ls 3 [(0, .ref (b + 41)), (1, .int k), (2, .int u)] := hl
  refine lv_iload_n hx hb dX3_isBorder_0 rfl (lv_at hl 1 rfl) ?_
  refine lv_if_eq (tgt := 28) hx hb dX3_isBorder_1 (by decide) (fun c1 => ?_) (fun c1 => ?_)
  · have i1 := m_c5 (rfl : k.toInt = _) (by decide : (0 : Int32).toInt = 0) c1
    refine lv_iconst (v := 1) hx hb dX3_isBorder_28 (by decide) ?_
    refine lv_goto (tgt := 33) hx hb dX3_isBorder_29 (by decide) ?_
    exact m_iret hx hb hr hlocks hW (by decide) (⟨rfl, Or.inl ⟨rfl, trivial⟩⟩) dX3_isBorder_33
  · have i1 := m_c6 (rfl : k.toInt = _) (by decide : (0 : Int32).toInt = 0) c1
    refine lv_iload_n hx hb dX3_isBorder_4 rfl (lv_at hl 2 rfl) ?_
    refine lv_if_eq (tgt := 28) hx hb dX3_isBorder_5 (by decide) (fun c2 => ?_) (fun c2 => ?_)
    · have i2 := m_c5 (rfl : u.toInt = _) (by decide : (0 : Int32).toInt = 0) c2
      refine lv_iconst (v := 1) hx hb dX3_isBorder_28 (by decide) ?_
      refine lv_goto (tgt := 33) hx hb dX3_isBorder_29 (by decide) ?_
      exact m_iret hx hb hr hlocks hW (by decide) (⟨rfl, Or.inl ⟨rfl, trivial⟩⟩) dX3_isBorder_33
    · have i2 := m_c6 (rfl : u.toInt = _) (by decide : (0 : Int32).toInt = 0) c2
      refine lv_iload_n hx hb dX3_isBorder_8 rfl (lv_at hl 1 rfl) ?_
      refine lv_aload_n hx hb dX3_isBorder_9 rfl (lv_at hl 0 rfl) ?_
      refine m_geti hx hb hts hown hW (41) 0 rfl rfl cw_3 rfl (by decide) k_X3_11 dX3_isBorder_10 ?_
      refine lv_topi (fun x3 ex3 => ?_)
      have bx3 : 0 ≤ x3.toInt ∧ x3.toInt ≤ 16 := by rw [ex3]; exact hI _ _ _ _ rfl
      refine lv_iconst (v := 1) hx hb dX3_isBorder_13 (by decide) ?_
      refine lv_isub hx hb dX3_isBorder_14 ?_
      refine lv_topi (fun x4 ex4 => ?_)
      have tx4 : x4.toInt = x3.toInt - 1 := m_subI ex4 (rfl : x3.toInt = _) (by decide : (1 : Int32).toInt = 1) (by omega) (by omega)
      refine lv_icmp_eq (tgt := 28) hx hb dX3_isBorder_15 (by decide) (fun c5 => ?_) (fun c5 => ?_)
      · have i5 := m_c5 (rfl : k.toInt = _) (rfl : x4.toInt = _) c5
        refine lv_iconst (v := 1) hx hb dX3_isBorder_28 (by decide) ?_
        refine lv_goto (tgt := 33) hx hb dX3_isBorder_29 (by decide) ?_
        exact m_iret hx hb hr hlocks hW (by decide) (⟨rfl, Or.inl ⟨rfl, trivial⟩⟩) dX3_isBorder_33
      · have i5 := m_c6 (rfl : k.toInt = _) (rfl : x4.toInt = _) c5
        refine lv_iload_n hx hb dX3_isBorder_18 rfl (lv_at hl 2 rfl) ?_
        refine lv_aload_n hx hb dX3_isBorder_19 rfl (lv_at hl 0 rfl) ?_
        refine m_geti hx hb hts hown hW (41) 1 rfl rfl cw_3 rfl (by decide) k_X3_15 dX3_isBorder_20 ?_
        refine lv_topi (fun x6 ex6 => ?_)
        have bx6 : 0 ≤ x6.toInt ∧ x6.toInt ≤ 12 := by rw [ex6]; exact hI _ _ _ _ rfl
        refine lv_iconst (v := 1) hx hb dX3_isBorder_23 (by decide) ?_
        refine lv_isub hx hb dX3_isBorder_24 ?_
        refine lv_topi (fun x7 ex7 => ?_)
        have tx7 : x7.toInt = x6.toInt - 1 := m_subI ex7 (rfl : x6.toInt = _) (by decide : (1 : Int32).toInt = 1) (by omega) (by omega)
        refine lv_icmp_ne (tgt := 32) hx hb dX3_isBorder_25 (by decide) (fun c8 => ?_) (fun c8 => ?_)
        · have i8 := m_c6 (rfl : u.toInt = _) (rfl : x7.toInt = _) c8
          refine lv_iconst (v := 0) hx hb dX3_isBorder_32 (by decide) ?_
          exact m_iret hx hb hr hlocks hW (by decide) (⟨rfl, Or.inr ⟨rfl, trivial⟩⟩) dX3_isBorder_33
        · have i8 := m_c5 (rfl : u.toInt = _) (rfl : x7.toInt = _) c8
          refine lv_iconst (v := 1) hx hb dX3_isBorder_28 (by decide) ?_
          refine lv_goto (tgt := 33) hx hb dX3_isBorder_29 (by decide) ?_
          exact m_iret hx hb hr hlocks hW (by decide) (⟨rfl, Or.inl ⟨rfl, trivial⟩⟩) dX3_isBorder_33
set_option maxHeartbeats 4000000 in
set_option maxRecDepth 100000 in
theorem g_X3_index_41b (l : Launch) (D : va_G) (cy : Nat → ClassId) (b : Nat) (k u : Int32) (h_k : 0 ≤ k.toInt ∧ k.toInt ≤ 15) (h_u : 0 ≤ u.toInt ∧ u.toInt ≤ 11) (μ : mM) (hI : IX μ) : m_Ci l yX3_index cX3_index 3 ((some .int)) 0 D cy b LAY μ [.ref (b + 41), .int k, .int u] (fun r ν => μ = ν ∧ (0 ≤ r.toInt ∧ r.toInt ≤ 191)) := by
  unfold m_Ci
  refine m_of (by decide) (Nat.le_of_ble_eq_true rfl) ?_
  intro p e s m below meth c hx hb hr hml hown hts hlocks _ hW ls hl
  have hown : s.vm.findClass RX3 = some m.cls := hown
  have hl : lv_has ls 3 [(0, .ref (b + 41)), (1, .int k), (2, .int u)] := hl
  refine lv_iload_n hx hb dX3_index_0 rfl (lv_at hl 2 rfl) ?_
  refine lv_aload_n hx hb dX3_index_1 rfl (lv_at hl 0 rfl) ?_
  refine m_geti hx hb hts hown hW (41) 0 rfl rfl cw_3 rfl (by decide) k_X3_11 dX3_index_2 ?_
  refine lv_topi (fun x1 ex1 => ?_)
  have bx1 : 0 ≤ x1.toInt ∧ x1.toInt ≤ 16 := by rw [ex1]; exact hI _ _ _ _ rfl
  refine lv_imul hx hb dX3_index_5 ?_
  refine lv_topi (fun x2 ex2 => ?_)
  have bx2 : 0 ≤ x2.toInt ∧ x2.toInt ≤ 176 := m_mulB (a := 11) (c := 16) ex2 (rfl : u.toInt = _) (rfl : x1.toInt = _) (by omega) (by omega) (by decide) (by decide)
  refine lv_iload_n hx hb dX3_index_6 rfl (lv_at hl 1 rfl) ?_
  refine lv_iadd hx hb dX3_index_7 ?_
  refine lv_topi (fun x3 ex3 => ?_)
  have tx3 : x3.toInt = x2.toInt + k.toInt := m_addI ex3 (rfl : x2.toInt = _) (rfl : k.toInt = _) (by omega) (by omega)
  exact m_iret hx hb hr hlocks hW rfl (⟨rfl, by omega⟩) dX3_index_8
set_option maxHeartbeats 4000000 in
set_option maxRecDepth 100000 in
theorem g_X3_index_41 (l : Launch) (D : va_G) (cy : Nat → ClassId) (b : Nat) (k u : Int32) (μ : mM) (hI : IX μ) : m_Ci l yX3_index cX3_index 3 ((some .int)) 0 D cy b LAY μ [.ref (b + 41), .int k, .int u] (fun r ν => μ = ν ∧ (True)) := by
  unfold m_Ci
  refine m_of (by decide) (Nat.le_of_ble_eq_true rfl) ?_
  intro p e s m below meth c hx hb hr hml hown hts hlocks _ hW ls hl
  have hown : s.vm.findClass RX3 = some m.cls := hown
  have hl : lv_has ls 3 [(0, .ref (b + 41)), (1, .int k), (2, .int u)] := hl
  refine lv_iload_n hx hb dX3_index_0 rfl (lv_at hl 2 rfl) ?_
  refine lv_aload_n hx hb dX3_index_1 rfl (lv_at hl 0 rfl) ?_
  refine m_geti hx hb hts hown hW (41) 0 rfl rfl cw_3 rfl (by decide) k_X3_11 dX3_index_2 ?_
  refine lv_topi (fun x1 ex1 => ?_)
  have bx1 : 0 ≤ x1.toInt ∧ x1.toInt ≤ 16 := by rw [ex1]; exact hI _ _ _ _ rfl
  refine lv_imul hx hb dX3_index_5 ?_
  refine lv_topi (fun x2 ex2 => ?_)
  refine lv_iload_n hx hb dX3_index_6 rfl (lv_at hl 1 rfl) ?_
  refine lv_iadd hx hb dX3_index_7 ?_
  refine lv_topi (fun x3 ex3 => ?_)
  exact m_iret hx hb hr hlocks hW rfl (⟨rfl, trivial⟩) dX3_index_8
set_option maxHeartbeats 4000000 in
set_option maxRecDepth 100000 in
theorem g_X3_headPlace_41 (l : Launch) (D : va_G) (cy : Nat → ClassId) (b : Nat) (μ : mM) (hI : IX μ) : m_Ci l yX3_headPlace cX3_headPlace 1 ((some .int)) 0 D cy b LAY μ [.ref (b + 41)] (fun r ν => μ = ν ∧ (r = μ.1 42 1 * μ.1 41 0 + μ.1 42 0)) := by
  unfold m_Ci
  refine m_of (by decide) (Nat.le_of_ble_eq_true rfl) ?_
  intro p e s m below meth c hx hb hr hml hown hts hlocks _ hW ls hl
  have hown : s.vm.findClass RX3 = some m.cls := hown
  have hl : lv_has ls 1 [(0, .ref (b + 41))] := hl
  refine lv_aload_n hx hb dX3_headPlace_0 rfl (lv_at hl 0 rfl) ?_
  refine m_getr hx hb hts hown hW (41) 10 (42) rfl rfl cw_3 rfl (by decide) k_X3_46 dX3_headPlace_1 ?_
  refine m_geti hx hb hts hown hW (42) 1 rfl rfl cw_1 rfl (by decide) k_X3_101 dX3_headPlace_4 ?_
  refine lv_topi (fun x1 ex1 => ?_)
  refine lv_aload_n hx hb dX3_headPlace_7 rfl (lv_at hl 0 rfl) ?_
  refine m_geti hx hb hts hown hW (41) 0 rfl rfl cw_3 rfl (by decide) k_X3_11 dX3_headPlace_8 ?_
  refine lv_topi (fun x2 ex2 => ?_)
  have bx2 : 0 ≤ x2.toInt ∧ x2.toInt ≤ 16 := by rw [ex2]; exact hI _ _ _ _ rfl
  refine lv_imul hx hb dX3_headPlace_11 ?_
  refine lv_topi (fun x3 ex3 => ?_)
  refine lv_aload_n hx hb dX3_headPlace_12 rfl (lv_at hl 0 rfl) ?_
  refine m_getr hx hb hts hown hW (41) 10 (42) rfl rfl cw_3 rfl (by decide) k_X3_46 dX3_headPlace_13 ?_
  refine m_geti hx hb hts hown hW (42) 0 rfl rfl cw_1 rfl (by decide) k_X3_104 dX3_headPlace_16 ?_
  refine lv_topi (fun x4 ex4 => ?_)
  refine lv_iadd hx hb dX3_headPlace_19 ?_
  refine lv_topi (fun x5 ex5 => ?_)
  exact m_iret hx hb hr hlocks hW rfl (⟨rfl, by subst_vars; rfl⟩) dX3_headPlace_20
set_option maxHeartbeats 4000000 in
set_option maxRecDepth 100000 in
theorem g_X3_isThere_41 (l : Launch) (D : va_G) (cy : Nat → ClassId) (b : Nat) (k : Int32) (μ : mM) (hI : IX μ) : m_Ci l yX3_isThere cX3_isThere 2 ((some .boolean)) 0 D cy b LAY μ [.ref (b + 41), .int k] (fun r ν => μ = ν ∧ ((r = 1 ∧ (0 ≤ k.toInt ∧ k.toInt ≤ 191)) ∨ (r = 0 ∧ (True)))) := by
  unfold m_Ci
  refine m_of (by decide) (Nat.le_of_ble_eq_true rfl) ?_
  intro p e s m below meth c hx hb hr hml hown hts hlocks _ hW ls hl
  have hown : s.vm.findClass RX3 = some m.cls := hown
  have hl : lv_has ls 2 [(0, .ref (b + 41)), (1, .int k)] := hl
  refine lv_iload_n hx hb dX3_isThere_0 rfl (lv_at hl 1 rfl) ?_
  refine lv_if_lt (tgt := 25) hx hb dX3_isThere_1 (by decide) (fun c1 => ?_) (fun c1 => ?_)
  · have i1 := m_c1 (rfl : k.toInt = _) (by decide : (0 : Int32).toInt = 0) c1
    refine lv_iconst (v := 0) hx hb dX3_isThere_25 (by decide) ?_
    exact m_iret hx hb hr hlocks hW (by decide) (⟨rfl, Or.inr ⟨rfl, trivial⟩⟩) dX3_isThere_26
  · have i1 := m_c2 (rfl : k.toInt = _) (by decide : (0 : Int32).toInt = 0) c1
    refine lv_iload_n hx hb dX3_isThere_4 rfl (lv_at hl 1 rfl) ?_
    refine lv_aload_n hx hb dX3_isThere_5 rfl (lv_at hl 0 rfl) ?_
    refine m_geti hx hb hts hown hW (41) 2 rfl rfl cw_3 rfl (by decide) k_X3_18 dX3_isThere_6 ?_
    refine lv_topi (fun x2 ex2 => ?_)
    have bx2 : 0 ≤ x2.toInt ∧ x2.toInt ≤ 192 := by rw [ex2]; exact hI _ _ _ _ rfl
    refine lv_icmp_ge (tgt := 25) hx hb dX3_isThere_9 (by decide) (fun c3 => ?_) (fun c3 => ?_)
    · have i3 := m_c3 (rfl : x2.toInt = _) (rfl : k.toInt = _) c3
      refine lv_iconst (v := 0) hx hb dX3_isThere_25 (by decide) ?_
      exact m_iret hx hb hr hlocks hW (by decide) (⟨rfl, Or.inr ⟨rfl, trivial⟩⟩) dX3_isThere_26
    · have i3 := m_c4 (rfl : x2.toInt = _) (rfl : k.toInt = _) c3
      refine lv_aload_n hx hb dX3_isThere_12 rfl (lv_at hl 0 rfl) ?_
      refine m_getr hx hb hts hown hW (41) 12 (44) rfl rfl cw_3 rfl (by decide) k_X3_54 dX3_isThere_13 ?_
      refine lv_iload_n hx hb dX3_isThere_16 rfl (lv_at hl 1 rfl) ?_
      refine m_iald hx hb hW (44) rfl (m_ixI (rfl : k.toInt = _) (by omega) (by omega)) dX3_isThere_17 ?_
      refine lv_topi (fun x4 ex4 => ?_)
      refine lv_if_ne (tgt := 25) hx hb dX3_isThere_18 (by decide) (fun c5 => ?_) (fun c5 => ?_)
      · have i5 := m_c6 (rfl : x4.toInt = _) (by decide : (0 : Int32).toInt = 0) c5
        refine lv_iconst (v := 0) hx hb dX3_isThere_25 (by decide) ?_
        exact m_iret hx hb hr hlocks hW (by decide) (⟨rfl, Or.inr ⟨rfl, trivial⟩⟩) dX3_isThere_26
      · have i5 := m_c5 (rfl : x4.toInt = _) (by decide : (0 : Int32).toInt = 0) c5
        refine lv_iconst (v := 1) hx hb dX3_isThere_21 (by decide) ?_
        refine lv_goto (tgt := 26) hx hb dX3_isThere_22 (by decide) ?_
        exact m_iret hx hb hr hlocks hW (by decide) (⟨rfl, Or.inl ⟨rfl, by omega⟩⟩) dX3_isThere_26
set_option maxHeartbeats 4000000 in
set_option maxRecDepth 100000 in
theorem g_X3_moveHead_41 (l : Launch) (D : va_G) (cy : Nat → ClassId) (b : Nat) (S : Nat → Bool) (μ0 : mM) (hS6 : S 6 = true) (k u : Int32) (μ : mM) (hI : IY S μ0 μ) : m_Ci l yX3_moveHead cX3_moveHead 4 ((some .boolean)) 1 D cy b LAY μ [.ref (b + 41), .int k, .int u] (fun r ν => IY S μ0 ν ∧ ((r = 1 ∧ (True)) ∨ (r = 0 ∧ (True)))) := by
  unfold m_Ci
  refine m_of (by decide) (Nat.le_of_ble_eq_true rfl) ?_
  intro p e s m below meth c hx hb hr hml hown hts hlocks _ hW ls hl
  have hown : s.vm.findClass RX3 = some m.cls := hown
  have hl : lv_has ls 4 [(0, .ref (b + 41)), (1, .int k), (2, .int u)] := hl
  refine lv_aload_n hx hb dX3_moveHead_0 rfl (lv_at hl 0 rfl) ?_
  refine lv_iload_n hx hb dX3_moveHead_1 rfl (lv_at hl 1 rfl) ?_
  refine lv_iload_n hx hb dX3_moveHead_2 rfl (lv_at hl 2 rfl) ?_
  refine m_aI hW (m_runV (As := [.int k, .int u]) (rest := []) hx hb hml hown hts hW (41) (g_X3_has_41 l D cy b k u μ hI.1) mi_X3_has k_X3_107 rfl rfl rfl hl.1 rfl (Nat.le_of_ble_eq_true rfl) dX3_moveHead_3 ⟨Nat.le_of_ble_eq_true rfl, Nat.le_of_ble_eq_true rfl⟩ ⟨Nat.le_of_ble_eq_true rfl, Nat.le_of_ble_eq_true rfl⟩) (fun x1 μ1 H locs q1 hW => ?_)
  obtain ⟨q1_m, q1⟩ := q1
  subst q1_m
  rcases q1 with ⟨rfl, q1⟩ | ⟨rfl, q1⟩
  · refine lv_if_ne (tgt := 11) hx hb dX3_moveHead_6 (by decide) (fun _ => ?_) (fun c => False.elim (by revert c; decide))
    refine lv_aload_n hx hb dX3_moveHead_11 rfl (lv_at hl 0 rfl) ?_
    refine m_getr hx hb hts hown hW (41) 10 (42) rfl rfl cw_3 rfl (by decide) k_X3_46 dX3_moveHead_12 ?_
    refine lv_iload_n hx hb dX3_moveHead_15 rfl (lv_at hl 1 rfl) ?_
    refine m_puti hx hb hts hown hW (42) 0 rfl rfl cw_1 tyX1_ok nmX1 rfl (by decide) k_X3_104 rfl rfl rfl dX3_moveHead_16 (fun H locs hW _ => ?_)
    generalize hμ2 : m_si μ (42) 0 k = μ2 at hW
    have hI := hI.si0 hμ2 rfl hS6
    refine lv_aload_n hx hb dX3_moveHead_19 rfl (lv_at hl 0 rfl) ?_
    refine m_getr hx hb hts hown hW (41) 10 (42) rfl rfl cw_3 rfl (by decide) k_X3_46 dX3_moveHead_20 ?_
    refine lv_iload_n hx hb dX3_moveHead_23 rfl (lv_at hl 2 rfl) ?_
    refine m_puti hx hb hts hown hW (42) 1 rfl rfl cw_1 tyX1_ok nmX1 rfl (by decide) k_X3_101 rfl rfl rfl dX3_moveHead_24 (fun H locs hW _ => ?_)
    generalize hμ3 : m_si μ2 (42) 1 u = μ3 at hW
    have hI := hI.si0 hμ3 rfl hS6
    refine lv_aload_n hx hb dX3_moveHead_27 rfl (lv_at hl 0 rfl) ?_
    refine lv_iload_n hx hb dX3_moveHead_28 rfl (lv_at hl 1 rfl) ?_
    refine lv_iload_n hx hb dX3_moveHead_29 rfl (lv_at hl 2 rfl) ?_
    refine m_aI hW (m_runV (As := [.int k, .int u]) (rest := []) hx hb hml hown hts hW (41) (g_X3_index_41b l D cy b k u (by omega) (by omega) μ3 hI.1) mi_X3_index k_X3_111 rfl rfl rfl hl.1 rfl (Nat.le_of_ble_eq_true rfl) dX3_moveHead_30 ⟨Nat.le_of_ble_eq_true rfl, Nat.le_of_ble_eq_true rfl⟩ ⟨Nat.le_of_ble_eq_true rfl, Nat.le_of_ble_eq_true rfl⟩) (fun x4 μ4 H locs q4 hW => ?_)
    obtain ⟨q4_m, q4⟩ := q4
    subst q4_m
    refine lv_istore_n (lv' := [(3, .int x4), (0, .ref (b + 41)), (1, .int k), (2, .int u)]) hx hb dX3_moveHead_33 rfl hl (by decide) rfl (fun ls hl => ?_)
    refine lv_aload_n hx hb dX3_moveHead_34 rfl (lv_at hl 1 rfl) ?_
    refine lv_iload_n hx hb dX3_moveHead_35 rfl (lv_at hl 0 rfl) ?_
    refine m_aI hW (m_runV (As := [.int x4]) (rest := []) hx hb hml hown hts hW (41) (g_X3_isThere_41 l D cy b x4 μ3 hI.1) mi_X3_isThere k_X3_114 rfl rfl rfl hl.1 rfl (Nat.le_of_ble_eq_true rfl) dX3_moveHead_36 ⟨Nat.le_of_ble_eq_true rfl, Nat.le_of_ble_eq_true rfl⟩ ⟨Nat.le_of_ble_eq_true rfl, Nat.le_of_ble_eq_true rfl⟩) (fun x5 μ5 H locs q5 hW => ?_)
    obtain ⟨q5_m, q5⟩ := q5
    subst q5_m
    rcases q5 with ⟨rfl, q5⟩ | ⟨rfl, q5⟩
    · refine lv_if_eq (tgt := 64) hx hb dX3_moveHead_39 (by decide) (fun c => False.elim (by revert c; decide)) (fun _ => ?_)
      refine lv_aload_n hx hb dX3_moveHead_42 rfl (lv_at hl 1 rfl) ?_
      refine m_getr hx hb hts hown hW (41) 14 (46) rfl rfl cw_3 rfl (by decide) k_X3_60 dX3_moveHead_43 ?_
      refine lv_iload_n hx hb dX3_moveHead_46 rfl (lv_at hl 0 rfl) ?_
      refine m_iald hx hb hW (46) rfl (m_ixI (rfl : x4.toInt = _) (by omega) (by omega)) dX3_moveHead_47 ?_
      refine lv_topi (fun x6 ex6 => ?_)
      refine lv_if_eq (tgt := 64) hx hb dX3_moveHead_48 (by decide) (fun c7 => ?_) (fun c7 => ?_)
      · have i7 := m_c5 (rfl : x6.toInt = _) (by decide : (0 : Int32).toInt = 0) c7
        refine lv_iconst (v := 1) hx hb dX3_moveHead_64 (by decide) ?_
        exact m_iret hx hb hr hlocks hW (by decide) (⟨hI, Or.inl ⟨rfl, trivial⟩⟩) dX3_moveHead_65
      · have i7 := m_c6 (rfl : x6.toInt = _) (by decide : (0 : Int32).toInt = 0) c7
        refine lv_aload_n hx hb dX3_moveHead_51 rfl (lv_at hl 1 rfl) ?_
        refine m_getr hx hb hts hown hW (41) 10 (42) rfl rfl cw_3 rfl (by decide) k_X3_46 dX3_moveHead_52 ?_
        refine lv_dup hx hb dX3_moveHead_55 rfl ?_
        refine m_geti hx hb hts hown hW (42) 4 rfl rfl cw_1 rfl (by decide) k_X3_118 dX3_moveHead_56 ?_
        refine lv_topi (fun x8 ex8 => ?_)
        refine lv_iconst (v := 1) hx hb dX3_moveHead_59 (by decide) ?_
        refine lv_iadd hx hb dX3_moveHead_60 ?_
        refine lv_topi (fun x9 ex9 => ?_)
        refine m_puti hx hb hts hown hW (42) 4 rfl rfl cw_1 tyX1_ok nmX1 rfl (by decide) k_X3_118 rfl rfl rfl dX3_moveHead_61 (fun H locs hW _ => ?_)
        generalize hμ10 : m_si μ3 (42) 4 x9 = μ10 at hW
        have hI := hI.si0 hμ10 rfl hS6
        refine lv_iconst (v := 1) hx hb dX3_moveHead_64 (by decide) ?_
        exact m_iret hx hb hr hlocks hW (by decide) (⟨hI, Or.inl ⟨rfl, trivial⟩⟩) dX3_moveHead_65
    · refine lv_if_eq (tgt := 64) hx hb dX3_moveHead_39 (by decide) (fun _ => ?_) (fun c => False.elim (by revert c; decide))
      refine lv_iconst (v := 1) hx hb dX3_moveHead_64 (by decide) ?_
      exact m_iret hx hb hr hlocks hW (by decide) (⟨hI, Or.inl ⟨rfl, trivial⟩⟩) dX3_moveHead_65
  · refine lv_if_ne (tgt := 11) hx hb dX3_moveHead_6 (by decide) (fun c => False.elim (by revert c; decide)) (fun _ => ?_)
    refine lv_iconst (v := 0) hx hb dX3_moveHead_9 (by decide) ?_
    exact m_iret hx hb hr hlocks hW (by decide) (⟨hI, Or.inr ⟨rfl, trivial⟩⟩) dX3_moveHead_10
set_option maxHeartbeats 4000000 in
set_option maxRecDepth 100000 in
theorem g_X2_forgetSeen_41 (l : Launch) (D : va_G) (cy : Nat → ClassId) (b : Nat) (S : Nat → Bool) (μ0 : mM) (hS6 : S 6 = true) (μ : mM) (hI : IY S μ0 μ) : m_Cv l yX2_forgetSeen cX2_forgetSeen 1 (none) 1 D cy b LAY μ [.ref (b + 49)] (fun ν => IY S μ0 ν ∧ (True)) := by
  unfold m_Cv
  refine m_of (by decide) (Nat.le_of_ble_eq_true rfl) ?_
  intro p e s m below meth c hx hb hr hml hown hts hlocks _ hW ls hl
  have hown : s.vm.findClass RX2 = some m.cls := hown
  have hl : lv_has ls 1 [(0, .ref (b + 49))] := hl
  refine lv_aload_n hx hb dX2_forgetSeen_0 rfl (lv_at hl 0 rfl) ?_
  refine m_getr hx hb hts hown hW (49) 1 (51) rfl rfl cw_2 rfl (by decide) k_X2_15 dX2_forgetSeen_1 ?_
  refine lv_iconst (v := 0) hx hb dX2_forgetSeen_4 (by decide) ?_
  have l_0 : (0 : Int32).toInt = 0 := by decide
  refine m_aV hW (m_runS (As := [.ref (b + 51), .int 0]) (rest := []) hx hb hml hown hts hW (g_J7_fill_53178 l D cy b S μ0 51 192 rfl (by decide) (fun _ => rfl) (fun _ => hS6) 0 μ hI) ms_J7_fill_53178 k_X2_29 rfl hl.1 rfl (Nat.le_of_ble_eq_true rfl) dX2_forgetSeen_5 ⟨Nat.le_of_ble_eq_true rfl, Nat.le_of_ble_eq_true rfl⟩ ⟨Nat.le_of_ble_eq_true rfl, Nat.le_of_ble_eq_true rfl⟩) (fun μ1 H locs q1 hW => ?_)
  obtain ⟨hI, q1⟩ := q1
  exact m_vret hx hb hr hlocks hW (⟨hI, trivial⟩) dX2_forgetSeen_8
set_option maxHeartbeats 4000000 in
set_option maxRecDepth 100000 in
theorem g_X2_take_41 (l : Launch) (D : va_G) (cy : Nat → ClassId) (b : Nat) (S : Nat → Bool) (μ0 : mM) (hS6 : S 6 = true) (k : Int32) (μ : mM) (hI : IY S μ0 μ) : m_Cv l yX2_take cX2_take 4 (none) 0 D cy b LAY μ [.ref (b + 49), .ref (b + 41), .int k] (fun ν => IY S μ0 ν ∧ (True)) := by
  unfold m_Cv
  refine m_of (by decide) (Nat.le_of_ble_eq_true rfl) ?_
  intro p e s m below meth c hx hb hr hml hown hts hlocks _ hW ls hl
  have hown : s.vm.findClass RX2 = some m.cls := hown
  have hl : lv_has ls 4 [(0, .ref (b + 49)), (1, .ref (b + 41)), (2, .int k)] := hl
  refine lv_iload_n hx hb dX2_take_0 rfl (lv_at hl 2 rfl) ?_
  refine lv_if_lt (tgt := 16) hx hb dX2_take_1 (by decide) (fun c1 => ?_) (fun c1 => ?_)
  · have i1 := m_c1 (rfl : k.toInt = _) (by decide : (0 : Int32).toInt = 0) c1
    refine lv_iconst (v := 0) hx hb dX2_take_16 (by decide) ?_
    refine lv_istore_n (lv' := [(3, .int 0), (0, .ref (b + 49)), (1, .ref (b + 41)), (2, .int k)]) hx hb dX2_take_17 rfl hl (by decide) rfl (fun ls hl => ?_)
    refine lv_iload_n hx hb dX2_take_18 rfl (lv_at hl 0 rfl) ?_
    refine lv_if_eq (tgt := 77) hx hb dX2_take_19 (by decide) (fun _ => ?_) (fun c => False.elim (by revert c; decide))
    exact m_vret hx hb hr hlocks hW (⟨hI, trivial⟩) dX2_take_77
  · have i1 := m_c2 (rfl : k.toInt = _) (by decide : (0 : Int32).toInt = 0) c1
    refine lv_iload_n hx hb dX2_take_4 rfl (lv_at hl 2 rfl) ?_
    refine lv_aload_n hx hb dX2_take_5 rfl (lv_at hl 1 rfl) ?_
    refine m_geti hx hb hts hown hW (41) 2 rfl rfl cw_3 rfl (by decide) k_X2_46 dX2_take_6 ?_
    refine lv_topi (fun x2 ex2 => ?_)
    have bx2 : 0 ≤ x2.toInt ∧ x2.toInt ≤ 192 := by rw [ex2]; exact hI.1 _ _ _ _ rfl
    refine lv_icmp_ge (tgt := 16) hx hb dX2_take_9 (by decide) (fun c3 => ?_) (fun c3 => ?_)
    · have i3 := m_c3 (rfl : x2.toInt = _) (rfl : k.toInt = _) c3
      refine lv_iconst (v := 0) hx hb dX2_take_16 (by decide) ?_
      refine lv_istore_n (lv' := [(3, .int 0), (0, .ref (b + 49)), (1, .ref (b + 41)), (2, .int k)]) hx hb dX2_take_17 rfl hl (by decide) rfl (fun ls hl => ?_)
      refine lv_iload_n hx hb dX2_take_18 rfl (lv_at hl 0 rfl) ?_
      refine lv_if_eq (tgt := 77) hx hb dX2_take_19 (by decide) (fun _ => ?_) (fun c => False.elim (by revert c; decide))
      exact m_vret hx hb hr hlocks hW (⟨hI, trivial⟩) dX2_take_77
    · have i3 := m_c4 (rfl : x2.toInt = _) (rfl : k.toInt = _) c3
      refine lv_iconst (v := 1) hx hb dX2_take_12 (by decide) ?_
      refine lv_goto (tgt := 17) hx hb dX2_take_13 (by decide) ?_
      refine lv_istore_n (lv' := [(3, .int 1), (0, .ref (b + 49)), (1, .ref (b + 41)), (2, .int k)]) hx hb dX2_take_17 rfl hl (by decide) rfl (fun ls hl => ?_)
      refine lv_iload_n hx hb dX2_take_18 rfl (lv_at hl 0 rfl) ?_
      refine lv_if_eq (tgt := 77) hx hb dX2_take_19 (by decide) (fun c => False.elim (by revert c; decide)) (fun _ => ?_)
      refine lv_aload_n hx hb dX2_take_22 rfl (lv_at hl 2 rfl) ?_
      refine m_getr hx hb hts hown hW (41) 12 (44) rfl rfl cw_3 rfl (by decide) k_X2_49 dX2_take_23 ?_
      refine lv_iload_n hx hb dX2_take_26 rfl (lv_at hl 3 rfl) ?_
      refine m_iald hx hb hW (44) rfl (m_ixI (rfl : k.toInt = _) (by omega) (by omega)) dX2_take_27 ?_
      refine lv_topi (fun x4 ex4 => ?_)
      refine lv_if_ne (tgt := 77) hx hb dX2_take_28 (by decide) (fun c5 => ?_) (fun c5 => ?_)
      · have i5 := m_c6 (rfl : x4.toInt = _) (by decide : (0 : Int32).toInt = 0) c5
        exact m_vret hx hb hr hlocks hW (⟨hI, trivial⟩) dX2_take_77
      · have i5 := m_c5 (rfl : x4.toInt = _) (by decide : (0 : Int32).toInt = 0) c5
        refine lv_aload_n hx hb dX2_take_31 rfl (lv_at hl 1 rfl) ?_
        refine m_getr hx hb hts hown hW (49) 1 (51) rfl rfl cw_2 rfl (by decide) k_X2_15 dX2_take_32 ?_
        refine lv_iload_n hx hb dX2_take_35 rfl (lv_at hl 3 rfl) ?_
        refine m_iald hx hb hW (51) rfl (m_ixI (rfl : k.toInt = _) (by omega) (by omega)) dX2_take_36 ?_
        refine lv_topi (fun x6 ex6 => ?_)
        refine lv_if_ne (tgt := 77) hx hb dX2_take_37 (by decide) (fun c7 => ?_) (fun c7 => ?_)
        · have i7 := m_c6 (rfl : x6.toInt = _) (by decide : (0 : Int32).toInt = 0) c7
          exact m_vret hx hb hr hlocks hW (⟨hI, trivial⟩) dX2_take_77
        · have i7 := m_c5 (rfl : x6.toInt = _) (by decide : (0 : Int32).toInt = 0) c7
          refine lv_aload_n hx hb dX2_take_40 rfl (lv_at hl 1 rfl) ?_
          refine m_geti hx hb hts hown hW (49) 2 rfl rfl cw_2 rfl (by decide) k_X2_18 dX2_take_41 ?_
          refine lv_topi (fun x8 ex8 => ?_)
          have bx8 : 0 ≤ x8.toInt ∧ x8.toInt ≤ 192 := by rw [ex8]; exact hI.1 _ _ _ _ rfl
          refine lv_sipush (v := 192) hx hb dX2_take_44 (by decide) ?_
          refine lv_icmp_ge (tgt := 77) hx hb dX2_take_47 (by decide) (fun c9 => ?_) (fun c9 => ?_)
          · have i9 := m_c3 (by decide : (192 : Int32).toInt = 192) (rfl : x8.toInt = _) c9
            exact m_vret hx hb hr hlocks hW (⟨hI, trivial⟩) dX2_take_77
          · have i9 := m_c4 (by decide : (192 : Int32).toInt = 192) (rfl : x8.toInt = _) c9
            refine lv_aload_n hx hb dX2_take_50 rfl (lv_at hl 1 rfl) ?_
            refine m_getr hx hb hts hown hW (49) 1 (51) rfl rfl cw_2 rfl (by decide) k_X2_15 dX2_take_51 ?_
            refine lv_iload_n hx hb dX2_take_54 rfl (lv_at hl 3 rfl) ?_
            refine lv_iconst (v := 1) hx hb dX2_take_55 (by decide) ?_
            refine m_iast hx hb hW (51) rfl (m_ixI (rfl : k.toInt = _) (by omega) (by omega)) dX2_take_56 (fun H locs hW _ => ?_)
            generalize hμ10 : m_si μ (51) (k : Int32).toNatClampNeg 1 = μ10 at hW
            have hI := hI.si0 hμ10 rfl hS6
            refine lv_aload_n hx hb dX2_take_57 rfl (lv_at hl 1 rfl) ?_
            refine m_getr hx hb hts hown hW (49) 0 (50) rfl rfl cw_2 rfl (by decide) k_X2_9 dX2_take_58 ?_
            refine lv_aload_n hx hb dX2_take_61 rfl (lv_at hl 1 rfl) ?_
            refine m_geti hx hb hts hown hW (49) 2 rfl rfl cw_2 rfl (by decide) k_X2_18 dX2_take_62 ?_
            refine lv_topi (fun x11 ex11 => ?_)
            have ex11 : x11 = x8 := by rw [ex11, ← hμ10]; exact ex8.symm
            have ex11 := ex11.symm
            subst ex11
            refine lv_iload_n hx hb dX2_take_65 rfl (lv_at hl 3 rfl) ?_
            refine m_iast hx hb hW (50) rfl (m_ixI (rfl : x8.toInt = _) (by omega) (by omega)) dX2_take_66 (fun H locs hW _ => ?_)
            generalize hμ12 : m_si μ10 (50) (x8 : Int32).toNatClampNeg k = μ12 at hW
            have hI := hI.si1 hμ12 rfl (by omega) hS6
            refine lv_aload_n hx hb dX2_take_67 rfl (lv_at hl 1 rfl) ?_
            refine lv_dup hx hb dX2_take_68 rfl ?_
            refine m_geti hx hb hts hown hW (49) 2 rfl rfl cw_2 rfl (by decide) k_X2_18 dX2_take_69 ?_
            refine lv_topi (fun x13 ex13 => ?_)
            have ex13 : x13 = x8 := by rw [ex13, ← hμ12, ← hμ10]; exact ex8.symm
            have ex13 := ex13.symm
            subst ex13
            refine lv_iconst (v := 1) hx hb dX2_take_72 (by decide) ?_
            refine lv_iadd hx hb dX2_take_73 ?_
            refine lv_topi (fun x14 ex14 => ?_)
            have tx14 : x14.toInt = x8.toInt + 1 := m_addI ex14 (rfl : x8.toInt = _) (by decide : (1 : Int32).toInt = 1) (by omega) (by omega)
            refine m_puti hx hb hts hown hW (49) 2 rfl rfl cw_2 tyX2_ok nmX2 rfl (by decide) k_X2_18 rfl rfl rfl dX2_take_74 (fun H locs hW _ => ?_)
            generalize hμ15 : m_si μ12 (49) 2 x14 = μ15 at hW
            have hI := hI.si1 hμ15 rfl (by omega) hS6
            exact m_vret hx hb hr hlocks hW (⟨hI, trivial⟩) dX2_take_77
set_option maxHeartbeats 4000000 in
set_option maxRecDepth 100000 in
theorem L_X2_gather_41_35 {p : Program} {l : Launch} {e : Env} {s : State} {m : MethodId} {args : Array Value} {below : List Frame} {meth : Method} {c : Code} {D : va_G} {cy : Nat → ClassId} {b : Nat} (hx : p.tables.exec = Jvm.exec) (hb : c.code = cX2_gather) (hr : meth.sig.returnType = (none)) (hml : c.maxLocals = 7) (hown : s.vm.findClass RX2 = some m.cls) (hts : ∀ w ∈ TB, w.before args s = true) (hlocks : meth.locks = false) (S : Nat → Bool) (μ0 : mM) (hS6 : S 6 = true) (k : Int32) : ∀ (f : Nat), ∀ (y3 y4 : Int32) (hy : 1 ≤ y3.toInt ∧ y3.toInt ≤ 16 ∧ 0 ≤ y4.toInt ∧ y4.toInt ≤ 192) (hf : 192 - y4.toInt < (f : Int)) (μ : mM) (hI : IY S μ0 μ) (H : Heap) (locs : List Loc), m_WA (m_A b LAY) D cy s b LAY μ H locs → ∀ ls : Array Slot, lv_has ls 7 [(0, .ref (b + 49)), (1, .ref (b + 41)), (2, .int k), (3, .int y3), (4, .int y4)] → W p l e (m_R 1 0 0) s m args below meth c H locs 0 0 (MQ below (m_Qv D cy b LAY (fun ν => IY S μ0 ν ∧ (True))) args s 0 0 (m_A b LAY)) (F0 m 35 ls []) := by
  intro f
  induction f with
  | zero => intro y3 y4 hy hf; exfalso; omega
  | succ f ih =>
    intro y3 y4 hy hf μ hI H locs hW ls hl
    refine lv_iload hx hb dX2_gather_35 (lv_at hl 4 rfl) ?_
    refine lv_aload_n hx hb dX2_gather_37 rfl (lv_at hl 0 rfl) ?_
    refine m_geti hx hb hts hown hW (49) 2 rfl rfl cw_2 rfl (by decide) k_X2_18 dX2_gather_38 ?_
    refine lv_topi (fun x1 ex1 => ?_)
    have bx1 : 0 ≤ x1.toInt ∧ x1.toInt ≤ 192 := by rw [ex1]; exact hI.1 _ _ _ _ rfl
    refine lv_icmp_ge (tgt := 162) hx hb dX2_gather_41 (by decide) (fun c2 => ?_) (fun c2 => ?_)
    · have i2 := m_c3 (rfl : x1.toInt = _) (rfl : y4.toInt = _) c2
      exact m_vret hx hb hr hlocks hW (⟨hI, trivial⟩) dX2_gather_162
    · have i2 := m_c4 (rfl : x1.toInt = _) (rfl : y4.toInt = _) c2
      refine lv_iload hx hb dX2_gather_44 (lv_at hl 4 rfl) ?_
      refine lv_sipush (v := 192) hx hb dX2_gather_46 (by decide) ?_
      refine lv_icmp_ge (tgt := 162) hx hb dX2_gather_49 (by decide) (fun c3 => ?_) (fun c3 => ?_)
      · have i3 := m_c3 (by decide : (192 : Int32).toInt = 192) (rfl : y4.toInt = _) c3
        exfalso; omega
      · have i3 := m_c4 (by decide : (192 : Int32).toInt = 192) (rfl : y4.toInt = _) c3
        refine lv_aload_n hx hb dX2_gather_52 rfl (lv_at hl 0 rfl) ?_
        refine m_getr hx hb hts hown hW (49) 0 (50) rfl rfl cw_2 rfl (by decide) k_X2_9 dX2_gather_53 ?_
        refine lv_iload hx hb dX2_gather_56 (lv_at hl 4 rfl) ?_
        refine m_iald hx hb hW (50) rfl (m_ixI (rfl : y4.toInt = _) (by omega) (by omega)) dX2_gather_58 ?_
        refine lv_topi (fun x4 ex4 => ?_)
        have bx4 : 0 ≤ x4.toInt ∧ x4.toInt ≤ 191 := by rw [ex4]; exact hI.1 _ _ _ _ rfl
        refine lv_istore (lv' := [(5, .int x4), (0, .ref (b + 49)), (1, .ref (b + 41)), (2, .int k), (3, .int y3), (4, .int y4)]) hx hb dX2_gather_59 hl (by decide) rfl (fun ls hl => ?_)
        refine lv_iload hx hb dX2_gather_61 (lv_at hl 0 rfl) ?_
        refine lv_iload_n hx hb dX2_gather_63 rfl (lv_at hl 4 rfl) ?_
        refine lv_irem hx hb dX2_gather_64 (m_n0 (rfl : y3.toInt = _) (by omega)) ?_
        refine lv_topi (fun x5 ex5 => ?_)
        have bx5 : 0 ≤ x5.toInt ∧ x5.toInt < y3.toInt := m_remB ex5 (rfl : x4.toInt = _) (rfl : y3.toInt = _) (by omega) (by omega)
        refine lv_istore (lv' := [(6, .int x5), (5, .int x4), (0, .ref (b + 49)), (1, .ref (b + 41)), (2, .int k), (3, .int y3), (4, .int y4)]) hx hb dX2_gather_65 hl (by decide) rfl (fun ls hl => ?_)
        refine lv_aload_n hx hb dX2_gather_67 rfl (lv_at hl 2 rfl) ?_
        refine lv_dup hx hb dX2_gather_68 rfl ?_
        refine m_geti hx hb hts hown hW (49) 3 rfl rfl cw_2 rfl (by decide) k_X2_22 dX2_gather_69 ?_
        refine lv_topi (fun x6 ex6 => ?_)
        refine lv_iload hx hb dX2_gather_72 (lv_at hl 0 rfl) ?_
        refine lv_iadd hx hb dX2_gather_74 ?_
        refine lv_topi (fun x7 ex7 => ?_)
        refine m_puti hx hb hts hown hW (49) 3 rfl rfl cw_2 tyX2_ok nmX2 rfl (by decide) k_X2_22 rfl rfl rfl dX2_gather_75 (fun H locs hW _ => ?_)
        generalize hμ8 : m_si μ (49) 3 x7 = μ8 at hW
        have hI := hI.si0 hμ8 rfl hS6
        refine lv_aload_n hx hb dX2_gather_78 rfl (lv_at hl 2 rfl) ?_
        refine lv_aload_n hx hb dX2_gather_79 rfl (lv_at hl 2 rfl) ?_
        refine m_geti hx hb hts hown hW (49) 4 rfl rfl cw_2 rfl (by decide) k_X2_25 dX2_gather_80 ?_
        refine lv_topi (fun x9 ex9 => ?_)
        have bx9 : 0 ≤ x9.toInt ∧ x9.toInt ≤ 1 := by rw [ex9]; exact hI.1 _ _ _ _ rfl
        refine lv_if_ne (tgt := 99) hx hb dX2_gather_83 (by decide) (fun c10 => ?_) (fun c10 => ?_)
        · have i10 := m_c6 (rfl : x9.toInt = _) (by decide : (0 : Int32).toInt = 0) c10
          refine lv_iconst (v := 1) hx hb dX2_gather_99 (by decide) ?_
          refine lv_goto (tgt := 104) hx hb dX2_gather_100 (by decide) ?_
          refine m_puti hx hb hts hown hW (49) 4 rfl rfl cw_2 tyX2_ok nmX2 rfl (by decide) k_X2_25 rfl (by decide) rfl dX2_gather_104 (fun H locs hW _ => ?_)
          generalize hμ11 : m_si μ8 (49) 4 1 = μ11 at hW
          have hI := hI.si1 hμ11 rfl (by decide) hS6
          refine lv_aload_n hx hb dX2_gather_107 rfl (lv_at hl 2 rfl) ?_
          refine lv_aload_n hx hb dX2_gather_108 rfl (lv_at hl 3 rfl) ?_
          refine lv_iload hx hb dX2_gather_109 (lv_at hl 1 rfl) ?_
          refine lv_iload_n hx hb dX2_gather_111 rfl (lv_at hl 5 rfl) ?_
          refine lv_isub hx hb dX2_gather_112 ?_
          refine lv_topi (fun x12 ex12 => ?_)
          have tx12 : x12.toInt = x4.toInt - y3.toInt := m_subI ex12 (rfl : x4.toInt = _) (rfl : y3.toInt = _) (by omega) (by omega)
          refine m_aV hW (m_runV (As := [.ref (b + 41), .int x12]) (rest := []) hx hb hml hown hts hW (49) (g_X2_take_41 l D cy b S μ0 hS6 x12 μ11 hI) mi_X2_take k_X2_38 rfl rfl rfl hl.1 rfl (Nat.le_of_ble_eq_true rfl) dX2_gather_113 ⟨Nat.le_of_ble_eq_true rfl, Nat.le_of_ble_eq_true rfl⟩ ⟨Nat.le_of_ble_eq_true rfl, Nat.le_of_ble_eq_true rfl⟩) (fun μ13 H locs q13 hW => ?_)
          obtain ⟨hI, q13⟩ := q13
          refine lv_aload_n hx hb dX2_gather_116 rfl (lv_at hl 2 rfl) ?_
          refine lv_aload_n hx hb dX2_gather_117 rfl (lv_at hl 3 rfl) ?_
          refine lv_iload hx hb dX2_gather_118 (lv_at hl 1 rfl) ?_
          refine lv_iload_n hx hb dX2_gather_120 rfl (lv_at hl 5 rfl) ?_
          refine lv_iadd hx hb dX2_gather_121 ?_
          refine lv_topi (fun x14 ex14 => ?_)
          have tx14 : x14.toInt = x4.toInt + y3.toInt := m_addI ex14 (rfl : x4.toInt = _) (rfl : y3.toInt = _) (by omega) (by omega)
          refine m_aV hW (m_runV (As := [.ref (b + 41), .int x14]) (rest := []) hx hb hml hown hts hW (49) (g_X2_take_41 l D cy b S μ0 hS6 x14 μ13 hI) mi_X2_take k_X2_38 rfl rfl rfl hl.1 rfl (Nat.le_of_ble_eq_true rfl) dX2_gather_122 ⟨Nat.le_of_ble_eq_true rfl, Nat.le_of_ble_eq_true rfl⟩ ⟨Nat.le_of_ble_eq_true rfl, Nat.le_of_ble_eq_true rfl⟩) (fun μ15 H locs q15 hW => ?_)
          obtain ⟨hI, q15⟩ := q15
          refine lv_iload hx hb dX2_gather_125 (lv_at hl 0 rfl) ?_
          refine lv_if_le (tgt := 139) hx hb dX2_gather_127 (by decide) (fun c16 => ?_) (fun c16 => ?_)
          · have i16 := m_c3 (rfl : x5.toInt = _) (by decide : (0 : Int32).toInt = 0) c16
            refine lv_iload hx hb dX2_gather_139 (lv_at hl 0 rfl) ?_
            refine lv_iload_n hx hb dX2_gather_141 rfl (lv_at hl 5 rfl) ?_
            refine lv_iconst (v := 1) hx hb dX2_gather_142 (by decide) ?_
            refine lv_isub hx hb dX2_gather_143 ?_
            refine lv_topi (fun x17 ex17 => ?_)
            have tx17 : x17.toInt = y3.toInt - 1 := m_subI ex17 (rfl : y3.toInt = _) (by decide : (1 : Int32).toInt = 1) (by omega) (by omega)
            refine lv_icmp_ge (tgt := 156) hx hb dX2_gather_144 (by decide) (fun c18 => ?_) (fun c18 => ?_)
            · have i18 := m_c3 (rfl : x17.toInt = _) (rfl : x5.toInt = _) c18
              obtain ⟨x19, ex19⟩ : ∃ z : Int32, z = y4 + 1 := ⟨_, rfl⟩
              refine lv_iinc (v := x19) (lv' := [(4, .int x19), (6, .int x5), (5, .int x4), (0, .ref (b + 49)), (1, .ref (b + 41)), (2, .int k), (3, .int y3)]) hx hb dX2_gather_156 hl (k := 6) rfl (by rw [ex19]; rfl) (by decide) rfl (fun ls hl => ?_)
              have tx19 : x19.toInt = y4.toInt + 1 := m_addI ex19 (rfl : y4.toInt = _) (by decide : (1 : Int32).toInt = 1) (by omega) (by omega)
              refine lv_goto (tgt := 35) hx hb dX2_gather_159 (by decide) ?_
              exact ih y3 x19 (by omega) (by omega) μ15 hI _ _ hW ls (lv_sub hl [3, 4, 5, 6, 0] rfl)
            · have i18 := m_c4 (rfl : x17.toInt = _) (rfl : x5.toInt = _) c18
              refine lv_aload_n hx hb dX2_gather_147 rfl (lv_at hl 2 rfl) ?_
              refine lv_aload_n hx hb dX2_gather_148 rfl (lv_at hl 3 rfl) ?_
              refine lv_iload hx hb dX2_gather_149 (lv_at hl 1 rfl) ?_
              refine lv_iconst (v := 1) hx hb dX2_gather_151 (by decide) ?_
              refine lv_iadd hx hb dX2_gather_152 ?_
              refine lv_topi (fun x20 ex20 => ?_)
              have tx20 : x20.toInt = x4.toInt + 1 := m_addI ex20 (rfl : x4.toInt = _) (by decide : (1 : Int32).toInt = 1) (by omega) (by omega)
              refine m_aV hW (m_runV (As := [.ref (b + 41), .int x20]) (rest := []) hx hb hml hown hts hW (49) (g_X2_take_41 l D cy b S μ0 hS6 x20 μ15 hI) mi_X2_take k_X2_38 rfl rfl rfl hl.1 rfl (Nat.le_of_ble_eq_true rfl) dX2_gather_153 ⟨Nat.le_of_ble_eq_true rfl, Nat.le_of_ble_eq_true rfl⟩ ⟨Nat.le_of_ble_eq_true rfl, Nat.le_of_ble_eq_true rfl⟩) (fun μ21 H locs q21 hW => ?_)
              obtain ⟨hI, q21⟩ := q21
              obtain ⟨x22, ex22⟩ : ∃ z : Int32, z = y4 + 1 := ⟨_, rfl⟩
              refine lv_iinc (v := x22) (lv' := [(4, .int x22), (6, .int x5), (5, .int x4), (0, .ref (b + 49)), (1, .ref (b + 41)), (2, .int k), (3, .int y3)]) hx hb dX2_gather_156 hl (k := 6) rfl (by rw [ex22]; rfl) (by decide) rfl (fun ls hl => ?_)
              have tx22 : x22.toInt = y4.toInt + 1 := m_addI ex22 (rfl : y4.toInt = _) (by decide : (1 : Int32).toInt = 1) (by omega) (by omega)
              refine lv_goto (tgt := 35) hx hb dX2_gather_159 (by decide) ?_
              exact ih y3 x22 (by omega) (by omega) μ21 hI _ _ hW ls (lv_sub hl [3, 4, 5, 6, 0] rfl)
          · have i16 := m_c4 (rfl : x5.toInt = _) (by decide : (0 : Int32).toInt = 0) c16
            refine lv_aload_n hx hb dX2_gather_130 rfl (lv_at hl 2 rfl) ?_
            refine lv_aload_n hx hb dX2_gather_131 rfl (lv_at hl 3 rfl) ?_
            refine lv_iload hx hb dX2_gather_132 (lv_at hl 1 rfl) ?_
            refine lv_iconst (v := 1) hx hb dX2_gather_134 (by decide) ?_
            refine lv_isub hx hb dX2_gather_135 ?_
            refine lv_topi (fun x23 ex23 => ?_)
            have tx23 : x23.toInt = x4.toInt - 1 := m_subI ex23 (rfl : x4.toInt = _) (by decide : (1 : Int32).toInt = 1) (by omega) (by omega)
            refine m_aV hW (m_runV (As := [.ref (b + 41), .int x23]) (rest := []) hx hb hml hown hts hW (49) (g_X2_take_41 l D cy b S μ0 hS6 x23 μ15 hI) mi_X2_take k_X2_38 rfl rfl rfl hl.1 rfl (Nat.le_of_ble_eq_true rfl) dX2_gather_136 ⟨Nat.le_of_ble_eq_true rfl, Nat.le_of_ble_eq_true rfl⟩ ⟨Nat.le_of_ble_eq_true rfl, Nat.le_of_ble_eq_true rfl⟩) (fun μ24 H locs q24 hW => ?_)
            obtain ⟨hI, q24⟩ := q24
            refine lv_iload hx hb dX2_gather_139 (lv_at hl 0 rfl) ?_
            refine lv_iload_n hx hb dX2_gather_141 rfl (lv_at hl 5 rfl) ?_
            refine lv_iconst (v := 1) hx hb dX2_gather_142 (by decide) ?_
            refine lv_isub hx hb dX2_gather_143 ?_
            refine lv_topi (fun x25 ex25 => ?_)
            have tx25 : x25.toInt = y3.toInt - 1 := m_subI ex25 (rfl : y3.toInt = _) (by decide : (1 : Int32).toInt = 1) (by omega) (by omega)
            refine lv_icmp_ge (tgt := 156) hx hb dX2_gather_144 (by decide) (fun c26 => ?_) (fun c26 => ?_)
            · have i26 := m_c3 (rfl : x25.toInt = _) (rfl : x5.toInt = _) c26
              obtain ⟨x27, ex27⟩ : ∃ z : Int32, z = y4 + 1 := ⟨_, rfl⟩
              refine lv_iinc (v := x27) (lv' := [(4, .int x27), (6, .int x5), (5, .int x4), (0, .ref (b + 49)), (1, .ref (b + 41)), (2, .int k), (3, .int y3)]) hx hb dX2_gather_156 hl (k := 6) rfl (by rw [ex27]; rfl) (by decide) rfl (fun ls hl => ?_)
              have tx27 : x27.toInt = y4.toInt + 1 := m_addI ex27 (rfl : y4.toInt = _) (by decide : (1 : Int32).toInt = 1) (by omega) (by omega)
              refine lv_goto (tgt := 35) hx hb dX2_gather_159 (by decide) ?_
              exact ih y3 x27 (by omega) (by omega) μ24 hI _ _ hW ls (lv_sub hl [3, 4, 5, 6, 0] rfl)
            · have i26 := m_c4 (rfl : x25.toInt = _) (rfl : x5.toInt = _) c26
              refine lv_aload_n hx hb dX2_gather_147 rfl (lv_at hl 2 rfl) ?_
              refine lv_aload_n hx hb dX2_gather_148 rfl (lv_at hl 3 rfl) ?_
              refine lv_iload hx hb dX2_gather_149 (lv_at hl 1 rfl) ?_
              refine lv_iconst (v := 1) hx hb dX2_gather_151 (by decide) ?_
              refine lv_iadd hx hb dX2_gather_152 ?_
              refine lv_topi (fun x28 ex28 => ?_)
              have tx28 : x28.toInt = x4.toInt + 1 := m_addI ex28 (rfl : x4.toInt = _) (by decide : (1 : Int32).toInt = 1) (by omega) (by omega)
              refine m_aV hW (m_runV (As := [.ref (b + 41), .int x28]) (rest := []) hx hb hml hown hts hW (49) (g_X2_take_41 l D cy b S μ0 hS6 x28 μ24 hI) mi_X2_take k_X2_38 rfl rfl rfl hl.1 rfl (Nat.le_of_ble_eq_true rfl) dX2_gather_153 ⟨Nat.le_of_ble_eq_true rfl, Nat.le_of_ble_eq_true rfl⟩ ⟨Nat.le_of_ble_eq_true rfl, Nat.le_of_ble_eq_true rfl⟩) (fun μ29 H locs q29 hW => ?_)
              obtain ⟨hI, q29⟩ := q29
              obtain ⟨x30, ex30⟩ : ∃ z : Int32, z = y4 + 1 := ⟨_, rfl⟩
              refine lv_iinc (v := x30) (lv' := [(4, .int x30), (6, .int x5), (5, .int x4), (0, .ref (b + 49)), (1, .ref (b + 41)), (2, .int k), (3, .int y3)]) hx hb dX2_gather_156 hl (k := 6) rfl (by rw [ex30]; rfl) (by decide) rfl (fun ls hl => ?_)
              have tx30 : x30.toInt = y4.toInt + 1 := m_addI ex30 (rfl : y4.toInt = _) (by decide : (1 : Int32).toInt = 1) (by omega) (by omega)
              refine lv_goto (tgt := 35) hx hb dX2_gather_159 (by decide) ?_
              exact ih y3 x30 (by omega) (by omega) μ29 hI _ _ hW ls (lv_sub hl [3, 4, 5, 6, 0] rfl)
        · have i10 := m_c5 (rfl : x9.toInt = _) (by decide : (0 : Int32).toInt = 0) c10
          refine lv_aload_n hx hb dX2_gather_86 rfl (lv_at hl 3 rfl) ?_
          refine lv_iload hx hb dX2_gather_87 (lv_at hl 0 rfl) ?_
          refine lv_iload hx hb dX2_gather_89 (lv_at hl 1 rfl) ?_
          refine lv_iload_n hx hb dX2_gather_91 rfl (lv_at hl 5 rfl) ?_
          refine lv_idiv hx hb dX2_gather_92 (m_n0 (rfl : y3.toInt = _) (by omega)) ?_
          refine lv_topi (fun x31 ex31 => ?_)
          have bx31 : 0 ≤ x31.toInt ∧ x31.toInt ≤ x4.toInt := m_divB ex31 (rfl : x4.toInt = _) (rfl : y3.toInt = _) (by omega) (by omega)
          refine m_aI hW (m_runV (As := [.int x5, .int x31]) (rest := [.ref (b + 49)]) hx hb hml hown hts hW (41) (g_X3_isBorder_41 l D cy b x5 x31 μ8 hI.1) mi_X3_isBorder k_X2_42 rfl rfl rfl hl.1 rfl (Nat.le_of_ble_eq_true rfl) dX2_gather_93 ⟨Nat.le_of_ble_eq_true rfl, Nat.le_of_ble_eq_true rfl⟩ ⟨Nat.le_of_ble_eq_true rfl, Nat.le_of_ble_eq_true rfl⟩) (fun x32 μ32 H locs q32 hW => ?_)
          obtain ⟨q32_m, q32⟩ := q32
          subst q32_m
          rcases q32 with ⟨rfl, q32⟩ | ⟨rfl, q32⟩
          · refine lv_if_eq (tgt := 103) hx hb dX2_gather_96 (by decide) (fun c => False.elim (by revert c; decide)) (fun _ => ?_)
            refine lv_iconst (v := 1) hx hb dX2_gather_99 (by decide) ?_
            refine lv_goto (tgt := 104) hx hb dX2_gather_100 (by decide) ?_
            refine m_puti hx hb hts hown hW (49) 4 rfl rfl cw_2 tyX2_ok nmX2 rfl (by decide) k_X2_25 rfl (by decide) rfl dX2_gather_104 (fun H locs hW _ => ?_)
            generalize hμ33 : m_si μ8 (49) 4 1 = μ33 at hW
            have hI := hI.si1 hμ33 rfl (by decide) hS6
            refine lv_aload_n hx hb dX2_gather_107 rfl (lv_at hl 2 rfl) ?_
            refine lv_aload_n hx hb dX2_gather_108 rfl (lv_at hl 3 rfl) ?_
            refine lv_iload hx hb dX2_gather_109 (lv_at hl 1 rfl) ?_
            refine lv_iload_n hx hb dX2_gather_111 rfl (lv_at hl 5 rfl) ?_
            refine lv_isub hx hb dX2_gather_112 ?_
            refine lv_topi (fun x34 ex34 => ?_)
            have tx34 : x34.toInt = x4.toInt - y3.toInt := m_subI ex34 (rfl : x4.toInt = _) (rfl : y3.toInt = _) (by omega) (by omega)
            refine m_aV hW (m_runV (As := [.ref (b + 41), .int x34]) (rest := []) hx hb hml hown hts hW (49) (g_X2_take_41 l D cy b S μ0 hS6 x34 μ33 hI) mi_X2_take k_X2_38 rfl rfl rfl hl.1 rfl (Nat.le_of_ble_eq_true rfl) dX2_gather_113 ⟨Nat.le_of_ble_eq_true rfl, Nat.le_of_ble_eq_true rfl⟩ ⟨Nat.le_of_ble_eq_true rfl, Nat.le_of_ble_eq_true rfl⟩) (fun μ35 H locs q35 hW => ?_)
            obtain ⟨hI, q35⟩ := q35
            refine lv_aload_n hx hb dX2_gather_116 rfl (lv_at hl 2 rfl) ?_
            refine lv_aload_n hx hb dX2_gather_117 rfl (lv_at hl 3 rfl) ?_
            refine lv_iload hx hb dX2_gather_118 (lv_at hl 1 rfl) ?_
            refine lv_iload_n hx hb dX2_gather_120 rfl (lv_at hl 5 rfl) ?_
            refine lv_iadd hx hb dX2_gather_121 ?_
            refine lv_topi (fun x36 ex36 => ?_)
            have tx36 : x36.toInt = x4.toInt + y3.toInt := m_addI ex36 (rfl : x4.toInt = _) (rfl : y3.toInt = _) (by omega) (by omega)
            refine m_aV hW (m_runV (As := [.ref (b + 41), .int x36]) (rest := []) hx hb hml hown hts hW (49) (g_X2_take_41 l D cy b S μ0 hS6 x36 μ35 hI) mi_X2_take k_X2_38 rfl rfl rfl hl.1 rfl (Nat.le_of_ble_eq_true rfl) dX2_gather_122 ⟨Nat.le_of_ble_eq_true rfl, Nat.le_of_ble_eq_true rfl⟩ ⟨Nat.le_of_ble_eq_true rfl, Nat.le_of_ble_eq_true rfl⟩) (fun μ37 H locs q37 hW => ?_)
            obtain ⟨hI, q37⟩ := q37
            refine lv_iload hx hb dX2_gather_125 (lv_at hl 0 rfl) ?_
            refine lv_if_le (tgt := 139) hx hb dX2_gather_127 (by decide) (fun c38 => ?_) (fun c38 => ?_)
            · have i38 := m_c3 (rfl : x5.toInt = _) (by decide : (0 : Int32).toInt = 0) c38
              refine lv_iload hx hb dX2_gather_139 (lv_at hl 0 rfl) ?_
              refine lv_iload_n hx hb dX2_gather_141 rfl (lv_at hl 5 rfl) ?_
              refine lv_iconst (v := 1) hx hb dX2_gather_142 (by decide) ?_
              refine lv_isub hx hb dX2_gather_143 ?_
              refine lv_topi (fun x39 ex39 => ?_)
              have tx39 : x39.toInt = y3.toInt - 1 := m_subI ex39 (rfl : y3.toInt = _) (by decide : (1 : Int32).toInt = 1) (by omega) (by omega)
              refine lv_icmp_ge (tgt := 156) hx hb dX2_gather_144 (by decide) (fun c40 => ?_) (fun c40 => ?_)
              · have i40 := m_c3 (rfl : x39.toInt = _) (rfl : x5.toInt = _) c40
                obtain ⟨x41, ex41⟩ : ∃ z : Int32, z = y4 + 1 := ⟨_, rfl⟩
                refine lv_iinc (v := x41) (lv' := [(4, .int x41), (6, .int x5), (5, .int x4), (0, .ref (b + 49)), (1, .ref (b + 41)), (2, .int k), (3, .int y3)]) hx hb dX2_gather_156 hl (k := 6) rfl (by rw [ex41]; rfl) (by decide) rfl (fun ls hl => ?_)
                have tx41 : x41.toInt = y4.toInt + 1 := m_addI ex41 (rfl : y4.toInt = _) (by decide : (1 : Int32).toInt = 1) (by omega) (by omega)
                refine lv_goto (tgt := 35) hx hb dX2_gather_159 (by decide) ?_
                exact ih y3 x41 (by omega) (by omega) μ37 hI _ _ hW ls (lv_sub hl [3, 4, 5, 6, 0] rfl)
              · have i40 := m_c4 (rfl : x39.toInt = _) (rfl : x5.toInt = _) c40
                refine lv_aload_n hx hb dX2_gather_147 rfl (lv_at hl 2 rfl) ?_
                refine lv_aload_n hx hb dX2_gather_148 rfl (lv_at hl 3 rfl) ?_
                refine lv_iload hx hb dX2_gather_149 (lv_at hl 1 rfl) ?_
                refine lv_iconst (v := 1) hx hb dX2_gather_151 (by decide) ?_
                refine lv_iadd hx hb dX2_gather_152 ?_
                refine lv_topi (fun x42 ex42 => ?_)
                have tx42 : x42.toInt = x4.toInt + 1 := m_addI ex42 (rfl : x4.toInt = _) (by decide : (1 : Int32).toInt = 1) (by omega) (by omega)
                refine m_aV hW (m_runV (As := [.ref (b + 41), .int x42]) (rest := []) hx hb hml hown hts hW (49) (g_X2_take_41 l D cy b S μ0 hS6 x42 μ37 hI) mi_X2_take k_X2_38 rfl rfl rfl hl.1 rfl (Nat.le_of_ble_eq_true rfl) dX2_gather_153 ⟨Nat.le_of_ble_eq_true rfl, Nat.le_of_ble_eq_true rfl⟩ ⟨Nat.le_of_ble_eq_true rfl, Nat.le_of_ble_eq_true rfl⟩) (fun μ43 H locs q43 hW => ?_)
                obtain ⟨hI, q43⟩ := q43
                obtain ⟨x44, ex44⟩ : ∃ z : Int32, z = y4 + 1 := ⟨_, rfl⟩
                refine lv_iinc (v := x44) (lv' := [(4, .int x44), (6, .int x5), (5, .int x4), (0, .ref (b + 49)), (1, .ref (b + 41)), (2, .int k), (3, .int y3)]) hx hb dX2_gather_156 hl (k := 6) rfl (by rw [ex44]; rfl) (by decide) rfl (fun ls hl => ?_)
                have tx44 : x44.toInt = y4.toInt + 1 := m_addI ex44 (rfl : y4.toInt = _) (by decide : (1 : Int32).toInt = 1) (by omega) (by omega)
                refine lv_goto (tgt := 35) hx hb dX2_gather_159 (by decide) ?_
                exact ih y3 x44 (by omega) (by omega) μ43 hI _ _ hW ls (lv_sub hl [3, 4, 5, 6, 0] rfl)
            · have i38 := m_c4 (rfl : x5.toInt = _) (by decide : (0 : Int32).toInt = 0) c38
              refine lv_aload_n hx hb dX2_gather_130 rfl (lv_at hl 2 rfl) ?_
              refine lv_aload_n hx hb dX2_gather_131 rfl (lv_at hl 3 rfl) ?_
              refine lv_iload hx hb dX2_gather_132 (lv_at hl 1 rfl) ?_
              refine lv_iconst (v := 1) hx hb dX2_gather_134 (by decide) ?_
              refine lv_isub hx hb dX2_gather_135 ?_
              refine lv_topi (fun x45 ex45 => ?_)
              have tx45 : x45.toInt = x4.toInt - 1 := m_subI ex45 (rfl : x4.toInt = _) (by decide : (1 : Int32).toInt = 1) (by omega) (by omega)
              refine m_aV hW (m_runV (As := [.ref (b + 41), .int x45]) (rest := []) hx hb hml hown hts hW (49) (g_X2_take_41 l D cy b S μ0 hS6 x45 μ37 hI) mi_X2_take k_X2_38 rfl rfl rfl hl.1 rfl (Nat.le_of_ble_eq_true rfl) dX2_gather_136 ⟨Nat.le_of_ble_eq_true rfl, Nat.le_of_ble_eq_true rfl⟩ ⟨Nat.le_of_ble_eq_true rfl, Nat.le_of_ble_eq_true rfl⟩) (fun μ46 H locs q46 hW => ?_)
              obtain ⟨hI, q46⟩ := q46
              refine lv_iload hx hb dX2_gather_139 (lv_at hl 0 rfl) ?_
              refine lv_iload_n hx hb dX2_gather_141 rfl (lv_at hl 5 rfl) ?_
              refine lv_iconst (v := 1) hx hb dX2_gather_142 (by decide) ?_
              refine lv_isub hx hb dX2_gather_143 ?_
              refine lv_topi (fun x47 ex47 => ?_)
              have tx47 : x47.toInt = y3.toInt - 1 := m_subI ex47 (rfl : y3.toInt = _) (by decide : (1 : Int32).toInt = 1) (by omega) (by omega)
              refine lv_icmp_ge (tgt := 156) hx hb dX2_gather_144 (by decide) (fun c48 => ?_) (fun c48 => ?_)
              · have i48 := m_c3 (rfl : x47.toInt = _) (rfl : x5.toInt = _) c48
                obtain ⟨x49, ex49⟩ : ∃ z : Int32, z = y4 + 1 := ⟨_, rfl⟩
                refine lv_iinc (v := x49) (lv' := [(4, .int x49), (6, .int x5), (5, .int x4), (0, .ref (b + 49)), (1, .ref (b + 41)), (2, .int k), (3, .int y3)]) hx hb dX2_gather_156 hl (k := 6) rfl (by rw [ex49]; rfl) (by decide) rfl (fun ls hl => ?_)
                have tx49 : x49.toInt = y4.toInt + 1 := m_addI ex49 (rfl : y4.toInt = _) (by decide : (1 : Int32).toInt = 1) (by omega) (by omega)
                refine lv_goto (tgt := 35) hx hb dX2_gather_159 (by decide) ?_
                exact ih y3 x49 (by omega) (by omega) μ46 hI _ _ hW ls (lv_sub hl [3, 4, 5, 6, 0] rfl)
              · have i48 := m_c4 (rfl : x47.toInt = _) (rfl : x5.toInt = _) c48
                refine lv_aload_n hx hb dX2_gather_147 rfl (lv_at hl 2 rfl) ?_
                refine lv_aload_n hx hb dX2_gather_148 rfl (lv_at hl 3 rfl) ?_
                refine lv_iload hx hb dX2_gather_149 (lv_at hl 1 rfl) ?_
                refine lv_iconst (v := 1) hx hb dX2_gather_151 (by decide) ?_
                refine lv_iadd hx hb dX2_gather_152 ?_
                refine lv_topi (fun x50 ex50 => ?_)
                have tx50 : x50.toInt = x4.toInt + 1 := m_addI ex50 (rfl : x4.toInt = _) (by decide : (1 : Int32).toInt = 1) (by omega) (by omega)
                refine m_aV hW (m_runV (As := [.ref (b + 41), .int x50]) (rest := []) hx hb hml hown hts hW (49) (g_X2_take_41 l D cy b S μ0 hS6 x50 μ46 hI) mi_X2_take k_X2_38 rfl rfl rfl hl.1 rfl (Nat.le_of_ble_eq_true rfl) dX2_gather_153 ⟨Nat.le_of_ble_eq_true rfl, Nat.le_of_ble_eq_true rfl⟩ ⟨Nat.le_of_ble_eq_true rfl, Nat.le_of_ble_eq_true rfl⟩) (fun μ51 H locs q51 hW => ?_)
                obtain ⟨hI, q51⟩ := q51
                obtain ⟨x52, ex52⟩ : ∃ z : Int32, z = y4 + 1 := ⟨_, rfl⟩
                refine lv_iinc (v := x52) (lv' := [(4, .int x52), (6, .int x5), (5, .int x4), (0, .ref (b + 49)), (1, .ref (b + 41)), (2, .int k), (3, .int y3)]) hx hb dX2_gather_156 hl (k := 6) rfl (by rw [ex52]; rfl) (by decide) rfl (fun ls hl => ?_)
                have tx52 : x52.toInt = y4.toInt + 1 := m_addI ex52 (rfl : y4.toInt = _) (by decide : (1 : Int32).toInt = 1) (by omega) (by omega)
                refine lv_goto (tgt := 35) hx hb dX2_gather_159 (by decide) ?_
                exact ih y3 x52 (by omega) (by omega) μ51 hI _ _ hW ls (lv_sub hl [3, 4, 5, 6, 0] rfl)
          · refine lv_if_eq (tgt := 103) hx hb dX2_gather_96 (by decide) (fun _ => ?_) (fun c => False.elim (by revert c; decide))
            refine lv_iconst (v := 0) hx hb dX2_gather_103 (by decide) ?_
            refine m_puti hx hb hts hown hW (49) 4 rfl rfl cw_2 tyX2_ok nmX2 rfl (by decide) k_X2_25 rfl (by decide) rfl dX2_gather_104 (fun H locs hW _ => ?_)
            generalize hμ53 : m_si μ8 (49) 4 0 = μ53 at hW
            have hI := hI.si1 hμ53 rfl (by decide) hS6
            refine lv_aload_n hx hb dX2_gather_107 rfl (lv_at hl 2 rfl) ?_
            refine lv_aload_n hx hb dX2_gather_108 rfl (lv_at hl 3 rfl) ?_
            refine lv_iload hx hb dX2_gather_109 (lv_at hl 1 rfl) ?_
            refine lv_iload_n hx hb dX2_gather_111 rfl (lv_at hl 5 rfl) ?_
            refine lv_isub hx hb dX2_gather_112 ?_
            refine lv_topi (fun x54 ex54 => ?_)
            have tx54 : x54.toInt = x4.toInt - y3.toInt := m_subI ex54 (rfl : x4.toInt = _) (rfl : y3.toInt = _) (by omega) (by omega)
            refine m_aV hW (m_runV (As := [.ref (b + 41), .int x54]) (rest := []) hx hb hml hown hts hW (49) (g_X2_take_41 l D cy b S μ0 hS6 x54 μ53 hI) mi_X2_take k_X2_38 rfl rfl rfl hl.1 rfl (Nat.le_of_ble_eq_true rfl) dX2_gather_113 ⟨Nat.le_of_ble_eq_true rfl, Nat.le_of_ble_eq_true rfl⟩ ⟨Nat.le_of_ble_eq_true rfl, Nat.le_of_ble_eq_true rfl⟩) (fun μ55 H locs q55 hW => ?_)
            obtain ⟨hI, q55⟩ := q55
            refine lv_aload_n hx hb dX2_gather_116 rfl (lv_at hl 2 rfl) ?_
            refine lv_aload_n hx hb dX2_gather_117 rfl (lv_at hl 3 rfl) ?_
            refine lv_iload hx hb dX2_gather_118 (lv_at hl 1 rfl) ?_
            refine lv_iload_n hx hb dX2_gather_120 rfl (lv_at hl 5 rfl) ?_
            refine lv_iadd hx hb dX2_gather_121 ?_
            refine lv_topi (fun x56 ex56 => ?_)
            have tx56 : x56.toInt = x4.toInt + y3.toInt := m_addI ex56 (rfl : x4.toInt = _) (rfl : y3.toInt = _) (by omega) (by omega)
            refine m_aV hW (m_runV (As := [.ref (b + 41), .int x56]) (rest := []) hx hb hml hown hts hW (49) (g_X2_take_41 l D cy b S μ0 hS6 x56 μ55 hI) mi_X2_take k_X2_38 rfl rfl rfl hl.1 rfl (Nat.le_of_ble_eq_true rfl) dX2_gather_122 ⟨Nat.le_of_ble_eq_true rfl, Nat.le_of_ble_eq_true rfl⟩ ⟨Nat.le_of_ble_eq_true rfl, Nat.le_of_ble_eq_true rfl⟩) (fun μ57 H locs q57 hW => ?_)
            obtain ⟨hI, q57⟩ := q57
            refine lv_iload hx hb dX2_gather_125 (lv_at hl 0 rfl) ?_
            refine lv_if_le (tgt := 139) hx hb dX2_gather_127 (by decide) (fun c58 => ?_) (fun c58 => ?_)
            · have i58 := m_c3 (rfl : x5.toInt = _) (by decide : (0 : Int32).toInt = 0) c58
              refine lv_iload hx hb dX2_gather_139 (lv_at hl 0 rfl) ?_
              refine lv_iload_n hx hb dX2_gather_141 rfl (lv_at hl 5 rfl) ?_
              refine lv_iconst (v := 1) hx hb dX2_gather_142 (by decide) ?_
              refine lv_isub hx hb dX2_gather_143 ?_
              refine lv_topi (fun x59 ex59 => ?_)
              have tx59 : x59.toInt = y3.toInt - 1 := m_subI ex59 (rfl : y3.toInt = _) (by decide : (1 : Int32).toInt = 1) (by omega) (by omega)
              refine lv_icmp_ge (tgt := 156) hx hb dX2_gather_144 (by decide) (fun c60 => ?_) (fun c60 => ?_)
              · have i60 := m_c3 (rfl : x59.toInt = _) (rfl : x5.toInt = _) c60
                obtain ⟨x61, ex61⟩ : ∃ z : Int32, z = y4 + 1 := ⟨_, rfl⟩
                refine lv_iinc (v := x61) (lv' := [(4, .int x61), (6, .int x5), (5, .int x4), (0, .ref (b + 49)), (1, .ref (b + 41)), (2, .int k), (3, .int y3)]) hx hb dX2_gather_156 hl (k := 6) rfl (by rw [ex61]; rfl) (by decide) rfl (fun ls hl => ?_)
                have tx61 : x61.toInt = y4.toInt + 1 := m_addI ex61 (rfl : y4.toInt = _) (by decide : (1 : Int32).toInt = 1) (by omega) (by omega)
                refine lv_goto (tgt := 35) hx hb dX2_gather_159 (by decide) ?_
                exact ih y3 x61 (by omega) (by omega) μ57 hI _ _ hW ls (lv_sub hl [3, 4, 5, 6, 0] rfl)
              · have i60 := m_c4 (rfl : x59.toInt = _) (rfl : x5.toInt = _) c60
                refine lv_aload_n hx hb dX2_gather_147 rfl (lv_at hl 2 rfl) ?_
                refine lv_aload_n hx hb dX2_gather_148 rfl (lv_at hl 3 rfl) ?_
                refine lv_iload hx hb dX2_gather_149 (lv_at hl 1 rfl) ?_
                refine lv_iconst (v := 1) hx hb dX2_gather_151 (by decide) ?_
                refine lv_iadd hx hb dX2_gather_152 ?_
                refine lv_topi (fun x62 ex62 => ?_)
                have tx62 : x62.toInt = x4.toInt + 1 := m_addI ex62 (rfl : x4.toInt = _) (by decide : (1 : Int32).toInt = 1) (by omega) (by omega)
                refine m_aV hW (m_runV (As := [.ref (b + 41), .int x62]) (rest := []) hx hb hml hown hts hW (49) (g_X2_take_41 l D cy b S μ0 hS6 x62 μ57 hI) mi_X2_take k_X2_38 rfl rfl rfl hl.1 rfl (Nat.le_of_ble_eq_true rfl) dX2_gather_153 ⟨Nat.le_of_ble_eq_true rfl, Nat.le_of_ble_eq_true rfl⟩ ⟨Nat.le_of_ble_eq_true rfl, Nat.le_of_ble_eq_true rfl⟩) (fun μ63 H locs q63 hW => ?_)
                obtain ⟨hI, q63⟩ := q63
                obtain ⟨x64, ex64⟩ : ∃ z : Int32, z = y4 + 1 := ⟨_, rfl⟩
                refine lv_iinc (v := x64) (lv' := [(4, .int x64), (6, .int x5), (5, .int x4), (0, .ref (b + 49)), (1, .ref (b + 41)), (2, .int k), (3, .int y3)]) hx hb dX2_gather_156 hl (k := 6) rfl (by rw [ex64]; rfl) (by decide) rfl (fun ls hl => ?_)
                have tx64 : x64.toInt = y4.toInt + 1 := m_addI ex64 (rfl : y4.toInt = _) (by decide : (1 : Int32).toInt = 1) (by omega) (by omega)
                refine lv_goto (tgt := 35) hx hb dX2_gather_159 (by decide) ?_
                exact ih y3 x64 (by omega) (by omega) μ63 hI _ _ hW ls (lv_sub hl [3, 4, 5, 6, 0] rfl)
            · have i58 := m_c4 (rfl : x5.toInt = _) (by decide : (0 : Int32).toInt = 0) c58
              refine lv_aload_n hx hb dX2_gather_130 rfl (lv_at hl 2 rfl) ?_
              refine lv_aload_n hx hb dX2_gather_131 rfl (lv_at hl 3 rfl) ?_
              refine lv_iload hx hb dX2_gather_132 (lv_at hl 1 rfl) ?_
              refine lv_iconst (v := 1) hx hb dX2_gather_134 (by decide) ?_
              refine lv_isub hx hb dX2_gather_135 ?_
              refine lv_topi (fun x65 ex65 => ?_)
              have tx65 : x65.toInt = x4.toInt - 1 := m_subI ex65 (rfl : x4.toInt = _) (by decide : (1 : Int32).toInt = 1) (by omega) (by omega)
              refine m_aV hW (m_runV (As := [.ref (b + 41), .int x65]) (rest := []) hx hb hml hown hts hW (49) (g_X2_take_41 l D cy b S μ0 hS6 x65 μ57 hI) mi_X2_take k_X2_38 rfl rfl rfl hl.1 rfl (Nat.le_of_ble_eq_true rfl) dX2_gather_136 ⟨Nat.le_of_ble_eq_true rfl, Nat.le_of_ble_eq_true rfl⟩ ⟨Nat.le_of_ble_eq_true rfl, Nat.le_of_ble_eq_true rfl⟩) (fun μ66 H locs q66 hW => ?_)
              obtain ⟨hI, q66⟩ := q66
              refine lv_iload hx hb dX2_gather_139 (lv_at hl 0 rfl) ?_
              refine lv_iload_n hx hb dX2_gather_141 rfl (lv_at hl 5 rfl) ?_
              refine lv_iconst (v := 1) hx hb dX2_gather_142 (by decide) ?_
              refine lv_isub hx hb dX2_gather_143 ?_
              refine lv_topi (fun x67 ex67 => ?_)
              have tx67 : x67.toInt = y3.toInt - 1 := m_subI ex67 (rfl : y3.toInt = _) (by decide : (1 : Int32).toInt = 1) (by omega) (by omega)
              refine lv_icmp_ge (tgt := 156) hx hb dX2_gather_144 (by decide) (fun c68 => ?_) (fun c68 => ?_)
              · have i68 := m_c3 (rfl : x67.toInt = _) (rfl : x5.toInt = _) c68
                obtain ⟨x69, ex69⟩ : ∃ z : Int32, z = y4 + 1 := ⟨_, rfl⟩
                refine lv_iinc (v := x69) (lv' := [(4, .int x69), (6, .int x5), (5, .int x4), (0, .ref (b + 49)), (1, .ref (b + 41)), (2, .int k), (3, .int y3)]) hx hb dX2_gather_156 hl (k := 6) rfl (by rw [ex69]; rfl) (by decide) rfl (fun ls hl => ?_)
                have tx69 : x69.toInt = y4.toInt + 1 := m_addI ex69 (rfl : y4.toInt = _) (by decide : (1 : Int32).toInt = 1) (by omega) (by omega)
                refine lv_goto (tgt := 35) hx hb dX2_gather_159 (by decide) ?_
                exact ih y3 x69 (by omega) (by omega) μ66 hI _ _ hW ls (lv_sub hl [3, 4, 5, 6, 0] rfl)
              · have i68 := m_c4 (rfl : x67.toInt = _) (rfl : x5.toInt = _) c68
                refine lv_aload_n hx hb dX2_gather_147 rfl (lv_at hl 2 rfl) ?_
                refine lv_aload_n hx hb dX2_gather_148 rfl (lv_at hl 3 rfl) ?_
                refine lv_iload hx hb dX2_gather_149 (lv_at hl 1 rfl) ?_
                refine lv_iconst (v := 1) hx hb dX2_gather_151 (by decide) ?_
                refine lv_iadd hx hb dX2_gather_152 ?_
                refine lv_topi (fun x70 ex70 => ?_)
                have tx70 : x70.toInt = x4.toInt + 1 := m_addI ex70 (rfl : x4.toInt = _) (by decide : (1 : Int32).toInt = 1) (by omega) (by omega)
                refine m_aV hW (m_runV (As := [.ref (b + 41), .int x70]) (rest := []) hx hb hml hown hts hW (49) (g_X2_take_41 l D cy b S μ0 hS6 x70 μ66 hI) mi_X2_take k_X2_38 rfl rfl rfl hl.1 rfl (Nat.le_of_ble_eq_true rfl) dX2_gather_153 ⟨Nat.le_of_ble_eq_true rfl, Nat.le_of_ble_eq_true rfl⟩ ⟨Nat.le_of_ble_eq_true rfl, Nat.le_of_ble_eq_true rfl⟩) (fun μ71 H locs q71 hW => ?_)
                obtain ⟨hI, q71⟩ := q71
                obtain ⟨x72, ex72⟩ : ∃ z : Int32, z = y4 + 1 := ⟨_, rfl⟩
                refine lv_iinc (v := x72) (lv' := [(4, .int x72), (6, .int x5), (5, .int x4), (0, .ref (b + 49)), (1, .ref (b + 41)), (2, .int k), (3, .int y3)]) hx hb dX2_gather_156 hl (k := 6) rfl (by rw [ex72]; rfl) (by decide) rfl (fun ls hl => ?_)
                have tx72 : x72.toInt = y4.toInt + 1 := m_addI ex72 (rfl : y4.toInt = _) (by decide : (1 : Int32).toInt = 1) (by omega) (by omega)
                refine lv_goto (tgt := 35) hx hb dX2_gather_159 (by decide) ?_
                exact ih y3 x72 (by omega) (by omega) μ71 hI _ _ hW ls (lv_sub hl [3, 4, 5, 6, 0] rfl)
set_option maxHeartbeats 4000000 in
set_option maxRecDepth 100000 in
theorem g_X2_gather_41 (l : Launch) (D : va_G) (cy : Nat → ClassId) (b : Nat) (S : Nat → Bool) (μ0 : mM) (hS6 : S 6 = true) (k : Int32) (μ : mM) (hI : IY S μ0 μ) : m_Cv l yX2_gather cX2_gather 7 (none) 1 D cy b LAY μ [.ref (b + 49), .ref (b + 41), .int k] (fun ν => IY S μ0 ν ∧ (True)) := by
  unfold m_Cv
  refine m_of (by decide) (Nat.le_of_ble_eq_true rfl) ?_
  intro p e s m below meth c hx hb hr hml hown hts hlocks _ hW ls hl
  have hown : s.vm.findClass RX2 = some m.cls := hown
  have hl : lv_has ls 7 [(0, .ref (b + 49)), (1, .ref (b + 41)), (2, .int k)] := hl
  refine lv_aload_n hx hb dX2_gather_0 rfl (lv_at hl 0 rfl) ?_
  refine lv_iconst (v := 0) hx hb dX2_gather_1 (by decide) ?_
  refine m_puti hx hb hts hown hW (49) 2 rfl rfl cw_2 tyX2_ok nmX2 rfl (by decide) k_X2_18 rfl rfl rfl dX2_gather_2 (fun H locs hW _ => ?_)
  generalize hμ1 : m_si μ (49) 2 0 = μ1 at hW
  have hI := hI.si1 hμ1 rfl (by decide) hS6
  refine lv_aload_n hx hb dX2_gather_5 rfl (lv_at hl 0 rfl) ?_
  refine lv_iconst (v := 0) hx hb dX2_gather_6 (by decide) ?_
  refine m_puti hx hb hts hown hW (49) 3 rfl rfl cw_2 tyX2_ok nmX2 rfl (by decide) k_X2_22 rfl rfl rfl dX2_gather_7 (fun H locs hW _ => ?_)
  generalize hμ2 : m_si μ1 (49) 3 0 = μ2 at hW
  have hI := hI.si0 hμ2 rfl hS6
  refine lv_aload_n hx hb dX2_gather_10 rfl (lv_at hl 0 rfl) ?_
  refine lv_iconst (v := 0) hx hb dX2_gather_11 (by decide) ?_
  refine m_puti hx hb hts hown hW (49) 4 rfl rfl cw_2 tyX2_ok nmX2 rfl (by decide) k_X2_25 rfl (by decide) rfl dX2_gather_12 (fun H locs hW _ => ?_)
  generalize hμ3 : m_si μ2 (49) 4 0 = μ3 at hW
  have hI := hI.si1 hμ3 rfl (by decide) hS6
  refine lv_aload_n hx hb dX2_gather_15 rfl (lv_at hl 1 rfl) ?_
  refine m_geti hx hb hts hown hW (41) 0 rfl rfl cw_3 rfl (by decide) k_X2_35 dX2_gather_16 ?_
  refine lv_topi (fun x4 ex4 => ?_)
  have bx4 : 0 ≤ x4.toInt ∧ x4.toInt ≤ 16 := by rw [ex4]; exact hI.1 _ _ _ _ rfl
  refine lv_istore_n (lv' := [(3, .int x4), (0, .ref (b + 49)), (1, .ref (b + 41)), (2, .int k)]) hx hb dX2_gather_19 rfl hl (by decide) rfl (fun ls hl => ?_)
  refine lv_iload_n hx hb dX2_gather_20 rfl (lv_at hl 0 rfl) ?_
  refine lv_iconst (v := 1) hx hb dX2_gather_21 (by decide) ?_
  refine lv_icmp_ge (tgt := 26) hx hb dX2_gather_22 (by decide) (fun c5 => ?_) (fun c5 => ?_)
  · have i5 := m_c3 (by decide : (1 : Int32).toInt = 1) (rfl : x4.toInt = _) c5
    refine lv_aload_n hx hb dX2_gather_26 rfl (lv_at hl 1 rfl) ?_
    refine lv_aload_n hx hb dX2_gather_27 rfl (lv_at hl 2 rfl) ?_
    refine lv_iload_n hx hb dX2_gather_28 rfl (lv_at hl 3 rfl) ?_
    refine m_aV hW (m_runV (As := [.ref (b + 41), .int k]) (rest := []) hx hb hml hown hts hW (49) (g_X2_take_41 l D cy b S μ0 hS6 k μ3 hI) mi_X2_take k_X2_38 rfl rfl rfl hl.1 rfl (Nat.le_of_ble_eq_true rfl) dX2_gather_29 ⟨Nat.le_of_ble_eq_true rfl, Nat.le_of_ble_eq_true rfl⟩ ⟨Nat.le_of_ble_eq_true rfl, Nat.le_of_ble_eq_true rfl⟩) (fun μ6 H locs q6 hW => ?_)
    obtain ⟨hI, q6⟩ := q6
    refine lv_iconst (v := 0) hx hb dX2_gather_32 (by decide) ?_
    refine lv_istore (lv' := [(4, .int 0), (3, .int x4), (0, .ref (b + 49)), (1, .ref (b + 41)), (2, .int k)]) hx hb dX2_gather_33 hl (by decide) rfl (fun ls hl => ?_)
    have l_0 : (0 : Int32).toInt = 0 := by decide
    exact L_X2_gather_41_35 hx hb hr hml hown hts hlocks S μ0 hS6 k  193 x4 0 (by omega) (by omega) μ6 hI _ _ hW ls (lv_sub hl [2, 3, 4, 1, 0] rfl)
  · have i5 := m_c4 (by decide : (1 : Int32).toInt = 1) (rfl : x4.toInt = _) c5
    exact m_vret hx hb hr hlocks hW (⟨hI, trivial⟩) dX2_gather_25
set_option maxHeartbeats 4000000 in
set_option maxRecDepth 100000 in
theorem g_X3_giveHeat_41 (l : Launch) (D : va_G) (cy : Nat → ClassId) (b : Nat) (S : Nat → Bool) (μ0 : mM) (hS6 : S 6 = true) (k : Int32) (μ : mM) (hI : IY S μ0 μ) : m_Cv l yX3_giveHeat cX3_giveHeat 5 (none) 1 D cy b LAY μ [.ref (b + 41), .int k] (fun ν => IY S μ0 ν ∧ (True)) := by
  unfold m_Cv
  refine m_of (by decide) (Nat.le_of_ble_eq_true rfl) ?_
  intro p e s m below meth c hx hb hr hml hown hts hlocks _ hW ls hl
  have hown : s.vm.findClass RX3 = some m.cls := hown
  have hl : lv_has ls 5 [(0, .ref (b + 41)), (1, .int k)] := hl
  refine lv_aload_n hx hb dX3_giveHeat_0 rfl (lv_at hl 0 rfl) ?_
  refine m_aI hW (m_runV (As := []) (rest := []) hx hb hml hown hts hW (41) (g_X3_headPlace_41 l D cy b μ hI.1) mi_X3_headPlace k_X3_169 rfl rfl rfl hl.1 rfl (Nat.le_of_ble_eq_true rfl) dX3_giveHeat_1 ⟨Nat.le_of_ble_eq_true rfl, Nat.le_of_ble_eq_true rfl⟩ ⟨Nat.le_of_ble_eq_true rfl, Nat.le_of_ble_eq_true rfl⟩) (fun x1 μ1 H locs q1 hW => ?_)
  obtain ⟨q1_m, q1⟩ := q1
  subst q1_m
  refine lv_istore_n (lv' := [(2, .int x1), (0, .ref (b + 41)), (1, .int k)]) hx hb dX3_giveHeat_4 rfl hl (by decide) rfl (fun ls hl => ?_)
  refine lv_aload_n hx hb dX3_giveHeat_5 rfl (lv_at hl 1 rfl) ?_
  refine lv_iload_n hx hb dX3_giveHeat_6 rfl (lv_at hl 0 rfl) ?_
  refine m_aI hW (m_runV (As := [.int x1]) (rest := []) hx hb hml hown hts hW (41) (g_X3_isThere_41 l D cy b x1 μ hI.1) mi_X3_isThere k_X3_114 rfl rfl rfl hl.1 rfl (Nat.le_of_ble_eq_true rfl) dX3_giveHeat_7 ⟨Nat.le_of_ble_eq_true rfl, Nat.le_of_ble_eq_true rfl⟩ ⟨Nat.le_of_ble_eq_true rfl, Nat.le_of_ble_eq_true rfl⟩) (fun x2 μ2 H locs q2 hW => ?_)
  obtain ⟨q2_m, q2⟩ := q2
  subst q2_m
  rcases q2 with ⟨rfl, q2⟩ | ⟨rfl, q2⟩
  · refine lv_if_ne (tgt := 14) hx hb dX3_giveHeat_10 (by decide) (fun _ => ?_) (fun c => False.elim (by revert c; decide))
    refine lv_aload_n hx hb dX3_giveHeat_14 rfl (lv_at hl 1 rfl) ?_
    refine m_getr hx hb hts hown hW (41) 11 (43) rfl rfl cw_3 rfl (by decide) k_X3_50 dX3_giveHeat_15 ?_
    refine lv_iload_n hx hb dX3_giveHeat_18 rfl (lv_at hl 0 rfl) ?_
    refine m_iald hx hb hW (43) rfl (m_ixI (rfl : x1.toInt = _) (by omega) (by omega)) dX3_giveHeat_19 ?_
    refine lv_topi (fun x3 ex3 => ?_)
    refine lv_iload_n hx hb dX3_giveHeat_20 rfl (lv_at hl 2 rfl) ?_
    refine lv_iadd hx hb dX3_giveHeat_21 ?_
    refine lv_topi (fun x4 ex4 => ?_)
    refine lv_istore_n (lv' := [(3, .int x4), (2, .int x1), (0, .ref (b + 41)), (1, .int k)]) hx hb dX3_giveHeat_22 rfl hl (by decide) rfl (fun ls hl => ?_)
    refine lv_iconst (v := 0) hx hb dX3_giveHeat_23 (by decide) ?_
    refine lv_iload_n hx hb dX3_giveHeat_24 rfl (lv_at hl 0 rfl) ?_
    refine lv_ldc hx hb hown (hts _ k_X3_173) dX3_giveHeat_25 ?_
    refine lv_isub hx hb dX3_giveHeat_27 ?_
    refine lv_topi (fun x5 ex5 => ?_)
    refine va_mmax hx hb (hml.trans hl.1.symm) hown (hts _ k_X3_174) (hts _ kM_max_s) (hts _ kM_n) (hts _ kM_max_c) (Nat.le_of_ble_eq_true rfl) (Nat.le_of_ble_eq_true rfl) (Nat.le_of_ble_eq_true rfl) (Nat.le_of_ble_eq_true rfl) dX3_giveHeat_28 ?_
    refine lv_topi (fun x6 ex6 => ?_)
    have tx6 : x6.toInt = max (0) (x5.toInt) := m_max ex6 (by decide : (0 : Int32).toInt = 0) (rfl : x5.toInt = _)
    refine lv_istore (lv' := [(4, .int x6), (3, .int x4), (2, .int x1), (0, .ref (b + 41)), (1, .int k)]) hx hb dX3_giveHeat_31 hl (by decide) rfl (fun ls hl => ?_)
    refine lv_aload_n hx hb dX3_giveHeat_33 rfl (lv_at hl 3 rfl) ?_
    refine m_getr hx hb hts hown hW (41) 11 (43) rfl rfl cw_3 rfl (by decide) k_X3_50 dX3_giveHeat_34 ?_
    refine lv_iload_n hx hb dX3_giveHeat_37 rfl (lv_at hl 2 rfl) ?_
    refine lv_iload_n hx hb dX3_giveHeat_38 rfl (lv_at hl 1 rfl) ?_
    refine lv_iload hx hb dX3_giveHeat_39 (lv_at hl 0 rfl) ?_
    refine lv_isub hx hb dX3_giveHeat_41 ?_
    refine lv_topi (fun x7 ex7 => ?_)
    refine m_iast hx hb hW (43) rfl (m_ixI (rfl : x1.toInt = _) (by omega) (by omega)) dX3_giveHeat_42 (fun H locs hW _ => ?_)
    generalize hμ8 : m_si μ (43) (x1 : Int32).toNatClampNeg x7 = μ8 at hW
    have hI := hI.si0 hμ8 rfl hS6
    refine lv_aload_n hx hb dX3_giveHeat_43 rfl (lv_at hl 3 rfl) ?_
    refine lv_dup hx hb dX3_giveHeat_44 rfl ?_
    refine m_getl hx hb hts hown hW (41) 7 rfl rfl cw_3 rfl (by decide) k_X3_33 dX3_giveHeat_45 ?_
    refine lv_topl (fun x9 ex9 => ?_)
    refine lv_iload_n hx hb dX3_giveHeat_48 rfl (lv_at hl 4 rfl) ?_
    refine lv_i2l hx hb dX3_giveHeat_49 rfl ?_
    refine lv_topl (fun x10 ex10 => ?_)
    refine lv_ladd hx hb dX3_giveHeat_50 ?_
    refine lv_topl (fun x11 ex11 => ?_)
    refine m_putl hx hb hts hown hW (41) 7 rfl rfl cw_3 tyX3_ok nmX3 rfl (by decide) k_X3_33 rfl rfl rfl dX3_giveHeat_51 (fun H locs hW _ => ?_)
    generalize hμ12 : m_sl μ8 (41) 7 x11 = μ12 at hW
    have hI := hI.sl hμ12 hS6
    refine lv_aload_n hx hb dX3_giveHeat_54 rfl (lv_at hl 3 rfl) ?_
    refine lv_dup hx hb dX3_giveHeat_55 rfl ?_
    refine m_getl hx hb hts hown hW (41) 8 rfl rfl cw_3 rfl (by decide) k_X3_37 dX3_giveHeat_56 ?_
    refine lv_topl (fun x13 ex13 => ?_)
    refine lv_iload hx hb dX3_giveHeat_59 (lv_at hl 0 rfl) ?_
    refine lv_i2l hx hb dX3_giveHeat_61 rfl ?_
    refine lv_topl (fun x14 ex14 => ?_)
    refine lv_ladd hx hb dX3_giveHeat_62 ?_
    refine lv_topl (fun x15 ex15 => ?_)
    refine m_putl hx hb hts hown hW (41) 8 rfl rfl cw_3 tyX3_ok nmX3 rfl (by decide) k_X3_37 rfl rfl rfl dX3_giveHeat_63 (fun H locs hW _ => ?_)
    generalize hμ16 : m_sl μ12 (41) 8 x15 = μ16 at hW
    have hI := hI.sl hμ16 hS6
    exact m_vret hx hb hr hlocks hW (⟨hI, trivial⟩) dX3_giveHeat_66
  · refine lv_if_ne (tgt := 14) hx hb dX3_giveHeat_10 (by decide) (fun c => False.elim (by revert c; decide)) (fun _ => ?_)
    exact m_vret hx hb hr hlocks hW (⟨hI, trivial⟩) dX3_giveHeat_13
set_option maxHeartbeats 4000000 in
set_option maxRecDepth 100000 in
theorem g_X3_leadBetween_41 (l : Launch) (D : va_G) (cy : Nat → ClassId) (b : Nat) (S : Nat → Bool) (μ0 : mM) (hS6 : S 6 = true) (k u v : Int32) (h_k : 0 ≤ k.toInt ∧ k.toInt ≤ 191) (h_u : 0 ≤ u.toInt ∧ u.toInt ≤ 191) (μ : mM) (hI : IY S μ0 μ) : m_Cv l yX3_leadBetween cX3_leadBetween 5 (none) 0 D cy b LAY μ [.ref (b + 41), .int k, .int u, .int v] (fun ν => IY S μ0 ν ∧ (True)) := by
  unfold m_Cv
  refine m_of (by decide) (Nat.le_of_ble_eq_true rfl) ?_
  intro p e s m below meth c hx hb hr hml hown hts hlocks _ hW ls hl
  have hown : s.vm.findClass RX3 = some m.cls := hown
  have hl : lv_has ls 5 [(0, .ref (b + 41)), (1, .int k), (2, .int u), (3, .int v)] := hl
  refine lv_aload_n hx hb dX3_leadBetween_0 rfl (lv_at hl 0 rfl) ?_
  refine m_getr hx hb hts hown hW (41) 12 (44) rfl rfl cw_3 rfl (by decide) k_X3_54 dX3_leadBetween_1 ?_
  refine lv_iload_n hx hb dX3_leadBetween_4 rfl (lv_at hl 1 rfl) ?_
  refine m_iald hx hb hW (44) rfl (m_ixI (rfl : k.toInt = _) (by omega) (by omega)) dX3_leadBetween_5 ?_
  refine lv_topi (fun x1 ex1 => ?_)
  refine lv_if_ne (tgt := 60) hx hb dX3_leadBetween_6 (by decide) (fun c2 => ?_) (fun c2 => ?_)
  · have i2 := m_c6 (rfl : x1.toInt = _) (by decide : (0 : Int32).toInt = 0) c2
    exact m_vret hx hb hr hlocks hW (⟨hI, trivial⟩) dX3_leadBetween_60
  · have i2 := m_c5 (rfl : x1.toInt = _) (by decide : (0 : Int32).toInt = 0) c2
    refine lv_aload_n hx hb dX3_leadBetween_9 rfl (lv_at hl 0 rfl) ?_
    refine m_getr hx hb hts hown hW (41) 12 (44) rfl rfl cw_3 rfl (by decide) k_X3_54 dX3_leadBetween_10 ?_
    refine lv_iload_n hx hb dX3_leadBetween_13 rfl (lv_at hl 2 rfl) ?_
    refine m_iald hx hb hW (44) rfl (m_ixI (rfl : u.toInt = _) (by omega) (by omega)) dX3_leadBetween_14 ?_
    refine lv_topi (fun x3 ex3 => ?_)
    refine lv_if_ne (tgt := 60) hx hb dX3_leadBetween_15 (by decide) (fun c4 => ?_) (fun c4 => ?_)
    · have i4 := m_c6 (rfl : x3.toInt = _) (by decide : (0 : Int32).toInt = 0) c4
      exact m_vret hx hb hr hlocks hW (⟨hI, trivial⟩) dX3_leadBetween_60
    · have i4 := m_c5 (rfl : x3.toInt = _) (by decide : (0 : Int32).toInt = 0) c4
      refine lv_aload_n hx hb dX3_leadBetween_18 rfl (lv_at hl 0 rfl) ?_
      refine m_getr hx hb hts hown hW (41) 11 (43) rfl rfl cw_3 rfl (by decide) k_X3_50 dX3_leadBetween_19 ?_
      refine lv_iload_n hx hb dX3_leadBetween_22 rfl (lv_at hl 1 rfl) ?_
      refine m_iald hx hb hW (43) rfl (m_ixI (rfl : k.toInt = _) (by omega) (by omega)) dX3_leadBetween_23 ?_
      refine lv_topi (fun x5 ex5 => ?_)
      refine lv_aload_n hx hb dX3_leadBetween_24 rfl (lv_at hl 0 rfl) ?_
      refine m_getr hx hb hts hown hW (41) 11 (43) rfl rfl cw_3 rfl (by decide) k_X3_50 dX3_leadBetween_25 ?_
      refine lv_iload_n hx hb dX3_leadBetween_28 rfl (lv_at hl 2 rfl) ?_
      refine m_iald hx hb hW (43) rfl (m_ixI (rfl : u.toInt = _) (by omega) (by omega)) dX3_leadBetween_29 ?_
      refine lv_topi (fun x6 ex6 => ?_)
      refine lv_isub hx hb dX3_leadBetween_30 ?_
      refine lv_topi (fun x7 ex7 => ?_)
      refine lv_iload_n hx hb dX3_leadBetween_31 rfl (lv_at hl 3 rfl) ?_
      refine lv_imul hx hb dX3_leadBetween_32 ?_
      refine lv_topi (fun x8 ex8 => ?_)
      refine lv_bipush (v := 100) hx hb dX3_leadBetween_33 (by decide) ?_
      refine lv_idiv hx hb dX3_leadBetween_35 (by decide) ?_
      refine lv_topi (fun x9 ex9 => ?_)
      refine lv_istore (lv' := [(4, .int x9), (0, .ref (b + 41)), (1, .int k), (2, .int u), (3, .int v)]) hx hb dX3_leadBetween_36 hl (by decide) rfl (fun ls hl => ?_)
      refine lv_aload_n hx hb dX3_leadBetween_38 rfl (lv_at hl 1 rfl) ?_
      refine m_getr hx hb hts hown hW (41) 15 (47) rfl rfl cw_3 rfl (by decide) k_X3_63 dX3_leadBetween_39 ?_
      refine lv_iload_n hx hb dX3_leadBetween_42 rfl (lv_at hl 2 rfl) ?_
      refine lv_dup2_11 hx hb dX3_leadBetween_43 rfl rfl ?_
      refine m_iald hx hb hW (47) rfl (m_ixI (rfl : k.toInt = _) (by omega) (by omega)) dX3_leadBetween_44 ?_
      refine lv_topi (fun x10 ex10 => ?_)
      refine lv_iload hx hb dX3_leadBetween_45 (lv_at hl 0 rfl) ?_
      refine lv_isub hx hb dX3_leadBetween_47 ?_
      refine lv_topi (fun x11 ex11 => ?_)
      refine m_iast hx hb hW (47) rfl (m_ixI (rfl : k.toInt = _) (by omega) (by omega)) dX3_leadBetween_48 (fun H locs hW _ => ?_)
      generalize hμ12 : m_si μ (47) (k : Int32).toNatClampNeg x11 = μ12 at hW
      have hI := hI.si0 hμ12 rfl hS6
      refine lv_aload_n hx hb dX3_leadBetween_49 rfl (lv_at hl 1 rfl) ?_
      refine m_getr hx hb hts hown hW (41) 15 (47) rfl rfl cw_3 rfl (by decide) k_X3_63 dX3_leadBetween_50 ?_
      refine lv_iload_n hx hb dX3_leadBetween_53 rfl (lv_at hl 3 rfl) ?_
      refine lv_dup2_11 hx hb dX3_leadBetween_54 rfl rfl ?_
      refine m_iald hx hb hW (47) rfl (m_ixI (rfl : u.toInt = _) (by omega) (by omega)) dX3_leadBetween_55 ?_
      refine lv_topi (fun x13 ex13 => ?_)
      refine lv_iload hx hb dX3_leadBetween_56 (lv_at hl 0 rfl) ?_
      refine lv_iadd hx hb dX3_leadBetween_58 ?_
      refine lv_topi (fun x14 ex14 => ?_)
      refine m_iast hx hb hW (47) rfl (m_ixI (rfl : u.toInt = _) (by omega) (by omega)) dX3_leadBetween_59 (fun H locs hW _ => ?_)
      generalize hμ15 : m_si μ12 (47) (u : Int32).toNatClampNeg x14 = μ15 at hW
      have hI := hI.si0 hμ15 rfl hS6
      exact m_vret hx hb hr hlocks hW (⟨hI, trivial⟩) dX3_leadBetween_60
set_option maxHeartbeats 4000000 in
set_option maxRecDepth 100000 in
theorem L_X3_leadHeat_41_142 {p : Program} {l : Launch} {e : Env} {s : State} {m : MethodId} {args : Array Value} {below : List Frame} {meth : Method} {c : Code} {D : va_G} {cy : Nat → ClassId} {b : Nat} (hx : p.tables.exec = Jvm.exec) (hb : c.code = cX3_leadHeat) (hr : meth.sig.returnType = (none)) (hml : c.maxLocals = 5) (hown : s.vm.findClass RX3 = some m.cls) (hts : ∀ w ∈ TB, w.before args s = true) (hlocks : meth.locks = false) (S : Nat → Bool) (μ0 : mM) (hS6 : S 6 = true) (v : Int32) : ∀ (f : Nat), ∀ (y2 : Int32) (hy : 0 ≤ y2.toInt ∧ y2.toInt ≤ 192) (hf : 192 - y2.toInt < (f : Int)) (μ : mM) (hI : IY S μ0 μ) (H : Heap) (locs : List Loc), m_WA (m_A b LAY) D cy s b LAY μ H locs → ∀ ls : Array Slot, lv_has ls 5 [(0, .ref (b + 41)), (1, .int v), (2, .int y2)] → W p l e (m_R 1 0 0) s m args below meth c H locs 0 0 (MQ below (m_Qv D cy b LAY (fun ν => IY S μ0 ν ∧ (True))) args s 0 0 (m_A b LAY)) (F0 m 142 ls []) := by
  intro f
  induction f with
  | zero => intro y2 hy hf; exfalso; omega
  | succ f ih =>
    intro y2 hy hf μ hI H locs hW ls hl
    refine lv_iload_n hx hb dX3_leadHeat_142 rfl (lv_at hl 2 rfl) ?_
    refine lv_aload_n hx hb dX3_leadHeat_143 rfl (lv_at hl 0 rfl) ?_
    refine m_geti hx hb hts hown hW (41) 2 rfl rfl cw_3 rfl (by decide) k_X3_18 dX3_leadHeat_144 ?_
    refine lv_topi (fun x1 ex1 => ?_)
    have bx1 : 0 ≤ x1.toInt ∧ x1.toInt ≤ 192 := by rw [ex1]; exact hI.1 _ _ _ _ rfl
    refine lv_icmp_ge (tgt := 178) hx hb dX3_leadHeat_147 (by decide) (fun c2 => ?_) (fun c2 => ?_)
    · have i2 := m_c3 (rfl : x1.toInt = _) (rfl : y2.toInt = _) c2
      exact m_vret hx hb hr hlocks hW (⟨hI, trivial⟩) dX3_leadHeat_178
    · have i2 := m_c4 (rfl : x1.toInt = _) (rfl : y2.toInt = _) c2
      refine lv_aload_n hx hb dX3_leadHeat_150 rfl (lv_at hl 0 rfl) ?_
      refine m_getr hx hb hts hown hW (41) 11 (43) rfl rfl cw_3 rfl (by decide) k_X3_50 dX3_leadHeat_151 ?_
      refine lv_iload_n hx hb dX3_leadHeat_154 rfl (lv_at hl 2 rfl) ?_
      refine lv_dup2_11 hx hb dX3_leadHeat_155 rfl rfl ?_
      refine m_iald hx hb hW (43) rfl (m_ixI (rfl : y2.toInt = _) (by omega) (by omega)) dX3_leadHeat_156 ?_
      refine lv_topi (fun x3 ex3 => ?_)
      refine lv_aload_n hx hb dX3_leadHeat_157 rfl (lv_at hl 0 rfl) ?_
      refine m_getr hx hb hts hown hW (41) 15 (47) rfl rfl cw_3 rfl (by decide) k_X3_63 dX3_leadHeat_158 ?_
      refine lv_iload_n hx hb dX3_leadHeat_161 rfl (lv_at hl 2 rfl) ?_
      refine m_iald hx hb hW (47) rfl (m_ixI (rfl : y2.toInt = _) (by omega) (by omega)) dX3_leadHeat_162 ?_
      refine lv_topi (fun x4 ex4 => ?_)
      refine lv_iadd hx hb dX3_leadHeat_163 ?_
      refine lv_topi (fun x5 ex5 => ?_)
      refine m_iast hx hb hW (43) rfl (m_ixI (rfl : y2.toInt = _) (by omega) (by omega)) dX3_leadHeat_164 (fun H locs hW _ => ?_)
      generalize hμ6 : m_si μ (43) (y2 : Int32).toNatClampNeg x5 = μ6 at hW
      have hI := hI.si0 hμ6 rfl hS6
      refine lv_aload_n hx hb dX3_leadHeat_165 rfl (lv_at hl 0 rfl) ?_
      refine m_getr hx hb hts hown hW (41) 15 (47) rfl rfl cw_3 rfl (by decide) k_X3_63 dX3_leadHeat_166 ?_
      refine lv_iload_n hx hb dX3_leadHeat_169 rfl (lv_at hl 2 rfl) ?_
      refine lv_iconst (v := 0) hx hb dX3_leadHeat_170 (by decide) ?_
      refine m_iast hx hb hW (47) rfl (m_ixI (rfl : y2.toInt = _) (by omega) (by omega)) dX3_leadHeat_171 (fun H locs hW _ => ?_)
      generalize hμ7 : m_si μ6 (47) (y2 : Int32).toNatClampNeg 0 = μ7 at hW
      have hI := hI.si0 hμ7 rfl hS6
      obtain ⟨x8, ex8⟩ : ∃ z : Int32, z = y2 + 1 := ⟨_, rfl⟩
      refine lv_iinc (v := x8) (lv' := [(2, .int x8), (0, .ref (b + 41)), (1, .int v)]) hx hb dX3_leadHeat_172 hl (k := 2) rfl (by rw [ex8]; rfl) (by decide) rfl (fun ls hl => ?_)
      have tx8 : x8.toInt = y2.toInt + 1 := m_addI ex8 (rfl : y2.toInt = _) (by decide : (1 : Int32).toInt = 1) (by omega) (by omega)
      refine lv_goto (tgt := 142) hx hb dX3_leadHeat_175 (by decide) ?_
      exact ih x8 (by omega) (by omega) μ7 hI _ _ hW ls (lv_sub hl [1, 2, 0] rfl)
set_option maxHeartbeats 4000000 in
set_option maxRecDepth 100000 in
theorem L_X3_leadHeat_41_34 {p : Program} {l : Launch} {e : Env} {s : State} {m : MethodId} {args : Array Value} {below : List Frame} {meth : Method} {c : Code} {D : va_G} {cy : Nat → ClassId} {b : Nat} (hx : p.tables.exec = Jvm.exec) (hb : c.code = cX3_leadHeat) (hr : meth.sig.returnType = (none)) (hml : c.maxLocals = 5) (hown : s.vm.findClass RX3 = some m.cls) (hts : ∀ w ∈ TB, w.before args s = true) (hlocks : meth.locks = false) (S : Nat → Bool) (μ0 : mM) (hS6 : S 6 = true) (v : Int32) (F2 : Nat) (O2 : ∀ (y2 : Int32) (hy : 0 ≤ y2.toInt ∧ y2.toInt ≤ 12) (hf : 12 - y2.toInt < (F2 : Int)) (μ : mM) (hI : IY S μ0 μ) (H : Heap) (locs : List Loc), m_WA (m_A b LAY) D cy s b LAY μ H locs → ∀ ls : Array Slot, lv_has ls 5 [(0, .ref (b + 41)), (1, .int v), (2, .int y2)] → W p l e (m_R 1 0 0) s m args below meth c H locs 0 0 (MQ below (m_Qv D cy b LAY (fun ν => IY S μ0 ν ∧ (True))) args s 0 0 (m_A b LAY)) (F0 m 2 ls [])) : ∀ (f : Nat), ∀ (y2 y3 y4 : Int32) (hy : 12 - y2.toInt < (F2 : Int) + 1 ∧ 0 ≤ y2.toInt ∧ y2.toInt ≤ 11 ∧ 0 ≤ y3.toInt ∧ y3.toInt ≤ 192 ∧ 0 ≤ y4.toInt ∧ y4.toInt ≤ 192 ∧ 0 ≤ y2.toInt ∧ y2.toInt ≤ 12) (hf : 192 - y4.toInt < (f : Int)) (μ : mM) (hI : IY S μ0 μ) (H : Heap) (locs : List Loc), m_WA (m_A b LAY) D cy s b LAY μ H locs → ∀ ls : Array Slot, lv_has ls 5 [(0, .ref (b + 41)), (1, .int v), (2, .int y2), (3, .int y3), (4, .int y4)] → W p l e (m_R 1 0 0) s m args below meth c H locs 0 0 (MQ below (m_Qv D cy b LAY (fun ν => IY S μ0 ν ∧ (True))) args s 0 0 (m_A b LAY)) (F0 m 34 ls []) := by
  intro f
  induction f with
  | zero => intro y2 y3 y4 hy hf; exfalso; omega
  | succ f ih =>
    intro y2 y3 y4 hy hf μ hI H locs hW ls hl
    refine lv_iload hx hb dX3_leadHeat_34 (lv_at hl 4 rfl) ?_
    refine lv_iload_n hx hb dX3_leadHeat_36 rfl (lv_at hl 3 rfl) ?_
    refine lv_icmp_ge (tgt := 134) hx hb dX3_leadHeat_37 (by decide) (fun c1 => ?_) (fun c1 => ?_)
    · have i1 := m_c3 (rfl : y3.toInt = _) (rfl : y4.toInt = _) c1
      obtain ⟨x2, ex2⟩ : ∃ z : Int32, z = y2 + 1 := ⟨_, rfl⟩
      refine lv_iinc (v := x2) (lv' := [(2, .int x2), (0, .ref (b + 41)), (1, .int v), (3, .int y3), (4, .int y4)]) hx hb dX3_leadHeat_134 hl (k := 2) rfl (by rw [ex2]; rfl) (by decide) rfl (fun ls hl => ?_)
      have tx2 : x2.toInt = y2.toInt + 1 := m_addI ex2 (rfl : y2.toInt = _) (by decide : (1 : Int32).toInt = 1) (by omega) (by omega)
      refine lv_goto (tgt := 2) hx hb dX3_leadHeat_137 (by decide) ?_
      exact O2 x2 (by omega) (by omega) μ hI _ _ hW ls (lv_sub hl [1, 2, 0] rfl)
    · have i1 := m_c4 (rfl : y3.toInt = _) (rfl : y4.toInt = _) c1
      refine lv_iload hx hb dX3_leadHeat_40 (lv_at hl 4 rfl) ?_
      refine lv_iconst (v := 1) hx hb dX3_leadHeat_42 (by decide) ?_
      refine lv_iadd hx hb dX3_leadHeat_43 ?_
      refine lv_topi (fun x3 ex3 => ?_)
      have tx3 : x3.toInt = y4.toInt + 1 := m_addI ex3 (rfl : y4.toInt = _) (by decide : (1 : Int32).toInt = 1) (by omega) (by omega)
      refine lv_iload_n hx hb dX3_leadHeat_44 rfl (lv_at hl 3 rfl) ?_
      refine lv_icmp_ge (tgt := 78) hx hb dX3_leadHeat_45 (by decide) (fun c4 => ?_) (fun c4 => ?_)
      · have i4 := m_c3 (rfl : y3.toInt = _) (rfl : x3.toInt = _) c4
        refine lv_iload hx hb dX3_leadHeat_78 (lv_at hl 4 rfl) ?_
        refine lv_aload_n hx hb dX3_leadHeat_80 rfl (lv_at hl 0 rfl) ?_
        refine m_geti hx hb hts hown hW (41) 0 rfl rfl cw_3 rfl (by decide) k_X3_11 dX3_leadHeat_81 ?_
        refine lv_topi (fun x5 ex5 => ?_)
        have bx5 : 0 ≤ x5.toInt ∧ x5.toInt ≤ 16 := by rw [ex5]; exact hI.1 _ _ _ _ rfl
        refine lv_iadd hx hb dX3_leadHeat_84 ?_
        refine lv_topi (fun x6 ex6 => ?_)
        have tx6 : x6.toInt = y4.toInt + x5.toInt := m_addI ex6 (rfl : y4.toInt = _) (rfl : x5.toInt = _) (by omega) (by omega)
        refine lv_aload_n hx hb dX3_leadHeat_85 rfl (lv_at hl 0 rfl) ?_
        refine m_geti hx hb hts hown hW (41) 2 rfl rfl cw_3 rfl (by decide) k_X3_18 dX3_leadHeat_86 ?_
        refine lv_topi (fun x7 ex7 => ?_)
        have bx7 : 0 ≤ x7.toInt ∧ x7.toInt ≤ 192 := by rw [ex7]; exact hI.1 _ _ _ _ rfl
        refine lv_icmp_ge (tgt := 128) hx hb dX3_leadHeat_89 (by decide) (fun c8 => ?_) (fun c8 => ?_)
        · have i8 := m_c3 (rfl : x7.toInt = _) (rfl : x6.toInt = _) c8
          obtain ⟨x9, ex9⟩ : ∃ z : Int32, z = y4 + 1 := ⟨_, rfl⟩
          refine lv_iinc (v := x9) (lv' := [(4, .int x9), (0, .ref (b + 41)), (1, .int v), (2, .int y2), (3, .int y3)]) hx hb dX3_leadHeat_128 hl (k := 4) rfl (by rw [ex9]; rfl) (by decide) rfl (fun ls hl => ?_)
          have tx9 : x9.toInt = y4.toInt + 1 := m_addI ex9 (rfl : y4.toInt = _) (by decide : (1 : Int32).toInt = 1) (by omega) (by omega)
          refine lv_goto (tgt := 34) hx hb dX3_leadHeat_131 (by decide) ?_
          exact ih y2 y3 x9 (by omega) (by omega) μ hI _ _ hW ls (lv_sub hl [1, 2, 3, 4, 0] rfl)
        · have i8 := m_c4 (rfl : x7.toInt = _) (rfl : x6.toInt = _) c8
          refine lv_aload_n hx hb dX3_leadHeat_92 rfl (lv_at hl 0 rfl) ?_
          refine m_getr hx hb hts hown hW (41) 11 (43) rfl rfl cw_3 rfl (by decide) k_X3_50 dX3_leadHeat_93 ?_
          refine lv_iload hx hb dX3_leadHeat_96 (lv_at hl 4 rfl) ?_
          refine m_iald hx hb hW (43) rfl (m_ixI (rfl : y4.toInt = _) (by omega) (by omega)) dX3_leadHeat_98 ?_
          refine lv_topi (fun x10 ex10 => ?_)
          refine lv_aload_n hx hb dX3_leadHeat_99 rfl (lv_at hl 0 rfl) ?_
          refine m_getr hx hb hts hown hW (41) 11 (43) rfl rfl cw_3 rfl (by decide) k_X3_50 dX3_leadHeat_100 ?_
          refine lv_iload hx hb dX3_leadHeat_103 (lv_at hl 4 rfl) ?_
          refine lv_aload_n hx hb dX3_leadHeat_105 rfl (lv_at hl 0 rfl) ?_
          refine m_geti hx hb hts hown hW (41) 0 rfl rfl cw_3 rfl (by decide) k_X3_11 dX3_leadHeat_106 ?_
          refine lv_topi (fun x11 ex11 => ?_)
          have ex11 : x11 = x5 := by rw [ex11]; exact ex5.symm
          have ex11 := ex11.symm
          subst ex11
          refine lv_iadd hx hb dX3_leadHeat_109 ?_
          refine lv_topi (fun x12 ex12 => ?_)
          have ex12 : x12 = x6 := ex12.trans ex6.symm
          have ex12 := ex12.symm
          subst ex12
          refine m_iald hx hb hW (43) rfl (m_ixI (rfl : x6.toInt = _) (by omega) (by omega)) dX3_leadHeat_110 ?_
          refine lv_topi (fun x13 ex13 => ?_)
          refine lv_icmp_eq (tgt := 128) hx hb dX3_leadHeat_111 (by decide) (fun c14 => ?_) (fun c14 => ?_)
          · have i14 := m_c5 (rfl : x10.toInt = _) (rfl : x13.toInt = _) c14
            obtain ⟨x15, ex15⟩ : ∃ z : Int32, z = y4 + 1 := ⟨_, rfl⟩
            refine lv_iinc (v := x15) (lv' := [(4, .int x15), (0, .ref (b + 41)), (1, .int v), (2, .int y2), (3, .int y3)]) hx hb dX3_leadHeat_128 hl (k := 4) rfl (by rw [ex15]; rfl) (by decide) rfl (fun ls hl => ?_)
            have tx15 : x15.toInt = y4.toInt + 1 := m_addI ex15 (rfl : y4.toInt = _) (by decide : (1 : Int32).toInt = 1) (by omega) (by omega)
            refine lv_goto (tgt := 34) hx hb dX3_leadHeat_131 (by decide) ?_
            exact ih y2 y3 x15 (by omega) (by omega) μ hI _ _ hW ls (lv_sub hl [1, 2, 3, 4, 0] rfl)
          · have i14 := m_c6 (rfl : x10.toInt = _) (rfl : x13.toInt = _) c14
            refine lv_aload_n hx hb dX3_leadHeat_114 rfl (lv_at hl 0 rfl) ?_
            refine lv_iload hx hb dX3_leadHeat_115 (lv_at hl 4 rfl) ?_
            refine lv_iload hx hb dX3_leadHeat_117 (lv_at hl 4 rfl) ?_
            refine lv_aload_n hx hb dX3_leadHeat_119 rfl (lv_at hl 0 rfl) ?_
            refine m_geti hx hb hts hown hW (41) 0 rfl rfl cw_3 rfl (by decide) k_X3_11 dX3_leadHeat_120 ?_
            refine lv_topi (fun x16 ex16 => ?_)
            have ex16 : x16 = x5 := by rw [ex16]; exact ex5.symm
            have ex16 := ex16.symm
            subst ex16
            refine lv_iadd hx hb dX3_leadHeat_123 ?_
            refine lv_topi (fun x17 ex17 => ?_)
            have ex17 : x17 = x6 := ex17.trans ex6.symm
            have ex17 := ex17.symm
            subst ex17
            refine lv_iload_n hx hb dX3_leadHeat_124 rfl (lv_at hl 1 rfl) ?_
            refine m_aV hW (m_runV (As := [.int y4, .int x6, .int v]) (rest := []) hx hb hml hown hts hW (41) (g_X3_leadBetween_41 l D cy b S μ0 hS6 y4 x6 v (by omega) (by omega) μ hI) mi_X3_leadBetween k_X3_177 rfl rfl rfl hl.1 rfl (Nat.le_of_ble_eq_true rfl) dX3_leadHeat_125 ⟨Nat.le_of_ble_eq_true rfl, Nat.le_of_ble_eq_true rfl⟩ ⟨Nat.le_of_ble_eq_true rfl, Nat.le_of_ble_eq_true rfl⟩) (fun μ18 H locs q18 hW => ?_)
            obtain ⟨hI, q18⟩ := q18
            obtain ⟨x19, ex19⟩ : ∃ z : Int32, z = y4 + 1 := ⟨_, rfl⟩
            refine lv_iinc (v := x19) (lv' := [(4, .int x19), (0, .ref (b + 41)), (1, .int v), (2, .int y2), (3, .int y3)]) hx hb dX3_leadHeat_128 hl (k := 4) rfl (by rw [ex19]; rfl) (by decide) rfl (fun ls hl => ?_)
            have tx19 : x19.toInt = y4.toInt + 1 := m_addI ex19 (rfl : y4.toInt = _) (by decide : (1 : Int32).toInt = 1) (by omega) (by omega)
            refine lv_goto (tgt := 34) hx hb dX3_leadHeat_131 (by decide) ?_
            exact ih y2 y3 x19 (by omega) (by omega) μ18 hI _ _ hW ls (lv_sub hl [1, 2, 3, 4, 0] rfl)
      · have i4 := m_c4 (rfl : y3.toInt = _) (rfl : x3.toInt = _) c4
        refine lv_aload_n hx hb dX3_leadHeat_48 rfl (lv_at hl 0 rfl) ?_
        refine m_getr hx hb hts hown hW (41) 11 (43) rfl rfl cw_3 rfl (by decide) k_X3_50 dX3_leadHeat_49 ?_
        refine lv_iload hx hb dX3_leadHeat_52 (lv_at hl 4 rfl) ?_
        refine m_iald hx hb hW (43) rfl (m_ixI (rfl : y4.toInt = _) (by omega) (by omega)) dX3_leadHeat_54 ?_
        refine lv_topi (fun x20 ex20 => ?_)
        refine lv_aload_n hx hb dX3_leadHeat_55 rfl (lv_at hl 0 rfl) ?_
        refine m_getr hx hb hts hown hW (41) 11 (43) rfl rfl cw_3 rfl (by decide) k_X3_50 dX3_leadHeat_56 ?_
        refine lv_iload hx hb dX3_leadHeat_59 (lv_at hl 4 rfl) ?_
        refine lv_iconst (v := 1) hx hb dX3_leadHeat_61 (by decide) ?_
        refine lv_iadd hx hb dX3_leadHeat_62 ?_
        refine lv_topi (fun x21 ex21 => ?_)
        have ex21 : x21 = x3 := ex21.trans ex3.symm
        have ex21 := ex21.symm
        subst ex21
        refine m_iald hx hb hW (43) rfl (m_ixI (rfl : x3.toInt = _) (by omega) (by omega)) dX3_leadHeat_63 ?_
        refine lv_topi (fun x22 ex22 => ?_)
        refine lv_icmp_eq (tgt := 78) hx hb dX3_leadHeat_64 (by decide) (fun c23 => ?_) (fun c23 => ?_)
        · have i23 := m_c5 (rfl : x20.toInt = _) (rfl : x22.toInt = _) c23
          refine lv_iload hx hb dX3_leadHeat_78 (lv_at hl 4 rfl) ?_
          refine lv_aload_n hx hb dX3_leadHeat_80 rfl (lv_at hl 0 rfl) ?_
          refine m_geti hx hb hts hown hW (41) 0 rfl rfl cw_3 rfl (by decide) k_X3_11 dX3_leadHeat_81 ?_
          refine lv_topi (fun x24 ex24 => ?_)
          have bx24 : 0 ≤ x24.toInt ∧ x24.toInt ≤ 16 := by rw [ex24]; exact hI.1 _ _ _ _ rfl
          refine lv_iadd hx hb dX3_leadHeat_84 ?_
          refine lv_topi (fun x25 ex25 => ?_)
          have tx25 : x25.toInt = y4.toInt + x24.toInt := m_addI ex25 (rfl : y4.toInt = _) (rfl : x24.toInt = _) (by omega) (by omega)
          refine lv_aload_n hx hb dX3_leadHeat_85 rfl (lv_at hl 0 rfl) ?_
          refine m_geti hx hb hts hown hW (41) 2 rfl rfl cw_3 rfl (by decide) k_X3_18 dX3_leadHeat_86 ?_
          refine lv_topi (fun x26 ex26 => ?_)
          have bx26 : 0 ≤ x26.toInt ∧ x26.toInt ≤ 192 := by rw [ex26]; exact hI.1 _ _ _ _ rfl
          refine lv_icmp_ge (tgt := 128) hx hb dX3_leadHeat_89 (by decide) (fun c27 => ?_) (fun c27 => ?_)
          · have i27 := m_c3 (rfl : x26.toInt = _) (rfl : x25.toInt = _) c27
            obtain ⟨x28, ex28⟩ : ∃ z : Int32, z = y4 + 1 := ⟨_, rfl⟩
            refine lv_iinc (v := x28) (lv' := [(4, .int x28), (0, .ref (b + 41)), (1, .int v), (2, .int y2), (3, .int y3)]) hx hb dX3_leadHeat_128 hl (k := 4) rfl (by rw [ex28]; rfl) (by decide) rfl (fun ls hl => ?_)
            have tx28 : x28.toInt = y4.toInt + 1 := m_addI ex28 (rfl : y4.toInt = _) (by decide : (1 : Int32).toInt = 1) (by omega) (by omega)
            refine lv_goto (tgt := 34) hx hb dX3_leadHeat_131 (by decide) ?_
            exact ih y2 y3 x28 (by omega) (by omega) μ hI _ _ hW ls (lv_sub hl [1, 2, 3, 4, 0] rfl)
          · have i27 := m_c4 (rfl : x26.toInt = _) (rfl : x25.toInt = _) c27
            refine lv_aload_n hx hb dX3_leadHeat_92 rfl (lv_at hl 0 rfl) ?_
            refine m_getr hx hb hts hown hW (41) 11 (43) rfl rfl cw_3 rfl (by decide) k_X3_50 dX3_leadHeat_93 ?_
            refine lv_iload hx hb dX3_leadHeat_96 (lv_at hl 4 rfl) ?_
            refine m_iald hx hb hW (43) rfl (m_ixI (rfl : y4.toInt = _) (by omega) (by omega)) dX3_leadHeat_98 ?_
            refine lv_topi (fun x29 ex29 => ?_)
            have ex29 : x29 = x20 := by rw [ex29]; exact ex20.symm
            have ex29 := ex29.symm
            subst ex29
            refine lv_aload_n hx hb dX3_leadHeat_99 rfl (lv_at hl 0 rfl) ?_
            refine m_getr hx hb hts hown hW (41) 11 (43) rfl rfl cw_3 rfl (by decide) k_X3_50 dX3_leadHeat_100 ?_
            refine lv_iload hx hb dX3_leadHeat_103 (lv_at hl 4 rfl) ?_
            refine lv_aload_n hx hb dX3_leadHeat_105 rfl (lv_at hl 0 rfl) ?_
            refine m_geti hx hb hts hown hW (41) 0 rfl rfl cw_3 rfl (by decide) k_X3_11 dX3_leadHeat_106 ?_
            refine lv_topi (fun x30 ex30 => ?_)
            have ex30 : x30 = x24 := by rw [ex30]; exact ex24.symm
            have ex30 := ex30.symm
            subst ex30
            refine lv_iadd hx hb dX3_leadHeat_109 ?_
            refine lv_topi (fun x31 ex31 => ?_)
            have ex31 : x31 = x25 := ex31.trans ex25.symm
            have ex31 := ex31.symm
            subst ex31
            refine m_iald hx hb hW (43) rfl (m_ixI (rfl : x25.toInt = _) (by omega) (by omega)) dX3_leadHeat_110 ?_
            refine lv_topi (fun x32 ex32 => ?_)
            refine lv_icmp_eq (tgt := 128) hx hb dX3_leadHeat_111 (by decide) (fun c33 => ?_) (fun c33 => ?_)
            · have i33 := m_c5 (rfl : x20.toInt = _) (rfl : x32.toInt = _) c33
              obtain ⟨x34, ex34⟩ : ∃ z : Int32, z = y4 + 1 := ⟨_, rfl⟩
              refine lv_iinc (v := x34) (lv' := [(4, .int x34), (0, .ref (b + 41)), (1, .int v), (2, .int y2), (3, .int y3)]) hx hb dX3_leadHeat_128 hl (k := 4) rfl (by rw [ex34]; rfl) (by decide) rfl (fun ls hl => ?_)
              have tx34 : x34.toInt = y4.toInt + 1 := m_addI ex34 (rfl : y4.toInt = _) (by decide : (1 : Int32).toInt = 1) (by omega) (by omega)
              refine lv_goto (tgt := 34) hx hb dX3_leadHeat_131 (by decide) ?_
              exact ih y2 y3 x34 (by omega) (by omega) μ hI _ _ hW ls (lv_sub hl [1, 2, 3, 4, 0] rfl)
            · have i33 := m_c6 (rfl : x20.toInt = _) (rfl : x32.toInt = _) c33
              refine lv_aload_n hx hb dX3_leadHeat_114 rfl (lv_at hl 0 rfl) ?_
              refine lv_iload hx hb dX3_leadHeat_115 (lv_at hl 4 rfl) ?_
              refine lv_iload hx hb dX3_leadHeat_117 (lv_at hl 4 rfl) ?_
              refine lv_aload_n hx hb dX3_leadHeat_119 rfl (lv_at hl 0 rfl) ?_
              refine m_geti hx hb hts hown hW (41) 0 rfl rfl cw_3 rfl (by decide) k_X3_11 dX3_leadHeat_120 ?_
              refine lv_topi (fun x35 ex35 => ?_)
              have ex35 : x35 = x24 := by rw [ex35]; exact ex24.symm
              have ex35 := ex35.symm
              subst ex35
              refine lv_iadd hx hb dX3_leadHeat_123 ?_
              refine lv_topi (fun x36 ex36 => ?_)
              have ex36 : x36 = x25 := ex36.trans ex25.symm
              have ex36 := ex36.symm
              subst ex36
              refine lv_iload_n hx hb dX3_leadHeat_124 rfl (lv_at hl 1 rfl) ?_
              refine m_aV hW (m_runV (As := [.int y4, .int x25, .int v]) (rest := []) hx hb hml hown hts hW (41) (g_X3_leadBetween_41 l D cy b S μ0 hS6 y4 x25 v (by omega) (by omega) μ hI) mi_X3_leadBetween k_X3_177 rfl rfl rfl hl.1 rfl (Nat.le_of_ble_eq_true rfl) dX3_leadHeat_125 ⟨Nat.le_of_ble_eq_true rfl, Nat.le_of_ble_eq_true rfl⟩ ⟨Nat.le_of_ble_eq_true rfl, Nat.le_of_ble_eq_true rfl⟩) (fun μ37 H locs q37 hW => ?_)
              obtain ⟨hI, q37⟩ := q37
              obtain ⟨x38, ex38⟩ : ∃ z : Int32, z = y4 + 1 := ⟨_, rfl⟩
              refine lv_iinc (v := x38) (lv' := [(4, .int x38), (0, .ref (b + 41)), (1, .int v), (2, .int y2), (3, .int y3)]) hx hb dX3_leadHeat_128 hl (k := 4) rfl (by rw [ex38]; rfl) (by decide) rfl (fun ls hl => ?_)
              have tx38 : x38.toInt = y4.toInt + 1 := m_addI ex38 (rfl : y4.toInt = _) (by decide : (1 : Int32).toInt = 1) (by omega) (by omega)
              refine lv_goto (tgt := 34) hx hb dX3_leadHeat_131 (by decide) ?_
              exact ih y2 y3 x38 (by omega) (by omega) μ37 hI _ _ hW ls (lv_sub hl [1, 2, 3, 4, 0] rfl)
        · have i23 := m_c6 (rfl : x20.toInt = _) (rfl : x22.toInt = _) c23
          refine lv_aload_n hx hb dX3_leadHeat_67 rfl (lv_at hl 0 rfl) ?_
          refine lv_iload hx hb dX3_leadHeat_68 (lv_at hl 4 rfl) ?_
          refine lv_iload hx hb dX3_leadHeat_70 (lv_at hl 4 rfl) ?_
          refine lv_iconst (v := 1) hx hb dX3_leadHeat_72 (by decide) ?_
          refine lv_iadd hx hb dX3_leadHeat_73 ?_
          refine lv_topi (fun x39 ex39 => ?_)
          have ex39 : x39 = x3 := ex39.trans ex3.symm
          have ex39 := ex39.symm
          subst ex39
          refine lv_iload_n hx hb dX3_leadHeat_74 rfl (lv_at hl 1 rfl) ?_
          refine m_aV hW (m_runV (As := [.int y4, .int x3, .int v]) (rest := []) hx hb hml hown hts hW (41) (g_X3_leadBetween_41 l D cy b S μ0 hS6 y4 x3 v (by omega) (by omega) μ hI) mi_X3_leadBetween k_X3_177 rfl rfl rfl hl.1 rfl (Nat.le_of_ble_eq_true rfl) dX3_leadHeat_75 ⟨Nat.le_of_ble_eq_true rfl, Nat.le_of_ble_eq_true rfl⟩ ⟨Nat.le_of_ble_eq_true rfl, Nat.le_of_ble_eq_true rfl⟩) (fun μ40 H locs q40 hW => ?_)
          obtain ⟨hI, q40⟩ := q40
          refine lv_iload hx hb dX3_leadHeat_78 (lv_at hl 4 rfl) ?_
          refine lv_aload_n hx hb dX3_leadHeat_80 rfl (lv_at hl 0 rfl) ?_
          refine m_geti hx hb hts hown hW (41) 0 rfl rfl cw_3 rfl (by decide) k_X3_11 dX3_leadHeat_81 ?_
          refine lv_topi (fun x41 ex41 => ?_)
          have bx41 : 0 ≤ x41.toInt ∧ x41.toInt ≤ 16 := by rw [ex41]; exact hI.1 _ _ _ _ rfl
          refine lv_iadd hx hb dX3_leadHeat_84 ?_
          refine lv_topi (fun x42 ex42 => ?_)
          have tx42 : x42.toInt = y4.toInt + x41.toInt := m_addI ex42 (rfl : y4.toInt = _) (rfl : x41.toInt = _) (by omega) (by omega)
          refine lv_aload_n hx hb dX3_leadHeat_85 rfl (lv_at hl 0 rfl) ?_
          refine m_geti hx hb hts hown hW (41) 2 rfl rfl cw_3 rfl (by decide) k_X3_18 dX3_leadHeat_86 ?_
          refine lv_topi (fun x43 ex43 => ?_)
          have bx43 : 0 ≤ x43.toInt ∧ x43.toInt ≤ 192 := by rw [ex43]; exact hI.1 _ _ _ _ rfl
          refine lv_icmp_ge (tgt := 128) hx hb dX3_leadHeat_89 (by decide) (fun c44 => ?_) (fun c44 => ?_)
          · have i44 := m_c3 (rfl : x43.toInt = _) (rfl : x42.toInt = _) c44
            obtain ⟨x45, ex45⟩ : ∃ z : Int32, z = y4 + 1 := ⟨_, rfl⟩
            refine lv_iinc (v := x45) (lv' := [(4, .int x45), (0, .ref (b + 41)), (1, .int v), (2, .int y2), (3, .int y3)]) hx hb dX3_leadHeat_128 hl (k := 4) rfl (by rw [ex45]; rfl) (by decide) rfl (fun ls hl => ?_)
            have tx45 : x45.toInt = y4.toInt + 1 := m_addI ex45 (rfl : y4.toInt = _) (by decide : (1 : Int32).toInt = 1) (by omega) (by omega)
            refine lv_goto (tgt := 34) hx hb dX3_leadHeat_131 (by decide) ?_
            exact ih y2 y3 x45 (by omega) (by omega) μ40 hI _ _ hW ls (lv_sub hl [1, 2, 3, 4, 0] rfl)
          · have i44 := m_c4 (rfl : x43.toInt = _) (rfl : x42.toInt = _) c44
            refine lv_aload_n hx hb dX3_leadHeat_92 rfl (lv_at hl 0 rfl) ?_
            refine m_getr hx hb hts hown hW (41) 11 (43) rfl rfl cw_3 rfl (by decide) k_X3_50 dX3_leadHeat_93 ?_
            refine lv_iload hx hb dX3_leadHeat_96 (lv_at hl 4 rfl) ?_
            refine m_iald hx hb hW (43) rfl (m_ixI (rfl : y4.toInt = _) (by omega) (by omega)) dX3_leadHeat_98 ?_
            refine lv_topi (fun x46 ex46 => ?_)
            refine lv_aload_n hx hb dX3_leadHeat_99 rfl (lv_at hl 0 rfl) ?_
            refine m_getr hx hb hts hown hW (41) 11 (43) rfl rfl cw_3 rfl (by decide) k_X3_50 dX3_leadHeat_100 ?_
            refine lv_iload hx hb dX3_leadHeat_103 (lv_at hl 4 rfl) ?_
            refine lv_aload_n hx hb dX3_leadHeat_105 rfl (lv_at hl 0 rfl) ?_
            refine m_geti hx hb hts hown hW (41) 0 rfl rfl cw_3 rfl (by decide) k_X3_11 dX3_leadHeat_106 ?_
            refine lv_topi (fun x47 ex47 => ?_)
            have ex47 : x47 = x41 := by rw [ex47]; exact ex41.symm
            have ex47 := ex47.symm
            subst ex47
            refine lv_iadd hx hb dX3_leadHeat_109 ?_
            refine lv_topi (fun x48 ex48 => ?_)
            have ex48 : x48 = x42 := ex48.trans ex42.symm
            have ex48 := ex48.symm
            subst ex48
            refine m_iald hx hb hW (43) rfl (m_ixI (rfl : x42.toInt = _) (by omega) (by omega)) dX3_leadHeat_110 ?_
            refine lv_topi (fun x49 ex49 => ?_)
            refine lv_icmp_eq (tgt := 128) hx hb dX3_leadHeat_111 (by decide) (fun c50 => ?_) (fun c50 => ?_)
            · have i50 := m_c5 (rfl : x46.toInt = _) (rfl : x49.toInt = _) c50
              obtain ⟨x51, ex51⟩ : ∃ z : Int32, z = y4 + 1 := ⟨_, rfl⟩
              refine lv_iinc (v := x51) (lv' := [(4, .int x51), (0, .ref (b + 41)), (1, .int v), (2, .int y2), (3, .int y3)]) hx hb dX3_leadHeat_128 hl (k := 4) rfl (by rw [ex51]; rfl) (by decide) rfl (fun ls hl => ?_)
              have tx51 : x51.toInt = y4.toInt + 1 := m_addI ex51 (rfl : y4.toInt = _) (by decide : (1 : Int32).toInt = 1) (by omega) (by omega)
              refine lv_goto (tgt := 34) hx hb dX3_leadHeat_131 (by decide) ?_
              exact ih y2 y3 x51 (by omega) (by omega) μ40 hI _ _ hW ls (lv_sub hl [1, 2, 3, 4, 0] rfl)
            · have i50 := m_c6 (rfl : x46.toInt = _) (rfl : x49.toInt = _) c50
              refine lv_aload_n hx hb dX3_leadHeat_114 rfl (lv_at hl 0 rfl) ?_
              refine lv_iload hx hb dX3_leadHeat_115 (lv_at hl 4 rfl) ?_
              refine lv_iload hx hb dX3_leadHeat_117 (lv_at hl 4 rfl) ?_
              refine lv_aload_n hx hb dX3_leadHeat_119 rfl (lv_at hl 0 rfl) ?_
              refine m_geti hx hb hts hown hW (41) 0 rfl rfl cw_3 rfl (by decide) k_X3_11 dX3_leadHeat_120 ?_
              refine lv_topi (fun x52 ex52 => ?_)
              have ex52 : x52 = x41 := by rw [ex52]; exact ex41.symm
              have ex52 := ex52.symm
              subst ex52
              refine lv_iadd hx hb dX3_leadHeat_123 ?_
              refine lv_topi (fun x53 ex53 => ?_)
              have ex53 : x53 = x42 := ex53.trans ex42.symm
              have ex53 := ex53.symm
              subst ex53
              refine lv_iload_n hx hb dX3_leadHeat_124 rfl (lv_at hl 1 rfl) ?_
              refine m_aV hW (m_runV (As := [.int y4, .int x42, .int v]) (rest := []) hx hb hml hown hts hW (41) (g_X3_leadBetween_41 l D cy b S μ0 hS6 y4 x42 v (by omega) (by omega) μ40 hI) mi_X3_leadBetween k_X3_177 rfl rfl rfl hl.1 rfl (Nat.le_of_ble_eq_true rfl) dX3_leadHeat_125 ⟨Nat.le_of_ble_eq_true rfl, Nat.le_of_ble_eq_true rfl⟩ ⟨Nat.le_of_ble_eq_true rfl, Nat.le_of_ble_eq_true rfl⟩) (fun μ54 H locs q54 hW => ?_)
              obtain ⟨hI, q54⟩ := q54
              obtain ⟨x55, ex55⟩ : ∃ z : Int32, z = y4 + 1 := ⟨_, rfl⟩
              refine lv_iinc (v := x55) (lv' := [(4, .int x55), (0, .ref (b + 41)), (1, .int v), (2, .int y2), (3, .int y3)]) hx hb dX3_leadHeat_128 hl (k := 4) rfl (by rw [ex55]; rfl) (by decide) rfl (fun ls hl => ?_)
              have tx55 : x55.toInt = y4.toInt + 1 := m_addI ex55 (rfl : y4.toInt = _) (by decide : (1 : Int32).toInt = 1) (by omega) (by omega)
              refine lv_goto (tgt := 34) hx hb dX3_leadHeat_131 (by decide) ?_
              exact ih y2 y3 x55 (by omega) (by omega) μ54 hI _ _ hW ls (lv_sub hl [1, 2, 3, 4, 0] rfl)
set_option maxHeartbeats 4000000 in
set_option maxRecDepth 100000 in
theorem L_X3_leadHeat_41_2 {p : Program} {l : Launch} {e : Env} {s : State} {m : MethodId} {args : Array Value} {below : List Frame} {meth : Method} {c : Code} {D : va_G} {cy : Nat → ClassId} {b : Nat} (hx : p.tables.exec = Jvm.exec) (hb : c.code = cX3_leadHeat) (hr : meth.sig.returnType = (none)) (hml : c.maxLocals = 5) (hown : s.vm.findClass RX3 = some m.cls) (hts : ∀ w ∈ TB, w.before args s = true) (hlocks : meth.locks = false) (S : Nat → Bool) (μ0 : mM) (hS6 : S 6 = true) (v : Int32) : ∀ (f : Nat), ∀ (y2 : Int32) (hy : 0 ≤ y2.toInt ∧ y2.toInt ≤ 12) (hf : 12 - y2.toInt < (f : Int)) (μ : mM) (hI : IY S μ0 μ) (H : Heap) (locs : List Loc), m_WA (m_A b LAY) D cy s b LAY μ H locs → ∀ ls : Array Slot, lv_has ls 5 [(0, .ref (b + 41)), (1, .int v), (2, .int y2)] → W p l e (m_R 1 0 0) s m args below meth c H locs 0 0 (MQ below (m_Qv D cy b LAY (fun ν => IY S μ0 ν ∧ (True))) args s 0 0 (m_A b LAY)) (F0 m 2 ls []) := by
  intro f
  induction f with
  | zero => intro y2 hy hf; exfalso; omega
  | succ f ih =>
    intro y2 hy hf μ hI H locs hW ls hl
    refine lv_iload_n hx hb dX3_leadHeat_2 rfl (lv_at hl 2 rfl) ?_
    refine lv_aload_n hx hb dX3_leadHeat_3 rfl (lv_at hl 0 rfl) ?_
    refine m_geti hx hb hts hown hW (41) 1 rfl rfl cw_3 rfl (by decide) k_X3_15 dX3_leadHeat_4 ?_
    refine lv_topi (fun x1 ex1 => ?_)
    have bx1 : 0 ≤ x1.toInt ∧ x1.toInt ≤ 12 := by rw [ex1]; exact hI.1 _ _ _ _ rfl
    refine lv_icmp_ge (tgt := 140) hx hb dX3_leadHeat_7 (by decide) (fun c2 => ?_) (fun c2 => ?_)
    · have i2 := m_c3 (rfl : x1.toInt = _) (rfl : y2.toInt = _) c2
      refine lv_iconst (v := 0) hx hb dX3_leadHeat_140 (by decide) ?_
      refine lv_istore_n (lv' := [(2, .int 0), (0, .ref (b + 41)), (1, .int v)]) hx hb dX3_leadHeat_141 rfl hl (by decide) rfl (fun ls hl => ?_)
      have l_0 : (0 : Int32).toInt = 0 := by decide
      exact L_X3_leadHeat_41_142 hx hb hr hml hown hts hlocks S μ0 hS6 v  193 0 (by omega) (by omega) μ hI _ _ hW ls (lv_sub hl [1, 2, 0] rfl)
    · have i2 := m_c4 (rfl : x1.toInt = _) (rfl : y2.toInt = _) c2
      refine lv_iload_n hx hb dX3_leadHeat_10 rfl (lv_at hl 2 rfl) ?_
      refine lv_iconst (v := 1) hx hb dX3_leadHeat_11 (by decide) ?_
      refine lv_iadd hx hb dX3_leadHeat_12 ?_
      refine lv_topi (fun x3 ex3 => ?_)
      have tx3 : x3.toInt = y2.toInt + 1 := m_addI ex3 (rfl : y2.toInt = _) (by decide : (1 : Int32).toInt = 1) (by omega) (by omega)
      refine lv_aload_n hx hb dX3_leadHeat_13 rfl (lv_at hl 0 rfl) ?_
      refine m_geti hx hb hts hown hW (41) 0 rfl rfl cw_3 rfl (by decide) k_X3_11 dX3_leadHeat_14 ?_
      refine lv_topi (fun x4 ex4 => ?_)
      have bx4 : 0 ≤ x4.toInt ∧ x4.toInt ≤ 16 := by rw [ex4]; exact hI.1 _ _ _ _ rfl
      refine lv_imul hx hb dX3_leadHeat_17 ?_
      refine lv_topi (fun x5 ex5 => ?_)
      have bx5 : 0 ≤ x5.toInt ∧ x5.toInt ≤ 192 := m_mulB (a := 12) (c := 16) ex5 (rfl : x3.toInt = _) (rfl : x4.toInt = _) (by omega) (by omega) (by decide) (by decide)
      refine lv_aload_n hx hb dX3_leadHeat_18 rfl (lv_at hl 0 rfl) ?_
      refine m_geti hx hb hts hown hW (41) 2 rfl rfl cw_3 rfl (by decide) k_X3_18 dX3_leadHeat_19 ?_
      refine lv_topi (fun x6 ex6 => ?_)
      have bx6 : 0 ≤ x6.toInt ∧ x6.toInt ≤ 192 := by rw [ex6]; exact hI.1 _ _ _ _ rfl
      refine va_mmin hx hb (hml.trans hl.1.symm) hown (hts _ k_X3_76) (hts _ kM_min_s) (hts _ kM_n) (hts _ kM_min_c) (Nat.le_of_ble_eq_true rfl) (Nat.le_of_ble_eq_true rfl) (Nat.le_of_ble_eq_true rfl) (Nat.le_of_ble_eq_true rfl) dX3_leadHeat_22 ?_
      refine lv_topi (fun x7 ex7 => ?_)
      have tx7 : x7.toInt = min (x5.toInt) (x6.toInt) := m_min ex7 (rfl : x5.toInt = _) (rfl : x6.toInt = _)
      refine lv_istore_n (lv' := [(3, .int x7), (0, .ref (b + 41)), (1, .int v), (2, .int y2)]) hx hb dX3_leadHeat_25 rfl hl (by decide) rfl (fun ls hl => ?_)
      refine lv_iload_n hx hb dX3_leadHeat_26 rfl (lv_at hl 3 rfl) ?_
      refine lv_aload_n hx hb dX3_leadHeat_27 rfl (lv_at hl 1 rfl) ?_
      refine m_geti hx hb hts hown hW (41) 0 rfl rfl cw_3 rfl (by decide) k_X3_11 dX3_leadHeat_28 ?_
      refine lv_topi (fun x8 ex8 => ?_)
      have ex8 : x8 = x4 := by rw [ex8]; exact ex4.symm
      have ex8 := ex8.symm
      subst ex8
      refine lv_imul hx hb dX3_leadHeat_31 ?_
      refine lv_topi (fun x9 ex9 => ?_)
      have bx9 : 0 ≤ x9.toInt ∧ x9.toInt ≤ 176 := m_mulB (a := 11) (c := 16) ex9 (rfl : y2.toInt = _) (rfl : x4.toInt = _) (by omega) (by omega) (by decide) (by decide)
      refine lv_istore (lv' := [(4, .int x9), (3, .int x7), (0, .ref (b + 41)), (1, .int v), (2, .int y2)]) hx hb dX3_leadHeat_32 hl (by decide) rfl (fun ls hl => ?_)
      exact L_X3_leadHeat_41_34 hx hb hr hml hown hts hlocks S μ0 hS6 v f ih 193 y2 x7 x9 (by omega) (by omega) μ hI _ _ hW ls (lv_sub hl [2, 3, 4, 1, 0] rfl)
set_option maxHeartbeats 4000000 in
set_option maxRecDepth 100000 in
theorem g_X3_leadHeat_41 (l : Launch) (D : va_G) (cy : Nat → ClassId) (b : Nat) (S : Nat → Bool) (μ0 : mM) (hS6 : S 6 = true) (v : Int32) (μ : mM) (hI : IY S μ0 μ) : m_Cv l yX3_leadHeat cX3_leadHeat 5 (none) 1 D cy b LAY μ [.ref (b + 41), .int v] (fun ν => IY S μ0 ν ∧ (True)) := by
  unfold m_Cv
  refine m_of (by decide) (Nat.le_of_ble_eq_true rfl) ?_
  intro p e s m below meth c hx hb hr hml hown hts hlocks _ hW ls hl
  have hown : s.vm.findClass RX3 = some m.cls := hown
  have hl : lv_has ls 5 [(0, .ref (b + 41)), (1, .int v)] := hl
  refine lv_iconst (v := 0) hx hb dX3_leadHeat_0 (by decide) ?_
  refine lv_istore_n (lv' := [(2, .int 0), (0, .ref (b + 41)), (1, .int v)]) hx hb dX3_leadHeat_1 rfl hl (by decide) rfl (fun ls hl => ?_)
  have l_0 : (0 : Int32).toInt = 0 := by decide
  exact L_X3_leadHeat_41_2 hx hb hr hml hown hts hlocks S μ0 hS6 v  13 0 (by omega) (by omega) μ hI _ _ hW ls (lv_sub hl [1, 2, 0] rfl)
set_option maxHeartbeats 4000000 in
set_option maxRecDepth 100000 in
theorem L_X3_loseHeat_41_2 {p : Program} {l : Launch} {e : Env} {s : State} {m : MethodId} {args : Array Value} {below : List Frame} {meth : Method} {c : Code} {D : va_G} {cy : Nat → ClassId} {b : Nat} (hx : p.tables.exec = Jvm.exec) (hb : c.code = cX3_loseHeat) (hr : meth.sig.returnType = (none)) (hml : c.maxLocals = 4) (hown : s.vm.findClass RX3 = some m.cls) (hts : ∀ w ∈ TB, w.before args s = true) (hlocks : meth.locks = false) (S : Nat → Bool) (μ0 : mM) (hS6 : S 6 = true) (v : Int32) : ∀ (f : Nat), ∀ (y2 : Int32) (hy : 0 ≤ y2.toInt ∧ y2.toInt ≤ 192) (hf : 192 - y2.toInt < (f : Int)) (μ : mM) (hI : IY S μ0 μ) (H : Heap) (locs : List Loc), m_WA (m_A b LAY) D cy s b LAY μ H locs → ∀ ls : Array Slot, lv_has ls 4 [(0, .ref (b + 41)), (1, .int v), (2, .int y2)] → W p l e (m_R 0 0 0) s m args below meth c H locs 0 0 (MQ below (m_Qv D cy b LAY (fun ν => IY S μ0 ν ∧ (True))) args s 0 0 (m_A b LAY)) (F0 m 2 ls []) := by
  intro f
  induction f with
  | zero => intro y2 hy hf; exfalso; omega
  | succ f ih =>
    intro y2 hy hf μ hI H locs hW ls hl
    refine lv_iload_n hx hb dX3_loseHeat_2 rfl (lv_at hl 2 rfl) ?_
    refine lv_aload_n hx hb dX3_loseHeat_3 rfl (lv_at hl 0 rfl) ?_
    refine m_geti hx hb hts hown hW (41) 2 rfl rfl cw_3 rfl (by decide) k_X3_18 dX3_loseHeat_4 ?_
    refine lv_topi (fun x1 ex1 => ?_)
    have bx1 : 0 ≤ x1.toInt ∧ x1.toInt ≤ 192 := by rw [ex1]; exact hI.1 _ _ _ _ rfl
    refine lv_icmp_ge (tgt := 49) hx hb dX3_loseHeat_7 (by decide) (fun c2 => ?_) (fun c2 => ?_)
    · have i2 := m_c3 (rfl : x1.toInt = _) (rfl : y2.toInt = _) c2
      exact m_vret hx hb hr hlocks hW (⟨hI, trivial⟩) dX3_loseHeat_49
    · have i2 := m_c4 (rfl : x1.toInt = _) (rfl : y2.toInt = _) c2
      refine lv_aload_n hx hb dX3_loseHeat_10 rfl (lv_at hl 0 rfl) ?_
      refine m_getr hx hb hts hown hW (41) 11 (43) rfl rfl cw_3 rfl (by decide) k_X3_50 dX3_loseHeat_11 ?_
      refine lv_iload_n hx hb dX3_loseHeat_14 rfl (lv_at hl 2 rfl) ?_
      refine m_iald hx hb hW (43) rfl (m_ixI (rfl : y2.toInt = _) (by omega) (by omega)) dX3_loseHeat_15 ?_
      refine lv_topi (fun x3 ex3 => ?_)
      refine lv_iload_n hx hb dX3_loseHeat_16 rfl (lv_at hl 1 rfl) ?_
      refine lv_imul hx hb dX3_loseHeat_17 ?_
      refine lv_topi (fun x4 ex4 => ?_)
      refine lv_bipush (v := 100) hx hb dX3_loseHeat_18 (by decide) ?_
      refine lv_idiv hx hb dX3_loseHeat_20 (by decide) ?_
      refine lv_topi (fun x5 ex5 => ?_)
      refine lv_istore_n (lv' := [(3, .int x5), (0, .ref (b + 41)), (1, .int v), (2, .int y2)]) hx hb dX3_loseHeat_21 rfl hl (by decide) rfl (fun ls hl => ?_)
      refine lv_aload_n hx hb dX3_loseHeat_22 rfl (lv_at hl 1 rfl) ?_
      refine m_getr hx hb hts hown hW (41) 11 (43) rfl rfl cw_3 rfl (by decide) k_X3_50 dX3_loseHeat_23 ?_
      refine lv_iload_n hx hb dX3_loseHeat_26 rfl (lv_at hl 3 rfl) ?_
      refine lv_dup2_11 hx hb dX3_loseHeat_27 rfl rfl ?_
      refine m_iald hx hb hW (43) rfl (m_ixI (rfl : y2.toInt = _) (by omega) (by omega)) dX3_loseHeat_28 ?_
      refine lv_topi (fun x6 ex6 => ?_)
      have ex6 : x6 = x3 := by rw [ex6]; exact ex3.symm
      have ex6 := ex6.symm
      subst ex6
      refine lv_iload_n hx hb dX3_loseHeat_29 rfl (lv_at hl 0 rfl) ?_
      refine lv_isub hx hb dX3_loseHeat_30 ?_
      refine lv_topi (fun x7 ex7 => ?_)
      refine m_iast hx hb hW (43) rfl (m_ixI (rfl : y2.toInt = _) (by omega) (by omega)) dX3_loseHeat_31 (fun H locs hW _ => ?_)
      generalize hμ8 : m_si μ (43) (y2 : Int32).toNatClampNeg x7 = μ8 at hW
      have hI := hI.si0 hμ8 rfl hS6
      refine lv_aload_n hx hb dX3_loseHeat_32 rfl (lv_at hl 1 rfl) ?_
      refine lv_dup hx hb dX3_loseHeat_33 rfl ?_
      refine m_getl hx hb hts hown hW (41) 8 rfl rfl cw_3 rfl (by decide) k_X3_37 dX3_loseHeat_34 ?_
      refine lv_topl (fun x9 ex9 => ?_)
      refine lv_iload_n hx hb dX3_loseHeat_37 rfl (lv_at hl 0 rfl) ?_
      refine lv_i2l hx hb dX3_loseHeat_38 rfl ?_
      refine lv_topl (fun x10 ex10 => ?_)
      refine lv_ladd hx hb dX3_loseHeat_39 ?_
      refine lv_topl (fun x11 ex11 => ?_)
      refine m_putl hx hb hts hown hW (41) 8 rfl rfl cw_3 tyX3_ok nmX3 rfl (by decide) k_X3_37 rfl rfl rfl dX3_loseHeat_40 (fun H locs hW _ => ?_)
      generalize hμ12 : m_sl μ8 (41) 8 x11 = μ12 at hW
      have hI := hI.sl hμ12 hS6
      obtain ⟨x13, ex13⟩ : ∃ z : Int32, z = y2 + 1 := ⟨_, rfl⟩
      refine lv_iinc (v := x13) (lv' := [(2, .int x13), (3, .int x5), (0, .ref (b + 41)), (1, .int v)]) hx hb dX3_loseHeat_43 hl (k := 3) rfl (by rw [ex13]; rfl) (by decide) rfl (fun ls hl => ?_)
      have tx13 : x13.toInt = y2.toInt + 1 := m_addI ex13 (rfl : y2.toInt = _) (by decide : (1 : Int32).toInt = 1) (by omega) (by omega)
      refine lv_goto (tgt := 2) hx hb dX3_loseHeat_46 (by decide) ?_
      exact ih x13 (by omega) (by omega) μ12 hI _ _ hW ls (lv_sub hl [2, 3, 0] rfl)
set_option maxHeartbeats 4000000 in
set_option maxRecDepth 100000 in
theorem g_X3_loseHeat_41 (l : Launch) (D : va_G) (cy : Nat → ClassId) (b : Nat) (S : Nat → Bool) (μ0 : mM) (hS6 : S 6 = true) (v : Int32) (μ : mM) (hI : IY S μ0 μ) : m_Cv l yX3_loseHeat cX3_loseHeat 4 (none) 0 D cy b LAY μ [.ref (b + 41), .int v] (fun ν => IY S μ0 ν ∧ (True)) := by
  unfold m_Cv
  refine m_of (by decide) (Nat.le_of_ble_eq_true rfl) ?_
  intro p e s m below meth c hx hb hr hml hown hts hlocks _ hW ls hl
  have hown : s.vm.findClass RX3 = some m.cls := hown
  have hl : lv_has ls 4 [(0, .ref (b + 41)), (1, .int v)] := hl
  refine lv_iconst (v := 0) hx hb dX3_loseHeat_0 (by decide) ?_
  refine lv_istore_n (lv' := [(2, .int 0), (0, .ref (b + 41)), (1, .int v)]) hx hb dX3_loseHeat_1 rfl hl (by decide) rfl (fun ls hl => ?_)
  have l_0 : (0 : Int32).toInt = 0 := by decide
  exact L_X3_loseHeat_41_2 hx hb hr hml hown hts hlocks S μ0 hS6 v  193 0 (by omega) (by omega) μ hI _ _ hW ls (lv_sub hl [1, 2, 0] rfl)
set_option maxHeartbeats 4000000 in
set_option maxRecDepth 100000 in
theorem g_X3_takeAway_41 (l : Launch) (D : va_G) (cy : Nat → ClassId) (b : Nat) (S : Nat → Bool) (μ0 : mM) (hS6 : S 6 = true) (k u : Int32) (h_k : 0 ≤ k.toInt ∧ k.toInt ≤ 191) (μ : mM) (hI : IY S μ0 μ) : m_Cv l yX3_takeAway cX3_takeAway 3 (none) 0 D cy b LAY μ [.ref (b + 41), .int k, .int u] (fun ν => IY S μ0 ν ∧ (True)) := by
  unfold m_Cv
  refine m_of (by decide) (Nat.le_of_ble_eq_true rfl) ?_
  intro p e s m below meth c hx hb hr hml hown hts hlocks _ hW ls hl
  have hown : s.vm.findClass RX3 = some m.cls := hown
  have hl : lv_has ls 3 [(0, .ref (b + 41)), (1, .int k), (2, .int u)] := hl
  refine lv_aload_n hx hb dX3_takeAway_0 rfl (lv_at hl 0 rfl) ?_
  refine lv_dup hx hb dX3_takeAway_1 rfl ?_
  refine m_getl hx hb hts hown hW (41) 9 rfl rfl cw_3 rfl (by decide) k_X3_40 dX3_takeAway_2 ?_
  refine lv_topl (fun x1 ex1 => ?_)
  refine lv_aload_n hx hb dX3_takeAway_5 rfl (lv_at hl 0 rfl) ?_
  refine m_getr hx hb hts hown hW (41) 11 (43) rfl rfl cw_3 rfl (by decide) k_X3_50 dX3_takeAway_6 ?_
  refine lv_iload_n hx hb dX3_takeAway_9 rfl (lv_at hl 1 rfl) ?_
  refine m_iald hx hb hW (43) rfl (m_ixI (rfl : k.toInt = _) (by omega) (by omega)) dX3_takeAway_10 ?_
  refine lv_topi (fun x2 ex2 => ?_)
  refine lv_i2l hx hb dX3_takeAway_11 rfl ?_
  refine lv_topl (fun x3 ex3 => ?_)
  refine lv_ladd hx hb dX3_takeAway_12 ?_
  refine lv_topl (fun x4 ex4 => ?_)
  refine m_putl hx hb hts hown hW (41) 9 rfl rfl cw_3 tyX3_ok nmX3 rfl (by decide) k_X3_40 rfl rfl rfl dX3_takeAway_13 (fun H locs hW _ => ?_)
  generalize hμ5 : m_sl μ (41) 9 x4 = μ5 at hW
  have hI := hI.sl hμ5 hS6
  refine lv_aload_n hx hb dX3_takeAway_16 rfl (lv_at hl 0 rfl) ?_
  refine m_getr hx hb hts hown hW (41) 11 (43) rfl rfl cw_3 rfl (by decide) k_X3_50 dX3_takeAway_17 ?_
  refine lv_iload_n hx hb dX3_takeAway_20 rfl (lv_at hl 1 rfl) ?_
  refine lv_iconst (v := 0) hx hb dX3_takeAway_21 (by decide) ?_
  refine m_iast hx hb hW (43) rfl (m_ixI (rfl : k.toInt = _) (by omega) (by omega)) dX3_takeAway_22 (fun H locs hW _ => ?_)
  generalize hμ6 : m_si μ5 (43) (k : Int32).toNatClampNeg 0 = μ6 at hW
  have hI := hI.si0 hμ6 rfl hS6
  refine lv_aload_n hx hb dX3_takeAway_23 rfl (lv_at hl 0 rfl) ?_
  refine m_getr hx hb hts hown hW (41) 12 (44) rfl rfl cw_3 rfl (by decide) k_X3_54 dX3_takeAway_24 ?_
  refine lv_iload_n hx hb dX3_takeAway_27 rfl (lv_at hl 1 rfl) ?_
  refine lv_iload_n hx hb dX3_takeAway_28 rfl (lv_at hl 2 rfl) ?_
  refine m_iast hx hb hW (44) rfl (m_ixI (rfl : k.toInt = _) (by omega) (by omega)) dX3_takeAway_29 (fun H locs hW _ => ?_)
  generalize hμ7 : m_si μ6 (44) (k : Int32).toNatClampNeg u = μ7 at hW
  have hI := hI.si0 hμ7 rfl hS6
  exact m_vret hx hb hr hlocks hW (⟨hI, trivial⟩) dX3_takeAway_30
set_option maxHeartbeats 4000000 in
set_option maxRecDepth 100000 in
theorem L_X3_cutMolten_41_4 {p : Program} {l : Launch} {e : Env} {s : State} {m : MethodId} {args : Array Value} {below : List Frame} {meth : Method} {c : Code} {D : va_G} {cy : Nat → ClassId} {b : Nat} (hx : p.tables.exec = Jvm.exec) (hb : c.code = cX3_cutMolten) (hr : meth.sig.returnType = ((some .boolean))) (hml : c.maxLocals = 4) (hown : s.vm.findClass RX3 = some m.cls) (hts : ∀ w ∈ TB, w.before args s = true) (hlocks : meth.locks = false) (S : Nat → Bool) (μ0 : mM) (hS6 : S 6 = true) (v : Int32) : ∀ (f : Nat), ∀ (y2 y3 : Int32) (hy : 0 ≤ y2.toInt ∧ y2.toInt ≤ 1 ∧ 0 ≤ y3.toInt ∧ y3.toInt ≤ 192) (hf : 192 - y3.toInt < (f : Int)) (μ : mM) (hI : IY S μ0 μ) (H : Heap) (locs : List Loc), m_WA (m_A b LAY) D cy s b LAY μ H locs → ∀ ls : Array Slot, lv_has ls 4 [(0, .ref (b + 41)), (1, .int v), (2, .int y2), (3, .int y3)] → W p l e (m_R 1 0 0) s m args below meth c H locs 0 0 (MQ below (m_Qi D cy b LAY (fun r ν => IY S μ0 ν ∧ ((r = 1 ∧ (True)) ∨ (r = 0 ∧ (True))))) args s 0 0 (m_A b LAY)) (F0 m 4 ls []) := by
  intro f
  induction f with
  | zero => intro y2 y3 hy hf; exfalso; omega
  | succ f ih =>
    intro y2 y3 hy hf μ hI H locs hW ls hl
    refine lv_iload_n hx hb dX3_cutMolten_4 rfl (lv_at hl 3 rfl) ?_
    refine lv_aload_n hx hb dX3_cutMolten_5 rfl (lv_at hl 0 rfl) ?_
    refine m_geti hx hb hts hown hW (41) 2 rfl rfl cw_3 rfl (by decide) k_X3_18 dX3_cutMolten_6 ?_
    refine lv_topi (fun x1 ex1 => ?_)
    have bx1 : 0 ≤ x1.toInt ∧ x1.toInt ≤ 192 := by rw [ex1]; exact hI.1 _ _ _ _ rfl
    refine lv_icmp_ge (tgt := 36) hx hb dX3_cutMolten_9 (by decide) (fun c2 => ?_) (fun c2 => ?_)
    · have i2 := m_c3 (rfl : x1.toInt = _) (rfl : y3.toInt = _) c2
      refine lv_iload_n hx hb dX3_cutMolten_36 rfl (lv_at hl 2 rfl) ?_
      exact m_iret hx hb hr hlocks hW (m_nb (m_b01 (by omega))) (⟨hI, m_b01t (by omega)⟩) dX3_cutMolten_37
    · have i2 := m_c4 (rfl : x1.toInt = _) (rfl : y3.toInt = _) c2
      refine lv_aload_n hx hb dX3_cutMolten_12 rfl (lv_at hl 0 rfl) ?_
      refine m_getr hx hb hts hown hW (41) 11 (43) rfl rfl cw_3 rfl (by decide) k_X3_50 dX3_cutMolten_13 ?_
      refine lv_iload_n hx hb dX3_cutMolten_16 rfl (lv_at hl 3 rfl) ?_
      refine m_iald hx hb hW (43) rfl (m_ixI (rfl : y3.toInt = _) (by omega) (by omega)) dX3_cutMolten_17 ?_
      refine lv_topi (fun x3 ex3 => ?_)
      refine lv_iload_n hx hb dX3_cutMolten_18 rfl (lv_at hl 1 rfl) ?_
      refine lv_icmp_lt (tgt := 30) hx hb dX3_cutMolten_19 (by decide) (fun c4 => ?_) (fun c4 => ?_)
      · have i4 := m_c1 (rfl : x3.toInt = _) (rfl : v.toInt = _) c4
        obtain ⟨x5, ex5⟩ : ∃ z : Int32, z = y3 + 1 := ⟨_, rfl⟩
        refine lv_iinc (v := x5) (lv' := [(3, .int x5), (0, .ref (b + 41)), (1, .int v), (2, .int y2)]) hx hb dX3_cutMolten_30 hl (k := 3) rfl (by rw [ex5]; rfl) (by decide) rfl (fun ls hl => ?_)
        have tx5 : x5.toInt = y3.toInt + 1 := m_addI ex5 (rfl : y3.toInt = _) (by decide : (1 : Int32).toInt = 1) (by omega) (by omega)
        refine lv_goto (tgt := 4) hx hb dX3_cutMolten_33 (by decide) ?_
        exact ih y2 x5 (by omega) (by omega) μ hI _ _ hW ls (lv_sub hl [1, 2, 3, 0] rfl)
      · have i4 := m_c2 (rfl : x3.toInt = _) (rfl : v.toInt = _) c4
        refine lv_aload_n hx hb dX3_cutMolten_22 rfl (lv_at hl 0 rfl) ?_
        refine lv_iload_n hx hb dX3_cutMolten_23 rfl (lv_at hl 3 rfl) ?_
        refine lv_iconst (v := 1) hx hb dX3_cutMolten_24 (by decide) ?_
        have l_1 : (1 : Int32).toInt = 1 := by decide
        refine m_aV hW (m_runV (As := [.int y3, .int 1]) (rest := []) hx hb hml hown hts hW (41) (g_X3_takeAway_41 l D cy b S μ0 hS6 y3 1 (by omega) μ hI) mi_X3_takeAway k_X3_181 rfl rfl rfl hl.1 rfl (Nat.le_of_ble_eq_true rfl) dX3_cutMolten_25 ⟨Nat.le_of_ble_eq_true rfl, Nat.le_of_ble_eq_true rfl⟩ ⟨Nat.le_of_ble_eq_true rfl, Nat.le_of_ble_eq_true rfl⟩) (fun μ6 H locs q6 hW => ?_)
        obtain ⟨hI, q6⟩ := q6
        refine lv_iconst (v := 1) hx hb dX3_cutMolten_28 (by decide) ?_
        refine lv_istore_n (lv' := [(2, .int 1), (0, .ref (b + 41)), (1, .int v), (3, .int y3)]) hx hb dX3_cutMolten_29 rfl hl (by decide) rfl (fun ls hl => ?_)
        obtain ⟨x7, ex7⟩ : ∃ z : Int32, z = y3 + 1 := ⟨_, rfl⟩
        refine lv_iinc (v := x7) (lv' := [(3, .int x7), (2, .int 1), (0, .ref (b + 41)), (1, .int v)]) hx hb dX3_cutMolten_30 hl (k := 3) rfl (by rw [ex7]; rfl) (by decide) rfl (fun ls hl => ?_)
        have tx7 : x7.toInt = y3.toInt + 1 := m_addI ex7 (rfl : y3.toInt = _) (by decide : (1 : Int32).toInt = 1) (by omega) (by omega)
        refine lv_goto (tgt := 4) hx hb dX3_cutMolten_33 (by decide) ?_
        exact ih 1 x7 (by omega) (by omega) μ6 hI _ _ hW ls (lv_sub hl [2, 3, 1, 0] rfl)
set_option maxHeartbeats 4000000 in
set_option maxRecDepth 100000 in
theorem g_X3_cutMolten_41 (l : Launch) (D : va_G) (cy : Nat → ClassId) (b : Nat) (S : Nat → Bool) (μ0 : mM) (hS6 : S 6 = true) (v : Int32) (μ : mM) (hI : IY S μ0 μ) : m_Ci l yX3_cutMolten cX3_cutMolten 4 ((some .boolean)) 1 D cy b LAY μ [.ref (b + 41), .int v] (fun r ν => IY S μ0 ν ∧ ((r = 1 ∧ (True)) ∨ (r = 0 ∧ (True)))) := by
  unfold m_Ci
  refine m_of (by decide) (Nat.le_of_ble_eq_true rfl) ?_
  intro p e s m below meth c hx hb hr hml hown hts hlocks _ hW ls hl
  have hown : s.vm.findClass RX3 = some m.cls := hown
  have hl : lv_has ls 4 [(0, .ref (b + 41)), (1, .int v)] := hl
  refine lv_iconst (v := 0) hx hb dX3_cutMolten_0 (by decide) ?_
  refine lv_istore_n (lv' := [(2, .int 0), (0, .ref (b + 41)), (1, .int v)]) hx hb dX3_cutMolten_1 rfl hl (by decide) rfl (fun ls hl => ?_)
  refine lv_iconst (v := 0) hx hb dX3_cutMolten_2 (by decide) ?_
  refine lv_istore_n (lv' := [(3, .int 0), (2, .int 0), (0, .ref (b + 41)), (1, .int v)]) hx hb dX3_cutMolten_3 rfl hl (by decide) rfl (fun ls hl => ?_)
  have l_0 : (0 : Int32).toInt = 0 := by decide
  exact L_X3_cutMolten_41_4 hx hb hr hml hown hts hlocks S μ0 hS6 v  193 0 0 (by omega) (by omega) μ hI _ _ hW ls (lv_sub hl [2, 3, 1, 0] rfl)
set_option maxHeartbeats 4000000 in
set_option maxRecDepth 100000 in
theorem L_X3_burnHot_41_2 {p : Program} {l : Launch} {e : Env} {s : State} {m : MethodId} {args : Array Value} {below : List Frame} {meth : Method} {c : Code} {D : va_G} {cy : Nat → ClassId} {b : Nat} (hx : p.tables.exec = Jvm.exec) (hb : c.code = cX3_burnHot) (hr : meth.sig.returnType = (none)) (hml : c.maxLocals = 3) (hown : s.vm.findClass RX3 = some m.cls) (hts : ∀ w ∈ TB, w.before args s = true) (hlocks : meth.locks = false) (S : Nat → Bool) (μ0 : mM) (hS6 : S 6 = true) (v : Int32) : ∀ (f : Nat), ∀ (y2 : Int32) (hy : 0 ≤ y2.toInt ∧ y2.toInt ≤ 192) (hf : 192 - y2.toInt < (f : Int)) (μ : mM) (hI : IY S μ0 μ) (H : Heap) (locs : List Loc), m_WA (m_A b LAY) D cy s b LAY μ H locs → ∀ ls : Array Slot, lv_has ls 3 [(0, .ref (b + 41)), (1, .int v), (2, .int y2)] → W p l e (m_R 0 0 0) s m args below meth c H locs 0 0 (MQ below (m_Qv D cy b LAY (fun ν => IY S μ0 ν ∧ (True))) args s 0 0 (m_A b LAY)) (F0 m 2 ls []) := by
  intro f
  induction f with
  | zero => intro y2 hy hf; exfalso; omega
  | succ f ih =>
    intro y2 hy hf μ hI H locs hW ls hl
    refine lv_iload_n hx hb dX3_burnHot_2 rfl (lv_at hl 2 rfl) ?_
    refine lv_aload_n hx hb dX3_burnHot_3 rfl (lv_at hl 0 rfl) ?_
    refine m_geti hx hb hts hown hW (41) 2 rfl rfl cw_3 rfl (by decide) k_X3_18 dX3_burnHot_4 ?_
    refine lv_topi (fun x1 ex1 => ?_)
    have bx1 : 0 ≤ x1.toInt ∧ x1.toInt ≤ 192 := by rw [ex1]; exact hI.1 _ _ _ _ rfl
    refine lv_icmp_ge (tgt := 33) hx hb dX3_burnHot_7 (by decide) (fun c2 => ?_) (fun c2 => ?_)
    · have i2 := m_c3 (rfl : x1.toInt = _) (rfl : y2.toInt = _) c2
      exact m_vret hx hb hr hlocks hW (⟨hI, trivial⟩) dX3_burnHot_33
    · have i2 := m_c4 (rfl : x1.toInt = _) (rfl : y2.toInt = _) c2
      refine lv_aload_n hx hb dX3_burnHot_10 rfl (lv_at hl 0 rfl) ?_
      refine m_getr hx hb hts hown hW (41) 11 (43) rfl rfl cw_3 rfl (by decide) k_X3_50 dX3_burnHot_11 ?_
      refine lv_iload_n hx hb dX3_burnHot_14 rfl (lv_at hl 2 rfl) ?_
      refine m_iald hx hb hW (43) rfl (m_ixI (rfl : y2.toInt = _) (by omega) (by omega)) dX3_burnHot_15 ?_
      refine lv_topi (fun x3 ex3 => ?_)
      refine lv_iload_n hx hb dX3_burnHot_16 rfl (lv_at hl 1 rfl) ?_
      refine lv_icmp_lt (tgt := 27) hx hb dX3_burnHot_17 (by decide) (fun c4 => ?_) (fun c4 => ?_)
      · have i4 := m_c1 (rfl : x3.toInt = _) (rfl : v.toInt = _) c4
        obtain ⟨x5, ex5⟩ : ∃ z : Int32, z = y2 + 1 := ⟨_, rfl⟩
        refine lv_iinc (v := x5) (lv' := [(2, .int x5), (0, .ref (b + 41)), (1, .int v)]) hx hb dX3_burnHot_27 hl (k := 2) rfl (by rw [ex5]; rfl) (by decide) rfl (fun ls hl => ?_)
        have tx5 : x5.toInt = y2.toInt + 1 := m_addI ex5 (rfl : y2.toInt = _) (by decide : (1 : Int32).toInt = 1) (by omega) (by omega)
        refine lv_goto (tgt := 2) hx hb dX3_burnHot_30 (by decide) ?_
        exact ih x5 (by omega) (by omega) μ hI _ _ hW ls (lv_sub hl [1, 2, 0] rfl)
      · have i4 := m_c2 (rfl : x3.toInt = _) (rfl : v.toInt = _) c4
        refine lv_aload_n hx hb dX3_burnHot_20 rfl (lv_at hl 0 rfl) ?_
        refine m_getr hx hb hts hown hW (41) 13 (45) rfl rfl cw_3 rfl (by decide) k_X3_57 dX3_burnHot_21 ?_
        refine lv_iload_n hx hb dX3_burnHot_24 rfl (lv_at hl 2 rfl) ?_
        refine lv_iconst (v := 1) hx hb dX3_burnHot_25 (by decide) ?_
        refine m_iast hx hb hW (45) rfl (m_ixI (rfl : y2.toInt = _) (by omega) (by omega)) dX3_burnHot_26 (fun H locs hW _ => ?_)
        generalize hμ6 : m_si μ (45) (y2 : Int32).toNatClampNeg 1 = μ6 at hW
        have hI := hI.si0 hμ6 rfl hS6
        obtain ⟨x7, ex7⟩ : ∃ z : Int32, z = y2 + 1 := ⟨_, rfl⟩
        refine lv_iinc (v := x7) (lv' := [(2, .int x7), (0, .ref (b + 41)), (1, .int v)]) hx hb dX3_burnHot_27 hl (k := 2) rfl (by rw [ex7]; rfl) (by decide) rfl (fun ls hl => ?_)
        have tx7 : x7.toInt = y2.toInt + 1 := m_addI ex7 (rfl : y2.toInt = _) (by decide : (1 : Int32).toInt = 1) (by omega) (by omega)
        refine lv_goto (tgt := 2) hx hb dX3_burnHot_30 (by decide) ?_
        exact ih x7 (by omega) (by omega) μ6 hI _ _ hW ls (lv_sub hl [1, 2, 0] rfl)
set_option maxHeartbeats 4000000 in
set_option maxRecDepth 100000 in
theorem g_X3_burnHot_41 (l : Launch) (D : va_G) (cy : Nat → ClassId) (b : Nat) (S : Nat → Bool) (μ0 : mM) (hS6 : S 6 = true) (v : Int32) (μ : mM) (hI : IY S μ0 μ) : m_Cv l yX3_burnHot cX3_burnHot 3 (none) 0 D cy b LAY μ [.ref (b + 41), .int v] (fun ν => IY S μ0 ν ∧ (True)) := by
  unfold m_Cv
  refine m_of (by decide) (Nat.le_of_ble_eq_true rfl) ?_
  intro p e s m below meth c hx hb hr hml hown hts hlocks _ hW ls hl
  have hown : s.vm.findClass RX3 = some m.cls := hown
  have hl : lv_has ls 3 [(0, .ref (b + 41)), (1, .int v)] := hl
  refine lv_iconst (v := 0) hx hb dX3_burnHot_0 (by decide) ?_
  refine lv_istore_n (lv' := [(2, .int 0), (0, .ref (b + 41)), (1, .int v)]) hx hb dX3_burnHot_1 rfl hl (by decide) rfl (fun ls hl => ?_)
  have l_0 : (0 : Int32).toInt = 0 := by decide
  exact L_X3_burnHot_41_2 hx hb hr hml hown hts hlocks S μ0 hS6 v  193 0 (by omega) (by omega) μ hI _ _ hW ls (lv_sub hl [1, 2, 0] rfl)
set_option maxHeartbeats 4000000 in
set_option maxRecDepth 100000 in
theorem L_X3_settlePart_41_128 {p : Program} {l : Launch} {e : Env} {s : State} {m : MethodId} {args : Array Value} {below : List Frame} {meth : Method} {c : Code} {D : va_G} {cy : Nat → ClassId} {b : Nat} (hx : p.tables.exec = Jvm.exec) (hb : c.code = cX3_settlePart) (hr : meth.sig.returnType = (none)) (hml : c.maxLocals = 7) (hown : s.vm.findClass RX3 = some m.cls) (hts : ∀ w ∈ TB, w.before args s = true) (hlocks : meth.locks = false) (S : Nat → Bool) (μ0 : mM) (hS6 : S 6 = true) : ∀ (f : Nat), ∀ (y2 y3 y4 y5 : Int32) (hy : 0 ≤ y2.toInt ∧ y2.toInt ≤ 1 ∧ 0 ≤ y3.toInt ∧ y3.toInt ≤ 1 ∧ 0 ≤ y4.toInt ∧ y4.toInt ≤ 1 ∧ 0 ≤ y5.toInt ∧ y5.toInt ≤ 192) (hf : 192 - y5.toInt < (f : Int)) (μ : mM) (hI : IY S μ0 μ) (H : Heap) (locs : List Loc), m_WA (m_A b LAY) D cy s b LAY μ H locs → ∀ ls : Array Slot, lv_has ls 7 [(0, .ref (b + 41)), (1, .ref (b + 1)), (2, .int y2), (3, .int y3), (4, .int y4), (5, .int y5)] → W p l e (m_R 1 0 0) s m args below meth c H locs 0 0 (MQ below (m_Qv D cy b LAY (fun ν => IY S μ0 ν ∧ (True))) args s 0 0 (m_A b LAY)) (F0 m 128 ls []) := by
  intro f
  induction f with
  | zero => intro y2 y3 y4 y5 hy hf; exfalso; omega
  | succ f ih =>
    intro y2 y3 y4 y5 hy hf μ hI H locs hW ls hl
    refine lv_iload hx hb dX3_settlePart_128 (lv_at hl 5 rfl) ?_
    refine lv_aload_n hx hb dX3_settlePart_130 rfl (lv_at hl 0 rfl) ?_
    refine m_getr hx hb hts hown hW (41) 17 (49) rfl rfl cw_3 rfl (by decide) k_X3_72 dX3_settlePart_131 ?_
    refine m_geti hx hb hts hown hW (49) 2 rfl rfl cw_2 rfl (by decide) k_X3_198 dX3_settlePart_134 ?_
    refine lv_topi (fun x1 ex1 => ?_)
    have bx1 : 0 ≤ x1.toInt ∧ x1.toInt ≤ 192 := by rw [ex1]; exact hI.1 _ _ _ _ rfl
    refine lv_icmp_ge (tgt := 193) hx hb dX3_settlePart_137 (by decide) (fun c2 => ?_) (fun c2 => ?_)
    · have i2 := m_c3 (rfl : x1.toInt = _) (rfl : y5.toInt = _) c2
      exact m_vret hx hb hr hlocks hW (⟨hI, trivial⟩) dX3_settlePart_193
    · have i2 := m_c4 (rfl : x1.toInt = _) (rfl : y5.toInt = _) c2
      refine lv_iload_n hx hb dX3_settlePart_140 rfl (lv_at hl 2 rfl) ?_
      refine lv_if_ne (tgt := 162) hx hb dX3_settlePart_141 (by decide) (fun c3 => ?_) (fun c3 => ?_)
      · have i3 := m_c6 (rfl : y2.toInt = _) (by decide : (0 : Int32).toInt = 0) c3
        refine lv_iload_n hx hb dX3_settlePart_162 rfl (lv_at hl 3 rfl) ?_
        refine lv_if_eq (tgt := 171) hx hb dX3_settlePart_163 (by decide) (fun c4 => ?_) (fun c4 => ?_)
        · have i4 := m_c5 (rfl : y3.toInt = _) (by decide : (0 : Int32).toInt = 0) c4
          refine lv_aload_n hx hb dX3_settlePart_171 rfl (lv_at hl 0 rfl) ?_
          refine m_getr hx hb hts hown hW (41) 14 (46) rfl rfl cw_3 rfl (by decide) k_X3_60 dX3_settlePart_172 ?_
          refine lv_aload_n hx hb dX3_settlePart_175 rfl (lv_at hl 0 rfl) ?_
          refine m_getr hx hb hts hown hW (41) 17 (49) rfl rfl cw_3 rfl (by decide) k_X3_72 dX3_settlePart_176 ?_
          refine m_getr hx hb hts hown hW (49) 0 (50) rfl rfl cw_2 rfl (by decide) k_X3_201 dX3_settlePart_179 ?_
          refine lv_iload hx hb dX3_settlePart_182 (lv_at hl 5 rfl) ?_
          refine m_iald hx hb hW (50) rfl (m_ixI (rfl : y5.toInt = _) (by omega) (by omega)) dX3_settlePart_184 ?_
          refine lv_topi (fun x5 ex5 => ?_)
          have bx5 : 0 ≤ x5.toInt ∧ x5.toInt ≤ 191 := by rw [ex5]; exact hI.1 _ _ _ _ rfl
          refine lv_iconst (v := 1) hx hb dX3_settlePart_185 (by decide) ?_
          refine m_iast hx hb hW (46) rfl (m_ixI (rfl : x5.toInt = _) (by omega) (by omega)) dX3_settlePart_186 (fun H locs hW _ => ?_)
          generalize hμ6 : m_si μ (46) (x5 : Int32).toNatClampNeg 1 = μ6 at hW
          have hI := hI.si0 hμ6 rfl hS6
          obtain ⟨x7, ex7⟩ : ∃ z : Int32, z = y5 + 1 := ⟨_, rfl⟩
          refine lv_iinc (v := x7) (lv' := [(5, .int x7), (0, .ref (b + 41)), (1, .ref (b + 1)), (2, .int y2), (3, .int y3), (4, .int y4)]) hx hb dX3_settlePart_187 hl (k := 5) rfl (by rw [ex7]; rfl) (by decide) rfl (fun ls hl => ?_)
          have tx7 : x7.toInt = y5.toInt + 1 := m_addI ex7 (rfl : y5.toInt = _) (by decide : (1 : Int32).toInt = 1) (by omega) (by omega)
          refine lv_goto (tgt := 128) hx hb dX3_settlePart_190 (by decide) ?_
          exact ih y2 y3 y4 x7 (by omega) (by omega) μ6 hI _ _ hW ls (lv_sub hl [1, 2, 3, 4, 5, 0] rfl)
        · have i4 := m_c6 (rfl : y3.toInt = _) (by decide : (0 : Int32).toInt = 0) c4
          refine lv_iload hx hb dX3_settlePart_166 (lv_at hl 4 rfl) ?_
          refine lv_if_ne (tgt := 187) hx hb dX3_settlePart_168 (by decide) (fun c8 => ?_) (fun c8 => ?_)
          · have i8 := m_c6 (rfl : y4.toInt = _) (by decide : (0 : Int32).toInt = 0) c8
            obtain ⟨x9, ex9⟩ : ∃ z : Int32, z = y5 + 1 := ⟨_, rfl⟩
            refine lv_iinc (v := x9) (lv' := [(5, .int x9), (0, .ref (b + 41)), (1, .ref (b + 1)), (2, .int y2), (3, .int y3), (4, .int y4)]) hx hb dX3_settlePart_187 hl (k := 5) rfl (by rw [ex9]; rfl) (by decide) rfl (fun ls hl => ?_)
            have tx9 : x9.toInt = y5.toInt + 1 := m_addI ex9 (rfl : y5.toInt = _) (by decide : (1 : Int32).toInt = 1) (by omega) (by omega)
            refine lv_goto (tgt := 128) hx hb dX3_settlePart_190 (by decide) ?_
            exact ih y2 y3 y4 x9 (by omega) (by omega) μ hI _ _ hW ls (lv_sub hl [1, 2, 3, 4, 5, 0] rfl)
          · have i8 := m_c5 (rfl : y4.toInt = _) (by decide : (0 : Int32).toInt = 0) c8
            refine lv_aload_n hx hb dX3_settlePart_171 rfl (lv_at hl 0 rfl) ?_
            refine m_getr hx hb hts hown hW (41) 14 (46) rfl rfl cw_3 rfl (by decide) k_X3_60 dX3_settlePart_172 ?_
            refine lv_aload_n hx hb dX3_settlePart_175 rfl (lv_at hl 0 rfl) ?_
            refine m_getr hx hb hts hown hW (41) 17 (49) rfl rfl cw_3 rfl (by decide) k_X3_72 dX3_settlePart_176 ?_
            refine m_getr hx hb hts hown hW (49) 0 (50) rfl rfl cw_2 rfl (by decide) k_X3_201 dX3_settlePart_179 ?_
            refine lv_iload hx hb dX3_settlePart_182 (lv_at hl 5 rfl) ?_
            refine m_iald hx hb hW (50) rfl (m_ixI (rfl : y5.toInt = _) (by omega) (by omega)) dX3_settlePart_184 ?_
            refine lv_topi (fun x10 ex10 => ?_)
            have bx10 : 0 ≤ x10.toInt ∧ x10.toInt ≤ 191 := by rw [ex10]; exact hI.1 _ _ _ _ rfl
            refine lv_iconst (v := 1) hx hb dX3_settlePart_185 (by decide) ?_
            refine m_iast hx hb hW (46) rfl (m_ixI (rfl : x10.toInt = _) (by omega) (by omega)) dX3_settlePart_186 (fun H locs hW _ => ?_)
            generalize hμ11 : m_si μ (46) (x10 : Int32).toNatClampNeg 1 = μ11 at hW
            have hI := hI.si0 hμ11 rfl hS6
            obtain ⟨x12, ex12⟩ : ∃ z : Int32, z = y5 + 1 := ⟨_, rfl⟩
            refine lv_iinc (v := x12) (lv' := [(5, .int x12), (0, .ref (b + 41)), (1, .ref (b + 1)), (2, .int y2), (3, .int y3), (4, .int y4)]) hx hb dX3_settlePart_187 hl (k := 5) rfl (by rw [ex12]; rfl) (by decide) rfl (fun ls hl => ?_)
            have tx12 : x12.toInt = y5.toInt + 1 := m_addI ex12 (rfl : y5.toInt = _) (by decide : (1 : Int32).toInt = 1) (by omega) (by omega)
            refine lv_goto (tgt := 128) hx hb dX3_settlePart_190 (by decide) ?_
            exact ih y2 y3 y4 x12 (by omega) (by omega) μ11 hI _ _ hW ls (lv_sub hl [1, 2, 3, 4, 5, 0] rfl)
      · have i3 := m_c5 (rfl : y2.toInt = _) (by decide : (0 : Int32).toInt = 0) c3
        refine lv_aload_n hx hb dX3_settlePart_144 rfl (lv_at hl 0 rfl) ?_
        refine lv_aload_n hx hb dX3_settlePart_145 rfl (lv_at hl 0 rfl) ?_
        refine m_getr hx hb hts hown hW (41) 17 (49) rfl rfl cw_3 rfl (by decide) k_X3_72 dX3_settlePart_146 ?_
        refine m_getr hx hb hts hown hW (49) 0 (50) rfl rfl cw_2 rfl (by decide) k_X3_201 dX3_settlePart_149 ?_
        refine lv_iload hx hb dX3_settlePart_152 (lv_at hl 5 rfl) ?_
        refine m_iald hx hb hW (50) rfl (m_ixI (rfl : y5.toInt = _) (by omega) (by omega)) dX3_settlePart_154 ?_
        refine lv_topi (fun x13 ex13 => ?_)
        have bx13 : 0 ≤ x13.toInt ∧ x13.toInt ≤ 191 := by rw [ex13]; exact hI.1 _ _ _ _ rfl
        refine lv_iconst (v := 2) hx hb dX3_settlePart_155 (by decide) ?_
        have l_2 : (2 : Int32).toInt = 2 := by decide
        refine m_aV hW (m_runV (As := [.int x13, .int 2]) (rest := []) hx hb hml hown hts hW (41) (g_X3_takeAway_41 l D cy b S μ0 hS6 x13 2 (by omega) μ hI) mi_X3_takeAway k_X3_181 rfl rfl rfl hl.1 rfl (Nat.le_of_ble_eq_true rfl) dX3_settlePart_156 ⟨Nat.le_of_ble_eq_true rfl, Nat.le_of_ble_eq_true rfl⟩ ⟨Nat.le_of_ble_eq_true rfl, Nat.le_of_ble_eq_true rfl⟩) (fun μ14 H locs q14 hW => ?_)
        obtain ⟨hI, q14⟩ := q14
        refine lv_goto (tgt := 187) hx hb dX3_settlePart_159 (by decide) ?_
        obtain ⟨x15, ex15⟩ : ∃ z : Int32, z = y5 + 1 := ⟨_, rfl⟩
        refine lv_iinc (v := x15) (lv' := [(5, .int x15), (0, .ref (b + 41)), (1, .ref (b + 1)), (2, .int y2), (3, .int y3), (4, .int y4)]) hx hb dX3_settlePart_187 hl (k := 5) rfl (by rw [ex15]; rfl) (by decide) rfl (fun ls hl => ?_)
        have tx15 : x15.toInt = y5.toInt + 1 := m_addI ex15 (rfl : y5.toInt = _) (by decide : (1 : Int32).toInt = 1) (by omega) (by omega)
        refine lv_goto (tgt := 128) hx hb dX3_settlePart_190 (by decide) ?_
        exact ih y2 y3 y4 x15 (by omega) (by omega) μ14 hI _ _ hW ls (lv_sub hl [1, 2, 3, 4, 5, 0] rfl)
set_option maxHeartbeats 4000000 in
set_option maxRecDepth 100000 in
theorem L_X3_settlePart_41_10 {p : Program} {l : Launch} {e : Env} {s : State} {m : MethodId} {args : Array Value} {below : List Frame} {meth : Method} {c : Code} {D : va_G} {cy : Nat → ClassId} {b : Nat} (hx : p.tables.exec = Jvm.exec) (hb : c.code = cX3_settlePart) (hr : meth.sig.returnType = (none)) (hml : c.maxLocals = 7) (hown : s.vm.findClass RX3 = some m.cls) (hts : ∀ w ∈ TB, w.before args s = true) (hlocks : meth.locks = false) (S : Nat → Bool) (μ0 : mM) (hS6 : S 6 = true) : ∀ (f : Nat), ∀ (y2 y3 y4 y5 : Int32) (hy : 0 ≤ y2.toInt ∧ y2.toInt ≤ 1 ∧ 0 ≤ y3.toInt ∧ y3.toInt ≤ 1 ∧ 0 ≤ y4.toInt ∧ y4.toInt ≤ 1 ∧ 0 ≤ y5.toInt ∧ y5.toInt ≤ 192) (hf : 192 - y5.toInt < (f : Int)) (μ : mM) (hI : IY S μ0 μ) (H : Heap) (locs : List Loc), m_WA (m_A b LAY) D cy s b LAY μ H locs → ∀ ls : Array Slot, lv_has ls 7 [(0, .ref (b + 41)), (1, .ref (b + 1)), (2, .int y2), (3, .int y3), (4, .int y4), (5, .int y5)] → W p l e (m_R 1 0 0) s m args below meth c H locs 0 0 (MQ below (m_Qv D cy b LAY (fun ν => IY S μ0 ν ∧ (True))) args s 0 0 (m_A b LAY)) (F0 m 10 ls []) := by
  intro f
  induction f with
  | zero => intro y2 y3 y4 y5 hy hf; exfalso; omega
  | succ f ih =>
    intro y2 y3 y4 y5 hy hf μ hI H locs hW ls hl
    refine lv_iload hx hb dX3_settlePart_10 (lv_at hl 5 rfl) ?_
    refine lv_aload_n hx hb dX3_settlePart_12 rfl (lv_at hl 0 rfl) ?_
    refine m_getr hx hb hts hown hW (41) 17 (49) rfl rfl cw_3 rfl (by decide) k_X3_72 dX3_settlePart_13 ?_
    refine m_geti hx hb hts hown hW (49) 2 rfl rfl cw_2 rfl (by decide) k_X3_198 dX3_settlePart_16 ?_
    refine lv_topi (fun x1 ex1 => ?_)
    have bx1 : 0 ≤ x1.toInt ∧ x1.toInt ≤ 192 := by rw [ex1]; exact hI.1 _ _ _ _ rfl
    refine lv_icmp_ge (tgt := 125) hx hb dX3_settlePart_19 (by decide) (fun c2 => ?_) (fun c2 => ?_)
    · have i2 := m_c3 (rfl : x1.toInt = _) (rfl : y5.toInt = _) c2
      refine lv_iconst (v := 0) hx hb dX3_settlePart_125 (by decide) ?_
      refine lv_istore (lv' := [(5, .int 0), (0, .ref (b + 41)), (1, .ref (b + 1)), (2, .int y2), (3, .int y3), (4, .int y4)]) hx hb dX3_settlePart_126 hl (by decide) rfl (fun ls hl => ?_)
      have l_0 : (0 : Int32).toInt = 0 := by decide
      exact L_X3_settlePart_41_128 hx hb hr hml hown hts hlocks S μ0 hS6  193 y2 y3 y4 0 (by omega) (by omega) μ hI _ _ hW ls (lv_sub hl [1, 2, 3, 4, 5, 0] rfl)
    · have i2 := m_c4 (rfl : x1.toInt = _) (rfl : y5.toInt = _) c2
      refine lv_aload_n hx hb dX3_settlePart_22 rfl (lv_at hl 0 rfl) ?_
      refine m_geti hx hb hts hown hW (41) 0 rfl rfl cw_3 rfl (by decide) k_X3_11 dX3_settlePart_23 ?_
      refine lv_topi (fun x3 ex3 => ?_)
      have bx3 : 0 ≤ x3.toInt ∧ x3.toInt ≤ 16 := by rw [ex3]; exact hI.1 _ _ _ _ rfl
      refine lv_if_le (tgt := 125) hx hb dX3_settlePart_26 (by decide) (fun c4 => ?_) (fun c4 => ?_)
      · have i4 := m_c3 (rfl : x3.toInt = _) (by decide : (0 : Int32).toInt = 0) c4
        refine lv_iconst (v := 0) hx hb dX3_settlePart_125 (by decide) ?_
        refine lv_istore (lv' := [(5, .int 0), (0, .ref (b + 41)), (1, .ref (b + 1)), (2, .int y2), (3, .int y3), (4, .int y4)]) hx hb dX3_settlePart_126 hl (by decide) rfl (fun ls hl => ?_)
        have l_0 : (0 : Int32).toInt = 0 := by decide
        exact L_X3_settlePart_41_128 hx hb hr hml hown hts hlocks S μ0 hS6  193 y2 y3 y4 0 (by omega) (by omega) μ hI _ _ hW ls (lv_sub hl [1, 2, 3, 4, 5, 0] rfl)
      · have i4 := m_c4 (rfl : x3.toInt = _) (by decide : (0 : Int32).toInt = 0) c4
        refine lv_aload_n hx hb dX3_settlePart_29 rfl (lv_at hl 0 rfl) ?_
        refine m_getr hx hb hts hown hW (41) 17 (49) rfl rfl cw_3 rfl (by decide) k_X3_72 dX3_settlePart_30 ?_
        refine m_getr hx hb hts hown hW (49) 0 (50) rfl rfl cw_2 rfl (by decide) k_X3_201 dX3_settlePart_33 ?_
        refine lv_iload hx hb dX3_settlePart_36 (lv_at hl 5 rfl) ?_
        refine m_iald hx hb hW (50) rfl (m_ixI (rfl : y5.toInt = _) (by omega) (by omega)) dX3_settlePart_38 ?_
        refine lv_topi (fun x5 ex5 => ?_)
        have bx5 : 0 ≤ x5.toInt ∧ x5.toInt ≤ 191 := by rw [ex5]; exact hI.1 _ _ _ _ rfl
        refine lv_aload_n hx hb dX3_settlePart_39 rfl (lv_at hl 0 rfl) ?_
        refine m_geti hx hb hts hown hW (41) 0 rfl rfl cw_3 rfl (by decide) k_X3_11 dX3_settlePart_40 ?_
        refine lv_topi (fun x6 ex6 => ?_)
        have ex6 : x6 = x3 := by rw [ex6]; exact ex3.symm
        have ex6 := ex6.symm
        subst ex6
        refine lv_irem hx hb dX3_settlePart_43 (m_n0 (rfl : x3.toInt = _) (by omega)) ?_
        refine lv_topi (fun x7 ex7 => ?_)
        have bx7 : 0 ≤ x7.toInt ∧ x7.toInt < x3.toInt := m_remB ex7 (rfl : x5.toInt = _) (rfl : x3.toInt = _) (by omega) (by omega)
        refine lv_istore (lv' := [(6, .int x7), (0, .ref (b + 41)), (1, .ref (b + 1)), (2, .int y2), (3, .int y3), (4, .int y4), (5, .int y5)]) hx hb dX3_settlePart_44 hl (by decide) rfl (fun ls hl => ?_)
        refine lv_aload_n hx hb dX3_settlePart_46 rfl (lv_at hl 2 rfl) ?_
        refine lv_iload hx hb dX3_settlePart_47 (lv_at hl 0 rfl) ?_
        refine m_aI hW (m_runV (As := [.int x7]) (rest := []) hx hb hml hown hts hW (1) (g_X10_hasSlatAt l D cy b x7 μ hI.1) mi_X10_hasSlatAt k_X3_204 rfl rfl rfl hl.1 rfl (Nat.le_of_ble_eq_true rfl) dX3_settlePart_49 ⟨Nat.le_of_ble_eq_true rfl, Nat.le_of_ble_eq_true rfl⟩ ⟨Nat.le_of_ble_eq_true rfl, Nat.le_of_ble_eq_true rfl⟩) (fun x8 μ8 H locs q8 hW => ?_)
        obtain ⟨q8_m, q8⟩ := q8
        subst q8_m
        rcases q8 with ⟨rfl, q8⟩ | ⟨rfl, q8⟩
        · refine lv_if_eq (tgt := 119) hx hb dX3_settlePart_52 (by decide) (fun c => False.elim (by revert c; decide)) (fun _ => ?_)
          refine lv_iconst (v := 1) hx hb dX3_settlePart_55 (by decide) ?_
          refine lv_istore_n (lv' := [(2, .int 1), (6, .int x7), (0, .ref (b + 41)), (1, .ref (b + 1)), (3, .int y3), (4, .int y4), (5, .int y5)]) hx hb dX3_settlePart_56 rfl hl (by decide) rfl (fun ls hl => ?_)
          refine lv_iload_n hx hb dX3_settlePart_57 rfl (lv_at hl 4 rfl) ?_
          refine lv_if_ne (tgt := 81) hx hb dX3_settlePart_58 (by decide) (fun c9 => ?_) (fun c9 => ?_)
          · have i9 := m_c6 (rfl : y3.toInt = _) (by decide : (0 : Int32).toInt = 0) c9
            refine lv_iconst (v := 1) hx hb dX3_settlePart_81 (by decide) ?_
            refine lv_goto (tgt := 86) hx hb dX3_settlePart_82 (by decide) ?_
            refine lv_istore_n (lv' := [(3, .int 1), (2, .int 1), (6, .int x7), (0, .ref (b + 41)), (1, .ref (b + 1)), (4, .int y4), (5, .int y5)]) hx hb dX3_settlePart_86 rfl hl (by decide) rfl (fun ls hl => ?_)
            refine lv_iload hx hb dX3_settlePart_87 (lv_at hl 5 rfl) ?_
            refine lv_if_ne (tgt := 112) hx hb dX3_settlePart_89 (by decide) (fun c10 => ?_) (fun c10 => ?_)
            · have i10 := m_c6 (rfl : y4.toInt = _) (by decide : (0 : Int32).toInt = 0) c10
              refine lv_iconst (v := 1) hx hb dX3_settlePart_112 (by decide) ?_
              refine lv_goto (tgt := 117) hx hb dX3_settlePart_113 (by decide) ?_
              refine lv_istore (lv' := [(4, .int 1), (3, .int 1), (2, .int 1), (6, .int x7), (0, .ref (b + 41)), (1, .ref (b + 1)), (5, .int y5)]) hx hb dX3_settlePart_117 hl (by decide) rfl (fun ls hl => ?_)
              obtain ⟨x11, ex11⟩ : ∃ z : Int32, z = y5 + 1 := ⟨_, rfl⟩
              refine lv_iinc (v := x11) (lv' := [(5, .int x11), (4, .int 1), (3, .int 1), (2, .int 1), (6, .int x7), (0, .ref (b + 41)), (1, .ref (b + 1))]) hx hb dX3_settlePart_119 hl (k := 6) rfl (by rw [ex11]; rfl) (by decide) rfl (fun ls hl => ?_)
              have tx11 : x11.toInt = y5.toInt + 1 := m_addI ex11 (rfl : y5.toInt = _) (by decide : (1 : Int32).toInt = 1) (by omega) (by omega)
              refine lv_goto (tgt := 10) hx hb dX3_settlePart_122 (by decide) ?_
              have l_1 : (1 : Int32).toInt = 1 := by decide
              exact ih 1 1 1 x11 (by omega) (by omega) μ hI _ _ hW ls (lv_sub hl [5, 6, 3, 2, 1, 0] rfl)
            · have i10 := m_c5 (rfl : y4.toInt = _) (by decide : (0 : Int32).toInt = 0) c10
              refine lv_iload hx hb dX3_settlePart_92 (lv_at hl 2 rfl) ?_
              refine lv_aload_n hx hb dX3_settlePart_94 rfl (lv_at hl 3 rfl) ?_
              refine m_getr hx hb hts hown hW (41) 17 (49) rfl rfl cw_3 rfl (by decide) k_X3_72 dX3_settlePart_95 ?_
              refine m_geti hx hb hts hown hW (49) 2 rfl rfl cw_2 rfl (by decide) k_X3_198 dX3_settlePart_98 ?_
              refine lv_topi (fun x12 ex12 => ?_)
              have ex12 : x12 = x1 := by rw [ex12]; exact ex1.symm
              have ex12 := ex12.symm
              subst ex12
              refine lv_imul hx hb dX3_settlePart_101 ?_
              refine lv_topi (fun x13 ex13 => ?_)
              have bx13 : 0 ≤ x13.toInt ∧ x13.toInt ≤ 2880 := m_mulB (a := 15) (c := 192) ex13 (rfl : x7.toInt = _) (rfl : x1.toInt = _) (by omega) (by omega) (by decide) (by decide)
              refine lv_aload_n hx hb dX3_settlePart_102 rfl (lv_at hl 3 rfl) ?_
              refine m_getr hx hb hts hown hW (41) 17 (49) rfl rfl cw_3 rfl (by decide) k_X3_72 dX3_settlePart_103 ?_
              refine m_geti hx hb hts hown hW (49) 3 rfl rfl cw_2 rfl (by decide) k_X3_207 dX3_settlePart_106 ?_
              refine lv_topi (fun x14 ex14 => ?_)
              refine lv_icmp_lt (tgt := 116) hx hb dX3_settlePart_109 (by decide) (fun c15 => ?_) (fun c15 => ?_)
              · have i15 := m_c1 (rfl : x13.toInt = _) (rfl : x14.toInt = _) c15
                refine lv_iconst (v := 0) hx hb dX3_settlePart_116 (by decide) ?_
                refine lv_istore (lv' := [(4, .int 0), (3, .int 1), (2, .int 1), (6, .int x7), (0, .ref (b + 41)), (1, .ref (b + 1)), (5, .int y5)]) hx hb dX3_settlePart_117 hl (by decide) rfl (fun ls hl => ?_)
                obtain ⟨x16, ex16⟩ : ∃ z : Int32, z = y5 + 1 := ⟨_, rfl⟩
                refine lv_iinc (v := x16) (lv' := [(5, .int x16), (4, .int 0), (3, .int 1), (2, .int 1), (6, .int x7), (0, .ref (b + 41)), (1, .ref (b + 1))]) hx hb dX3_settlePart_119 hl (k := 6) rfl (by rw [ex16]; rfl) (by decide) rfl (fun ls hl => ?_)
                have tx16 : x16.toInt = y5.toInt + 1 := m_addI ex16 (rfl : y5.toInt = _) (by decide : (1 : Int32).toInt = 1) (by omega) (by omega)
                refine lv_goto (tgt := 10) hx hb dX3_settlePart_122 (by decide) ?_
                have l_1 : (1 : Int32).toInt = 1 := by decide
                have l_0 : (0 : Int32).toInt = 0 := by decide
                exact ih 1 1 0 x16 (by omega) (by omega) μ hI _ _ hW ls (lv_sub hl [5, 6, 3, 2, 1, 0] rfl)
              · have i15 := m_c2 (rfl : x13.toInt = _) (rfl : x14.toInt = _) c15
                refine lv_iconst (v := 1) hx hb dX3_settlePart_112 (by decide) ?_
                refine lv_goto (tgt := 117) hx hb dX3_settlePart_113 (by decide) ?_
                refine lv_istore (lv' := [(4, .int 1), (3, .int 1), (2, .int 1), (6, .int x7), (0, .ref (b + 41)), (1, .ref (b + 1)), (5, .int y5)]) hx hb dX3_settlePart_117 hl (by decide) rfl (fun ls hl => ?_)
                obtain ⟨x17, ex17⟩ : ∃ z : Int32, z = y5 + 1 := ⟨_, rfl⟩
                refine lv_iinc (v := x17) (lv' := [(5, .int x17), (4, .int 1), (3, .int 1), (2, .int 1), (6, .int x7), (0, .ref (b + 41)), (1, .ref (b + 1))]) hx hb dX3_settlePart_119 hl (k := 6) rfl (by rw [ex17]; rfl) (by decide) rfl (fun ls hl => ?_)
                have tx17 : x17.toInt = y5.toInt + 1 := m_addI ex17 (rfl : y5.toInt = _) (by decide : (1 : Int32).toInt = 1) (by omega) (by omega)
                refine lv_goto (tgt := 10) hx hb dX3_settlePart_122 (by decide) ?_
                have l_1 : (1 : Int32).toInt = 1 := by decide
                exact ih 1 1 1 x17 (by omega) (by omega) μ hI _ _ hW ls (lv_sub hl [5, 6, 3, 2, 1, 0] rfl)
          · have i9 := m_c5 (rfl : y3.toInt = _) (by decide : (0 : Int32).toInt = 0) c9
            refine lv_iload hx hb dX3_settlePart_61 (lv_at hl 1 rfl) ?_
            refine lv_aload_n hx hb dX3_settlePart_63 rfl (lv_at hl 2 rfl) ?_
            refine m_getr hx hb hts hown hW (41) 17 (49) rfl rfl cw_3 rfl (by decide) k_X3_72 dX3_settlePart_64 ?_
            refine m_geti hx hb hts hown hW (49) 2 rfl rfl cw_2 rfl (by decide) k_X3_198 dX3_settlePart_67 ?_
            refine lv_topi (fun x18 ex18 => ?_)
            have ex18 : x18 = x1 := by rw [ex18]; exact ex1.symm
            have ex18 := ex18.symm
            subst ex18
            refine lv_imul hx hb dX3_settlePart_70 ?_
            refine lv_topi (fun x19 ex19 => ?_)
            have bx19 : 0 ≤ x19.toInt ∧ x19.toInt ≤ 2880 := m_mulB (a := 15) (c := 192) ex19 (rfl : x7.toInt = _) (rfl : x1.toInt = _) (by omega) (by omega) (by decide) (by decide)
            refine lv_aload_n hx hb dX3_settlePart_71 rfl (lv_at hl 2 rfl) ?_
            refine m_getr hx hb hts hown hW (41) 17 (49) rfl rfl cw_3 rfl (by decide) k_X3_72 dX3_settlePart_72 ?_
            refine m_geti hx hb hts hown hW (49) 3 rfl rfl cw_2 rfl (by decide) k_X3_207 dX3_settlePart_75 ?_
            refine lv_topi (fun x20 ex20 => ?_)
            refine lv_icmp_gt (tgt := 85) hx hb dX3_settlePart_78 (by decide) (fun c21 => ?_) (fun c21 => ?_)
            · have i21 := m_c1 (rfl : x20.toInt = _) (rfl : x19.toInt = _) c21
              refine lv_iconst (v := 0) hx hb dX3_settlePart_85 (by decide) ?_
              refine lv_istore_n (lv' := [(3, .int 0), (2, .int 1), (6, .int x7), (0, .ref (b + 41)), (1, .ref (b + 1)), (4, .int y4), (5, .int y5)]) hx hb dX3_settlePart_86 rfl hl (by decide) rfl (fun ls hl => ?_)
              refine lv_iload hx hb dX3_settlePart_87 (lv_at hl 5 rfl) ?_
              refine lv_if_ne (tgt := 112) hx hb dX3_settlePart_89 (by decide) (fun c22 => ?_) (fun c22 => ?_)
              · have i22 := m_c6 (rfl : y4.toInt = _) (by decide : (0 : Int32).toInt = 0) c22
                refine lv_iconst (v := 1) hx hb dX3_settlePart_112 (by decide) ?_
                refine lv_goto (tgt := 117) hx hb dX3_settlePart_113 (by decide) ?_
                refine lv_istore (lv' := [(4, .int 1), (3, .int 0), (2, .int 1), (6, .int x7), (0, .ref (b + 41)), (1, .ref (b + 1)), (5, .int y5)]) hx hb dX3_settlePart_117 hl (by decide) rfl (fun ls hl => ?_)
                obtain ⟨x23, ex23⟩ : ∃ z : Int32, z = y5 + 1 := ⟨_, rfl⟩
                refine lv_iinc (v := x23) (lv' := [(5, .int x23), (4, .int 1), (3, .int 0), (2, .int 1), (6, .int x7), (0, .ref (b + 41)), (1, .ref (b + 1))]) hx hb dX3_settlePart_119 hl (k := 6) rfl (by rw [ex23]; rfl) (by decide) rfl (fun ls hl => ?_)
                have tx23 : x23.toInt = y5.toInt + 1 := m_addI ex23 (rfl : y5.toInt = _) (by decide : (1 : Int32).toInt = 1) (by omega) (by omega)
                refine lv_goto (tgt := 10) hx hb dX3_settlePart_122 (by decide) ?_
                have l_1 : (1 : Int32).toInt = 1 := by decide
                have l_0 : (0 : Int32).toInt = 0 := by decide
                exact ih 1 0 1 x23 (by omega) (by omega) μ hI _ _ hW ls (lv_sub hl [5, 6, 3, 2, 1, 0] rfl)
              · have i22 := m_c5 (rfl : y4.toInt = _) (by decide : (0 : Int32).toInt = 0) c22
                refine lv_iload hx hb dX3_settlePart_92 (lv_at hl 2 rfl) ?_
                refine lv_aload_n hx hb dX3_settlePart_94 rfl (lv_at hl 3 rfl) ?_
                refine m_getr hx hb hts hown hW (41) 17 (49) rfl rfl cw_3 rfl (by decide) k_X3_72 dX3_settlePart_95 ?_
                refine m_geti hx hb hts hown hW (49) 2 rfl rfl cw_2 rfl (by decide) k_X3_198 dX3_settlePart_98 ?_
                refine lv_topi (fun x24 ex24 => ?_)
                have ex24 : x24 = x1 := by rw [ex24]; exact ex1.symm
                have ex24 := ex24.symm
                subst ex24
                refine lv_imul hx hb dX3_settlePart_101 ?_
                refine lv_topi (fun x25 ex25 => ?_)
                have ex25 : x25 = x19 := ex25.trans ex19.symm
                have ex25 := ex25.symm
                subst ex25
                refine lv_aload_n hx hb dX3_settlePart_102 rfl (lv_at hl 3 rfl) ?_
                refine m_getr hx hb hts hown hW (41) 17 (49) rfl rfl cw_3 rfl (by decide) k_X3_72 dX3_settlePart_103 ?_
                refine m_geti hx hb hts hown hW (49) 3 rfl rfl cw_2 rfl (by decide) k_X3_207 dX3_settlePart_106 ?_
                refine lv_topi (fun x26 ex26 => ?_)
                have ex26 : x26 = x20 := by rw [ex26]; exact ex20.symm
                have ex26 := ex26.symm
                subst ex26
                refine lv_icmp_lt (tgt := 116) hx hb dX3_settlePart_109 (by decide) (fun c27 => ?_) (fun c27 => ?_)
                · have i27 := m_c1 (rfl : x19.toInt = _) (rfl : x20.toInt = _) c27
                  refine lv_iconst (v := 0) hx hb dX3_settlePart_116 (by decide) ?_
                  refine lv_istore (lv' := [(4, .int 0), (3, .int 0), (2, .int 1), (6, .int x7), (0, .ref (b + 41)), (1, .ref (b + 1)), (5, .int y5)]) hx hb dX3_settlePart_117 hl (by decide) rfl (fun ls hl => ?_)
                  obtain ⟨x28, ex28⟩ : ∃ z : Int32, z = y5 + 1 := ⟨_, rfl⟩
                  refine lv_iinc (v := x28) (lv' := [(5, .int x28), (4, .int 0), (3, .int 0), (2, .int 1), (6, .int x7), (0, .ref (b + 41)), (1, .ref (b + 1))]) hx hb dX3_settlePart_119 hl (k := 6) rfl (by rw [ex28]; rfl) (by decide) rfl (fun ls hl => ?_)
                  have tx28 : x28.toInt = y5.toInt + 1 := m_addI ex28 (rfl : y5.toInt = _) (by decide : (1 : Int32).toInt = 1) (by omega) (by omega)
                  refine lv_goto (tgt := 10) hx hb dX3_settlePart_122 (by decide) ?_
                  have l_1 : (1 : Int32).toInt = 1 := by decide
                  have l_0 : (0 : Int32).toInt = 0 := by decide
                  exact ih 1 0 0 x28 (by omega) (by omega) μ hI _ _ hW ls (lv_sub hl [5, 6, 3, 2, 1, 0] rfl)
                · have i27 := m_c2 (rfl : x19.toInt = _) (rfl : x20.toInt = _) c27
                  refine lv_iconst (v := 1) hx hb dX3_settlePart_112 (by decide) ?_
                  refine lv_goto (tgt := 117) hx hb dX3_settlePart_113 (by decide) ?_
                  refine lv_istore (lv' := [(4, .int 1), (3, .int 0), (2, .int 1), (6, .int x7), (0, .ref (b + 41)), (1, .ref (b + 1)), (5, .int y5)]) hx hb dX3_settlePart_117 hl (by decide) rfl (fun ls hl => ?_)
                  obtain ⟨x29, ex29⟩ : ∃ z : Int32, z = y5 + 1 := ⟨_, rfl⟩
                  refine lv_iinc (v := x29) (lv' := [(5, .int x29), (4, .int 1), (3, .int 0), (2, .int 1), (6, .int x7), (0, .ref (b + 41)), (1, .ref (b + 1))]) hx hb dX3_settlePart_119 hl (k := 6) rfl (by rw [ex29]; rfl) (by decide) rfl (fun ls hl => ?_)
                  have tx29 : x29.toInt = y5.toInt + 1 := m_addI ex29 (rfl : y5.toInt = _) (by decide : (1 : Int32).toInt = 1) (by omega) (by omega)
                  refine lv_goto (tgt := 10) hx hb dX3_settlePart_122 (by decide) ?_
                  have l_1 : (1 : Int32).toInt = 1 := by decide
                  have l_0 : (0 : Int32).toInt = 0 := by decide
                  exact ih 1 0 1 x29 (by omega) (by omega) μ hI _ _ hW ls (lv_sub hl [5, 6, 3, 2, 1, 0] rfl)
            · have i21 := m_c2 (rfl : x20.toInt = _) (rfl : x19.toInt = _) c21
              refine lv_iconst (v := 1) hx hb dX3_settlePart_81 (by decide) ?_
              refine lv_goto (tgt := 86) hx hb dX3_settlePart_82 (by decide) ?_
              refine lv_istore_n (lv' := [(3, .int 1), (2, .int 1), (6, .int x7), (0, .ref (b + 41)), (1, .ref (b + 1)), (4, .int y4), (5, .int y5)]) hx hb dX3_settlePart_86 rfl hl (by decide) rfl (fun ls hl => ?_)
              refine lv_iload hx hb dX3_settlePart_87 (lv_at hl 5 rfl) ?_
              refine lv_if_ne (tgt := 112) hx hb dX3_settlePart_89 (by decide) (fun c30 => ?_) (fun c30 => ?_)
              · have i30 := m_c6 (rfl : y4.toInt = _) (by decide : (0 : Int32).toInt = 0) c30
                refine lv_iconst (v := 1) hx hb dX3_settlePart_112 (by decide) ?_
                refine lv_goto (tgt := 117) hx hb dX3_settlePart_113 (by decide) ?_
                refine lv_istore (lv' := [(4, .int 1), (3, .int 1), (2, .int 1), (6, .int x7), (0, .ref (b + 41)), (1, .ref (b + 1)), (5, .int y5)]) hx hb dX3_settlePart_117 hl (by decide) rfl (fun ls hl => ?_)
                obtain ⟨x31, ex31⟩ : ∃ z : Int32, z = y5 + 1 := ⟨_, rfl⟩
                refine lv_iinc (v := x31) (lv' := [(5, .int x31), (4, .int 1), (3, .int 1), (2, .int 1), (6, .int x7), (0, .ref (b + 41)), (1, .ref (b + 1))]) hx hb dX3_settlePart_119 hl (k := 6) rfl (by rw [ex31]; rfl) (by decide) rfl (fun ls hl => ?_)
                have tx31 : x31.toInt = y5.toInt + 1 := m_addI ex31 (rfl : y5.toInt = _) (by decide : (1 : Int32).toInt = 1) (by omega) (by omega)
                refine lv_goto (tgt := 10) hx hb dX3_settlePart_122 (by decide) ?_
                have l_1 : (1 : Int32).toInt = 1 := by decide
                exact ih 1 1 1 x31 (by omega) (by omega) μ hI _ _ hW ls (lv_sub hl [5, 6, 3, 2, 1, 0] rfl)
              · have i30 := m_c5 (rfl : y4.toInt = _) (by decide : (0 : Int32).toInt = 0) c30
                refine lv_iload hx hb dX3_settlePart_92 (lv_at hl 2 rfl) ?_
                refine lv_aload_n hx hb dX3_settlePart_94 rfl (lv_at hl 3 rfl) ?_
                refine m_getr hx hb hts hown hW (41) 17 (49) rfl rfl cw_3 rfl (by decide) k_X3_72 dX3_settlePart_95 ?_
                refine m_geti hx hb hts hown hW (49) 2 rfl rfl cw_2 rfl (by decide) k_X3_198 dX3_settlePart_98 ?_
                refine lv_topi (fun x32 ex32 => ?_)
                have ex32 : x32 = x1 := by rw [ex32]; exact ex1.symm
                have ex32 := ex32.symm
                subst ex32
                refine lv_imul hx hb dX3_settlePart_101 ?_
                refine lv_topi (fun x33 ex33 => ?_)
                have ex33 : x33 = x19 := ex33.trans ex19.symm
                have ex33 := ex33.symm
                subst ex33
                refine lv_aload_n hx hb dX3_settlePart_102 rfl (lv_at hl 3 rfl) ?_
                refine m_getr hx hb hts hown hW (41) 17 (49) rfl rfl cw_3 rfl (by decide) k_X3_72 dX3_settlePart_103 ?_
                refine m_geti hx hb hts hown hW (49) 3 rfl rfl cw_2 rfl (by decide) k_X3_207 dX3_settlePart_106 ?_
                refine lv_topi (fun x34 ex34 => ?_)
                have ex34 : x34 = x20 := by rw [ex34]; exact ex20.symm
                have ex34 := ex34.symm
                subst ex34
                refine lv_icmp_lt (tgt := 116) hx hb dX3_settlePart_109 (by decide) (fun c35 => ?_) (fun c35 => ?_)
                · have i35 := m_c1 (rfl : x19.toInt = _) (rfl : x20.toInt = _) c35
                  refine lv_iconst (v := 0) hx hb dX3_settlePart_116 (by decide) ?_
                  refine lv_istore (lv' := [(4, .int 0), (3, .int 1), (2, .int 1), (6, .int x7), (0, .ref (b + 41)), (1, .ref (b + 1)), (5, .int y5)]) hx hb dX3_settlePart_117 hl (by decide) rfl (fun ls hl => ?_)
                  obtain ⟨x36, ex36⟩ : ∃ z : Int32, z = y5 + 1 := ⟨_, rfl⟩
                  refine lv_iinc (v := x36) (lv' := [(5, .int x36), (4, .int 0), (3, .int 1), (2, .int 1), (6, .int x7), (0, .ref (b + 41)), (1, .ref (b + 1))]) hx hb dX3_settlePart_119 hl (k := 6) rfl (by rw [ex36]; rfl) (by decide) rfl (fun ls hl => ?_)
                  have tx36 : x36.toInt = y5.toInt + 1 := m_addI ex36 (rfl : y5.toInt = _) (by decide : (1 : Int32).toInt = 1) (by omega) (by omega)
                  refine lv_goto (tgt := 10) hx hb dX3_settlePart_122 (by decide) ?_
                  have l_1 : (1 : Int32).toInt = 1 := by decide
                  have l_0 : (0 : Int32).toInt = 0 := by decide
                  exact ih 1 1 0 x36 (by omega) (by omega) μ hI _ _ hW ls (lv_sub hl [5, 6, 3, 2, 1, 0] rfl)
                · have i35 := m_c2 (rfl : x19.toInt = _) (rfl : x20.toInt = _) c35
                  refine lv_iconst (v := 1) hx hb dX3_settlePart_112 (by decide) ?_
                  refine lv_goto (tgt := 117) hx hb dX3_settlePart_113 (by decide) ?_
                  refine lv_istore (lv' := [(4, .int 1), (3, .int 1), (2, .int 1), (6, .int x7), (0, .ref (b + 41)), (1, .ref (b + 1)), (5, .int y5)]) hx hb dX3_settlePart_117 hl (by decide) rfl (fun ls hl => ?_)
                  obtain ⟨x37, ex37⟩ : ∃ z : Int32, z = y5 + 1 := ⟨_, rfl⟩
                  refine lv_iinc (v := x37) (lv' := [(5, .int x37), (4, .int 1), (3, .int 1), (2, .int 1), (6, .int x7), (0, .ref (b + 41)), (1, .ref (b + 1))]) hx hb dX3_settlePart_119 hl (k := 6) rfl (by rw [ex37]; rfl) (by decide) rfl (fun ls hl => ?_)
                  have tx37 : x37.toInt = y5.toInt + 1 := m_addI ex37 (rfl : y5.toInt = _) (by decide : (1 : Int32).toInt = 1) (by omega) (by omega)
                  refine lv_goto (tgt := 10) hx hb dX3_settlePart_122 (by decide) ?_
                  have l_1 : (1 : Int32).toInt = 1 := by decide
                  exact ih 1 1 1 x37 (by omega) (by omega) μ hI _ _ hW ls (lv_sub hl [5, 6, 3, 2, 1, 0] rfl)
        · refine lv_if_eq (tgt := 119) hx hb dX3_settlePart_52 (by decide) (fun _ => ?_) (fun c => False.elim (by revert c; decide))
          obtain ⟨x38, ex38⟩ : ∃ z : Int32, z = y5 + 1 := ⟨_, rfl⟩
          refine lv_iinc (v := x38) (lv' := [(5, .int x38), (6, .int x7), (0, .ref (b + 41)), (1, .ref (b + 1)), (2, .int y2), (3, .int y3), (4, .int y4)]) hx hb dX3_settlePart_119 hl (k := 6) rfl (by rw [ex38]; rfl) (by decide) rfl (fun ls hl => ?_)
          have tx38 : x38.toInt = y5.toInt + 1 := m_addI ex38 (rfl : y5.toInt = _) (by decide : (1 : Int32).toInt = 1) (by omega) (by omega)
          refine lv_goto (tgt := 10) hx hb dX3_settlePart_122 (by decide) ?_
          exact ih y2 y3 y4 x38 (by omega) (by omega) μ hI _ _ hW ls (lv_sub hl [2, 3, 4, 5, 6, 0] rfl)
set_option maxHeartbeats 4000000 in
set_option maxRecDepth 100000 in
theorem g_X3_settlePart_41 (l : Launch) (D : va_G) (cy : Nat → ClassId) (b : Nat) (S : Nat → Bool) (μ0 : mM) (hS6 : S 6 = true) (μ : mM) (hI : IY S μ0 μ) : m_Cv l yX3_settlePart cX3_settlePart 7 (none) 1 D cy b LAY μ [.ref (b + 41), .ref (b + 1)] (fun ν => IY S μ0 ν ∧ (True)) := by
  unfold m_Cv
  refine m_of (by decide) (Nat.le_of_ble_eq_true rfl) ?_
  intro p e s m below meth c hx hb hr hml hown hts hlocks _ hW ls hl
  have hown : s.vm.findClass RX3 = some m.cls := hown
  have hl : lv_has ls 7 [(0, .ref (b + 41)), (1, .ref (b + 1))] := hl
  refine lv_iconst (v := 0) hx hb dX3_settlePart_0 (by decide) ?_
  refine lv_istore_n (lv' := [(2, .int 0), (0, .ref (b + 41)), (1, .ref (b + 1))]) hx hb dX3_settlePart_1 rfl hl (by decide) rfl (fun ls hl => ?_)
  refine lv_iconst (v := 0) hx hb dX3_settlePart_2 (by decide) ?_
  refine lv_istore_n (lv' := [(3, .int 0), (2, .int 0), (0, .ref (b + 41)), (1, .ref (b + 1))]) hx hb dX3_settlePart_3 rfl hl (by decide) rfl (fun ls hl => ?_)
  refine lv_iconst (v := 0) hx hb dX3_settlePart_4 (by decide) ?_
  refine lv_istore (lv' := [(4, .int 0), (3, .int 0), (2, .int 0), (0, .ref (b + 41)), (1, .ref (b + 1))]) hx hb dX3_settlePart_5 hl (by decide) rfl (fun ls hl => ?_)
  refine lv_iconst (v := 0) hx hb dX3_settlePart_7 (by decide) ?_
  refine lv_istore (lv' := [(5, .int 0), (4, .int 0), (3, .int 0), (2, .int 0), (0, .ref (b + 41)), (1, .ref (b + 1))]) hx hb dX3_settlePart_8 hl (by decide) rfl (fun ls hl => ?_)
  have l_0 : (0 : Int32).toInt = 0 := by decide
  exact L_X3_settlePart_41_10 hx hb hr hml hown hts hlocks S μ0 hS6  193 0 0 0 0 (by omega) (by omega) μ hI _ _ hW ls (lv_sub hl [4, 5, 3, 2, 1, 0] rfl)
set_option maxHeartbeats 4000000 in
set_option maxRecDepth 100000 in
theorem L_X3_loosenParts_41_9 {p : Program} {l : Launch} {e : Env} {s : State} {m : MethodId} {args : Array Value} {below : List Frame} {meth : Method} {c : Code} {D : va_G} {cy : Nat → ClassId} {b : Nat} (hx : p.tables.exec = Jvm.exec) (hb : c.code = cX3_loosenParts) (hr : meth.sig.returnType = (none)) (hml : c.maxLocals = 3) (hown : s.vm.findClass RX3 = some m.cls) (hts : ∀ w ∈ TB, w.before args s = true) (hlocks : meth.locks = false) (S : Nat → Bool) (μ0 : mM) (hS6 : S 6 = true) : ∀ (f : Nat), ∀ (y2 : Int32) (hy : 0 ≤ y2.toInt ∧ y2.toInt ≤ 192) (hf : 192 - y2.toInt < (f : Int)) (μ : mM) (hI : IY S μ0 μ) (H : Heap) (locs : List Loc), m_WA (m_A b LAY) D cy s b LAY μ H locs → ∀ ls : Array Slot, lv_has ls 3 [(0, .ref (b + 41)), (1, .ref (b + 1)), (2, .int y2)] → W p l e (m_R 2 0 0) s m args below meth c H locs 0 0 (MQ below (m_Qv D cy b LAY (fun ν => IY S μ0 ν ∧ (True))) args s 0 0 (m_A b LAY)) (F0 m 9 ls []) := by
  intro f
  induction f with
  | zero => intro y2 hy hf; exfalso; omega
  | succ f ih =>
    intro y2 hy hf μ hI H locs hW ls hl
    refine lv_iload_n hx hb dX3_loosenParts_9 rfl (lv_at hl 2 rfl) ?_
    refine lv_aload_n hx hb dX3_loosenParts_10 rfl (lv_at hl 0 rfl) ?_
    refine m_geti hx hb hts hown hW (41) 2 rfl rfl cw_3 rfl (by decide) k_X3_18 dX3_loosenParts_11 ?_
    refine lv_topi (fun x1 ex1 => ?_)
    have bx1 : 0 ≤ x1.toInt ∧ x1.toInt ≤ 192 := by rw [ex1]; exact hI.1 _ _ _ _ rfl
    refine lv_icmp_ge (tgt := 47) hx hb dX3_loosenParts_14 (by decide) (fun c2 => ?_) (fun c2 => ?_)
    · have i2 := m_c3 (rfl : x1.toInt = _) (rfl : y2.toInt = _) c2
      exact m_vret hx hb hr hlocks hW (⟨hI, trivial⟩) dX3_loosenParts_47
    · have i2 := m_c4 (rfl : x1.toInt = _) (rfl : y2.toInt = _) c2
      refine lv_aload_n hx hb dX3_loosenParts_17 rfl (lv_at hl 0 rfl) ?_
      refine m_getr hx hb hts hown hW (41) 17 (49) rfl rfl cw_3 rfl (by decide) k_X3_72 dX3_loosenParts_18 ?_
      refine lv_aload_n hx hb dX3_loosenParts_21 rfl (lv_at hl 0 rfl) ?_
      refine lv_iload_n hx hb dX3_loosenParts_22 rfl (lv_at hl 2 rfl) ?_
      refine m_aV hW (m_runV (As := [.ref (b + 41), .int y2]) (rest := []) hx hb hml hown hts hW (49) (g_X2_gather_41 l D cy b S μ0 hS6 y2 μ hI) mi_X2_gather k_X3_188 rfl rfl rfl hl.1 rfl (Nat.le_of_ble_eq_true rfl) dX3_loosenParts_23 ⟨Nat.le_of_ble_eq_true rfl, Nat.le_of_ble_eq_true rfl⟩ ⟨Nat.le_of_ble_eq_true rfl, Nat.le_of_ble_eq_true rfl⟩) (fun μ3 H locs q3 hW => ?_)
      obtain ⟨hI, q3⟩ := q3
      refine lv_aload_n hx hb dX3_loosenParts_26 rfl (lv_at hl 0 rfl) ?_
      refine m_getr hx hb hts hown hW (41) 17 (49) rfl rfl cw_3 rfl (by decide) k_X3_72 dX3_loosenParts_27 ?_
      refine m_geti hx hb hts hown hW (49) 4 rfl rfl cw_2 rfl (by decide) k_X3_192 dX3_loosenParts_30 ?_
      refine lv_topi (fun x4 ex4 => ?_)
      have bx4 : 0 ≤ x4.toInt ∧ x4.toInt ≤ 1 := by rw [ex4]; exact hI.1 _ _ _ _ rfl
      refine lv_if_ne (tgt := 41) hx hb dX3_loosenParts_33 (by decide) (fun c5 => ?_) (fun c5 => ?_)
      · have i5 := m_c6 (rfl : x4.toInt = _) (by decide : (0 : Int32).toInt = 0) c5
        obtain ⟨x6, ex6⟩ : ∃ z : Int32, z = y2 + 1 := ⟨_, rfl⟩
        refine lv_iinc (v := x6) (lv' := [(2, .int x6), (0, .ref (b + 41)), (1, .ref (b + 1))]) hx hb dX3_loosenParts_41 hl (k := 2) rfl (by rw [ex6]; rfl) (by decide) rfl (fun ls hl => ?_)
        have tx6 : x6.toInt = y2.toInt + 1 := m_addI ex6 (rfl : y2.toInt = _) (by decide : (1 : Int32).toInt = 1) (by omega) (by omega)
        refine lv_goto (tgt := 9) hx hb dX3_loosenParts_44 (by decide) ?_
        exact ih x6 (by omega) (by omega) μ3 hI _ _ hW ls (lv_sub hl [1, 2, 0] rfl)
      · have i5 := m_c5 (rfl : x4.toInt = _) (by decide : (0 : Int32).toInt = 0) c5
        refine lv_aload_n hx hb dX3_loosenParts_36 rfl (lv_at hl 0 rfl) ?_
        refine lv_aload_n hx hb dX3_loosenParts_37 rfl (lv_at hl 1 rfl) ?_
        refine m_aV hW (m_runV (As := [.ref (b + 1)]) (rest := []) hx hb hml hown hts hW (41) (g_X3_settlePart_41 l D cy b S μ0 hS6 μ3 hI) mi_X3_settlePart k_X3_195 rfl rfl rfl hl.1 rfl (Nat.le_of_ble_eq_true rfl) dX3_loosenParts_38 ⟨Nat.le_of_ble_eq_true rfl, Nat.le_of_ble_eq_true rfl⟩ ⟨Nat.le_of_ble_eq_true rfl, Nat.le_of_ble_eq_true rfl⟩) (fun μ7 H locs q7 hW => ?_)
        obtain ⟨hI, q7⟩ := q7
        obtain ⟨x8, ex8⟩ : ∃ z : Int32, z = y2 + 1 := ⟨_, rfl⟩
        refine lv_iinc (v := x8) (lv' := [(2, .int x8), (0, .ref (b + 41)), (1, .ref (b + 1))]) hx hb dX3_loosenParts_41 hl (k := 2) rfl (by rw [ex8]; rfl) (by decide) rfl (fun ls hl => ?_)
        have tx8 : x8.toInt = y2.toInt + 1 := m_addI ex8 (rfl : y2.toInt = _) (by decide : (1 : Int32).toInt = 1) (by omega) (by omega)
        refine lv_goto (tgt := 9) hx hb dX3_loosenParts_44 (by decide) ?_
        exact ih x8 (by omega) (by omega) μ7 hI _ _ hW ls (lv_sub hl [1, 2, 0] rfl)
set_option maxHeartbeats 4000000 in
set_option maxRecDepth 100000 in
theorem g_X3_loosenParts_41 (l : Launch) (D : va_G) (cy : Nat → ClassId) (b : Nat) (S : Nat → Bool) (μ0 : mM) (hS6 : S 6 = true) (μ : mM) (hI : IY S μ0 μ) : m_Cv l yX3_loosenParts cX3_loosenParts 3 (none) 2 D cy b LAY μ [.ref (b + 41), .ref (b + 1)] (fun ν => IY S μ0 ν ∧ (True)) := by
  unfold m_Cv
  refine m_of (by decide) (Nat.le_of_ble_eq_true rfl) ?_
  intro p e s m below meth c hx hb hr hml hown hts hlocks _ hW ls hl
  have hown : s.vm.findClass RX3 = some m.cls := hown
  have hl : lv_has ls 3 [(0, .ref (b + 41)), (1, .ref (b + 1))] := hl
  refine lv_aload_n hx hb dX3_loosenParts_0 rfl (lv_at hl 0 rfl) ?_
  refine m_getr hx hb hts hown hW (41) 17 (49) rfl rfl cw_3 rfl (by decide) k_X3_72 dX3_loosenParts_1 ?_
  refine m_aV hW (m_runV (As := []) (rest := []) hx hb hml hown hts hW (49) (g_X2_forgetSeen_41 l D cy b S μ0 hS6 μ hI) mi_X2_forgetSeen k_X3_185 rfl rfl rfl hl.1 rfl (Nat.le_of_ble_eq_true rfl) dX3_loosenParts_4 ⟨Nat.le_of_ble_eq_true rfl, Nat.le_of_ble_eq_true rfl⟩ ⟨Nat.le_of_ble_eq_true rfl, Nat.le_of_ble_eq_true rfl⟩) (fun μ1 H locs q1 hW => ?_)
  obtain ⟨hI, q1⟩ := q1
  refine lv_iconst (v := 0) hx hb dX3_loosenParts_7 (by decide) ?_
  refine lv_istore_n (lv' := [(2, .int 0), (0, .ref (b + 41)), (1, .ref (b + 1))]) hx hb dX3_loosenParts_8 rfl hl (by decide) rfl (fun ls hl => ?_)
  have l_0 : (0 : Int32).toInt = 0 := by decide
  exact L_X3_loosenParts_41_9 hx hb hr hml hown hts hlocks S μ0 hS6  193 0 (by omega) (by omega) μ1 hI _ _ hW ls (lv_sub hl [1, 2, 0] rfl)
set_option maxHeartbeats 4000000 in
set_option maxRecDepth 100000 in
theorem g_X3_tick_41 (l : Launch) (D : va_G) (cy : Nat → ClassId) (b : Nat) (S : Nat → Bool) (μ0 : mM) (hS6 : S 6 = true) (μ : mM) (hI : IY S μ0 μ) : m_Cv l yX3_tick cX3_tick 3 (none) 3 D cy b LAY μ [.ref (b + 41), .ref (b + 1)] (fun ν => IY S μ0 ν ∧ (True)) := by
  unfold m_Cv
  refine m_of (by decide) (Nat.le_of_ble_eq_true rfl) ?_
  intro p e s m below meth c hx hb hr hml hown hts hlocks _ hW ls hl
  have hown : s.vm.findClass RX3 = some m.cls := hown
  have hl : lv_has ls 3 [(0, .ref (b + 41)), (1, .ref (b + 1))] := hl
  refine lv_aload_n hx hb dX3_tick_0 rfl (lv_at hl 0 rfl) ?_
  refine m_geti hx hb hts hown hW (41) 3 rfl rfl cw_3 rfl (by decide) k_X3_21 dX3_tick_1 ?_
  refine lv_topi (fun x1 ex1 => ?_)
  have bx1 : 0 ≤ x1.toInt ∧ x1.toInt ≤ 3 := by rw [ex1]; exact hI.1 _ _ _ _ rfl
  refine lv_iconst (v := 0) hx hb dX3_tick_4 (by decide) ?_
  refine lv_iconst (v := 3) hx hb dX3_tick_5 (by decide) ?_
  have l_0 : (0 : Int32).toInt = 0 := by decide
  have l_3 : (3 : Int32).toInt = 3 := by decide
  refine m_aI hW (m_runSN (As := [.int x1, .int 0, .int 3]) (rest := []) hx hb hml hown hts hW (g_X11_within l D cy b x1 0 3 μ hI.1) ms_X11_within n_X3_121 rfl hl.1 rfl (Nat.le_of_ble_eq_true rfl) dX3_tick_6 ⟨Nat.le_of_ble_eq_true rfl, Nat.le_of_ble_eq_true rfl⟩ ⟨Nat.le_of_ble_eq_true rfl, Nat.le_of_ble_eq_true rfl⟩) (fun x2 μ2 H locs q2 hW => ?_)
  obtain ⟨q2_m, q2⟩ := q2
  subst q2_m
  rcases q2 with ⟨rfl, q2⟩ | ⟨rfl, q2⟩
  · refine lv_if_ne (tgt := 13) hx hb dX3_tick_9 (by decide) (fun _ => ?_) (fun c => False.elim (by revert c; decide))
    refine lv_aload_n hx hb dX3_tick_13 rfl (lv_at hl 0 rfl) ?_
    refine m_getr hx hb hts hown hW (41) 10 (42) rfl rfl cw_3 rfl (by decide) k_X3_46 dX3_tick_14 ?_
    refine m_geti hx hb hts hown hW (42) 2 rfl rfl cw_1 rfl (by decide) k_X3_125 dX3_tick_17 ?_
    refine lv_topi (fun x3 ex3 => ?_)
    have bx3 : 0 ≤ x3.toInt ∧ x3.toInt ≤ 1 := by rw [ex3]; exact hI.1 _ _ _ _ rfl
    refine lv_if_eq (tgt := 31) hx hb dX3_tick_20 (by decide) (fun c4 => ?_) (fun c4 => ?_)
    · have i4 := m_c5 (rfl : x3.toInt = _) (by decide : (0 : Int32).toInt = 0) c4
      refine lv_aload_n hx hb dX3_tick_31 rfl (lv_at hl 0 rfl) ?_
      refine lv_aload_n hx hb dX3_tick_32 rfl (lv_at hl 1 rfl) ?_
      refine m_getr hx hb hts hown hW (1) 1 (3) rfl rfl cw_10 rfl (by decide) k_X3_138 dX3_tick_33 ?_
      refine lv_aload_n hx hb dX3_tick_36 rfl (lv_at hl 0 rfl) ?_
      refine m_geti hx hb hts hown hW (41) 3 rfl rfl cw_3 rfl (by decide) k_X3_21 dX3_tick_37 ?_
      refine lv_topi (fun x5 ex5 => ?_)
      have ex5 : x5 = x1 := by rw [ex5]; exact ex1.symm
      have ex5 := ex5.symm
      subst ex5
      refine m_iald hx hb hW (3) rfl (m_ixI (rfl : x1.toInt = _) (by omega) (by omega)) dX3_tick_40 ?_
      refine lv_topi (fun x6 ex6 => ?_)
      refine m_aV hW (m_runV (As := [.int x6]) (rest := []) hx hb hml hown hts hW (41) (g_X3_leadHeat_41 l D cy b S μ0 hS6 x6 μ hI) mi_X3_leadHeat k_X3_141 rfl rfl rfl hl.1 rfl (Nat.le_of_ble_eq_true rfl) dX3_tick_41 ⟨Nat.le_of_ble_eq_true rfl, Nat.le_of_ble_eq_true rfl⟩ ⟨Nat.le_of_ble_eq_true rfl, Nat.le_of_ble_eq_true rfl⟩) (fun μ7 H locs q7 hW => ?_)
      obtain ⟨hI, q7⟩ := q7
      refine lv_aload_n hx hb dX3_tick_44 rfl (lv_at hl 0 rfl) ?_
      refine lv_aload_n hx hb dX3_tick_45 rfl (lv_at hl 1 rfl) ?_
      refine m_getr hx hb hts hown hW (1) 2 (4) rfl rfl cw_10 rfl (by decide) k_X3_144 dX3_tick_46 ?_
      refine lv_aload_n hx hb dX3_tick_49 rfl (lv_at hl 0 rfl) ?_
      refine m_geti hx hb hts hown hW (41) 3 rfl rfl cw_3 rfl (by decide) k_X3_21 dX3_tick_50 ?_
      refine lv_topi (fun x8 ex8 => ?_)
      have bx8 : 0 ≤ x8.toInt ∧ x8.toInt ≤ 3 := by rw [ex8]; exact hI.1 _ _ _ _ rfl
      refine m_iald hx hb hW (4) rfl (m_ixI (rfl : x8.toInt = _) (by omega) (by omega)) dX3_tick_53 ?_
      refine lv_topi (fun x9 ex9 => ?_)
      refine m_aV hW (m_runV (As := [.int x9]) (rest := []) hx hb hml hown hts hW (41) (g_X3_loseHeat_41 l D cy b S μ0 hS6 x9 μ7 hI) mi_X3_loseHeat k_X3_147 rfl rfl rfl hl.1 rfl (Nat.le_of_ble_eq_true rfl) dX3_tick_54 ⟨Nat.le_of_ble_eq_true rfl, Nat.le_of_ble_eq_true rfl⟩ ⟨Nat.le_of_ble_eq_true rfl, Nat.le_of_ble_eq_true rfl⟩) (fun μ10 H locs q10 hW => ?_)
      obtain ⟨hI, q10⟩ := q10
      refine lv_aload_n hx hb dX3_tick_57 rfl (lv_at hl 1 rfl) ?_
      refine m_geti hx hb hts hown hW (1) 5 rfl rfl cw_10 rfl (by decide) k_X3_150 dX3_tick_58 ?_
      refine lv_topi (fun x11 ex11 => ?_)
      have bx11 : 0 ≤ x11.toInt ∧ x11.toInt ≤ 1 := by rw [ex11]; exact hI.1 _ _ _ _ rfl
      refine lv_if_eq (tgt := 89) hx hb dX3_tick_61 (by decide) (fun c12 => ?_) (fun c12 => ?_)
      · have i12 := m_c5 (rfl : x11.toInt = _) (by decide : (0 : Int32).toInt = 0) c12
        refine lv_iconst (v := 0) hx hb dX3_tick_89 (by decide) ?_
        refine lv_istore_n (lv' := [(2, .int 0), (0, .ref (b + 41)), (1, .ref (b + 1))]) hx hb dX3_tick_90 rfl hl (by decide) rfl (fun ls hl => ?_)
        refine lv_aload_n hx hb dX3_tick_91 rfl (lv_at hl 1 rfl) ?_
        refine lv_aload_n hx hb dX3_tick_92 rfl (lv_at hl 2 rfl) ?_
        refine m_getr hx hb hts hown hW (1) 3 (5) rfl rfl cw_10 rfl (by decide) k_X3_159 dX3_tick_93 ?_
        refine lv_aload_n hx hb dX3_tick_96 rfl (lv_at hl 1 rfl) ?_
        refine m_geti hx hb hts hown hW (41) 3 rfl rfl cw_3 rfl (by decide) k_X3_21 dX3_tick_97 ?_
        refine lv_topi (fun x13 ex13 => ?_)
        have bx13 : 0 ≤ x13.toInt ∧ x13.toInt ≤ 3 := by rw [ex13]; exact hI.1 _ _ _ _ rfl
        refine m_iald hx hb hW (5) rfl (m_ixI (rfl : x13.toInt = _) (by omega) (by omega)) dX3_tick_100 ?_
        refine lv_topi (fun x14 ex14 => ?_)
        refine m_aV hW (m_runV (As := [.int x14]) (rest := []) hx hb hml hown hts hW (41) (g_X3_burnHot_41 l D cy b S μ0 hS6 x14 μ10 hI) mi_X3_burnHot k_X3_162 rfl rfl rfl hl.1 rfl (Nat.le_of_ble_eq_true rfl) dX3_tick_101 ⟨Nat.le_of_ble_eq_true rfl, Nat.le_of_ble_eq_true rfl⟩ ⟨Nat.le_of_ble_eq_true rfl, Nat.le_of_ble_eq_true rfl⟩) (fun μ15 H locs q15 hW => ?_)
        obtain ⟨hI, q15⟩ := q15
        refine lv_iload_n hx hb dX3_tick_104 rfl (lv_at hl 0 rfl) ?_
        refine lv_if_eq (tgt := 113) hx hb dX3_tick_105 (by decide) (fun _ => ?_) (fun c => False.elim (by revert c; decide))
        refine lv_aload_n hx hb dX3_tick_113 rfl (lv_at hl 1 rfl) ?_
        refine lv_dup hx hb dX3_tick_114 rfl ?_
        refine m_geti hx hb hts hown hW (41) 5 rfl rfl cw_3 rfl (by decide) k_X3_27 dX3_tick_115 ?_
        refine lv_topi (fun x16 ex16 => ?_)
        refine lv_iconst (v := 1) hx hb dX3_tick_118 (by decide) ?_
        refine lv_iadd hx hb dX3_tick_119 ?_
        refine lv_topi (fun x17 ex17 => ?_)
        refine m_puti hx hb hts hown hW (41) 5 rfl rfl cw_3 tyX3_ok nmX3 rfl (by decide) k_X3_27 rfl rfl rfl dX3_tick_120 (fun H locs hW _ => ?_)
        generalize hμ18 : m_si μ15 (41) 5 x17 = μ18 at hW
        have hI := hI.si0 hμ18 rfl hS6
        exact m_vret hx hb hr hlocks hW (⟨hI, trivial⟩) dX3_tick_123
      · have i12 := m_c6 (rfl : x11.toInt = _) (by decide : (0 : Int32).toInt = 0) c12
        refine lv_aload_n hx hb dX3_tick_64 rfl (lv_at hl 0 rfl) ?_
        refine lv_aload_n hx hb dX3_tick_65 rfl (lv_at hl 1 rfl) ?_
        refine m_getr hx hb hts hown hW (1) 0 (2) rfl rfl cw_10 rfl (by decide) k_X3_153 dX3_tick_66 ?_
        refine lv_aload_n hx hb dX3_tick_69 rfl (lv_at hl 0 rfl) ?_
        refine m_geti hx hb hts hown hW (41) 3 rfl rfl cw_3 rfl (by decide) k_X3_21 dX3_tick_70 ?_
        refine lv_topi (fun x19 ex19 => ?_)
        have bx19 : 0 ≤ x19.toInt ∧ x19.toInt ≤ 3 := by rw [ex19]; exact hI.1 _ _ _ _ rfl
        refine m_iald hx hb hW (2) rfl (m_ixI (rfl : x19.toInt = _) (by omega) (by omega)) dX3_tick_73 ?_
        refine lv_topi (fun x20 ex20 => ?_)
        refine lv_aload_n hx hb dX3_tick_74 rfl (lv_at hl 0 rfl) ?_
        refine m_geti hx hb hts hown hW (41) 4 rfl rfl cw_3 rfl (by decide) k_X3_24 dX3_tick_75 ?_
        refine lv_topi (fun x21 ex21 => ?_)
        refine lv_imul hx hb dX3_tick_78 ?_
        refine lv_topi (fun x22 ex22 => ?_)
        refine m_aI hW (m_runV (As := [.int x22]) (rest := []) hx hb hml hown hts hW (41) (g_X3_cutMolten_41 l D cy b S μ0 hS6 x22 μ10 hI) mi_X3_cutMolten k_X3_156 rfl rfl rfl hl.1 rfl (Nat.le_of_ble_eq_true rfl) dX3_tick_79 ⟨Nat.le_of_ble_eq_true rfl, Nat.le_of_ble_eq_true rfl⟩ ⟨Nat.le_of_ble_eq_true rfl, Nat.le_of_ble_eq_true rfl⟩) (fun x23 μ23 H locs q23 hW => ?_)
        obtain ⟨hI, q23⟩ := q23
        rcases q23 with ⟨rfl, q23⟩ | ⟨rfl, q23⟩
        · refine lv_if_eq (tgt := 89) hx hb dX3_tick_82 (by decide) (fun c => False.elim (by revert c; decide)) (fun _ => ?_)
          refine lv_iconst (v := 1) hx hb dX3_tick_85 (by decide) ?_
          refine lv_goto (tgt := 90) hx hb dX3_tick_86 (by decide) ?_
          refine lv_istore_n (lv' := [(2, .int 1), (0, .ref (b + 41)), (1, .ref (b + 1))]) hx hb dX3_tick_90 rfl hl (by decide) rfl (fun ls hl => ?_)
          refine lv_aload_n hx hb dX3_tick_91 rfl (lv_at hl 1 rfl) ?_
          refine lv_aload_n hx hb dX3_tick_92 rfl (lv_at hl 2 rfl) ?_
          refine m_getr hx hb hts hown hW (1) 3 (5) rfl rfl cw_10 rfl (by decide) k_X3_159 dX3_tick_93 ?_
          refine lv_aload_n hx hb dX3_tick_96 rfl (lv_at hl 1 rfl) ?_
          refine m_geti hx hb hts hown hW (41) 3 rfl rfl cw_3 rfl (by decide) k_X3_21 dX3_tick_97 ?_
          refine lv_topi (fun x24 ex24 => ?_)
          have bx24 : 0 ≤ x24.toInt ∧ x24.toInt ≤ 3 := by rw [ex24]; exact hI.1 _ _ _ _ rfl
          refine m_iald hx hb hW (5) rfl (m_ixI (rfl : x24.toInt = _) (by omega) (by omega)) dX3_tick_100 ?_
          refine lv_topi (fun x25 ex25 => ?_)
          refine m_aV hW (m_runV (As := [.int x25]) (rest := []) hx hb hml hown hts hW (41) (g_X3_burnHot_41 l D cy b S μ0 hS6 x25 μ23 hI) mi_X3_burnHot k_X3_162 rfl rfl rfl hl.1 rfl (Nat.le_of_ble_eq_true rfl) dX3_tick_101 ⟨Nat.le_of_ble_eq_true rfl, Nat.le_of_ble_eq_true rfl⟩ ⟨Nat.le_of_ble_eq_true rfl, Nat.le_of_ble_eq_true rfl⟩) (fun μ26 H locs q26 hW => ?_)
          obtain ⟨hI, q26⟩ := q26
          refine lv_iload_n hx hb dX3_tick_104 rfl (lv_at hl 0 rfl) ?_
          refine lv_if_eq (tgt := 113) hx hb dX3_tick_105 (by decide) (fun c => False.elim (by revert c; decide)) (fun _ => ?_)
          refine lv_aload_n hx hb dX3_tick_108 rfl (lv_at hl 1 rfl) ?_
          refine lv_aload_n hx hb dX3_tick_109 rfl (lv_at hl 2 rfl) ?_
          refine m_aV hW (m_runV (As := [.ref (b + 1)]) (rest := []) hx hb hml hown hts hW (41) (g_X3_loosenParts_41 l D cy b S μ0 hS6 μ26 hI) mi_X3_loosenParts k_X3_165 rfl rfl rfl hl.1 rfl (Nat.le_of_ble_eq_true rfl) dX3_tick_110 ⟨Nat.le_of_ble_eq_true rfl, Nat.le_of_ble_eq_true rfl⟩ ⟨Nat.le_of_ble_eq_true rfl, Nat.le_of_ble_eq_true rfl⟩) (fun μ27 H locs q27 hW => ?_)
          obtain ⟨hI, q27⟩ := q27
          refine lv_aload_n hx hb dX3_tick_113 rfl (lv_at hl 1 rfl) ?_
          refine lv_dup hx hb dX3_tick_114 rfl ?_
          refine m_geti hx hb hts hown hW (41) 5 rfl rfl cw_3 rfl (by decide) k_X3_27 dX3_tick_115 ?_
          refine lv_topi (fun x28 ex28 => ?_)
          refine lv_iconst (v := 1) hx hb dX3_tick_118 (by decide) ?_
          refine lv_iadd hx hb dX3_tick_119 ?_
          refine lv_topi (fun x29 ex29 => ?_)
          refine m_puti hx hb hts hown hW (41) 5 rfl rfl cw_3 tyX3_ok nmX3 rfl (by decide) k_X3_27 rfl rfl rfl dX3_tick_120 (fun H locs hW _ => ?_)
          generalize hμ30 : m_si μ27 (41) 5 x29 = μ30 at hW
          have hI := hI.si0 hμ30 rfl hS6
          exact m_vret hx hb hr hlocks hW (⟨hI, trivial⟩) dX3_tick_123
        · refine lv_if_eq (tgt := 89) hx hb dX3_tick_82 (by decide) (fun _ => ?_) (fun c => False.elim (by revert c; decide))
          refine lv_iconst (v := 0) hx hb dX3_tick_89 (by decide) ?_
          refine lv_istore_n (lv' := [(2, .int 0), (0, .ref (b + 41)), (1, .ref (b + 1))]) hx hb dX3_tick_90 rfl hl (by decide) rfl (fun ls hl => ?_)
          refine lv_aload_n hx hb dX3_tick_91 rfl (lv_at hl 1 rfl) ?_
          refine lv_aload_n hx hb dX3_tick_92 rfl (lv_at hl 2 rfl) ?_
          refine m_getr hx hb hts hown hW (1) 3 (5) rfl rfl cw_10 rfl (by decide) k_X3_159 dX3_tick_93 ?_
          refine lv_aload_n hx hb dX3_tick_96 rfl (lv_at hl 1 rfl) ?_
          refine m_geti hx hb hts hown hW (41) 3 rfl rfl cw_3 rfl (by decide) k_X3_21 dX3_tick_97 ?_
          refine lv_topi (fun x31 ex31 => ?_)
          have bx31 : 0 ≤ x31.toInt ∧ x31.toInt ≤ 3 := by rw [ex31]; exact hI.1 _ _ _ _ rfl
          refine m_iald hx hb hW (5) rfl (m_ixI (rfl : x31.toInt = _) (by omega) (by omega)) dX3_tick_100 ?_
          refine lv_topi (fun x32 ex32 => ?_)
          refine m_aV hW (m_runV (As := [.int x32]) (rest := []) hx hb hml hown hts hW (41) (g_X3_burnHot_41 l D cy b S μ0 hS6 x32 μ23 hI) mi_X3_burnHot k_X3_162 rfl rfl rfl hl.1 rfl (Nat.le_of_ble_eq_true rfl) dX3_tick_101 ⟨Nat.le_of_ble_eq_true rfl, Nat.le_of_ble_eq_true rfl⟩ ⟨Nat.le_of_ble_eq_true rfl, Nat.le_of_ble_eq_true rfl⟩) (fun μ33 H locs q33 hW => ?_)
          obtain ⟨hI, q33⟩ := q33
          refine lv_iload_n hx hb dX3_tick_104 rfl (lv_at hl 0 rfl) ?_
          refine lv_if_eq (tgt := 113) hx hb dX3_tick_105 (by decide) (fun _ => ?_) (fun c => False.elim (by revert c; decide))
          refine lv_aload_n hx hb dX3_tick_113 rfl (lv_at hl 1 rfl) ?_
          refine lv_dup hx hb dX3_tick_114 rfl ?_
          refine m_geti hx hb hts hown hW (41) 5 rfl rfl cw_3 rfl (by decide) k_X3_27 dX3_tick_115 ?_
          refine lv_topi (fun x34 ex34 => ?_)
          refine lv_iconst (v := 1) hx hb dX3_tick_118 (by decide) ?_
          refine lv_iadd hx hb dX3_tick_119 ?_
          refine lv_topi (fun x35 ex35 => ?_)
          refine m_puti hx hb hts hown hW (41) 5 rfl rfl cw_3 tyX3_ok nmX3 rfl (by decide) k_X3_27 rfl rfl rfl dX3_tick_120 (fun H locs hW _ => ?_)
          generalize hμ36 : m_si μ33 (41) 5 x35 = μ36 at hW
          have hI := hI.si0 hμ36 rfl hS6
          exact m_vret hx hb hr hlocks hW (⟨hI, trivial⟩) dX3_tick_123
    · have i4 := m_c6 (rfl : x3.toInt = _) (by decide : (0 : Int32).toInt = 0) c4
      refine lv_aload_n hx hb dX3_tick_23 rfl (lv_at hl 0 rfl) ?_
      refine lv_aload_n hx hb dX3_tick_24 rfl (lv_at hl 1 rfl) ?_
      refine m_geti hx hb hts hown hW (1) 4 rfl rfl cw_10 rfl (by decide) k_X3_129 dX3_tick_25 ?_
      refine lv_topi (fun x37 ex37 => ?_)
      refine m_aV hW (m_runV (As := [.int x37]) (rest := []) hx hb hml hown hts hW (41) (g_X3_giveHeat_41 l D cy b S μ0 hS6 x37 μ hI) mi_X3_giveHeat k_X3_134 rfl rfl rfl hl.1 rfl (Nat.le_of_ble_eq_true rfl) dX3_tick_28 ⟨Nat.le_of_ble_eq_true rfl, Nat.le_of_ble_eq_true rfl⟩ ⟨Nat.le_of_ble_eq_true rfl, Nat.le_of_ble_eq_true rfl⟩) (fun μ38 H locs q38 hW => ?_)
      obtain ⟨hI, q38⟩ := q38
      refine lv_aload_n hx hb dX3_tick_31 rfl (lv_at hl 0 rfl) ?_
      refine lv_aload_n hx hb dX3_tick_32 rfl (lv_at hl 1 rfl) ?_
      refine m_getr hx hb hts hown hW (1) 1 (3) rfl rfl cw_10 rfl (by decide) k_X3_138 dX3_tick_33 ?_
      refine lv_aload_n hx hb dX3_tick_36 rfl (lv_at hl 0 rfl) ?_
      refine m_geti hx hb hts hown hW (41) 3 rfl rfl cw_3 rfl (by decide) k_X3_21 dX3_tick_37 ?_
      refine lv_topi (fun x39 ex39 => ?_)
      have bx39 : 0 ≤ x39.toInt ∧ x39.toInt ≤ 3 := by rw [ex39]; exact hI.1 _ _ _ _ rfl
      refine m_iald hx hb hW (3) rfl (m_ixI (rfl : x39.toInt = _) (by omega) (by omega)) dX3_tick_40 ?_
      refine lv_topi (fun x40 ex40 => ?_)
      refine m_aV hW (m_runV (As := [.int x40]) (rest := []) hx hb hml hown hts hW (41) (g_X3_leadHeat_41 l D cy b S μ0 hS6 x40 μ38 hI) mi_X3_leadHeat k_X3_141 rfl rfl rfl hl.1 rfl (Nat.le_of_ble_eq_true rfl) dX3_tick_41 ⟨Nat.le_of_ble_eq_true rfl, Nat.le_of_ble_eq_true rfl⟩ ⟨Nat.le_of_ble_eq_true rfl, Nat.le_of_ble_eq_true rfl⟩) (fun μ41 H locs q41 hW => ?_)
      obtain ⟨hI, q41⟩ := q41
      refine lv_aload_n hx hb dX3_tick_44 rfl (lv_at hl 0 rfl) ?_
      refine lv_aload_n hx hb dX3_tick_45 rfl (lv_at hl 1 rfl) ?_
      refine m_getr hx hb hts hown hW (1) 2 (4) rfl rfl cw_10 rfl (by decide) k_X3_144 dX3_tick_46 ?_
      refine lv_aload_n hx hb dX3_tick_49 rfl (lv_at hl 0 rfl) ?_
      refine m_geti hx hb hts hown hW (41) 3 rfl rfl cw_3 rfl (by decide) k_X3_21 dX3_tick_50 ?_
      refine lv_topi (fun x42 ex42 => ?_)
      have bx42 : 0 ≤ x42.toInt ∧ x42.toInt ≤ 3 := by rw [ex42]; exact hI.1 _ _ _ _ rfl
      refine m_iald hx hb hW (4) rfl (m_ixI (rfl : x42.toInt = _) (by omega) (by omega)) dX3_tick_53 ?_
      refine lv_topi (fun x43 ex43 => ?_)
      refine m_aV hW (m_runV (As := [.int x43]) (rest := []) hx hb hml hown hts hW (41) (g_X3_loseHeat_41 l D cy b S μ0 hS6 x43 μ41 hI) mi_X3_loseHeat k_X3_147 rfl rfl rfl hl.1 rfl (Nat.le_of_ble_eq_true rfl) dX3_tick_54 ⟨Nat.le_of_ble_eq_true rfl, Nat.le_of_ble_eq_true rfl⟩ ⟨Nat.le_of_ble_eq_true rfl, Nat.le_of_ble_eq_true rfl⟩) (fun μ44 H locs q44 hW => ?_)
      obtain ⟨hI, q44⟩ := q44
      refine lv_aload_n hx hb dX3_tick_57 rfl (lv_at hl 1 rfl) ?_
      refine m_geti hx hb hts hown hW (1) 5 rfl rfl cw_10 rfl (by decide) k_X3_150 dX3_tick_58 ?_
      refine lv_topi (fun x45 ex45 => ?_)
      have bx45 : 0 ≤ x45.toInt ∧ x45.toInt ≤ 1 := by rw [ex45]; exact hI.1 _ _ _ _ rfl
      refine lv_if_eq (tgt := 89) hx hb dX3_tick_61 (by decide) (fun c46 => ?_) (fun c46 => ?_)
      · have i46 := m_c5 (rfl : x45.toInt = _) (by decide : (0 : Int32).toInt = 0) c46
        refine lv_iconst (v := 0) hx hb dX3_tick_89 (by decide) ?_
        refine lv_istore_n (lv' := [(2, .int 0), (0, .ref (b + 41)), (1, .ref (b + 1))]) hx hb dX3_tick_90 rfl hl (by decide) rfl (fun ls hl => ?_)
        refine lv_aload_n hx hb dX3_tick_91 rfl (lv_at hl 1 rfl) ?_
        refine lv_aload_n hx hb dX3_tick_92 rfl (lv_at hl 2 rfl) ?_
        refine m_getr hx hb hts hown hW (1) 3 (5) rfl rfl cw_10 rfl (by decide) k_X3_159 dX3_tick_93 ?_
        refine lv_aload_n hx hb dX3_tick_96 rfl (lv_at hl 1 rfl) ?_
        refine m_geti hx hb hts hown hW (41) 3 rfl rfl cw_3 rfl (by decide) k_X3_21 dX3_tick_97 ?_
        refine lv_topi (fun x47 ex47 => ?_)
        have bx47 : 0 ≤ x47.toInt ∧ x47.toInt ≤ 3 := by rw [ex47]; exact hI.1 _ _ _ _ rfl
        refine m_iald hx hb hW (5) rfl (m_ixI (rfl : x47.toInt = _) (by omega) (by omega)) dX3_tick_100 ?_
        refine lv_topi (fun x48 ex48 => ?_)
        refine m_aV hW (m_runV (As := [.int x48]) (rest := []) hx hb hml hown hts hW (41) (g_X3_burnHot_41 l D cy b S μ0 hS6 x48 μ44 hI) mi_X3_burnHot k_X3_162 rfl rfl rfl hl.1 rfl (Nat.le_of_ble_eq_true rfl) dX3_tick_101 ⟨Nat.le_of_ble_eq_true rfl, Nat.le_of_ble_eq_true rfl⟩ ⟨Nat.le_of_ble_eq_true rfl, Nat.le_of_ble_eq_true rfl⟩) (fun μ49 H locs q49 hW => ?_)
        obtain ⟨hI, q49⟩ := q49
        refine lv_iload_n hx hb dX3_tick_104 rfl (lv_at hl 0 rfl) ?_
        refine lv_if_eq (tgt := 113) hx hb dX3_tick_105 (by decide) (fun _ => ?_) (fun c => False.elim (by revert c; decide))
        refine lv_aload_n hx hb dX3_tick_113 rfl (lv_at hl 1 rfl) ?_
        refine lv_dup hx hb dX3_tick_114 rfl ?_
        refine m_geti hx hb hts hown hW (41) 5 rfl rfl cw_3 rfl (by decide) k_X3_27 dX3_tick_115 ?_
        refine lv_topi (fun x50 ex50 => ?_)
        refine lv_iconst (v := 1) hx hb dX3_tick_118 (by decide) ?_
        refine lv_iadd hx hb dX3_tick_119 ?_
        refine lv_topi (fun x51 ex51 => ?_)
        refine m_puti hx hb hts hown hW (41) 5 rfl rfl cw_3 tyX3_ok nmX3 rfl (by decide) k_X3_27 rfl rfl rfl dX3_tick_120 (fun H locs hW _ => ?_)
        generalize hμ52 : m_si μ49 (41) 5 x51 = μ52 at hW
        have hI := hI.si0 hμ52 rfl hS6
        exact m_vret hx hb hr hlocks hW (⟨hI, trivial⟩) dX3_tick_123
      · have i46 := m_c6 (rfl : x45.toInt = _) (by decide : (0 : Int32).toInt = 0) c46
        refine lv_aload_n hx hb dX3_tick_64 rfl (lv_at hl 0 rfl) ?_
        refine lv_aload_n hx hb dX3_tick_65 rfl (lv_at hl 1 rfl) ?_
        refine m_getr hx hb hts hown hW (1) 0 (2) rfl rfl cw_10 rfl (by decide) k_X3_153 dX3_tick_66 ?_
        refine lv_aload_n hx hb dX3_tick_69 rfl (lv_at hl 0 rfl) ?_
        refine m_geti hx hb hts hown hW (41) 3 rfl rfl cw_3 rfl (by decide) k_X3_21 dX3_tick_70 ?_
        refine lv_topi (fun x53 ex53 => ?_)
        have bx53 : 0 ≤ x53.toInt ∧ x53.toInt ≤ 3 := by rw [ex53]; exact hI.1 _ _ _ _ rfl
        refine m_iald hx hb hW (2) rfl (m_ixI (rfl : x53.toInt = _) (by omega) (by omega)) dX3_tick_73 ?_
        refine lv_topi (fun x54 ex54 => ?_)
        refine lv_aload_n hx hb dX3_tick_74 rfl (lv_at hl 0 rfl) ?_
        refine m_geti hx hb hts hown hW (41) 4 rfl rfl cw_3 rfl (by decide) k_X3_24 dX3_tick_75 ?_
        refine lv_topi (fun x55 ex55 => ?_)
        refine lv_imul hx hb dX3_tick_78 ?_
        refine lv_topi (fun x56 ex56 => ?_)
        refine m_aI hW (m_runV (As := [.int x56]) (rest := []) hx hb hml hown hts hW (41) (g_X3_cutMolten_41 l D cy b S μ0 hS6 x56 μ44 hI) mi_X3_cutMolten k_X3_156 rfl rfl rfl hl.1 rfl (Nat.le_of_ble_eq_true rfl) dX3_tick_79 ⟨Nat.le_of_ble_eq_true rfl, Nat.le_of_ble_eq_true rfl⟩ ⟨Nat.le_of_ble_eq_true rfl, Nat.le_of_ble_eq_true rfl⟩) (fun x57 μ57 H locs q57 hW => ?_)
        obtain ⟨hI, q57⟩ := q57
        rcases q57 with ⟨rfl, q57⟩ | ⟨rfl, q57⟩
        · refine lv_if_eq (tgt := 89) hx hb dX3_tick_82 (by decide) (fun c => False.elim (by revert c; decide)) (fun _ => ?_)
          refine lv_iconst (v := 1) hx hb dX3_tick_85 (by decide) ?_
          refine lv_goto (tgt := 90) hx hb dX3_tick_86 (by decide) ?_
          refine lv_istore_n (lv' := [(2, .int 1), (0, .ref (b + 41)), (1, .ref (b + 1))]) hx hb dX3_tick_90 rfl hl (by decide) rfl (fun ls hl => ?_)
          refine lv_aload_n hx hb dX3_tick_91 rfl (lv_at hl 1 rfl) ?_
          refine lv_aload_n hx hb dX3_tick_92 rfl (lv_at hl 2 rfl) ?_
          refine m_getr hx hb hts hown hW (1) 3 (5) rfl rfl cw_10 rfl (by decide) k_X3_159 dX3_tick_93 ?_
          refine lv_aload_n hx hb dX3_tick_96 rfl (lv_at hl 1 rfl) ?_
          refine m_geti hx hb hts hown hW (41) 3 rfl rfl cw_3 rfl (by decide) k_X3_21 dX3_tick_97 ?_
          refine lv_topi (fun x58 ex58 => ?_)
          have bx58 : 0 ≤ x58.toInt ∧ x58.toInt ≤ 3 := by rw [ex58]; exact hI.1 _ _ _ _ rfl
          refine m_iald hx hb hW (5) rfl (m_ixI (rfl : x58.toInt = _) (by omega) (by omega)) dX3_tick_100 ?_
          refine lv_topi (fun x59 ex59 => ?_)
          refine m_aV hW (m_runV (As := [.int x59]) (rest := []) hx hb hml hown hts hW (41) (g_X3_burnHot_41 l D cy b S μ0 hS6 x59 μ57 hI) mi_X3_burnHot k_X3_162 rfl rfl rfl hl.1 rfl (Nat.le_of_ble_eq_true rfl) dX3_tick_101 ⟨Nat.le_of_ble_eq_true rfl, Nat.le_of_ble_eq_true rfl⟩ ⟨Nat.le_of_ble_eq_true rfl, Nat.le_of_ble_eq_true rfl⟩) (fun μ60 H locs q60 hW => ?_)
          obtain ⟨hI, q60⟩ := q60
          refine lv_iload_n hx hb dX3_tick_104 rfl (lv_at hl 0 rfl) ?_
          refine lv_if_eq (tgt := 113) hx hb dX3_tick_105 (by decide) (fun c => False.elim (by revert c; decide)) (fun _ => ?_)
          refine lv_aload_n hx hb dX3_tick_108 rfl (lv_at hl 1 rfl) ?_
          refine lv_aload_n hx hb dX3_tick_109 rfl (lv_at hl 2 rfl) ?_
          refine m_aV hW (m_runV (As := [.ref (b + 1)]) (rest := []) hx hb hml hown hts hW (41) (g_X3_loosenParts_41 l D cy b S μ0 hS6 μ60 hI) mi_X3_loosenParts k_X3_165 rfl rfl rfl hl.1 rfl (Nat.le_of_ble_eq_true rfl) dX3_tick_110 ⟨Nat.le_of_ble_eq_true rfl, Nat.le_of_ble_eq_true rfl⟩ ⟨Nat.le_of_ble_eq_true rfl, Nat.le_of_ble_eq_true rfl⟩) (fun μ61 H locs q61 hW => ?_)
          obtain ⟨hI, q61⟩ := q61
          refine lv_aload_n hx hb dX3_tick_113 rfl (lv_at hl 1 rfl) ?_
          refine lv_dup hx hb dX3_tick_114 rfl ?_
          refine m_geti hx hb hts hown hW (41) 5 rfl rfl cw_3 rfl (by decide) k_X3_27 dX3_tick_115 ?_
          refine lv_topi (fun x62 ex62 => ?_)
          refine lv_iconst (v := 1) hx hb dX3_tick_118 (by decide) ?_
          refine lv_iadd hx hb dX3_tick_119 ?_
          refine lv_topi (fun x63 ex63 => ?_)
          refine m_puti hx hb hts hown hW (41) 5 rfl rfl cw_3 tyX3_ok nmX3 rfl (by decide) k_X3_27 rfl rfl rfl dX3_tick_120 (fun H locs hW _ => ?_)
          generalize hμ64 : m_si μ61 (41) 5 x63 = μ64 at hW
          have hI := hI.si0 hμ64 rfl hS6
          exact m_vret hx hb hr hlocks hW (⟨hI, trivial⟩) dX3_tick_123
        · refine lv_if_eq (tgt := 89) hx hb dX3_tick_82 (by decide) (fun _ => ?_) (fun c => False.elim (by revert c; decide))
          refine lv_iconst (v := 0) hx hb dX3_tick_89 (by decide) ?_
          refine lv_istore_n (lv' := [(2, .int 0), (0, .ref (b + 41)), (1, .ref (b + 1))]) hx hb dX3_tick_90 rfl hl (by decide) rfl (fun ls hl => ?_)
          refine lv_aload_n hx hb dX3_tick_91 rfl (lv_at hl 1 rfl) ?_
          refine lv_aload_n hx hb dX3_tick_92 rfl (lv_at hl 2 rfl) ?_
          refine m_getr hx hb hts hown hW (1) 3 (5) rfl rfl cw_10 rfl (by decide) k_X3_159 dX3_tick_93 ?_
          refine lv_aload_n hx hb dX3_tick_96 rfl (lv_at hl 1 rfl) ?_
          refine m_geti hx hb hts hown hW (41) 3 rfl rfl cw_3 rfl (by decide) k_X3_21 dX3_tick_97 ?_
          refine lv_topi (fun x65 ex65 => ?_)
          have bx65 : 0 ≤ x65.toInt ∧ x65.toInt ≤ 3 := by rw [ex65]; exact hI.1 _ _ _ _ rfl
          refine m_iald hx hb hW (5) rfl (m_ixI (rfl : x65.toInt = _) (by omega) (by omega)) dX3_tick_100 ?_
          refine lv_topi (fun x66 ex66 => ?_)
          refine m_aV hW (m_runV (As := [.int x66]) (rest := []) hx hb hml hown hts hW (41) (g_X3_burnHot_41 l D cy b S μ0 hS6 x66 μ57 hI) mi_X3_burnHot k_X3_162 rfl rfl rfl hl.1 rfl (Nat.le_of_ble_eq_true rfl) dX3_tick_101 ⟨Nat.le_of_ble_eq_true rfl, Nat.le_of_ble_eq_true rfl⟩ ⟨Nat.le_of_ble_eq_true rfl, Nat.le_of_ble_eq_true rfl⟩) (fun μ67 H locs q67 hW => ?_)
          obtain ⟨hI, q67⟩ := q67
          refine lv_iload_n hx hb dX3_tick_104 rfl (lv_at hl 0 rfl) ?_
          refine lv_if_eq (tgt := 113) hx hb dX3_tick_105 (by decide) (fun _ => ?_) (fun c => False.elim (by revert c; decide))
          refine lv_aload_n hx hb dX3_tick_113 rfl (lv_at hl 1 rfl) ?_
          refine lv_dup hx hb dX3_tick_114 rfl ?_
          refine m_geti hx hb hts hown hW (41) 5 rfl rfl cw_3 rfl (by decide) k_X3_27 dX3_tick_115 ?_
          refine lv_topi (fun x68 ex68 => ?_)
          refine lv_iconst (v := 1) hx hb dX3_tick_118 (by decide) ?_
          refine lv_iadd hx hb dX3_tick_119 ?_
          refine lv_topi (fun x69 ex69 => ?_)
          refine m_puti hx hb hts hown hW (41) 5 rfl rfl cw_3 tyX3_ok nmX3 rfl (by decide) k_X3_27 rfl rfl rfl dX3_tick_120 (fun H locs hW _ => ?_)
          generalize hμ70 : m_si μ67 (41) 5 x69 = μ70 at hW
          have hI := hI.si0 hμ70 rfl hS6
          exact m_vret hx hb hr hlocks hW (⟨hI, trivial⟩) dX3_tick_123
  · refine lv_if_ne (tgt := 13) hx hb dX3_tick_9 (by decide) (fun c => False.elim (by revert c; decide)) (fun _ => ?_)
    exact m_vret hx hb hr hlocks hW (⟨hI, trivial⟩) dX3_tick_12
set_option maxHeartbeats 4000000 in
set_option maxRecDepth 100000 in
theorem L_X3_countBurntThere_41_4 {p : Program} {l : Launch} {e : Env} {s : State} {m : MethodId} {args : Array Value} {below : List Frame} {meth : Method} {c : Code} {D : va_G} {cy : Nat → ClassId} {b : Nat} (hx : p.tables.exec = Jvm.exec) (hb : c.code = cX3_countBurntThere) (hr : meth.sig.returnType = ((some .int))) (hml : c.maxLocals = 3) (hown : s.vm.findClass RX3 = some m.cls) (hts : ∀ w ∈ TB, w.before args s = true) (hlocks : meth.locks = false) (S : Nat → Bool) (μ0 : mM) (hS6 : S 6 = true) : ∀ (f : Nat), ∀ (y1 y2 : Int32) (hy : 0 ≤ y2.toInt ∧ y2.toInt ≤ 192) (hf : 192 - y2.toInt < (f : Int)) (μ : mM) (hI : IY S μ0 μ) (H : Heap) (locs : List Loc), m_WA (m_A b LAY) D cy s b LAY μ H locs → ∀ ls : Array Slot, lv_has ls 3 [(0, .ref (b + 41)), (1, .int y1), (2, .int y2)] → W p l e (m_R 0 0 0) s m args below meth c H locs 0 0 (MQ below (m_Qi D cy b LAY (fun r ν => IY S μ0 ν ∧ (True))) args s 0 0 (m_A b LAY)) (F0 m 4 ls []) := by
  intro f
  induction f with
  | zero => intro y1 y2 hy hf; exfalso; omega
  | succ f ih =>
    intro y1 y2 hy hf μ hI H locs hW ls hl
    refine lv_iload_n hx hb dX3_countBurntThere_4 rfl (lv_at hl 2 rfl) ?_
    refine lv_aload_n hx hb dX3_countBurntThere_5 rfl (lv_at hl 0 rfl) ?_
    refine m_geti hx hb hts hown hW (41) 2 rfl rfl cw_3 rfl (by decide) k_X3_18 dX3_countBurntThere_6 ?_
    refine lv_topi (fun x1 ex1 => ?_)
    have bx1 : 0 ≤ x1.toInt ∧ x1.toInt ≤ 192 := by rw [ex1]; exact hI.1 _ _ _ _ rfl
    refine lv_icmp_ge (tgt := 40) hx hb dX3_countBurntThere_9 (by decide) (fun c2 => ?_) (fun c2 => ?_)
    · have i2 := m_c3 (rfl : x1.toInt = _) (rfl : y2.toInt = _) c2
      refine lv_iload_n hx hb dX3_countBurntThere_40 rfl (lv_at hl 1 rfl) ?_
      exact m_iret hx hb hr hlocks hW rfl (⟨hI, trivial⟩) dX3_countBurntThere_41
    · have i2 := m_c4 (rfl : x1.toInt = _) (rfl : y2.toInt = _) c2
      refine lv_iload_n hx hb dX3_countBurntThere_12 rfl (lv_at hl 1 rfl) ?_
      refine lv_aload_n hx hb dX3_countBurntThere_13 rfl (lv_at hl 0 rfl) ?_
      refine m_getr hx hb hts hown hW (41) 12 (44) rfl rfl cw_3 rfl (by decide) k_X3_54 dX3_countBurntThere_14 ?_
      refine lv_iload_n hx hb dX3_countBurntThere_17 rfl (lv_at hl 2 rfl) ?_
      refine m_iald hx hb hW (44) rfl (m_ixI (rfl : y2.toInt = _) (by omega) (by omega)) dX3_countBurntThere_18 ?_
      refine lv_topi (fun x3 ex3 => ?_)
      refine lv_if_ne (tgt := 31) hx hb dX3_countBurntThere_19 (by decide) (fun c4 => ?_) (fun c4 => ?_)
      · have i4 := m_c6 (rfl : x3.toInt = _) (by decide : (0 : Int32).toInt = 0) c4
        refine lv_iconst (v := 0) hx hb dX3_countBurntThere_31 (by decide) ?_
        refine lv_iadd hx hb dX3_countBurntThere_32 ?_
        refine lv_topi (fun x5 ex5 => ?_)
        have r_y1 := m_rng y1
        have tx5 : x5.toInt = y1.toInt + 0 := m_addI ex5 (rfl : y1.toInt = _) (by decide : (0 : Int32).toInt = 0) (by omega) (by omega)
        refine lv_istore_n (lv' := [(1, .int x5), (0, .ref (b + 41)), (2, .int y2)]) hx hb dX3_countBurntThere_33 rfl hl (by decide) rfl (fun ls hl => ?_)
        obtain ⟨x6, ex6⟩ : ∃ z : Int32, z = y2 + 1 := ⟨_, rfl⟩
        refine lv_iinc (v := x6) (lv' := [(2, .int x6), (1, .int x5), (0, .ref (b + 41))]) hx hb dX3_countBurntThere_34 hl (k := 2) rfl (by rw [ex6]; rfl) (by decide) rfl (fun ls hl => ?_)
        have tx6 : x6.toInt = y2.toInt + 1 := m_addI ex6 (rfl : y2.toInt = _) (by decide : (1 : Int32).toInt = 1) (by omega) (by omega)
        refine lv_goto (tgt := 4) hx hb dX3_countBurntThere_37 (by decide) ?_
        exact ih x5 x6 (by omega) (by omega) μ hI _ _ hW ls (lv_sub hl [2, 1, 0] rfl)
      · have i4 := m_c5 (rfl : x3.toInt = _) (by decide : (0 : Int32).toInt = 0) c4
        refine lv_aload_n hx hb dX3_countBurntThere_22 rfl (lv_at hl 0 rfl) ?_
        refine m_getr hx hb hts hown hW (41) 13 (45) rfl rfl cw_3 rfl (by decide) k_X3_57 dX3_countBurntThere_23 ?_
        refine lv_iload_n hx hb dX3_countBurntThere_26 rfl (lv_at hl 2 rfl) ?_
        refine m_iald hx hb hW (45) rfl (m_ixI (rfl : y2.toInt = _) (by omega) (by omega)) dX3_countBurntThere_27 ?_
        refine lv_topi (fun x7 ex7 => ?_)
        refine lv_goto (tgt := 32) hx hb dX3_countBurntThere_28 (by decide) ?_
        refine lv_iadd hx hb dX3_countBurntThere_32 ?_
        refine lv_topi (fun x8 ex8 => ?_)
        refine lv_istore_n (lv' := [(1, .int x8), (0, .ref (b + 41)), (2, .int y2)]) hx hb dX3_countBurntThere_33 rfl hl (by decide) rfl (fun ls hl => ?_)
        obtain ⟨x9, ex9⟩ : ∃ z : Int32, z = y2 + 1 := ⟨_, rfl⟩
        refine lv_iinc (v := x9) (lv' := [(2, .int x9), (1, .int x8), (0, .ref (b + 41))]) hx hb dX3_countBurntThere_34 hl (k := 2) rfl (by rw [ex9]; rfl) (by decide) rfl (fun ls hl => ?_)
        have tx9 : x9.toInt = y2.toInt + 1 := m_addI ex9 (rfl : y2.toInt = _) (by decide : (1 : Int32).toInt = 1) (by omega) (by omega)
        refine lv_goto (tgt := 4) hx hb dX3_countBurntThere_37 (by decide) ?_
        exact ih x8 x9 (by omega) (by omega) μ hI _ _ hW ls (lv_sub hl [2, 1, 0] rfl)
set_option maxHeartbeats 4000000 in
set_option maxRecDepth 100000 in
theorem g_X3_countBurntThere_41 (l : Launch) (D : va_G) (cy : Nat → ClassId) (b : Nat) (S : Nat → Bool) (μ0 : mM) (hS6 : S 6 = true) (μ : mM) (hI : IY S μ0 μ) : m_Ci l yX3_countBurntThere cX3_countBurntThere 3 ((some .int)) 0 D cy b LAY μ [.ref (b + 41)] (fun r ν => IY S μ0 ν ∧ (True)) := by
  unfold m_Ci
  refine m_of (by decide) (Nat.le_of_ble_eq_true rfl) ?_
  intro p e s m below meth c hx hb hr hml hown hts hlocks _ hW ls hl
  have hown : s.vm.findClass RX3 = some m.cls := hown
  have hl : lv_has ls 3 [(0, .ref (b + 41))] := hl
  refine lv_iconst (v := 0) hx hb dX3_countBurntThere_0 (by decide) ?_
  refine lv_istore_n (lv' := [(1, .int 0), (0, .ref (b + 41))]) hx hb dX3_countBurntThere_1 rfl hl (by decide) rfl (fun ls hl => ?_)
  refine lv_iconst (v := 0) hx hb dX3_countBurntThere_2 (by decide) ?_
  refine lv_istore_n (lv' := [(2, .int 0), (1, .int 0), (0, .ref (b + 41))]) hx hb dX3_countBurntThere_3 rfl hl (by decide) rfl (fun ls hl => ?_)
  have l_0 : (0 : Int32).toInt = 0 := by decide
  exact L_X3_countBurntThere_41_4 hx hb hr hml hown hts hlocks S μ0 hS6  193 0 0 (by omega) (by omega) μ hI _ _ hW ls (lv_sub hl [2, 1, 0] rfl)
set_option maxHeartbeats 4000000 in
set_option maxRecDepth 100000 in
theorem g_X3_renew_41 (l : Launch) (D : va_G) (cy : Nat → ClassId) (b : Nat) (S : Nat → Bool) (μ0 : mM) (hS6 : S 6 = true) (k u v w : Int32) (h_k : 1 ≤ k.toInt ∧ k.toInt ≤ 16) (h_u : 1 ≤ u.toInt ∧ u.toInt ≤ 12) (h_v : 0 ≤ v.toInt ∧ v.toInt ≤ 3) (h_w : 1 ≤ w.toInt ∧ w.toInt ≤ 9) (μ : mM) (hI : IY S μ0 μ) : m_Cv l yX3_renew cX3_renew 5 (none) 1 D cy b LAY μ [.ref (b + 41), .int k, .int u, .int v, .int w] (fun ν => IY S μ0 ν ∧ (True)) := by
  unfold m_Cv
  refine m_of (by decide) (Nat.le_of_ble_eq_true rfl) ?_
  intro p e s m below meth c hx hb hr hml hown hts hlocks _ hW ls hl
  have hown : s.vm.findClass RX3 = some m.cls := hown
  have hl : lv_has ls 5 [(0, .ref (b + 41)), (1, .int k), (2, .int u), (3, .int v), (4, .int w)] := hl
  refine lv_aload_n hx hb dX3_renew_0 rfl (lv_at hl 0 rfl) ?_
  refine lv_iload_n hx hb dX3_renew_1 rfl (lv_at hl 1 rfl) ?_
  refine m_puti hx hb hts hown hW (41) 0 rfl rfl cw_3 tyX3_ok nmX3 rfl (by decide) k_X3_11 rfl rfl rfl dX3_renew_2 (fun H locs hW _ => ?_)
  generalize hμ1 : m_si μ (41) 0 k = μ1 at hW
  have hI := hI.si1 hμ1 rfl (by omega) hS6
  refine lv_aload_n hx hb dX3_renew_5 rfl (lv_at hl 0 rfl) ?_
  refine lv_iload_n hx hb dX3_renew_6 rfl (lv_at hl 2 rfl) ?_
  refine m_puti hx hb hts hown hW (41) 1 rfl rfl cw_3 tyX3_ok nmX3 rfl (by decide) k_X3_15 rfl rfl rfl dX3_renew_7 (fun H locs hW _ => ?_)
  generalize hμ2 : m_si μ1 (41) 1 u = μ2 at hW
  have hI := hI.si1 hμ2 rfl (by omega) hS6
  refine lv_aload_n hx hb dX3_renew_10 rfl (lv_at hl 0 rfl) ?_
  refine lv_iload_n hx hb dX3_renew_11 rfl (lv_at hl 1 rfl) ?_
  refine lv_iload_n hx hb dX3_renew_12 rfl (lv_at hl 2 rfl) ?_
  refine lv_imul hx hb dX3_renew_13 ?_
  refine lv_topi (fun x3 ex3 => ?_)
  have bx3 : 0 ≤ x3.toInt ∧ x3.toInt ≤ 192 := m_mulB (a := 16) (c := 12) ex3 (rfl : k.toInt = _) (rfl : u.toInt = _) (by omega) (by omega) (by decide) (by decide)
  refine lv_sipush (v := 192) hx hb dX3_renew_14 (by decide) ?_
  refine va_mmin hx hb (hml.trans hl.1.symm) hown (hts _ k_X3_76) (hts _ kM_min_s) (hts _ kM_n) (hts _ kM_min_c) (Nat.le_of_ble_eq_true rfl) (Nat.le_of_ble_eq_true rfl) (Nat.le_of_ble_eq_true rfl) (Nat.le_of_ble_eq_true rfl) dX3_renew_17 ?_
  refine lv_topi (fun x4 ex4 => ?_)
  have tx4 : x4.toInt = min (x3.toInt) (192) := m_min ex4 (rfl : x3.toInt = _) (by decide : (192 : Int32).toInt = 192)
  refine m_puti hx hb hts hown hW (41) 2 rfl rfl cw_3 tyX3_ok nmX3 rfl (by decide) k_X3_18 rfl rfl rfl dX3_renew_20 (fun H locs hW _ => ?_)
  generalize hμ5 : m_si μ2 (41) 2 x4 = μ5 at hW
  have hI := hI.si1 hμ5 rfl (by omega) hS6
  refine lv_aload_n hx hb dX3_renew_23 rfl (lv_at hl 0 rfl) ?_
  refine lv_iload_n hx hb dX3_renew_24 rfl (lv_at hl 3 rfl) ?_
  refine m_puti hx hb hts hown hW (41) 3 rfl rfl cw_3 tyX3_ok nmX3 rfl (by decide) k_X3_21 rfl rfl rfl dX3_renew_25 (fun H locs hW _ => ?_)
  generalize hμ6 : m_si μ5 (41) 3 v = μ6 at hW
  have hI := hI.si1 hμ6 rfl (by omega) hS6
  refine lv_aload_n hx hb dX3_renew_28 rfl (lv_at hl 0 rfl) ?_
  refine lv_iload hx hb dX3_renew_29 (lv_at hl 4 rfl) ?_
  refine m_puti hx hb hts hown hW (41) 4 rfl rfl cw_3 tyX3_ok nmX3 rfl (by decide) k_X3_24 rfl rfl rfl dX3_renew_31 (fun H locs hW _ => ?_)
  generalize hμ7 : m_si μ6 (41) 4 w = μ7 at hW
  have hI := hI.si0 hμ7 rfl hS6
  refine lv_aload_n hx hb dX3_renew_34 rfl (lv_at hl 0 rfl) ?_
  refine lv_iconst (v := 0) hx hb dX3_renew_35 (by decide) ?_
  refine m_puti hx hb hts hown hW (41) 5 rfl rfl cw_3 tyX3_ok nmX3 rfl (by decide) k_X3_27 rfl rfl rfl dX3_renew_36 (fun H locs hW _ => ?_)
  generalize hμ8 : m_si μ7 (41) 5 0 = μ8 at hW
  have hI := hI.si0 hμ8 rfl hS6
  refine lv_aload_n hx hb dX3_renew_39 rfl (lv_at hl 0 rfl) ?_
  refine lv_iconst (v := 0) hx hb dX3_renew_40 (by decide) ?_
  refine m_puti hx hb hts hown hW (41) 6 rfl rfl cw_3 tyX3_ok nmX3 rfl (by decide) k_X3_30 rfl rfl rfl dX3_renew_41 (fun H locs hW _ => ?_)
  generalize hμ9 : m_si μ8 (41) 6 0 = μ9 at hW
  have hI := hI.si0 hμ9 rfl hS6
  refine lv_aload_n hx hb dX3_renew_44 rfl (lv_at hl 0 rfl) ?_
  refine lv_lconst (v := 0) hx hb dX3_renew_45 (by decide) ?_
  refine m_putl hx hb hts hown hW (41) 7 rfl rfl cw_3 tyX3_ok nmX3 rfl (by decide) k_X3_33 rfl rfl rfl dX3_renew_46 (fun H locs hW _ => ?_)
  generalize hμ10 : m_sl μ9 (41) 7 0 = μ10 at hW
  have hI := hI.sl hμ10 hS6
  refine lv_aload_n hx hb dX3_renew_49 rfl (lv_at hl 0 rfl) ?_
  refine lv_lconst (v := 0) hx hb dX3_renew_50 (by decide) ?_
  refine m_putl hx hb hts hown hW (41) 8 rfl rfl cw_3 tyX3_ok nmX3 rfl (by decide) k_X3_37 rfl rfl rfl dX3_renew_51 (fun H locs hW _ => ?_)
  generalize hμ11 : m_sl μ10 (41) 8 0 = μ11 at hW
  have hI := hI.sl hμ11 hS6
  refine lv_aload_n hx hb dX3_renew_54 rfl (lv_at hl 0 rfl) ?_
  refine lv_lconst (v := 0) hx hb dX3_renew_55 (by decide) ?_
  refine m_putl hx hb hts hown hW (41) 9 rfl rfl cw_3 tyX3_ok nmX3 rfl (by decide) k_X3_40 rfl rfl rfl dX3_renew_56 (fun H locs hW _ => ?_)
  generalize hμ12 : m_sl μ11 (41) 9 0 = μ12 at hW
  have hI := hI.sl hμ12 hS6
  refine lv_aload_n hx hb dX3_renew_59 rfl (lv_at hl 0 rfl) ?_
  refine m_getr hx hb hts hown hW (41) 10 (42) rfl rfl cw_3 rfl (by decide) k_X3_46 dX3_renew_60 ?_
  refine m_aV hW (m_runV (As := []) (rest := []) hx hb hml hown hts hW (42) (g_X1_renew l D cy b S μ0 hS6 μ12 hI) mi_X1_renew k_X3_82 rfl rfl rfl hl.1 rfl (Nat.le_of_ble_eq_true rfl) dX3_renew_63 ⟨Nat.le_of_ble_eq_true rfl, Nat.le_of_ble_eq_true rfl⟩ ⟨Nat.le_of_ble_eq_true rfl, Nat.le_of_ble_eq_true rfl⟩) (fun μ13 H locs q13 hW => ?_)
  obtain ⟨hI, q13⟩ := q13
  refine lv_aload_n hx hb dX3_renew_66 rfl (lv_at hl 0 rfl) ?_
  refine m_getr hx hb hts hown hW (41) 11 (43) rfl rfl cw_3 rfl (by decide) k_X3_50 dX3_renew_67 ?_
  refine lv_iconst (v := 0) hx hb dX3_renew_70 (by decide) ?_
  have l_0 : (0 : Int32).toInt = 0 := by decide
  refine m_aV hW (m_runS (As := [.ref (b + 43), .int 0]) (rest := []) hx hb hml hown hts hW (g_J7_fill_53178 l D cy b S μ0 43 192 rfl (by decide) (fun _ => rfl) (fun _ => hS6) 0 μ13 hI) ms_J7_fill_53178 k_X3_85 rfl hl.1 rfl (Nat.le_of_ble_eq_true rfl) dX3_renew_71 ⟨Nat.le_of_ble_eq_true rfl, Nat.le_of_ble_eq_true rfl⟩ ⟨Nat.le_of_ble_eq_true rfl, Nat.le_of_ble_eq_true rfl⟩) (fun μ14 H locs q14 hW => ?_)
  obtain ⟨hI, q14⟩ := q14
  refine lv_aload_n hx hb dX3_renew_74 rfl (lv_at hl 0 rfl) ?_
  refine m_getr hx hb hts hown hW (41) 12 (44) rfl rfl cw_3 rfl (by decide) k_X3_54 dX3_renew_75 ?_
  refine lv_iconst (v := 0) hx hb dX3_renew_78 (by decide) ?_
  refine m_aV hW (m_runS (As := [.ref (b + 44), .int 0]) (rest := []) hx hb hml hown hts hW (g_J7_fill_53178 l D cy b S μ0 44 192 rfl (by decide) (fun _ => rfl) (fun _ => hS6) 0 μ14 hI) ms_J7_fill_53178 k_X3_85 rfl hl.1 rfl (Nat.le_of_ble_eq_true rfl) dX3_renew_79 ⟨Nat.le_of_ble_eq_true rfl, Nat.le_of_ble_eq_true rfl⟩ ⟨Nat.le_of_ble_eq_true rfl, Nat.le_of_ble_eq_true rfl⟩) (fun μ15 H locs q15 hW => ?_)
  obtain ⟨hI, q15⟩ := q15
  refine lv_aload_n hx hb dX3_renew_82 rfl (lv_at hl 0 rfl) ?_
  refine m_getr hx hb hts hown hW (41) 13 (45) rfl rfl cw_3 rfl (by decide) k_X3_57 dX3_renew_83 ?_
  refine lv_iconst (v := 0) hx hb dX3_renew_86 (by decide) ?_
  refine m_aV hW (m_runS (As := [.ref (b + 45), .int 0]) (rest := []) hx hb hml hown hts hW (g_J7_fill_53178 l D cy b S μ0 45 192 rfl (by decide) (fun _ => rfl) (fun _ => hS6) 0 μ15 hI) ms_J7_fill_53178 k_X3_85 rfl hl.1 rfl (Nat.le_of_ble_eq_true rfl) dX3_renew_87 ⟨Nat.le_of_ble_eq_true rfl, Nat.le_of_ble_eq_true rfl⟩ ⟨Nat.le_of_ble_eq_true rfl, Nat.le_of_ble_eq_true rfl⟩) (fun μ16 H locs q16 hW => ?_)
  obtain ⟨hI, q16⟩ := q16
  refine lv_aload_n hx hb dX3_renew_90 rfl (lv_at hl 0 rfl) ?_
  refine m_getr hx hb hts hown hW (41) 14 (46) rfl rfl cw_3 rfl (by decide) k_X3_60 dX3_renew_91 ?_
  refine lv_iconst (v := 0) hx hb dX3_renew_94 (by decide) ?_
  refine m_aV hW (m_runS (As := [.ref (b + 46), .int 0]) (rest := []) hx hb hml hown hts hW (g_J7_fill_53178 l D cy b S μ0 46 192 rfl (by decide) (fun _ => rfl) (fun _ => hS6) 0 μ16 hI) ms_J7_fill_53178 k_X3_85 rfl hl.1 rfl (Nat.le_of_ble_eq_true rfl) dX3_renew_95 ⟨Nat.le_of_ble_eq_true rfl, Nat.le_of_ble_eq_true rfl⟩ ⟨Nat.le_of_ble_eq_true rfl, Nat.le_of_ble_eq_true rfl⟩) (fun μ17 H locs q17 hW => ?_)
  obtain ⟨hI, q17⟩ := q17
  exact m_vret hx hb hr hlocks hW (⟨hI, trivial⟩) dX3_renew_98
set_option maxHeartbeats 4000000 in
set_option maxRecDepth 100000 in
theorem g_X3_condition_41 (l : Launch) (D : va_G) (cy : Nat → ClassId) (b : Nat) (k : Int32) (h_k : 0 ≤ k.toInt ∧ k.toInt ≤ 191) (μ : mM) (hI : IX μ) : m_Ci l yX3_condition cX3_condition 2 ((some .int)) 0 D cy b LAY μ [.ref (b + 41), .int k] (fun r ν => μ = ν ∧ (True)) := by
  unfold m_Ci
  refine m_of (by decide) (Nat.le_of_ble_eq_true rfl) ?_
  intro p e s m below meth c hx hb hr hml hown hts hlocks _ hW ls hl
  have hown : s.vm.findClass RX3 = some m.cls := hown
  have hl : lv_has ls 2 [(0, .ref (b + 41)), (1, .int k)] := hl
  refine lv_aload_n hx hb dX3_condition_0 rfl (lv_at hl 0 rfl) ?_
  refine m_getr hx hb hts hown hW (41) 12 (44) rfl rfl cw_3 rfl (by decide) k_X3_54 dX3_condition_1 ?_
  refine lv_iload_n hx hb dX3_condition_4 rfl (lv_at hl 1 rfl) ?_
  refine m_iald hx hb hW (44) rfl (m_ixI (rfl : k.toInt = _) (by omega) (by omega)) dX3_condition_5 ?_
  refine lv_topi (fun x1 ex1 => ?_)
  refine lv_if_ne (tgt := 22) hx hb dX3_condition_6 (by decide) (fun c2 => ?_) (fun c2 => ?_)
  · have i2 := m_c6 (rfl : x1.toInt = _) (by decide : (0 : Int32).toInt = 0) c2
    refine lv_aload_n hx hb dX3_condition_22 rfl (lv_at hl 0 rfl) ?_
    refine m_getr hx hb hts hown hW (41) 12 (44) rfl rfl cw_3 rfl (by decide) k_X3_54 dX3_condition_23 ?_
    refine lv_iload_n hx hb dX3_condition_26 rfl (lv_at hl 1 rfl) ?_
    refine m_iald hx hb hW (44) rfl (m_ixI (rfl : k.toInt = _) (by omega) (by omega)) dX3_condition_27 ?_
    refine lv_topi (fun x3 ex3 => ?_)
    have ex3 : x3 = x1 := by rw [ex3]; exact ex1.symm
    have ex3 := ex3.symm
    subst ex3
    exact m_iret hx hb hr hlocks hW rfl (⟨rfl, trivial⟩) dX3_condition_28
  · have i2 := m_c5 (rfl : x1.toInt = _) (by decide : (0 : Int32).toInt = 0) c2
    refine lv_aload_n hx hb dX3_condition_9 rfl (lv_at hl 0 rfl) ?_
    refine m_getr hx hb hts hown hW (41) 14 (46) rfl rfl cw_3 rfl (by decide) k_X3_60 dX3_condition_10 ?_
    refine lv_iload_n hx hb dX3_condition_13 rfl (lv_at hl 1 rfl) ?_
    refine m_iald hx hb hW (46) rfl (m_ixI (rfl : k.toInt = _) (by omega) (by omega)) dX3_condition_14 ?_
    refine lv_topi (fun x4 ex4 => ?_)
    refine lv_if_eq (tgt := 22) hx hb dX3_condition_15 (by decide) (fun c5 => ?_) (fun c5 => ?_)
    · have i5 := m_c5 (rfl : x4.toInt = _) (by decide : (0 : Int32).toInt = 0) c5
      refine lv_aload_n hx hb dX3_condition_22 rfl (lv_at hl 0 rfl) ?_
      refine m_getr hx hb hts hown hW (41) 12 (44) rfl rfl cw_3 rfl (by decide) k_X3_54 dX3_condition_23 ?_
      refine lv_iload_n hx hb dX3_condition_26 rfl (lv_at hl 1 rfl) ?_
      refine m_iald hx hb hW (44) rfl (m_ixI (rfl : k.toInt = _) (by omega) (by omega)) dX3_condition_27 ?_
      refine lv_topi (fun x6 ex6 => ?_)
      have ex6 : x6 = x1 := by rw [ex6]; exact ex1.symm
      have ex6 := ex6.symm
      subst ex6
      exact m_iret hx hb hr hlocks hW rfl (⟨rfl, trivial⟩) dX3_condition_28
    · have i5 := m_c6 (rfl : x4.toInt = _) (by decide : (0 : Int32).toInt = 0) c5
      refine lv_iconst (v := 3) hx hb dX3_condition_18 (by decide) ?_
      refine lv_goto (tgt := 28) hx hb dX3_condition_19 (by decide) ?_
      exact m_iret hx hb hr hlocks hW rfl (⟨rfl, trivial⟩) dX3_condition_28
set_option maxHeartbeats 4000000 in
set_option maxRecDepth 100000 in
theorem L_X3_countState_41_4 {p : Program} {l : Launch} {e : Env} {s : State} {m : MethodId} {args : Array Value} {below : List Frame} {meth : Method} {c : Code} {D : va_G} {cy : Nat → ClassId} {b : Nat} (hx : p.tables.exec = Jvm.exec) (hb : c.code = cX3_countState) (hr : meth.sig.returnType = ((some .int))) (hml : c.maxLocals = 4) (hown : s.vm.findClass RX3 = some m.cls) (hts : ∀ w ∈ TB, w.before args s = true) (hlocks : meth.locks = false) (S : Nat → Bool) (μ0 : mM) (hS6 : S 6 = true) (k : Int32) : ∀ (f : Nat), ∀ (y2 y3 : Int32) (hy : 0 ≤ y3.toInt ∧ y3.toInt ≤ 192) (hf : 192 - y3.toInt < (f : Int)) (μ : mM) (hI : IY S μ0 μ) (H : Heap) (locs : List Loc), m_WA (m_A b LAY) D cy s b LAY μ H locs → ∀ ls : Array Slot, lv_has ls 4 [(0, .ref (b + 41)), (1, .int k), (2, .int y2), (3, .int y3)] → W p l e (m_R 0 0 0) s m args below meth c H locs 0 0 (MQ below (m_Qi D cy b LAY (fun r ν => IY S μ0 ν ∧ (True))) args s 0 0 (m_A b LAY)) (F0 m 4 ls []) := by
  intro f
  induction f with
  | zero => intro y2 y3 hy hf; exfalso; omega
  | succ f ih =>
    intro y2 y3 hy hf μ hI H locs hW ls hl
    refine lv_iload_n hx hb dX3_countState_4 rfl (lv_at hl 3 rfl) ?_
    refine lv_aload_n hx hb dX3_countState_5 rfl (lv_at hl 0 rfl) ?_
    refine m_geti hx hb hts hown hW (41) 2 rfl rfl cw_3 rfl (by decide) k_X3_18 dX3_countState_6 ?_
    refine lv_topi (fun x1 ex1 => ?_)
    have bx1 : 0 ≤ x1.toInt ∧ x1.toInt ≤ 192 := by rw [ex1]; exact hI.1 _ _ _ _ rfl
    refine lv_icmp_ge (tgt := 36) hx hb dX3_countState_9 (by decide) (fun c2 => ?_) (fun c2 => ?_)
    · have i2 := m_c3 (rfl : x1.toInt = _) (rfl : y3.toInt = _) c2
      refine lv_iload_n hx hb dX3_countState_36 rfl (lv_at hl 2 rfl) ?_
      exact m_iret hx hb hr hlocks hW rfl (⟨hI, trivial⟩) dX3_countState_37
    · have i2 := m_c4 (rfl : x1.toInt = _) (rfl : y3.toInt = _) c2
      refine lv_iload_n hx hb dX3_countState_12 rfl (lv_at hl 2 rfl) ?_
      refine lv_aload_n hx hb dX3_countState_13 rfl (lv_at hl 0 rfl) ?_
      refine m_getr hx hb hts hown hW (41) 12 (44) rfl rfl cw_3 rfl (by decide) k_X3_54 dX3_countState_14 ?_
      refine lv_iload_n hx hb dX3_countState_17 rfl (lv_at hl 3 rfl) ?_
      refine m_iald hx hb hW (44) rfl (m_ixI (rfl : y3.toInt = _) (by omega) (by omega)) dX3_countState_18 ?_
      refine lv_topi (fun x3 ex3 => ?_)
      refine lv_iload_n hx hb dX3_countState_19 rfl (lv_at hl 1 rfl) ?_
      refine lv_icmp_ne (tgt := 27) hx hb dX3_countState_20 (by decide) (fun c4 => ?_) (fun c4 => ?_)
      · have i4 := m_c6 (rfl : x3.toInt = _) (rfl : k.toInt = _) c4
        refine lv_iconst (v := 0) hx hb dX3_countState_27 (by decide) ?_
        refine lv_iadd hx hb dX3_countState_28 ?_
        refine lv_topi (fun x5 ex5 => ?_)
        have r_y2 := m_rng y2
        have tx5 : x5.toInt = y2.toInt + 0 := m_addI ex5 (rfl : y2.toInt = _) (by decide : (0 : Int32).toInt = 0) (by omega) (by omega)
        refine lv_istore_n (lv' := [(2, .int x5), (0, .ref (b + 41)), (1, .int k), (3, .int y3)]) hx hb dX3_countState_29 rfl hl (by decide) rfl (fun ls hl => ?_)
        obtain ⟨x6, ex6⟩ : ∃ z : Int32, z = y3 + 1 := ⟨_, rfl⟩
        refine lv_iinc (v := x6) (lv' := [(3, .int x6), (2, .int x5), (0, .ref (b + 41)), (1, .int k)]) hx hb dX3_countState_30 hl (k := 3) rfl (by rw [ex6]; rfl) (by decide) rfl (fun ls hl => ?_)
        have tx6 : x6.toInt = y3.toInt + 1 := m_addI ex6 (rfl : y3.toInt = _) (by decide : (1 : Int32).toInt = 1) (by omega) (by omega)
        refine lv_goto (tgt := 4) hx hb dX3_countState_33 (by decide) ?_
        exact ih x5 x6 (by omega) (by omega) μ hI _ _ hW ls (lv_sub hl [2, 3, 1, 0] rfl)
      · have i4 := m_c5 (rfl : x3.toInt = _) (rfl : k.toInt = _) c4
        refine lv_iconst (v := 1) hx hb dX3_countState_23 (by decide) ?_
        refine lv_goto (tgt := 28) hx hb dX3_countState_24 (by decide) ?_
        refine lv_iadd hx hb dX3_countState_28 ?_
        refine lv_topi (fun x7 ex7 => ?_)
        refine lv_istore_n (lv' := [(2, .int x7), (0, .ref (b + 41)), (1, .int k), (3, .int y3)]) hx hb dX3_countState_29 rfl hl (by decide) rfl (fun ls hl => ?_)
        obtain ⟨x8, ex8⟩ : ∃ z : Int32, z = y3 + 1 := ⟨_, rfl⟩
        refine lv_iinc (v := x8) (lv' := [(3, .int x8), (2, .int x7), (0, .ref (b + 41)), (1, .int k)]) hx hb dX3_countState_30 hl (k := 3) rfl (by rw [ex8]; rfl) (by decide) rfl (fun ls hl => ?_)
        have tx8 : x8.toInt = y3.toInt + 1 := m_addI ex8 (rfl : y3.toInt = _) (by decide : (1 : Int32).toInt = 1) (by omega) (by omega)
        refine lv_goto (tgt := 4) hx hb dX3_countState_33 (by decide) ?_
        exact ih x7 x8 (by omega) (by omega) μ hI _ _ hW ls (lv_sub hl [2, 3, 1, 0] rfl)
set_option maxHeartbeats 4000000 in
set_option maxRecDepth 100000 in
theorem g_X3_countState_41 (l : Launch) (D : va_G) (cy : Nat → ClassId) (b : Nat) (S : Nat → Bool) (μ0 : mM) (hS6 : S 6 = true) (k : Int32) (μ : mM) (hI : IY S μ0 μ) : m_Ci l yX3_countState cX3_countState 4 ((some .int)) 0 D cy b LAY μ [.ref (b + 41), .int k] (fun r ν => IY S μ0 ν ∧ (True)) := by
  unfold m_Ci
  refine m_of (by decide) (Nat.le_of_ble_eq_true rfl) ?_
  intro p e s m below meth c hx hb hr hml hown hts hlocks _ hW ls hl
  have hown : s.vm.findClass RX3 = some m.cls := hown
  have hl : lv_has ls 4 [(0, .ref (b + 41)), (1, .int k)] := hl
  refine lv_iconst (v := 0) hx hb dX3_countState_0 (by decide) ?_
  refine lv_istore_n (lv' := [(2, .int 0), (0, .ref (b + 41)), (1, .int k)]) hx hb dX3_countState_1 rfl hl (by decide) rfl (fun ls hl => ?_)
  refine lv_iconst (v := 0) hx hb dX3_countState_2 (by decide) ?_
  refine lv_istore_n (lv' := [(3, .int 0), (2, .int 0), (0, .ref (b + 41)), (1, .int k)]) hx hb dX3_countState_3 rfl hl (by decide) rfl (fun ls hl => ?_)
  have l_0 : (0 : Int32).toInt = 0 := by decide
  exact L_X3_countState_41_4 hx hb hr hml hown hts hlocks S μ0 hS6 k  193 0 0 (by omega) (by omega) μ hI _ _ hW ls (lv_sub hl [2, 3, 1, 0] rfl)
set_option maxHeartbeats 4000000 in
set_option maxRecDepth 100000 in
theorem L_X3_countTipped_41_4 {p : Program} {l : Launch} {e : Env} {s : State} {m : MethodId} {args : Array Value} {below : List Frame} {meth : Method} {c : Code} {D : va_G} {cy : Nat → ClassId} {b : Nat} (hx : p.tables.exec = Jvm.exec) (hb : c.code = cX3_countTipped) (hr : meth.sig.returnType = ((some .int))) (hml : c.maxLocals = 3) (hown : s.vm.findClass RX3 = some m.cls) (hts : ∀ w ∈ TB, w.before args s = true) (hlocks : meth.locks = false) (S : Nat → Bool) (μ0 : mM) (hS6 : S 6 = true) : ∀ (f : Nat), ∀ (y1 y2 : Int32) (hy : 0 ≤ y2.toInt ∧ y2.toInt ≤ 192) (hf : 192 - y2.toInt < (f : Int)) (μ : mM) (hI : IY S μ0 μ) (H : Heap) (locs : List Loc), m_WA (m_A b LAY) D cy s b LAY μ H locs → ∀ ls : Array Slot, lv_has ls 3 [(0, .ref (b + 41)), (1, .int y1), (2, .int y2)] → W p l e (m_R 0 0 0) s m args below meth c H locs 0 0 (MQ below (m_Qi D cy b LAY (fun r ν => IY S μ0 ν ∧ (True))) args s 0 0 (m_A b LAY)) (F0 m 4 ls []) := by
  intro f
  induction f with
  | zero => intro y1 y2 hy hf; exfalso; omega
  | succ f ih =>
    intro y1 y2 hy hf μ hI H locs hW ls hl
    refine lv_iload_n hx hb dX3_countTipped_4 rfl (lv_at hl 2 rfl) ?_
    refine lv_aload_n hx hb dX3_countTipped_5 rfl (lv_at hl 0 rfl) ?_
    refine m_geti hx hb hts hown hW (41) 2 rfl rfl cw_3 rfl (by decide) k_X3_18 dX3_countTipped_6 ?_
    refine lv_topi (fun x1 ex1 => ?_)
    have bx1 : 0 ≤ x1.toInt ∧ x1.toInt ≤ 192 := by rw [ex1]; exact hI.1 _ _ _ _ rfl
    refine lv_icmp_ge (tgt := 27) hx hb dX3_countTipped_9 (by decide) (fun c2 => ?_) (fun c2 => ?_)
    · have i2 := m_c3 (rfl : x1.toInt = _) (rfl : y2.toInt = _) c2
      refine lv_iload_n hx hb dX3_countTipped_27 rfl (lv_at hl 1 rfl) ?_
      exact m_iret hx hb hr hlocks hW rfl (⟨hI, trivial⟩) dX3_countTipped_28
    · have i2 := m_c4 (rfl : x1.toInt = _) (rfl : y2.toInt = _) c2
      refine lv_iload_n hx hb dX3_countTipped_12 rfl (lv_at hl 1 rfl) ?_
      refine lv_aload_n hx hb dX3_countTipped_13 rfl (lv_at hl 0 rfl) ?_
      refine m_getr hx hb hts hown hW (41) 14 (46) rfl rfl cw_3 rfl (by decide) k_X3_60 dX3_countTipped_14 ?_
      refine lv_iload_n hx hb dX3_countTipped_17 rfl (lv_at hl 2 rfl) ?_
      refine m_iald hx hb hW (46) rfl (m_ixI (rfl : y2.toInt = _) (by omega) (by omega)) dX3_countTipped_18 ?_
      refine lv_topi (fun x3 ex3 => ?_)
      refine lv_iadd hx hb dX3_countTipped_19 ?_
      refine lv_topi (fun x4 ex4 => ?_)
      refine lv_istore_n (lv' := [(1, .int x4), (0, .ref (b + 41)), (2, .int y2)]) hx hb dX3_countTipped_20 rfl hl (by decide) rfl (fun ls hl => ?_)
      obtain ⟨x5, ex5⟩ : ∃ z : Int32, z = y2 + 1 := ⟨_, rfl⟩
      refine lv_iinc (v := x5) (lv' := [(2, .int x5), (1, .int x4), (0, .ref (b + 41))]) hx hb dX3_countTipped_21 hl (k := 2) rfl (by rw [ex5]; rfl) (by decide) rfl (fun ls hl => ?_)
      have tx5 : x5.toInt = y2.toInt + 1 := m_addI ex5 (rfl : y2.toInt = _) (by decide : (1 : Int32).toInt = 1) (by omega) (by omega)
      refine lv_goto (tgt := 4) hx hb dX3_countTipped_24 (by decide) ?_
      exact ih x4 x5 (by omega) (by omega) μ hI _ _ hW ls (lv_sub hl [2, 1, 0] rfl)
set_option maxHeartbeats 4000000 in
set_option maxRecDepth 100000 in
theorem g_X3_countTipped_41 (l : Launch) (D : va_G) (cy : Nat → ClassId) (b : Nat) (S : Nat → Bool) (μ0 : mM) (hS6 : S 6 = true) (μ : mM) (hI : IY S μ0 μ) : m_Ci l yX3_countTipped cX3_countTipped 3 ((some .int)) 0 D cy b LAY μ [.ref (b + 41)] (fun r ν => IY S μ0 ν ∧ (True)) := by
  unfold m_Ci
  refine m_of (by decide) (Nat.le_of_ble_eq_true rfl) ?_
  intro p e s m below meth c hx hb hr hml hown hts hlocks _ hW ls hl
  have hown : s.vm.findClass RX3 = some m.cls := hown
  have hl : lv_has ls 3 [(0, .ref (b + 41))] := hl
  refine lv_iconst (v := 0) hx hb dX3_countTipped_0 (by decide) ?_
  refine lv_istore_n (lv' := [(1, .int 0), (0, .ref (b + 41))]) hx hb dX3_countTipped_1 rfl hl (by decide) rfl (fun ls hl => ?_)
  refine lv_iconst (v := 0) hx hb dX3_countTipped_2 (by decide) ?_
  refine lv_istore_n (lv' := [(2, .int 0), (1, .int 0), (0, .ref (b + 41))]) hx hb dX3_countTipped_3 rfl hl (by decide) rfl (fun ls hl => ?_)
  have l_0 : (0 : Int32).toInt = 0 := by decide
  exact L_X3_countTipped_41_4 hx hb hr hml hown hts hlocks S μ0 hS6  193 0 0 (by omega) (by omega) μ hI _ _ hW ls (lv_sub hl [2, 1, 0] rfl)
set_option maxHeartbeats 4000000 in
set_option maxRecDepth 100000 in
theorem L_X3_countParts_41_11 {p : Program} {l : Launch} {e : Env} {s : State} {m : MethodId} {args : Array Value} {below : List Frame} {meth : Method} {c : Code} {D : va_G} {cy : Nat → ClassId} {b : Nat} (hx : p.tables.exec = Jvm.exec) (hb : c.code = cX3_countParts) (hr : meth.sig.returnType = ((some .int))) (hml : c.maxLocals = 4) (hown : s.vm.findClass RX3 = some m.cls) (hts : ∀ w ∈ TB, w.before args s = true) (hlocks : meth.locks = false) (S : Nat → Bool) (μ0 : mM) (hS6 : S 6 = true) (k : Int32) (h_k : 0 ≤ k.toInt ∧ k.toInt ≤ 1) : ∀ (f : Nat), ∀ (y2 y3 : Int32) (hy : 0 ≤ y3.toInt ∧ y3.toInt ≤ 192) (hf : 192 - y3.toInt < (f : Int)) (μ : mM) (hI : IY S μ0 μ) (H : Heap) (locs : List Loc), m_WA (m_A b LAY) D cy s b LAY μ H locs → ∀ ls : Array Slot, lv_has ls 4 [(0, .ref (b + 41)), (1, .int k), (2, .int y2), (3, .int y3)] → W p l e (m_R 2 0 0) s m args below meth c H locs 0 0 (MQ below (m_Qi D cy b LAY (fun r ν => IY S μ0 ν ∧ (True))) args s 0 0 (m_A b LAY)) (F0 m 11 ls []) := by
  intro f
  induction f with
  | zero => intro y2 y3 hy hf; exfalso; omega
  | succ f ih =>
    intro y2 y3 hy hf μ hI H locs hW ls hl
    refine lv_iload_n hx hb dX3_countParts_11 rfl (lv_at hl 3 rfl) ?_
    refine lv_aload_n hx hb dX3_countParts_12 rfl (lv_at hl 0 rfl) ?_
    refine m_geti hx hb hts hown hW (41) 2 rfl rfl cw_3 rfl (by decide) k_X3_18 dX3_countParts_13 ?_
    refine lv_topi (fun x1 ex1 => ?_)
    have bx1 : 0 ≤ x1.toInt ∧ x1.toInt ≤ 192 := by rw [ex1]; exact hI.1 _ _ _ _ rfl
    refine lv_icmp_ge (tgt := 61) hx hb dX3_countParts_16 (by decide) (fun c2 => ?_) (fun c2 => ?_)
    · have i2 := m_c3 (rfl : x1.toInt = _) (rfl : y3.toInt = _) c2
      refine lv_iload_n hx hb dX3_countParts_61 rfl (lv_at hl 2 rfl) ?_
      exact m_iret hx hb hr hlocks hW rfl (⟨hI, trivial⟩) dX3_countParts_62
    · have i2 := m_c4 (rfl : x1.toInt = _) (rfl : y3.toInt = _) c2
      refine lv_aload_n hx hb dX3_countParts_19 rfl (lv_at hl 0 rfl) ?_
      refine m_getr hx hb hts hown hW (41) 17 (49) rfl rfl cw_3 rfl (by decide) k_X3_72 dX3_countParts_20 ?_
      refine lv_aload_n hx hb dX3_countParts_23 rfl (lv_at hl 0 rfl) ?_
      refine lv_iload_n hx hb dX3_countParts_24 rfl (lv_at hl 3 rfl) ?_
      refine m_aV hW (m_runV (As := [.ref (b + 41), .int y3]) (rest := []) hx hb hml hown hts hW (49) (g_X2_gather_41 l D cy b S μ0 hS6 y3 μ hI) mi_X2_gather k_X3_188 rfl rfl rfl hl.1 rfl (Nat.le_of_ble_eq_true rfl) dX3_countParts_25 ⟨Nat.le_of_ble_eq_true rfl, Nat.le_of_ble_eq_true rfl⟩ ⟨Nat.le_of_ble_eq_true rfl, Nat.le_of_ble_eq_true rfl⟩) (fun μ3 H locs q3 hW => ?_)
      obtain ⟨hI, q3⟩ := q3
      refine lv_aload_n hx hb dX3_countParts_28 rfl (lv_at hl 0 rfl) ?_
      refine m_getr hx hb hts hown hW (41) 17 (49) rfl rfl cw_3 rfl (by decide) k_X3_72 dX3_countParts_29 ?_
      refine m_geti hx hb hts hown hW (49) 2 rfl rfl cw_2 rfl (by decide) k_X3_198 dX3_countParts_32 ?_
      refine lv_topi (fun x4 ex4 => ?_)
      have bx4 : 0 ≤ x4.toInt ∧ x4.toInt ≤ 192 := by rw [ex4]; exact hI.1 _ _ _ _ rfl
      refine lv_if_le (tgt := 55) hx hb dX3_countParts_35 (by decide) (fun c5 => ?_) (fun c5 => ?_)
      · have i5 := m_c3 (rfl : x4.toInt = _) (by decide : (0 : Int32).toInt = 0) c5
        obtain ⟨x6, ex6⟩ : ∃ z : Int32, z = y3 + 1 := ⟨_, rfl⟩
        refine lv_iinc (v := x6) (lv' := [(3, .int x6), (0, .ref (b + 41)), (1, .int k), (2, .int y2)]) hx hb dX3_countParts_55 hl (k := 3) rfl (by rw [ex6]; rfl) (by decide) rfl (fun ls hl => ?_)
        have tx6 : x6.toInt = y3.toInt + 1 := m_addI ex6 (rfl : y3.toInt = _) (by decide : (1 : Int32).toInt = 1) (by omega) (by omega)
        refine lv_goto (tgt := 11) hx hb dX3_countParts_58 (by decide) ?_
        exact ih y2 x6 (by omega) (by omega) μ3 hI _ _ hW ls (lv_sub hl [1, 2, 3, 0] rfl)
      · have i5 := m_c4 (rfl : x4.toInt = _) (by decide : (0 : Int32).toInt = 0) c5
        refine lv_iload_n hx hb dX3_countParts_38 rfl (lv_at hl 1 rfl) ?_
        refine lv_if_eq (tgt := 52) hx hb dX3_countParts_39 (by decide) (fun c7 => ?_) (fun c7 => ?_)
        · have i7 := m_c5 (rfl : k.toInt = _) (by decide : (0 : Int32).toInt = 0) c7
          obtain ⟨x8, ex8⟩ : ∃ z : Int32, z = y2 + 1 := ⟨_, rfl⟩
          refine lv_iinc (v := x8) (lv' := [(2, .int x8), (0, .ref (b + 41)), (1, .int k), (3, .int y3)]) hx hb dX3_countParts_52 hl (k := 2) rfl (by rw [ex8]; rfl) (by decide) rfl (fun ls hl => ?_)
          obtain ⟨x9, ex9⟩ : ∃ z : Int32, z = y3 + 1 := ⟨_, rfl⟩
          refine lv_iinc (v := x9) (lv' := [(3, .int x9), (2, .int x8), (0, .ref (b + 41)), (1, .int k)]) hx hb dX3_countParts_55 hl (k := 3) rfl (by rw [ex9]; rfl) (by decide) rfl (fun ls hl => ?_)
          have tx9 : x9.toInt = y3.toInt + 1 := m_addI ex9 (rfl : y3.toInt = _) (by decide : (1 : Int32).toInt = 1) (by omega) (by omega)
          refine lv_goto (tgt := 11) hx hb dX3_countParts_58 (by decide) ?_
          exact ih x8 x9 (by omega) (by omega) μ3 hI _ _ hW ls (lv_sub hl [2, 3, 1, 0] rfl)
        · have i7 := m_c6 (rfl : k.toInt = _) (by decide : (0 : Int32).toInt = 0) c7
          refine lv_aload_n hx hb dX3_countParts_42 rfl (lv_at hl 0 rfl) ?_
          refine m_getr hx hb hts hown hW (41) 17 (49) rfl rfl cw_3 rfl (by decide) k_X3_72 dX3_countParts_43 ?_
          refine m_geti hx hb hts hown hW (49) 4 rfl rfl cw_2 rfl (by decide) k_X3_192 dX3_countParts_46 ?_
          refine lv_topi (fun x10 ex10 => ?_)
          have bx10 : 0 ≤ x10.toInt ∧ x10.toInt ≤ 1 := by rw [ex10]; exact hI.1 _ _ _ _ rfl
          refine lv_if_ne (tgt := 55) hx hb dX3_countParts_49 (by decide) (fun c11 => ?_) (fun c11 => ?_)
          · have i11 := m_c6 (rfl : x10.toInt = _) (by decide : (0 : Int32).toInt = 0) c11
            obtain ⟨x12, ex12⟩ : ∃ z : Int32, z = y3 + 1 := ⟨_, rfl⟩
            refine lv_iinc (v := x12) (lv' := [(3, .int x12), (0, .ref (b + 41)), (1, .int k), (2, .int y2)]) hx hb dX3_countParts_55 hl (k := 3) rfl (by rw [ex12]; rfl) (by decide) rfl (fun ls hl => ?_)
            have tx12 : x12.toInt = y3.toInt + 1 := m_addI ex12 (rfl : y3.toInt = _) (by decide : (1 : Int32).toInt = 1) (by omega) (by omega)
            refine lv_goto (tgt := 11) hx hb dX3_countParts_58 (by decide) ?_
            exact ih y2 x12 (by omega) (by omega) μ3 hI _ _ hW ls (lv_sub hl [1, 2, 3, 0] rfl)
          · have i11 := m_c5 (rfl : x10.toInt = _) (by decide : (0 : Int32).toInt = 0) c11
            obtain ⟨x13, ex13⟩ : ∃ z : Int32, z = y2 + 1 := ⟨_, rfl⟩
            refine lv_iinc (v := x13) (lv' := [(2, .int x13), (0, .ref (b + 41)), (1, .int k), (3, .int y3)]) hx hb dX3_countParts_52 hl (k := 2) rfl (by rw [ex13]; rfl) (by decide) rfl (fun ls hl => ?_)
            obtain ⟨x14, ex14⟩ : ∃ z : Int32, z = y3 + 1 := ⟨_, rfl⟩
            refine lv_iinc (v := x14) (lv' := [(3, .int x14), (2, .int x13), (0, .ref (b + 41)), (1, .int k)]) hx hb dX3_countParts_55 hl (k := 3) rfl (by rw [ex14]; rfl) (by decide) rfl (fun ls hl => ?_)
            have tx14 : x14.toInt = y3.toInt + 1 := m_addI ex14 (rfl : y3.toInt = _) (by decide : (1 : Int32).toInt = 1) (by omega) (by omega)
            refine lv_goto (tgt := 11) hx hb dX3_countParts_58 (by decide) ?_
            exact ih x13 x14 (by omega) (by omega) μ3 hI _ _ hW ls (lv_sub hl [2, 3, 1, 0] rfl)
set_option maxHeartbeats 4000000 in
set_option maxRecDepth 100000 in
theorem g_X3_countParts_41 (l : Launch) (D : va_G) (cy : Nat → ClassId) (b : Nat) (S : Nat → Bool) (μ0 : mM) (hS6 : S 6 = true) (k : Int32) (h_k : 0 ≤ k.toInt ∧ k.toInt ≤ 1) (μ : mM) (hI : IY S μ0 μ) : m_Ci l yX3_countParts cX3_countParts 4 ((some .int)) 2 D cy b LAY μ [.ref (b + 41), .int k] (fun r ν => IY S μ0 ν ∧ (True)) := by
  unfold m_Ci
  refine m_of (by decide) (Nat.le_of_ble_eq_true rfl) ?_
  intro p e s m below meth c hx hb hr hml hown hts hlocks _ hW ls hl
  have hown : s.vm.findClass RX3 = some m.cls := hown
  have hl : lv_has ls 4 [(0, .ref (b + 41)), (1, .int k)] := hl
  refine lv_iconst (v := 0) hx hb dX3_countParts_0 (by decide) ?_
  refine lv_istore_n (lv' := [(2, .int 0), (0, .ref (b + 41)), (1, .int k)]) hx hb dX3_countParts_1 rfl hl (by decide) rfl (fun ls hl => ?_)
  refine lv_aload_n hx hb dX3_countParts_2 rfl (lv_at hl 1 rfl) ?_
  refine m_getr hx hb hts hown hW (41) 17 (49) rfl rfl cw_3 rfl (by decide) k_X3_72 dX3_countParts_3 ?_
  refine m_aV hW (m_runV (As := []) (rest := []) hx hb hml hown hts hW (49) (g_X2_forgetSeen_41 l D cy b S μ0 hS6 μ hI) mi_X2_forgetSeen k_X3_185 rfl rfl rfl hl.1 rfl (Nat.le_of_ble_eq_true rfl) dX3_countParts_6 ⟨Nat.le_of_ble_eq_true rfl, Nat.le_of_ble_eq_true rfl⟩ ⟨Nat.le_of_ble_eq_true rfl, Nat.le_of_ble_eq_true rfl⟩) (fun μ1 H locs q1 hW => ?_)
  obtain ⟨hI, q1⟩ := q1
  refine lv_iconst (v := 0) hx hb dX3_countParts_9 (by decide) ?_
  refine lv_istore_n (lv' := [(3, .int 0), (2, .int 0), (0, .ref (b + 41)), (1, .int k)]) hx hb dX3_countParts_10 rfl hl (by decide) rfl (fun ls hl => ?_)
  have l_0 : (0 : Int32).toInt = 0 := by decide
  exact L_X3_countParts_41_11 hx hb hr hml hown hts hlocks S μ0 hS6 k h_k  193 0 0 (by omega) (by omega) μ1 hI _ _ hW ls (lv_sub hl [2, 3, 1, 0] rfl)
set_option maxHeartbeats 4000000 in
set_option maxRecDepth 100000 in
theorem g_X3_partAt_41 (l : Launch) (D : va_G) (cy : Nat → ClassId) (b : Nat) (S : Nat → Bool) (μ0 : mM) (hS6 : S 6 = true) (k : Int32) (μ : mM) (hI : IY S μ0 μ) : m_Cq l yX3_partAt cX3_partAt 2 ((some (.object "BeamPlate$Part"))) 2 D cy b LAY μ [.ref (b + 41), .int k] (fun q ν => IY S μ0 ν ∧ (q = some 49)) := by
  unfold m_Cq
  refine m_of (by decide) (Nat.le_of_ble_eq_true rfl) ?_
  intro p e s m below meth c hx hb hr hml hown hts hlocks _ hW ls hl
  have hown : s.vm.findClass RX3 = some m.cls := hown
  have hl : lv_has ls 2 [(0, .ref (b + 41)), (1, .int k)] := hl
  refine lv_aload_n hx hb dX3_partAt_0 rfl (lv_at hl 0 rfl) ?_
  refine m_getr hx hb hts hown hW (41) 17 (49) rfl rfl cw_3 rfl (by decide) k_X3_72 dX3_partAt_1 ?_
  refine m_aV hW (m_runV (As := []) (rest := []) hx hb hml hown hts hW (49) (g_X2_forgetSeen_41 l D cy b S μ0 hS6 μ hI) mi_X2_forgetSeen k_X3_185 rfl rfl rfl hl.1 rfl (Nat.le_of_ble_eq_true rfl) dX3_partAt_4 ⟨Nat.le_of_ble_eq_true rfl, Nat.le_of_ble_eq_true rfl⟩ ⟨Nat.le_of_ble_eq_true rfl, Nat.le_of_ble_eq_true rfl⟩) (fun μ1 H locs q1 hW => ?_)
  obtain ⟨hI, q1⟩ := q1
  refine lv_aload_n hx hb dX3_partAt_7 rfl (lv_at hl 0 rfl) ?_
  refine m_getr hx hb hts hown hW (41) 17 (49) rfl rfl cw_3 rfl (by decide) k_X3_72 dX3_partAt_8 ?_
  refine lv_aload_n hx hb dX3_partAt_11 rfl (lv_at hl 0 rfl) ?_
  refine lv_iload_n hx hb dX3_partAt_12 rfl (lv_at hl 1 rfl) ?_
  refine m_aV hW (m_runV (As := [.ref (b + 41), .int k]) (rest := []) hx hb hml hown hts hW (49) (g_X2_gather_41 l D cy b S μ0 hS6 k μ1 hI) mi_X2_gather k_X3_188 rfl rfl rfl hl.1 rfl (Nat.le_of_ble_eq_true rfl) dX3_partAt_13 ⟨Nat.le_of_ble_eq_true rfl, Nat.le_of_ble_eq_true rfl⟩ ⟨Nat.le_of_ble_eq_true rfl, Nat.le_of_ble_eq_true rfl⟩) (fun μ2 H locs q2 hW => ?_)
  obtain ⟨hI, q2⟩ := q2
  refine lv_aload_n hx hb dX3_partAt_16 rfl (lv_at hl 0 rfl) ?_
  refine m_getr hx hb hts hown hW (41) 17 (49) rfl rfl cw_3 rfl (by decide) k_X3_72 dX3_partAt_17 ?_
  exact m_aret hx hb hr hlocks hW (⟨hI, rfl⟩) dX3_partAt_20
set_option maxHeartbeats 4000000 in
set_option maxRecDepth 100000 in
theorem g_X3_costAt_41 (l : Launch) (D : va_G) (cy : Nat → ClassId) (b : Nat) (k u : Int32) (μ : mM) (hI : IX μ) : m_Ci l yX3_costAt cX3_costAt 3 ((some .int)) 1 D cy b LAY μ [.ref (b + 41), .int k, .int u] (fun r ν => μ = ν ∧ (True)) := by
  unfold m_Ci
  refine m_of (by decide) (Nat.le_of_ble_eq_true rfl) ?_
  intro p e s m below meth c hx hb hr hml hown hts hlocks _ hW ls hl
  have hown : s.vm.findClass RX3 = some m.cls := hown
  have hl : lv_has ls 3 [(0, .ref (b + 41)), (1, .int k), (2, .int u)] := hl
  refine lv_aload_n hx hb dX3_costAt_0 rfl (lv_at hl 0 rfl) ?_
  refine lv_iload_n hx hb dX3_costAt_1 rfl (lv_at hl 1 rfl) ?_
  refine lv_iload_n hx hb dX3_costAt_2 rfl (lv_at hl 2 rfl) ?_
  refine m_aI hW (m_runV (As := [.int k, .int u]) (rest := []) hx hb hml hown hts hW (41) (g_X3_has_41 l D cy b k u μ hI) mi_X3_has k_X3_107 rfl rfl rfl hl.1 rfl (Nat.le_of_ble_eq_true rfl) dX3_costAt_3 ⟨Nat.le_of_ble_eq_true rfl, Nat.le_of_ble_eq_true rfl⟩ ⟨Nat.le_of_ble_eq_true rfl, Nat.le_of_ble_eq_true rfl⟩) (fun x1 μ1 H locs q1 hW => ?_)
  obtain ⟨q1_m, q1⟩ := q1
  subst q1_m
  rcases q1 with ⟨rfl, q1⟩ | ⟨rfl, q1⟩
  · refine lv_if_eq (tgt := 23) hx hb dX3_costAt_6 (by decide) (fun c => False.elim (by revert c; decide)) (fun _ => ?_)
    refine lv_aload_n hx hb dX3_costAt_9 rfl (lv_at hl 0 rfl) ?_
    refine m_getr hx hb hts hown hW (41) 16 (48) rfl rfl cw_3 rfl (by decide) k_X3_66 dX3_costAt_10 ?_
    refine lv_aload_n hx hb dX3_costAt_13 rfl (lv_at hl 0 rfl) ?_
    refine lv_iload_n hx hb dX3_costAt_14 rfl (lv_at hl 1 rfl) ?_
    refine lv_iload_n hx hb dX3_costAt_15 rfl (lv_at hl 2 rfl) ?_
    refine m_aI hW (m_runV (As := [.int k, .int u]) (rest := [.ref (b + 48)]) hx hb hml hown hts hW (41) (g_X3_index_41b l D cy b k u (by omega) (by omega) μ hI) mi_X3_index k_X3_111 rfl rfl rfl hl.1 rfl (Nat.le_of_ble_eq_true rfl) dX3_costAt_16 ⟨Nat.le_of_ble_eq_true rfl, Nat.le_of_ble_eq_true rfl⟩ ⟨Nat.le_of_ble_eq_true rfl, Nat.le_of_ble_eq_true rfl⟩) (fun x2 μ2 H locs q2 hW => ?_)
    obtain ⟨q2_m, q2⟩ := q2
    subst q2_m
    refine m_iald hx hb hW (48) rfl (m_ixI (rfl : x2.toInt = _) (by omega) (by omega)) dX3_costAt_19 ?_
    refine lv_topi (fun x3 ex3 => ?_)
    refine lv_goto (tgt := 26) hx hb dX3_costAt_20 (by decide) ?_
    exact m_iret hx hb hr hlocks hW rfl (⟨rfl, trivial⟩) dX3_costAt_26
  · refine lv_if_eq (tgt := 23) hx hb dX3_costAt_6 (by decide) (fun _ => ?_) (fun c => False.elim (by revert c; decide))
    refine lv_sipush (v := 192) hx hb dX3_costAt_23 (by decide) ?_
    exact m_iret hx hb hr hlocks hW rfl (⟨rfl, trivial⟩) dX3_costAt_26
set_option maxHeartbeats 4000000 in
set_option maxRecDepth 100000 in
theorem L_X3_spreadCosts_41_49 {p : Program} {l : Launch} {e : Env} {s : State} {m : MethodId} {args : Array Value} {below : List Frame} {meth : Method} {c : Code} {D : va_G} {cy : Nat → ClassId} {b : Nat} (hx : p.tables.exec = Jvm.exec) (hb : c.code = cX3_spreadCosts) (hr : meth.sig.returnType = ((some .boolean))) (hml : c.maxLocals = 8) (hown : s.vm.findClass RX3 = some m.cls) (hts : ∀ w ∈ TB, w.before args s = true) (hlocks : meth.locks = false) (S : Nat → Bool) (μ0 : mM) (hS6 : S 6 = true) (F4 : Nat) (O4 : ∀ (y1 y2 : Int32) (hy : 0 ≤ y1.toInt ∧ y1.toInt ≤ 1 ∧ 0 ≤ y2.toInt ∧ y2.toInt ≤ 12) (hf : 12 - y2.toInt < (F4 : Int)) (μ : mM) (hI : IY S μ0 μ) (H : Heap) (locs : List Loc), m_WA (m_A b LAY) D cy s b LAY μ H locs → ∀ ls : Array Slot, lv_has ls 8 [(0, .ref (b + 41)), (1, .int y1), (2, .int y2)] → W p l e (m_R 2 0 0) s m args below meth c H locs 0 0 (MQ below (m_Qi D cy b LAY (fun r ν => IY S μ0 ν ∧ ((r = 1 ∧ (True)) ∨ (r = 0 ∧ (True))))) args s 0 0 (m_A b LAY)) (F0 m 4 ls [])) (F14 : Nat) (O14 : ∀ (y1 y2 y3 : Int32) (hy : 12 - y2.toInt < (F4 : Int) + 1 ∧ 0 ≤ y1.toInt ∧ y1.toInt ≤ 1 ∧ 0 ≤ y2.toInt ∧ y2.toInt ≤ 11 ∧ 0 ≤ y3.toInt ∧ y3.toInt ≤ 16 ∧ 0 ≤ y1.toInt ∧ y1.toInt ≤ 1 ∧ 0 ≤ y2.toInt ∧ y2.toInt ≤ 12) (hf : 16 - y3.toInt < (F14 : Int)) (μ : mM) (hI : IY S μ0 μ) (H : Heap) (locs : List Loc), m_WA (m_A b LAY) D cy s b LAY μ H locs → ∀ ls : Array Slot, lv_has ls 8 [(0, .ref (b + 41)), (1, .int y1), (2, .int y2), (3, .int y3)] → W p l e (m_R 2 0 0) s m args below meth c H locs 0 0 (MQ below (m_Qi D cy b LAY (fun r ν => IY S μ0 ν ∧ ((r = 1 ∧ (True)) ∨ (r = 0 ∧ (True))))) args s 0 0 (m_A b LAY)) (F0 m 14 ls [])) : ∀ (f : Nat), ∀ (y1 y2 y3 y4 y5 y6 : Int32) (hy : 12 - y2.toInt < (F4 : Int) + 1 ∧ 16 - y3.toInt < (F14 : Int) + 1 ∧ 0 ≤ y1.toInt ∧ y1.toInt ≤ 1 ∧ 0 ≤ y2.toInt ∧ y2.toInt ≤ 11 ∧ 0 ≤ y3.toInt ∧ y3.toInt ≤ 15 ∧ 0 ≤ y4.toInt ∧ y4.toInt ≤ 191 ∧ 0 ≤ y5.toInt ∧ y5.toInt ≤ 1 ∧ 0 ≤ y6.toInt ∧ y6.toInt ≤ 4 ∧ 0 ≤ y1.toInt ∧ y1.toInt ≤ 1 ∧ 0 ≤ y2.toInt ∧ y2.toInt ≤ 12 ∧ 0 ≤ y1.toInt ∧ y1.toInt ≤ 1 ∧ 0 ≤ y2.toInt ∧ y2.toInt ≤ 11 ∧ 0 ≤ y3.toInt ∧ y3.toInt ≤ 16) (hf : 4 - y6.toInt < (f : Int)) (μ : mM) (hI : IY S μ0 μ) (H : Heap) (locs : List Loc), m_WA (m_A b LAY) D cy s b LAY μ H locs → ∀ ls : Array Slot, lv_has ls 8 [(0, .ref (b + 41)), (1, .int y1), (2, .int y2), (3, .int y3), (4, .int y4), (5, .int y5), (6, .int y6)] → W p l e (m_R 2 0 0) s m args below meth c H locs 0 0 (MQ below (m_Qi D cy b LAY (fun r ν => IY S μ0 ν ∧ ((r = 1 ∧ (True)) ∨ (r = 0 ∧ (True))))) args s 0 0 (m_A b LAY)) (F0 m 49 ls []) := by
  intro f
  induction f with
  | zero => intro y1 y2 y3 y4 y5 y6 hy hf; exfalso; omega
  | succ f ih =>
    intro y1 y2 y3 y4 y5 y6 hy hf μ hI H locs hW ls hl
    refine lv_iload hx hb dX3_spreadCosts_49 (lv_at hl 6 rfl) ?_
    refine lv_iconst (v := 4) hx hb dX3_spreadCosts_51 (by decide) ?_
    refine lv_icmp_ge (tgt := 107) hx hb dX3_spreadCosts_52 (by decide) (fun c1 => ?_) (fun c1 => ?_)
    · have i1 := m_c3 (by decide : (4 : Int32).toInt = 4) (rfl : y6.toInt = _) c1
      obtain ⟨x2, ex2⟩ : ∃ z : Int32, z = y3 + 1 := ⟨_, rfl⟩
      refine lv_iinc (v := x2) (lv' := [(3, .int x2), (0, .ref (b + 41)), (1, .int y1), (2, .int y2), (4, .int y4), (5, .int y5), (6, .int y6)]) hx hb dX3_spreadCosts_107 hl (k := 3) rfl (by rw [ex2]; rfl) (by decide) rfl (fun ls hl => ?_)
      have tx2 : x2.toInt = y3.toInt + 1 := m_addI ex2 (rfl : y3.toInt = _) (by decide : (1 : Int32).toInt = 1) (by omega) (by omega)
      refine lv_goto (tgt := 14) hx hb dX3_spreadCosts_110 (by decide) ?_
      exact O14 y1 y2 x2 (by omega) (by omega) μ hI _ _ hW ls (lv_sub hl [1, 2, 3, 0] rfl)
    · have i1 := m_c4 (by decide : (4 : Int32).toInt = 4) (rfl : y6.toInt = _) c1
      refine lv_aload_n hx hb dX3_spreadCosts_55 rfl (lv_at hl 0 rfl) ?_
      refine lv_iload_n hx hb dX3_spreadCosts_56 rfl (lv_at hl 3 rfl) ?_
      refine lv_iload hx hb dX3_spreadCosts_57 (lv_at hl 6 rfl) ?_
      refine m_aI hW (m_runSN (As := [.int y6]) (rest := [.int y3, .ref (b + 41)]) hx hb hml hown hts hW (g_X11_stepX l D cy b y6 μ hI.1) ms_X11_stepX n_X3_224 rfl hl.1 rfl (Nat.le_of_ble_eq_true rfl) dX3_spreadCosts_59 ⟨Nat.le_of_ble_eq_true rfl, Nat.le_of_ble_eq_true rfl⟩ ⟨Nat.le_of_ble_eq_true rfl, Nat.le_of_ble_eq_true rfl⟩) (fun x3 μ3 H locs q3 hW => ?_)
      obtain ⟨q3_m, q3⟩ := q3
      subst q3_m
      refine lv_iadd hx hb dX3_spreadCosts_62 ?_
      refine lv_topi (fun x4 ex4 => ?_)
      have tx4 : x4.toInt = y3.toInt + x3.toInt := m_addI ex4 (rfl : y3.toInt = _) (rfl : x3.toInt = _) (by omega) (by omega)
      refine lv_iload_n hx hb dX3_spreadCosts_63 rfl (lv_at hl 2 rfl) ?_
      refine lv_iload hx hb dX3_spreadCosts_64 (lv_at hl 6 rfl) ?_
      refine m_aI hW (m_runSN (As := [.int y6]) (rest := [.int y2, .int x4, .ref (b + 41)]) hx hb hml hown hts hW (g_X11_stepY l D cy b y6 μ hI.1) ms_X11_stepY n_X3_228 rfl hl.1 rfl (Nat.le_of_ble_eq_true rfl) dX3_spreadCosts_66 ⟨Nat.le_of_ble_eq_true rfl, Nat.le_of_ble_eq_true rfl⟩ ⟨Nat.le_of_ble_eq_true rfl, Nat.le_of_ble_eq_true rfl⟩) (fun x5 μ5 H locs q5 hW => ?_)
      obtain ⟨q5_m, q5⟩ := q5
      subst q5_m
      refine lv_iadd hx hb dX3_spreadCosts_69 ?_
      refine lv_topi (fun x6 ex6 => ?_)
      have tx6 : x6.toInt = y2.toInt + x5.toInt := m_addI ex6 (rfl : y2.toInt = _) (rfl : x5.toInt = _) (by omega) (by omega)
      refine m_aI hW (m_runV (As := [.int x4, .int x6]) (rest := []) hx hb hml hown hts hW (41) (g_X3_costAt_41 l D cy b x4 x6 μ hI.1) mi_X3_costAt k_X3_221 rfl rfl rfl hl.1 rfl (Nat.le_of_ble_eq_true rfl) dX3_spreadCosts_70 ⟨Nat.le_of_ble_eq_true rfl, Nat.le_of_ble_eq_true rfl⟩ ⟨Nat.le_of_ble_eq_true rfl, Nat.le_of_ble_eq_true rfl⟩) (fun x7 μ7 H locs q7 hW => ?_)
      obtain ⟨q7_m, q7⟩ := q7
      subst q7_m
      refine lv_iload hx hb dX3_spreadCosts_73 (lv_at hl 5 rfl) ?_
      refine lv_iadd hx hb dX3_spreadCosts_75 ?_
      refine lv_topi (fun x8 ex8 => ?_)
      refine lv_istore (lv' := [(7, .int x8), (0, .ref (b + 41)), (1, .int y1), (2, .int y2), (3, .int y3), (4, .int y4), (5, .int y5), (6, .int y6)]) hx hb dX3_spreadCosts_76 hl (by decide) rfl (fun ls hl => ?_)
      refine lv_iload hx hb dX3_spreadCosts_78 (lv_at hl 0 rfl) ?_
      refine lv_aload_n hx hb dX3_spreadCosts_80 rfl (lv_at hl 1 rfl) ?_
      refine m_getr hx hb hts hown hW (41) 16 (48) rfl rfl cw_3 rfl (by decide) k_X3_66 dX3_spreadCosts_81 ?_
      refine lv_iload hx hb dX3_spreadCosts_84 (lv_at hl 5 rfl) ?_
      refine m_iald hx hb hW (48) rfl (m_ixI (rfl : y4.toInt = _) (by omega) (by omega)) dX3_spreadCosts_86 ?_
      refine lv_topi (fun x9 ex9 => ?_)
      refine lv_icmp_ge (tgt := 101) hx hb dX3_spreadCosts_87 (by decide) (fun c10 => ?_) (fun c10 => ?_)
      · have i10 := m_c3 (rfl : x9.toInt = _) (rfl : x8.toInt = _) c10
        obtain ⟨x11, ex11⟩ : ∃ z : Int32, z = y6 + 1 := ⟨_, rfl⟩
        refine lv_iinc (v := x11) (lv' := [(6, .int x11), (7, .int x8), (0, .ref (b + 41)), (1, .int y1), (2, .int y2), (3, .int y3), (4, .int y4), (5, .int y5)]) hx hb dX3_spreadCosts_101 hl (k := 7) rfl (by rw [ex11]; rfl) (by decide) rfl (fun ls hl => ?_)
        have tx11 : x11.toInt = y6.toInt + 1 := m_addI ex11 (rfl : y6.toInt = _) (by decide : (1 : Int32).toInt = 1) (by omega) (by omega)
        refine lv_goto (tgt := 49) hx hb dX3_spreadCosts_104 (by decide) ?_
        exact ih y1 y2 y3 y4 y5 x11 (by omega) (by omega) μ hI _ _ hW ls (lv_sub hl [2, 3, 4, 5, 6, 7, 0] rfl)
      · have i10 := m_c4 (rfl : x9.toInt = _) (rfl : x8.toInt = _) c10
        refine lv_aload_n hx hb dX3_spreadCosts_90 rfl (lv_at hl 1 rfl) ?_
        refine m_getr hx hb hts hown hW (41) 16 (48) rfl rfl cw_3 rfl (by decide) k_X3_66 dX3_spreadCosts_91 ?_
        refine lv_iload hx hb dX3_spreadCosts_94 (lv_at hl 5 rfl) ?_
        refine lv_iload hx hb dX3_spreadCosts_96 (lv_at hl 0 rfl) ?_
        refine m_iast hx hb hW (48) rfl (m_ixI (rfl : y4.toInt = _) (by omega) (by omega)) dX3_spreadCosts_98 (fun H locs hW _ => ?_)
        generalize hμ12 : m_si μ (48) (y4 : Int32).toNatClampNeg x8 = μ12 at hW
        have hI := hI.si0 hμ12 rfl hS6
        refine lv_iconst (v := 1) hx hb dX3_spreadCosts_99 (by decide) ?_
        refine lv_istore_n (lv' := [(1, .int 1), (7, .int x8), (0, .ref (b + 41)), (2, .int y2), (3, .int y3), (4, .int y4), (5, .int y5), (6, .int y6)]) hx hb dX3_spreadCosts_100 rfl hl (by decide) rfl (fun ls hl => ?_)
        obtain ⟨x13, ex13⟩ : ∃ z : Int32, z = y6 + 1 := ⟨_, rfl⟩
        refine lv_iinc (v := x13) (lv' := [(6, .int x13), (1, .int 1), (7, .int x8), (0, .ref (b + 41)), (2, .int y2), (3, .int y3), (4, .int y4), (5, .int y5)]) hx hb dX3_spreadCosts_101 hl (k := 7) rfl (by rw [ex13]; rfl) (by decide) rfl (fun ls hl => ?_)
        have tx13 : x13.toInt = y6.toInt + 1 := m_addI ex13 (rfl : y6.toInt = _) (by decide : (1 : Int32).toInt = 1) (by omega) (by omega)
        refine lv_goto (tgt := 49) hx hb dX3_spreadCosts_104 (by decide) ?_
        have l_1 : (1 : Int32).toInt = 1 := by decide
        exact ih 1 y2 y3 y4 y5 x13 (by omega) (by omega) μ12 hI _ _ hW ls (lv_sub hl [3, 1, 4, 5, 6, 7, 0] rfl)
set_option maxHeartbeats 4000000 in
set_option maxRecDepth 100000 in
theorem L_X3_spreadCosts_41_14 {p : Program} {l : Launch} {e : Env} {s : State} {m : MethodId} {args : Array Value} {below : List Frame} {meth : Method} {c : Code} {D : va_G} {cy : Nat → ClassId} {b : Nat} (hx : p.tables.exec = Jvm.exec) (hb : c.code = cX3_spreadCosts) (hr : meth.sig.returnType = ((some .boolean))) (hml : c.maxLocals = 8) (hown : s.vm.findClass RX3 = some m.cls) (hts : ∀ w ∈ TB, w.before args s = true) (hlocks : meth.locks = false) (S : Nat → Bool) (μ0 : mM) (hS6 : S 6 = true) (F4 : Nat) (O4 : ∀ (y1 y2 : Int32) (hy : 0 ≤ y1.toInt ∧ y1.toInt ≤ 1 ∧ 0 ≤ y2.toInt ∧ y2.toInt ≤ 12) (hf : 12 - y2.toInt < (F4 : Int)) (μ : mM) (hI : IY S μ0 μ) (H : Heap) (locs : List Loc), m_WA (m_A b LAY) D cy s b LAY μ H locs → ∀ ls : Array Slot, lv_has ls 8 [(0, .ref (b + 41)), (1, .int y1), (2, .int y2)] → W p l e (m_R 2 0 0) s m args below meth c H locs 0 0 (MQ below (m_Qi D cy b LAY (fun r ν => IY S μ0 ν ∧ ((r = 1 ∧ (True)) ∨ (r = 0 ∧ (True))))) args s 0 0 (m_A b LAY)) (F0 m 4 ls [])) : ∀ (f : Nat), ∀ (y1 y2 y3 : Int32) (hy : 12 - y2.toInt < (F4 : Int) + 1 ∧ 0 ≤ y1.toInt ∧ y1.toInt ≤ 1 ∧ 0 ≤ y2.toInt ∧ y2.toInt ≤ 11 ∧ 0 ≤ y3.toInt ∧ y3.toInt ≤ 16 ∧ 0 ≤ y1.toInt ∧ y1.toInt ≤ 1 ∧ 0 ≤ y2.toInt ∧ y2.toInt ≤ 12) (hf : 16 - y3.toInt < (f : Int)) (μ : mM) (hI : IY S μ0 μ) (H : Heap) (locs : List Loc), m_WA (m_A b LAY) D cy s b LAY μ H locs → ∀ ls : Array Slot, lv_has ls 8 [(0, .ref (b + 41)), (1, .int y1), (2, .int y2), (3, .int y3)] → W p l e (m_R 2 0 0) s m args below meth c H locs 0 0 (MQ below (m_Qi D cy b LAY (fun r ν => IY S μ0 ν ∧ ((r = 1 ∧ (True)) ∨ (r = 0 ∧ (True))))) args s 0 0 (m_A b LAY)) (F0 m 14 ls []) := by
  intro f
  induction f with
  | zero => intro y1 y2 y3 hy hf; exfalso; omega
  | succ f ih =>
    intro y1 y2 y3 hy hf μ hI H locs hW ls hl
    refine lv_iload_n hx hb dX3_spreadCosts_14 rfl (lv_at hl 3 rfl) ?_
    refine lv_aload_n hx hb dX3_spreadCosts_15 rfl (lv_at hl 0 rfl) ?_
    refine m_geti hx hb hts hown hW (41) 0 rfl rfl cw_3 rfl (by decide) k_X3_11 dX3_spreadCosts_16 ?_
    refine lv_topi (fun x1 ex1 => ?_)
    have bx1 : 0 ≤ x1.toInt ∧ x1.toInt ≤ 16 := by rw [ex1]; exact hI.1 _ _ _ _ rfl
    refine lv_icmp_ge (tgt := 113) hx hb dX3_spreadCosts_19 (by decide) (fun c2 => ?_) (fun c2 => ?_)
    · have i2 := m_c3 (rfl : x1.toInt = _) (rfl : y3.toInt = _) c2
      obtain ⟨x3, ex3⟩ : ∃ z : Int32, z = y2 + 1 := ⟨_, rfl⟩
      refine lv_iinc (v := x3) (lv' := [(2, .int x3), (0, .ref (b + 41)), (1, .int y1), (3, .int y3)]) hx hb dX3_spreadCosts_113 hl (k := 2) rfl (by rw [ex3]; rfl) (by decide) rfl (fun ls hl => ?_)
      have tx3 : x3.toInt = y2.toInt + 1 := m_addI ex3 (rfl : y2.toInt = _) (by decide : (1 : Int32).toInt = 1) (by omega) (by omega)
      refine lv_goto (tgt := 4) hx hb dX3_spreadCosts_116 (by decide) ?_
      exact O4 y1 x3 (by omega) (by omega) μ hI _ _ hW ls (lv_sub hl [1, 2, 0] rfl)
    · have i2 := m_c4 (rfl : x1.toInt = _) (rfl : y3.toInt = _) c2
      refine lv_aload_n hx hb dX3_spreadCosts_22 rfl (lv_at hl 0 rfl) ?_
      refine lv_iload_n hx hb dX3_spreadCosts_23 rfl (lv_at hl 3 rfl) ?_
      refine lv_iload_n hx hb dX3_spreadCosts_24 rfl (lv_at hl 2 rfl) ?_
      refine m_aI hW (m_runV (As := [.int y3, .int y2]) (rest := []) hx hb hml hown hts hW (41) (g_X3_index_41b l D cy b y3 y2 (by omega) (by omega) μ hI.1) mi_X3_index k_X3_111 rfl rfl rfl hl.1 rfl (Nat.le_of_ble_eq_true rfl) dX3_spreadCosts_25 ⟨Nat.le_of_ble_eq_true rfl, Nat.le_of_ble_eq_true rfl⟩ ⟨Nat.le_of_ble_eq_true rfl, Nat.le_of_ble_eq_true rfl⟩) (fun x4 μ4 H locs q4 hW => ?_)
      obtain ⟨q4_m, q4⟩ := q4
      subst q4_m
      refine lv_istore (lv' := [(4, .int x4), (0, .ref (b + 41)), (1, .int y1), (2, .int y2), (3, .int y3)]) hx hb dX3_spreadCosts_28 hl (by decide) rfl (fun ls hl => ?_)
      refine lv_aload_n hx hb dX3_spreadCosts_30 rfl (lv_at hl 1 rfl) ?_
      refine lv_iload hx hb dX3_spreadCosts_31 (lv_at hl 0 rfl) ?_
      refine m_aI hW (m_runV (As := [.int x4]) (rest := []) hx hb hml hown hts hW (41) (g_X3_isThere_41 l D cy b x4 μ hI.1) mi_X3_isThere k_X3_114 rfl rfl rfl hl.1 rfl (Nat.le_of_ble_eq_true rfl) dX3_spreadCosts_33 ⟨Nat.le_of_ble_eq_true rfl, Nat.le_of_ble_eq_true rfl⟩ ⟨Nat.le_of_ble_eq_true rfl, Nat.le_of_ble_eq_true rfl⟩) (fun x5 μ5 H locs q5 hW => ?_)
      obtain ⟨q5_m, q5⟩ := q5
      subst q5_m
      rcases q5 with ⟨rfl, q5⟩ | ⟨rfl, q5⟩
      · refine lv_if_eq (tgt := 43) hx hb dX3_spreadCosts_36 (by decide) (fun c => False.elim (by revert c; decide)) (fun _ => ?_)
        refine lv_iconst (v := 0) hx hb dX3_spreadCosts_39 (by decide) ?_
        refine lv_goto (tgt := 44) hx hb dX3_spreadCosts_40 (by decide) ?_
        refine lv_istore (lv' := [(5, .int 0), (4, .int x4), (0, .ref (b + 41)), (1, .int y1), (2, .int y2), (3, .int y3)]) hx hb dX3_spreadCosts_44 hl (by decide) rfl (fun ls hl => ?_)
        refine lv_iconst (v := 0) hx hb dX3_spreadCosts_46 (by decide) ?_
        refine lv_istore (lv' := [(6, .int 0), (5, .int 0), (4, .int x4), (0, .ref (b + 41)), (1, .int y1), (2, .int y2), (3, .int y3)]) hx hb dX3_spreadCosts_47 hl (by decide) rfl (fun ls hl => ?_)
        have l_0 : (0 : Int32).toInt = 0 := by decide
        exact L_X3_spreadCosts_41_49 hx hb hr hml hown hts hlocks S μ0 hS6 F4 O4 f ih 5 y1 y2 y3 x4 0 0 (by omega) (by omega) μ hI _ _ hW ls (lv_sub hl [3, 4, 5, 6, 2, 1, 0] rfl)
      · refine lv_if_eq (tgt := 43) hx hb dX3_spreadCosts_36 (by decide) (fun _ => ?_) (fun c => False.elim (by revert c; decide))
        refine lv_iconst (v := 1) hx hb dX3_spreadCosts_43 (by decide) ?_
        refine lv_istore (lv' := [(5, .int 1), (4, .int x4), (0, .ref (b + 41)), (1, .int y1), (2, .int y2), (3, .int y3)]) hx hb dX3_spreadCosts_44 hl (by decide) rfl (fun ls hl => ?_)
        refine lv_iconst (v := 0) hx hb dX3_spreadCosts_46 (by decide) ?_
        refine lv_istore (lv' := [(6, .int 0), (5, .int 1), (4, .int x4), (0, .ref (b + 41)), (1, .int y1), (2, .int y2), (3, .int y3)]) hx hb dX3_spreadCosts_47 hl (by decide) rfl (fun ls hl => ?_)
        have l_1 : (1 : Int32).toInt = 1 := by decide
        have l_0 : (0 : Int32).toInt = 0 := by decide
        exact L_X3_spreadCosts_41_49 hx hb hr hml hown hts hlocks S μ0 hS6 F4 O4 f ih 5 y1 y2 y3 x4 1 0 (by omega) (by omega) μ hI _ _ hW ls (lv_sub hl [3, 4, 5, 6, 2, 1, 0] rfl)
set_option maxHeartbeats 4000000 in
set_option maxRecDepth 100000 in
theorem L_X3_spreadCosts_41_4 {p : Program} {l : Launch} {e : Env} {s : State} {m : MethodId} {args : Array Value} {below : List Frame} {meth : Method} {c : Code} {D : va_G} {cy : Nat → ClassId} {b : Nat} (hx : p.tables.exec = Jvm.exec) (hb : c.code = cX3_spreadCosts) (hr : meth.sig.returnType = ((some .boolean))) (hml : c.maxLocals = 8) (hown : s.vm.findClass RX3 = some m.cls) (hts : ∀ w ∈ TB, w.before args s = true) (hlocks : meth.locks = false) (S : Nat → Bool) (μ0 : mM) (hS6 : S 6 = true) : ∀ (f : Nat), ∀ (y1 y2 : Int32) (hy : 0 ≤ y1.toInt ∧ y1.toInt ≤ 1 ∧ 0 ≤ y2.toInt ∧ y2.toInt ≤ 12) (hf : 12 - y2.toInt < (f : Int)) (μ : mM) (hI : IY S μ0 μ) (H : Heap) (locs : List Loc), m_WA (m_A b LAY) D cy s b LAY μ H locs → ∀ ls : Array Slot, lv_has ls 8 [(0, .ref (b + 41)), (1, .int y1), (2, .int y2)] → W p l e (m_R 2 0 0) s m args below meth c H locs 0 0 (MQ below (m_Qi D cy b LAY (fun r ν => IY S μ0 ν ∧ ((r = 1 ∧ (True)) ∨ (r = 0 ∧ (True))))) args s 0 0 (m_A b LAY)) (F0 m 4 ls []) := by
  intro f
  induction f with
  | zero => intro y1 y2 hy hf; exfalso; omega
  | succ f ih =>
    intro y1 y2 hy hf μ hI H locs hW ls hl
    refine lv_iload_n hx hb dX3_spreadCosts_4 rfl (lv_at hl 2 rfl) ?_
    refine lv_aload_n hx hb dX3_spreadCosts_5 rfl (lv_at hl 0 rfl) ?_
    refine m_geti hx hb hts hown hW (41) 1 rfl rfl cw_3 rfl (by decide) k_X3_15 dX3_spreadCosts_6 ?_
    refine lv_topi (fun x1 ex1 => ?_)
    have bx1 : 0 ≤ x1.toInt ∧ x1.toInt ≤ 12 := by rw [ex1]; exact hI.1 _ _ _ _ rfl
    refine lv_icmp_ge (tgt := 119) hx hb dX3_spreadCosts_9 (by decide) (fun c2 => ?_) (fun c2 => ?_)
    · have i2 := m_c3 (rfl : x1.toInt = _) (rfl : y2.toInt = _) c2
      refine lv_iload_n hx hb dX3_spreadCosts_119 rfl (lv_at hl 1 rfl) ?_
      exact m_iret hx hb hr hlocks hW (m_nb (m_b01 (by omega))) (⟨hI, m_b01t (by omega)⟩) dX3_spreadCosts_120
    · have i2 := m_c4 (rfl : x1.toInt = _) (rfl : y2.toInt = _) c2
      refine lv_iconst (v := 0) hx hb dX3_spreadCosts_12 (by decide) ?_
      refine lv_istore_n (lv' := [(3, .int 0), (0, .ref (b + 41)), (1, .int y1), (2, .int y2)]) hx hb dX3_spreadCosts_13 rfl hl (by decide) rfl (fun ls hl => ?_)
      have l_0 : (0 : Int32).toInt = 0 := by decide
      exact L_X3_spreadCosts_41_14 hx hb hr hml hown hts hlocks S μ0 hS6 f ih 17 y1 y2 0 (by omega) (by omega) μ hI _ _ hW ls (lv_sub hl [1, 2, 3, 0] rfl)
set_option maxHeartbeats 4000000 in
set_option maxRecDepth 100000 in
theorem g_X3_spreadCosts_41 (l : Launch) (D : va_G) (cy : Nat → ClassId) (b : Nat) (S : Nat → Bool) (μ0 : mM) (hS6 : S 6 = true) (μ : mM) (hI : IY S μ0 μ) : m_Ci l yX3_spreadCosts cX3_spreadCosts 8 ((some .boolean)) 2 D cy b LAY μ [.ref (b + 41)] (fun r ν => IY S μ0 ν ∧ ((r = 1 ∧ (True)) ∨ (r = 0 ∧ (True)))) := by
  unfold m_Ci
  refine m_of (by decide) (Nat.le_of_ble_eq_true rfl) ?_
  intro p e s m below meth c hx hb hr hml hown hts hlocks _ hW ls hl
  have hown : s.vm.findClass RX3 = some m.cls := hown
  have hl : lv_has ls 8 [(0, .ref (b + 41))] := hl
  refine lv_iconst (v := 0) hx hb dX3_spreadCosts_0 (by decide) ?_
  refine lv_istore_n (lv' := [(1, .int 0), (0, .ref (b + 41))]) hx hb dX3_spreadCosts_1 rfl hl (by decide) rfl (fun ls hl => ?_)
  refine lv_iconst (v := 0) hx hb dX3_spreadCosts_2 (by decide) ?_
  refine lv_istore_n (lv' := [(2, .int 0), (1, .int 0), (0, .ref (b + 41))]) hx hb dX3_spreadCosts_3 rfl hl (by decide) rfl (fun ls hl => ?_)
  have l_0 : (0 : Int32).toInt = 0 := by decide
  exact L_X3_spreadCosts_41_4 hx hb hr hml hown hts hlocks S μ0 hS6  13 0 0 (by omega) (by omega) μ hI _ _ hW ls (lv_sub hl [2, 1, 0] rfl)
set_option maxHeartbeats 4000000 in
set_option maxRecDepth 100000 in
theorem L_X3_bridge_41_95 {p : Program} {l : Launch} {e : Env} {s : State} {m : MethodId} {args : Array Value} {below : List Frame} {meth : Method} {c : Code} {D : va_G} {cy : Nat → ClassId} {b : Nat} (hx : p.tables.exec = Jvm.exec) (hb : c.code = cX3_bridge) (hr : meth.sig.returnType = ((some .int))) (hml : c.maxLocals = 6) (hown : s.vm.findClass RX3 = some m.cls) (hts : ∀ w ∈ TB, w.before args s = true) (hlocks : meth.locks = false) (S : Nat → Bool) (μ0 : mM) (hS6 : S 6 = true) (k : Int32) (F83 : Nat) (O83 : ∀ (y3 y4 : Int32) (hy : 0 ≤ y4.toInt ∧ y4.toInt ≤ 12) (hf : 12 - y4.toInt < (F83 : Int)) (μ : mM) (hI : IY S μ0 μ) (H : Heap) (locs : List Loc), m_WA (m_A b LAY) D cy s b LAY μ H locs → ∀ ls : Array Slot, lv_has ls 6 [(0, .ref (b + 41)), (1, .int k), (3, .int y3), (4, .int y4)] → W p l e (m_R 3 0 0) s m args below meth c H locs 0 0 (MQ below (m_Qi D cy b LAY (fun r ν => IY S μ0 ν ∧ (True))) args s 0 0 (m_A b LAY)) (F0 m 83 ls [])) : ∀ (f : Nat), ∀ (y3 y4 y5 : Int32) (hy : 12 - y4.toInt < (F83 : Int) + 1 ∧ 0 ≤ y4.toInt ∧ y4.toInt ≤ 11 ∧ 0 ≤ y5.toInt ∧ y5.toInt ≤ 16 ∧ 0 ≤ y4.toInt ∧ y4.toInt ≤ 12) (hf : 16 - y5.toInt < (f : Int)) (μ : mM) (hI : IY S μ0 μ) (H : Heap) (locs : List Loc), m_WA (m_A b LAY) D cy s b LAY μ H locs → ∀ ls : Array Slot, lv_has ls 6 [(0, .ref (b + 41)), (1, .int k), (3, .int y3), (4, .int y4), (5, .int y5)] → W p l e (m_R 3 0 0) s m args below meth c H locs 0 0 (MQ below (m_Qi D cy b LAY (fun r ν => IY S μ0 ν ∧ (True))) args s 0 0 (m_A b LAY)) (F0 m 95 ls []) := by
  intro f
  induction f with
  | zero => intro y3 y4 y5 hy hf; exfalso; omega
  | succ f ih =>
    intro y3 y4 y5 hy hf μ hI H locs hW ls hl
    refine lv_iload hx hb dX3_bridge_95 (lv_at hl 4 rfl) ?_
    refine lv_aload_n hx hb dX3_bridge_97 rfl (lv_at hl 0 rfl) ?_
    refine m_geti hx hb hts hown hW (41) 0 rfl rfl cw_3 rfl (by decide) k_X3_11 dX3_bridge_98 ?_
    refine lv_topi (fun x1 ex1 => ?_)
    have bx1 : 0 ≤ x1.toInt ∧ x1.toInt ≤ 16 := by rw [ex1]; exact hI.1 _ _ _ _ rfl
    refine lv_icmp_ge (tgt := 134) hx hb dX3_bridge_101 (by decide) (fun c2 => ?_) (fun c2 => ?_)
    · have i2 := m_c3 (rfl : x1.toInt = _) (rfl : y5.toInt = _) c2
      obtain ⟨x3, ex3⟩ : ∃ z : Int32, z = y4 + 1 := ⟨_, rfl⟩
      refine lv_iinc (v := x3) (lv' := [(4, .int x3), (0, .ref (b + 41)), (1, .int k), (3, .int y3), (5, .int y5)]) hx hb dX3_bridge_134 hl (k := 3) rfl (by rw [ex3]; rfl) (by decide) rfl (fun ls hl => ?_)
      have tx3 : x3.toInt = y4.toInt + 1 := m_addI ex3 (rfl : y4.toInt = _) (by decide : (1 : Int32).toInt = 1) (by omega) (by omega)
      refine lv_goto (tgt := 83) hx hb dX3_bridge_137 (by decide) ?_
      exact O83 y3 x3 (by omega) (by omega) μ hI _ _ hW ls (lv_sub hl [1, 2, 3, 0] rfl)
    · have i2 := m_c4 (rfl : x1.toInt = _) (rfl : y5.toInt = _) c2
      refine lv_aload_n hx hb dX3_bridge_104 rfl (lv_at hl 0 rfl) ?_
      refine lv_iload hx hb dX3_bridge_105 (lv_at hl 4 rfl) ?_
      refine lv_iload hx hb dX3_bridge_107 (lv_at hl 3 rfl) ?_
      refine m_aI hW (m_runV (As := [.int y5, .int y4]) (rest := []) hx hb hml hown hts hW (41) (g_X3_isBorder_41 l D cy b y5 y4 μ hI.1) mi_X3_isBorder k_X3_218 rfl rfl rfl hl.1 rfl (Nat.le_of_ble_eq_true rfl) dX3_bridge_109 ⟨Nat.le_of_ble_eq_true rfl, Nat.le_of_ble_eq_true rfl⟩ ⟨Nat.le_of_ble_eq_true rfl, Nat.le_of_ble_eq_true rfl⟩) (fun x4 μ4 H locs q4 hW => ?_)
      obtain ⟨q4_m, q4⟩ := q4
      subst q4_m
      rcases q4 with ⟨rfl, q4⟩ | ⟨rfl, q4⟩
      · refine lv_if_eq (tgt := 128) hx hb dX3_bridge_112 (by decide) (fun c => False.elim (by revert c; decide)) (fun _ => ?_)
        refine lv_iload_n hx hb dX3_bridge_115 rfl (lv_at hl 2 rfl) ?_
        refine lv_aload_n hx hb dX3_bridge_116 rfl (lv_at hl 0 rfl) ?_
        refine lv_iload hx hb dX3_bridge_117 (lv_at hl 4 rfl) ?_
        refine lv_iload hx hb dX3_bridge_119 (lv_at hl 3 rfl) ?_
        refine m_aI hW (m_runV (As := [.int y5, .int y4]) (rest := [.int y3]) hx hb hml hown hts hW (41) (g_X3_costAt_41 l D cy b y5 y4 μ hI.1) mi_X3_costAt k_X3_221 rfl rfl rfl hl.1 rfl (Nat.le_of_ble_eq_true rfl) dX3_bridge_121 ⟨Nat.le_of_ble_eq_true rfl, Nat.le_of_ble_eq_true rfl⟩ ⟨Nat.le_of_ble_eq_true rfl, Nat.le_of_ble_eq_true rfl⟩) (fun x5 μ5 H locs q5 hW => ?_)
        obtain ⟨q5_m, q5⟩ := q5
        subst q5_m
        refine va_mmin hx hb (hml.trans hl.1.symm) hown (hts _ k_X3_76) (hts _ kM_min_s) (hts _ kM_n) (hts _ kM_min_c) (Nat.le_of_ble_eq_true rfl) (Nat.le_of_ble_eq_true rfl) (Nat.le_of_ble_eq_true rfl) (Nat.le_of_ble_eq_true rfl) dX3_bridge_124 ?_
        refine lv_topi (fun x6 ex6 => ?_)
        have tx6 : x6.toInt = min (y3.toInt) (x5.toInt) := m_min ex6 (rfl : y3.toInt = _) (rfl : x5.toInt = _)
        refine lv_istore_n (lv' := [(3, .int x6), (0, .ref (b + 41)), (1, .int k), (4, .int y4), (5, .int y5)]) hx hb dX3_bridge_127 rfl hl (by decide) rfl (fun ls hl => ?_)
        obtain ⟨x7, ex7⟩ : ∃ z : Int32, z = y5 + 1 := ⟨_, rfl⟩
        refine lv_iinc (v := x7) (lv' := [(5, .int x7), (3, .int x6), (0, .ref (b + 41)), (1, .int k), (4, .int y4)]) hx hb dX3_bridge_128 hl (k := 4) rfl (by rw [ex7]; rfl) (by decide) rfl (fun ls hl => ?_)
        have tx7 : x7.toInt = y5.toInt + 1 := m_addI ex7 (rfl : y5.toInt = _) (by decide : (1 : Int32).toInt = 1) (by omega) (by omega)
        refine lv_goto (tgt := 95) hx hb dX3_bridge_131 (by decide) ?_
        exact ih x6 y4 x7 (by omega) (by omega) μ hI _ _ hW ls (lv_sub hl [2, 3, 1, 4, 0] rfl)
      · refine lv_if_eq (tgt := 128) hx hb dX3_bridge_112 (by decide) (fun _ => ?_) (fun c => False.elim (by revert c; decide))
        obtain ⟨x8, ex8⟩ : ∃ z : Int32, z = y5 + 1 := ⟨_, rfl⟩
        refine lv_iinc (v := x8) (lv' := [(5, .int x8), (0, .ref (b + 41)), (1, .int k), (3, .int y3), (4, .int y4)]) hx hb dX3_bridge_128 hl (k := 4) rfl (by rw [ex8]; rfl) (by decide) rfl (fun ls hl => ?_)
        have tx8 : x8.toInt = y5.toInt + 1 := m_addI ex8 (rfl : y5.toInt = _) (by decide : (1 : Int32).toInt = 1) (by omega) (by omega)
        refine lv_goto (tgt := 95) hx hb dX3_bridge_131 (by decide) ?_
        exact ih y3 y4 x8 (by omega) (by omega) μ hI _ _ hW ls (lv_sub hl [1, 2, 3, 4, 0] rfl)
set_option maxHeartbeats 4000000 in
set_option maxRecDepth 100000 in
theorem L_X3_bridge_41_83 {p : Program} {l : Launch} {e : Env} {s : State} {m : MethodId} {args : Array Value} {below : List Frame} {meth : Method} {c : Code} {D : va_G} {cy : Nat → ClassId} {b : Nat} (hx : p.tables.exec = Jvm.exec) (hb : c.code = cX3_bridge) (hr : meth.sig.returnType = ((some .int))) (hml : c.maxLocals = 6) (hown : s.vm.findClass RX3 = some m.cls) (hts : ∀ w ∈ TB, w.before args s = true) (hlocks : meth.locks = false) (S : Nat → Bool) (μ0 : mM) (hS6 : S 6 = true) (k : Int32) : ∀ (f : Nat), ∀ (y3 y4 : Int32) (hy : 0 ≤ y4.toInt ∧ y4.toInt ≤ 12) (hf : 12 - y4.toInt < (f : Int)) (μ : mM) (hI : IY S μ0 μ) (H : Heap) (locs : List Loc), m_WA (m_A b LAY) D cy s b LAY μ H locs → ∀ ls : Array Slot, lv_has ls 6 [(0, .ref (b + 41)), (1, .int k), (3, .int y3), (4, .int y4)] → W p l e (m_R 3 0 0) s m args below meth c H locs 0 0 (MQ below (m_Qi D cy b LAY (fun r ν => IY S μ0 ν ∧ (True))) args s 0 0 (m_A b LAY)) (F0 m 83 ls []) := by
  intro f
  induction f with
  | zero => intro y3 y4 hy hf; exfalso; omega
  | succ f ih =>
    intro y3 y4 hy hf μ hI H locs hW ls hl
    refine lv_iload hx hb dX3_bridge_83 (lv_at hl 3 rfl) ?_
    refine lv_aload_n hx hb dX3_bridge_85 rfl (lv_at hl 0 rfl) ?_
    refine m_geti hx hb hts hown hW (41) 1 rfl rfl cw_3 rfl (by decide) k_X3_15 dX3_bridge_86 ?_
    refine lv_topi (fun x1 ex1 => ?_)
    have bx1 : 0 ≤ x1.toInt ∧ x1.toInt ≤ 12 := by rw [ex1]; exact hI.1 _ _ _ _ rfl
    refine lv_icmp_ge (tgt := 140) hx hb dX3_bridge_89 (by decide) (fun c2 => ?_) (fun c2 => ?_)
    · have i2 := m_c3 (rfl : x1.toInt = _) (rfl : y4.toInt = _) c2
      refine lv_iload_n hx hb dX3_bridge_140 rfl (lv_at hl 2 rfl) ?_
      exact m_iret hx hb hr hlocks hW rfl (⟨hI, trivial⟩) dX3_bridge_141
    · have i2 := m_c4 (rfl : x1.toInt = _) (rfl : y4.toInt = _) c2
      refine lv_iconst (v := 0) hx hb dX3_bridge_92 (by decide) ?_
      refine lv_istore (lv' := [(5, .int 0), (0, .ref (b + 41)), (1, .int k), (3, .int y3), (4, .int y4)]) hx hb dX3_bridge_93 hl (by decide) rfl (fun ls hl => ?_)
      have l_0 : (0 : Int32).toInt = 0 := by decide
      exact L_X3_bridge_41_95 hx hb hr hml hown hts hlocks S μ0 hS6 k f ih 17 y3 y4 0 (by omega) (by omega) μ hI _ _ hW ls (lv_sub hl [1, 2, 3, 4, 0] rfl)
set_option maxHeartbeats 4000000 in
set_option maxRecDepth 100000 in
theorem L_X3_bridge_41_54 {p : Program} {l : Launch} {e : Env} {s : State} {m : MethodId} {args : Array Value} {below : List Frame} {meth : Method} {c : Code} {D : va_G} {cy : Nat → ClassId} {b : Nat} (hx : p.tables.exec = Jvm.exec) (hb : c.code = cX3_bridge) (hr : meth.sig.returnType = ((some .int))) (hml : c.maxLocals = 6) (hown : s.vm.findClass RX3 = some m.cls) (hts : ∀ w ∈ TB, w.before args s = true) (hlocks : meth.locks = false) (S : Nat → Bool) (μ0 : mM) (hS6 : S 6 = true) (k : Int32) : ∀ (f : Nat), ∀ (y2 y3 : Int32) (hy : 0 ≤ y2.toInt ∧ y2.toInt ≤ 1 ∧ 0 ≤ y3.toInt ∧ y3.toInt ≤ 192) (hf : 192 - y3.toInt < (f : Int)) (μ : mM) (hI : IY S μ0 μ) (H : Heap) (locs : List Loc), m_WA (m_A b LAY) D cy s b LAY μ H locs → ∀ ls : Array Slot, lv_has ls 6 [(0, .ref (b + 41)), (1, .int k), (2, .int y2), (3, .int y3)] → W p l e (m_R 3 0 0) s m args below meth c H locs 0 0 (MQ below (m_Qi D cy b LAY (fun r ν => IY S μ0 ν ∧ (True))) args s 0 0 (m_A b LAY)) (F0 m 54 ls []) := by
  intro f
  induction f with
  | zero => intro y2 y3 hy hf; exfalso; omega
  | succ f ih =>
    intro y2 y3 hy hf μ hI H locs hW ls hl
    refine lv_iload_n hx hb dX3_bridge_54 rfl (lv_at hl 3 rfl) ?_
    refine lv_sipush (v := 192) hx hb dX3_bridge_55 (by decide) ?_
    refine lv_icmp_ge (tgt := 76) hx hb dX3_bridge_58 (by decide) (fun c1 => ?_) (fun c1 => ?_)
    · have i1 := m_c3 (by decide : (192 : Int32).toInt = 192) (rfl : y3.toInt = _) c1
      refine lv_sipush (v := 192) hx hb dX3_bridge_76 (by decide) ?_
      refine lv_istore_n (lv' := [(3, .int 192), (0, .ref (b + 41)), (1, .int k), (2, .int y2)]) hx hb dX3_bridge_79 rfl hl (by decide) rfl (fun ls hl => ?_)
      refine lv_iconst (v := 0) hx hb dX3_bridge_80 (by decide) ?_
      refine lv_istore (lv' := [(4, .int 0), (3, .int 192), (0, .ref (b + 41)), (1, .int k), (2, .int y2)]) hx hb dX3_bridge_81 hl (by decide) rfl (fun ls hl => ?_)
      have l_192 : (192 : Int32).toInt = 192 := by decide
      have l_0 : (0 : Int32).toInt = 0 := by decide
      exact L_X3_bridge_41_83 hx hb hr hml hown hts hlocks S μ0 hS6 k  13 192 0 (by omega) (by omega) μ hI _ _ hW ls (lv_sub hl [2, 3, 1, 0] rfl)
    · have i1 := m_c4 (by decide : (192 : Int32).toInt = 192) (rfl : y3.toInt = _) c1
      refine lv_iload_n hx hb dX3_bridge_61 rfl (lv_at hl 2 rfl) ?_
      refine lv_if_eq (tgt := 76) hx hb dX3_bridge_62 (by decide) (fun c2 => ?_) (fun c2 => ?_)
      · have i2 := m_c5 (rfl : y2.toInt = _) (by decide : (0 : Int32).toInt = 0) c2
        refine lv_sipush (v := 192) hx hb dX3_bridge_76 (by decide) ?_
        refine lv_istore_n (lv' := [(3, .int 192), (0, .ref (b + 41)), (1, .int k), (2, .int y2)]) hx hb dX3_bridge_79 rfl hl (by decide) rfl (fun ls hl => ?_)
        refine lv_iconst (v := 0) hx hb dX3_bridge_80 (by decide) ?_
        refine lv_istore (lv' := [(4, .int 0), (3, .int 192), (0, .ref (b + 41)), (1, .int k), (2, .int y2)]) hx hb dX3_bridge_81 hl (by decide) rfl (fun ls hl => ?_)
        have l_192 : (192 : Int32).toInt = 192 := by decide
        have l_0 : (0 : Int32).toInt = 0 := by decide
        exact L_X3_bridge_41_83 hx hb hr hml hown hts hlocks S μ0 hS6 k  13 192 0 (by omega) (by omega) μ hI _ _ hW ls (lv_sub hl [2, 3, 1, 0] rfl)
      · have i2 := m_c6 (rfl : y2.toInt = _) (by decide : (0 : Int32).toInt = 0) c2
        refine lv_aload_n hx hb dX3_bridge_65 rfl (lv_at hl 0 rfl) ?_
        refine m_aI hW (m_runV (As := []) (rest := []) hx hb hml hown hts hW (41) (g_X3_spreadCosts_41 l D cy b S μ0 hS6 μ hI) mi_X3_spreadCosts k_X3_214 rfl rfl rfl hl.1 rfl (Nat.le_of_ble_eq_true rfl) dX3_bridge_66 ⟨Nat.le_of_ble_eq_true rfl, Nat.le_of_ble_eq_true rfl⟩ ⟨Nat.le_of_ble_eq_true rfl, Nat.le_of_ble_eq_true rfl⟩) (fun x3 μ3 H locs q3 hW => ?_)
        obtain ⟨hI, q3⟩ := q3
        rcases q3 with ⟨rfl, q3⟩ | ⟨rfl, q3⟩
        · refine lv_istore_n (lv' := [(2, .int 1), (0, .ref (b + 41)), (1, .int k), (3, .int y3)]) hx hb dX3_bridge_69 rfl hl (by decide) rfl (fun ls hl => ?_)
          obtain ⟨x4, ex4⟩ : ∃ z : Int32, z = y3 + 1 := ⟨_, rfl⟩
          refine lv_iinc (v := x4) (lv' := [(3, .int x4), (2, .int 1), (0, .ref (b + 41)), (1, .int k)]) hx hb dX3_bridge_70 hl (k := 3) rfl (by rw [ex4]; rfl) (by decide) rfl (fun ls hl => ?_)
          have tx4 : x4.toInt = y3.toInt + 1 := m_addI ex4 (rfl : y3.toInt = _) (by decide : (1 : Int32).toInt = 1) (by omega) (by omega)
          refine lv_goto (tgt := 54) hx hb dX3_bridge_73 (by decide) ?_
          have l_1 : (1 : Int32).toInt = 1 := by decide
          exact ih 1 x4 (by omega) (by omega) μ3 hI _ _ hW ls (lv_sub hl [2, 3, 1, 0] rfl)
        · refine lv_istore_n (lv' := [(2, .int 0), (0, .ref (b + 41)), (1, .int k), (3, .int y3)]) hx hb dX3_bridge_69 rfl hl (by decide) rfl (fun ls hl => ?_)
          obtain ⟨x5, ex5⟩ : ∃ z : Int32, z = y3 + 1 := ⟨_, rfl⟩
          refine lv_iinc (v := x5) (lv' := [(3, .int x5), (2, .int 0), (0, .ref (b + 41)), (1, .int k)]) hx hb dX3_bridge_70 hl (k := 3) rfl (by rw [ex5]; rfl) (by decide) rfl (fun ls hl => ?_)
          have tx5 : x5.toInt = y3.toInt + 1 := m_addI ex5 (rfl : y3.toInt = _) (by decide : (1 : Int32).toInt = 1) (by omega) (by omega)
          refine lv_goto (tgt := 54) hx hb dX3_bridge_73 (by decide) ?_
          have l_0 : (0 : Int32).toInt = 0 := by decide
          exact ih 0 x5 (by omega) (by omega) μ3 hI _ _ hW ls (lv_sub hl [2, 3, 1, 0] rfl)
set_option maxHeartbeats 4000000 in
set_option maxRecDepth 100000 in
theorem L_X3_bridge_41_18 {p : Program} {l : Launch} {e : Env} {s : State} {m : MethodId} {args : Array Value} {below : List Frame} {meth : Method} {c : Code} {D : va_G} {cy : Nat → ClassId} {b : Nat} (hx : p.tables.exec = Jvm.exec) (hb : c.code = cX3_bridge) (hr : meth.sig.returnType = ((some .int))) (hml : c.maxLocals = 6) (hown : s.vm.findClass RX3 = some m.cls) (hts : ∀ w ∈ TB, w.before args s = true) (hlocks : meth.locks = false) (S : Nat → Bool) (μ0 : mM) (hS6 : S 6 = true) (k : Int32) : ∀ (f : Nat), ∀ (y2 : Int32) (hy : 0 ≤ y2.toInt ∧ y2.toInt ≤ 192) (hf : 192 - y2.toInt < (f : Int)) (μ : mM) (hI : IY S μ0 μ) (H : Heap) (locs : List Loc), m_WA (m_A b LAY) D cy s b LAY μ H locs → ∀ ls : Array Slot, lv_has ls 6 [(0, .ref (b + 41)), (1, .int k), (2, .int y2)] → W p l e (m_R 3 0 0) s m args below meth c H locs 0 0 (MQ below (m_Qi D cy b LAY (fun r ν => IY S μ0 ν ∧ (True))) args s 0 0 (m_A b LAY)) (F0 m 18 ls []) := by
  intro f
  induction f with
  | zero => intro y2 hy hf; exfalso; omega
  | succ f ih =>
    intro y2 hy hf μ hI H locs hW ls hl
    refine lv_iload_n hx hb dX3_bridge_18 rfl (lv_at hl 2 rfl) ?_
    refine lv_aload_n hx hb dX3_bridge_19 rfl (lv_at hl 0 rfl) ?_
    refine m_getr hx hb hts hown hW (41) 17 (49) rfl rfl cw_3 rfl (by decide) k_X3_72 dX3_bridge_20 ?_
    refine m_geti hx hb hts hown hW (49) 2 rfl rfl cw_2 rfl (by decide) k_X3_198 dX3_bridge_23 ?_
    refine lv_topi (fun x1 ex1 => ?_)
    have bx1 : 0 ≤ x1.toInt ∧ x1.toInt ≤ 192 := by rw [ex1]; exact hI.1 _ _ _ _ rfl
    refine lv_icmp_ge (tgt := 50) hx hb dX3_bridge_26 (by decide) (fun c2 => ?_) (fun c2 => ?_)
    · have i2 := m_c3 (rfl : x1.toInt = _) (rfl : y2.toInt = _) c2
      refine lv_iconst (v := 1) hx hb dX3_bridge_50 (by decide) ?_
      refine lv_istore_n (lv' := [(2, .int 1), (0, .ref (b + 41)), (1, .int k)]) hx hb dX3_bridge_51 rfl hl (by decide) rfl (fun ls hl => ?_)
      refine lv_iconst (v := 0) hx hb dX3_bridge_52 (by decide) ?_
      refine lv_istore_n (lv' := [(3, .int 0), (2, .int 1), (0, .ref (b + 41)), (1, .int k)]) hx hb dX3_bridge_53 rfl hl (by decide) rfl (fun ls hl => ?_)
      have l_1 : (1 : Int32).toInt = 1 := by decide
      have l_0 : (0 : Int32).toInt = 0 := by decide
      exact L_X3_bridge_41_54 hx hb hr hml hown hts hlocks S μ0 hS6 k  193 1 0 (by omega) (by omega) μ hI _ _ hW ls (lv_sub hl [2, 3, 1, 0] rfl)
    · have i2 := m_c4 (rfl : x1.toInt = _) (rfl : y2.toInt = _) c2
      refine lv_aload_n hx hb dX3_bridge_29 rfl (lv_at hl 0 rfl) ?_
      refine m_getr hx hb hts hown hW (41) 16 (48) rfl rfl cw_3 rfl (by decide) k_X3_66 dX3_bridge_30 ?_
      refine lv_aload_n hx hb dX3_bridge_33 rfl (lv_at hl 0 rfl) ?_
      refine m_getr hx hb hts hown hW (41) 17 (49) rfl rfl cw_3 rfl (by decide) k_X3_72 dX3_bridge_34 ?_
      refine m_getr hx hb hts hown hW (49) 0 (50) rfl rfl cw_2 rfl (by decide) k_X3_201 dX3_bridge_37 ?_
      refine lv_iload_n hx hb dX3_bridge_40 rfl (lv_at hl 2 rfl) ?_
      refine m_iald hx hb hW (50) rfl (m_ixI (rfl : y2.toInt = _) (by omega) (by omega)) dX3_bridge_41 ?_
      refine lv_topi (fun x3 ex3 => ?_)
      have bx3 : 0 ≤ x3.toInt ∧ x3.toInt ≤ 191 := by rw [ex3]; exact hI.1 _ _ _ _ rfl
      refine lv_iconst (v := 0) hx hb dX3_bridge_42 (by decide) ?_
      refine m_iast hx hb hW (48) rfl (m_ixI (rfl : x3.toInt = _) (by omega) (by omega)) dX3_bridge_43 (fun H locs hW _ => ?_)
      generalize hμ4 : m_si μ (48) (x3 : Int32).toNatClampNeg 0 = μ4 at hW
      have hI := hI.si0 hμ4 rfl hS6
      obtain ⟨x5, ex5⟩ : ∃ z : Int32, z = y2 + 1 := ⟨_, rfl⟩
      refine lv_iinc (v := x5) (lv' := [(2, .int x5), (0, .ref (b + 41)), (1, .int k)]) hx hb dX3_bridge_44 hl (k := 2) rfl (by rw [ex5]; rfl) (by decide) rfl (fun ls hl => ?_)
      have tx5 : x5.toInt = y2.toInt + 1 := m_addI ex5 (rfl : y2.toInt = _) (by decide : (1 : Int32).toInt = 1) (by omega) (by omega)
      refine lv_goto (tgt := 18) hx hb dX3_bridge_47 (by decide) ?_
      exact ih x5 (by omega) (by omega) μ4 hI _ _ hW ls (lv_sub hl [1, 2, 0] rfl)
set_option maxHeartbeats 4000000 in
set_option maxRecDepth 100000 in
theorem g_X3_bridge_41 (l : Launch) (D : va_G) (cy : Nat → ClassId) (b : Nat) (S : Nat → Bool) (μ0 : mM) (hS6 : S 6 = true) (k : Int32) (μ : mM) (hI : IY S μ0 μ) : m_Ci l yX3_bridge cX3_bridge 6 ((some .int)) 3 D cy b LAY μ [.ref (b + 41), .int k] (fun r ν => IY S μ0 ν ∧ (True)) := by
  unfold m_Ci
  refine m_of (by decide) (Nat.le_of_ble_eq_true rfl) ?_
  intro p e s m below meth c hx hb hr hml hown hts hlocks _ hW ls hl
  have hown : s.vm.findClass RX3 = some m.cls := hown
  have hl : lv_has ls 6 [(0, .ref (b + 41)), (1, .int k)] := hl
  refine lv_aload_n hx hb dX3_bridge_0 rfl (lv_at hl 0 rfl) ?_
  refine lv_iload_n hx hb dX3_bridge_1 rfl (lv_at hl 1 rfl) ?_
  refine m_aQ hW (m_runV (As := [.int k]) (rest := []) hx hb hml hown hts hW (41) (g_X3_partAt_41 l D cy b S μ0 hS6 k μ hI) mi_X3_partAt k_X3_210 rfl rfl rfl hl.1 rfl (Nat.le_of_ble_eq_true rfl) dX3_bridge_2 ⟨Nat.le_of_ble_eq_true rfl, Nat.le_of_ble_eq_true rfl⟩ ⟨Nat.le_of_ble_eq_true rfl, Nat.le_of_ble_eq_true rfl⟩) (fun μ1 H locs q1 hW => by cases q1.2) (fun r1 μ1 H locs q1 hW => ?_)
  obtain ⟨hI, q1⟩ := q1
  obtain rfl := Option.some.inj q1
  refine lv_pop hx hb dX3_bridge_5 rfl ?_
  refine lv_aload_n hx hb dX3_bridge_6 rfl (lv_at hl 0 rfl) ?_
  refine m_getr hx hb hts hown hW (41) 16 (48) rfl rfl cw_3 rfl (by decide) k_X3_66 dX3_bridge_7 ?_
  refine lv_sipush (v := 192) hx hb dX3_bridge_10 (by decide) ?_
  have l_192 : (192 : Int32).toInt = 192 := by decide
  refine m_aV hW (m_runS (As := [.ref (b + 48), .int 192]) (rest := []) hx hb hml hown hts hW (g_J7_fill_53178 l D cy b S μ0 48 192 rfl (by decide) (fun _ => rfl) (fun _ => hS6) 192 μ1 hI) ms_J7_fill_53178 k_X3_85 rfl hl.1 rfl (Nat.le_of_ble_eq_true rfl) dX3_bridge_13 ⟨Nat.le_of_ble_eq_true rfl, Nat.le_of_ble_eq_true rfl⟩ ⟨Nat.le_of_ble_eq_true rfl, Nat.le_of_ble_eq_true rfl⟩) (fun μ2 H locs q2 hW => ?_)
  obtain ⟨hI, q2⟩ := q2
  refine lv_iconst (v := 0) hx hb dX3_bridge_16 (by decide) ?_
  refine lv_istore_n (lv' := [(2, .int 0), (0, .ref (b + 41)), (1, .int k)]) hx hb dX3_bridge_17 rfl hl (by decide) rfl (fun ls hl => ?_)
  have l_0 : (0 : Int32).toInt = 0 := by decide
  exact L_X3_bridge_41_18 hx hb hr hml hown hts hlocks S μ0 hS6 k  193 0 (by omega) (by omega) μ2 hI _ _ hW ls (lv_sub hl [1, 2, 0] rfl)
set_option maxHeartbeats 4000000 in
set_option maxRecDepth 100000 in
theorem L_X3_heatInAll_41_4 {p : Program} {l : Launch} {e : Env} {s : State} {m : MethodId} {args : Array Value} {below : List Frame} {meth : Method} {c : Code} {D : va_G} {cy : Nat → ClassId} {b : Nat} (hx : p.tables.exec = Jvm.exec) (hb : c.code = cX3_heatInAll) (hr : meth.sig.returnType = ((some .long))) (hml : c.maxLocals = 4) (hown : s.vm.findClass RX3 = some m.cls) (hts : ∀ w ∈ TB, w.before args s = true) (hlocks : meth.locks = false) (S : Nat → Bool) (μ0 : mM) (hS6 : S 6 = true) : ∀ (f : Nat), ∀ (y3 : Int32) (y1 : Int64) (hy : 0 ≤ y3.toInt ∧ y3.toInt ≤ 192) (hf : 192 - y3.toInt < (f : Int)) (μ : mM) (hI : IY S μ0 μ) (H : Heap) (locs : List Loc), m_WA (m_A b LAY) D cy s b LAY μ H locs → ∀ ls : Array Slot, lv_has ls 4 [(0, .ref (b + 41)), (1, .long y1), (3, .int y3)] → W p l e (m_R 0 0 0) s m args below meth c H locs 0 0 (MQ below (m_Ql D cy b LAY (fun r ν => IY S μ0 ν ∧ (True))) args s 0 0 (m_A b LAY)) (F0 m 4 ls []) := by
  intro f
  induction f with
  | zero => intro y3 y1 hy hf; exfalso; omega
  | succ f ih =>
    intro y3 y1 hy hf μ hI H locs hW ls hl
    refine lv_iload_n hx hb dX3_heatInAll_4 rfl (lv_at hl 2 rfl) ?_
    refine lv_aload_n hx hb dX3_heatInAll_5 rfl (lv_at hl 0 rfl) ?_
    refine m_geti hx hb hts hown hW (41) 2 rfl rfl cw_3 rfl (by decide) k_X3_18 dX3_heatInAll_6 ?_
    refine lv_topi (fun x1 ex1 => ?_)
    have bx1 : 0 ≤ x1.toInt ∧ x1.toInt ≤ 192 := by rw [ex1]; exact hI.1 _ _ _ _ rfl
    refine lv_icmp_ge (tgt := 28) hx hb dX3_heatInAll_9 (by decide) (fun c2 => ?_) (fun c2 => ?_)
    · have i2 := m_c3 (rfl : x1.toInt = _) (rfl : y3.toInt = _) c2
      refine lv_lload_n hx hb dX3_heatInAll_28 rfl (lv_at hl 1 rfl) ?_
      exact m_lret hx hb hr hlocks hW (⟨hI, trivial⟩) dX3_heatInAll_29
    · have i2 := m_c4 (rfl : x1.toInt = _) (rfl : y3.toInt = _) c2
      refine lv_lload_n hx hb dX3_heatInAll_12 rfl (lv_at hl 1 rfl) ?_
      refine lv_aload_n hx hb dX3_heatInAll_13 rfl (lv_at hl 0 rfl) ?_
      refine m_getr hx hb hts hown hW (41) 11 (43) rfl rfl cw_3 rfl (by decide) k_X3_50 dX3_heatInAll_14 ?_
      refine lv_iload_n hx hb dX3_heatInAll_17 rfl (lv_at hl 2 rfl) ?_
      refine m_iald hx hb hW (43) rfl (m_ixI (rfl : y3.toInt = _) (by omega) (by omega)) dX3_heatInAll_18 ?_
      refine lv_topi (fun x3 ex3 => ?_)
      refine lv_i2l hx hb dX3_heatInAll_19 rfl ?_
      refine lv_topl (fun x4 ex4 => ?_)
      refine lv_ladd hx hb dX3_heatInAll_20 ?_
      refine lv_topl (fun x5 ex5 => ?_)
      refine lv_lstore_n (lv' := [(1, .long x5), (0, .ref (b + 41)), (3, .int y3)]) hx hb dX3_heatInAll_21 rfl hl (by decide) rfl (fun ls hl => ?_)
      obtain ⟨x6, ex6⟩ : ∃ z : Int32, z = y3 + 1 := ⟨_, rfl⟩
      refine lv_iinc (v := x6) (lv' := [(3, .int x6), (1, .long x5), (0, .ref (b + 41))]) hx hb dX3_heatInAll_22 hl (k := 2) rfl (by rw [ex6]; rfl) (by decide) rfl (fun ls hl => ?_)
      have tx6 : x6.toInt = y3.toInt + 1 := m_addI ex6 (rfl : y3.toInt = _) (by decide : (1 : Int32).toInt = 1) (by omega) (by omega)
      refine lv_goto (tgt := 4) hx hb dX3_heatInAll_25 (by decide) ?_
      exact ih x6 x5 (by omega) (by omega) μ hI _ _ hW ls (lv_sub hl [2, 1, 0] rfl)
set_option maxHeartbeats 4000000 in
set_option maxRecDepth 100000 in
theorem g_X3_heatInAll_41 (l : Launch) (D : va_G) (cy : Nat → ClassId) (b : Nat) (S : Nat → Bool) (μ0 : mM) (hS6 : S 6 = true) (μ : mM) (hI : IY S μ0 μ) : m_Cl l yX3_heatInAll cX3_heatInAll 4 ((some .long)) 0 D cy b LAY μ [.ref (b + 41)] (fun r ν => IY S μ0 ν ∧ (True)) := by
  unfold m_Cl
  refine m_of (by decide) (Nat.le_of_ble_eq_true rfl) ?_
  intro p e s m below meth c hx hb hr hml hown hts hlocks _ hW ls hl
  have hown : s.vm.findClass RX3 = some m.cls := hown
  have hl : lv_has ls 4 [(0, .ref (b + 41))] := hl
  refine lv_lconst (v := 0) hx hb dX3_heatInAll_0 (by decide) ?_
  refine lv_lstore_n (lv' := [(1, .long 0), (0, .ref (b + 41))]) hx hb dX3_heatInAll_1 rfl hl (by decide) rfl (fun ls hl => ?_)
  refine lv_iconst (v := 0) hx hb dX3_heatInAll_2 (by decide) ?_
  refine lv_istore_n (lv' := [(3, .int 0), (1, .long 0), (0, .ref (b + 41))]) hx hb dX3_heatInAll_3 rfl hl (by decide) rfl (fun ls hl => ?_)
  have l_0 : (0 : Int32).toInt = 0 := by decide
  exact L_X3_heatInAll_41_4 hx hb hr hml hown hts hlocks S μ0 hS6  193 0 0 (by omega) (by omega) μ hI _ _ hW ls (lv_sub hl [2, 1, 0] rfl)
