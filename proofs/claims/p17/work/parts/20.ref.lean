set_option maxHeartbeats 4000000 in
set_option maxRecDepth 100000 in
theorem g_X12_isIn (l : Launch) (D : va_G) (cy : Nat → ClassId) (b : Nat) (v a u : Int32) (μ : mM) (hI : IX μ) : m_Ci l yX12_isIn cX12_isIn 4 ((some .boolean)) 0 D cy b LAY μ [.ref (b + 81), .int v, .int a, .int u] (fun r ν => μ = ν ∧ ((r = 1 ∧ (a.toInt ≤ v.toInt ∧ v.toInt ≤ u.toInt)) ∨ (r = 0 ∧ (v.toInt < a.toInt ∨ u.toInt < v.toInt)))) := by
  unfold m_Ci
  refine m_of (by decide) (Nat.le_of_ble_eq_true rfl) ?_
  intro p e s m below meth c hx hb hr hml hown hts hlocks _ hW ls hl
  have hown : s.vm.findClass RX12 = some m.cls := hown
  have hl : lv_has ls 4 [(0, .ref (b + 81)), (1, .int v), (2, .int a), (3, .int u)] := hl
  refine lv_iload_n hx hb dX12_isIn_0 rfl (lv_at hl 1 rfl) ?_
  refine lv_iload_n hx hb dX12_isIn_1 rfl (lv_at hl 2 rfl) ?_
  refine lv_icmp_lt (tgt := 14) hx hb dX12_isIn_2 (by decide) (fun c1 => ?_) (fun c1 => ?_)
  · have i1 := m_c1 (rfl : v.toInt = _) (rfl : a.toInt = _) c1
    refine lv_iconst (v := 0) hx hb dX12_isIn_14 (by decide) ?_
    exact m_iret hx hb hr hlocks hW (by decide) (⟨rfl, Or.inr ⟨rfl, by omega⟩⟩) dX12_isIn_15
  · have i1 := m_c2 (rfl : v.toInt = _) (rfl : a.toInt = _) c1
    refine lv_iload_n hx hb dX12_isIn_5 rfl (lv_at hl 1 rfl) ?_
    refine lv_iload_n hx hb dX12_isIn_6 rfl (lv_at hl 3 rfl) ?_
    refine lv_icmp_gt (tgt := 14) hx hb dX12_isIn_7 (by decide) (fun c2 => ?_) (fun c2 => ?_)
    · have i2 := m_c1 (rfl : u.toInt = _) (rfl : v.toInt = _) c2
      refine lv_iconst (v := 0) hx hb dX12_isIn_14 (by decide) ?_
      exact m_iret hx hb hr hlocks hW (by decide) (⟨rfl, Or.inr ⟨rfl, by omega⟩⟩) dX12_isIn_15
    · have i2 := m_c2 (rfl : u.toInt = _) (rfl : v.toInt = _) c2
      refine lv_iconst (v := 1) hx hb dX12_isIn_10 (by decide) ?_
      refine lv_goto (tgt := 15) hx hb dX12_isIn_11 (by decide) ?_
      exact m_iret hx hb hr hlocks hW (by decide) (⟨rfl, Or.inl ⟨rfl, by omega⟩⟩) dX12_isIn_15
set_option maxHeartbeats 4000000 in
set_option maxRecDepth 100000 in
theorem g_X12_stepX (l : Launch) (D : va_G) (cy : Nat → ClassId) (b : Nat) (v : Int32) (μ : mM) (hI : IX μ) : m_Ci l yX12_stepX cX12_stepX 2 ((some .int)) 0 D cy b LAY μ [.ref (b + 81), .int v] (fun r ν => μ = ν ∧ (-1 ≤ r.toInt ∧ r.toInt ≤ 1)) := by
  unfold m_Ci
  refine m_of (by decide) (Nat.le_of_ble_eq_true rfl) ?_
  intro p e s m below meth c hx hb hr hml hown hts hlocks _ hW ls hl
  have hown : s.vm.findClass RX12 = some m.cls := hown
  have hl : lv_has ls 2 [(0, .ref (b + 81)), (1, .int v)] := hl
  refine lv_iload_n hx hb dX12_stepX_0 rfl (lv_at hl 1 rfl) ?_
  refine lv_if_ne (tgt := 8) hx hb dX12_stepX_1 (by decide) (fun c1 => ?_) (fun c1 => ?_)
  · have i1 := m_c6 (rfl : v.toInt = _) (by decide : (0 : Int32).toInt = 0) c1
    refine lv_iload_n hx hb dX12_stepX_8 rfl (lv_at hl 1 rfl) ?_
    refine lv_iconst (v := 2) hx hb dX12_stepX_9 (by decide) ?_
    refine lv_icmp_ne (tgt := 17) hx hb dX12_stepX_10 (by decide) (fun c2 => ?_) (fun c2 => ?_)
    · have i2 := m_c6 (rfl : v.toInt = _) (by decide : (2 : Int32).toInt = 2) c2
      refine lv_iconst (v := 0) hx hb dX12_stepX_17 (by decide) ?_
      exact m_iret hx hb hr hlocks hW rfl (⟨rfl, by decide⟩) dX12_stepX_18
    · have i2 := m_c5 (rfl : v.toInt = _) (by decide : (2 : Int32).toInt = 2) c2
      refine lv_iconst (v := (-1)) hx hb dX12_stepX_13 (by decide) ?_
      refine lv_goto (tgt := 18) hx hb dX12_stepX_14 (by decide) ?_
      exact m_iret hx hb hr hlocks hW rfl (⟨rfl, by decide⟩) dX12_stepX_18
  · have i1 := m_c5 (rfl : v.toInt = _) (by decide : (0 : Int32).toInt = 0) c1
    refine lv_iconst (v := 1) hx hb dX12_stepX_4 (by decide) ?_
    refine lv_goto (tgt := 18) hx hb dX12_stepX_5 (by decide) ?_
    exact m_iret hx hb hr hlocks hW rfl (⟨rfl, by decide⟩) dX12_stepX_18
set_option maxHeartbeats 4000000 in
set_option maxRecDepth 100000 in
theorem g_X12_stepY (l : Launch) (D : va_G) (cy : Nat → ClassId) (b : Nat) (v : Int32) (μ : mM) (hI : IX μ) : m_Ci l yX12_stepY cX12_stepY 2 ((some .int)) 0 D cy b LAY μ [.ref (b + 81), .int v] (fun r ν => μ = ν ∧ (-1 ≤ r.toInt ∧ r.toInt ≤ 1)) := by
  unfold m_Ci
  refine m_of (by decide) (Nat.le_of_ble_eq_true rfl) ?_
  intro p e s m below meth c hx hb hr hml hown hts hlocks _ hW ls hl
  have hown : s.vm.findClass RX12 = some m.cls := hown
  have hl : lv_has ls 2 [(0, .ref (b + 81)), (1, .int v)] := hl
  refine lv_iload_n hx hb dX12_stepY_0 rfl (lv_at hl 1 rfl) ?_
  refine lv_iconst (v := 1) hx hb dX12_stepY_1 (by decide) ?_
  refine lv_icmp_ne (tgt := 9) hx hb dX12_stepY_2 (by decide) (fun c1 => ?_) (fun c1 => ?_)
  · have i1 := m_c6 (rfl : v.toInt = _) (by decide : (1 : Int32).toInt = 1) c1
    refine lv_iload_n hx hb dX12_stepY_9 rfl (lv_at hl 1 rfl) ?_
    refine lv_iconst (v := 3) hx hb dX12_stepY_10 (by decide) ?_
    refine lv_icmp_ne (tgt := 18) hx hb dX12_stepY_11 (by decide) (fun c2 => ?_) (fun c2 => ?_)
    · have i2 := m_c6 (rfl : v.toInt = _) (by decide : (3 : Int32).toInt = 3) c2
      refine lv_iconst (v := 0) hx hb dX12_stepY_18 (by decide) ?_
      exact m_iret hx hb hr hlocks hW rfl (⟨rfl, by decide⟩) dX12_stepY_19
    · have i2 := m_c5 (rfl : v.toInt = _) (by decide : (3 : Int32).toInt = 3) c2
      refine lv_iconst (v := (-1)) hx hb dX12_stepY_14 (by decide) ?_
      refine lv_goto (tgt := 19) hx hb dX12_stepY_15 (by decide) ?_
      exact m_iret hx hb hr hlocks hW rfl (⟨rfl, by decide⟩) dX12_stepY_19
  · have i1 := m_c5 (rfl : v.toInt = _) (by decide : (1 : Int32).toInt = 1) c1
    refine lv_iconst (v := 1) hx hb dX12_stepY_5 (by decide) ?_
    refine lv_goto (tgt := 19) hx hb dX12_stepY_6 (by decide) ?_
    exact m_iret hx hb hr hlocks hW rfl (⟨rfl, by decide⟩) dX12_stepY_19
set_option maxHeartbeats 4000000 in
set_option maxRecDepth 100000 in
theorem g_X12_stuff (l : Launch) (D : va_G) (cy : Nat → ClassId) (b : Nat) (S : Nat → Bool) (μ0 : mM) (hS20 : S 20 = true) (hS21 : S 21 = true) (k u v w z : Int32) (μ : mM) (hI : IY S μ0 μ) : m_Ci l yX12_stuff cX12_stuff 6 ((some .boolean)) 1 D cy b LAY μ [.ref (b + 81), .int k, .int u, .int v, .int w, .int z] (fun r ν => IY S μ0 ν ∧ ((r = 1 ∧ (0 ≤ k.toInt ∧ k.toInt ≤ 3 ∧ 1 ≤ u.toInt ∧ u.toInt ≤ 999 ∧ 0 ≤ v.toInt ∧ v.toInt ≤ 20 ∧ 0 ≤ w.toInt ∧ w.toInt ≤ 20 ∧ 1 ≤ z.toInt ∧ z.toInt ≤ 9999)) ∨ (r = 0 ∧ (¬ (0 ≤ k.toInt ∧ k.toInt ≤ 3 ∧ 1 ≤ u.toInt ∧ u.toInt ≤ 999 ∧ 0 ≤ v.toInt ∧ v.toInt ≤ 20 ∧ 0 ≤ w.toInt ∧ w.toInt ≤ 20 ∧ 1 ≤ z.toInt ∧ z.toInt ≤ 9999))))) := by
  unfold m_Ci
  refine m_of (by decide) (Nat.le_of_ble_eq_true rfl) ?_
  intro p e s m below meth c hx hb hr hml hown hts hlocks _ hW ls hl
  have hown : s.vm.findClass RX12 = some m.cls := hown
  have hl : lv_has ls 6 [(0, .ref (b + 81)), (1, .int k), (2, .int u), (3, .int v), (4, .int w), (5, .int z)] := hl
  refine lv_aload_n hx hb dX12_stuff_0 rfl (lv_at hl 0 rfl) ?_
  refine lv_iconst (v := 0) hx hb dX12_stuff_1 (by decide) ?_
  refine m_puti hx hb hts hown hW (81) 0 rfl rfl cw_12 tyX12_ok nmX12 rfl (by decide) k_X12_167 rfl rfl rfl dX12_stuff_2 (fun H locs hW _ => ?_)
  generalize hμ1 : m_si μ (81) 0 0 = μ1 at hW
  have hI := hI.si0 hμ1 rfl hS20
  refine lv_aload_n hx hb dX12_stuff_5 rfl (lv_at hl 0 rfl) ?_
  refine lv_iload_n hx hb dX12_stuff_6 rfl (lv_at hl 1 rfl) ?_
  refine lv_iconst (v := 0) hx hb dX12_stuff_7 (by decide) ?_
  refine lv_iconst (v := 3) hx hb dX12_stuff_8 (by decide) ?_
  have l_0 : (0 : Int32).toInt = 0 := by decide
  have l_3 : (3 : Int32).toInt = 3 := by decide
  refine m_aI hW (m_runV (As := [.int k, .int 0, .int 3]) (rest := []) hx hb hml hown hts hW (81) (g_X12_isIn l D cy b k 0 3 μ1 hI.1) mi_X12_isIn k_X12_170 rfl rfl rfl hl.1 rfl (Nat.le_of_ble_eq_true rfl) dX12_stuff_9 ⟨Nat.le_of_ble_eq_true rfl, Nat.le_of_ble_eq_true rfl⟩ ⟨Nat.le_of_ble_eq_true rfl, Nat.le_of_ble_eq_true rfl⟩) (fun x2 μ2 H locs q2 hW => ?_)
  obtain ⟨q2_m, q2⟩ := q2
  subst q2_m
  rcases q2 with ⟨rfl, q2⟩ | ⟨rfl, q2⟩
  · refine lv_if_eq (tgt := 63) hx hb dX12_stuff_12 (by decide) (fun c => False.elim (by revert c; decide)) (fun _ => ?_)
    refine lv_aload_n hx hb dX12_stuff_15 rfl (lv_at hl 0 rfl) ?_
    refine lv_iload_n hx hb dX12_stuff_16 rfl (lv_at hl 2 rfl) ?_
    refine lv_iconst (v := 1) hx hb dX12_stuff_17 (by decide) ?_
    refine lv_sipush (v := 999) hx hb dX12_stuff_18 (by decide) ?_
    have l_1 : (1 : Int32).toInt = 1 := by decide
    have l_999 : (999 : Int32).toInt = 999 := by decide
    refine m_aI hW (m_runV (As := [.int u, .int 1, .int 999]) (rest := []) hx hb hml hown hts hW (81) (g_X12_isIn l D cy b u 1 999 μ1 hI.1) mi_X12_isIn k_X12_170 rfl rfl rfl hl.1 rfl (Nat.le_of_ble_eq_true rfl) dX12_stuff_21 ⟨Nat.le_of_ble_eq_true rfl, Nat.le_of_ble_eq_true rfl⟩ ⟨Nat.le_of_ble_eq_true rfl, Nat.le_of_ble_eq_true rfl⟩) (fun x3 μ3 H locs q3 hW => ?_)
    obtain ⟨q3_m, q3⟩ := q3
    subst q3_m
    rcases q3 with ⟨rfl, q3⟩ | ⟨rfl, q3⟩
    · refine lv_if_eq (tgt := 63) hx hb dX12_stuff_24 (by decide) (fun c => False.elim (by revert c; decide)) (fun _ => ?_)
      refine lv_aload_n hx hb dX12_stuff_27 rfl (lv_at hl 0 rfl) ?_
      refine lv_iload_n hx hb dX12_stuff_28 rfl (lv_at hl 3 rfl) ?_
      refine lv_iconst (v := 0) hx hb dX12_stuff_29 (by decide) ?_
      refine lv_bipush (v := 20) hx hb dX12_stuff_30 (by decide) ?_
      have l_20 : (20 : Int32).toInt = 20 := by decide
      refine m_aI hW (m_runV (As := [.int v, .int 0, .int 20]) (rest := []) hx hb hml hown hts hW (81) (g_X12_isIn l D cy b v 0 20 μ1 hI.1) mi_X12_isIn k_X12_170 rfl rfl rfl hl.1 rfl (Nat.le_of_ble_eq_true rfl) dX12_stuff_32 ⟨Nat.le_of_ble_eq_true rfl, Nat.le_of_ble_eq_true rfl⟩ ⟨Nat.le_of_ble_eq_true rfl, Nat.le_of_ble_eq_true rfl⟩) (fun x4 μ4 H locs q4 hW => ?_)
      obtain ⟨q4_m, q4⟩ := q4
      subst q4_m
      rcases q4 with ⟨rfl, q4⟩ | ⟨rfl, q4⟩
      · refine lv_if_eq (tgt := 63) hx hb dX12_stuff_35 (by decide) (fun c => False.elim (by revert c; decide)) (fun _ => ?_)
        refine lv_aload_n hx hb dX12_stuff_38 rfl (lv_at hl 0 rfl) ?_
        refine lv_iload hx hb dX12_stuff_39 (lv_at hl 4 rfl) ?_
        refine lv_iconst (v := 0) hx hb dX12_stuff_41 (by decide) ?_
        refine lv_bipush (v := 20) hx hb dX12_stuff_42 (by decide) ?_
        refine m_aI hW (m_runV (As := [.int w, .int 0, .int 20]) (rest := []) hx hb hml hown hts hW (81) (g_X12_isIn l D cy b w 0 20 μ1 hI.1) mi_X12_isIn k_X12_170 rfl rfl rfl hl.1 rfl (Nat.le_of_ble_eq_true rfl) dX12_stuff_44 ⟨Nat.le_of_ble_eq_true rfl, Nat.le_of_ble_eq_true rfl⟩ ⟨Nat.le_of_ble_eq_true rfl, Nat.le_of_ble_eq_true rfl⟩) (fun x5 μ5 H locs q5 hW => ?_)
        obtain ⟨q5_m, q5⟩ := q5
        subst q5_m
        rcases q5 with ⟨rfl, q5⟩ | ⟨rfl, q5⟩
        · refine lv_if_eq (tgt := 63) hx hb dX12_stuff_47 (by decide) (fun c => False.elim (by revert c; decide)) (fun _ => ?_)
          refine lv_aload_n hx hb dX12_stuff_50 rfl (lv_at hl 0 rfl) ?_
          refine lv_iload hx hb dX12_stuff_51 (lv_at hl 5 rfl) ?_
          refine lv_iconst (v := 1) hx hb dX12_stuff_53 (by decide) ?_
          refine lv_sipush (v := 9999) hx hb dX12_stuff_54 (by decide) ?_
          have l_9999 : (9999 : Int32).toInt = 9999 := by decide
          refine m_aI hW (m_runV (As := [.int z, .int 1, .int 9999]) (rest := []) hx hb hml hown hts hW (81) (g_X12_isIn l D cy b z 1 9999 μ1 hI.1) mi_X12_isIn k_X12_170 rfl rfl rfl hl.1 rfl (Nat.le_of_ble_eq_true rfl) dX12_stuff_57 ⟨Nat.le_of_ble_eq_true rfl, Nat.le_of_ble_eq_true rfl⟩ ⟨Nat.le_of_ble_eq_true rfl, Nat.le_of_ble_eq_true rfl⟩) (fun x6 μ6 H locs q6 hW => ?_)
          obtain ⟨q6_m, q6⟩ := q6
          subst q6_m
          rcases q6 with ⟨rfl, q6⟩ | ⟨rfl, q6⟩
          · refine lv_if_ne (tgt := 65) hx hb dX12_stuff_60 (by decide) (fun _ => ?_) (fun c => False.elim (by revert c; decide))
            refine lv_aload_n hx hb dX12_stuff_65 rfl (lv_at hl 0 rfl) ?_
            refine m_getr hx hb hts hown hW (81) 1 (82) rfl rfl cw_12 rfl (by decide) k_X12_7 dX12_stuff_66 ?_
            refine lv_iload_n hx hb dX12_stuff_69 rfl (lv_at hl 1 rfl) ?_
            refine lv_iload_n hx hb dX12_stuff_70 rfl (lv_at hl 2 rfl) ?_
            refine m_iast hx hb hW (82) rfl (m_ixI (rfl : k.toInt = _) (by omega) (by omega)) dX12_stuff_71 (fun H locs hW _ => ?_)
            generalize hμ7 : m_si μ1 (82) (k : Int32).toNatClampNeg u = μ7 at hW
            have hI := hI.si0 hμ7 rfl hS21
            refine lv_aload_n hx hb dX12_stuff_72 rfl (lv_at hl 0 rfl) ?_
            refine m_getr hx hb hts hown hW (81) 2 (83) rfl rfl cw_12 rfl (by decide) k_X12_13 dX12_stuff_73 ?_
            refine lv_iload_n hx hb dX12_stuff_76 rfl (lv_at hl 1 rfl) ?_
            refine lv_iload_n hx hb dX12_stuff_77 rfl (lv_at hl 3 rfl) ?_
            refine m_iast hx hb hW (83) rfl (m_ixI (rfl : k.toInt = _) (by omega) (by omega)) dX12_stuff_78 (fun H locs hW _ => ?_)
            generalize hμ8 : m_si μ7 (83) (k : Int32).toNatClampNeg v = μ8 at hW
            have hI := hI.si0 hμ8 rfl hS21
            refine lv_aload_n hx hb dX12_stuff_79 rfl (lv_at hl 0 rfl) ?_
            refine m_getr hx hb hts hown hW (81) 3 (84) rfl rfl cw_12 rfl (by decide) k_X12_16 dX12_stuff_80 ?_
            refine lv_iload_n hx hb dX12_stuff_83 rfl (lv_at hl 1 rfl) ?_
            refine lv_iload hx hb dX12_stuff_84 (lv_at hl 4 rfl) ?_
            refine m_iast hx hb hW (84) rfl (m_ixI (rfl : k.toInt = _) (by omega) (by omega)) dX12_stuff_86 (fun H locs hW _ => ?_)
            generalize hμ9 : m_si μ8 (84) (k : Int32).toNatClampNeg w = μ9 at hW
            have hI := hI.si0 hμ9 rfl hS21
            refine lv_aload_n hx hb dX12_stuff_87 rfl (lv_at hl 0 rfl) ?_
            refine m_getr hx hb hts hown hW (81) 4 (85) rfl rfl cw_12 rfl (by decide) k_X12_19 dX12_stuff_88 ?_
            refine lv_iload_n hx hb dX12_stuff_91 rfl (lv_at hl 1 rfl) ?_
            refine lv_iload hx hb dX12_stuff_92 (lv_at hl 5 rfl) ?_
            refine m_iast hx hb hW (85) rfl (m_ixI (rfl : k.toInt = _) (by omega) (by omega)) dX12_stuff_94 (fun H locs hW _ => ?_)
            generalize hμ10 : m_si μ9 (85) (k : Int32).toNatClampNeg z = μ10 at hW
            have hI := hI.si0 hμ10 rfl hS21
            refine lv_iconst (v := 1) hx hb dX12_stuff_95 (by decide) ?_
            exact m_iret hx hb hr hlocks hW (by decide) (⟨hI, Or.inl ⟨rfl, by omega⟩⟩) dX12_stuff_96
          · refine lv_if_ne (tgt := 65) hx hb dX12_stuff_60 (by decide) (fun c => False.elim (by revert c; decide)) (fun _ => ?_)
            refine lv_iconst (v := 0) hx hb dX12_stuff_63 (by decide) ?_
            exact m_iret hx hb hr hlocks hW (by decide) (⟨hI, Or.inr ⟨rfl, by omega⟩⟩) dX12_stuff_64
        · refine lv_if_eq (tgt := 63) hx hb dX12_stuff_47 (by decide) (fun _ => ?_) (fun c => False.elim (by revert c; decide))
          refine lv_iconst (v := 0) hx hb dX12_stuff_63 (by decide) ?_
          exact m_iret hx hb hr hlocks hW (by decide) (⟨hI, Or.inr ⟨rfl, by omega⟩⟩) dX12_stuff_64
      · refine lv_if_eq (tgt := 63) hx hb dX12_stuff_35 (by decide) (fun _ => ?_) (fun c => False.elim (by revert c; decide))
        refine lv_iconst (v := 0) hx hb dX12_stuff_63 (by decide) ?_
        exact m_iret hx hb hr hlocks hW (by decide) (⟨hI, Or.inr ⟨rfl, by omega⟩⟩) dX12_stuff_64
    · refine lv_if_eq (tgt := 63) hx hb dX12_stuff_24 (by decide) (fun _ => ?_) (fun c => False.elim (by revert c; decide))
      refine lv_iconst (v := 0) hx hb dX12_stuff_63 (by decide) ?_
      exact m_iret hx hb hr hlocks hW (by decide) (⟨hI, Or.inr ⟨rfl, by omega⟩⟩) dX12_stuff_64
  · refine lv_if_eq (tgt := 63) hx hb dX12_stuff_12 (by decide) (fun _ => ?_) (fun c => False.elim (by revert c; decide))
    refine lv_iconst (v := 0) hx hb dX12_stuff_63 (by decide) ?_
    exact m_iret hx hb hr hlocks hW (by decide) (⟨hI, Or.inr ⟨rfl, by omega⟩⟩) dX12_stuff_64
set_option maxHeartbeats 4000000 in
set_option maxRecDepth 100000 in
theorem L_X12_plate_80 {p : Program} {l : Launch} {e : Env} {s : State} {m : MethodId} {args : Array Value} {below : List Frame} {meth : Method} {c : Code} {D : va_G} {cy : Nat → ClassId} {b : Nat} (hx : p.tables.exec = Jvm.exec) (hb : c.code = cX12_plate) (hr : meth.sig.returnType = ((some .boolean))) (hml : c.maxLocals = 6) (hown : s.vm.findClass RX12 = some m.cls) (hts : ∀ w ∈ TB, w.before args s = true) (hlocks : meth.locks = false) (S : Nat → Bool) (μ0 : mM) (hS20 : S 20 = true) (hS22 : S 22 = true) (k u v w : Int32) : ∀ (f : Nat), ∀ (y5 : Int32) (hy : 0 ≤ y5.toInt ∧ y5.toInt ≤ 192 ∧ 1 ≤ k.toInt ∧ k.toInt ≤ 16 ∧ 1 ≤ u.toInt ∧ u.toInt ≤ 12 ∧ 0 ≤ v.toInt ∧ v.toInt ≤ 3 ∧ 1 ≤ w.toInt ∧ w.toInt ≤ 9) (hf : 192 - y5.toInt < (f : Int)) (μ : mM) (hI : IY S μ0 μ) (H : Heap) (locs : List Loc), m_WA (m_A b LAY) D cy s b LAY μ H locs → ∀ ls : Array Slot, lv_has ls 6 [(0, .ref (b + 81)), (1, .int k), (2, .int u), (3, .int v), (4, .int w), (5, .int y5)] → W p l e (m_R 1 0 0) s m args below meth c H locs 0 0 (MQ below (m_Qi D cy b LAY (fun r ν => IY S μ0 ν ∧ ((r = 1 ∧ (1 ≤ k.toInt ∧ k.toInt ≤ 16 ∧ 1 ≤ u.toInt ∧ u.toInt ≤ 12 ∧ 0 ≤ v.toInt ∧ v.toInt ≤ 3 ∧ 1 ≤ w.toInt ∧ w.toInt ≤ 9)) ∨ (r = 0 ∧ (¬ (1 ≤ k.toInt ∧ k.toInt ≤ 16 ∧ 1 ≤ u.toInt ∧ u.toInt ≤ 12 ∧ 0 ≤ v.toInt ∧ v.toInt ≤ 3 ∧ 1 ≤ w.toInt ∧ w.toInt ≤ 9)))))) args s 0 0 (m_A b LAY)) (F0 m 80 ls []) := by
  intro f
  induction f with
  | zero => intro y5 hy hf; exfalso; omega
  | succ f ih =>
    intro y5 hy hf μ hI H locs hW ls hl
    refine lv_iload hx hb dX12_plate_80 (lv_at hl 5 rfl) ?_
    refine lv_sipush (v := 192) hx hb dX12_plate_82 (by decide) ?_
    refine lv_icmp_ge (tgt := 126) hx hb dX12_plate_85 (by decide) (fun c1 => ?_) (fun c1 => ?_)
    · have i1 := m_c3 (by decide : (192 : Int32).toInt = 192) (rfl : y5.toInt = _) c1
      refine lv_aload_n hx hb dX12_plate_126 rfl (lv_at hl 0 rfl) ?_
      refine m_getr hx hb hts hown hW (81) 18 (91) rfl rfl cw_12 rfl (by decide) k_X12_49 dX12_plate_127 ?_
      refine lv_iconst (v := 0) hx hb dX12_plate_130 (by decide) ?_
      refine lv_iconst (v := 0) hx hb dX12_plate_131 (by decide) ?_
      refine m_iast hx hb hW (91) rfl (vp_in_iff.mpr ⟨by decide, by decide⟩) dX12_plate_132 (fun H locs hW _ => ?_)
      generalize hμ2 : m_si μ (91) (0 : Int32).toNatClampNeg 0 = μ2 at hW
      have hI := hI.si0 hμ2 rfl hS22
      refine lv_aload_n hx hb dX12_plate_133 rfl (lv_at hl 0 rfl) ?_
      refine m_getr hx hb hts hown hW (81) 19 (92) rfl rfl cw_12 rfl (by decide) k_X12_52 dX12_plate_134 ?_
      refine lv_iconst (v := 0) hx hb dX12_plate_137 (by decide) ?_
      refine lv_iconst (v := 0) hx hb dX12_plate_138 (by decide) ?_
      refine m_iast hx hb hW (92) rfl (vp_in_iff.mpr ⟨by decide, by decide⟩) dX12_plate_139 (fun H locs hW _ => ?_)
      generalize hμ3 : m_si μ2 (92) (0 : Int32).toNatClampNeg 0 = μ3 at hW
      have hI := hI.si0 hμ3 rfl hS22
      refine lv_aload_n hx hb dX12_plate_140 rfl (lv_at hl 0 rfl) ?_
      refine m_getr hx hb hts hown hW (81) 20 (93) rfl rfl cw_12 rfl (by decide) k_X12_55 dX12_plate_141 ?_
      refine lv_iconst (v := 0) hx hb dX12_plate_144 (by decide) ?_
      refine lv_iconst (v := 0) hx hb dX12_plate_145 (by decide) ?_
      refine m_zast hx hb hW (93) rfl (vp_in_iff.mpr ⟨by decide, by decide⟩) (by decide) dX12_plate_146 (fun H locs hW _ => ?_)
      generalize hμ4 : m_si μ3 (93) (0 : Int32).toNatClampNeg 0 = μ4 at hW
      have hI := hI.si1 hμ4 rfl (by decide) hS22
      refine lv_aload_n hx hb dX12_plate_147 rfl (lv_at hl 0 rfl) ?_
      refine m_getr hx hb hts hown hW (81) 21 (94) rfl rfl cw_12 rfl (by decide) k_X12_58 dX12_plate_148 ?_
      refine lv_iconst (v := 0) hx hb dX12_plate_151 (by decide) ?_
      refine lv_iconst (v := 5) hx hb dX12_plate_152 (by decide) ?_
      refine m_iast hx hb hW (94) rfl (vp_in_iff.mpr ⟨by decide, by decide⟩) dX12_plate_153 (fun H locs hW _ => ?_)
      generalize hμ5 : m_si μ4 (94) (0 : Int32).toNatClampNeg 5 = μ5 at hW
      have hI := hI.si0 hμ5 rfl hS22
      refine lv_aload_n hx hb dX12_plate_154 rfl (lv_at hl 0 rfl) ?_
      refine m_getr hx hb hts hown hW (81) 22 (95) rfl rfl cw_12 rfl (by decide) k_X12_61 dX12_plate_155 ?_
      refine lv_iconst (v := 0) hx hb dX12_plate_158 (by decide) ?_
      refine lv_iconst (v := 0) hx hb dX12_plate_159 (by decide) ?_
      refine m_iast hx hb hW (95) rfl (vp_in_iff.mpr ⟨by decide, by decide⟩) dX12_plate_160 (fun H locs hW _ => ?_)
      generalize hμ6 : m_si μ5 (95) (0 : Int32).toNatClampNeg 0 = μ6 at hW
      have hI := hI.si0 hμ6 rfl hS22
      refine lv_aload_n hx hb dX12_plate_161 rfl (lv_at hl 0 rfl) ?_
      refine m_getr hx hb hts hown hW (81) 23 (96) rfl rfl cw_12 rfl (by decide) k_X12_64 dX12_plate_162 ?_
      refine lv_iconst (v := 0) hx hb dX12_plate_165 (by decide) ?_
      refine lv_iconst (v := 0) hx hb dX12_plate_166 (by decide) ?_
      refine m_iast hx hb hW (96) rfl (vp_in_iff.mpr ⟨by decide, by decide⟩) dX12_plate_167 (fun H locs hW _ => ?_)
      generalize hμ7 : m_si μ6 (96) (0 : Int32).toNatClampNeg 0 = μ7 at hW
      have hI := hI.si0 hμ7 rfl hS22
      refine lv_aload_n hx hb dX12_plate_168 rfl (lv_at hl 0 rfl) ?_
      refine m_getr hx hb hts hown hW (81) 24 (97) rfl rfl cw_12 rfl (by decide) k_X12_67 dX12_plate_169 ?_
      refine lv_iconst (v := 0) hx hb dX12_plate_172 (by decide) ?_
      refine lv_iconst (v := 0) hx hb dX12_plate_173 (by decide) ?_
      refine m_iast hx hb hW (97) rfl (vp_in_iff.mpr ⟨by decide, by decide⟩) dX12_plate_174 (fun H locs hW _ => ?_)
      generalize hμ8 : m_si μ7 (97) (0 : Int32).toNatClampNeg 0 = μ8 at hW
      have hI := hI.si0 hμ8 rfl hS22
      refine lv_aload_n hx hb dX12_plate_175 rfl (lv_at hl 0 rfl) ?_
      refine m_getr hx hb hts hown hW (81) 25 (98) rfl rfl cw_12 rfl (by decide) k_X12_70 dX12_plate_176 ?_
      refine lv_iconst (v := 0) hx hb dX12_plate_179 (by decide) ?_
      refine lv_lconst (v := 0) hx hb dX12_plate_180 (by decide) ?_
      refine m_last hx hb hW (98) rfl (vp_in_iff.mpr ⟨by decide, by decide⟩) dX12_plate_181 (fun H locs hW _ => ?_)
      generalize hμ9 : m_sl μ8 (98) (0 : Int32).toNatClampNeg 0 = μ9 at hW
      have hI := hI.sl hμ9 hS22
      refine lv_aload_n hx hb dX12_plate_182 rfl (lv_at hl 0 rfl) ?_
      refine m_getr hx hb hts hown hW (81) 26 (99) rfl rfl cw_12 rfl (by decide) k_X12_74 dX12_plate_183 ?_
      refine lv_iconst (v := 0) hx hb dX12_plate_186 (by decide) ?_
      refine lv_lconst (v := 0) hx hb dX12_plate_187 (by decide) ?_
      refine m_last hx hb hW (99) rfl (vp_in_iff.mpr ⟨by decide, by decide⟩) dX12_plate_188 (fun H locs hW _ => ?_)
      generalize hμ10 : m_sl μ9 (99) (0 : Int32).toNatClampNeg 0 = μ10 at hW
      have hI := hI.sl hμ10 hS22
      refine lv_aload_n hx hb dX12_plate_189 rfl (lv_at hl 0 rfl) ?_
      refine m_getr hx hb hts hown hW (81) 27 (100) rfl rfl cw_12 rfl (by decide) k_X12_77 dX12_plate_190 ?_
      refine lv_iconst (v := 0) hx hb dX12_plate_193 (by decide) ?_
      refine lv_lconst (v := 0) hx hb dX12_plate_194 (by decide) ?_
      refine m_last hx hb hW (100) rfl (vp_in_iff.mpr ⟨by decide, by decide⟩) dX12_plate_195 (fun H locs hW _ => ?_)
      generalize hμ11 : m_sl μ10 (100) (0 : Int32).toNatClampNeg 0 = μ11 at hW
      have hI := hI.sl hμ11 hS22
      refine lv_iconst (v := 1) hx hb dX12_plate_196 (by decide) ?_
      exact m_iret hx hb hr hlocks hW (by decide) (⟨hI, Or.inl ⟨rfl, by omega⟩⟩) dX12_plate_197
    · have i1 := m_c4 (by decide : (192 : Int32).toInt = 192) (rfl : y5.toInt = _) c1
      refine lv_aload_n hx hb dX12_plate_88 rfl (lv_at hl 0 rfl) ?_
      refine m_getr hx hb hts hown hW (81) 13 (86) rfl rfl cw_12 rfl (by decide) k_X12_33 dX12_plate_89 ?_
      refine lv_iload hx hb dX12_plate_92 (lv_at hl 5 rfl) ?_
      refine lv_iconst (v := 0) hx hb dX12_plate_94 (by decide) ?_
      refine m_iast hx hb hW (86) rfl (m_ixI (rfl : y5.toInt = _) (by omega) (by omega)) dX12_plate_95 (fun H locs hW _ => ?_)
      generalize hμ12 : m_si μ (86) (y5 : Int32).toNatClampNeg 0 = μ12 at hW
      have hI := hI.si0 hμ12 rfl hS22
      refine lv_aload_n hx hb dX12_plate_96 rfl (lv_at hl 0 rfl) ?_
      refine m_getr hx hb hts hown hW (81) 15 (88) rfl rfl cw_12 rfl (by decide) k_X12_39 dX12_plate_97 ?_
      refine lv_iload hx hb dX12_plate_100 (lv_at hl 5 rfl) ?_
      refine lv_iconst (v := 0) hx hb dX12_plate_102 (by decide) ?_
      refine m_iast hx hb hW (88) rfl (m_ixI (rfl : y5.toInt = _) (by omega) (by omega)) dX12_plate_103 (fun H locs hW _ => ?_)
      generalize hμ13 : m_si μ12 (88) (y5 : Int32).toNatClampNeg 0 = μ13 at hW
      have hI := hI.si0 hμ13 rfl hS22
      refine lv_aload_n hx hb dX12_plate_104 rfl (lv_at hl 0 rfl) ?_
      refine m_getr hx hb hts hown hW (81) 16 (89) rfl rfl cw_12 rfl (by decide) k_X12_42 dX12_plate_105 ?_
      refine lv_iload hx hb dX12_plate_108 (lv_at hl 5 rfl) ?_
      refine lv_iconst (v := 0) hx hb dX12_plate_110 (by decide) ?_
      refine m_zast hx hb hW (89) rfl (m_ixI (rfl : y5.toInt = _) (by omega) (by omega)) (by decide) dX12_plate_111 (fun H locs hW _ => ?_)
      generalize hμ14 : m_si μ13 (89) (y5 : Int32).toNatClampNeg 0 = μ14 at hW
      have hI := hI.si1 hμ14 rfl (by decide) hS22
      refine lv_aload_n hx hb dX12_plate_112 rfl (lv_at hl 0 rfl) ?_
      refine m_getr hx hb hts hown hW (81) 17 (90) rfl rfl cw_12 rfl (by decide) k_X12_46 dX12_plate_113 ?_
      refine lv_iload hx hb dX12_plate_116 (lv_at hl 5 rfl) ?_
      refine lv_iconst (v := 0) hx hb dX12_plate_118 (by decide) ?_
      refine m_zast hx hb hW (90) rfl (m_ixI (rfl : y5.toInt = _) (by omega) (by omega)) (by decide) dX12_plate_119 (fun H locs hW _ => ?_)
      generalize hμ15 : m_si μ14 (90) (y5 : Int32).toNatClampNeg 0 = μ15 at hW
      have hI := hI.si1 hμ15 rfl (by decide) hS22
      obtain ⟨x16, ex16⟩ : ∃ z : Int32, z = y5 + 1 := ⟨_, rfl⟩
      refine lv_iinc (v := x16) (lv' := [(5, .int x16), (0, .ref (b + 81)), (1, .int k), (2, .int u), (3, .int v), (4, .int w)]) hx hb dX12_plate_120 hl (k := 5) rfl (by rw [ex16]; rfl) (by decide) rfl (fun ls hl => ?_)
      have tx16 : x16.toInt = y5.toInt + 1 := m_addI ex16 (rfl : y5.toInt = _) (by decide : (1 : Int32).toInt = 1) (by omega) (by omega)
      refine lv_goto (tgt := 80) hx hb dX12_plate_123 (by decide) ?_
      exact ih x16 (by omega) (by omega) μ15 hI _ _ hW ls (lv_sub hl [1, 2, 3, 4, 5, 0] rfl)
set_option maxHeartbeats 4000000 in
set_option maxRecDepth 100000 in
theorem g_X12_plate (l : Launch) (D : va_G) (cy : Nat → ClassId) (b : Nat) (S : Nat → Bool) (μ0 : mM) (hS20 : S 20 = true) (hS22 : S 22 = true) (k u v w : Int32) (μ : mM) (hI : IY S μ0 μ) : m_Ci l yX12_plate cX12_plate 6 ((some .boolean)) 1 D cy b LAY μ [.ref (b + 81), .int k, .int u, .int v, .int w] (fun r ν => IY S μ0 ν ∧ ((r = 1 ∧ (1 ≤ k.toInt ∧ k.toInt ≤ 16 ∧ 1 ≤ u.toInt ∧ u.toInt ≤ 12 ∧ 0 ≤ v.toInt ∧ v.toInt ≤ 3 ∧ 1 ≤ w.toInt ∧ w.toInt ≤ 9)) ∨ (r = 0 ∧ (¬ (1 ≤ k.toInt ∧ k.toInt ≤ 16 ∧ 1 ≤ u.toInt ∧ u.toInt ≤ 12 ∧ 0 ≤ v.toInt ∧ v.toInt ≤ 3 ∧ 1 ≤ w.toInt ∧ w.toInt ≤ 9))))) := by
  unfold m_Ci
  refine m_of (by decide) (Nat.le_of_ble_eq_true rfl) ?_
  intro p e s m below meth c hx hb hr hml hown hts hlocks _ hW ls hl
  have hown : s.vm.findClass RX12 = some m.cls := hown
  have hl : lv_has ls 6 [(0, .ref (b + 81)), (1, .int k), (2, .int u), (3, .int v), (4, .int w)] := hl
  refine lv_aload_n hx hb dX12_plate_0 rfl (lv_at hl 0 rfl) ?_
  refine lv_iconst (v := 0) hx hb dX12_plate_1 (by decide) ?_
  refine m_puti hx hb hts hown hW (81) 0 rfl rfl cw_12 tyX12_ok nmX12 rfl (by decide) k_X12_167 rfl rfl rfl dX12_plate_2 (fun H locs hW _ => ?_)
  generalize hμ1 : m_si μ (81) 0 0 = μ1 at hW
  have hI := hI.si0 hμ1 rfl hS20
  refine lv_aload_n hx hb dX12_plate_5 rfl (lv_at hl 0 rfl) ?_
  refine lv_iload_n hx hb dX12_plate_6 rfl (lv_at hl 1 rfl) ?_
  refine lv_iconst (v := 1) hx hb dX12_plate_7 (by decide) ?_
  refine lv_bipush (v := 16) hx hb dX12_plate_8 (by decide) ?_
  have l_1 : (1 : Int32).toInt = 1 := by decide
  have l_16 : (16 : Int32).toInt = 16 := by decide
  refine m_aI hW (m_runV (As := [.int k, .int 1, .int 16]) (rest := []) hx hb hml hown hts hW (81) (g_X12_isIn l D cy b k 1 16 μ1 hI.1) mi_X12_isIn k_X12_170 rfl rfl rfl hl.1 rfl (Nat.le_of_ble_eq_true rfl) dX12_plate_10 ⟨Nat.le_of_ble_eq_true rfl, Nat.le_of_ble_eq_true rfl⟩ ⟨Nat.le_of_ble_eq_true rfl, Nat.le_of_ble_eq_true rfl⟩) (fun x2 μ2 H locs q2 hW => ?_)
  obtain ⟨q2_m, q2⟩ := q2
  subst q2_m
  rcases q2 with ⟨rfl, q2⟩ | ⟨rfl, q2⟩
  · refine lv_if_eq (tgt := 49) hx hb dX12_plate_13 (by decide) (fun c => False.elim (by revert c; decide)) (fun _ => ?_)
    refine lv_aload_n hx hb dX12_plate_16 rfl (lv_at hl 0 rfl) ?_
    refine lv_iload_n hx hb dX12_plate_17 rfl (lv_at hl 2 rfl) ?_
    refine lv_iconst (v := 1) hx hb dX12_plate_18 (by decide) ?_
    refine lv_bipush (v := 12) hx hb dX12_plate_19 (by decide) ?_
    have l_12 : (12 : Int32).toInt = 12 := by decide
    refine m_aI hW (m_runV (As := [.int u, .int 1, .int 12]) (rest := []) hx hb hml hown hts hW (81) (g_X12_isIn l D cy b u 1 12 μ1 hI.1) mi_X12_isIn k_X12_170 rfl rfl rfl hl.1 rfl (Nat.le_of_ble_eq_true rfl) dX12_plate_21 ⟨Nat.le_of_ble_eq_true rfl, Nat.le_of_ble_eq_true rfl⟩ ⟨Nat.le_of_ble_eq_true rfl, Nat.le_of_ble_eq_true rfl⟩) (fun x3 μ3 H locs q3 hW => ?_)
    obtain ⟨q3_m, q3⟩ := q3
    subst q3_m
    rcases q3 with ⟨rfl, q3⟩ | ⟨rfl, q3⟩
    · refine lv_if_eq (tgt := 49) hx hb dX12_plate_24 (by decide) (fun c => False.elim (by revert c; decide)) (fun _ => ?_)
      refine lv_aload_n hx hb dX12_plate_27 rfl (lv_at hl 0 rfl) ?_
      refine lv_iload_n hx hb dX12_plate_28 rfl (lv_at hl 3 rfl) ?_
      refine lv_iconst (v := 0) hx hb dX12_plate_29 (by decide) ?_
      refine lv_iconst (v := 3) hx hb dX12_plate_30 (by decide) ?_
      have l_0 : (0 : Int32).toInt = 0 := by decide
      have l_3 : (3 : Int32).toInt = 3 := by decide
      refine m_aI hW (m_runV (As := [.int v, .int 0, .int 3]) (rest := []) hx hb hml hown hts hW (81) (g_X12_isIn l D cy b v 0 3 μ1 hI.1) mi_X12_isIn k_X12_170 rfl rfl rfl hl.1 rfl (Nat.le_of_ble_eq_true rfl) dX12_plate_31 ⟨Nat.le_of_ble_eq_true rfl, Nat.le_of_ble_eq_true rfl⟩ ⟨Nat.le_of_ble_eq_true rfl, Nat.le_of_ble_eq_true rfl⟩) (fun x4 μ4 H locs q4 hW => ?_)
      obtain ⟨q4_m, q4⟩ := q4
      subst q4_m
      rcases q4 with ⟨rfl, q4⟩ | ⟨rfl, q4⟩
      · refine lv_if_eq (tgt := 49) hx hb dX12_plate_34 (by decide) (fun c => False.elim (by revert c; decide)) (fun _ => ?_)
        refine lv_aload_n hx hb dX12_plate_37 rfl (lv_at hl 0 rfl) ?_
        refine lv_iload hx hb dX12_plate_38 (lv_at hl 4 rfl) ?_
        refine lv_iconst (v := 1) hx hb dX12_plate_40 (by decide) ?_
        refine lv_bipush (v := 9) hx hb dX12_plate_41 (by decide) ?_
        have l_9 : (9 : Int32).toInt = 9 := by decide
        refine m_aI hW (m_runV (As := [.int w, .int 1, .int 9]) (rest := []) hx hb hml hown hts hW (81) (g_X12_isIn l D cy b w 1 9 μ1 hI.1) mi_X12_isIn k_X12_170 rfl rfl rfl hl.1 rfl (Nat.le_of_ble_eq_true rfl) dX12_plate_43 ⟨Nat.le_of_ble_eq_true rfl, Nat.le_of_ble_eq_true rfl⟩ ⟨Nat.le_of_ble_eq_true rfl, Nat.le_of_ble_eq_true rfl⟩) (fun x5 μ5 H locs q5 hW => ?_)
        obtain ⟨q5_m, q5⟩ := q5
        subst q5_m
        rcases q5 with ⟨rfl, q5⟩ | ⟨rfl, q5⟩
        · refine lv_if_ne (tgt := 51) hx hb dX12_plate_46 (by decide) (fun _ => ?_) (fun c => False.elim (by revert c; decide))
          refine lv_aload_n hx hb dX12_plate_51 rfl (lv_at hl 0 rfl) ?_
          refine lv_iconst (v := 1) hx hb dX12_plate_52 (by decide) ?_
          refine m_puti hx hb hts hown hW (81) 5 rfl rfl cw_12 tyX12_ok nmX12 rfl (by decide) k_X12_174 rfl (by decide) rfl dX12_plate_53 (fun H locs hW _ => ?_)
          generalize hμ6 : m_si μ1 (81) 5 1 = μ6 at hW
          have hI := hI.si1 hμ6 rfl (by decide) hS22
          refine lv_aload_n hx hb dX12_plate_56 rfl (lv_at hl 0 rfl) ?_
          refine lv_iload_n hx hb dX12_plate_57 rfl (lv_at hl 1 rfl) ?_
          refine m_puti hx hb hts hown hW (81) 6 rfl rfl cw_12 tyX12_ok nmX12 rfl (by decide) k_X12_177 rfl rfl rfl dX12_plate_58 (fun H locs hW _ => ?_)
          generalize hμ7 : m_si μ6 (81) 6 k = μ7 at hW
          have hI := hI.si1 hμ7 rfl (by omega) hS22
          refine lv_aload_n hx hb dX12_plate_61 rfl (lv_at hl 0 rfl) ?_
          refine lv_iload_n hx hb dX12_plate_62 rfl (lv_at hl 2 rfl) ?_
          refine m_puti hx hb hts hown hW (81) 7 rfl rfl cw_12 tyX12_ok nmX12 rfl (by decide) k_X12_180 rfl rfl rfl dX12_plate_63 (fun H locs hW _ => ?_)
          generalize hμ8 : m_si μ7 (81) 7 u = μ8 at hW
          have hI := hI.si1 hμ8 rfl (by omega) hS22
          refine lv_aload_n hx hb dX12_plate_66 rfl (lv_at hl 0 rfl) ?_
          refine lv_iload_n hx hb dX12_plate_67 rfl (lv_at hl 3 rfl) ?_
          refine m_puti hx hb hts hown hW (81) 8 rfl rfl cw_12 tyX12_ok nmX12 rfl (by decide) k_X12_183 rfl rfl rfl dX12_plate_68 (fun H locs hW _ => ?_)
          generalize hμ9 : m_si μ8 (81) 8 v = μ9 at hW
          have hI := hI.si1 hμ9 rfl (by omega) hS22
          refine lv_aload_n hx hb dX12_plate_71 rfl (lv_at hl 0 rfl) ?_
          refine lv_iload hx hb dX12_plate_72 (lv_at hl 4 rfl) ?_
          refine m_puti hx hb hts hown hW (81) 9 rfl rfl cw_12 tyX12_ok nmX12 rfl (by decide) k_X12_186 rfl rfl rfl dX12_plate_74 (fun H locs hW _ => ?_)
          generalize hμ10 : m_si μ9 (81) 9 w = μ10 at hW
          have hI := hI.si0 hμ10 rfl hS22
          refine lv_iconst (v := 0) hx hb dX12_plate_77 (by decide) ?_
          refine lv_istore (lv' := [(5, .int 0), (0, .ref (b + 81)), (1, .int k), (2, .int u), (3, .int v), (4, .int w)]) hx hb dX12_plate_78 hl (by decide) rfl (fun ls hl => ?_)
          exact L_X12_plate_80 hx hb hr hml hown hts hlocks S μ0 hS20 hS22 k u v w  193 0 (by omega) (by omega) μ10 hI _ _ hW ls (lv_sub hl [1, 2, 3, 4, 5, 0] rfl)
        · refine lv_if_ne (tgt := 51) hx hb dX12_plate_46 (by decide) (fun c => False.elim (by revert c; decide)) (fun _ => ?_)
          refine lv_iconst (v := 0) hx hb dX12_plate_49 (by decide) ?_
          exact m_iret hx hb hr hlocks hW (by decide) (⟨hI, Or.inr ⟨rfl, by omega⟩⟩) dX12_plate_50
      · refine lv_if_eq (tgt := 49) hx hb dX12_plate_34 (by decide) (fun _ => ?_) (fun c => False.elim (by revert c; decide))
        refine lv_iconst (v := 0) hx hb dX12_plate_49 (by decide) ?_
        exact m_iret hx hb hr hlocks hW (by decide) (⟨hI, Or.inr ⟨rfl, by omega⟩⟩) dX12_plate_50
    · refine lv_if_eq (tgt := 49) hx hb dX12_plate_24 (by decide) (fun _ => ?_) (fun c => False.elim (by revert c; decide))
      refine lv_iconst (v := 0) hx hb dX12_plate_49 (by decide) ?_
      exact m_iret hx hb hr hlocks hW (by decide) (⟨hI, Or.inr ⟨rfl, by omega⟩⟩) dX12_plate_50
  · refine lv_if_eq (tgt := 49) hx hb dX12_plate_13 (by decide) (fun _ => ?_) (fun c => False.elim (by revert c; decide))
    refine lv_iconst (v := 0) hx hb dX12_plate_49 (by decide) ?_
    exact m_iret hx hb hr hlocks hW (by decide) (⟨hI, Or.inr ⟨rfl, by omega⟩⟩) dX12_plate_50
set_option maxHeartbeats 4000000 in
set_option maxRecDepth 100000 in
theorem g_X12_beam (l : Launch) (D : va_G) (cy : Nat → ClassId) (b : Nat) (S : Nat → Bool) (μ0 : mM) (hS20 : S 20 = true) (hS21 : S 21 = true) (k u : Int32) (h_u : 0 ≤ u.toInt ∧ u.toInt ≤ 1) (μ : mM) (hI : IY S μ0 μ) : m_Ci l yX12_beam cX12_beam 3 ((some .boolean)) 1 D cy b LAY μ [.ref (b + 81), .int k, .int u] (fun r ν => IY S μ0 ν ∧ ((r = 1 ∧ (0 ≤ k.toInt ∧ k.toInt ≤ 9999)) ∨ (r = 0 ∧ (¬ (0 ≤ k.toInt ∧ k.toInt ≤ 9999))))) := by
  unfold m_Ci
  refine m_of (by decide) (Nat.le_of_ble_eq_true rfl) ?_
  intro p e s m below meth c hx hb hr hml hown hts hlocks _ hW ls hl
  have hown : s.vm.findClass RX12 = some m.cls := hown
  have hl : lv_has ls 3 [(0, .ref (b + 81)), (1, .int k), (2, .int u)] := hl
  refine lv_aload_n hx hb dX12_beam_0 rfl (lv_at hl 0 rfl) ?_
  refine lv_iconst (v := 0) hx hb dX12_beam_1 (by decide) ?_
  refine m_puti hx hb hts hown hW (81) 0 rfl rfl cw_12 tyX12_ok nmX12 rfl (by decide) k_X12_167 rfl rfl rfl dX12_beam_2 (fun H locs hW _ => ?_)
  generalize hμ1 : m_si μ (81) 0 0 = μ1 at hW
  have hI := hI.si0 hμ1 rfl hS20
  refine lv_aload_n hx hb dX12_beam_5 rfl (lv_at hl 0 rfl) ?_
  refine lv_iload_n hx hb dX12_beam_6 rfl (lv_at hl 1 rfl) ?_
  refine lv_iconst (v := 0) hx hb dX12_beam_7 (by decide) ?_
  refine lv_sipush (v := 9999) hx hb dX12_beam_8 (by decide) ?_
  have l_0 : (0 : Int32).toInt = 0 := by decide
  have l_9999 : (9999 : Int32).toInt = 9999 := by decide
  refine m_aI hW (m_runV (As := [.int k, .int 0, .int 9999]) (rest := []) hx hb hml hown hts hW (81) (g_X12_isIn l D cy b k 0 9999 μ1 hI.1) mi_X12_isIn k_X12_170 rfl rfl rfl hl.1 rfl (Nat.le_of_ble_eq_true rfl) dX12_beam_11 ⟨Nat.le_of_ble_eq_true rfl, Nat.le_of_ble_eq_true rfl⟩ ⟨Nat.le_of_ble_eq_true rfl, Nat.le_of_ble_eq_true rfl⟩) (fun x2 μ2 H locs q2 hW => ?_)
  obtain ⟨q2_m, q2⟩ := q2
  subst q2_m
  rcases q2 with ⟨rfl, q2⟩ | ⟨rfl, q2⟩
  · refine lv_if_ne (tgt := 19) hx hb dX12_beam_14 (by decide) (fun _ => ?_) (fun c => False.elim (by revert c; decide))
    refine lv_aload_n hx hb dX12_beam_19 rfl (lv_at hl 0 rfl) ?_
    refine lv_iload_n hx hb dX12_beam_20 rfl (lv_at hl 1 rfl) ?_
    refine m_puti hx hb hts hown hW (81) 10 rfl rfl cw_12 tyX12_ok nmX12 rfl (by decide) k_X12_22 rfl rfl rfl dX12_beam_21 (fun H locs hW _ => ?_)
    generalize hμ3 : m_si μ1 (81) 10 k = μ3 at hW
    have hI := hI.si0 hμ3 rfl hS21
    refine lv_aload_n hx hb dX12_beam_24 rfl (lv_at hl 0 rfl) ?_
    refine lv_iload_n hx hb dX12_beam_25 rfl (lv_at hl 2 rfl) ?_
    refine m_puti hx hb hts hown hW (81) 11 rfl rfl cw_12 tyX12_ok nmX12 rfl (by decide) k_X12_26 rfl (m_nb (m_b01 (by omega))) (m_nbf (m_b01 (by omega))) dX12_beam_26 (fun H locs hW _ => ?_)
    generalize hμ4 : m_si μ3 (81) 11 u = μ4 at hW
    have hI := hI.si1 hμ4 rfl (by omega) hS21
    refine lv_iconst (v := 1) hx hb dX12_beam_29 (by decide) ?_
    exact m_iret hx hb hr hlocks hW (by decide) (⟨hI, Or.inl ⟨rfl, by omega⟩⟩) dX12_beam_30
  · refine lv_if_ne (tgt := 19) hx hb dX12_beam_14 (by decide) (fun c => False.elim (by revert c; decide)) (fun _ => ?_)
    refine lv_iconst (v := 0) hx hb dX12_beam_17 (by decide) ?_
    exact m_iret hx hb hr hlocks hW (by decide) (⟨hI, Or.inr ⟨rfl, by omega⟩⟩) dX12_beam_18
set_option maxHeartbeats 4000000 in
set_option maxRecDepth 100000 in
theorem g_X12_pitch (l : Launch) (D : va_G) (cy : Nat → ClassId) (b : Nat) (S : Nat → Bool) (μ0 : mM) (hS20 : S 20 = true) (hS21 : S 21 = true) (k : Int32) (μ : mM) (hI : IY S μ0 μ) : m_Ci l yX12_pitch cX12_pitch 2 ((some .boolean)) 1 D cy b LAY μ [.ref (b + 81), .int k] (fun r ν => IY S μ0 ν ∧ ((r = 1 ∧ (2 ≤ k.toInt ∧ k.toInt ≤ 9)) ∨ (r = 0 ∧ (¬ (2 ≤ k.toInt ∧ k.toInt ≤ 9))))) := by
  unfold m_Ci
  refine m_of (by decide) (Nat.le_of_ble_eq_true rfl) ?_
  intro p e s m below meth c hx hb hr hml hown hts hlocks _ hW ls hl
  have hown : s.vm.findClass RX12 = some m.cls := hown
  have hl : lv_has ls 2 [(0, .ref (b + 81)), (1, .int k)] := hl
  refine lv_aload_n hx hb dX12_pitch_0 rfl (lv_at hl 0 rfl) ?_
  refine lv_iconst (v := 0) hx hb dX12_pitch_1 (by decide) ?_
  refine m_puti hx hb hts hown hW (81) 0 rfl rfl cw_12 tyX12_ok nmX12 rfl (by decide) k_X12_167 rfl rfl rfl dX12_pitch_2 (fun H locs hW _ => ?_)
  generalize hμ1 : m_si μ (81) 0 0 = μ1 at hW
  have hI := hI.si0 hμ1 rfl hS20
  refine lv_aload_n hx hb dX12_pitch_5 rfl (lv_at hl 0 rfl) ?_
  refine lv_iload_n hx hb dX12_pitch_6 rfl (lv_at hl 1 rfl) ?_
  refine lv_iconst (v := 2) hx hb dX12_pitch_7 (by decide) ?_
  refine lv_bipush (v := 9) hx hb dX12_pitch_8 (by decide) ?_
  have l_2 : (2 : Int32).toInt = 2 := by decide
  have l_9 : (9 : Int32).toInt = 9 := by decide
  refine m_aI hW (m_runV (As := [.int k, .int 2, .int 9]) (rest := []) hx hb hml hown hts hW (81) (g_X12_isIn l D cy b k 2 9 μ1 hI.1) mi_X12_isIn k_X12_170 rfl rfl rfl hl.1 rfl (Nat.le_of_ble_eq_true rfl) dX12_pitch_10 ⟨Nat.le_of_ble_eq_true rfl, Nat.le_of_ble_eq_true rfl⟩ ⟨Nat.le_of_ble_eq_true rfl, Nat.le_of_ble_eq_true rfl⟩) (fun x2 μ2 H locs q2 hW => ?_)
  obtain ⟨q2_m, q2⟩ := q2
  subst q2_m
  rcases q2 with ⟨rfl, q2⟩ | ⟨rfl, q2⟩
  · refine lv_if_ne (tgt := 18) hx hb dX12_pitch_13 (by decide) (fun _ => ?_) (fun c => False.elim (by revert c; decide))
    refine lv_aload_n hx hb dX12_pitch_18 rfl (lv_at hl 0 rfl) ?_
    refine lv_iload_n hx hb dX12_pitch_19 rfl (lv_at hl 1 rfl) ?_
    refine m_puti hx hb hts hown hW (81) 12 rfl rfl cw_12 tyX12_ok nmX12 rfl (by decide) k_X12_30 rfl rfl rfl dX12_pitch_20 (fun H locs hW _ => ?_)
    generalize hμ3 : m_si μ1 (81) 12 k = μ3 at hW
    have hI := hI.si1 hμ3 rfl (by omega) hS21
    refine lv_iconst (v := 1) hx hb dX12_pitch_23 (by decide) ?_
    exact m_iret hx hb hr hlocks hW (by decide) (⟨hI, Or.inl ⟨rfl, by omega⟩⟩) dX12_pitch_24
  · refine lv_if_ne (tgt := 18) hx hb dX12_pitch_13 (by decide) (fun c => False.elim (by revert c; decide)) (fun _ => ?_)
    refine lv_iconst (v := 0) hx hb dX12_pitch_16 (by decide) ?_
    exact m_iret hx hb hr hlocks hW (by decide) (⟨hI, Or.inr ⟨rfl, by omega⟩⟩) dX12_pitch_17
set_option maxHeartbeats 4000000 in
set_option maxRecDepth 100000 in
theorem g_X12_isOnPlate (l : Launch) (D : va_G) (cy : Nat → ClassId) (b : Nat) (k u : Int32) (μ : mM) (hI : IX μ) : m_Ci l yX12_isOnPlate cX12_isOnPlate 3 ((some .boolean)) 0 D cy b LAY μ [.ref (b + 81), .int k, .int u] (fun r ν => μ = ν ∧ ((r = 1 ∧ (0 ≤ k.toInt ∧ k.toInt ≤ 15 ∧ 0 ≤ u.toInt ∧ u.toInt ≤ 11)) ∨ (r = 0 ∧ (True)))) := by
  unfold m_Ci
  refine m_of (by decide) (Nat.le_of_ble_eq_true rfl) ?_
  intro p e s m below meth c hx hb hr hml hown hts hlocks _ hW ls hl
  have hown : s.vm.findClass RX12 = some m.cls := hown
  have hl : lv_has ls 3 [(0, .ref (b + 81)), (1, .int k), (2, .int u)] := hl
  refine lv_iload_n hx hb dX12_isOnPlate_0 rfl (lv_at hl 1 rfl) ?_
  refine lv_if_lt (tgt := 28) hx hb dX12_isOnPlate_1 (by decide) (fun c1 => ?_) (fun c1 => ?_)
  · have i1 := m_c1 (rfl : k.toInt = _) (by decide : (0 : Int32).toInt = 0) c1
    refine lv_iconst (v := 0) hx hb dX12_isOnPlate_28 (by decide) ?_
    exact m_iret hx hb hr hlocks hW (by decide) (⟨rfl, Or.inr ⟨rfl, trivial⟩⟩) dX12_isOnPlate_29
  · have i1 := m_c2 (rfl : k.toInt = _) (by decide : (0 : Int32).toInt = 0) c1
    refine lv_iload_n hx hb dX12_isOnPlate_4 rfl (lv_at hl 1 rfl) ?_
    refine lv_aload_n hx hb dX12_isOnPlate_5 rfl (lv_at hl 0 rfl) ?_
    refine m_geti hx hb hts hown hW (81) 6 rfl rfl cw_12 rfl (by decide) k_X12_177 dX12_isOnPlate_6 ?_
    refine lv_topi (fun x2 ex2 => ?_)
    have bx2 : 0 ≤ x2.toInt ∧ x2.toInt ≤ 16 := by rw [ex2]; exact hI _ _ _ _ rfl
    refine lv_icmp_ge (tgt := 28) hx hb dX12_isOnPlate_9 (by decide) (fun c3 => ?_) (fun c3 => ?_)
    · have i3 := m_c3 (rfl : x2.toInt = _) (rfl : k.toInt = _) c3
      refine lv_iconst (v := 0) hx hb dX12_isOnPlate_28 (by decide) ?_
      exact m_iret hx hb hr hlocks hW (by decide) (⟨rfl, Or.inr ⟨rfl, trivial⟩⟩) dX12_isOnPlate_29
    · have i3 := m_c4 (rfl : x2.toInt = _) (rfl : k.toInt = _) c3
      refine lv_iload_n hx hb dX12_isOnPlate_12 rfl (lv_at hl 2 rfl) ?_
      refine lv_if_lt (tgt := 28) hx hb dX12_isOnPlate_13 (by decide) (fun c4 => ?_) (fun c4 => ?_)
      · have i4 := m_c1 (rfl : u.toInt = _) (by decide : (0 : Int32).toInt = 0) c4
        refine lv_iconst (v := 0) hx hb dX12_isOnPlate_28 (by decide) ?_
        exact m_iret hx hb hr hlocks hW (by decide) (⟨rfl, Or.inr ⟨rfl, trivial⟩⟩) dX12_isOnPlate_29
      · have i4 := m_c2 (rfl : u.toInt = _) (by decide : (0 : Int32).toInt = 0) c4
        refine lv_iload_n hx hb dX12_isOnPlate_16 rfl (lv_at hl 2 rfl) ?_
        refine lv_aload_n hx hb dX12_isOnPlate_17 rfl (lv_at hl 0 rfl) ?_
        refine m_geti hx hb hts hown hW (81) 7 rfl rfl cw_12 rfl (by decide) k_X12_180 dX12_isOnPlate_18 ?_
        refine lv_topi (fun x5 ex5 => ?_)
        have bx5 : 0 ≤ x5.toInt ∧ x5.toInt ≤ 12 := by rw [ex5]; exact hI _ _ _ _ rfl
        refine lv_icmp_ge (tgt := 28) hx hb dX12_isOnPlate_21 (by decide) (fun c6 => ?_) (fun c6 => ?_)
        · have i6 := m_c3 (rfl : x5.toInt = _) (rfl : u.toInt = _) c6
          refine lv_iconst (v := 0) hx hb dX12_isOnPlate_28 (by decide) ?_
          exact m_iret hx hb hr hlocks hW (by decide) (⟨rfl, Or.inr ⟨rfl, trivial⟩⟩) dX12_isOnPlate_29
        · have i6 := m_c4 (rfl : x5.toInt = _) (rfl : u.toInt = _) c6
          refine lv_iconst (v := 1) hx hb dX12_isOnPlate_24 (by decide) ?_
          refine lv_goto (tgt := 29) hx hb dX12_isOnPlate_25 (by decide) ?_
          exact m_iret hx hb hr hlocks hW (by decide) (⟨rfl, Or.inl ⟨rfl, by omega⟩⟩) dX12_isOnPlate_29
set_option maxHeartbeats 4000000 in
set_option maxRecDepth 100000 in
theorem g_X12_isThere (l : Launch) (D : va_G) (cy : Nat → ClassId) (b : Nat) (d k u : Int32) (h_d : 0 ≤ d.toInt ∧ d.toInt ≤ 1) (μ : mM) (hI : IX μ) : m_Ci l yX12_isThere cX12_isThere 4 ((some .boolean)) 1 D cy b LAY μ [.ref (b + 81), .int d, .int k, .int u] (fun r ν => μ = ν ∧ ((r = 1 ∧ (0 ≤ k.toInt ∧ k.toInt ≤ 15 ∧ 0 ≤ u.toInt ∧ u.toInt ≤ 11)) ∨ (r = 0 ∧ (True)))) := by
  unfold m_Ci
  refine m_of (by decide) (Nat.le_of_ble_eq_true rfl) ?_
  intro p e s m below meth c hx hb hr hml hown hts hlocks _ hW ls hl
  have hown : s.vm.findClass RX12 = some m.cls := hown
  have hl : lv_has ls 4 [(0, .ref (b + 81)), (1, .int d), (2, .int k), (3, .int u)] := hl
  refine lv_aload_n hx hb dX12_isThere_0 rfl (lv_at hl 0 rfl) ?_
  refine lv_iload_n hx hb dX12_isThere_1 rfl (lv_at hl 2 rfl) ?_
  refine lv_iload_n hx hb dX12_isThere_2 rfl (lv_at hl 3 rfl) ?_
  refine m_aI hW (m_runV (As := [.int k, .int u]) (rest := []) hx hb hml hown hts hW (81) (g_X12_isOnPlate l D cy b k u μ hI) mi_X12_isOnPlate k_X12_189 rfl rfl rfl hl.1 rfl (Nat.le_of_ble_eq_true rfl) dX12_isThere_3 ⟨Nat.le_of_ble_eq_true rfl, Nat.le_of_ble_eq_true rfl⟩ ⟨Nat.le_of_ble_eq_true rfl, Nat.le_of_ble_eq_true rfl⟩) (fun x1 μ1 H locs q1 hW => ?_)
  obtain ⟨q1_m, q1⟩ := q1
  subst q1_m
  rcases q1 with ⟨rfl, q1⟩ | ⟨rfl, q1⟩
  · refine lv_if_eq (tgt := 33) hx hb dX12_isThere_6 (by decide) (fun c => False.elim (by revert c; decide)) (fun _ => ?_)
    refine lv_aload_n hx hb dX12_isThere_9 rfl (lv_at hl 0 rfl) ?_
    refine m_getr hx hb hts hown hW (81) 15 (88) rfl rfl cw_12 rfl (by decide) k_X12_39 dX12_isThere_10 ?_
    refine lv_sipush (v := 192) hx hb dX12_isThere_13 (by decide) ?_
    refine lv_iload_n hx hb dX12_isThere_16 rfl (lv_at hl 1 rfl) ?_
    refine lv_imul hx hb dX12_isThere_17 ?_
    refine lv_topi (fun x2 ex2 => ?_)
    have tx2 : x2.toInt = 192 * d.toInt := m_mulI ex2 (by decide : (192 : Int32).toInt = 192) (rfl : d.toInt = _) (by omega) (by omega)
    refine lv_bipush (v := 16) hx hb dX12_isThere_18 (by decide) ?_
    refine lv_iload_n hx hb dX12_isThere_20 rfl (lv_at hl 3 rfl) ?_
    refine lv_imul hx hb dX12_isThere_21 ?_
    refine lv_topi (fun x3 ex3 => ?_)
    have tx3 : x3.toInt = 16 * u.toInt := m_mulI ex3 (by decide : (16 : Int32).toInt = 16) (rfl : u.toInt = _) (by omega) (by omega)
    refine lv_iadd hx hb dX12_isThere_22 ?_
    refine lv_topi (fun x4 ex4 => ?_)
    have tx4 : x4.toInt = x2.toInt + x3.toInt := m_addI ex4 (rfl : x2.toInt = _) (rfl : x3.toInt = _) (by omega) (by omega)
    refine lv_iload_n hx hb dX12_isThere_23 rfl (lv_at hl 2 rfl) ?_
    refine lv_iadd hx hb dX12_isThere_24 ?_
    refine lv_topi (fun x5 ex5 => ?_)
    have tx5 : x5.toInt = x4.toInt + k.toInt := m_addI ex5 (rfl : x4.toInt = _) (rfl : k.toInt = _) (by omega) (by omega)
    refine m_iald hx hb hW (88) rfl (m_ixI (rfl : x5.toInt = _) (by omega) (by omega)) dX12_isThere_25 ?_
    refine lv_topi (fun x6 ex6 => ?_)
    refine lv_if_ne (tgt := 33) hx hb dX12_isThere_26 (by decide) (fun c7 => ?_) (fun c7 => ?_)
    · have i7 := m_c6 (rfl : x6.toInt = _) (by decide : (0 : Int32).toInt = 0) c7
      refine lv_iconst (v := 0) hx hb dX12_isThere_33 (by decide) ?_
      exact m_iret hx hb hr hlocks hW (by decide) (⟨rfl, Or.inr ⟨rfl, trivial⟩⟩) dX12_isThere_34
    · have i7 := m_c5 (rfl : x6.toInt = _) (by decide : (0 : Int32).toInt = 0) c7
      refine lv_iconst (v := 1) hx hb dX12_isThere_29 (by decide) ?_
      refine lv_goto (tgt := 34) hx hb dX12_isThere_30 (by decide) ?_
      exact m_iret hx hb hr hlocks hW (by decide) (⟨rfl, Or.inl ⟨rfl, by omega⟩⟩) dX12_isThere_34
  · refine lv_if_eq (tgt := 33) hx hb dX12_isThere_6 (by decide) (fun _ => ?_) (fun c => False.elim (by revert c; decide))
    refine lv_iconst (v := 0) hx hb dX12_isThere_33 (by decide) ?_
    exact m_iret hx hb hr hlocks hW (by decide) (⟨rfl, Or.inr ⟨rfl, trivial⟩⟩) dX12_isThere_34
set_option maxHeartbeats 4000000 in
set_option maxRecDepth 100000 in
theorem L_X12_copies_2 {p : Program} {l : Launch} {e : Env} {s : State} {m : MethodId} {args : Array Value} {below : List Frame} {meth : Method} {c : Code} {D : va_G} {cy : Nat → ClassId} {b : Nat} (hx : p.tables.exec = Jvm.exec) (hb : c.code = cX12_copies) (hr : meth.sig.returnType = (none)) (hml : c.maxLocals = 2) (hown : s.vm.findClass RX12 = some m.cls) (hts : ∀ w ∈ TB, w.before args s = true) (hlocks : meth.locks = false) (S : Nat → Bool) (μ0 : mM) (hS22 : S 22 = true) : ∀ (f : Nat), ∀ (y1 : Int32) (hy : 0 ≤ y1.toInt ∧ y1.toInt ≤ 192) (hf : 192 - y1.toInt < (f : Int)) (μ : mM) (hI : IY S μ0 μ) (H : Heap) (locs : List Loc), m_WA (m_A b LAY) D cy s b LAY μ H locs → ∀ ls : Array Slot, lv_has ls 2 [(0, .ref (b + 81)), (1, .int y1)] → W p l e (m_R 0 0 0) s m args below meth c H locs 0 0 (MQ below (m_Qv D cy b LAY (fun ν => IY S μ0 ν ∧ (True))) args s 0 0 (m_A b LAY)) (F0 m 2 ls []) := by
  intro f
  induction f with
  | zero => intro y1 hy hf; exfalso; omega
  | succ f ih =>
    intro y1 hy hf μ hI H locs hW ls hl
    refine lv_iload_n hx hb dX12_copies_2 rfl (lv_at hl 1 rfl) ?_
    refine lv_sipush (v := 192) hx hb dX12_copies_3 (by decide) ?_
    refine lv_icmp_ge (tgt := 79) hx hb dX12_copies_6 (by decide) (fun c1 => ?_) (fun c1 => ?_)
    · have i1 := m_c3 (by decide : (192 : Int32).toInt = 192) (rfl : y1.toInt = _) c1
      refine lv_aload_n hx hb dX12_copies_79 rfl (lv_at hl 0 rfl) ?_
      refine m_getr hx hb hts hown hW (81) 18 (91) rfl rfl cw_12 rfl (by decide) k_X12_49 dX12_copies_80 ?_
      refine lv_iconst (v := 1) hx hb dX12_copies_83 (by decide) ?_
      refine lv_aload_n hx hb dX12_copies_84 rfl (lv_at hl 0 rfl) ?_
      refine m_getr hx hb hts hown hW (81) 18 (91) rfl rfl cw_12 rfl (by decide) k_X12_49 dX12_copies_85 ?_
      refine lv_iconst (v := 0) hx hb dX12_copies_88 (by decide) ?_
      refine m_iald hx hb hW (91) rfl (vp_in_iff.mpr ⟨by decide, by decide⟩) dX12_copies_89 ?_
      refine lv_topi (fun x2 ex2 => ?_)
      refine m_iast hx hb hW (91) rfl (vp_in_iff.mpr ⟨by decide, by decide⟩) dX12_copies_90 (fun H locs hW _ => ?_)
      generalize hμ3 : m_si μ (91) (1 : Int32).toNatClampNeg x2 = μ3 at hW
      have hI := hI.si0 hμ3 rfl hS22
      refine lv_aload_n hx hb dX12_copies_91 rfl (lv_at hl 0 rfl) ?_
      refine m_getr hx hb hts hown hW (81) 19 (92) rfl rfl cw_12 rfl (by decide) k_X12_52 dX12_copies_92 ?_
      refine lv_iconst (v := 1) hx hb dX12_copies_95 (by decide) ?_
      refine lv_aload_n hx hb dX12_copies_96 rfl (lv_at hl 0 rfl) ?_
      refine m_getr hx hb hts hown hW (81) 19 (92) rfl rfl cw_12 rfl (by decide) k_X12_52 dX12_copies_97 ?_
      refine lv_iconst (v := 0) hx hb dX12_copies_100 (by decide) ?_
      refine m_iald hx hb hW (92) rfl (vp_in_iff.mpr ⟨by decide, by decide⟩) dX12_copies_101 ?_
      refine lv_topi (fun x4 ex4 => ?_)
      refine m_iast hx hb hW (92) rfl (vp_in_iff.mpr ⟨by decide, by decide⟩) dX12_copies_102 (fun H locs hW _ => ?_)
      generalize hμ5 : m_si μ3 (92) (1 : Int32).toNatClampNeg x4 = μ5 at hW
      have hI := hI.si0 hμ5 rfl hS22
      refine lv_aload_n hx hb dX12_copies_103 rfl (lv_at hl 0 rfl) ?_
      refine m_getr hx hb hts hown hW (81) 20 (93) rfl rfl cw_12 rfl (by decide) k_X12_55 dX12_copies_104 ?_
      refine lv_iconst (v := 1) hx hb dX12_copies_107 (by decide) ?_
      refine lv_aload_n hx hb dX12_copies_108 rfl (lv_at hl 0 rfl) ?_
      refine m_getr hx hb hts hown hW (81) 20 (93) rfl rfl cw_12 rfl (by decide) k_X12_55 dX12_copies_109 ?_
      refine lv_iconst (v := 0) hx hb dX12_copies_112 (by decide) ?_
      refine m_zald hx hb hW (93) rfl (vp_in_iff.mpr ⟨by decide, by decide⟩) dX12_copies_113 ?_
      refine lv_topi (fun x6 ex6 => ?_)
      have bx6 : 0 ≤ x6.toInt ∧ x6.toInt ≤ 1 := by rw [ex6]; exact hI.1 _ _ _ _ rfl
      refine m_zast hx hb hW (93) rfl (vp_in_iff.mpr ⟨by decide, by decide⟩) (m_nb (m_b01 (by omega))) dX12_copies_114 (fun H locs hW _ => ?_)
      generalize hμ7 : m_si μ5 (93) (1 : Int32).toNatClampNeg x6 = μ7 at hW
      have hI := hI.si1 hμ7 rfl (by omega) hS22
      refine lv_aload_n hx hb dX12_copies_115 rfl (lv_at hl 0 rfl) ?_
      refine m_getr hx hb hts hown hW (81) 21 (94) rfl rfl cw_12 rfl (by decide) k_X12_58 dX12_copies_116 ?_
      refine lv_iconst (v := 1) hx hb dX12_copies_119 (by decide) ?_
      refine lv_aload_n hx hb dX12_copies_120 rfl (lv_at hl 0 rfl) ?_
      refine m_getr hx hb hts hown hW (81) 21 (94) rfl rfl cw_12 rfl (by decide) k_X12_58 dX12_copies_121 ?_
      refine lv_iconst (v := 0) hx hb dX12_copies_124 (by decide) ?_
      refine m_iald hx hb hW (94) rfl (vp_in_iff.mpr ⟨by decide, by decide⟩) dX12_copies_125 ?_
      refine lv_topi (fun x8 ex8 => ?_)
      refine m_iast hx hb hW (94) rfl (vp_in_iff.mpr ⟨by decide, by decide⟩) dX12_copies_126 (fun H locs hW _ => ?_)
      generalize hμ9 : m_si μ7 (94) (1 : Int32).toNatClampNeg x8 = μ9 at hW
      have hI := hI.si0 hμ9 rfl hS22
      refine lv_aload_n hx hb dX12_copies_127 rfl (lv_at hl 0 rfl) ?_
      refine m_getr hx hb hts hown hW (81) 22 (95) rfl rfl cw_12 rfl (by decide) k_X12_61 dX12_copies_128 ?_
      refine lv_iconst (v := 1) hx hb dX12_copies_131 (by decide) ?_
      refine lv_aload_n hx hb dX12_copies_132 rfl (lv_at hl 0 rfl) ?_
      refine m_getr hx hb hts hown hW (81) 22 (95) rfl rfl cw_12 rfl (by decide) k_X12_61 dX12_copies_133 ?_
      refine lv_iconst (v := 0) hx hb dX12_copies_136 (by decide) ?_
      refine m_iald hx hb hW (95) rfl (vp_in_iff.mpr ⟨by decide, by decide⟩) dX12_copies_137 ?_
      refine lv_topi (fun x10 ex10 => ?_)
      refine m_iast hx hb hW (95) rfl (vp_in_iff.mpr ⟨by decide, by decide⟩) dX12_copies_138 (fun H locs hW _ => ?_)
      generalize hμ11 : m_si μ9 (95) (1 : Int32).toNatClampNeg x10 = μ11 at hW
      have hI := hI.si0 hμ11 rfl hS22
      refine lv_aload_n hx hb dX12_copies_139 rfl (lv_at hl 0 rfl) ?_
      refine m_getr hx hb hts hown hW (81) 23 (96) rfl rfl cw_12 rfl (by decide) k_X12_64 dX12_copies_140 ?_
      refine lv_iconst (v := 1) hx hb dX12_copies_143 (by decide) ?_
      refine lv_aload_n hx hb dX12_copies_144 rfl (lv_at hl 0 rfl) ?_
      refine m_getr hx hb hts hown hW (81) 23 (96) rfl rfl cw_12 rfl (by decide) k_X12_64 dX12_copies_145 ?_
      refine lv_iconst (v := 0) hx hb dX12_copies_148 (by decide) ?_
      refine m_iald hx hb hW (96) rfl (vp_in_iff.mpr ⟨by decide, by decide⟩) dX12_copies_149 ?_
      refine lv_topi (fun x12 ex12 => ?_)
      refine m_iast hx hb hW (96) rfl (vp_in_iff.mpr ⟨by decide, by decide⟩) dX12_copies_150 (fun H locs hW _ => ?_)
      generalize hμ13 : m_si μ11 (96) (1 : Int32).toNatClampNeg x12 = μ13 at hW
      have hI := hI.si0 hμ13 rfl hS22
      refine lv_aload_n hx hb dX12_copies_151 rfl (lv_at hl 0 rfl) ?_
      refine m_getr hx hb hts hown hW (81) 24 (97) rfl rfl cw_12 rfl (by decide) k_X12_67 dX12_copies_152 ?_
      refine lv_iconst (v := 1) hx hb dX12_copies_155 (by decide) ?_
      refine lv_aload_n hx hb dX12_copies_156 rfl (lv_at hl 0 rfl) ?_
      refine m_getr hx hb hts hown hW (81) 24 (97) rfl rfl cw_12 rfl (by decide) k_X12_67 dX12_copies_157 ?_
      refine lv_iconst (v := 0) hx hb dX12_copies_160 (by decide) ?_
      refine m_iald hx hb hW (97) rfl (vp_in_iff.mpr ⟨by decide, by decide⟩) dX12_copies_161 ?_
      refine lv_topi (fun x14 ex14 => ?_)
      refine m_iast hx hb hW (97) rfl (vp_in_iff.mpr ⟨by decide, by decide⟩) dX12_copies_162 (fun H locs hW _ => ?_)
      generalize hμ15 : m_si μ13 (97) (1 : Int32).toNatClampNeg x14 = μ15 at hW
      have hI := hI.si0 hμ15 rfl hS22
      exact m_vret hx hb hr hlocks hW (⟨hI, trivial⟩) dX12_copies_163
    · have i1 := m_c4 (by decide : (192 : Int32).toInt = 192) (rfl : y1.toInt = _) c1
      refine lv_aload_n hx hb dX12_copies_9 rfl (lv_at hl 0 rfl) ?_
      refine m_getr hx hb hts hown hW (81) 13 (86) rfl rfl cw_12 rfl (by decide) k_X12_33 dX12_copies_10 ?_
      refine lv_sipush (v := 192) hx hb dX12_copies_13 (by decide) ?_
      refine lv_iload_n hx hb dX12_copies_16 rfl (lv_at hl 1 rfl) ?_
      refine lv_iadd hx hb dX12_copies_17 ?_
      refine lv_topi (fun x16 ex16 => ?_)
      have tx16 : x16.toInt = 192 + y1.toInt := m_addI ex16 (by decide : (192 : Int32).toInt = 192) (rfl : y1.toInt = _) (by omega) (by omega)
      refine lv_aload_n hx hb dX12_copies_18 rfl (lv_at hl 0 rfl) ?_
      refine m_getr hx hb hts hown hW (81) 13 (86) rfl rfl cw_12 rfl (by decide) k_X12_33 dX12_copies_19 ?_
      refine lv_iload_n hx hb dX12_copies_22 rfl (lv_at hl 1 rfl) ?_
      refine m_iald hx hb hW (86) rfl (m_ixI (rfl : y1.toInt = _) (by omega) (by omega)) dX12_copies_23 ?_
      refine lv_topi (fun x17 ex17 => ?_)
      refine m_iast hx hb hW (86) rfl (m_ixI (rfl : x16.toInt = _) (by omega) (by omega)) dX12_copies_24 (fun H locs hW _ => ?_)
      generalize hμ18 : m_si μ (86) (x16 : Int32).toNatClampNeg x17 = μ18 at hW
      have hI := hI.si0 hμ18 rfl hS22
      refine lv_aload_n hx hb dX12_copies_25 rfl (lv_at hl 0 rfl) ?_
      refine m_getr hx hb hts hown hW (81) 15 (88) rfl rfl cw_12 rfl (by decide) k_X12_39 dX12_copies_26 ?_
      refine lv_sipush (v := 192) hx hb dX12_copies_29 (by decide) ?_
      refine lv_iload_n hx hb dX12_copies_32 rfl (lv_at hl 1 rfl) ?_
      refine lv_iadd hx hb dX12_copies_33 ?_
      refine lv_topi (fun x19 ex19 => ?_)
      have ex19 : x19 = x16 := ex19.trans ex16.symm
      have ex19 := ex19.symm
      subst ex19
      refine lv_aload_n hx hb dX12_copies_34 rfl (lv_at hl 0 rfl) ?_
      refine m_getr hx hb hts hown hW (81) 15 (88) rfl rfl cw_12 rfl (by decide) k_X12_39 dX12_copies_35 ?_
      refine lv_iload_n hx hb dX12_copies_38 rfl (lv_at hl 1 rfl) ?_
      refine m_iald hx hb hW (88) rfl (m_ixI (rfl : y1.toInt = _) (by omega) (by omega)) dX12_copies_39 ?_
      refine lv_topi (fun x20 ex20 => ?_)
      refine m_iast hx hb hW (88) rfl (m_ixI (rfl : x16.toInt = _) (by omega) (by omega)) dX12_copies_40 (fun H locs hW _ => ?_)
      generalize hμ21 : m_si μ18 (88) (x16 : Int32).toNatClampNeg x20 = μ21 at hW
      have hI := hI.si0 hμ21 rfl hS22
      refine lv_aload_n hx hb dX12_copies_41 rfl (lv_at hl 0 rfl) ?_
      refine m_getr hx hb hts hown hW (81) 16 (89) rfl rfl cw_12 rfl (by decide) k_X12_42 dX12_copies_42 ?_
      refine lv_sipush (v := 192) hx hb dX12_copies_45 (by decide) ?_
      refine lv_iload_n hx hb dX12_copies_48 rfl (lv_at hl 1 rfl) ?_
      refine lv_iadd hx hb dX12_copies_49 ?_
      refine lv_topi (fun x22 ex22 => ?_)
      have ex22 : x22 = x16 := ex22.trans ex16.symm
      have ex22 := ex22.symm
      subst ex22
      refine lv_aload_n hx hb dX12_copies_50 rfl (lv_at hl 0 rfl) ?_
      refine m_getr hx hb hts hown hW (81) 16 (89) rfl rfl cw_12 rfl (by decide) k_X12_42 dX12_copies_51 ?_
      refine lv_iload_n hx hb dX12_copies_54 rfl (lv_at hl 1 rfl) ?_
      refine m_zald hx hb hW (89) rfl (m_ixI (rfl : y1.toInt = _) (by omega) (by omega)) dX12_copies_55 ?_
      refine lv_topi (fun x23 ex23 => ?_)
      have bx23 : 0 ≤ x23.toInt ∧ x23.toInt ≤ 1 := by rw [ex23]; exact hI.1 _ _ _ _ rfl
      refine m_zast hx hb hW (89) rfl (m_ixI (rfl : x16.toInt = _) (by omega) (by omega)) (m_nb (m_b01 (by omega))) dX12_copies_56 (fun H locs hW _ => ?_)
      generalize hμ24 : m_si μ21 (89) (x16 : Int32).toNatClampNeg x23 = μ24 at hW
      have hI := hI.si1 hμ24 rfl (by omega) hS22
      refine lv_aload_n hx hb dX12_copies_57 rfl (lv_at hl 0 rfl) ?_
      refine m_getr hx hb hts hown hW (81) 17 (90) rfl rfl cw_12 rfl (by decide) k_X12_46 dX12_copies_58 ?_
      refine lv_sipush (v := 192) hx hb dX12_copies_61 (by decide) ?_
      refine lv_iload_n hx hb dX12_copies_64 rfl (lv_at hl 1 rfl) ?_
      refine lv_iadd hx hb dX12_copies_65 ?_
      refine lv_topi (fun x25 ex25 => ?_)
      have ex25 : x25 = x16 := ex25.trans ex16.symm
      have ex25 := ex25.symm
      subst ex25
      refine lv_aload_n hx hb dX12_copies_66 rfl (lv_at hl 0 rfl) ?_
      refine m_getr hx hb hts hown hW (81) 17 (90) rfl rfl cw_12 rfl (by decide) k_X12_46 dX12_copies_67 ?_
      refine lv_iload_n hx hb dX12_copies_70 rfl (lv_at hl 1 rfl) ?_
      refine m_zald hx hb hW (90) rfl (m_ixI (rfl : y1.toInt = _) (by omega) (by omega)) dX12_copies_71 ?_
      refine lv_topi (fun x26 ex26 => ?_)
      have bx26 : 0 ≤ x26.toInt ∧ x26.toInt ≤ 1 := by rw [ex26]; exact hI.1 _ _ _ _ rfl
      refine m_zast hx hb hW (90) rfl (m_ixI (rfl : x16.toInt = _) (by omega) (by omega)) (m_nb (m_b01 (by omega))) dX12_copies_72 (fun H locs hW _ => ?_)
      generalize hμ27 : m_si μ24 (90) (x16 : Int32).toNatClampNeg x26 = μ27 at hW
      have hI := hI.si1 hμ27 rfl (by omega) hS22
      obtain ⟨x28, ex28⟩ : ∃ z : Int32, z = y1 + 1 := ⟨_, rfl⟩
      refine lv_iinc (v := x28) (lv' := [(1, .int x28), (0, .ref (b + 81))]) hx hb dX12_copies_73 hl (k := 1) rfl (by rw [ex28]; rfl) (by decide) rfl (fun ls hl => ?_)
      have tx28 : x28.toInt = y1.toInt + 1 := m_addI ex28 (rfl : y1.toInt = _) (by decide : (1 : Int32).toInt = 1) (by omega) (by omega)
      refine lv_goto (tgt := 2) hx hb dX12_copies_76 (by decide) ?_
      exact ih x28 (by omega) (by omega) μ27 hI _ _ hW ls (lv_sub hl [1, 0] rfl)
set_option maxHeartbeats 4000000 in
set_option maxRecDepth 100000 in
theorem g_X12_copies (l : Launch) (D : va_G) (cy : Nat → ClassId) (b : Nat) (S : Nat → Bool) (μ0 : mM) (hS22 : S 22 = true) (μ : mM) (hI : IY S μ0 μ) : m_Cv l yX12_copies cX12_copies 2 (none) 0 D cy b LAY μ [.ref (b + 81)] (fun ν => IY S μ0 ν ∧ (True)) := by
  unfold m_Cv
  refine m_of (by decide) (Nat.le_of_ble_eq_true rfl) ?_
  intro p e s m below meth c hx hb hr hml hown hts hlocks _ hW ls hl
  have hown : s.vm.findClass RX12 = some m.cls := hown
  have hl : lv_has ls 2 [(0, .ref (b + 81))] := hl
  refine lv_iconst (v := 0) hx hb dX12_copies_0 (by decide) ?_
  refine lv_istore_n (lv' := [(1, .int 0), (0, .ref (b + 81))]) hx hb dX12_copies_1 rfl hl (by decide) rfl (fun ls hl => ?_)
  have l_0 : (0 : Int32).toInt = 0 := by decide
  exact L_X12_copies_2 hx hb hr hml hown hts hlocks S μ0 hS22  193 0 (by omega) (by omega) μ hI _ _ hW ls (lv_sub hl [1, 0] rfl)
set_option maxHeartbeats 4000000 in
set_option maxRecDepth 100000 in
theorem g_X12_flowFrom (l : Launch) (D : va_G) (cy : Nat → ClassId) (b : Nat) (d k u v : Int32) (h_d : 0 ≤ d.toInt ∧ d.toInt ≤ 1) (h_k : 0 ≤ k.toInt ∧ k.toInt ≤ 15) (h_u : 0 ≤ u.toInt ∧ u.toInt ≤ 11) (μ : mM) (hI : IX μ) : m_Ci l yX12_flowFrom cX12_flowFrom 7 ((some .int)) 2 D cy b LAY μ [.ref (b + 81), .int d, .int k, .int u, .int v] (fun r ν => μ = ν ∧ (True)) := by
  unfold m_Ci
  refine m_of (by decide) (Nat.le_of_ble_eq_true rfl) ?_
  intro p e s m below meth c hx hb hr hml hown hts hlocks _ hW ls hl
  have hown : s.vm.findClass RX12 = some m.cls := hown
  have hl : lv_has ls 7 [(0, .ref (b + 81)), (1, .int d), (2, .int k), (3, .int u), (4, .int v)] := hl
  refine lv_iload_n hx hb dX12_flowFrom_0 rfl (lv_at hl 2 rfl) ?_
  refine lv_aload_n hx hb dX12_flowFrom_1 rfl (lv_at hl 0 rfl) ?_
  refine lv_iload hx hb dX12_flowFrom_2 (lv_at hl 4 rfl) ?_
  refine m_aI hW (m_runV (As := [.int v]) (rest := [.int k]) hx hb hml hown hts hW (81) (g_X12_stepX l D cy b v μ hI) mi_X12_stepX k_X12_193 rfl rfl rfl hl.1 rfl (Nat.le_of_ble_eq_true rfl) dX12_flowFrom_4 ⟨Nat.le_of_ble_eq_true rfl, Nat.le_of_ble_eq_true rfl⟩ ⟨Nat.le_of_ble_eq_true rfl, Nat.le_of_ble_eq_true rfl⟩) (fun x1 μ1 H locs q1 hW => ?_)
  obtain ⟨q1_m, q1⟩ := q1
  subst q1_m
  refine lv_iadd hx hb dX12_flowFrom_7 ?_
  refine lv_topi (fun x2 ex2 => ?_)
  have tx2 : x2.toInt = k.toInt + x1.toInt := m_addI ex2 (rfl : k.toInt = _) (rfl : x1.toInt = _) (by omega) (by omega)
  refine lv_istore (lv' := [(5, .int x2), (0, .ref (b + 81)), (1, .int d), (2, .int k), (3, .int u), (4, .int v)]) hx hb dX12_flowFrom_8 hl (by decide) rfl (fun ls hl => ?_)
  refine lv_iload_n hx hb dX12_flowFrom_10 rfl (lv_at hl 4 rfl) ?_
  refine lv_aload_n hx hb dX12_flowFrom_11 rfl (lv_at hl 1 rfl) ?_
  refine lv_iload hx hb dX12_flowFrom_12 (lv_at hl 5 rfl) ?_
  refine m_aI hW (m_runV (As := [.int v]) (rest := [.int u]) hx hb hml hown hts hW (81) (g_X12_stepY l D cy b v μ hI) mi_X12_stepY k_X12_197 rfl rfl rfl hl.1 rfl (Nat.le_of_ble_eq_true rfl) dX12_flowFrom_14 ⟨Nat.le_of_ble_eq_true rfl, Nat.le_of_ble_eq_true rfl⟩ ⟨Nat.le_of_ble_eq_true rfl, Nat.le_of_ble_eq_true rfl⟩) (fun x3 μ3 H locs q3 hW => ?_)
  obtain ⟨q3_m, q3⟩ := q3
  subst q3_m
  refine lv_iadd hx hb dX12_flowFrom_17 ?_
  refine lv_topi (fun x4 ex4 => ?_)
  have tx4 : x4.toInt = u.toInt + x3.toInt := m_addI ex4 (rfl : u.toInt = _) (rfl : x3.toInt = _) (by omega) (by omega)
  refine lv_istore (lv' := [(6, .int x4), (5, .int x2), (0, .ref (b + 81)), (1, .int d), (2, .int k), (3, .int u), (4, .int v)]) hx hb dX12_flowFrom_18 hl (by decide) rfl (fun ls hl => ?_)
  refine lv_aload_n hx hb dX12_flowFrom_20 rfl (lv_at hl 2 rfl) ?_
  refine lv_iload_n hx hb dX12_flowFrom_21 rfl (lv_at hl 3 rfl) ?_
  refine lv_iload hx hb dX12_flowFrom_22 (lv_at hl 1 rfl) ?_
  refine lv_iload hx hb dX12_flowFrom_24 (lv_at hl 0 rfl) ?_
  refine m_aI hW (m_runV (As := [.int d, .int x2, .int x4]) (rest := []) hx hb hml hown hts hW (81) (g_X12_isThere l D cy b d x2 x4 (by omega) μ hI) mi_X12_isThere k_X12_200 rfl rfl rfl hl.1 rfl (Nat.le_of_ble_eq_true rfl) dX12_flowFrom_26 ⟨Nat.le_of_ble_eq_true rfl, Nat.le_of_ble_eq_true rfl⟩ ⟨Nat.le_of_ble_eq_true rfl, Nat.le_of_ble_eq_true rfl⟩) (fun x5 μ5 H locs q5 hW => ?_)
  obtain ⟨q5_m, q5⟩ := q5
  subst q5_m
  rcases q5 with ⟨rfl, q5⟩ | ⟨rfl, q5⟩
  · refine lv_if_ne (tgt := 34) hx hb dX12_flowFrom_29 (by decide) (fun _ => ?_) (fun c => False.elim (by revert c; decide))
    refine lv_aload_n hx hb dX12_flowFrom_34 rfl (lv_at hl 2 rfl) ?_
    refine m_getr hx hb hts hown hW (81) 13 (86) rfl rfl cw_12 rfl (by decide) k_X12_33 dX12_flowFrom_35 ?_
    refine lv_sipush (v := 192) hx hb dX12_flowFrom_38 (by decide) ?_
    refine lv_iload_n hx hb dX12_flowFrom_41 rfl (lv_at hl 3 rfl) ?_
    refine lv_imul hx hb dX12_flowFrom_42 ?_
    refine lv_topi (fun x6 ex6 => ?_)
    have tx6 : x6.toInt = 192 * d.toInt := m_mulI ex6 (by decide : (192 : Int32).toInt = 192) (rfl : d.toInt = _) (by omega) (by omega)
    refine lv_bipush (v := 16) hx hb dX12_flowFrom_43 (by decide) ?_
    refine lv_iload hx hb dX12_flowFrom_45 (lv_at hl 0 rfl) ?_
    refine lv_imul hx hb dX12_flowFrom_47 ?_
    refine lv_topi (fun x7 ex7 => ?_)
    have tx7 : x7.toInt = 16 * x4.toInt := m_mulI ex7 (by decide : (16 : Int32).toInt = 16) (rfl : x4.toInt = _) (by omega) (by omega)
    refine lv_iadd hx hb dX12_flowFrom_48 ?_
    refine lv_topi (fun x8 ex8 => ?_)
    have tx8 : x8.toInt = x6.toInt + x7.toInt := m_addI ex8 (rfl : x6.toInt = _) (rfl : x7.toInt = _) (by omega) (by omega)
    refine lv_iload hx hb dX12_flowFrom_49 (lv_at hl 1 rfl) ?_
    refine lv_iadd hx hb dX12_flowFrom_51 ?_
    refine lv_topi (fun x9 ex9 => ?_)
    have tx9 : x9.toInt = x8.toInt + x2.toInt := m_addI ex9 (rfl : x8.toInt = _) (rfl : x2.toInt = _) (by omega) (by omega)
    refine m_iald hx hb hW (86) rfl (m_ixI (rfl : x9.toInt = _) (by omega) (by omega)) dX12_flowFrom_52 ?_
    refine lv_topi (fun x10 ex10 => ?_)
    refine lv_aload_n hx hb dX12_flowFrom_53 rfl (lv_at hl 2 rfl) ?_
    refine m_getr hx hb hts hown hW (81) 13 (86) rfl rfl cw_12 rfl (by decide) k_X12_33 dX12_flowFrom_54 ?_
    refine lv_sipush (v := 192) hx hb dX12_flowFrom_57 (by decide) ?_
    refine lv_iload_n hx hb dX12_flowFrom_60 rfl (lv_at hl 3 rfl) ?_
    refine lv_imul hx hb dX12_flowFrom_61 ?_
    refine lv_topi (fun x11 ex11 => ?_)
    have ex11 : x11 = x6 := ex11.trans ex6.symm
    have ex11 := ex11.symm
    subst ex11
    refine lv_bipush (v := 16) hx hb dX12_flowFrom_62 (by decide) ?_
    refine lv_iload_n hx hb dX12_flowFrom_64 rfl (lv_at hl 5 rfl) ?_
    refine lv_imul hx hb dX12_flowFrom_65 ?_
    refine lv_topi (fun x12 ex12 => ?_)
    have tx12 : x12.toInt = 16 * u.toInt := m_mulI ex12 (by decide : (16 : Int32).toInt = 16) (rfl : u.toInt = _) (by omega) (by omega)
    refine lv_iadd hx hb dX12_flowFrom_66 ?_
    refine lv_topi (fun x13 ex13 => ?_)
    have tx13 : x13.toInt = x6.toInt + x12.toInt := m_addI ex13 (rfl : x6.toInt = _) (rfl : x12.toInt = _) (by omega) (by omega)
    refine lv_iload_n hx hb dX12_flowFrom_67 rfl (lv_at hl 4 rfl) ?_
    refine lv_iadd hx hb dX12_flowFrom_68 ?_
    refine lv_topi (fun x14 ex14 => ?_)
    have tx14 : x14.toInt = x13.toInt + k.toInt := m_addI ex14 (rfl : x13.toInt = _) (rfl : k.toInt = _) (by omega) (by omega)
    refine m_iald hx hb hW (86) rfl (m_ixI (rfl : x14.toInt = _) (by omega) (by omega)) dX12_flowFrom_69 ?_
    refine lv_topi (fun x15 ex15 => ?_)
    refine lv_isub hx hb dX12_flowFrom_70 ?_
    refine lv_topi (fun x16 ex16 => ?_)
    refine lv_aload_n hx hb dX12_flowFrom_71 rfl (lv_at hl 2 rfl) ?_
    refine m_getr hx hb hts hown hW (81) 2 (83) rfl rfl cw_12 rfl (by decide) k_X12_13 dX12_flowFrom_72 ?_
    refine lv_aload_n hx hb dX12_flowFrom_75 rfl (lv_at hl 2 rfl) ?_
    refine m_geti hx hb hts hown hW (81) 8 rfl rfl cw_12 rfl (by decide) k_X12_183 dX12_flowFrom_76 ?_
    refine lv_topi (fun x17 ex17 => ?_)
    have bx17 : 0 ≤ x17.toInt ∧ x17.toInt ≤ 3 := by rw [ex17]; exact hI _ _ _ _ rfl
    refine m_iald hx hb hW (83) rfl (m_ixI (rfl : x17.toInt = _) (by omega) (by omega)) dX12_flowFrom_79 ?_
    refine lv_topi (fun x18 ex18 => ?_)
    refine lv_imul hx hb dX12_flowFrom_80 ?_
    refine lv_topi (fun x19 ex19 => ?_)
    refine lv_bipush (v := 100) hx hb dX12_flowFrom_81 (by decide) ?_
    refine lv_idiv hx hb dX12_flowFrom_83 (by decide) ?_
    refine lv_topi (fun x20 ex20 => ?_)
    exact m_iret hx hb hr hlocks hW rfl (⟨rfl, trivial⟩) dX12_flowFrom_84
  · refine lv_if_ne (tgt := 34) hx hb dX12_flowFrom_29 (by decide) (fun c => False.elim (by revert c; decide)) (fun _ => ?_)
    refine lv_iconst (v := 0) hx hb dX12_flowFrom_32 (by decide) ?_
    exact m_iret hx hb hr hlocks hW rfl (⟨rfl, trivial⟩) dX12_flowFrom_33
set_option maxHeartbeats 4000000 in
set_option maxRecDepth 100000 in
theorem g_X12_gives (l : Launch) (D : va_G) (cy : Nat → ClassId) (b : Nat) (S : Nat → Bool) (μ0 : mM) (hS22 : S 22 = true) (d : Int32) (h_d : 0 ≤ d.toInt ∧ d.toInt ≤ 1) (μ : mM) (hI : IY S μ0 μ) : m_Cv l yX12_gives cX12_gives 4 (none) 2 D cy b LAY μ [.ref (b + 81), .int d] (fun ν => IY S μ0 ν ∧ (True)) := by
  unfold m_Cv
  refine m_of (by decide) (Nat.le_of_ble_eq_true rfl) ?_
  intro p e s m below meth c hx hb hr hml hown hts hlocks _ hW ls hl
  have hown : s.vm.findClass RX12 = some m.cls := hown
  have hl : lv_has ls 4 [(0, .ref (b + 81)), (1, .int d)] := hl
  refine lv_aload_n hx hb dX12_gives_0 rfl (lv_at hl 0 rfl) ?_
  refine m_getr hx hb hts hown hW (81) 20 (93) rfl rfl cw_12 rfl (by decide) k_X12_55 dX12_gives_1 ?_
  refine lv_iload_n hx hb dX12_gives_4 rfl (lv_at hl 1 rfl) ?_
  refine m_zald hx hb hW (93) rfl (m_ixI (rfl : d.toInt = _) (by omega) (by omega)) dX12_gives_5 ?_
  refine lv_topi (fun x1 ex1 => ?_)
  have bx1 : 0 ≤ x1.toInt ∧ x1.toInt ≤ 1 := by rw [ex1]; exact hI.1 _ _ _ _ rfl
  refine lv_if_eq (tgt := 29) hx hb dX12_gives_6 (by decide) (fun c2 => ?_) (fun c2 => ?_)
  · have i2 := m_c5 (rfl : x1.toInt = _) (by decide : (0 : Int32).toInt = 0) c2
    exact m_vret hx hb hr hlocks hW (⟨hI, trivial⟩) dX12_gives_29
  · have i2 := m_c6 (rfl : x1.toInt = _) (by decide : (0 : Int32).toInt = 0) c2
    refine lv_aload_n hx hb dX12_gives_9 rfl (lv_at hl 0 rfl) ?_
    refine lv_iload_n hx hb dX12_gives_10 rfl (lv_at hl 1 rfl) ?_
    refine lv_aload_n hx hb dX12_gives_11 rfl (lv_at hl 0 rfl) ?_
    refine m_getr hx hb hts hown hW (81) 18 (91) rfl rfl cw_12 rfl (by decide) k_X12_49 dX12_gives_12 ?_
    refine lv_iload_n hx hb dX12_gives_15 rfl (lv_at hl 1 rfl) ?_
    refine m_iald hx hb hW (91) rfl (m_ixI (rfl : d.toInt = _) (by omega) (by omega)) dX12_gives_16 ?_
    refine lv_topi (fun x3 ex3 => ?_)
    refine lv_aload_n hx hb dX12_gives_17 rfl (lv_at hl 0 rfl) ?_
    refine m_getr hx hb hts hown hW (81) 19 (92) rfl rfl cw_12 rfl (by decide) k_X12_52 dX12_gives_18 ?_
    refine lv_iload_n hx hb dX12_gives_21 rfl (lv_at hl 1 rfl) ?_
    refine m_iald hx hb hW (92) rfl (m_ixI (rfl : d.toInt = _) (by omega) (by omega)) dX12_gives_22 ?_
    refine lv_topi (fun x4 ex4 => ?_)
    refine m_aI hW (m_runV (As := [.int d, .int x3, .int x4]) (rest := []) hx hb hml hown hts hW (81) (g_X12_isThere l D cy b d x3 x4 (by omega) μ hI.1) mi_X12_isThere k_X12_200 rfl rfl rfl hl.1 rfl (Nat.le_of_ble_eq_true rfl) dX12_gives_23 ⟨Nat.le_of_ble_eq_true rfl, Nat.le_of_ble_eq_true rfl⟩ ⟨Nat.le_of_ble_eq_true rfl, Nat.le_of_ble_eq_true rfl⟩) (fun x5 μ5 H locs q5 hW => ?_)
    obtain ⟨q5_m, q5⟩ := q5
    subst q5_m
    rcases q5 with ⟨rfl, q5⟩ | ⟨rfl, q5⟩
    · refine lv_if_ne (tgt := 30) hx hb dX12_gives_26 (by decide) (fun _ => ?_) (fun c => False.elim (by revert c; decide))
      refine lv_sipush (v := 192) hx hb dX12_gives_30 (by decide) ?_
      refine lv_iload_n hx hb dX12_gives_33 rfl (lv_at hl 1 rfl) ?_
      refine lv_imul hx hb dX12_gives_34 ?_
      refine lv_topi (fun x6 ex6 => ?_)
      have tx6 : x6.toInt = 192 * d.toInt := m_mulI ex6 (by decide : (192 : Int32).toInt = 192) (rfl : d.toInt = _) (by omega) (by omega)
      refine lv_bipush (v := 16) hx hb dX12_gives_35 (by decide) ?_
      refine lv_aload_n hx hb dX12_gives_37 rfl (lv_at hl 0 rfl) ?_
      refine m_getr hx hb hts hown hW (81) 19 (92) rfl rfl cw_12 rfl (by decide) k_X12_52 dX12_gives_38 ?_
      refine lv_iload_n hx hb dX12_gives_41 rfl (lv_at hl 1 rfl) ?_
      refine m_iald hx hb hW (92) rfl (m_ixI (rfl : d.toInt = _) (by omega) (by omega)) dX12_gives_42 ?_
      refine lv_topi (fun x7 ex7 => ?_)
      have ex7 : x7 = x4 := by rw [ex7]; exact ex4.symm
      have ex7 := ex7.symm
      subst ex7
      refine lv_imul hx hb dX12_gives_43 ?_
      refine lv_topi (fun x8 ex8 => ?_)
      have tx8 : x8.toInt = 16 * x4.toInt := m_mulI ex8 (by decide : (16 : Int32).toInt = 16) (rfl : x4.toInt = _) (by omega) (by omega)
      refine lv_iadd hx hb dX12_gives_44 ?_
      refine lv_topi (fun x9 ex9 => ?_)
      have tx9 : x9.toInt = x6.toInt + x8.toInt := m_addI ex9 (rfl : x6.toInt = _) (rfl : x8.toInt = _) (by omega) (by omega)
      refine lv_aload_n hx hb dX12_gives_45 rfl (lv_at hl 0 rfl) ?_
      refine m_getr hx hb hts hown hW (81) 18 (91) rfl rfl cw_12 rfl (by decide) k_X12_49 dX12_gives_46 ?_
      refine lv_iload_n hx hb dX12_gives_49 rfl (lv_at hl 1 rfl) ?_
      refine m_iald hx hb hW (91) rfl (m_ixI (rfl : d.toInt = _) (by omega) (by omega)) dX12_gives_50 ?_
      refine lv_topi (fun x10 ex10 => ?_)
      have ex10 : x10 = x3 := by rw [ex10]; exact ex3.symm
      have ex10 := ex10.symm
      subst ex10
      refine lv_iadd hx hb dX12_gives_51 ?_
      refine lv_topi (fun x11 ex11 => ?_)
      have tx11 : x11.toInt = x9.toInt + x3.toInt := m_addI ex11 (rfl : x9.toInt = _) (rfl : x3.toInt = _) (by omega) (by omega)
      refine lv_istore_n (lv' := [(2, .int x11), (0, .ref (b + 81)), (1, .int d)]) hx hb dX12_gives_52 rfl hl (by decide) rfl (fun ls hl => ?_)
      refine lv_aload_n hx hb dX12_gives_53 rfl (lv_at hl 1 rfl) ?_
      refine m_getr hx hb hts hown hW (81) 25 (98) rfl rfl cw_12 rfl (by decide) k_X12_70 dX12_gives_54 ?_
      refine lv_iload_n hx hb dX12_gives_57 rfl (lv_at hl 2 rfl) ?_
      refine lv_aload_n hx hb dX12_gives_58 rfl (lv_at hl 1 rfl) ?_
      refine m_getr hx hb hts hown hW (81) 25 (98) rfl rfl cw_12 rfl (by decide) k_X12_70 dX12_gives_59 ?_
      refine lv_iload_n hx hb dX12_gives_62 rfl (lv_at hl 2 rfl) ?_
      refine m_lald hx hb hW (98) rfl (m_ixI (rfl : d.toInt = _) (by omega) (by omega)) dX12_gives_63 ?_
      refine lv_topl (fun x12 ex12 => ?_)
      refine lv_aload_n hx hb dX12_gives_64 rfl (lv_at hl 1 rfl) ?_
      refine m_geti hx hb hts hown hW (81) 10 rfl rfl cw_12 rfl (by decide) k_X12_22 dX12_gives_65 ?_
      refine lv_topi (fun x13 ex13 => ?_)
      refine lv_i2l hx hb dX12_gives_68 rfl ?_
      refine lv_topl (fun x14 ex14 => ?_)
      refine lv_ladd hx hb dX12_gives_69 ?_
      refine lv_topl (fun x15 ex15 => ?_)
      refine m_last hx hb hW (98) rfl (m_ixI (rfl : d.toInt = _) (by omega) (by omega)) dX12_gives_70 (fun H locs hW _ => ?_)
      generalize hμ16 : m_sl μ (98) (d : Int32).toNatClampNeg x15 = μ16 at hW
      have hI := hI.sl hμ16 hS22
      refine lv_aload_n hx hb dX12_gives_71 rfl (lv_at hl 1 rfl) ?_
      refine m_getr hx hb hts hown hW (81) 13 (86) rfl rfl cw_12 rfl (by decide) k_X12_33 dX12_gives_72 ?_
      refine lv_iload_n hx hb dX12_gives_75 rfl (lv_at hl 0 rfl) ?_
      refine m_iald hx hb hW (86) rfl (m_ixI (rfl : x11.toInt = _) (by omega) (by omega)) dX12_gives_76 ?_
      refine lv_topi (fun x17 ex17 => ?_)
      refine lv_aload_n hx hb dX12_gives_77 rfl (lv_at hl 1 rfl) ?_
      refine m_geti hx hb hts hown hW (81) 10 rfl rfl cw_12 rfl (by decide) k_X12_22 dX12_gives_78 ?_
      refine lv_topi (fun x18 ex18 => ?_)
      have ex18 : x18 = x13 := by rw [ex18, ← hμ16]; exact ex13.symm
      have ex18 := ex18.symm
      subst ex18
      refine lv_iadd hx hb dX12_gives_81 ?_
      refine lv_topi (fun x19 ex19 => ?_)
      refine lv_istore_n (lv' := [(3, .int x19), (2, .int x11), (0, .ref (b + 81)), (1, .int d)]) hx hb dX12_gives_82 rfl hl (by decide) rfl (fun ls hl => ?_)
      refine lv_aload_n hx hb dX12_gives_83 rfl (lv_at hl 2 rfl) ?_
      refine m_getr hx hb hts hown hW (81) 13 (86) rfl rfl cw_12 rfl (by decide) k_X12_33 dX12_gives_84 ?_
      refine lv_iload_n hx hb dX12_gives_87 rfl (lv_at hl 1 rfl) ?_
      refine lv_iload_n hx hb dX12_gives_88 rfl (lv_at hl 0 rfl) ?_
      refine lv_ldc hx hb hown (hts _ k_X12_203) dX12_gives_89 ?_
      refine lv_icmp_le (tgt := 99) hx hb dX12_gives_91 (by decide) (fun c20 => ?_) (fun c20 => ?_)
      · have i20 := m_c3 (rfl : x19.toInt = _) (by decide : (99999999 : Int32).toInt = 99999999) c20
        refine lv_iload_n hx hb dX12_gives_99 rfl (lv_at hl 0 rfl) ?_
        refine m_iast hx hb hW (86) rfl (m_ixI (rfl : x11.toInt = _) (by omega) (by omega)) dX12_gives_100 (fun H locs hW _ => ?_)
        generalize hμ21 : m_si μ16 (86) (x11 : Int32).toNatClampNeg x19 = μ21 at hW
        have hI := hI.si0 hμ21 rfl hS22
        refine lv_aload_n hx hb dX12_gives_101 rfl (lv_at hl 2 rfl) ?_
        refine m_getr hx hb hts hown hW (81) 26 (99) rfl rfl cw_12 rfl (by decide) k_X12_74 dX12_gives_102 ?_
        refine lv_iload_n hx hb dX12_gives_105 rfl (lv_at hl 3 rfl) ?_
        refine lv_aload_n hx hb dX12_gives_106 rfl (lv_at hl 2 rfl) ?_
        refine m_getr hx hb hts hown hW (81) 26 (99) rfl rfl cw_12 rfl (by decide) k_X12_74 dX12_gives_107 ?_
        refine lv_iload_n hx hb dX12_gives_110 rfl (lv_at hl 3 rfl) ?_
        refine m_lald hx hb hW (99) rfl (m_ixI (rfl : d.toInt = _) (by omega) (by omega)) dX12_gives_111 ?_
        refine lv_topl (fun x22 ex22 => ?_)
        refine lv_iload_n hx hb dX12_gives_112 rfl (lv_at hl 0 rfl) ?_
        refine lv_i2l hx hb dX12_gives_113 rfl ?_
        refine lv_topl (fun x23 ex23 => ?_)
        refine lv_ladd hx hb dX12_gives_114 ?_
        refine lv_topl (fun x24 ex24 => ?_)
        refine lv_aload_n hx hb dX12_gives_115 rfl (lv_at hl 2 rfl) ?_
        refine m_getr hx hb hts hown hW (81) 13 (86) rfl rfl cw_12 rfl (by decide) k_X12_33 dX12_gives_116 ?_
        refine lv_iload_n hx hb dX12_gives_119 rfl (lv_at hl 1 rfl) ?_
        refine m_iald hx hb hW (86) rfl (m_ixI (rfl : x11.toInt = _) (by omega) (by omega)) dX12_gives_120 ?_
        refine lv_topi (fun x25 ex25 => ?_)
        have ex25 : x25 = x19 := by rw [ex25, ← hμ21]; first | rfl | exact if_pos ⟨rfl, rfl⟩
        have ex25 := ex25.symm
        subst ex25
        refine lv_i2l hx hb dX12_gives_121 rfl ?_
        refine lv_topl (fun x26 ex26 => ?_)
        refine lv_lsub hx hb dX12_gives_122 ?_
        refine lv_topl (fun x27 ex27 => ?_)
        refine m_last hx hb hW (99) rfl (m_ixI (rfl : d.toInt = _) (by omega) (by omega)) dX12_gives_123 (fun H locs hW _ => ?_)
        generalize hμ28 : m_sl μ21 (99) (d : Int32).toNatClampNeg x27 = μ28 at hW
        have hI := hI.sl hμ28 hS22
        exact m_vret hx hb hr hlocks hW (⟨hI, trivial⟩) dX12_gives_124
      · have i20 := m_c4 (rfl : x19.toInt = _) (by decide : (99999999 : Int32).toInt = 99999999) c20
        refine lv_ldc hx hb hown (hts _ k_X12_203) dX12_gives_94 ?_
        refine lv_goto (tgt := 100) hx hb dX12_gives_96 (by decide) ?_
        refine m_iast hx hb hW (86) rfl (m_ixI (rfl : x11.toInt = _) (by omega) (by omega)) dX12_gives_100 (fun H locs hW _ => ?_)
        generalize hμ29 : m_si μ16 (86) (x11 : Int32).toNatClampNeg 99999999 = μ29 at hW
        have hI := hI.si0 hμ29 rfl hS22
        refine lv_aload_n hx hb dX12_gives_101 rfl (lv_at hl 2 rfl) ?_
        refine m_getr hx hb hts hown hW (81) 26 (99) rfl rfl cw_12 rfl (by decide) k_X12_74 dX12_gives_102 ?_
        refine lv_iload_n hx hb dX12_gives_105 rfl (lv_at hl 3 rfl) ?_
        refine lv_aload_n hx hb dX12_gives_106 rfl (lv_at hl 2 rfl) ?_
        refine m_getr hx hb hts hown hW (81) 26 (99) rfl rfl cw_12 rfl (by decide) k_X12_74 dX12_gives_107 ?_
        refine lv_iload_n hx hb dX12_gives_110 rfl (lv_at hl 3 rfl) ?_
        refine m_lald hx hb hW (99) rfl (m_ixI (rfl : d.toInt = _) (by omega) (by omega)) dX12_gives_111 ?_
        refine lv_topl (fun x30 ex30 => ?_)
        refine lv_iload_n hx hb dX12_gives_112 rfl (lv_at hl 0 rfl) ?_
        refine lv_i2l hx hb dX12_gives_113 rfl ?_
        refine lv_topl (fun x31 ex31 => ?_)
        refine lv_ladd hx hb dX12_gives_114 ?_
        refine lv_topl (fun x32 ex32 => ?_)
        refine lv_aload_n hx hb dX12_gives_115 rfl (lv_at hl 2 rfl) ?_
        refine m_getr hx hb hts hown hW (81) 13 (86) rfl rfl cw_12 rfl (by decide) k_X12_33 dX12_gives_116 ?_
        refine lv_iload_n hx hb dX12_gives_119 rfl (lv_at hl 1 rfl) ?_
        refine m_iald hx hb hW (86) rfl (m_ixI (rfl : x11.toInt = _) (by omega) (by omega)) dX12_gives_120 ?_
        refine lv_topi (fun x33 ex33 => ?_)
        have ex33 : x33 = 99999999 := by rw [ex33, ← hμ29]; first | rfl | exact if_pos ⟨rfl, rfl⟩
        have ex33 := ex33.symm
        subst ex33
        refine lv_i2l hx hb dX12_gives_121 rfl ?_
        refine lv_topl (fun x34 ex34 => ?_)
        refine lv_lsub hx hb dX12_gives_122 ?_
        refine lv_topl (fun x35 ex35 => ?_)
        refine m_last hx hb hW (99) rfl (m_ixI (rfl : d.toInt = _) (by omega) (by omega)) dX12_gives_123 (fun H locs hW _ => ?_)
        generalize hμ36 : m_sl μ29 (99) (d : Int32).toNatClampNeg x35 = μ36 at hW
        have hI := hI.sl hμ36 hS22
        exact m_vret hx hb hr hlocks hW (⟨hI, trivial⟩) dX12_gives_124
    · refine lv_if_ne (tgt := 30) hx hb dX12_gives_26 (by decide) (fun c => False.elim (by revert c; decide)) (fun _ => ?_)
      exact m_vret hx hb hr hlocks hW (⟨hI, trivial⟩) dX12_gives_29
set_option maxHeartbeats 4000000 in
set_option maxRecDepth 100000 in
theorem L_X12_leads_115 {p : Program} {l : Launch} {e : Env} {s : State} {m : MethodId} {args : Array Value} {below : List Frame} {meth : Method} {c : Code} {D : va_G} {cy : Nat → ClassId} {b : Nat} (hx : p.tables.exec = Jvm.exec) (hb : c.code = cX12_leads) (hr : meth.sig.returnType = (none)) (hml : c.maxLocals = 6) (hown : s.vm.findClass RX12 = some m.cls) (hts : ∀ w ∈ TB, w.before args s = true) (hlocks : meth.locks = false) (S : Nat → Bool) (μ0 : mM) (hS22 : S 22 = true) (d : Int32) (h_d : 0 ≤ d.toInt ∧ d.toInt ≤ 1) (F105 : Nat) (O105 : ∀ (y2 : Int32) (hy : 0 ≤ y2.toInt ∧ y2.toInt ≤ 12) (hf : 12 - y2.toInt < (F105 : Int)) (μ : mM) (hI : IY S μ0 μ) (H : Heap) (locs : List Loc), m_WA (m_A b LAY) D cy s b LAY μ H locs → ∀ ls : Array Slot, lv_has ls 6 [(0, .ref (b + 81)), (1, .int d), (2, .int y2)] → W p l e (m_R 3 0 0) s m args below meth c H locs 0 0 (MQ below (m_Qv D cy b LAY (fun ν => IY S μ0 ν ∧ (True))) args s 0 0 (m_A b LAY)) (F0 m 105 ls [])) : ∀ (f : Nat), ∀ (y2 y3 : Int32) (hy : 12 - y2.toInt < (F105 : Int) + 1 ∧ 0 ≤ y2.toInt ∧ y2.toInt ≤ 11 ∧ 0 ≤ y3.toInt ∧ y3.toInt ≤ 16 ∧ 0 ≤ y2.toInt ∧ y2.toInt ≤ 12) (hf : 16 - y3.toInt < (f : Int)) (μ : mM) (hI : IY S μ0 μ) (H : Heap) (locs : List Loc), m_WA (m_A b LAY) D cy s b LAY μ H locs → ∀ ls : Array Slot, lv_has ls 6 [(0, .ref (b + 81)), (1, .int d), (2, .int y2), (3, .int y3)] → W p l e (m_R 3 0 0) s m args below meth c H locs 0 0 (MQ below (m_Qv D cy b LAY (fun ν => IY S μ0 ν ∧ (True))) args s 0 0 (m_A b LAY)) (F0 m 115 ls []) := by
  intro f
  induction f with
  | zero => intro y2 y3 hy hf; exfalso; omega
  | succ f ih =>
    intro y2 y3 hy hf μ hI H locs hW ls hl
    refine lv_iload_n hx hb dX12_leads_115 rfl (lv_at hl 3 rfl) ?_
    refine lv_aload_n hx hb dX12_leads_116 rfl (lv_at hl 0 rfl) ?_
    refine m_geti hx hb hts hown hW (81) 6 rfl rfl cw_12 rfl (by decide) k_X12_177 dX12_leads_117 ?_
    refine lv_topi (fun x1 ex1 => ?_)
    have bx1 : 0 ≤ x1.toInt ∧ x1.toInt ≤ 16 := by rw [ex1]; exact hI.1 _ _ _ _ rfl
    refine lv_icmp_ge (tgt := 215) hx hb dX12_leads_120 (by decide) (fun c2 => ?_) (fun c2 => ?_)
    · have i2 := m_c3 (rfl : x1.toInt = _) (rfl : y3.toInt = _) c2
      obtain ⟨x3, ex3⟩ : ∃ z : Int32, z = y2 + 1 := ⟨_, rfl⟩
      refine lv_iinc (v := x3) (lv' := [(2, .int x3), (0, .ref (b + 81)), (1, .int d), (3, .int y3)]) hx hb dX12_leads_215 hl (k := 2) rfl (by rw [ex3]; rfl) (by decide) rfl (fun ls hl => ?_)
      have tx3 : x3.toInt = y2.toInt + 1 := m_addI ex3 (rfl : y2.toInt = _) (by decide : (1 : Int32).toInt = 1) (by omega) (by omega)
      refine lv_goto (tgt := 105) hx hb dX12_leads_218 (by decide) ?_
      exact O105 x3 (by omega) (by omega) μ hI _ _ hW ls (lv_sub hl [1, 2, 0] rfl)
    · have i2 := m_c4 (rfl : x1.toInt = _) (rfl : y3.toInt = _) c2
      refine lv_aload_n hx hb dX12_leads_123 rfl (lv_at hl 0 rfl) ?_
      refine lv_iload_n hx hb dX12_leads_124 rfl (lv_at hl 1 rfl) ?_
      refine lv_iload_n hx hb dX12_leads_125 rfl (lv_at hl 3 rfl) ?_
      refine lv_iload_n hx hb dX12_leads_126 rfl (lv_at hl 2 rfl) ?_
      refine m_aI hW (m_runV (As := [.int d, .int y3, .int y2]) (rest := []) hx hb hml hown hts hW (81) (g_X12_isThere l D cy b d y3 y2 (by omega) μ hI.1) mi_X12_isThere k_X12_200 rfl rfl rfl hl.1 rfl (Nat.le_of_ble_eq_true rfl) dX12_leads_127 ⟨Nat.le_of_ble_eq_true rfl, Nat.le_of_ble_eq_true rfl⟩ ⟨Nat.le_of_ble_eq_true rfl, Nat.le_of_ble_eq_true rfl⟩) (fun x4 μ4 H locs q4 hW => ?_)
      obtain ⟨q4_m, q4⟩ := q4
      subst q4_m
      rcases q4 with ⟨rfl, q4⟩ | ⟨rfl, q4⟩
      · refine lv_if_ne (tgt := 136) hx hb dX12_leads_130 (by decide) (fun _ => ?_) (fun c => False.elim (by revert c; decide))
        refine lv_aload_n hx hb dX12_leads_136 rfl (lv_at hl 0 rfl) ?_
        refine m_getr hx hb hts hown hW (81) 14 (87) rfl rfl cw_12 rfl (by decide) k_X12_36 dX12_leads_137 ?_
        refine lv_bipush (v := 16) hx hb dX12_leads_140 (by decide) ?_
        refine lv_iload_n hx hb dX12_leads_142 rfl (lv_at hl 2 rfl) ?_
        refine lv_imul hx hb dX12_leads_143 ?_
        refine lv_topi (fun x5 ex5 => ?_)
        have tx5 : x5.toInt = 16 * y2.toInt := m_mulI ex5 (by decide : (16 : Int32).toInt = 16) (rfl : y2.toInt = _) (by omega) (by omega)
        refine lv_iload_n hx hb dX12_leads_144 rfl (lv_at hl 3 rfl) ?_
        refine lv_iadd hx hb dX12_leads_145 ?_
        refine lv_topi (fun x6 ex6 => ?_)
        have tx6 : x6.toInt = x5.toInt + y3.toInt := m_addI ex6 (rfl : x5.toInt = _) (rfl : y3.toInt = _) (by omega) (by omega)
        refine m_iald hx hb hW (87) rfl (m_ixI (rfl : x6.toInt = _) (by omega) (by omega)) dX12_leads_146 ?_
        refine lv_topi (fun x7 ex7 => ?_)
        refine lv_aload_n hx hb dX12_leads_147 rfl (lv_at hl 0 rfl) ?_
        refine m_getr hx hb hts hown hW (81) 3 (84) rfl rfl cw_12 rfl (by decide) k_X12_16 dX12_leads_148 ?_
        refine lv_aload_n hx hb dX12_leads_151 rfl (lv_at hl 0 rfl) ?_
        refine m_geti hx hb hts hown hW (81) 8 rfl rfl cw_12 rfl (by decide) k_X12_183 dX12_leads_152 ?_
        refine lv_topi (fun x8 ex8 => ?_)
        have bx8 : 0 ≤ x8.toInt ∧ x8.toInt ≤ 3 := by rw [ex8]; exact hI.1 _ _ _ _ rfl
        refine m_iald hx hb hW (84) rfl (m_ixI (rfl : x8.toInt = _) (by omega) (by omega)) dX12_leads_155 ?_
        refine lv_topi (fun x9 ex9 => ?_)
        refine lv_imul hx hb dX12_leads_156 ?_
        refine lv_topi (fun x10 ex10 => ?_)
        refine lv_bipush (v := 100) hx hb dX12_leads_157 (by decide) ?_
        refine lv_idiv hx hb dX12_leads_159 (by decide) ?_
        refine lv_topi (fun x11 ex11 => ?_)
        refine lv_istore (lv' := [(4, .int x11), (0, .ref (b + 81)), (1, .int d), (2, .int y2), (3, .int y3)]) hx hb dX12_leads_160 hl (by decide) rfl (fun ls hl => ?_)
        refine lv_aload_n hx hb dX12_leads_162 rfl (lv_at hl 1 rfl) ?_
        refine m_getr hx hb hts hown hW (81) 13 (86) rfl rfl cw_12 rfl (by decide) k_X12_33 dX12_leads_163 ?_
        refine lv_sipush (v := 192) hx hb dX12_leads_166 (by decide) ?_
        refine lv_iload_n hx hb dX12_leads_169 rfl (lv_at hl 2 rfl) ?_
        refine lv_imul hx hb dX12_leads_170 ?_
        refine lv_topi (fun x12 ex12 => ?_)
        have tx12 : x12.toInt = 192 * d.toInt := m_mulI ex12 (by decide : (192 : Int32).toInt = 192) (rfl : d.toInt = _) (by omega) (by omega)
        refine lv_bipush (v := 16) hx hb dX12_leads_171 (by decide) ?_
        refine lv_iload_n hx hb dX12_leads_173 rfl (lv_at hl 3 rfl) ?_
        refine lv_imul hx hb dX12_leads_174 ?_
        refine lv_topi (fun x13 ex13 => ?_)
        have ex13 : x13 = x5 := ex13.trans ex5.symm
        have ex13 := ex13.symm
        subst ex13
        refine lv_iadd hx hb dX12_leads_175 ?_
        refine lv_topi (fun x14 ex14 => ?_)
        have tx14 : x14.toInt = x12.toInt + x5.toInt := m_addI ex14 (rfl : x12.toInt = _) (rfl : x5.toInt = _) (by omega) (by omega)
        refine lv_iload_n hx hb dX12_leads_176 rfl (lv_at hl 4 rfl) ?_
        refine lv_iadd hx hb dX12_leads_177 ?_
        refine lv_topi (fun x15 ex15 => ?_)
        have tx15 : x15.toInt = x14.toInt + y3.toInt := m_addI ex15 (rfl : x14.toInt = _) (rfl : y3.toInt = _) (by omega) (by omega)
        refine lv_aload_n hx hb dX12_leads_178 rfl (lv_at hl 1 rfl) ?_
        refine m_getr hx hb hts hown hW (81) 14 (87) rfl rfl cw_12 rfl (by decide) k_X12_36 dX12_leads_179 ?_
        refine lv_bipush (v := 16) hx hb dX12_leads_182 (by decide) ?_
        refine lv_iload_n hx hb dX12_leads_184 rfl (lv_at hl 3 rfl) ?_
        refine lv_imul hx hb dX12_leads_185 ?_
        refine lv_topi (fun x16 ex16 => ?_)
        have ex16 : x16 = x5 := ex16.trans ex5.symm
        have ex16 := ex16.symm
        subst ex16
        refine lv_iload_n hx hb dX12_leads_186 rfl (lv_at hl 4 rfl) ?_
        refine lv_iadd hx hb dX12_leads_187 ?_
        refine lv_topi (fun x17 ex17 => ?_)
        have ex17 : x17 = x6 := ex17.trans ex6.symm
        have ex17 := ex17.symm
        subst ex17
        refine m_iald hx hb hW (87) rfl (m_ixI (rfl : x6.toInt = _) (by omega) (by omega)) dX12_leads_188 ?_
        refine lv_topi (fun x18 ex18 => ?_)
        have ex18 : x18 = x7 := by rw [ex18]; exact ex7.symm
        have ex18 := ex18.symm
        subst ex18
        refine lv_iload hx hb dX12_leads_189 (lv_at hl 0 rfl) ?_
        refine lv_isub hx hb dX12_leads_191 ?_
        refine lv_topi (fun x19 ex19 => ?_)
        refine m_iast hx hb hW (86) rfl (m_ixI (rfl : x15.toInt = _) (by omega) (by omega)) dX12_leads_192 (fun H locs hW _ => ?_)
        generalize hμ20 : m_si μ (86) (x15 : Int32).toNatClampNeg x19 = μ20 at hW
        have hI := hI.si0 hμ20 rfl hS22
        refine lv_aload_n hx hb dX12_leads_193 rfl (lv_at hl 1 rfl) ?_
        refine m_getr hx hb hts hown hW (81) 26 (99) rfl rfl cw_12 rfl (by decide) k_X12_74 dX12_leads_194 ?_
        refine lv_iload_n hx hb dX12_leads_197 rfl (lv_at hl 2 rfl) ?_
        refine lv_aload_n hx hb dX12_leads_198 rfl (lv_at hl 1 rfl) ?_
        refine m_getr hx hb hts hown hW (81) 26 (99) rfl rfl cw_12 rfl (by decide) k_X12_74 dX12_leads_199 ?_
        refine lv_iload_n hx hb dX12_leads_202 rfl (lv_at hl 2 rfl) ?_
        refine m_lald hx hb hW (99) rfl (m_ixI (rfl : d.toInt = _) (by omega) (by omega)) dX12_leads_203 ?_
        refine lv_topl (fun x21 ex21 => ?_)
        refine lv_iload hx hb dX12_leads_204 (lv_at hl 0 rfl) ?_
        refine lv_i2l hx hb dX12_leads_206 rfl ?_
        refine lv_topl (fun x22 ex22 => ?_)
        refine lv_ladd hx hb dX12_leads_207 ?_
        refine lv_topl (fun x23 ex23 => ?_)
        refine m_last hx hb hW (99) rfl (m_ixI (rfl : d.toInt = _) (by omega) (by omega)) dX12_leads_208 (fun H locs hW _ => ?_)
        generalize hμ24 : m_sl μ20 (99) (d : Int32).toNatClampNeg x23 = μ24 at hW
        have hI := hI.sl hμ24 hS22
        obtain ⟨x25, ex25⟩ : ∃ z : Int32, z = y3 + 1 := ⟨_, rfl⟩
        refine lv_iinc (v := x25) (lv' := [(3, .int x25), (4, .int x11), (0, .ref (b + 81)), (1, .int d), (2, .int y2)]) hx hb dX12_leads_209 hl (k := 4) rfl (by rw [ex25]; rfl) (by decide) rfl (fun ls hl => ?_)
        have tx25 : x25.toInt = y3.toInt + 1 := m_addI ex25 (rfl : y3.toInt = _) (by decide : (1 : Int32).toInt = 1) (by omega) (by omega)
        refine lv_goto (tgt := 115) hx hb dX12_leads_212 (by decide) ?_
        exact ih y2 x25 (by omega) (by omega) μ24 hI _ _ hW ls (lv_sub hl [2, 3, 4, 0] rfl)
      · refine lv_if_ne (tgt := 136) hx hb dX12_leads_130 (by decide) (fun c => False.elim (by revert c; decide)) (fun _ => ?_)
        refine lv_goto (tgt := 209) hx hb dX12_leads_133 (by decide) ?_
        obtain ⟨x26, ex26⟩ : ∃ z : Int32, z = y3 + 1 := ⟨_, rfl⟩
        refine lv_iinc (v := x26) (lv' := [(3, .int x26), (0, .ref (b + 81)), (1, .int d), (2, .int y2)]) hx hb dX12_leads_209 hl (k := 3) rfl (by rw [ex26]; rfl) (by decide) rfl (fun ls hl => ?_)
        have tx26 : x26.toInt = y3.toInt + 1 := m_addI ex26 (rfl : y3.toInt = _) (by decide : (1 : Int32).toInt = 1) (by omega) (by omega)
        refine lv_goto (tgt := 115) hx hb dX12_leads_212 (by decide) ?_
        exact ih y2 x26 (by omega) (by omega) μ hI _ _ hW ls (lv_sub hl [1, 2, 3, 0] rfl)
set_option maxHeartbeats 4000000 in
set_option maxRecDepth 100000 in
theorem L_X12_leads_105 {p : Program} {l : Launch} {e : Env} {s : State} {m : MethodId} {args : Array Value} {below : List Frame} {meth : Method} {c : Code} {D : va_G} {cy : Nat → ClassId} {b : Nat} (hx : p.tables.exec = Jvm.exec) (hb : c.code = cX12_leads) (hr : meth.sig.returnType = (none)) (hml : c.maxLocals = 6) (hown : s.vm.findClass RX12 = some m.cls) (hts : ∀ w ∈ TB, w.before args s = true) (hlocks : meth.locks = false) (S : Nat → Bool) (μ0 : mM) (hS22 : S 22 = true) (d : Int32) (h_d : 0 ≤ d.toInt ∧ d.toInt ≤ 1) : ∀ (f : Nat), ∀ (y2 : Int32) (hy : 0 ≤ y2.toInt ∧ y2.toInt ≤ 12) (hf : 12 - y2.toInt < (f : Int)) (μ : mM) (hI : IY S μ0 μ) (H : Heap) (locs : List Loc), m_WA (m_A b LAY) D cy s b LAY μ H locs → ∀ ls : Array Slot, lv_has ls 6 [(0, .ref (b + 81)), (1, .int d), (2, .int y2)] → W p l e (m_R 3 0 0) s m args below meth c H locs 0 0 (MQ below (m_Qv D cy b LAY (fun ν => IY S μ0 ν ∧ (True))) args s 0 0 (m_A b LAY)) (F0 m 105 ls []) := by
  intro f
  induction f with
  | zero => intro y2 hy hf; exfalso; omega
  | succ f ih =>
    intro y2 hy hf μ hI H locs hW ls hl
    refine lv_iload_n hx hb dX12_leads_105 rfl (lv_at hl 2 rfl) ?_
    refine lv_aload_n hx hb dX12_leads_106 rfl (lv_at hl 0 rfl) ?_
    refine m_geti hx hb hts hown hW (81) 7 rfl rfl cw_12 rfl (by decide) k_X12_180 dX12_leads_107 ?_
    refine lv_topi (fun x1 ex1 => ?_)
    have bx1 : 0 ≤ x1.toInt ∧ x1.toInt ≤ 12 := by rw [ex1]; exact hI.1 _ _ _ _ rfl
    refine lv_icmp_ge (tgt := 221) hx hb dX12_leads_110 (by decide) (fun c2 => ?_) (fun c2 => ?_)
    · have i2 := m_c3 (rfl : x1.toInt = _) (rfl : y2.toInt = _) c2
      exact m_vret hx hb hr hlocks hW (⟨hI, trivial⟩) dX12_leads_221
    · have i2 := m_c4 (rfl : x1.toInt = _) (rfl : y2.toInt = _) c2
      refine lv_iconst (v := 0) hx hb dX12_leads_113 (by decide) ?_
      refine lv_istore_n (lv' := [(3, .int 0), (0, .ref (b + 81)), (1, .int d), (2, .int y2)]) hx hb dX12_leads_114 rfl hl (by decide) rfl (fun ls hl => ?_)
      have l_0 : (0 : Int32).toInt = 0 := by decide
      exact L_X12_leads_115 hx hb hr hml hown hts hlocks S μ0 hS22 d h_d f ih 17 y2 0 (by omega) (by omega) μ hI _ _ hW ls (lv_sub hl [1, 2, 3, 0] rfl)
set_option maxHeartbeats 4000000 in
set_option maxRecDepth 100000 in
theorem L_X12_leads_42 {p : Program} {l : Launch} {e : Env} {s : State} {m : MethodId} {args : Array Value} {below : List Frame} {meth : Method} {c : Code} {D : va_G} {cy : Nat → ClassId} {b : Nat} (hx : p.tables.exec = Jvm.exec) (hb : c.code = cX12_leads) (hr : meth.sig.returnType = (none)) (hml : c.maxLocals = 6) (hown : s.vm.findClass RX12 = some m.cls) (hts : ∀ w ∈ TB, w.before args s = true) (hlocks : meth.locks = false) (S : Nat → Bool) (μ0 : mM) (hS22 : S 22 = true) (d : Int32) (h_d : 0 ≤ d.toInt ∧ d.toInt ≤ 1) (F2 : Nat) (O2 : ∀ (y2 : Int32) (hy : 0 ≤ y2.toInt ∧ y2.toInt ≤ 12) (hf : 12 - y2.toInt < (F2 : Int)) (μ : mM) (hI : IY S μ0 μ) (H : Heap) (locs : List Loc), m_WA (m_A b LAY) D cy s b LAY μ H locs → ∀ ls : Array Slot, lv_has ls 6 [(0, .ref (b + 81)), (1, .int d), (2, .int y2)] → W p l e (m_R 3 0 0) s m args below meth c H locs 0 0 (MQ below (m_Qv D cy b LAY (fun ν => IY S μ0 ν ∧ (True))) args s 0 0 (m_A b LAY)) (F0 m 2 ls [])) (F12 : Nat) (O12 : ∀ (y2 y3 : Int32) (hy : 12 - y2.toInt < (F2 : Int) + 1 ∧ 0 ≤ y2.toInt ∧ y2.toInt ≤ 11 ∧ 0 ≤ y3.toInt ∧ y3.toInt ≤ 16 ∧ 0 ≤ y2.toInt ∧ y2.toInt ≤ 12) (hf : 16 - y3.toInt < (F12 : Int)) (μ : mM) (hI : IY S μ0 μ) (H : Heap) (locs : List Loc), m_WA (m_A b LAY) D cy s b LAY μ H locs → ∀ ls : Array Slot, lv_has ls 6 [(0, .ref (b + 81)), (1, .int d), (2, .int y2), (3, .int y3)] → W p l e (m_R 3 0 0) s m args below meth c H locs 0 0 (MQ below (m_Qv D cy b LAY (fun ν => IY S μ0 ν ∧ (True))) args s 0 0 (m_A b LAY)) (F0 m 12 ls [])) : ∀ (f : Nat), ∀ (y2 y3 y4 y5 : Int32) (hy : 12 - y2.toInt < (F2 : Int) + 1 ∧ 16 - y3.toInt < (F12 : Int) + 1 ∧ 0 ≤ y2.toInt ∧ y2.toInt ≤ 11 ∧ 0 ≤ y3.toInt ∧ y3.toInt ≤ 15 ∧ 0 ≤ y5.toInt ∧ y5.toInt ≤ 4 ∧ 0 ≤ y2.toInt ∧ y2.toInt ≤ 12 ∧ 0 ≤ y2.toInt ∧ y2.toInt ≤ 11 ∧ 0 ≤ y3.toInt ∧ y3.toInt ≤ 16) (hf : 4 - y5.toInt < (f : Int)) (μ : mM) (hI : IY S μ0 μ) (H : Heap) (locs : List Loc), m_WA (m_A b LAY) D cy s b LAY μ H locs → ∀ ls : Array Slot, lv_has ls 6 [(0, .ref (b + 81)), (1, .int d), (2, .int y2), (3, .int y3), (4, .int y4), (5, .int y5)] → W p l e (m_R 3 0 0) s m args below meth c H locs 0 0 (MQ below (m_Qv D cy b LAY (fun ν => IY S μ0 ν ∧ (True))) args s 0 0 (m_A b LAY)) (F0 m 42 ls []) := by
  intro f
  induction f with
  | zero => intro y2 y3 y4 y5 hy hf; exfalso; omega
  | succ f ih =>
    intro y2 y3 y4 y5 hy hf μ hI H locs hW ls hl
    refine lv_iload hx hb dX12_leads_42 (lv_at hl 5 rfl) ?_
    refine lv_iconst (v := 4) hx hb dX12_leads_44 (by decide) ?_
    refine lv_icmp_ge (tgt := 78) hx hb dX12_leads_45 (by decide) (fun c1 => ?_) (fun c1 => ?_)
    · have i1 := m_c3 (by decide : (4 : Int32).toInt = 4) (rfl : y5.toInt = _) c1
      refine lv_aload_n hx hb dX12_leads_78 rfl (lv_at hl 0 rfl) ?_
      refine m_getr hx hb hts hown hW (81) 14 (87) rfl rfl cw_12 rfl (by decide) k_X12_36 dX12_leads_79 ?_
      refine lv_bipush (v := 16) hx hb dX12_leads_82 (by decide) ?_
      refine lv_iload_n hx hb dX12_leads_84 rfl (lv_at hl 2 rfl) ?_
      refine lv_imul hx hb dX12_leads_85 ?_
      refine lv_topi (fun x2 ex2 => ?_)
      have tx2 : x2.toInt = 16 * y2.toInt := m_mulI ex2 (by decide : (16 : Int32).toInt = 16) (rfl : y2.toInt = _) (by omega) (by omega)
      refine lv_iload_n hx hb dX12_leads_86 rfl (lv_at hl 3 rfl) ?_
      refine lv_iadd hx hb dX12_leads_87 ?_
      refine lv_topi (fun x3 ex3 => ?_)
      have tx3 : x3.toInt = x2.toInt + y3.toInt := m_addI ex3 (rfl : x2.toInt = _) (rfl : y3.toInt = _) (by omega) (by omega)
      refine lv_iload hx hb dX12_leads_88 (lv_at hl 4 rfl) ?_
      refine m_iast hx hb hW (87) rfl (m_ixI (rfl : x3.toInt = _) (by omega) (by omega)) dX12_leads_90 (fun H locs hW _ => ?_)
      generalize hμ4 : m_si μ (87) (x3 : Int32).toNatClampNeg y4 = μ4 at hW
      have hI := hI.si0 hμ4 rfl hS22
      obtain ⟨x5, ex5⟩ : ∃ z : Int32, z = y3 + 1 := ⟨_, rfl⟩
      refine lv_iinc (v := x5) (lv' := [(3, .int x5), (0, .ref (b + 81)), (1, .int d), (2, .int y2), (4, .int y4), (5, .int y5)]) hx hb dX12_leads_91 hl (k := 3) rfl (by rw [ex5]; rfl) (by decide) rfl (fun ls hl => ?_)
      have tx5 : x5.toInt = y3.toInt + 1 := m_addI ex5 (rfl : y3.toInt = _) (by decide : (1 : Int32).toInt = 1) (by omega) (by omega)
      refine lv_goto (tgt := 12) hx hb dX12_leads_94 (by decide) ?_
      exact O12 y2 x5 (by omega) (by omega) μ4 hI _ _ hW ls (lv_sub hl [1, 2, 3, 0] rfl)
    · have i1 := m_c4 (by decide : (4 : Int32).toInt = 4) (rfl : y5.toInt = _) c1
      refine lv_aload_n hx hb dX12_leads_48 rfl (lv_at hl 0 rfl) ?_
      refine lv_iload_n hx hb dX12_leads_49 rfl (lv_at hl 1 rfl) ?_
      refine lv_iload_n hx hb dX12_leads_50 rfl (lv_at hl 3 rfl) ?_
      refine lv_iload_n hx hb dX12_leads_51 rfl (lv_at hl 2 rfl) ?_
      refine m_aI hW (m_runV (As := [.int d, .int y3, .int y2]) (rest := []) hx hb hml hown hts hW (81) (g_X12_isThere l D cy b d y3 y2 (by omega) μ hI.1) mi_X12_isThere k_X12_200 rfl rfl rfl hl.1 rfl (Nat.le_of_ble_eq_true rfl) dX12_leads_52 ⟨Nat.le_of_ble_eq_true rfl, Nat.le_of_ble_eq_true rfl⟩ ⟨Nat.le_of_ble_eq_true rfl, Nat.le_of_ble_eq_true rfl⟩) (fun x6 μ6 H locs q6 hW => ?_)
      obtain ⟨q6_m, q6⟩ := q6
      subst q6_m
      rcases q6 with ⟨rfl, q6⟩ | ⟨rfl, q6⟩
      · refine lv_if_eq (tgt := 78) hx hb dX12_leads_55 (by decide) (fun c => False.elim (by revert c; decide)) (fun _ => ?_)
        refine lv_iload hx hb dX12_leads_58 (lv_at hl 4 rfl) ?_
        refine lv_aload_n hx hb dX12_leads_60 rfl (lv_at hl 0 rfl) ?_
        refine lv_iload_n hx hb dX12_leads_61 rfl (lv_at hl 1 rfl) ?_
        refine lv_iload_n hx hb dX12_leads_62 rfl (lv_at hl 3 rfl) ?_
        refine lv_iload_n hx hb dX12_leads_63 rfl (lv_at hl 2 rfl) ?_
        refine lv_iload hx hb dX12_leads_64 (lv_at hl 5 rfl) ?_
        refine m_aI hW (m_runV (As := [.int d, .int y3, .int y2, .int y5]) (rest := [.int y4]) hx hb hml hown hts hW (81) (g_X12_flowFrom l D cy b d y3 y2 y5 (by omega) (by omega) (by omega) μ hI.1) mi_X12_flowFrom k_X12_204 rfl rfl rfl hl.1 rfl (Nat.le_of_ble_eq_true rfl) dX12_leads_66 ⟨Nat.le_of_ble_eq_true rfl, Nat.le_of_ble_eq_true rfl⟩ ⟨Nat.le_of_ble_eq_true rfl, Nat.le_of_ble_eq_true rfl⟩) (fun x7 μ7 H locs q7 hW => ?_)
        obtain ⟨q7_m, q7⟩ := q7
        subst q7_m
        refine lv_iadd hx hb dX12_leads_69 ?_
        refine lv_topi (fun x8 ex8 => ?_)
        refine lv_istore (lv' := [(4, .int x8), (0, .ref (b + 81)), (1, .int d), (2, .int y2), (3, .int y3), (5, .int y5)]) hx hb dX12_leads_70 hl (by decide) rfl (fun ls hl => ?_)
        obtain ⟨x9, ex9⟩ : ∃ z : Int32, z = y5 + 1 := ⟨_, rfl⟩
        refine lv_iinc (v := x9) (lv' := [(5, .int x9), (4, .int x8), (0, .ref (b + 81)), (1, .int d), (2, .int y2), (3, .int y3)]) hx hb dX12_leads_72 hl (k := 5) rfl (by rw [ex9]; rfl) (by decide) rfl (fun ls hl => ?_)
        have tx9 : x9.toInt = y5.toInt + 1 := m_addI ex9 (rfl : y5.toInt = _) (by decide : (1 : Int32).toInt = 1) (by omega) (by omega)
        refine lv_goto (tgt := 42) hx hb dX12_leads_75 (by decide) ?_
        exact ih y2 y3 x8 x9 (by omega) (by omega) μ hI _ _ hW ls (lv_sub hl [2, 3, 4, 5, 1, 0] rfl)
      · refine lv_if_eq (tgt := 78) hx hb dX12_leads_55 (by decide) (fun _ => ?_) (fun c => False.elim (by revert c; decide))
        refine lv_aload_n hx hb dX12_leads_78 rfl (lv_at hl 0 rfl) ?_
        refine m_getr hx hb hts hown hW (81) 14 (87) rfl rfl cw_12 rfl (by decide) k_X12_36 dX12_leads_79 ?_
        refine lv_bipush (v := 16) hx hb dX12_leads_82 (by decide) ?_
        refine lv_iload_n hx hb dX12_leads_84 rfl (lv_at hl 2 rfl) ?_
        refine lv_imul hx hb dX12_leads_85 ?_
        refine lv_topi (fun x10 ex10 => ?_)
        have tx10 : x10.toInt = 16 * y2.toInt := m_mulI ex10 (by decide : (16 : Int32).toInt = 16) (rfl : y2.toInt = _) (by omega) (by omega)
        refine lv_iload_n hx hb dX12_leads_86 rfl (lv_at hl 3 rfl) ?_
        refine lv_iadd hx hb dX12_leads_87 ?_
        refine lv_topi (fun x11 ex11 => ?_)
        have tx11 : x11.toInt = x10.toInt + y3.toInt := m_addI ex11 (rfl : x10.toInt = _) (rfl : y3.toInt = _) (by omega) (by omega)
        refine lv_iload hx hb dX12_leads_88 (lv_at hl 4 rfl) ?_
        refine m_iast hx hb hW (87) rfl (m_ixI (rfl : x11.toInt = _) (by omega) (by omega)) dX12_leads_90 (fun H locs hW _ => ?_)
        generalize hμ12 : m_si μ (87) (x11 : Int32).toNatClampNeg y4 = μ12 at hW
        have hI := hI.si0 hμ12 rfl hS22
        obtain ⟨x13, ex13⟩ : ∃ z : Int32, z = y3 + 1 := ⟨_, rfl⟩
        refine lv_iinc (v := x13) (lv' := [(3, .int x13), (0, .ref (b + 81)), (1, .int d), (2, .int y2), (4, .int y4), (5, .int y5)]) hx hb dX12_leads_91 hl (k := 3) rfl (by rw [ex13]; rfl) (by decide) rfl (fun ls hl => ?_)
        have tx13 : x13.toInt = y3.toInt + 1 := m_addI ex13 (rfl : y3.toInt = _) (by decide : (1 : Int32).toInt = 1) (by omega) (by omega)
        refine lv_goto (tgt := 12) hx hb dX12_leads_94 (by decide) ?_
        exact O12 y2 x13 (by omega) (by omega) μ12 hI _ _ hW ls (lv_sub hl [1, 2, 3, 0] rfl)
set_option maxHeartbeats 4000000 in
set_option maxRecDepth 100000 in
theorem L_X12_leads_12 {p : Program} {l : Launch} {e : Env} {s : State} {m : MethodId} {args : Array Value} {below : List Frame} {meth : Method} {c : Code} {D : va_G} {cy : Nat → ClassId} {b : Nat} (hx : p.tables.exec = Jvm.exec) (hb : c.code = cX12_leads) (hr : meth.sig.returnType = (none)) (hml : c.maxLocals = 6) (hown : s.vm.findClass RX12 = some m.cls) (hts : ∀ w ∈ TB, w.before args s = true) (hlocks : meth.locks = false) (S : Nat → Bool) (μ0 : mM) (hS22 : S 22 = true) (d : Int32) (h_d : 0 ≤ d.toInt ∧ d.toInt ≤ 1) (F2 : Nat) (O2 : ∀ (y2 : Int32) (hy : 0 ≤ y2.toInt ∧ y2.toInt ≤ 12) (hf : 12 - y2.toInt < (F2 : Int)) (μ : mM) (hI : IY S μ0 μ) (H : Heap) (locs : List Loc), m_WA (m_A b LAY) D cy s b LAY μ H locs → ∀ ls : Array Slot, lv_has ls 6 [(0, .ref (b + 81)), (1, .int d), (2, .int y2)] → W p l e (m_R 3 0 0) s m args below meth c H locs 0 0 (MQ below (m_Qv D cy b LAY (fun ν => IY S μ0 ν ∧ (True))) args s 0 0 (m_A b LAY)) (F0 m 2 ls [])) : ∀ (f : Nat), ∀ (y2 y3 : Int32) (hy : 12 - y2.toInt < (F2 : Int) + 1 ∧ 0 ≤ y2.toInt ∧ y2.toInt ≤ 11 ∧ 0 ≤ y3.toInt ∧ y3.toInt ≤ 16 ∧ 0 ≤ y2.toInt ∧ y2.toInt ≤ 12) (hf : 16 - y3.toInt < (f : Int)) (μ : mM) (hI : IY S μ0 μ) (H : Heap) (locs : List Loc), m_WA (m_A b LAY) D cy s b LAY μ H locs → ∀ ls : Array Slot, lv_has ls 6 [(0, .ref (b + 81)), (1, .int d), (2, .int y2), (3, .int y3)] → W p l e (m_R 3 0 0) s m args below meth c H locs 0 0 (MQ below (m_Qv D cy b LAY (fun ν => IY S μ0 ν ∧ (True))) args s 0 0 (m_A b LAY)) (F0 m 12 ls []) := by
  intro f
  induction f with
  | zero => intro y2 y3 hy hf; exfalso; omega
  | succ f ih =>
    intro y2 y3 hy hf μ hI H locs hW ls hl
    refine lv_iload_n hx hb dX12_leads_12 rfl (lv_at hl 3 rfl) ?_
    refine lv_aload_n hx hb dX12_leads_13 rfl (lv_at hl 0 rfl) ?_
    refine m_geti hx hb hts hown hW (81) 6 rfl rfl cw_12 rfl (by decide) k_X12_177 dX12_leads_14 ?_
    refine lv_topi (fun x1 ex1 => ?_)
    have bx1 : 0 ≤ x1.toInt ∧ x1.toInt ≤ 16 := by rw [ex1]; exact hI.1 _ _ _ _ rfl
    refine lv_icmp_ge (tgt := 97) hx hb dX12_leads_17 (by decide) (fun c2 => ?_) (fun c2 => ?_)
    · have i2 := m_c3 (rfl : x1.toInt = _) (rfl : y3.toInt = _) c2
      obtain ⟨x3, ex3⟩ : ∃ z : Int32, z = y2 + 1 := ⟨_, rfl⟩
      refine lv_iinc (v := x3) (lv' := [(2, .int x3), (0, .ref (b + 81)), (1, .int d), (3, .int y3)]) hx hb dX12_leads_97 hl (k := 2) rfl (by rw [ex3]; rfl) (by decide) rfl (fun ls hl => ?_)
      have tx3 : x3.toInt = y2.toInt + 1 := m_addI ex3 (rfl : y2.toInt = _) (by decide : (1 : Int32).toInt = 1) (by omega) (by omega)
      refine lv_goto (tgt := 2) hx hb dX12_leads_100 (by decide) ?_
      exact O2 x3 (by omega) (by omega) μ hI _ _ hW ls (lv_sub hl [1, 2, 0] rfl)
    · have i2 := m_c4 (rfl : x1.toInt = _) (rfl : y3.toInt = _) c2
      refine lv_aload_n hx hb dX12_leads_20 rfl (lv_at hl 0 rfl) ?_
      refine m_getr hx hb hts hown hW (81) 13 (86) rfl rfl cw_12 rfl (by decide) k_X12_33 dX12_leads_21 ?_
      refine lv_sipush (v := 192) hx hb dX12_leads_24 (by decide) ?_
      refine lv_iload_n hx hb dX12_leads_27 rfl (lv_at hl 1 rfl) ?_
      refine lv_imul hx hb dX12_leads_28 ?_
      refine lv_topi (fun x4 ex4 => ?_)
      have tx4 : x4.toInt = 192 * d.toInt := m_mulI ex4 (by decide : (192 : Int32).toInt = 192) (rfl : d.toInt = _) (by omega) (by omega)
      refine lv_bipush (v := 16) hx hb dX12_leads_29 (by decide) ?_
      refine lv_iload_n hx hb dX12_leads_31 rfl (lv_at hl 2 rfl) ?_
      refine lv_imul hx hb dX12_leads_32 ?_
      refine lv_topi (fun x5 ex5 => ?_)
      have tx5 : x5.toInt = 16 * y2.toInt := m_mulI ex5 (by decide : (16 : Int32).toInt = 16) (rfl : y2.toInt = _) (by omega) (by omega)
      refine lv_iadd hx hb dX12_leads_33 ?_
      refine lv_topi (fun x6 ex6 => ?_)
      have tx6 : x6.toInt = x4.toInt + x5.toInt := m_addI ex6 (rfl : x4.toInt = _) (rfl : x5.toInt = _) (by omega) (by omega)
      refine lv_iload_n hx hb dX12_leads_34 rfl (lv_at hl 3 rfl) ?_
      refine lv_iadd hx hb dX12_leads_35 ?_
      refine lv_topi (fun x7 ex7 => ?_)
      have tx7 : x7.toInt = x6.toInt + y3.toInt := m_addI ex7 (rfl : x6.toInt = _) (rfl : y3.toInt = _) (by omega) (by omega)
      refine m_iald hx hb hW (86) rfl (m_ixI (rfl : x7.toInt = _) (by omega) (by omega)) dX12_leads_36 ?_
      refine lv_topi (fun x8 ex8 => ?_)
      refine lv_istore (lv' := [(4, .int x8), (0, .ref (b + 81)), (1, .int d), (2, .int y2), (3, .int y3)]) hx hb dX12_leads_37 hl (by decide) rfl (fun ls hl => ?_)
      refine lv_iconst (v := 0) hx hb dX12_leads_39 (by decide) ?_
      refine lv_istore (lv' := [(5, .int 0), (4, .int x8), (0, .ref (b + 81)), (1, .int d), (2, .int y2), (3, .int y3)]) hx hb dX12_leads_40 hl (by decide) rfl (fun ls hl => ?_)
      have l_0 : (0 : Int32).toInt = 0 := by decide
      exact L_X12_leads_42 hx hb hr hml hown hts hlocks S μ0 hS22 d h_d F2 O2 f ih 5 y2 y3 x8 0 (by omega) (by omega) μ hI _ _ hW ls (lv_sub hl [2, 3, 4, 5, 1, 0] rfl)
set_option maxHeartbeats 4000000 in
set_option maxRecDepth 100000 in
theorem L_X12_leads_2 {p : Program} {l : Launch} {e : Env} {s : State} {m : MethodId} {args : Array Value} {below : List Frame} {meth : Method} {c : Code} {D : va_G} {cy : Nat → ClassId} {b : Nat} (hx : p.tables.exec = Jvm.exec) (hb : c.code = cX12_leads) (hr : meth.sig.returnType = (none)) (hml : c.maxLocals = 6) (hown : s.vm.findClass RX12 = some m.cls) (hts : ∀ w ∈ TB, w.before args s = true) (hlocks : meth.locks = false) (S : Nat → Bool) (μ0 : mM) (hS22 : S 22 = true) (d : Int32) (h_d : 0 ≤ d.toInt ∧ d.toInt ≤ 1) : ∀ (f : Nat), ∀ (y2 : Int32) (hy : 0 ≤ y2.toInt ∧ y2.toInt ≤ 12) (hf : 12 - y2.toInt < (f : Int)) (μ : mM) (hI : IY S μ0 μ) (H : Heap) (locs : List Loc), m_WA (m_A b LAY) D cy s b LAY μ H locs → ∀ ls : Array Slot, lv_has ls 6 [(0, .ref (b + 81)), (1, .int d), (2, .int y2)] → W p l e (m_R 3 0 0) s m args below meth c H locs 0 0 (MQ below (m_Qv D cy b LAY (fun ν => IY S μ0 ν ∧ (True))) args s 0 0 (m_A b LAY)) (F0 m 2 ls []) := by
  intro f
  induction f with
  | zero => intro y2 hy hf; exfalso; omega
  | succ f ih =>
    intro y2 hy hf μ hI H locs hW ls hl
    refine lv_iload_n hx hb dX12_leads_2 rfl (lv_at hl 2 rfl) ?_
    refine lv_aload_n hx hb dX12_leads_3 rfl (lv_at hl 0 rfl) ?_
    refine m_geti hx hb hts hown hW (81) 7 rfl rfl cw_12 rfl (by decide) k_X12_180 dX12_leads_4 ?_
    refine lv_topi (fun x1 ex1 => ?_)
    have bx1 : 0 ≤ x1.toInt ∧ x1.toInt ≤ 12 := by rw [ex1]; exact hI.1 _ _ _ _ rfl
    refine lv_icmp_ge (tgt := 103) hx hb dX12_leads_7 (by decide) (fun c2 => ?_) (fun c2 => ?_)
    · have i2 := m_c3 (rfl : x1.toInt = _) (rfl : y2.toInt = _) c2
      refine lv_iconst (v := 0) hx hb dX12_leads_103 (by decide) ?_
      refine lv_istore_n (lv' := [(2, .int 0), (0, .ref (b + 81)), (1, .int d)]) hx hb dX12_leads_104 rfl hl (by decide) rfl (fun ls hl => ?_)
      have l_0 : (0 : Int32).toInt = 0 := by decide
      exact L_X12_leads_105 hx hb hr hml hown hts hlocks S μ0 hS22 d h_d  13 0 (by omega) (by omega) μ hI _ _ hW ls (lv_sub hl [1, 2, 0] rfl)
    · have i2 := m_c4 (rfl : x1.toInt = _) (rfl : y2.toInt = _) c2
      refine lv_iconst (v := 0) hx hb dX12_leads_10 (by decide) ?_
      refine lv_istore_n (lv' := [(3, .int 0), (0, .ref (b + 81)), (1, .int d), (2, .int y2)]) hx hb dX12_leads_11 rfl hl (by decide) rfl (fun ls hl => ?_)
      have l_0 : (0 : Int32).toInt = 0 := by decide
      exact L_X12_leads_12 hx hb hr hml hown hts hlocks S μ0 hS22 d h_d f ih 17 y2 0 (by omega) (by omega) μ hI _ _ hW ls (lv_sub hl [1, 2, 3, 0] rfl)
set_option maxHeartbeats 4000000 in
set_option maxRecDepth 100000 in
theorem g_X12_leads (l : Launch) (D : va_G) (cy : Nat → ClassId) (b : Nat) (S : Nat → Bool) (μ0 : mM) (hS22 : S 22 = true) (d : Int32) (h_d : 0 ≤ d.toInt ∧ d.toInt ≤ 1) (μ : mM) (hI : IY S μ0 μ) : m_Cv l yX12_leads cX12_leads 6 (none) 3 D cy b LAY μ [.ref (b + 81), .int d] (fun ν => IY S μ0 ν ∧ (True)) := by
  unfold m_Cv
  refine m_of (by decide) (Nat.le_of_ble_eq_true rfl) ?_
  intro p e s m below meth c hx hb hr hml hown hts hlocks _ hW ls hl
  have hown : s.vm.findClass RX12 = some m.cls := hown
  have hl : lv_has ls 6 [(0, .ref (b + 81)), (1, .int d)] := hl
  refine lv_iconst (v := 0) hx hb dX12_leads_0 (by decide) ?_
  refine lv_istore_n (lv' := [(2, .int 0), (0, .ref (b + 81)), (1, .int d)]) hx hb dX12_leads_1 rfl hl (by decide) rfl (fun ls hl => ?_)
  have l_0 : (0 : Int32).toInt = 0 := by decide
  exact L_X12_leads_2 hx hb hr hml hown hts hlocks S μ0 hS22 d h_d  13 0 (by omega) (by omega) μ hI _ _ hW ls (lv_sub hl [1, 2, 0] rfl)
set_option maxHeartbeats 4000000 in
set_option maxRecDepth 100000 in
theorem g_X12_goesAway (l : Launch) (D : va_G) (cy : Nat → ClassId) (b : Nat) (S : Nat → Bool) (μ0 : mM) (hS22 : S 22 = true) (k d u : Int32) (h_k : 0 ≤ k.toInt ∧ k.toInt ≤ 383) (h_d : 0 ≤ d.toInt ∧ d.toInt ≤ 1) (μ : mM) (hI : IY S μ0 μ) : m_Cv l yX12_goesAway cX12_goesAway 4 (none) 0 D cy b LAY μ [.ref (b + 81), .int k, .int d, .int u] (fun ν => IY S μ0 ν ∧ (True)) := by
  unfold m_Cv
  refine m_of (by decide) (Nat.le_of_ble_eq_true rfl) ?_
  intro p e s m below meth c hx hb hr hml hown hts hlocks _ hW ls hl
  have hown : s.vm.findClass RX12 = some m.cls := hown
  have hl : lv_has ls 4 [(0, .ref (b + 81)), (1, .int k), (2, .int d), (3, .int u)] := hl
  refine lv_aload_n hx hb dX12_goesAway_0 rfl (lv_at hl 0 rfl) ?_
  refine m_getr hx hb hts hown hW (81) 27 (100) rfl rfl cw_12 rfl (by decide) k_X12_77 dX12_goesAway_1 ?_
  refine lv_iload_n hx hb dX12_goesAway_4 rfl (lv_at hl 2 rfl) ?_
  refine lv_aload_n hx hb dX12_goesAway_5 rfl (lv_at hl 0 rfl) ?_
  refine m_getr hx hb hts hown hW (81) 27 (100) rfl rfl cw_12 rfl (by decide) k_X12_77 dX12_goesAway_6 ?_
  refine lv_iload_n hx hb dX12_goesAway_9 rfl (lv_at hl 2 rfl) ?_
  refine m_lald hx hb hW (100) rfl (m_ixI (rfl : d.toInt = _) (by omega) (by omega)) dX12_goesAway_10 ?_
  refine lv_topl (fun x1 ex1 => ?_)
  refine lv_aload_n hx hb dX12_goesAway_11 rfl (lv_at hl 0 rfl) ?_
  refine m_getr hx hb hts hown hW (81) 13 (86) rfl rfl cw_12 rfl (by decide) k_X12_33 dX12_goesAway_12 ?_
  refine lv_iload_n hx hb dX12_goesAway_15 rfl (lv_at hl 1 rfl) ?_
  refine m_iald hx hb hW (86) rfl (m_ixI (rfl : k.toInt = _) (by omega) (by omega)) dX12_goesAway_16 ?_
  refine lv_topi (fun x2 ex2 => ?_)
  refine lv_i2l hx hb dX12_goesAway_17 rfl ?_
  refine lv_topl (fun x3 ex3 => ?_)
  refine lv_ladd hx hb dX12_goesAway_18 ?_
  refine lv_topl (fun x4 ex4 => ?_)
  refine m_last hx hb hW (100) rfl (m_ixI (rfl : d.toInt = _) (by omega) (by omega)) dX12_goesAway_19 (fun H locs hW _ => ?_)
  generalize hμ5 : m_sl μ (100) (d : Int32).toNatClampNeg x4 = μ5 at hW
  have hI := hI.sl hμ5 hS22
  refine lv_aload_n hx hb dX12_goesAway_20 rfl (lv_at hl 0 rfl) ?_
  refine m_getr hx hb hts hown hW (81) 13 (86) rfl rfl cw_12 rfl (by decide) k_X12_33 dX12_goesAway_21 ?_
  refine lv_iload_n hx hb dX12_goesAway_24 rfl (lv_at hl 1 rfl) ?_
  refine lv_iconst (v := 0) hx hb dX12_goesAway_25 (by decide) ?_
  refine m_iast hx hb hW (86) rfl (m_ixI (rfl : k.toInt = _) (by omega) (by omega)) dX12_goesAway_26 (fun H locs hW _ => ?_)
  generalize hμ6 : m_si μ5 (86) (k : Int32).toNatClampNeg 0 = μ6 at hW
  have hI := hI.si0 hμ6 rfl hS22
  refine lv_aload_n hx hb dX12_goesAway_27 rfl (lv_at hl 0 rfl) ?_
  refine m_getr hx hb hts hown hW (81) 15 (88) rfl rfl cw_12 rfl (by decide) k_X12_39 dX12_goesAway_28 ?_
  refine lv_iload_n hx hb dX12_goesAway_31 rfl (lv_at hl 1 rfl) ?_
  refine lv_iload_n hx hb dX12_goesAway_32 rfl (lv_at hl 3 rfl) ?_
  refine m_iast hx hb hW (88) rfl (m_ixI (rfl : k.toInt = _) (by omega) (by omega)) dX12_goesAway_33 (fun H locs hW _ => ?_)
  generalize hμ7 : m_si μ6 (88) (k : Int32).toNatClampNeg u = μ7 at hW
  have hI := hI.si0 hμ7 rfl hS22
  exact m_vret hx hb hr hlocks hW (⟨hI, trivial⟩) dX12_goesAway_34
set_option maxHeartbeats 4000000 in
set_option maxRecDepth 100000 in
theorem L_X12_cuts_4 {p : Program} {l : Launch} {e : Env} {s : State} {m : MethodId} {args : Array Value} {below : List Frame} {meth : Method} {c : Code} {D : va_G} {cy : Nat → ClassId} {b : Nat} (hx : p.tables.exec = Jvm.exec) (hb : c.code = cX12_cuts) (hr : meth.sig.returnType = ((some .boolean))) (hml : c.maxLocals = 5) (hown : s.vm.findClass RX12 = some m.cls) (hts : ∀ w ∈ TB, w.before args s = true) (hlocks : meth.locks = false) (S : Nat → Bool) (μ0 : mM) (hS22 : S 22 = true) (d : Int32) (h_d : 0 ≤ d.toInt ∧ d.toInt ≤ 1) : ∀ (f : Nat), ∀ (y2 y3 : Int32) (hy : 0 ≤ y2.toInt ∧ y2.toInt ≤ 1 ∧ 0 ≤ y3.toInt ∧ y3.toInt ≤ 192) (hf : 192 - y3.toInt < (f : Int)) (μ : mM) (hI : IY S μ0 μ) (H : Heap) (locs : List Loc), m_WA (m_A b LAY) D cy s b LAY μ H locs → ∀ ls : Array Slot, lv_has ls 5 [(0, .ref (b + 81)), (1, .int d), (2, .int y2), (3, .int y3)] → W p l e (m_R 1 0 0) s m args below meth c H locs 0 0 (MQ below (m_Qi D cy b LAY (fun r ν => IY S μ0 ν ∧ ((r = 1 ∧ (True)) ∨ (r = 0 ∧ (True))))) args s 0 0 (m_A b LAY)) (F0 m 4 ls []) := by
  intro f
  induction f with
  | zero => intro y2 y3 hy hf; exfalso; omega
  | succ f ih =>
    intro y2 y3 hy hf μ hI H locs hW ls hl
    refine lv_iload_n hx hb dX12_cuts_4 rfl (lv_at hl 3 rfl) ?_
    refine lv_bipush (v := 16) hx hb dX12_cuts_5 (by decide) ?_
    refine lv_aload_n hx hb dX12_cuts_7 rfl (lv_at hl 0 rfl) ?_
    refine m_geti hx hb hts hown hW (81) 7 rfl rfl cw_12 rfl (by decide) k_X12_180 dX12_cuts_8 ?_
    refine lv_topi (fun x1 ex1 => ?_)
    have bx1 : 0 ≤ x1.toInt ∧ x1.toInt ≤ 12 := by rw [ex1]; exact hI.1 _ _ _ _ rfl
    refine lv_imul hx hb dX12_cuts_11 ?_
    refine lv_topi (fun x2 ex2 => ?_)
    have tx2 : x2.toInt = 16 * x1.toInt := m_mulI ex2 (by decide : (16 : Int32).toInt = 16) (rfl : x1.toInt = _) (by omega) (by omega)
    refine lv_icmp_ge (tgt := 95) hx hb dX12_cuts_12 (by decide) (fun c3 => ?_) (fun c3 => ?_)
    · have i3 := m_c3 (rfl : x2.toInt = _) (rfl : y3.toInt = _) c3
      refine lv_iload_n hx hb dX12_cuts_95 rfl (lv_at hl 2 rfl) ?_
      exact m_iret hx hb hr hlocks hW (m_nb (m_b01 (by omega))) (⟨hI, m_b01t (by omega)⟩) dX12_cuts_96
    · have i3 := m_c4 (rfl : x2.toInt = _) (rfl : y3.toInt = _) c3
      refine lv_aload_n hx hb dX12_cuts_15 rfl (lv_at hl 0 rfl) ?_
      refine m_geti hx hb hts hown hW (81) 11 rfl rfl cw_12 rfl (by decide) k_X12_26 dX12_cuts_16 ?_
      refine lv_topi (fun x4 ex4 => ?_)
      have bx4 : 0 ≤ x4.toInt ∧ x4.toInt ≤ 1 := by rw [ex4]; exact hI.1 _ _ _ _ rfl
      refine lv_if_eq (tgt := 95) hx hb dX12_cuts_19 (by decide) (fun c5 => ?_) (fun c5 => ?_)
      · have i5 := m_c5 (rfl : x4.toInt = _) (by decide : (0 : Int32).toInt = 0) c5
        refine lv_iload_n hx hb dX12_cuts_95 rfl (lv_at hl 2 rfl) ?_
        exact m_iret hx hb hr hlocks hW (m_nb (m_b01 (by omega))) (⟨hI, m_b01t (by omega)⟩) dX12_cuts_96
      · have i5 := m_c6 (rfl : x4.toInt = _) (by decide : (0 : Int32).toInt = 0) c5
        refine lv_sipush (v := 192) hx hb dX12_cuts_22 (by decide) ?_
        refine lv_iload_n hx hb dX12_cuts_25 rfl (lv_at hl 1 rfl) ?_
        refine lv_imul hx hb dX12_cuts_26 ?_
        refine lv_topi (fun x6 ex6 => ?_)
        have tx6 : x6.toInt = 192 * d.toInt := m_mulI ex6 (by decide : (192 : Int32).toInt = 192) (rfl : d.toInt = _) (by omega) (by omega)
        refine lv_iload_n hx hb dX12_cuts_27 rfl (lv_at hl 3 rfl) ?_
        refine lv_iadd hx hb dX12_cuts_28 ?_
        refine lv_topi (fun x7 ex7 => ?_)
        have tx7 : x7.toInt = x6.toInt + y3.toInt := m_addI ex7 (rfl : x6.toInt = _) (rfl : y3.toInt = _) (by omega) (by omega)
        refine lv_istore (lv' := [(4, .int x7), (0, .ref (b + 81)), (1, .int d), (2, .int y2), (3, .int y3)]) hx hb dX12_cuts_29 hl (by decide) rfl (fun ls hl => ?_)
        refine lv_iload_n hx hb dX12_cuts_31 rfl (lv_at hl 4 rfl) ?_
        refine lv_bipush (v := 16) hx hb dX12_cuts_32 (by decide) ?_
        refine lv_irem hx hb dX12_cuts_34 (by decide) ?_
        refine lv_topi (fun x8 ex8 => ?_)
        have tx8 : x8.toInt = y3.toInt % 16 := m_remI ex8 (rfl : y3.toInt = _) (by decide : (16 : Int32).toInt = 16) (by omega) (by decide)
        refine lv_aload_n hx hb dX12_cuts_35 rfl (lv_at hl 1 rfl) ?_
        refine m_geti hx hb hts hown hW (81) 6 rfl rfl cw_12 rfl (by decide) k_X12_177 dX12_cuts_36 ?_
        refine lv_topi (fun x9 ex9 => ?_)
        have bx9 : 0 ≤ x9.toInt ∧ x9.toInt ≤ 16 := by rw [ex9]; exact hI.1 _ _ _ _ rfl
        refine lv_icmp_ge (tgt := 89) hx hb dX12_cuts_39 (by decide) (fun c10 => ?_) (fun c10 => ?_)
        · have i10 := m_c3 (rfl : x9.toInt = _) (rfl : x8.toInt = _) c10
          obtain ⟨x11, ex11⟩ : ∃ z : Int32, z = y3 + 1 := ⟨_, rfl⟩
          refine lv_iinc (v := x11) (lv' := [(3, .int x11), (4, .int x7), (0, .ref (b + 81)), (1, .int d), (2, .int y2)]) hx hb dX12_cuts_89 hl (k := 4) rfl (by rw [ex11]; rfl) (by decide) rfl (fun ls hl => ?_)
          have tx11 : x11.toInt = y3.toInt + 1 := m_addI ex11 (rfl : y3.toInt = _) (by decide : (1 : Int32).toInt = 1) (by omega) (by omega)
          refine lv_goto (tgt := 4) hx hb dX12_cuts_92 (by decide) ?_
          exact ih y2 x11 (by omega) (by omega) μ hI _ _ hW ls (lv_sub hl [2, 3, 4, 0] rfl)
        · have i10 := m_c4 (rfl : x9.toInt = _) (rfl : x8.toInt = _) c10
          refine lv_aload_n hx hb dX12_cuts_42 rfl (lv_at hl 1 rfl) ?_
          refine m_getr hx hb hts hown hW (81) 15 (88) rfl rfl cw_12 rfl (by decide) k_X12_39 dX12_cuts_43 ?_
          refine lv_iload hx hb dX12_cuts_46 (lv_at hl 0 rfl) ?_
          refine m_iald hx hb hW (88) rfl (m_ixI (rfl : x7.toInt = _) (by omega) (by omega)) dX12_cuts_48 ?_
          refine lv_topi (fun x12 ex12 => ?_)
          refine lv_if_ne (tgt := 89) hx hb dX12_cuts_49 (by decide) (fun c13 => ?_) (fun c13 => ?_)
          · have i13 := m_c6 (rfl : x12.toInt = _) (by decide : (0 : Int32).toInt = 0) c13
            obtain ⟨x14, ex14⟩ : ∃ z : Int32, z = y3 + 1 := ⟨_, rfl⟩
            refine lv_iinc (v := x14) (lv' := [(3, .int x14), (4, .int x7), (0, .ref (b + 81)), (1, .int d), (2, .int y2)]) hx hb dX12_cuts_89 hl (k := 4) rfl (by rw [ex14]; rfl) (by decide) rfl (fun ls hl => ?_)
            have tx14 : x14.toInt = y3.toInt + 1 := m_addI ex14 (rfl : y3.toInt = _) (by decide : (1 : Int32).toInt = 1) (by omega) (by omega)
            refine lv_goto (tgt := 4) hx hb dX12_cuts_92 (by decide) ?_
            exact ih y2 x14 (by omega) (by omega) μ hI _ _ hW ls (lv_sub hl [2, 3, 4, 0] rfl)
          · have i13 := m_c5 (rfl : x12.toInt = _) (by decide : (0 : Int32).toInt = 0) c13
            refine lv_aload_n hx hb dX12_cuts_52 rfl (lv_at hl 1 rfl) ?_
            refine m_getr hx hb hts hown hW (81) 13 (86) rfl rfl cw_12 rfl (by decide) k_X12_33 dX12_cuts_53 ?_
            refine lv_iload hx hb dX12_cuts_56 (lv_at hl 0 rfl) ?_
            refine m_iald hx hb hW (86) rfl (m_ixI (rfl : x7.toInt = _) (by omega) (by omega)) dX12_cuts_58 ?_
            refine lv_topi (fun x15 ex15 => ?_)
            refine lv_aload_n hx hb dX12_cuts_59 rfl (lv_at hl 1 rfl) ?_
            refine m_getr hx hb hts hown hW (81) 1 (82) rfl rfl cw_12 rfl (by decide) k_X12_7 dX12_cuts_60 ?_
            refine lv_aload_n hx hb dX12_cuts_63 rfl (lv_at hl 1 rfl) ?_
            refine m_geti hx hb hts hown hW (81) 8 rfl rfl cw_12 rfl (by decide) k_X12_183 dX12_cuts_64 ?_
            refine lv_topi (fun x16 ex16 => ?_)
            have bx16 : 0 ≤ x16.toInt ∧ x16.toInt ≤ 3 := by rw [ex16]; exact hI.1 _ _ _ _ rfl
            refine m_iald hx hb hW (82) rfl (m_ixI (rfl : x16.toInt = _) (by omega) (by omega)) dX12_cuts_67 ?_
            refine lv_topi (fun x17 ex17 => ?_)
            refine lv_aload_n hx hb dX12_cuts_68 rfl (lv_at hl 1 rfl) ?_
            refine m_geti hx hb hts hown hW (81) 9 rfl rfl cw_12 rfl (by decide) k_X12_186 dX12_cuts_69 ?_
            refine lv_topi (fun x18 ex18 => ?_)
            refine lv_imul hx hb dX12_cuts_72 ?_
            refine lv_topi (fun x19 ex19 => ?_)
            refine lv_icmp_ge (tgt := 79) hx hb dX12_cuts_73 (by decide) (fun c20 => ?_) (fun c20 => ?_)
            · have i20 := m_c3 (rfl : x19.toInt = _) (rfl : x15.toInt = _) c20
              refine lv_aload_n hx hb dX12_cuts_79 rfl (lv_at hl 1 rfl) ?_
              refine lv_iload hx hb dX12_cuts_80 (lv_at hl 0 rfl) ?_
              refine lv_iload_n hx hb dX12_cuts_82 rfl (lv_at hl 2 rfl) ?_
              refine lv_iconst (v := 1) hx hb dX12_cuts_83 (by decide) ?_
              have l_1 : (1 : Int32).toInt = 1 := by decide
              refine m_aV hW (m_runV (As := [.int x7, .int d, .int 1]) (rest := []) hx hb hml hown hts hW (81) (g_X12_goesAway l D cy b S μ0 hS22 x7 d 1 (by omega) (by omega) μ hI) mi_X12_goesAway k_X12_208 rfl rfl rfl hl.1 rfl (Nat.le_of_ble_eq_true rfl) dX12_cuts_84 ⟨Nat.le_of_ble_eq_true rfl, Nat.le_of_ble_eq_true rfl⟩ ⟨Nat.le_of_ble_eq_true rfl, Nat.le_of_ble_eq_true rfl⟩) (fun μ21 H locs q21 hW => ?_)
              obtain ⟨hI, q21⟩ := q21
              refine lv_iconst (v := 1) hx hb dX12_cuts_87 (by decide) ?_
              refine lv_istore_n (lv' := [(2, .int 1), (4, .int x7), (0, .ref (b + 81)), (1, .int d), (3, .int y3)]) hx hb dX12_cuts_88 rfl hl (by decide) rfl (fun ls hl => ?_)
              obtain ⟨x22, ex22⟩ : ∃ z : Int32, z = y3 + 1 := ⟨_, rfl⟩
              refine lv_iinc (v := x22) (lv' := [(3, .int x22), (2, .int 1), (4, .int x7), (0, .ref (b + 81)), (1, .int d)]) hx hb dX12_cuts_89 hl (k := 4) rfl (by rw [ex22]; rfl) (by decide) rfl (fun ls hl => ?_)
              have tx22 : x22.toInt = y3.toInt + 1 := m_addI ex22 (rfl : y3.toInt = _) (by decide : (1 : Int32).toInt = 1) (by omega) (by omega)
              refine lv_goto (tgt := 4) hx hb dX12_cuts_92 (by decide) ?_
              exact ih 1 x22 (by omega) (by omega) μ21 hI _ _ hW ls (lv_sub hl [3, 4, 1, 0] rfl)
            · have i20 := m_c4 (rfl : x19.toInt = _) (rfl : x15.toInt = _) c20
              refine lv_goto (tgt := 89) hx hb dX12_cuts_76 (by decide) ?_
              obtain ⟨x23, ex23⟩ : ∃ z : Int32, z = y3 + 1 := ⟨_, rfl⟩
              refine lv_iinc (v := x23) (lv' := [(3, .int x23), (4, .int x7), (0, .ref (b + 81)), (1, .int d), (2, .int y2)]) hx hb dX12_cuts_89 hl (k := 4) rfl (by rw [ex23]; rfl) (by decide) rfl (fun ls hl => ?_)
              have tx23 : x23.toInt = y3.toInt + 1 := m_addI ex23 (rfl : y3.toInt = _) (by decide : (1 : Int32).toInt = 1) (by omega) (by omega)
              refine lv_goto (tgt := 4) hx hb dX12_cuts_92 (by decide) ?_
              exact ih y2 x23 (by omega) (by omega) μ hI _ _ hW ls (lv_sub hl [2, 3, 4, 0] rfl)
set_option maxHeartbeats 4000000 in
set_option maxRecDepth 100000 in
theorem g_X12_cuts (l : Launch) (D : va_G) (cy : Nat → ClassId) (b : Nat) (S : Nat → Bool) (μ0 : mM) (hS22 : S 22 = true) (d : Int32) (h_d : 0 ≤ d.toInt ∧ d.toInt ≤ 1) (μ : mM) (hI : IY S μ0 μ) : m_Ci l yX12_cuts cX12_cuts 5 ((some .boolean)) 1 D cy b LAY μ [.ref (b + 81), .int d] (fun r ν => IY S μ0 ν ∧ ((r = 1 ∧ (True)) ∨ (r = 0 ∧ (True)))) := by
  unfold m_Ci
  refine m_of (by decide) (Nat.le_of_ble_eq_true rfl) ?_
  intro p e s m below meth c hx hb hr hml hown hts hlocks _ hW ls hl
  have hown : s.vm.findClass RX12 = some m.cls := hown
  have hl : lv_has ls 5 [(0, .ref (b + 81)), (1, .int d)] := hl
  refine lv_iconst (v := 0) hx hb dX12_cuts_0 (by decide) ?_
  refine lv_istore_n (lv' := [(2, .int 0), (0, .ref (b + 81)), (1, .int d)]) hx hb dX12_cuts_1 rfl hl (by decide) rfl (fun ls hl => ?_)
  refine lv_iconst (v := 0) hx hb dX12_cuts_2 (by decide) ?_
  refine lv_istore_n (lv' := [(3, .int 0), (2, .int 0), (0, .ref (b + 81)), (1, .int d)]) hx hb dX12_cuts_3 rfl hl (by decide) rfl (fun ls hl => ?_)
  have l_0 : (0 : Int32).toInt = 0 := by decide
  exact L_X12_cuts_4 hx hb hr hml hown hts hlocks S μ0 hS22 d h_d  193 0 0 (by omega) (by omega) μ hI _ _ hW ls (lv_sub hl [2, 3, 1, 0] rfl)
set_option maxHeartbeats 4000000 in
set_option maxRecDepth 100000 in
theorem L_X12_lying_10 {p : Program} {l : Launch} {e : Env} {s : State} {m : MethodId} {args : Array Value} {below : List Frame} {meth : Method} {c : Code} {D : va_G} {cy : Nat → ClassId} {b : Nat} (hx : p.tables.exec = Jvm.exec) (hb : c.code = cX12_lying) (hr : meth.sig.returnType = ((some .int))) (hml : c.maxLocals = 7) (hown : s.vm.findClass RX12 = some m.cls) (hts : ∀ w ∈ TB, w.before args s = true) (hlocks : meth.locks = false) (μ1 : mM) (k : Int32) (h_k : 0 ≤ k.toInt ∧ k.toInt ≤ 192) : ∀ (f : Nat), ∀ (y2 y3 y4 y5 : Int32) (hy : 0 ≤ y2.toInt ∧ y2.toInt ≤ 1 ∧ 0 ≤ y3.toInt ∧ y3.toInt ≤ 1 ∧ 0 ≤ y4.toInt ∧ y4.toInt ≤ 1 ∧ 0 ≤ y5.toInt ∧ y5.toInt ≤ 192) (hf : 192 - y5.toInt < (f : Int)) (μ : mM) (hI : IX μ) (hm : μ = μ1) (H : Heap) (locs : List Loc), m_WA (m_A b LAY) D cy s b LAY μ H locs → ∀ ls : Array Slot, lv_has ls 7 [(0, .ref (b + 81)), (1, .int k), (2, .int y2), (3, .int y3), (4, .int y4), (5, .int y5)] → W p l e (m_R 0 0 0) s m args below meth c H locs 0 0 (MQ below (m_Qi D cy b LAY (fun r ν => μ1 = ν ∧ (0 ≤ r.toInt ∧ r.toInt ≤ 2))) args s 0 0 (m_A b LAY)) (F0 m 10 ls []) := by
  intro f
  induction f with
  | zero => intro y2 y3 y4 y5 hy hf; exfalso; omega
  | succ f ih =>
    intro y2 y3 y4 y5 hy hf μ hI hm H locs hW ls hl
    refine lv_iload hx hb dX12_lying_10 (lv_at hl 5 rfl) ?_
    refine lv_bipush (v := 16) hx hb dX12_lying_12 (by decide) ?_
    refine lv_aload_n hx hb dX12_lying_14 rfl (lv_at hl 0 rfl) ?_
    refine m_geti hx hb hts hown hW (81) 7 rfl rfl cw_12 rfl (by decide) k_X12_180 dX12_lying_15 ?_
    refine lv_topi (fun x1 ex1 => ?_)
    have bx1 : 0 ≤ x1.toInt ∧ x1.toInt ≤ 12 := by rw [ex1]; exact hI _ _ _ _ rfl
    refine lv_imul hx hb dX12_lying_18 ?_
    refine lv_topi (fun x2 ex2 => ?_)
    have tx2 : x2.toInt = 16 * x1.toInt := m_mulI ex2 (by decide : (16 : Int32).toInt = 16) (rfl : x1.toInt = _) (by omega) (by omega)
    refine lv_icmp_ge (tgt := 119) hx hb dX12_lying_19 (by decide) (fun c3 => ?_) (fun c3 => ?_)
    · have i3 := m_c3 (rfl : x2.toInt = _) (rfl : y5.toInt = _) c3
      refine lv_iload_n hx hb dX12_lying_119 rfl (lv_at hl 2 rfl) ?_
      refine lv_if_ne (tgt := 127) hx hb dX12_lying_120 (by decide) (fun c4 => ?_) (fun c4 => ?_)
      · have i4 := m_c6 (rfl : y2.toInt = _) (by decide : (0 : Int32).toInt = 0) c4
        refine lv_iload_n hx hb dX12_lying_127 rfl (lv_at hl 3 rfl) ?_
        refine lv_if_eq (tgt := 140) hx hb dX12_lying_128 (by decide) (fun c5 => ?_) (fun c5 => ?_)
        · have i5 := m_c5 (rfl : y3.toInt = _) (by decide : (0 : Int32).toInt = 0) c5
          refine lv_iconst (v := 2) hx hb dX12_lying_140 (by decide) ?_
          exact m_iret hx hb hr hlocks hW rfl (⟨hm.symm, by decide⟩) dX12_lying_141
        · have i5 := m_c6 (rfl : y3.toInt = _) (by decide : (0 : Int32).toInt = 0) c5
          refine lv_iload hx hb dX12_lying_131 (lv_at hl 4 rfl) ?_
          refine lv_if_eq (tgt := 140) hx hb dX12_lying_133 (by decide) (fun c6 => ?_) (fun c6 => ?_)
          · have i6 := m_c5 (rfl : y4.toInt = _) (by decide : (0 : Int32).toInt = 0) c6
            refine lv_iconst (v := 2) hx hb dX12_lying_140 (by decide) ?_
            exact m_iret hx hb hr hlocks hW rfl (⟨hm.symm, by decide⟩) dX12_lying_141
          · have i6 := m_c6 (rfl : y4.toInt = _) (by decide : (0 : Int32).toInt = 0) c6
            refine lv_iconst (v := 0) hx hb dX12_lying_136 (by decide) ?_
            refine lv_goto (tgt := 141) hx hb dX12_lying_137 (by decide) ?_
            exact m_iret hx hb hr hlocks hW rfl (⟨hm.symm, by decide⟩) dX12_lying_141
      · have i4 := m_c5 (rfl : y2.toInt = _) (by decide : (0 : Int32).toInt = 0) c4
        refine lv_iconst (v := 1) hx hb dX12_lying_123 (by decide) ?_
        refine lv_goto (tgt := 141) hx hb dX12_lying_124 (by decide) ?_
        exact m_iret hx hb hr hlocks hW rfl (⟨hm.symm, by decide⟩) dX12_lying_141
    · have i3 := m_c4 (rfl : x2.toInt = _) (rfl : y5.toInt = _) c3
      refine lv_iload hx hb dX12_lying_22 (lv_at hl 5 rfl) ?_
      refine lv_bipush (v := 16) hx hb dX12_lying_24 (by decide) ?_
      refine lv_irem hx hb dX12_lying_26 (by decide) ?_
      refine lv_topi (fun x7 ex7 => ?_)
      have tx7 : x7.toInt = y5.toInt % 16 := m_remI ex7 (rfl : y5.toInt = _) (by decide : (16 : Int32).toInt = 16) (by omega) (by decide)
      refine lv_istore (lv' := [(6, .int x7), (0, .ref (b + 81)), (1, .int k), (2, .int y2), (3, .int y3), (4, .int y4), (5, .int y5)]) hx hb dX12_lying_27 hl (by decide) rfl (fun ls hl => ?_)
      refine lv_aload_n hx hb dX12_lying_29 rfl (lv_at hl 1 rfl) ?_
      refine m_getr hx hb hts hown hW (81) 28 (101) rfl rfl cw_12 rfl (by decide) k_X12_80 dX12_lying_30 ?_
      refine lv_iload hx hb dX12_lying_33 (lv_at hl 6 rfl) ?_
      refine m_iald hx hb hW (101) rfl (m_ixI (rfl : y5.toInt = _) (by omega) (by omega)) dX12_lying_35 ?_
      refine lv_topi (fun x8 ex8 => ?_)
      have bx8 : 0 ≤ x8.toInt ∧ x8.toInt ≤ 192 := by rw [ex8]; exact hI _ _ _ _ rfl
      refine lv_iload_n hx hb dX12_lying_36 rfl (lv_at hl 2 rfl) ?_
      refine lv_icmp_ne (tgt := 113) hx hb dX12_lying_37 (by decide) (fun c9 => ?_) (fun c9 => ?_)
      · have i9 := m_c6 (rfl : x8.toInt = _) (rfl : k.toInt = _) c9
        obtain ⟨x10, ex10⟩ : ∃ z : Int32, z = y5 + 1 := ⟨_, rfl⟩
        refine lv_iinc (v := x10) (lv' := [(5, .int x10), (6, .int x7), (0, .ref (b + 81)), (1, .int k), (2, .int y2), (3, .int y3), (4, .int y4)]) hx hb dX12_lying_113 hl (k := 6) rfl (by rw [ex10]; rfl) (by decide) rfl (fun ls hl => ?_)
        have tx10 : x10.toInt = y5.toInt + 1 := m_addI ex10 (rfl : y5.toInt = _) (by decide : (1 : Int32).toInt = 1) (by omega) (by omega)
        refine lv_goto (tgt := 10) hx hb dX12_lying_116 (by decide) ?_
        exact ih y2 y3 y4 x10 (by omega) (by omega) μ hI hm _ _ hW ls (lv_sub hl [2, 3, 4, 5, 6, 0] rfl)
      · have i9 := m_c5 (rfl : x8.toInt = _) (rfl : k.toInt = _) c9
        refine lv_iload hx hb dX12_lying_40 (lv_at hl 0 rfl) ?_
        refine lv_aload_n hx hb dX12_lying_42 rfl (lv_at hl 1 rfl) ?_
        refine m_geti hx hb hts hown hW (81) 12 rfl rfl cw_12 rfl (by decide) k_X12_30 dX12_lying_43 ?_
        refine lv_topi (fun x11 ex11 => ?_)
        have bx11 : 2 ≤ x11.toInt ∧ x11.toInt ≤ 9 := by rw [ex11]; exact hI _ _ _ _ rfl
        refine lv_irem hx hb dX12_lying_46 (m_n0 (rfl : x11.toInt = _) (by omega)) ?_
        refine lv_topi (fun x12 ex12 => ?_)
        have bx12 : 0 ≤ x12.toInt ∧ x12.toInt < x11.toInt := m_remB ex12 (rfl : x7.toInt = _) (rfl : x11.toInt = _) (by omega) (by omega)
        refine lv_if_eq (tgt := 53) hx hb dX12_lying_47 (by decide) (fun c13 => ?_) (fun c13 => ?_)
        · have i13 := m_c5 (rfl : x12.toInt = _) (by decide : (0 : Int32).toInt = 0) c13
          refine lv_iconst (v := 1) hx hb dX12_lying_53 (by decide) ?_
          refine lv_istore_n (lv' := [(2, .int 1), (6, .int x7), (0, .ref (b + 81)), (1, .int k), (3, .int y3), (4, .int y4), (5, .int y5)]) hx hb dX12_lying_54 rfl hl (by decide) rfl (fun ls hl => ?_)
          refine lv_iload_n hx hb dX12_lying_55 rfl (lv_at hl 4 rfl) ?_
          refine lv_if_ne (tgt := 77) hx hb dX12_lying_56 (by decide) (fun c14 => ?_) (fun c14 => ?_)
          · have i14 := m_c6 (rfl : y3.toInt = _) (by decide : (0 : Int32).toInt = 0) c14
            refine lv_iconst (v := 1) hx hb dX12_lying_77 (by decide) ?_
            refine lv_goto (tgt := 82) hx hb dX12_lying_78 (by decide) ?_
            refine lv_istore_n (lv' := [(3, .int 1), (2, .int 1), (6, .int x7), (0, .ref (b + 81)), (1, .int k), (4, .int y4), (5, .int y5)]) hx hb dX12_lying_82 rfl hl (by decide) rfl (fun ls hl => ?_)
            refine lv_iload hx hb dX12_lying_83 (lv_at hl 5 rfl) ?_
            refine lv_if_ne (tgt := 106) hx hb dX12_lying_85 (by decide) (fun c15 => ?_) (fun c15 => ?_)
            · have i15 := m_c6 (rfl : y4.toInt = _) (by decide : (0 : Int32).toInt = 0) c15
              refine lv_iconst (v := 1) hx hb dX12_lying_106 (by decide) ?_
              refine lv_goto (tgt := 111) hx hb dX12_lying_107 (by decide) ?_
              refine lv_istore (lv' := [(4, .int 1), (3, .int 1), (2, .int 1), (6, .int x7), (0, .ref (b + 81)), (1, .int k), (5, .int y5)]) hx hb dX12_lying_111 hl (by decide) rfl (fun ls hl => ?_)
              obtain ⟨x16, ex16⟩ : ∃ z : Int32, z = y5 + 1 := ⟨_, rfl⟩
              refine lv_iinc (v := x16) (lv' := [(5, .int x16), (4, .int 1), (3, .int 1), (2, .int 1), (6, .int x7), (0, .ref (b + 81)), (1, .int k)]) hx hb dX12_lying_113 hl (k := 6) rfl (by rw [ex16]; rfl) (by decide) rfl (fun ls hl => ?_)
              have tx16 : x16.toInt = y5.toInt + 1 := m_addI ex16 (rfl : y5.toInt = _) (by decide : (1 : Int32).toInt = 1) (by omega) (by omega)
              refine lv_goto (tgt := 10) hx hb dX12_lying_116 (by decide) ?_
              have l_1 : (1 : Int32).toInt = 1 := by decide
              exact ih 1 1 1 x16 (by omega) (by omega) μ hI hm _ _ hW ls (lv_sub hl [5, 6, 3, 2, 1, 0] rfl)
            · have i15 := m_c5 (rfl : y4.toInt = _) (by decide : (0 : Int32).toInt = 0) c15
              refine lv_iload hx hb dX12_lying_88 (lv_at hl 2 rfl) ?_
              refine lv_aload_n hx hb dX12_lying_90 rfl (lv_at hl 3 rfl) ?_
              refine m_getr hx hb hts hown hW (81) 31 (103) rfl rfl cw_12 rfl (by decide) k_X12_86 dX12_lying_91 ?_
              refine lv_iload_n hx hb dX12_lying_94 rfl (lv_at hl 4 rfl) ?_
              refine m_iald hx hb hW (103) rfl (m_ixI (rfl : k.toInt = _) (by omega) (by omega)) dX12_lying_95 ?_
              refine lv_topi (fun x17 ex17 => ?_)
              refine lv_imul hx hb dX12_lying_96 ?_
              refine lv_topi (fun x18 ex18 => ?_)
              refine lv_aload_n hx hb dX12_lying_97 rfl (lv_at hl 3 rfl) ?_
              refine m_getr hx hb hts hown hW (81) 32 (104) rfl rfl cw_12 rfl (by decide) k_X12_89 dX12_lying_98 ?_
              refine lv_iload_n hx hb dX12_lying_101 rfl (lv_at hl 4 rfl) ?_
              refine m_iald hx hb hW (104) rfl (m_ixI (rfl : k.toInt = _) (by omega) (by omega)) dX12_lying_102 ?_
              refine lv_topi (fun x19 ex19 => ?_)
              refine lv_icmp_lt (tgt := 110) hx hb dX12_lying_103 (by decide) (fun c20 => ?_) (fun c20 => ?_)
              · have i20 := m_c1 (rfl : x18.toInt = _) (rfl : x19.toInt = _) c20
                refine lv_iconst (v := 0) hx hb dX12_lying_110 (by decide) ?_
                refine lv_istore (lv' := [(4, .int 0), (3, .int 1), (2, .int 1), (6, .int x7), (0, .ref (b + 81)), (1, .int k), (5, .int y5)]) hx hb dX12_lying_111 hl (by decide) rfl (fun ls hl => ?_)
                obtain ⟨x21, ex21⟩ : ∃ z : Int32, z = y5 + 1 := ⟨_, rfl⟩
                refine lv_iinc (v := x21) (lv' := [(5, .int x21), (4, .int 0), (3, .int 1), (2, .int 1), (6, .int x7), (0, .ref (b + 81)), (1, .int k)]) hx hb dX12_lying_113 hl (k := 6) rfl (by rw [ex21]; rfl) (by decide) rfl (fun ls hl => ?_)
                have tx21 : x21.toInt = y5.toInt + 1 := m_addI ex21 (rfl : y5.toInt = _) (by decide : (1 : Int32).toInt = 1) (by omega) (by omega)
                refine lv_goto (tgt := 10) hx hb dX12_lying_116 (by decide) ?_
                have l_1 : (1 : Int32).toInt = 1 := by decide
                have l_0 : (0 : Int32).toInt = 0 := by decide
                exact ih 1 1 0 x21 (by omega) (by omega) μ hI hm _ _ hW ls (lv_sub hl [5, 6, 3, 2, 1, 0] rfl)
              · have i20 := m_c2 (rfl : x18.toInt = _) (rfl : x19.toInt = _) c20
                refine lv_iconst (v := 1) hx hb dX12_lying_106 (by decide) ?_
                refine lv_goto (tgt := 111) hx hb dX12_lying_107 (by decide) ?_
                refine lv_istore (lv' := [(4, .int 1), (3, .int 1), (2, .int 1), (6, .int x7), (0, .ref (b + 81)), (1, .int k), (5, .int y5)]) hx hb dX12_lying_111 hl (by decide) rfl (fun ls hl => ?_)
                obtain ⟨x22, ex22⟩ : ∃ z : Int32, z = y5 + 1 := ⟨_, rfl⟩
                refine lv_iinc (v := x22) (lv' := [(5, .int x22), (4, .int 1), (3, .int 1), (2, .int 1), (6, .int x7), (0, .ref (b + 81)), (1, .int k)]) hx hb dX12_lying_113 hl (k := 6) rfl (by rw [ex22]; rfl) (by decide) rfl (fun ls hl => ?_)
                have tx22 : x22.toInt = y5.toInt + 1 := m_addI ex22 (rfl : y5.toInt = _) (by decide : (1 : Int32).toInt = 1) (by omega) (by omega)
                refine lv_goto (tgt := 10) hx hb dX12_lying_116 (by decide) ?_
                have l_1 : (1 : Int32).toInt = 1 := by decide
                exact ih 1 1 1 x22 (by omega) (by omega) μ hI hm _ _ hW ls (lv_sub hl [5, 6, 3, 2, 1, 0] rfl)
          · have i14 := m_c5 (rfl : y3.toInt = _) (by decide : (0 : Int32).toInt = 0) c14
            refine lv_iload hx hb dX12_lying_59 (lv_at hl 1 rfl) ?_
            refine lv_aload_n hx hb dX12_lying_61 rfl (lv_at hl 2 rfl) ?_
            refine m_getr hx hb hts hown hW (81) 31 (103) rfl rfl cw_12 rfl (by decide) k_X12_86 dX12_lying_62 ?_
            refine lv_iload_n hx hb dX12_lying_65 rfl (lv_at hl 3 rfl) ?_
            refine m_iald hx hb hW (103) rfl (m_ixI (rfl : k.toInt = _) (by omega) (by omega)) dX12_lying_66 ?_
            refine lv_topi (fun x23 ex23 => ?_)
            refine lv_imul hx hb dX12_lying_67 ?_
            refine lv_topi (fun x24 ex24 => ?_)
            refine lv_aload_n hx hb dX12_lying_68 rfl (lv_at hl 2 rfl) ?_
            refine m_getr hx hb hts hown hW (81) 32 (104) rfl rfl cw_12 rfl (by decide) k_X12_89 dX12_lying_69 ?_
            refine lv_iload_n hx hb dX12_lying_72 rfl (lv_at hl 3 rfl) ?_
            refine m_iald hx hb hW (104) rfl (m_ixI (rfl : k.toInt = _) (by omega) (by omega)) dX12_lying_73 ?_
            refine lv_topi (fun x25 ex25 => ?_)
            refine lv_icmp_gt (tgt := 81) hx hb dX12_lying_74 (by decide) (fun c26 => ?_) (fun c26 => ?_)
            · have i26 := m_c1 (rfl : x25.toInt = _) (rfl : x24.toInt = _) c26
              refine lv_iconst (v := 0) hx hb dX12_lying_81 (by decide) ?_
              refine lv_istore_n (lv' := [(3, .int 0), (2, .int 1), (6, .int x7), (0, .ref (b + 81)), (1, .int k), (4, .int y4), (5, .int y5)]) hx hb dX12_lying_82 rfl hl (by decide) rfl (fun ls hl => ?_)
              refine lv_iload hx hb dX12_lying_83 (lv_at hl 5 rfl) ?_
              refine lv_if_ne (tgt := 106) hx hb dX12_lying_85 (by decide) (fun c27 => ?_) (fun c27 => ?_)
              · have i27 := m_c6 (rfl : y4.toInt = _) (by decide : (0 : Int32).toInt = 0) c27
                refine lv_iconst (v := 1) hx hb dX12_lying_106 (by decide) ?_
                refine lv_goto (tgt := 111) hx hb dX12_lying_107 (by decide) ?_
                refine lv_istore (lv' := [(4, .int 1), (3, .int 0), (2, .int 1), (6, .int x7), (0, .ref (b + 81)), (1, .int k), (5, .int y5)]) hx hb dX12_lying_111 hl (by decide) rfl (fun ls hl => ?_)
                obtain ⟨x28, ex28⟩ : ∃ z : Int32, z = y5 + 1 := ⟨_, rfl⟩
                refine lv_iinc (v := x28) (lv' := [(5, .int x28), (4, .int 1), (3, .int 0), (2, .int 1), (6, .int x7), (0, .ref (b + 81)), (1, .int k)]) hx hb dX12_lying_113 hl (k := 6) rfl (by rw [ex28]; rfl) (by decide) rfl (fun ls hl => ?_)
                have tx28 : x28.toInt = y5.toInt + 1 := m_addI ex28 (rfl : y5.toInt = _) (by decide : (1 : Int32).toInt = 1) (by omega) (by omega)
                refine lv_goto (tgt := 10) hx hb dX12_lying_116 (by decide) ?_
                have l_1 : (1 : Int32).toInt = 1 := by decide
                have l_0 : (0 : Int32).toInt = 0 := by decide
                exact ih 1 0 1 x28 (by omega) (by omega) μ hI hm _ _ hW ls (lv_sub hl [5, 6, 3, 2, 1, 0] rfl)
              · have i27 := m_c5 (rfl : y4.toInt = _) (by decide : (0 : Int32).toInt = 0) c27
                refine lv_iload hx hb dX12_lying_88 (lv_at hl 2 rfl) ?_
                refine lv_aload_n hx hb dX12_lying_90 rfl (lv_at hl 3 rfl) ?_
                refine m_getr hx hb hts hown hW (81) 31 (103) rfl rfl cw_12 rfl (by decide) k_X12_86 dX12_lying_91 ?_
                refine lv_iload_n hx hb dX12_lying_94 rfl (lv_at hl 4 rfl) ?_
                refine m_iald hx hb hW (103) rfl (m_ixI (rfl : k.toInt = _) (by omega) (by omega)) dX12_lying_95 ?_
                refine lv_topi (fun x29 ex29 => ?_)
                have ex29 : x29 = x23 := by rw [ex29]; exact ex23.symm
                have ex29 := ex29.symm
                subst ex29
                refine lv_imul hx hb dX12_lying_96 ?_
                refine lv_topi (fun x30 ex30 => ?_)
                have ex30 : x30 = x24 := ex30.trans ex24.symm
                have ex30 := ex30.symm
                subst ex30
                refine lv_aload_n hx hb dX12_lying_97 rfl (lv_at hl 3 rfl) ?_
                refine m_getr hx hb hts hown hW (81) 32 (104) rfl rfl cw_12 rfl (by decide) k_X12_89 dX12_lying_98 ?_
                refine lv_iload_n hx hb dX12_lying_101 rfl (lv_at hl 4 rfl) ?_
                refine m_iald hx hb hW (104) rfl (m_ixI (rfl : k.toInt = _) (by omega) (by omega)) dX12_lying_102 ?_
                refine lv_topi (fun x31 ex31 => ?_)
                have ex31 : x31 = x25 := by rw [ex31]; exact ex25.symm
                have ex31 := ex31.symm
                subst ex31
                refine lv_icmp_lt (tgt := 110) hx hb dX12_lying_103 (by decide) (fun c32 => ?_) (fun c32 => ?_)
                · have i32 := m_c1 (rfl : x24.toInt = _) (rfl : x25.toInt = _) c32
                  refine lv_iconst (v := 0) hx hb dX12_lying_110 (by decide) ?_
                  refine lv_istore (lv' := [(4, .int 0), (3, .int 0), (2, .int 1), (6, .int x7), (0, .ref (b + 81)), (1, .int k), (5, .int y5)]) hx hb dX12_lying_111 hl (by decide) rfl (fun ls hl => ?_)
                  obtain ⟨x33, ex33⟩ : ∃ z : Int32, z = y5 + 1 := ⟨_, rfl⟩
                  refine lv_iinc (v := x33) (lv' := [(5, .int x33), (4, .int 0), (3, .int 0), (2, .int 1), (6, .int x7), (0, .ref (b + 81)), (1, .int k)]) hx hb dX12_lying_113 hl (k := 6) rfl (by rw [ex33]; rfl) (by decide) rfl (fun ls hl => ?_)
                  have tx33 : x33.toInt = y5.toInt + 1 := m_addI ex33 (rfl : y5.toInt = _) (by decide : (1 : Int32).toInt = 1) (by omega) (by omega)
                  refine lv_goto (tgt := 10) hx hb dX12_lying_116 (by decide) ?_
                  have l_1 : (1 : Int32).toInt = 1 := by decide
                  have l_0 : (0 : Int32).toInt = 0 := by decide
                  exact ih 1 0 0 x33 (by omega) (by omega) μ hI hm _ _ hW ls (lv_sub hl [5, 6, 3, 2, 1, 0] rfl)
                · have i32 := m_c2 (rfl : x24.toInt = _) (rfl : x25.toInt = _) c32
                  refine lv_iconst (v := 1) hx hb dX12_lying_106 (by decide) ?_
                  refine lv_goto (tgt := 111) hx hb dX12_lying_107 (by decide) ?_
                  refine lv_istore (lv' := [(4, .int 1), (3, .int 0), (2, .int 1), (6, .int x7), (0, .ref (b + 81)), (1, .int k), (5, .int y5)]) hx hb dX12_lying_111 hl (by decide) rfl (fun ls hl => ?_)
                  obtain ⟨x34, ex34⟩ : ∃ z : Int32, z = y5 + 1 := ⟨_, rfl⟩
                  refine lv_iinc (v := x34) (lv' := [(5, .int x34), (4, .int 1), (3, .int 0), (2, .int 1), (6, .int x7), (0, .ref (b + 81)), (1, .int k)]) hx hb dX12_lying_113 hl (k := 6) rfl (by rw [ex34]; rfl) (by decide) rfl (fun ls hl => ?_)
                  have tx34 : x34.toInt = y5.toInt + 1 := m_addI ex34 (rfl : y5.toInt = _) (by decide : (1 : Int32).toInt = 1) (by omega) (by omega)
                  refine lv_goto (tgt := 10) hx hb dX12_lying_116 (by decide) ?_
                  have l_1 : (1 : Int32).toInt = 1 := by decide
                  have l_0 : (0 : Int32).toInt = 0 := by decide
                  exact ih 1 0 1 x34 (by omega) (by omega) μ hI hm _ _ hW ls (lv_sub hl [5, 6, 3, 2, 1, 0] rfl)
            · have i26 := m_c2 (rfl : x25.toInt = _) (rfl : x24.toInt = _) c26
              refine lv_iconst (v := 1) hx hb dX12_lying_77 (by decide) ?_
              refine lv_goto (tgt := 82) hx hb dX12_lying_78 (by decide) ?_
              refine lv_istore_n (lv' := [(3, .int 1), (2, .int 1), (6, .int x7), (0, .ref (b + 81)), (1, .int k), (4, .int y4), (5, .int y5)]) hx hb dX12_lying_82 rfl hl (by decide) rfl (fun ls hl => ?_)
              refine lv_iload hx hb dX12_lying_83 (lv_at hl 5 rfl) ?_
              refine lv_if_ne (tgt := 106) hx hb dX12_lying_85 (by decide) (fun c35 => ?_) (fun c35 => ?_)
              · have i35 := m_c6 (rfl : y4.toInt = _) (by decide : (0 : Int32).toInt = 0) c35
                refine lv_iconst (v := 1) hx hb dX12_lying_106 (by decide) ?_
                refine lv_goto (tgt := 111) hx hb dX12_lying_107 (by decide) ?_
                refine lv_istore (lv' := [(4, .int 1), (3, .int 1), (2, .int 1), (6, .int x7), (0, .ref (b + 81)), (1, .int k), (5, .int y5)]) hx hb dX12_lying_111 hl (by decide) rfl (fun ls hl => ?_)
                obtain ⟨x36, ex36⟩ : ∃ z : Int32, z = y5 + 1 := ⟨_, rfl⟩
                refine lv_iinc (v := x36) (lv' := [(5, .int x36), (4, .int 1), (3, .int 1), (2, .int 1), (6, .int x7), (0, .ref (b + 81)), (1, .int k)]) hx hb dX12_lying_113 hl (k := 6) rfl (by rw [ex36]; rfl) (by decide) rfl (fun ls hl => ?_)
                have tx36 : x36.toInt = y5.toInt + 1 := m_addI ex36 (rfl : y5.toInt = _) (by decide : (1 : Int32).toInt = 1) (by omega) (by omega)
                refine lv_goto (tgt := 10) hx hb dX12_lying_116 (by decide) ?_
                have l_1 : (1 : Int32).toInt = 1 := by decide
                exact ih 1 1 1 x36 (by omega) (by omega) μ hI hm _ _ hW ls (lv_sub hl [5, 6, 3, 2, 1, 0] rfl)
              · have i35 := m_c5 (rfl : y4.toInt = _) (by decide : (0 : Int32).toInt = 0) c35
                refine lv_iload hx hb dX12_lying_88 (lv_at hl 2 rfl) ?_
                refine lv_aload_n hx hb dX12_lying_90 rfl (lv_at hl 3 rfl) ?_
                refine m_getr hx hb hts hown hW (81) 31 (103) rfl rfl cw_12 rfl (by decide) k_X12_86 dX12_lying_91 ?_
                refine lv_iload_n hx hb dX12_lying_94 rfl (lv_at hl 4 rfl) ?_
                refine m_iald hx hb hW (103) rfl (m_ixI (rfl : k.toInt = _) (by omega) (by omega)) dX12_lying_95 ?_
                refine lv_topi (fun x37 ex37 => ?_)
                have ex37 : x37 = x23 := by rw [ex37]; exact ex23.symm
                have ex37 := ex37.symm
                subst ex37
                refine lv_imul hx hb dX12_lying_96 ?_
                refine lv_topi (fun x38 ex38 => ?_)
                have ex38 : x38 = x24 := ex38.trans ex24.symm
                have ex38 := ex38.symm
                subst ex38
                refine lv_aload_n hx hb dX12_lying_97 rfl (lv_at hl 3 rfl) ?_
                refine m_getr hx hb hts hown hW (81) 32 (104) rfl rfl cw_12 rfl (by decide) k_X12_89 dX12_lying_98 ?_
                refine lv_iload_n hx hb dX12_lying_101 rfl (lv_at hl 4 rfl) ?_
                refine m_iald hx hb hW (104) rfl (m_ixI (rfl : k.toInt = _) (by omega) (by omega)) dX12_lying_102 ?_
                refine lv_topi (fun x39 ex39 => ?_)
                have ex39 : x39 = x25 := by rw [ex39]; exact ex25.symm
                have ex39 := ex39.symm
                subst ex39
                refine lv_icmp_lt (tgt := 110) hx hb dX12_lying_103 (by decide) (fun c40 => ?_) (fun c40 => ?_)
                · have i40 := m_c1 (rfl : x24.toInt = _) (rfl : x25.toInt = _) c40
                  refine lv_iconst (v := 0) hx hb dX12_lying_110 (by decide) ?_
                  refine lv_istore (lv' := [(4, .int 0), (3, .int 1), (2, .int 1), (6, .int x7), (0, .ref (b + 81)), (1, .int k), (5, .int y5)]) hx hb dX12_lying_111 hl (by decide) rfl (fun ls hl => ?_)
                  obtain ⟨x41, ex41⟩ : ∃ z : Int32, z = y5 + 1 := ⟨_, rfl⟩
                  refine lv_iinc (v := x41) (lv' := [(5, .int x41), (4, .int 0), (3, .int 1), (2, .int 1), (6, .int x7), (0, .ref (b + 81)), (1, .int k)]) hx hb dX12_lying_113 hl (k := 6) rfl (by rw [ex41]; rfl) (by decide) rfl (fun ls hl => ?_)
                  have tx41 : x41.toInt = y5.toInt + 1 := m_addI ex41 (rfl : y5.toInt = _) (by decide : (1 : Int32).toInt = 1) (by omega) (by omega)
                  refine lv_goto (tgt := 10) hx hb dX12_lying_116 (by decide) ?_
                  have l_1 : (1 : Int32).toInt = 1 := by decide
                  have l_0 : (0 : Int32).toInt = 0 := by decide
                  exact ih 1 1 0 x41 (by omega) (by omega) μ hI hm _ _ hW ls (lv_sub hl [5, 6, 3, 2, 1, 0] rfl)
                · have i40 := m_c2 (rfl : x24.toInt = _) (rfl : x25.toInt = _) c40
                  refine lv_iconst (v := 1) hx hb dX12_lying_106 (by decide) ?_
                  refine lv_goto (tgt := 111) hx hb dX12_lying_107 (by decide) ?_
                  refine lv_istore (lv' := [(4, .int 1), (3, .int 1), (2, .int 1), (6, .int x7), (0, .ref (b + 81)), (1, .int k), (5, .int y5)]) hx hb dX12_lying_111 hl (by decide) rfl (fun ls hl => ?_)
                  obtain ⟨x42, ex42⟩ : ∃ z : Int32, z = y5 + 1 := ⟨_, rfl⟩
                  refine lv_iinc (v := x42) (lv' := [(5, .int x42), (4, .int 1), (3, .int 1), (2, .int 1), (6, .int x7), (0, .ref (b + 81)), (1, .int k)]) hx hb dX12_lying_113 hl (k := 6) rfl (by rw [ex42]; rfl) (by decide) rfl (fun ls hl => ?_)
                  have tx42 : x42.toInt = y5.toInt + 1 := m_addI ex42 (rfl : y5.toInt = _) (by decide : (1 : Int32).toInt = 1) (by omega) (by omega)
                  refine lv_goto (tgt := 10) hx hb dX12_lying_116 (by decide) ?_
                  have l_1 : (1 : Int32).toInt = 1 := by decide
                  exact ih 1 1 1 x42 (by omega) (by omega) μ hI hm _ _ hW ls (lv_sub hl [5, 6, 3, 2, 1, 0] rfl)
        · have i13 := m_c6 (rfl : x12.toInt = _) (by decide : (0 : Int32).toInt = 0) c13
          refine lv_goto (tgt := 113) hx hb dX12_lying_50 (by decide) ?_
          obtain ⟨x43, ex43⟩ : ∃ z : Int32, z = y5 + 1 := ⟨_, rfl⟩
          refine lv_iinc (v := x43) (lv' := [(5, .int x43), (6, .int x7), (0, .ref (b + 81)), (1, .int k), (2, .int y2), (3, .int y3), (4, .int y4)]) hx hb dX12_lying_113 hl (k := 6) rfl (by rw [ex43]; rfl) (by decide) rfl (fun ls hl => ?_)
          have tx43 : x43.toInt = y5.toInt + 1 := m_addI ex43 (rfl : y5.toInt = _) (by decide : (1 : Int32).toInt = 1) (by omega) (by omega)
          refine lv_goto (tgt := 10) hx hb dX12_lying_116 (by decide) ?_
          exact ih y2 y3 y4 x43 (by omega) (by omega) μ hI hm _ _ hW ls (lv_sub hl [2, 3, 4, 5, 6, 0] rfl)
set_option maxHeartbeats 4000000 in
set_option maxRecDepth 100000 in
theorem g_X12_lying (l : Launch) (D : va_G) (cy : Nat → ClassId) (b : Nat) (k : Int32) (h_k : 0 ≤ k.toInt ∧ k.toInt ≤ 192) (μ : mM) (hI : IX μ) : m_Ci l yX12_lying cX12_lying 7 ((some .int)) 0 D cy b LAY μ [.ref (b + 81), .int k] (fun r ν => μ = ν ∧ (0 ≤ r.toInt ∧ r.toInt ≤ 2)) := by
  unfold m_Ci
  refine m_of (by decide) (Nat.le_of_ble_eq_true rfl) ?_
  intro p e s m below meth c hx hb hr hml hown hts hlocks _ hW ls hl
  have hown : s.vm.findClass RX12 = some m.cls := hown
  have hl : lv_has ls 7 [(0, .ref (b + 81)), (1, .int k)] := hl
  refine lv_iconst (v := 0) hx hb dX12_lying_0 (by decide) ?_
  refine lv_istore_n (lv' := [(2, .int 0), (0, .ref (b + 81)), (1, .int k)]) hx hb dX12_lying_1 rfl hl (by decide) rfl (fun ls hl => ?_)
  refine lv_iconst (v := 0) hx hb dX12_lying_2 (by decide) ?_
  refine lv_istore_n (lv' := [(3, .int 0), (2, .int 0), (0, .ref (b + 81)), (1, .int k)]) hx hb dX12_lying_3 rfl hl (by decide) rfl (fun ls hl => ?_)
  refine lv_iconst (v := 0) hx hb dX12_lying_4 (by decide) ?_
  refine lv_istore (lv' := [(4, .int 0), (3, .int 0), (2, .int 0), (0, .ref (b + 81)), (1, .int k)]) hx hb dX12_lying_5 hl (by decide) rfl (fun ls hl => ?_)
  refine lv_iconst (v := 0) hx hb dX12_lying_7 (by decide) ?_
  refine lv_istore (lv' := [(5, .int 0), (4, .int 0), (3, .int 0), (2, .int 0), (0, .ref (b + 81)), (1, .int k)]) hx hb dX12_lying_8 hl (by decide) rfl (fun ls hl => ?_)
  have l_0 : (0 : Int32).toInt = 0 := by decide
  exact L_X12_lying_10 hx hb hr hml hown hts hlocks μ k h_k  193 0 0 0 0 (by omega) (by omega) μ hI rfl _ _ hW ls (lv_sub hl [4, 5, 3, 2, 1, 0] rfl)
set_option maxHeartbeats 4000000 in
set_option maxRecDepth 100000 in
theorem g_X12_puts (l : Launch) (D : va_G) (cy : Nat → ClassId) (b : Nat) (S : Nat → Bool) (μ0 : mM) (hS23 : S 23 = true) (t : Int32) (h_t : 0 ≤ t.toInt ∧ t.toInt ≤ 396) (k : Int32) (μ : mM) (hI : IY S μ0 μ) (ht : μ.1 81 35 = t) : m_Cv l yX12_puts cX12_puts 3 (none) 0 D cy b LAY μ [.ref (b + 81), .int k] (fun ν => IY S μ0 ν ∧ ((ν.1 81 35).toInt = t.toInt + 4)) := by
  unfold m_Cv
  refine m_of (by decide) (Nat.le_of_ble_eq_true rfl) ?_
  intro p e s m below meth c hx hb hr hml hown hts hlocks _ hW ls hl
  have hown : s.vm.findClass RX12 = some m.cls := hown
  have hl : lv_has ls 3 [(0, .ref (b + 81)), (1, .int k)] := hl
  refine lv_bipush (v := 24) hx hb dX12_puts_0 (by decide) ?_
  refine lv_istore_n (lv' := [(2, .int 24), (0, .ref (b + 81)), (1, .int k)]) hx hb dX12_puts_2 rfl hl (by decide) rfl (fun ls hl => ?_)
  refine lv_iload_n hx hb dX12_puts_3 rfl (lv_at hl 0 rfl) ?_
  refine lv_if_lt (tgt := 39) hx hb dX12_puts_4 (by decide) (fun c => False.elim (by revert c; decide)) (fun _ => ?_)
  refine lv_aload_n hx hb dX12_puts_7 rfl (lv_at hl 1 rfl) ?_
  refine m_getr hx hb hts hown hW (81) 34 (106) rfl rfl cw_12 rfl (by decide) k_X12_95 dX12_puts_8 ?_
  refine lv_aload_n hx hb dX12_puts_11 rfl (lv_at hl 1 rfl) ?_
  refine m_geti hx hb hts hown hW (81) 35 rfl rfl cw_12 rfl (by decide) k_X12_239 dX12_puts_12 ?_
  refine lv_topi (fun x1 ex1 => ?_)
  have ex1 : x1 = t := by rw [ex1]; exact ht
  have ex1 := ex1.symm
  subst ex1
  refine lv_iload_n hx hb dX12_puts_15 rfl (lv_at hl 2 rfl) ?_
  refine lv_iload_n hx hb dX12_puts_16 rfl (lv_at hl 0 rfl) ?_
  refine lv_ishr hx hb dX12_puts_17 ?_
  refine lv_topi (fun x2 ex2 => ?_)
  refine lv_sipush (v := 255) hx hb dX12_puts_18 (by decide) ?_
  refine lv_iand hx hb dX12_puts_21 ?_
  refine lv_topi (fun x3 ex3 => ?_)
  have bx3 : 0 ≤ x3.toInt ∧ x3.toInt ≤ 255 := m_andN (n := 255) ex3 rfl (by decide)
  refine m_iast hx hb hW (106) rfl (m_ixI (rfl : t.toInt = _) (by omega) (by omega)) dX12_puts_22 (fun H locs hW _ => ?_)
  generalize hμ4 : m_si μ (106) (t : Int32).toNatClampNeg x3 = μ4 at hW
  have hI := hI.si1 hμ4 rfl (by omega) hS23
  refine lv_aload_n hx hb dX12_puts_23 rfl (lv_at hl 1 rfl) ?_
  refine lv_aload_n hx hb dX12_puts_24 rfl (lv_at hl 1 rfl) ?_
  refine m_geti hx hb hts hown hW (81) 35 rfl rfl cw_12 rfl (by decide) k_X12_239 dX12_puts_25 ?_
  refine lv_topi (fun x5 ex5 => ?_)
  have ex5 : x5 = t := by rw [ex5, ← hμ4]; exact ht
  have ex5 := ex5.symm
  subst ex5
  refine lv_iconst (v := 1) hx hb dX12_puts_28 (by decide) ?_
  refine lv_iadd hx hb dX12_puts_29 ?_
  refine lv_topi (fun x6 ex6 => ?_)
  have tx6 : x6.toInt = t.toInt + 1 := m_addI ex6 (rfl : t.toInt = _) (by decide : (1 : Int32).toInt = 1) (by omega) (by omega)
  refine m_puti hx hb hts hown hW (81) 35 rfl rfl cw_12 tyX12_ok nmX12 rfl (by decide) k_X12_239 rfl rfl rfl dX12_puts_30 (fun H locs hW _ => ?_)
  generalize hμ7 : m_si μ4 (81) 35 x6 = μ7 at hW
  have hI := hI.si1 hμ7 rfl (by omega) hS23
  refine lv_iinc (v := 16) (lv' := [(2, .int 16), (0, .ref (b + 81)), (1, .int k)]) hx hb dX12_puts_33 hl (k := 0) rfl (by decide) (by decide) rfl (fun ls hl => ?_)
  refine lv_goto (tgt := 3) hx hb dX12_puts_36 (by decide) ?_
  refine lv_iload_n hx hb dX12_puts_3 rfl (lv_at hl 0 rfl) ?_
  refine lv_if_lt (tgt := 39) hx hb dX12_puts_4 (by decide) (fun c => False.elim (by revert c; decide)) (fun _ => ?_)
  refine lv_aload_n hx hb dX12_puts_7 rfl (lv_at hl 1 rfl) ?_
  refine m_getr hx hb hts hown hW (81) 34 (106) rfl rfl cw_12 rfl (by decide) k_X12_95 dX12_puts_8 ?_
  refine lv_aload_n hx hb dX12_puts_11 rfl (lv_at hl 1 rfl) ?_
  refine m_geti hx hb hts hown hW (81) 35 rfl rfl cw_12 rfl (by decide) k_X12_239 dX12_puts_12 ?_
  refine lv_topi (fun x8 ex8 => ?_)
  have ex8 : x8 = x6 := by rw [ex8, ← hμ7]; first | rfl | exact if_pos ⟨rfl, rfl⟩
  have ex8 := ex8.symm
  subst ex8
  refine lv_iload_n hx hb dX12_puts_15 rfl (lv_at hl 2 rfl) ?_
  refine lv_iload_n hx hb dX12_puts_16 rfl (lv_at hl 0 rfl) ?_
  refine lv_ishr hx hb dX12_puts_17 ?_
  refine lv_topi (fun x9 ex9 => ?_)
  refine lv_sipush (v := 255) hx hb dX12_puts_18 (by decide) ?_
  refine lv_iand hx hb dX12_puts_21 ?_
  refine lv_topi (fun x10 ex10 => ?_)
  have bx10 : 0 ≤ x10.toInt ∧ x10.toInt ≤ 255 := m_andN (n := 255) ex10 rfl (by decide)
  refine m_iast hx hb hW (106) rfl (m_ixI (rfl : x6.toInt = _) (by omega) (by omega)) dX12_puts_22 (fun H locs hW _ => ?_)
  generalize hμ11 : m_si μ7 (106) (x6 : Int32).toNatClampNeg x10 = μ11 at hW
  have hI := hI.si1 hμ11 rfl (by omega) hS23
  refine lv_aload_n hx hb dX12_puts_23 rfl (lv_at hl 1 rfl) ?_
  refine lv_aload_n hx hb dX12_puts_24 rfl (lv_at hl 1 rfl) ?_
  refine m_geti hx hb hts hown hW (81) 35 rfl rfl cw_12 rfl (by decide) k_X12_239 dX12_puts_25 ?_
  refine lv_topi (fun x12 ex12 => ?_)
  have ex12 : x12 = x6 := by rw [ex12, ← hμ11, ← hμ7]; first | rfl | exact if_pos ⟨rfl, rfl⟩
  have ex12 := ex12.symm
  subst ex12
  refine lv_iconst (v := 1) hx hb dX12_puts_28 (by decide) ?_
  refine lv_iadd hx hb dX12_puts_29 ?_
  refine lv_topi (fun x13 ex13 => ?_)
  have tx13 : x13.toInt = x6.toInt + 1 := m_addI ex13 (rfl : x6.toInt = _) (by decide : (1 : Int32).toInt = 1) (by omega) (by omega)
  refine m_puti hx hb hts hown hW (81) 35 rfl rfl cw_12 tyX12_ok nmX12 rfl (by decide) k_X12_239 rfl rfl rfl dX12_puts_30 (fun H locs hW _ => ?_)
  generalize hμ14 : m_si μ11 (81) 35 x13 = μ14 at hW
  have hI := hI.si1 hμ14 rfl (by omega) hS23
  refine lv_iinc (v := 8) (lv' := [(2, .int 8), (0, .ref (b + 81)), (1, .int k)]) hx hb dX12_puts_33 hl (k := 0) rfl (by decide) (by decide) rfl (fun ls hl => ?_)
  refine lv_goto (tgt := 3) hx hb dX12_puts_36 (by decide) ?_
  refine lv_iload_n hx hb dX12_puts_3 rfl (lv_at hl 0 rfl) ?_
  refine lv_if_lt (tgt := 39) hx hb dX12_puts_4 (by decide) (fun c => False.elim (by revert c; decide)) (fun _ => ?_)
  refine lv_aload_n hx hb dX12_puts_7 rfl (lv_at hl 1 rfl) ?_
  refine m_getr hx hb hts hown hW (81) 34 (106) rfl rfl cw_12 rfl (by decide) k_X12_95 dX12_puts_8 ?_
  refine lv_aload_n hx hb dX12_puts_11 rfl (lv_at hl 1 rfl) ?_
  refine m_geti hx hb hts hown hW (81) 35 rfl rfl cw_12 rfl (by decide) k_X12_239 dX12_puts_12 ?_
  refine lv_topi (fun x15 ex15 => ?_)
  have ex15 : x15 = x13 := by rw [ex15, ← hμ14]; first | rfl | exact if_pos ⟨rfl, rfl⟩
  have ex15 := ex15.symm
  subst ex15
  refine lv_iload_n hx hb dX12_puts_15 rfl (lv_at hl 2 rfl) ?_
  refine lv_iload_n hx hb dX12_puts_16 rfl (lv_at hl 0 rfl) ?_
  refine lv_ishr hx hb dX12_puts_17 ?_
  refine lv_topi (fun x16 ex16 => ?_)
  refine lv_sipush (v := 255) hx hb dX12_puts_18 (by decide) ?_
  refine lv_iand hx hb dX12_puts_21 ?_
  refine lv_topi (fun x17 ex17 => ?_)
  have bx17 : 0 ≤ x17.toInt ∧ x17.toInt ≤ 255 := m_andN (n := 255) ex17 rfl (by decide)
  refine m_iast hx hb hW (106) rfl (m_ixI (rfl : x13.toInt = _) (by omega) (by omega)) dX12_puts_22 (fun H locs hW _ => ?_)
  generalize hμ18 : m_si μ14 (106) (x13 : Int32).toNatClampNeg x17 = μ18 at hW
  have hI := hI.si1 hμ18 rfl (by omega) hS23
  refine lv_aload_n hx hb dX12_puts_23 rfl (lv_at hl 1 rfl) ?_
  refine lv_aload_n hx hb dX12_puts_24 rfl (lv_at hl 1 rfl) ?_
  refine m_geti hx hb hts hown hW (81) 35 rfl rfl cw_12 rfl (by decide) k_X12_239 dX12_puts_25 ?_
  refine lv_topi (fun x19 ex19 => ?_)
  have ex19 : x19 = x13 := by rw [ex19, ← hμ18, ← hμ14]; first | rfl | exact if_pos ⟨rfl, rfl⟩
  have ex19 := ex19.symm
  subst ex19
  refine lv_iconst (v := 1) hx hb dX12_puts_28 (by decide) ?_
  refine lv_iadd hx hb dX12_puts_29 ?_
  refine lv_topi (fun x20 ex20 => ?_)
  have tx20 : x20.toInt = x13.toInt + 1 := m_addI ex20 (rfl : x13.toInt = _) (by decide : (1 : Int32).toInt = 1) (by omega) (by omega)
  refine m_puti hx hb hts hown hW (81) 35 rfl rfl cw_12 tyX12_ok nmX12 rfl (by decide) k_X12_239 rfl rfl rfl dX12_puts_30 (fun H locs hW _ => ?_)
  generalize hμ21 : m_si μ18 (81) 35 x20 = μ21 at hW
  have hI := hI.si1 hμ21 rfl (by omega) hS23
  refine lv_iinc (v := 0) (lv' := [(2, .int 0), (0, .ref (b + 81)), (1, .int k)]) hx hb dX12_puts_33 hl (k := 0) rfl (by decide) (by decide) rfl (fun ls hl => ?_)
  refine lv_goto (tgt := 3) hx hb dX12_puts_36 (by decide) ?_
  refine lv_iload_n hx hb dX12_puts_3 rfl (lv_at hl 0 rfl) ?_
  refine lv_if_lt (tgt := 39) hx hb dX12_puts_4 (by decide) (fun c => False.elim (by revert c; decide)) (fun _ => ?_)
  refine lv_aload_n hx hb dX12_puts_7 rfl (lv_at hl 1 rfl) ?_
  refine m_getr hx hb hts hown hW (81) 34 (106) rfl rfl cw_12 rfl (by decide) k_X12_95 dX12_puts_8 ?_
  refine lv_aload_n hx hb dX12_puts_11 rfl (lv_at hl 1 rfl) ?_
  refine m_geti hx hb hts hown hW (81) 35 rfl rfl cw_12 rfl (by decide) k_X12_239 dX12_puts_12 ?_
  refine lv_topi (fun x22 ex22 => ?_)
  have ex22 : x22 = x20 := by rw [ex22, ← hμ21]; first | rfl | exact if_pos ⟨rfl, rfl⟩
  have ex22 := ex22.symm
  subst ex22
  refine lv_iload_n hx hb dX12_puts_15 rfl (lv_at hl 2 rfl) ?_
  refine lv_iload_n hx hb dX12_puts_16 rfl (lv_at hl 0 rfl) ?_
  refine lv_ishr hx hb dX12_puts_17 ?_
  refine lv_topi (fun x23 ex23 => ?_)
  refine lv_sipush (v := 255) hx hb dX12_puts_18 (by decide) ?_
  refine lv_iand hx hb dX12_puts_21 ?_
  refine lv_topi (fun x24 ex24 => ?_)
  have bx24 : 0 ≤ x24.toInt ∧ x24.toInt ≤ 255 := m_andN (n := 255) ex24 rfl (by decide)
  refine m_iast hx hb hW (106) rfl (m_ixI (rfl : x20.toInt = _) (by omega) (by omega)) dX12_puts_22 (fun H locs hW _ => ?_)
  generalize hμ25 : m_si μ21 (106) (x20 : Int32).toNatClampNeg x24 = μ25 at hW
  have hI := hI.si1 hμ25 rfl (by omega) hS23
  refine lv_aload_n hx hb dX12_puts_23 rfl (lv_at hl 1 rfl) ?_
  refine lv_aload_n hx hb dX12_puts_24 rfl (lv_at hl 1 rfl) ?_
  refine m_geti hx hb hts hown hW (81) 35 rfl rfl cw_12 rfl (by decide) k_X12_239 dX12_puts_25 ?_
  refine lv_topi (fun x26 ex26 => ?_)
  have ex26 : x26 = x20 := by rw [ex26, ← hμ25, ← hμ21]; first | rfl | exact if_pos ⟨rfl, rfl⟩
  have ex26 := ex26.symm
  subst ex26
  refine lv_iconst (v := 1) hx hb dX12_puts_28 (by decide) ?_
  refine lv_iadd hx hb dX12_puts_29 ?_
  refine lv_topi (fun x27 ex27 => ?_)
  have tx27 : x27.toInt = x20.toInt + 1 := m_addI ex27 (rfl : x20.toInt = _) (by decide : (1 : Int32).toInt = 1) (by omega) (by omega)
  refine m_puti hx hb hts hown hW (81) 35 rfl rfl cw_12 tyX12_ok nmX12 rfl (by decide) k_X12_239 rfl rfl rfl dX12_puts_30 (fun H locs hW _ => ?_)
  generalize hμ28 : m_si μ25 (81) 35 x27 = μ28 at hW
  have hI := hI.si1 hμ28 rfl (by omega) hS23
  refine lv_iinc (v := (-8)) (lv' := [(2, .int (-8)), (0, .ref (b + 81)), (1, .int k)]) hx hb dX12_puts_33 hl (k := 0) rfl (by decide) (by decide) rfl (fun ls hl => ?_)
  refine lv_goto (tgt := 3) hx hb dX12_puts_36 (by decide) ?_
  refine lv_iload_n hx hb dX12_puts_3 rfl (lv_at hl 0 rfl) ?_
  refine lv_if_lt (tgt := 39) hx hb dX12_puts_4 (by decide) (fun _ => ?_) (fun c => False.elim (by revert c; decide))
  exact m_vret hx hb hr hlocks hW (⟨hI, by rw [show μ28.1 81 35 = x27 from (by rw [← hμ28]; first | rfl | exact if_pos ⟨rfl, rfl⟩)]; omega⟩) dX12_puts_39
set_option maxHeartbeats 4000000 in
set_option maxRecDepth 100000 in
theorem g_X12_feed (l : Launch) (D : va_G) (cy : Nat → ClassId) (b : Nat) (S : Nat → Bool) (μ0 : mM) (hS20 : S 20 = true) (hS23 : S 23 = true) (k u v w z : Int32) (μ : mM) (hI : IY S μ0 μ) : m_Ci l yX12_feed cX12_feed 6 ((some .int)) 1 D cy b LAY μ [.ref (b + 81), .int k, .int u, .int v, .int w, .int z] (fun r ν => IY S μ0 ν ∧ (True)) := by
  unfold m_Ci
  refine m_of (by decide) (Nat.le_of_ble_eq_true rfl) ?_
  intro p e s m below meth c hx hb hr hml hown hts hlocks _ hW ls hl
  have hown : s.vm.findClass RX12 = some m.cls := hown
  have hl : lv_has ls 6 [(0, .ref (b + 81)), (1, .int k), (2, .int u), (3, .int v), (4, .int w), (5, .int z)] := hl
  refine lv_aload_n hx hb dX12_feed_0 rfl (lv_at hl 0 rfl) ?_
  refine lv_iconst (v := 0) hx hb dX12_feed_1 (by decide) ?_
  refine m_puti hx hb hts hown hW (81) 0 rfl rfl cw_12 tyX12_ok nmX12 rfl (by decide) k_X12_167 rfl rfl rfl dX12_feed_2 (fun H locs hW _ => ?_)
  generalize hμ1 : m_si μ (81) 0 0 = μ1 at hW
  have hI := hI.si0 hμ1 rfl hS20
  refine lv_aload_n hx hb dX12_feed_5 rfl (lv_at hl 0 rfl) ?_
  refine m_geti hx hb hts hown hW (81) 35 rfl rfl cw_12 rfl (by decide) k_X12_239 dX12_feed_6 ?_
  refine lv_topi (fun x2 ex2 => ?_)
  have bx2 : 0 ≤ x2.toInt ∧ x2.toInt ≤ 400 := by rw [ex2]; exact hI.1 _ _ _ _ rfl
  refine lv_sipush (v := 380) hx hb dX12_feed_9 (by decide) ?_
  refine lv_icmp_le (tgt := 17) hx hb dX12_feed_12 (by decide) (fun c3 => ?_) (fun c3 => ?_)
  · have i3 := m_c3 (rfl : x2.toInt = _) (by decide : (380 : Int32).toInt = 380) c3
    refine lv_aload_n hx hb dX12_feed_17 rfl (lv_at hl 0 rfl) ?_
    refine lv_iload_n hx hb dX12_feed_18 rfl (lv_at hl 1 rfl) ?_
    refine m_aV hW (m_runV (As := [.int k]) (rest := []) hx hb hml hown hts hW (81) (g_X12_puts l D cy b S μ0 hS23 x2 (by omega) k μ1 hI (by exact ex2.symm)) mi_X12_puts k_X12_242 rfl rfl rfl hl.1 rfl (Nat.le_of_ble_eq_true rfl) dX12_feed_19 ⟨Nat.le_of_ble_eq_true rfl, Nat.le_of_ble_eq_true rfl⟩ ⟨Nat.le_of_ble_eq_true rfl, Nat.le_of_ble_eq_true rfl⟩) (fun μ4 H locs q4 hW => ?_)
    obtain ⟨hI, q4⟩ := q4
    obtain ⟨x5, hx5⟩ : ∃ z, μ4.1 81 35 = z := ⟨_, rfl⟩
    rw [hx5] at q4
    refine lv_aload_n hx hb dX12_feed_22 rfl (lv_at hl 0 rfl) ?_
    refine lv_iload_n hx hb dX12_feed_23 rfl (lv_at hl 2 rfl) ?_
    refine m_aV hW (m_runV (As := [.int u]) (rest := []) hx hb hml hown hts hW (81) (g_X12_puts l D cy b S μ0 hS23 x5 (by omega) u μ4 hI (by exact hx5)) mi_X12_puts k_X12_242 rfl rfl rfl hl.1 rfl (Nat.le_of_ble_eq_true rfl) dX12_feed_24 ⟨Nat.le_of_ble_eq_true rfl, Nat.le_of_ble_eq_true rfl⟩ ⟨Nat.le_of_ble_eq_true rfl, Nat.le_of_ble_eq_true rfl⟩) (fun μ6 H locs q6 hW => ?_)
    obtain ⟨hI, q6⟩ := q6
    obtain ⟨x7, hx7⟩ : ∃ z, μ6.1 81 35 = z := ⟨_, rfl⟩
    rw [hx7] at q6
    refine lv_aload_n hx hb dX12_feed_27 rfl (lv_at hl 0 rfl) ?_
    refine lv_iload_n hx hb dX12_feed_28 rfl (lv_at hl 3 rfl) ?_
    refine m_aV hW (m_runV (As := [.int v]) (rest := []) hx hb hml hown hts hW (81) (g_X12_puts l D cy b S μ0 hS23 x7 (by omega) v μ6 hI (by exact hx7)) mi_X12_puts k_X12_242 rfl rfl rfl hl.1 rfl (Nat.le_of_ble_eq_true rfl) dX12_feed_29 ⟨Nat.le_of_ble_eq_true rfl, Nat.le_of_ble_eq_true rfl⟩ ⟨Nat.le_of_ble_eq_true rfl, Nat.le_of_ble_eq_true rfl⟩) (fun μ8 H locs q8 hW => ?_)
    obtain ⟨hI, q8⟩ := q8
    obtain ⟨x9, hx9⟩ : ∃ z, μ8.1 81 35 = z := ⟨_, rfl⟩
    rw [hx9] at q8
    refine lv_aload_n hx hb dX12_feed_32 rfl (lv_at hl 0 rfl) ?_
    refine lv_iload hx hb dX12_feed_33 (lv_at hl 4 rfl) ?_
    refine m_aV hW (m_runV (As := [.int w]) (rest := []) hx hb hml hown hts hW (81) (g_X12_puts l D cy b S μ0 hS23 x9 (by omega) w μ8 hI (by exact hx9)) mi_X12_puts k_X12_242 rfl rfl rfl hl.1 rfl (Nat.le_of_ble_eq_true rfl) dX12_feed_35 ⟨Nat.le_of_ble_eq_true rfl, Nat.le_of_ble_eq_true rfl⟩ ⟨Nat.le_of_ble_eq_true rfl, Nat.le_of_ble_eq_true rfl⟩) (fun μ10 H locs q10 hW => ?_)
    obtain ⟨hI, q10⟩ := q10
    obtain ⟨x11, hx11⟩ : ∃ z, μ10.1 81 35 = z := ⟨_, rfl⟩
    rw [hx11] at q10
    refine lv_aload_n hx hb dX12_feed_38 rfl (lv_at hl 0 rfl) ?_
    refine lv_iload hx hb dX12_feed_39 (lv_at hl 5 rfl) ?_
    refine m_aV hW (m_runV (As := [.int z]) (rest := []) hx hb hml hown hts hW (81) (g_X12_puts l D cy b S μ0 hS23 x11 (by omega) z μ10 hI (by exact hx11)) mi_X12_puts k_X12_242 rfl rfl rfl hl.1 rfl (Nat.le_of_ble_eq_true rfl) dX12_feed_41 ⟨Nat.le_of_ble_eq_true rfl, Nat.le_of_ble_eq_true rfl⟩ ⟨Nat.le_of_ble_eq_true rfl, Nat.le_of_ble_eq_true rfl⟩) (fun μ12 H locs q12 hW => ?_)
    obtain ⟨hI, q12⟩ := q12
    obtain ⟨x13, hx13⟩ : ∃ z, μ12.1 81 35 = z := ⟨_, rfl⟩
    rw [hx13] at q12
    refine lv_aload_n hx hb dX12_feed_44 rfl (lv_at hl 0 rfl) ?_
    refine m_geti hx hb hts hown hW (81) 35 rfl rfl cw_12 rfl (by decide) k_X12_239 dX12_feed_45 ?_
    refine lv_topi (fun x14 ex14 => ?_)
    have ex14 : x14 = x13 := by rw [ex14]; exact hx13
    have ex14 := ex14.symm
    subst ex14
    exact m_iret hx hb hr hlocks hW rfl (⟨hI, trivial⟩) dX12_feed_48
  · have i3 := m_c4 (rfl : x2.toInt = _) (by decide : (380 : Int32).toInt = 380) c3
    refine lv_iconst (v := (-1)) hx hb dX12_feed_15 (by decide) ?_
    exact m_iret hx hb hr hlocks hW rfl (⟨hI, trivial⟩) dX12_feed_16
set_option maxHeartbeats 4000000 in
set_option maxRecDepth 100000 in
theorem g_X12_end (l : Launch) (D : va_G) (cy : Nat → ClassId) (b : Nat) (S : Nat → Bool) (μ0 : mM) (hS20 : S 20 = true) (hS23 : S 23 = true) (k : Int32) (μ : mM) (hI : IY S μ0 μ) : m_Ci l yX12_end cX12_end 2 ((some .boolean)) 1 D cy b LAY μ [.ref (b + 81), .int k] (fun r ν => IY S μ0 ν ∧ ((r = 1 ∧ (True)) ∨ (r = 0 ∧ (True)))) := by
  unfold m_Ci
  refine m_of (by decide) (Nat.le_of_ble_eq_true rfl) ?_
  intro p e s m below meth c hx hb hr hml hown hts hlocks _ hW ls hl
  have hown : s.vm.findClass RX12 = some m.cls := hown
  have hl : lv_has ls 2 [(0, .ref (b + 81)), (1, .int k)] := hl
  refine lv_aload_n hx hb dX12_end_0 rfl (lv_at hl 0 rfl) ?_
  refine lv_iconst (v := 0) hx hb dX12_end_1 (by decide) ?_
  refine m_puti hx hb hts hown hW (81) 0 rfl rfl cw_12 tyX12_ok nmX12 rfl (by decide) k_X12_167 rfl rfl rfl dX12_end_2 (fun H locs hW _ => ?_)
  generalize hμ1 : m_si μ (81) 0 0 = μ1 at hW
  have hI := hI.si0 hμ1 rfl hS20
  refine lv_aload_n hx hb dX12_end_5 rfl (lv_at hl 0 rfl) ?_
  refine lv_iload_n hx hb dX12_end_6 rfl (lv_at hl 1 rfl) ?_
  refine lv_iconst (v := 0) hx hb dX12_end_7 (by decide) ?_
  refine lv_aload_n hx hb dX12_end_8 rfl (lv_at hl 0 rfl) ?_
  refine m_geti hx hb hts hown hW (81) 35 rfl rfl cw_12 rfl (by decide) k_X12_239 dX12_end_9 ?_
  refine lv_topi (fun x2 ex2 => ?_)
  have bx2 : 0 ≤ x2.toInt ∧ x2.toInt ≤ 400 := by rw [ex2]; exact hI.1 _ _ _ _ rfl
  have l_0 : (0 : Int32).toInt = 0 := by decide
  refine m_aI hW (m_runV (As := [.int k, .int 0, .int x2]) (rest := []) hx hb hml hown hts hW (81) (g_X12_isIn l D cy b k 0 x2 μ1 hI.1) mi_X12_isIn k_X12_170 rfl rfl rfl hl.1 rfl (Nat.le_of_ble_eq_true rfl) dX12_end_12 ⟨Nat.le_of_ble_eq_true rfl, Nat.le_of_ble_eq_true rfl⟩ ⟨Nat.le_of_ble_eq_true rfl, Nat.le_of_ble_eq_true rfl⟩) (fun x3 μ3 H locs q3 hW => ?_)
  obtain ⟨q3_m, q3⟩ := q3
  subst q3_m
  rcases q3 with ⟨rfl, q3⟩ | ⟨rfl, q3⟩
  · refine lv_if_ne (tgt := 20) hx hb dX12_end_15 (by decide) (fun _ => ?_) (fun c => False.elim (by revert c; decide))
    refine lv_aload_n hx hb dX12_end_20 rfl (lv_at hl 0 rfl) ?_
    refine lv_iload_n hx hb dX12_end_21 rfl (lv_at hl 1 rfl) ?_
    refine m_puti hx hb hts hown hW (81) 35 rfl rfl cw_12 tyX12_ok nmX12 rfl (by decide) k_X12_239 rfl rfl rfl dX12_end_22 (fun H locs hW _ => ?_)
    generalize hμ4 : m_si μ1 (81) 35 k = μ4 at hW
    have hI := hI.si1 hμ4 rfl (by omega) hS23
    refine lv_iconst (v := 1) hx hb dX12_end_25 (by decide) ?_
    exact m_iret hx hb hr hlocks hW (by decide) (⟨hI, Or.inl ⟨rfl, trivial⟩⟩) dX12_end_26
  · refine lv_if_ne (tgt := 20) hx hb dX12_end_15 (by decide) (fun c => False.elim (by revert c; decide)) (fun _ => ?_)
    refine lv_iconst (v := 0) hx hb dX12_end_18 (by decide) ?_
    exact m_iret hx hb hr hlocks hW (by decide) (⟨hI, Or.inr ⟨rfl, trivial⟩⟩) dX12_end_19
set_option maxHeartbeats 4000000 in
set_option maxRecDepth 100000 in
theorem g_X12_fault (l : Launch) (D : va_G) (cy : Nat → ClassId) (b : Nat) (S : Nat → Bool) (μ0 : mM) (hS20 : S 20 = true) (k : Int32) (μ : mM) (hI : IY S μ0 μ) : m_Ci l yX12_fault cX12_fault 2 ((some .int)) 0 D cy b LAY μ [.ref (b + 81), .int k] (fun r ν => IY S μ0 ν ∧ (True)) := by
  unfold m_Ci
  refine m_of (by decide) (Nat.le_of_ble_eq_true rfl) ?_
  intro p e s m below meth c hx hb hr hml hown hts hlocks _ hW ls hl
  have hown : s.vm.findClass RX12 = some m.cls := hown
  have hl : lv_has ls 2 [(0, .ref (b + 81)), (1, .int k)] := hl
  refine lv_aload_n hx hb dX12_fault_0 rfl (lv_at hl 0 rfl) ?_
  refine lv_iconst (v := 0) hx hb dX12_fault_1 (by decide) ?_
  refine m_puti hx hb hts hown hW (81) 0 rfl rfl cw_12 tyX12_ok nmX12 rfl (by decide) k_X12_167 rfl rfl rfl dX12_fault_2 (fun H locs hW _ => ?_)
  generalize hμ1 : m_si μ (81) 0 0 = μ1 at hW
  have hI := hI.si0 hμ1 rfl hS20
  refine lv_iload_n hx hb dX12_fault_5 rfl (lv_at hl 1 rfl) ?_
  refine lv_if_ne (tgt := 16) hx hb dX12_fault_6 (by decide) (fun c2 => ?_) (fun c2 => ?_)
  · have i2 := m_c6 (rfl : k.toInt = _) (by decide : (0 : Int32).toInt = 0) c2
    refine lv_iload_n hx hb dX12_fault_16 rfl (lv_at hl 1 rfl) ?_
    refine lv_iconst (v := 1) hx hb dX12_fault_17 (by decide) ?_
    refine lv_icmp_ne (tgt := 28) hx hb dX12_fault_18 (by decide) (fun c3 => ?_) (fun c3 => ?_)
    · have i3 := m_c6 (rfl : k.toInt = _) (by decide : (1 : Int32).toInt = 1) c3
      refine lv_iconst (v := (-1)) hx hb dX12_fault_28 (by decide) ?_
      exact m_iret hx hb hr hlocks hW rfl (⟨hI, trivial⟩) dX12_fault_29
    · have i3 := m_c5 (rfl : k.toInt = _) (by decide : (1 : Int32).toInt = 1) c3
      refine lv_aload_n hx hb dX12_fault_21 rfl (lv_at hl 0 rfl) ?_
      refine m_geti hx hb hts hown hW (81) 57 rfl rfl cw_12 rfl (by decide) k_X12_134 dX12_fault_22 ?_
      refine lv_topi (fun x4 ex4 => ?_)
      refine lv_goto (tgt := 29) hx hb dX12_fault_25 (by decide) ?_
      exact m_iret hx hb hr hlocks hW rfl (⟨hI, trivial⟩) dX12_fault_29
  · have i2 := m_c5 (rfl : k.toInt = _) (by decide : (0 : Int32).toInt = 0) c2
    refine lv_aload_n hx hb dX12_fault_9 rfl (lv_at hl 0 rfl) ?_
    refine m_geti hx hb hts hown hW (81) 56 rfl rfl cw_12 rfl (by decide) k_X12_329 dX12_fault_10 ?_
    refine lv_topi (fun x5 ex5 => ?_)
    refine lv_goto (tgt := 29) hx hb dX12_fault_13 (by decide) ?_
    exact m_iret hx hb hr hlocks hW rfl (⟨hI, trivial⟩) dX12_fault_29
set_option maxHeartbeats 4000000 in
set_option maxRecDepth 100000 in
theorem L_X12_cellsAs_17 {p : Program} {l : Launch} {e : Env} {s : State} {m : MethodId} {args : Array Value} {below : List Frame} {meth : Method} {c : Code} {D : va_G} {cy : Nat → ClassId} {b : Nat} (hx : p.tables.exec = Jvm.exec) (hb : c.code = cX12_cellsAs) (hr : meth.sig.returnType = ((some .int))) (hml : c.maxLocals = 8) (hown : s.vm.findClass RX12 = some m.cls) (hts : ∀ w ∈ TB, w.before args s = true) (hlocks : meth.locks = false) (μ1 : mM) (d k : Int32) (h_d : 0 ≤ d.toInt ∧ d.toInt ≤ 1) (F5 : Nat) (O5 : ∀ (y3 y4 : Int32) (hy : 0 ≤ y4.toInt ∧ y4.toInt ≤ 12) (hf : 12 - y4.toInt < (F5 : Int)) (μ : mM) (hI : IX μ) (hm : μ = μ1) (H : Heap) (locs : List Loc), m_WA (m_A b LAY) D cy s b LAY μ H locs → ∀ ls : Array Slot, lv_has ls 8 [(0, .ref (b + 81)), (1, .int d), (2, .int k), (3, .int y3), (4, .int y4)] → W p l e (m_R 0 0 0) s m args below meth c H locs 0 0 (MQ below (m_Qi D cy b LAY (fun r ν => μ1 = ν ∧ (True))) args s 0 0 (m_A b LAY)) (F0 m 5 ls [])) : ∀ (f : Nat), ∀ (y3 y4 y5 : Int32) (hy : 12 - y4.toInt < (F5 : Int) + 1 ∧ 0 ≤ y4.toInt ∧ y4.toInt ≤ 11 ∧ 0 ≤ y5.toInt ∧ y5.toInt ≤ 16 ∧ 0 ≤ y4.toInt ∧ y4.toInt ≤ 12) (hf : 16 - y5.toInt < (f : Int)) (μ : mM) (hI : IX μ) (hm : μ = μ1) (H : Heap) (locs : List Loc), m_WA (m_A b LAY) D cy s b LAY μ H locs → ∀ ls : Array Slot, lv_has ls 8 [(0, .ref (b + 81)), (1, .int d), (2, .int k), (3, .int y3), (4, .int y4), (5, .int y5)] → W p l e (m_R 0 0 0) s m args below meth c H locs 0 0 (MQ below (m_Qi D cy b LAY (fun r ν => μ1 = ν ∧ (True))) args s 0 0 (m_A b LAY)) (F0 m 17 ls []) := by
  intro f
  induction f with
  | zero => intro y3 y4 y5 hy hf; exfalso; omega
  | succ f ih =>
    intro y3 y4 y5 hy hf μ hI hm H locs hW ls hl
    refine lv_iload hx hb dX12_cellsAs_17 (lv_at hl 5 rfl) ?_
    refine lv_aload_n hx hb dX12_cellsAs_19 rfl (lv_at hl 0 rfl) ?_
    refine m_geti hx hb hts hown hW (81) 6 rfl rfl cw_12 rfl (by decide) k_X12_177 dX12_cellsAs_20 ?_
    refine lv_topi (fun x1 ex1 => ?_)
    have bx1 : 0 ≤ x1.toInt ∧ x1.toInt ≤ 16 := by rw [ex1]; exact hI _ _ _ _ rfl
    refine lv_icmp_ge (tgt := 126) hx hb dX12_cellsAs_23 (by decide) (fun c2 => ?_) (fun c2 => ?_)
    · have i2 := m_c3 (rfl : x1.toInt = _) (rfl : y5.toInt = _) c2
      obtain ⟨x3, ex3⟩ : ∃ z : Int32, z = y4 + 1 := ⟨_, rfl⟩
      refine lv_iinc (v := x3) (lv' := [(4, .int x3), (0, .ref (b + 81)), (1, .int d), (2, .int k), (3, .int y3), (5, .int y5)]) hx hb dX12_cellsAs_126 hl (k := 4) rfl (by rw [ex3]; rfl) (by decide) rfl (fun ls hl => ?_)
      have tx3 : x3.toInt = y4.toInt + 1 := m_addI ex3 (rfl : y4.toInt = _) (by decide : (1 : Int32).toInt = 1) (by omega) (by omega)
      refine lv_goto (tgt := 5) hx hb dX12_cellsAs_129 (by decide) ?_
      exact O5 y3 x3 (by omega) (by omega) μ hI hm _ _ hW ls (lv_sub hl [1, 2, 3, 4, 0] rfl)
    · have i2 := m_c4 (rfl : x1.toInt = _) (rfl : y5.toInt = _) c2
      refine lv_sipush (v := 192) hx hb dX12_cellsAs_26 (by decide) ?_
      refine lv_iload_n hx hb dX12_cellsAs_29 rfl (lv_at hl 1 rfl) ?_
      refine lv_imul hx hb dX12_cellsAs_30 ?_
      refine lv_topi (fun x4 ex4 => ?_)
      have tx4 : x4.toInt = 192 * d.toInt := m_mulI ex4 (by decide : (192 : Int32).toInt = 192) (rfl : d.toInt = _) (by omega) (by omega)
      refine lv_bipush (v := 16) hx hb dX12_cellsAs_31 (by decide) ?_
      refine lv_iload hx hb dX12_cellsAs_33 (lv_at hl 4 rfl) ?_
      refine lv_imul hx hb dX12_cellsAs_35 ?_
      refine lv_topi (fun x5 ex5 => ?_)
      have tx5 : x5.toInt = 16 * y4.toInt := m_mulI ex5 (by decide : (16 : Int32).toInt = 16) (rfl : y4.toInt = _) (by omega) (by omega)
      refine lv_iadd hx hb dX12_cellsAs_36 ?_
      refine lv_topi (fun x6 ex6 => ?_)
      have tx6 : x6.toInt = x4.toInt + x5.toInt := m_addI ex6 (rfl : x4.toInt = _) (rfl : x5.toInt = _) (by omega) (by omega)
      refine lv_iload hx hb dX12_cellsAs_37 (lv_at hl 5 rfl) ?_
      refine lv_iadd hx hb dX12_cellsAs_39 ?_
      refine lv_topi (fun x7 ex7 => ?_)
      have tx7 : x7.toInt = x6.toInt + y5.toInt := m_addI ex7 (rfl : x6.toInt = _) (rfl : y5.toInt = _) (by omega) (by omega)
      refine lv_istore (lv' := [(6, .int x7), (0, .ref (b + 81)), (1, .int d), (2, .int k), (3, .int y3), (4, .int y4), (5, .int y5)]) hx hb dX12_cellsAs_40 hl (by decide) rfl (fun ls hl => ?_)
      refine lv_iload_n hx hb dX12_cellsAs_42 rfl (lv_at hl 3 rfl) ?_
      refine lv_iconst (v := 3) hx hb dX12_cellsAs_43 (by decide) ?_
      refine lv_icmp_ge (tgt := 66) hx hb dX12_cellsAs_44 (by decide) (fun c8 => ?_) (fun c8 => ?_)
      · have i8 := m_c3 (by decide : (3 : Int32).toInt = 3) (rfl : k.toInt = _) c8
        refine lv_aload_n hx hb dX12_cellsAs_66 rfl (lv_at hl 1 rfl) ?_
        refine m_getr hx hb hts hown hW (81) 15 (88) rfl rfl cw_12 rfl (by decide) k_X12_39 dX12_cellsAs_67 ?_
        refine lv_iload hx hb dX12_cellsAs_70 (lv_at hl 0 rfl) ?_
        refine m_iald hx hb hW (88) rfl (m_ixI (rfl : x7.toInt = _) (by omega) (by omega)) dX12_cellsAs_72 ?_
        refine lv_topi (fun x9 ex9 => ?_)
        refine lv_if_ne (tgt := 108) hx hb dX12_cellsAs_73 (by decide) (fun c10 => ?_) (fun c10 => ?_)
        · have i10 := m_c6 (rfl : x9.toInt = _) (by decide : (0 : Int32).toInt = 0) c10
          refine lv_iconst (v := 0) hx hb dX12_cellsAs_108 (by decide) ?_
          refine lv_istore (lv' := [(7, .int 0), (6, .int x7), (0, .ref (b + 81)), (1, .int d), (2, .int k), (3, .int y3), (4, .int y4), (5, .int y5)]) hx hb dX12_cellsAs_109 hl (by decide) rfl (fun ls hl => ?_)
          refine lv_iload hx hb dX12_cellsAs_111 (lv_at hl 0 rfl) ?_
          refine lv_if_eq (tgt := 120) hx hb dX12_cellsAs_113 (by decide) (fun _ => ?_) (fun c => False.elim (by revert c; decide))
          obtain ⟨x11, ex11⟩ : ∃ z : Int32, z = y5 + 1 := ⟨_, rfl⟩
          refine lv_iinc (v := x11) (lv' := [(5, .int x11), (7, .int 0), (6, .int x7), (0, .ref (b + 81)), (1, .int d), (2, .int k), (3, .int y3), (4, .int y4)]) hx hb dX12_cellsAs_120 hl (k := 7) rfl (by rw [ex11]; rfl) (by decide) rfl (fun ls hl => ?_)
          have tx11 : x11.toInt = y5.toInt + 1 := m_addI ex11 (rfl : y5.toInt = _) (by decide : (1 : Int32).toInt = 1) (by omega) (by omega)
          refine lv_goto (tgt := 17) hx hb dX12_cellsAs_123 (by decide) ?_
          exact ih y3 y4 x11 (by omega) (by omega) μ hI hm _ _ hW ls (lv_sub hl [3, 4, 5, 6, 7, 0] rfl)
        · have i10 := m_c5 (rfl : x9.toInt = _) (by decide : (0 : Int32).toInt = 0) c10
          refine lv_iload_n hx hb dX12_cellsAs_76 rfl (lv_at hl 3 rfl) ?_
          refine lv_iconst (v := 3) hx hb dX12_cellsAs_77 (by decide) ?_
          refine lv_icmp_ne (tgt := 94) hx hb dX12_cellsAs_78 (by decide) (fun c12 => ?_) (fun c12 => ?_)
          · have i12 := m_c6 (rfl : k.toInt = _) (by decide : (3 : Int32).toInt = 3) c12
            refine lv_aload_n hx hb dX12_cellsAs_94 rfl (lv_at hl 1 rfl) ?_
            refine m_getr hx hb hts hown hW (81) 16 (89) rfl rfl cw_12 rfl (by decide) k_X12_42 dX12_cellsAs_95 ?_
            refine lv_iload hx hb dX12_cellsAs_98 (lv_at hl 0 rfl) ?_
            refine m_zald hx hb hW (89) rfl (m_ixI (rfl : x7.toInt = _) (by omega) (by omega)) dX12_cellsAs_100 ?_
            refine lv_topi (fun x13 ex13 => ?_)
            have bx13 : 0 ≤ x13.toInt ∧ x13.toInt ≤ 1 := by rw [ex13]; exact hI _ _ _ _ rfl
            refine lv_if_eq (tgt := 108) hx hb dX12_cellsAs_101 (by decide) (fun c14 => ?_) (fun c14 => ?_)
            · have i14 := m_c5 (rfl : x13.toInt = _) (by decide : (0 : Int32).toInt = 0) c14
              refine lv_iconst (v := 0) hx hb dX12_cellsAs_108 (by decide) ?_
              refine lv_istore (lv' := [(7, .int 0), (6, .int x7), (0, .ref (b + 81)), (1, .int d), (2, .int k), (3, .int y3), (4, .int y4), (5, .int y5)]) hx hb dX12_cellsAs_109 hl (by decide) rfl (fun ls hl => ?_)
              refine lv_iload hx hb dX12_cellsAs_111 (lv_at hl 0 rfl) ?_
              refine lv_if_eq (tgt := 120) hx hb dX12_cellsAs_113 (by decide) (fun _ => ?_) (fun c => False.elim (by revert c; decide))
              obtain ⟨x15, ex15⟩ : ∃ z : Int32, z = y5 + 1 := ⟨_, rfl⟩
              refine lv_iinc (v := x15) (lv' := [(5, .int x15), (7, .int 0), (6, .int x7), (0, .ref (b + 81)), (1, .int d), (2, .int k), (3, .int y3), (4, .int y4)]) hx hb dX12_cellsAs_120 hl (k := 7) rfl (by rw [ex15]; rfl) (by decide) rfl (fun ls hl => ?_)
              have tx15 : x15.toInt = y5.toInt + 1 := m_addI ex15 (rfl : y5.toInt = _) (by decide : (1 : Int32).toInt = 1) (by omega) (by omega)
              refine lv_goto (tgt := 17) hx hb dX12_cellsAs_123 (by decide) ?_
              exact ih y3 y4 x15 (by omega) (by omega) μ hI hm _ _ hW ls (lv_sub hl [3, 4, 5, 6, 7, 0] rfl)
            · have i14 := m_c6 (rfl : x13.toInt = _) (by decide : (0 : Int32).toInt = 0) c14
              refine lv_iconst (v := 1) hx hb dX12_cellsAs_104 (by decide) ?_
              refine lv_goto (tgt := 109) hx hb dX12_cellsAs_105 (by decide) ?_
              refine lv_istore (lv' := [(7, .int 1), (6, .int x7), (0, .ref (b + 81)), (1, .int d), (2, .int k), (3, .int y3), (4, .int y4), (5, .int y5)]) hx hb dX12_cellsAs_109 hl (by decide) rfl (fun ls hl => ?_)
              refine lv_iload hx hb dX12_cellsAs_111 (lv_at hl 0 rfl) ?_
              refine lv_if_eq (tgt := 120) hx hb dX12_cellsAs_113 (by decide) (fun c => False.elim (by revert c; decide)) (fun _ => ?_)
              refine lv_iload_n hx hb dX12_cellsAs_116 rfl (lv_at hl 5 rfl) ?_
              refine lv_iconst (v := 1) hx hb dX12_cellsAs_117 (by decide) ?_
              refine lv_iadd hx hb dX12_cellsAs_118 ?_
              refine lv_topi (fun x16 ex16 => ?_)
              refine lv_istore_n (lv' := [(3, .int x16), (7, .int 1), (6, .int x7), (0, .ref (b + 81)), (1, .int d), (2, .int k), (4, .int y4), (5, .int y5)]) hx hb dX12_cellsAs_119 rfl hl (by decide) rfl (fun ls hl => ?_)
              obtain ⟨x17, ex17⟩ : ∃ z : Int32, z = y5 + 1 := ⟨_, rfl⟩
              refine lv_iinc (v := x17) (lv' := [(5, .int x17), (3, .int x16), (7, .int 1), (6, .int x7), (0, .ref (b + 81)), (1, .int d), (2, .int k), (4, .int y4)]) hx hb dX12_cellsAs_120 hl (k := 7) rfl (by rw [ex17]; rfl) (by decide) rfl (fun ls hl => ?_)
              have tx17 : x17.toInt = y5.toInt + 1 := m_addI ex17 (rfl : y5.toInt = _) (by decide : (1 : Int32).toInt = 1) (by omega) (by omega)
              refine lv_goto (tgt := 17) hx hb dX12_cellsAs_123 (by decide) ?_
              exact ih x16 y4 x17 (by omega) (by omega) μ hI hm _ _ hW ls (lv_sub hl [4, 5, 6, 1, 7, 0] rfl)
          · have i12 := m_c5 (rfl : k.toInt = _) (by decide : (3 : Int32).toInt = 3) c12
            refine lv_aload_n hx hb dX12_cellsAs_81 rfl (lv_at hl 1 rfl) ?_
            refine m_getr hx hb hts hown hW (81) 17 (90) rfl rfl cw_12 rfl (by decide) k_X12_46 dX12_cellsAs_82 ?_
            refine lv_iload hx hb dX12_cellsAs_85 (lv_at hl 0 rfl) ?_
            refine m_zald hx hb hW (90) rfl (m_ixI (rfl : x7.toInt = _) (by omega) (by omega)) dX12_cellsAs_87 ?_
            refine lv_topi (fun x18 ex18 => ?_)
            have bx18 : 0 ≤ x18.toInt ∧ x18.toInt ≤ 1 := by rw [ex18]; exact hI _ _ _ _ rfl
            refine lv_if_eq (tgt := 108) hx hb dX12_cellsAs_88 (by decide) (fun c19 => ?_) (fun c19 => ?_)
            · have i19 := m_c5 (rfl : x18.toInt = _) (by decide : (0 : Int32).toInt = 0) c19
              refine lv_iconst (v := 0) hx hb dX12_cellsAs_108 (by decide) ?_
              refine lv_istore (lv' := [(7, .int 0), (6, .int x7), (0, .ref (b + 81)), (1, .int d), (2, .int k), (3, .int y3), (4, .int y4), (5, .int y5)]) hx hb dX12_cellsAs_109 hl (by decide) rfl (fun ls hl => ?_)
              refine lv_iload hx hb dX12_cellsAs_111 (lv_at hl 0 rfl) ?_
              refine lv_if_eq (tgt := 120) hx hb dX12_cellsAs_113 (by decide) (fun _ => ?_) (fun c => False.elim (by revert c; decide))
              obtain ⟨x20, ex20⟩ : ∃ z : Int32, z = y5 + 1 := ⟨_, rfl⟩
              refine lv_iinc (v := x20) (lv' := [(5, .int x20), (7, .int 0), (6, .int x7), (0, .ref (b + 81)), (1, .int d), (2, .int k), (3, .int y3), (4, .int y4)]) hx hb dX12_cellsAs_120 hl (k := 7) rfl (by rw [ex20]; rfl) (by decide) rfl (fun ls hl => ?_)
              have tx20 : x20.toInt = y5.toInt + 1 := m_addI ex20 (rfl : y5.toInt = _) (by decide : (1 : Int32).toInt = 1) (by omega) (by omega)
              refine lv_goto (tgt := 17) hx hb dX12_cellsAs_123 (by decide) ?_
              exact ih y3 y4 x20 (by omega) (by omega) μ hI hm _ _ hW ls (lv_sub hl [3, 4, 5, 6, 7, 0] rfl)
            · have i19 := m_c6 (rfl : x18.toInt = _) (by decide : (0 : Int32).toInt = 0) c19
              refine lv_goto (tgt := 104) hx hb dX12_cellsAs_91 (by decide) ?_
              refine lv_iconst (v := 1) hx hb dX12_cellsAs_104 (by decide) ?_
              refine lv_goto (tgt := 109) hx hb dX12_cellsAs_105 (by decide) ?_
              refine lv_istore (lv' := [(7, .int 1), (6, .int x7), (0, .ref (b + 81)), (1, .int d), (2, .int k), (3, .int y3), (4, .int y4), (5, .int y5)]) hx hb dX12_cellsAs_109 hl (by decide) rfl (fun ls hl => ?_)
              refine lv_iload hx hb dX12_cellsAs_111 (lv_at hl 0 rfl) ?_
              refine lv_if_eq (tgt := 120) hx hb dX12_cellsAs_113 (by decide) (fun c => False.elim (by revert c; decide)) (fun _ => ?_)
              refine lv_iload_n hx hb dX12_cellsAs_116 rfl (lv_at hl 5 rfl) ?_
              refine lv_iconst (v := 1) hx hb dX12_cellsAs_117 (by decide) ?_
              refine lv_iadd hx hb dX12_cellsAs_118 ?_
              refine lv_topi (fun x21 ex21 => ?_)
              refine lv_istore_n (lv' := [(3, .int x21), (7, .int 1), (6, .int x7), (0, .ref (b + 81)), (1, .int d), (2, .int k), (4, .int y4), (5, .int y5)]) hx hb dX12_cellsAs_119 rfl hl (by decide) rfl (fun ls hl => ?_)
              obtain ⟨x22, ex22⟩ : ∃ z : Int32, z = y5 + 1 := ⟨_, rfl⟩
              refine lv_iinc (v := x22) (lv' := [(5, .int x22), (3, .int x21), (7, .int 1), (6, .int x7), (0, .ref (b + 81)), (1, .int d), (2, .int k), (4, .int y4)]) hx hb dX12_cellsAs_120 hl (k := 7) rfl (by rw [ex22]; rfl) (by decide) rfl (fun ls hl => ?_)
              have tx22 : x22.toInt = y5.toInt + 1 := m_addI ex22 (rfl : y5.toInt = _) (by decide : (1 : Int32).toInt = 1) (by omega) (by omega)
              refine lv_goto (tgt := 17) hx hb dX12_cellsAs_123 (by decide) ?_
              exact ih x21 y4 x22 (by omega) (by omega) μ hI hm _ _ hW ls (lv_sub hl [4, 5, 6, 1, 7, 0] rfl)
      · have i8 := m_c4 (by decide : (3 : Int32).toInt = 3) (rfl : k.toInt = _) c8
        refine lv_aload_n hx hb dX12_cellsAs_47 rfl (lv_at hl 1 rfl) ?_
        refine m_getr hx hb hts hown hW (81) 15 (88) rfl rfl cw_12 rfl (by decide) k_X12_39 dX12_cellsAs_48 ?_
        refine lv_iload hx hb dX12_cellsAs_51 (lv_at hl 0 rfl) ?_
        refine m_iald hx hb hW (88) rfl (m_ixI (rfl : x7.toInt = _) (by omega) (by omega)) dX12_cellsAs_53 ?_
        refine lv_topi (fun x23 ex23 => ?_)
        refine lv_iload_n hx hb dX12_cellsAs_54 rfl (lv_at hl 3 rfl) ?_
        refine lv_icmp_ne (tgt := 62) hx hb dX12_cellsAs_55 (by decide) (fun c24 => ?_) (fun c24 => ?_)
        · have i24 := m_c6 (rfl : x23.toInt = _) (rfl : k.toInt = _) c24
          refine lv_iconst (v := 0) hx hb dX12_cellsAs_62 (by decide) ?_
          refine lv_goto (tgt := 109) hx hb dX12_cellsAs_63 (by decide) ?_
          refine lv_istore (lv' := [(7, .int 0), (6, .int x7), (0, .ref (b + 81)), (1, .int d), (2, .int k), (3, .int y3), (4, .int y4), (5, .int y5)]) hx hb dX12_cellsAs_109 hl (by decide) rfl (fun ls hl => ?_)
          refine lv_iload hx hb dX12_cellsAs_111 (lv_at hl 0 rfl) ?_
          refine lv_if_eq (tgt := 120) hx hb dX12_cellsAs_113 (by decide) (fun _ => ?_) (fun c => False.elim (by revert c; decide))
          obtain ⟨x25, ex25⟩ : ∃ z : Int32, z = y5 + 1 := ⟨_, rfl⟩
          refine lv_iinc (v := x25) (lv' := [(5, .int x25), (7, .int 0), (6, .int x7), (0, .ref (b + 81)), (1, .int d), (2, .int k), (3, .int y3), (4, .int y4)]) hx hb dX12_cellsAs_120 hl (k := 7) rfl (by rw [ex25]; rfl) (by decide) rfl (fun ls hl => ?_)
          have tx25 : x25.toInt = y5.toInt + 1 := m_addI ex25 (rfl : y5.toInt = _) (by decide : (1 : Int32).toInt = 1) (by omega) (by omega)
          refine lv_goto (tgt := 17) hx hb dX12_cellsAs_123 (by decide) ?_
          exact ih y3 y4 x25 (by omega) (by omega) μ hI hm _ _ hW ls (lv_sub hl [3, 4, 5, 6, 7, 0] rfl)
        · have i24 := m_c5 (rfl : x23.toInt = _) (rfl : k.toInt = _) c24
          refine lv_iconst (v := 1) hx hb dX12_cellsAs_58 (by decide) ?_
          refine lv_goto (tgt := 109) hx hb dX12_cellsAs_59 (by decide) ?_
          refine lv_istore (lv' := [(7, .int 1), (6, .int x7), (0, .ref (b + 81)), (1, .int d), (2, .int k), (3, .int y3), (4, .int y4), (5, .int y5)]) hx hb dX12_cellsAs_109 hl (by decide) rfl (fun ls hl => ?_)
          refine lv_iload hx hb dX12_cellsAs_111 (lv_at hl 0 rfl) ?_
          refine lv_if_eq (tgt := 120) hx hb dX12_cellsAs_113 (by decide) (fun c => False.elim (by revert c; decide)) (fun _ => ?_)
          refine lv_iload_n hx hb dX12_cellsAs_116 rfl (lv_at hl 5 rfl) ?_
          refine lv_iconst (v := 1) hx hb dX12_cellsAs_117 (by decide) ?_
          refine lv_iadd hx hb dX12_cellsAs_118 ?_
          refine lv_topi (fun x26 ex26 => ?_)
          refine lv_istore_n (lv' := [(3, .int x26), (7, .int 1), (6, .int x7), (0, .ref (b + 81)), (1, .int d), (2, .int k), (4, .int y4), (5, .int y5)]) hx hb dX12_cellsAs_119 rfl hl (by decide) rfl (fun ls hl => ?_)
          obtain ⟨x27, ex27⟩ : ∃ z : Int32, z = y5 + 1 := ⟨_, rfl⟩
          refine lv_iinc (v := x27) (lv' := [(5, .int x27), (3, .int x26), (7, .int 1), (6, .int x7), (0, .ref (b + 81)), (1, .int d), (2, .int k), (4, .int y4)]) hx hb dX12_cellsAs_120 hl (k := 7) rfl (by rw [ex27]; rfl) (by decide) rfl (fun ls hl => ?_)
          have tx27 : x27.toInt = y5.toInt + 1 := m_addI ex27 (rfl : y5.toInt = _) (by decide : (1 : Int32).toInt = 1) (by omega) (by omega)
          refine lv_goto (tgt := 17) hx hb dX12_cellsAs_123 (by decide) ?_
          exact ih x26 y4 x27 (by omega) (by omega) μ hI hm _ _ hW ls (lv_sub hl [4, 5, 6, 1, 7, 0] rfl)
set_option maxHeartbeats 4000000 in
set_option maxRecDepth 100000 in
theorem L_X12_cellsAs_5 {p : Program} {l : Launch} {e : Env} {s : State} {m : MethodId} {args : Array Value} {below : List Frame} {meth : Method} {c : Code} {D : va_G} {cy : Nat → ClassId} {b : Nat} (hx : p.tables.exec = Jvm.exec) (hb : c.code = cX12_cellsAs) (hr : meth.sig.returnType = ((some .int))) (hml : c.maxLocals = 8) (hown : s.vm.findClass RX12 = some m.cls) (hts : ∀ w ∈ TB, w.before args s = true) (hlocks : meth.locks = false) (μ1 : mM) (d k : Int32) (h_d : 0 ≤ d.toInt ∧ d.toInt ≤ 1) : ∀ (f : Nat), ∀ (y3 y4 : Int32) (hy : 0 ≤ y4.toInt ∧ y4.toInt ≤ 12) (hf : 12 - y4.toInt < (f : Int)) (μ : mM) (hI : IX μ) (hm : μ = μ1) (H : Heap) (locs : List Loc), m_WA (m_A b LAY) D cy s b LAY μ H locs → ∀ ls : Array Slot, lv_has ls 8 [(0, .ref (b + 81)), (1, .int d), (2, .int k), (3, .int y3), (4, .int y4)] → W p l e (m_R 0 0 0) s m args below meth c H locs 0 0 (MQ below (m_Qi D cy b LAY (fun r ν => μ1 = ν ∧ (True))) args s 0 0 (m_A b LAY)) (F0 m 5 ls []) := by
  intro f
  induction f with
  | zero => intro y3 y4 hy hf; exfalso; omega
  | succ f ih =>
    intro y3 y4 hy hf μ hI hm H locs hW ls hl
    refine lv_iload hx hb dX12_cellsAs_5 (lv_at hl 4 rfl) ?_
    refine lv_aload_n hx hb dX12_cellsAs_7 rfl (lv_at hl 0 rfl) ?_
    refine m_geti hx hb hts hown hW (81) 7 rfl rfl cw_12 rfl (by decide) k_X12_180 dX12_cellsAs_8 ?_
    refine lv_topi (fun x1 ex1 => ?_)
    have bx1 : 0 ≤ x1.toInt ∧ x1.toInt ≤ 12 := by rw [ex1]; exact hI _ _ _ _ rfl
    refine lv_icmp_ge (tgt := 132) hx hb dX12_cellsAs_11 (by decide) (fun c2 => ?_) (fun c2 => ?_)
    · have i2 := m_c3 (rfl : x1.toInt = _) (rfl : y4.toInt = _) c2
      refine lv_iload_n hx hb dX12_cellsAs_132 rfl (lv_at hl 3 rfl) ?_
      exact m_iret hx hb hr hlocks hW rfl (⟨hm.symm, trivial⟩) dX12_cellsAs_133
    · have i2 := m_c4 (rfl : x1.toInt = _) (rfl : y4.toInt = _) c2
      refine lv_iconst (v := 0) hx hb dX12_cellsAs_14 (by decide) ?_
      refine lv_istore (lv' := [(5, .int 0), (0, .ref (b + 81)), (1, .int d), (2, .int k), (3, .int y3), (4, .int y4)]) hx hb dX12_cellsAs_15 hl (by decide) rfl (fun ls hl => ?_)
      have l_0 : (0 : Int32).toInt = 0 := by decide
      exact L_X12_cellsAs_17 hx hb hr hml hown hts hlocks μ1 d k h_d f ih 17 y3 y4 0 (by omega) (by omega) μ hI hm _ _ hW ls (lv_sub hl [1, 2, 3, 4, 5, 0] rfl)
set_option maxHeartbeats 4000000 in
set_option maxRecDepth 100000 in
theorem g_X12_cellsAs (l : Launch) (D : va_G) (cy : Nat → ClassId) (b : Nat) (d k : Int32) (h_d : 0 ≤ d.toInt ∧ d.toInt ≤ 1) (μ : mM) (hI : IX μ) : m_Ci l yX12_cellsAs cX12_cellsAs 8 ((some .int)) 0 D cy b LAY μ [.ref (b + 81), .int d, .int k] (fun r ν => μ = ν ∧ (True)) := by
  unfold m_Ci
  refine m_of (by decide) (Nat.le_of_ble_eq_true rfl) ?_
  intro p e s m below meth c hx hb hr hml hown hts hlocks _ hW ls hl
  have hown : s.vm.findClass RX12 = some m.cls := hown
  have hl : lv_has ls 8 [(0, .ref (b + 81)), (1, .int d), (2, .int k)] := hl
  refine lv_iconst (v := 0) hx hb dX12_cellsAs_0 (by decide) ?_
  refine lv_istore_n (lv' := [(3, .int 0), (0, .ref (b + 81)), (1, .int d), (2, .int k)]) hx hb dX12_cellsAs_1 rfl hl (by decide) rfl (fun ls hl => ?_)
  refine lv_iconst (v := 0) hx hb dX12_cellsAs_2 (by decide) ?_
  refine lv_istore (lv' := [(4, .int 0), (3, .int 0), (0, .ref (b + 81)), (1, .int d), (2, .int k)]) hx hb dX12_cellsAs_3 hl (by decide) rfl (fun ls hl => ?_)
  have l_0 : (0 : Int32).toInt = 0 := by decide
  exact L_X12_cellsAs_5 hx hb hr hml hown hts hlocks μ d k h_d  13 0 0 (by omega) (by omega) μ hI rfl _ _ hW ls (lv_sub hl [2, 3, 4, 1, 0] rfl)
set_option maxHeartbeats 4000000 in
set_option maxRecDepth 100000 in
theorem L_X12_heat_54 {p : Program} {l : Launch} {e : Env} {s : State} {m : MethodId} {args : Array Value} {below : List Frame} {meth : Method} {c : Code} {D : va_G} {cy : Nat → ClassId} {b : Nat} (hx : p.tables.exec = Jvm.exec) (hb : c.code = cX12_heat) (hr : meth.sig.returnType = ((some .long))) (hml : c.maxLocals = 5) (hown : s.vm.findClass RX12 = some m.cls) (hts : ∀ w ∈ TB, w.before args s = true) (hlocks : meth.locks = false) (S : Nat → Bool) (μ0 : mM) (hS20 : S 20 = true) (k : Int32) : ∀ (f : Nat), ∀ (y4 : Int32) (y2 : Int64) (hy : 0 ≤ y4.toInt ∧ y4.toInt ≤ 192) (hf : 192 - y4.toInt < (f : Int)) (μ : mM) (hI : IY S μ0 μ) (H : Heap) (locs : List Loc), m_WA (m_A b LAY) D cy s b LAY μ H locs → ∀ ls : Array Slot, lv_has ls 5 [(0, .ref (b + 81)), (1, .int k), (2, .long y2), (4, .int y4)] → W p l e (m_R 0 0 0) s m args below meth c H locs 0 0 (MQ below (m_Ql D cy b LAY (fun r ν => IY S μ0 ν ∧ (True))) args s 0 0 (m_A b LAY)) (F0 m 54 ls []) := by
  intro f
  induction f with
  | zero => intro y4 y2 hy hf; exfalso; omega
  | succ f ih =>
    intro y4 y2 hy hf μ hI H locs hW ls hl
    refine lv_iload hx hb dX12_heat_54 (lv_at hl 3 rfl) ?_
    refine lv_sipush (v := 192) hx hb dX12_heat_56 (by decide) ?_
    refine lv_icmp_ge (tgt := 79) hx hb dX12_heat_59 (by decide) (fun c1 => ?_) (fun c1 => ?_)
    · have i1 := m_c3 (by decide : (192 : Int32).toInt = 192) (rfl : y4.toInt = _) c1
      refine lv_lload_n hx hb dX12_heat_79 rfl (lv_at hl 2 rfl) ?_
      exact m_lret hx hb hr hlocks hW (⟨hI, trivial⟩) dX12_heat_80
    · have i1 := m_c4 (by decide : (192 : Int32).toInt = 192) (rfl : y4.toInt = _) c1
      refine lv_lload_n hx hb dX12_heat_62 rfl (lv_at hl 2 rfl) ?_
      refine lv_aload_n hx hb dX12_heat_63 rfl (lv_at hl 0 rfl) ?_
      refine m_getr hx hb hts hown hW (81) 13 (86) rfl rfl cw_12 rfl (by decide) k_X12_33 dX12_heat_64 ?_
      refine lv_iload hx hb dX12_heat_67 (lv_at hl 3 rfl) ?_
      refine m_iald hx hb hW (86) rfl (m_ixI (rfl : y4.toInt = _) (by omega) (by omega)) dX12_heat_69 ?_
      refine lv_topi (fun x2 ex2 => ?_)
      refine lv_i2l hx hb dX12_heat_70 rfl ?_
      refine lv_topl (fun x3 ex3 => ?_)
      refine lv_ladd hx hb dX12_heat_71 ?_
      refine lv_topl (fun x4 ex4 => ?_)
      refine lv_lstore_n (lv' := [(2, .long x4), (0, .ref (b + 81)), (1, .int k), (4, .int y4)]) hx hb dX12_heat_72 rfl hl (by decide) rfl (fun ls hl => ?_)
      obtain ⟨x5, ex5⟩ : ∃ z : Int32, z = y4 + 1 := ⟨_, rfl⟩
      refine lv_iinc (v := x5) (lv' := [(4, .int x5), (2, .long x4), (0, .ref (b + 81)), (1, .int k)]) hx hb dX12_heat_73 hl (k := 3) rfl (by rw [ex5]; rfl) (by decide) rfl (fun ls hl => ?_)
      have tx5 : x5.toInt = y4.toInt + 1 := m_addI ex5 (rfl : y4.toInt = _) (by decide : (1 : Int32).toInt = 1) (by omega) (by omega)
      refine lv_goto (tgt := 54) hx hb dX12_heat_76 (by decide) ?_
      exact ih x5 x4 (by omega) (by omega) μ hI _ _ hW ls (lv_sub hl [2, 3, 1, 0] rfl)
set_option maxHeartbeats 4000000 in
set_option maxRecDepth 100000 in
theorem g_X12_heat (l : Launch) (D : va_G) (cy : Nat → ClassId) (b : Nat) (S : Nat → Bool) (μ0 : mM) (hS20 : S 20 = true) (k : Int32) (μ : mM) (hI : IY S μ0 μ) : m_Cl l yX12_heat cX12_heat 5 ((some .long)) 0 D cy b LAY μ [.ref (b + 81), .int k] (fun r ν => IY S μ0 ν ∧ (True)) := by
  unfold m_Cl
  refine m_of (by decide) (Nat.le_of_ble_eq_true rfl) ?_
  intro p e s m below meth c hx hb hr hml hown hts hlocks _ hW ls hl
  have hown : s.vm.findClass RX12 = some m.cls := hown
  have hl : lv_has ls 5 [(0, .ref (b + 81)), (1, .int k)] := hl
  refine lv_aload_n hx hb dX12_heat_0 rfl (lv_at hl 0 rfl) ?_
  refine lv_iconst (v := 0) hx hb dX12_heat_1 (by decide) ?_
  refine m_puti hx hb hts hown hW (81) 0 rfl rfl cw_12 tyX12_ok nmX12 rfl (by decide) k_X12_167 rfl rfl rfl dX12_heat_2 (fun H locs hW _ => ?_)
  generalize hμ1 : m_si μ (81) 0 0 = μ1 at hW
  have hI := hI.si0 hμ1 rfl hS20
  refine lv_iload_n hx hb dX12_heat_5 rfl (lv_at hl 1 rfl) ?_
  refine lv_if_ne (tgt := 16) hx hb dX12_heat_6 (by decide) (fun c2 => ?_) (fun c2 => ?_)
  · have i2 := m_c6 (rfl : k.toInt = _) (by decide : (0 : Int32).toInt = 0) c2
    refine lv_iload_n hx hb dX12_heat_16 rfl (lv_at hl 1 rfl) ?_
    refine lv_iconst (v := 2) hx hb dX12_heat_17 (by decide) ?_
    refine lv_icmp_ne (tgt := 28) hx hb dX12_heat_18 (by decide) (fun c3 => ?_) (fun c3 => ?_)
    · have i3 := m_c6 (rfl : k.toInt = _) (by decide : (2 : Int32).toInt = 2) c3
      refine lv_iload_n hx hb dX12_heat_28 rfl (lv_at hl 1 rfl) ?_
      refine lv_iconst (v := 3) hx hb dX12_heat_29 (by decide) ?_
      refine lv_icmp_ne (tgt := 40) hx hb dX12_heat_30 (by decide) (fun c4 => ?_) (fun c4 => ?_)
      · have i4 := m_c6 (rfl : k.toInt = _) (by decide : (3 : Int32).toInt = 3) c4
        refine lv_iload_n hx hb dX12_heat_40 rfl (lv_at hl 1 rfl) ?_
        refine lv_iconst (v := 1) hx hb dX12_heat_41 (by decide) ?_
        refine lv_icmp_eq (tgt := 49) hx hb dX12_heat_42 (by decide) (fun c5 => ?_) (fun c5 => ?_)
        · have i5 := m_c5 (rfl : k.toInt = _) (by decide : (1 : Int32).toInt = 1) c5
          refine lv_lconst (v := 0) hx hb dX12_heat_49 (by decide) ?_
          refine lv_lstore_n (lv' := [(2, .long 0), (0, .ref (b + 81)), (1, .int k)]) hx hb dX12_heat_50 rfl hl (by decide) rfl (fun ls hl => ?_)
          refine lv_iconst (v := 0) hx hb dX12_heat_51 (by decide) ?_
          refine lv_istore (lv' := [(4, .int 0), (2, .long 0), (0, .ref (b + 81)), (1, .int k)]) hx hb dX12_heat_52 hl (by decide) rfl (fun ls hl => ?_)
          have l_0 : (0 : Int32).toInt = 0 := by decide
          exact L_X12_heat_54 hx hb hr hml hown hts hlocks S μ0 hS20 k  193 0 0 (by omega) (by omega) μ1 hI _ _ hW ls (lv_sub hl [2, 3, 1, 0] rfl)
        · have i5 := m_c6 (rfl : k.toInt = _) (by decide : (1 : Int32).toInt = 1) c5
          refine lv_ldc2 hx hb hown (hts _ k_X12_381) dX12_heat_45 ?_
          exact m_lret hx hb hr hlocks hW (⟨hI, trivial⟩) dX12_heat_48
      · have i4 := m_c5 (rfl : k.toInt = _) (by decide : (3 : Int32).toInt = 3) c4
        refine lv_aload_n hx hb dX12_heat_33 rfl (lv_at hl 0 rfl) ?_
        refine m_getr hx hb hts hown hW (81) 27 (100) rfl rfl cw_12 rfl (by decide) k_X12_77 dX12_heat_34 ?_
        refine lv_iconst (v := 0) hx hb dX12_heat_37 (by decide) ?_
        refine m_lald hx hb hW (100) rfl (vp_in_iff.mpr ⟨by decide, by decide⟩) dX12_heat_38 ?_
        refine lv_topl (fun x6 ex6 => ?_)
        exact m_lret hx hb hr hlocks hW (⟨hI, trivial⟩) dX12_heat_39
    · have i3 := m_c5 (rfl : k.toInt = _) (by decide : (2 : Int32).toInt = 2) c3
      refine lv_aload_n hx hb dX12_heat_21 rfl (lv_at hl 0 rfl) ?_
      refine m_getr hx hb hts hown hW (81) 26 (99) rfl rfl cw_12 rfl (by decide) k_X12_74 dX12_heat_22 ?_
      refine lv_iconst (v := 0) hx hb dX12_heat_25 (by decide) ?_
      refine m_lald hx hb hW (99) rfl (vp_in_iff.mpr ⟨by decide, by decide⟩) dX12_heat_26 ?_
      refine lv_topl (fun x7 ex7 => ?_)
      exact m_lret hx hb hr hlocks hW (⟨hI, trivial⟩) dX12_heat_27
  · have i2 := m_c5 (rfl : k.toInt = _) (by decide : (0 : Int32).toInt = 0) c2
    refine lv_aload_n hx hb dX12_heat_9 rfl (lv_at hl 0 rfl) ?_
    refine m_getr hx hb hts hown hW (81) 25 (98) rfl rfl cw_12 rfl (by decide) k_X12_70 dX12_heat_10 ?_
    refine lv_iconst (v := 0) hx hb dX12_heat_13 (by decide) ?_
    refine m_lald hx hb hW (98) rfl (vp_in_iff.mpr ⟨by decide, by decide⟩) dX12_heat_14 ?_
    refine lv_topl (fun x8 ex8 => ?_)
    exact m_lret hx hb hr hlocks hW (⟨hI, trivial⟩) dX12_heat_15
set_option maxHeartbeats 4000000 in
set_option maxRecDepth 100000 in
theorem L_X12_ones_4 {p : Program} {l : Launch} {e : Env} {s : State} {m : MethodId} {args : Array Value} {below : List Frame} {meth : Method} {c : Code} {D : va_G} {cy : Nat → ClassId} {b : Nat} (hx : p.tables.exec = Jvm.exec) (hb : c.code = cX12_ones) (hr : meth.sig.returnType = ((some .int))) (hml : c.maxLocals = 4) (hown : s.vm.findClass RX12 = some m.cls) (hts : ∀ w ∈ TB, w.before args s = true) (hlocks : meth.locks = false) (μ1 : mM) (k : Int32) (h_k : 1 ≤ k.toInt ∧ k.toInt ≤ 255) : ∀ (f : Nat), ∀ (y2 y3 : Int32) (hy : 0 ≤ y2.toInt ∧ y2.toInt ≤ 255 ∧ 0 ≤ y3.toInt ∧ y3.toInt ≤ 255 ∧ y2.toInt + y3.toInt ≤ 255) (hf : y3.toInt < (f : Int)) (μ : mM) (hI : IX μ) (hm : μ = μ1) (H : Heap) (locs : List Loc), m_WA (m_A b LAY) D cy s b LAY μ H locs → ∀ ls : Array Slot, lv_has ls 4 [(0, .ref (b + 81)), (1, .int k), (2, .int y2), (3, .int y3)] → W p l e (m_R 0 0 0) s m args below meth c H locs 0 0 (MQ below (m_Qi D cy b LAY (fun r ν => μ1 = ν ∧ (0 ≤ r.toInt ∧ r.toInt ≤ 255))) args s 0 0 (m_A b LAY)) (F0 m 4 ls []) := by
  intro f
  induction f with
  | zero => intro y2 y3 hy hf; exfalso; omega
  | succ f ih =>
    intro y2 y3 hy hf μ hI hm H locs hW ls hl
    refine lv_iload_n hx hb dX12_ones_4 rfl (lv_at hl 3 rfl) ?_
    refine lv_if_eq (tgt := 21) hx hb dX12_ones_5 (by decide) (fun c1 => ?_) (fun c1 => ?_)
    · have i1 := m_c5 (rfl : y3.toInt = _) (by decide : (0 : Int32).toInt = 0) c1
      refine lv_iload_n hx hb dX12_ones_21 rfl (lv_at hl 2 rfl) ?_
      exact m_iret hx hb hr hlocks hW rfl (⟨hm.symm, by omega⟩) dX12_ones_22
    · have i1 := m_c6 (rfl : y3.toInt = _) (by decide : (0 : Int32).toInt = 0) c1
      refine lv_iload_n hx hb dX12_ones_8 rfl (lv_at hl 2 rfl) ?_
      refine lv_iconst (v := 1) hx hb dX12_ones_9 (by decide) ?_
      refine lv_iadd hx hb dX12_ones_10 ?_
      refine lv_topi (fun x2 ex2 => ?_)
      have tx2 : x2.toInt = y2.toInt + 1 := m_addI ex2 (rfl : y2.toInt = _) (by decide : (1 : Int32).toInt = 1) (by omega) (by omega)
      refine lv_istore_n (lv' := [(2, .int x2), (0, .ref (b + 81)), (1, .int k), (3, .int y3)]) hx hb dX12_ones_11 rfl hl (by decide) rfl (fun ls hl => ?_)
      refine lv_iload_n hx hb dX12_ones_12 rfl (lv_at hl 3 rfl) ?_
      refine lv_iload_n hx hb dX12_ones_13 rfl (lv_at hl 3 rfl) ?_
      refine lv_iconst (v := 1) hx hb dX12_ones_14 (by decide) ?_
      refine lv_isub hx hb dX12_ones_15 ?_
      refine lv_topi (fun x3 ex3 => ?_)
      have tx3 : x3.toInt = y3.toInt - 1 := m_subI ex3 (rfl : y3.toInt = _) (by decide : (1 : Int32).toInt = 1) (by omega) (by omega)
      refine lv_iand hx hb dX12_ones_16 ?_
      refine lv_topi (fun x4 ex4 => ?_)
      have bx4 : 0 ≤ x4.toInt ∧ x4.toInt ≤ x3.toInt := m_andY ex4 (rfl : x3.toInt = _) (by omega)
      refine lv_istore_n (lv' := [(3, .int x4), (2, .int x2), (0, .ref (b + 81)), (1, .int k)]) hx hb dX12_ones_17 rfl hl (by decide) rfl (fun ls hl => ?_)
      refine lv_goto (tgt := 4) hx hb dX12_ones_18 (by decide) ?_
      exact ih x2 x4 (by omega) (by omega) μ hI hm _ _ hW ls (lv_sub hl [2, 3, 1, 0] rfl)
set_option maxHeartbeats 4000000 in
set_option maxRecDepth 100000 in
theorem g_X12_ones (l : Launch) (D : va_G) (cy : Nat → ClassId) (b : Nat) (k : Int32) (h_k : 1 ≤ k.toInt ∧ k.toInt ≤ 255) (μ : mM) (hI : IX μ) : m_Ci l yX12_ones cX12_ones 4 ((some .int)) 0 D cy b LAY μ [.ref (b + 81), .int k] (fun r ν => μ = ν ∧ (0 ≤ r.toInt ∧ r.toInt ≤ 255)) := by
  unfold m_Ci
  refine m_of (by decide) (Nat.le_of_ble_eq_true rfl) ?_
  intro p e s m below meth c hx hb hr hml hown hts hlocks _ hW ls hl
  have hown : s.vm.findClass RX12 = some m.cls := hown
  have hl : lv_has ls 4 [(0, .ref (b + 81)), (1, .int k)] := hl
  refine lv_iconst (v := 0) hx hb dX12_ones_0 (by decide) ?_
  refine lv_istore_n (lv' := [(2, .int 0), (0, .ref (b + 81)), (1, .int k)]) hx hb dX12_ones_1 rfl hl (by decide) rfl (fun ls hl => ?_)
  refine lv_iload_n hx hb dX12_ones_2 rfl (lv_at hl 2 rfl) ?_
  refine lv_istore_n (lv' := [(3, .int k), (2, .int 0), (0, .ref (b + 81)), (1, .int k)]) hx hb dX12_ones_3 rfl hl (by decide) rfl (fun ls hl => ?_)
  have l_0 : (0 : Int32).toInt = 0 := by decide
  exact L_X12_ones_4 hx hb hr hml hown hts hlocks μ k h_k  256 0 k (by omega) (by omega) μ hI rfl _ _ hW ls (lv_sub hl [2, 3, 1, 0] rfl)
set_option maxHeartbeats 4000000 in
set_option maxRecDepth 100000 in
theorem L_X12_isOrder_6 {p : Program} {l : Launch} {e : Env} {s : State} {m : MethodId} {args : Array Value} {below : List Frame} {meth : Method} {c : Code} {D : va_G} {cy : Nat → ClassId} {b : Nat} (hx : p.tables.exec = Jvm.exec) (hb : c.code = cX12_isOrder) (hr : meth.sig.returnType = ((some .boolean))) (hml : c.maxLocals = 6) (hown : s.vm.findClass RX12 = some m.cls) (hts : ∀ w ∈ TB, w.before args s = true) (hlocks : meth.locks = false) (μ1 : mM) (k u v : Int32) : ∀ (f : Nat), ∀ (y4 y5 : Int32) (hy : 0 ≤ y5.toInt ∧ y5.toInt ≤ 2147483647) (hf : 2147483647 - y5.toInt < (f : Int)) (μ : mM) (hI : IX μ) (hm : μ = μ1) (H : Heap) (locs : List Loc), m_WA (m_A b LAY) D cy s b LAY μ H locs → ∀ ls : Array Slot, lv_has ls 6 [(0, .ref (b + 81)), (1, .int k), (2, .int u), (3, .int v), (4, .int y4), (5, .int y5)] → W p l e (m_R 0 0 0) s m args below meth c H locs 0 0 (MQ below (m_Qi D cy b LAY (fun r ν => μ1 = ν ∧ ((r = 1 ∧ (True)) ∨ (r = 0 ∧ (True))))) args s 0 0 (m_A b LAY)) (F0 m 6 ls []) := by
  intro f
  induction f with
  | zero => intro y4 y5 hy hf; exfalso; omega
  | succ f ih =>
    intro y4 y5 hy hf μ hI hm H locs hW ls hl
    refine lv_iload hx hb dX12_isOrder_6 (lv_at hl 5 rfl) ?_
    refine lv_iload_n hx hb dX12_isOrder_8 rfl (lv_at hl 2 rfl) ?_
    refine lv_icmp_ge (tgt := 34) hx hb dX12_isOrder_9 (by decide) (fun c1 => ?_) (fun c1 => ?_)
    · have i1 := m_c3 (rfl : u.toInt = _) (rfl : y5.toInt = _) c1
      refine lv_iload hx hb dX12_isOrder_34 (lv_at hl 4 rfl) ?_
      refine lv_iload_n hx hb dX12_isOrder_36 rfl (lv_at hl 3 rfl) ?_
      refine lv_icmp_ne (tgt := 44) hx hb dX12_isOrder_37 (by decide) (fun c2 => ?_) (fun c2 => ?_)
      · have i2 := m_c6 (rfl : y4.toInt = _) (rfl : v.toInt = _) c2
        refine lv_iconst (v := 0) hx hb dX12_isOrder_44 (by decide) ?_
        exact m_iret hx hb hr hlocks hW (by decide) (⟨hm.symm, Or.inr ⟨rfl, trivial⟩⟩) dX12_isOrder_45
      · have i2 := m_c5 (rfl : y4.toInt = _) (rfl : v.toInt = _) c2
        refine lv_iconst (v := 1) hx hb dX12_isOrder_40 (by decide) ?_
        refine lv_goto (tgt := 45) hx hb dX12_isOrder_41 (by decide) ?_
        exact m_iret hx hb hr hlocks hW (by decide) (⟨hm.symm, Or.inl ⟨rfl, trivial⟩⟩) dX12_isOrder_45
    · have i1 := m_c4 (rfl : u.toInt = _) (rfl : y5.toInt = _) c1; have r_u := m_rng u
      refine lv_iload hx hb dX12_isOrder_12 (lv_at hl 4 rfl) ?_
      refine lv_iconst (v := 1) hx hb dX12_isOrder_14 (by decide) ?_
      refine lv_iload_n hx hb dX12_isOrder_15 rfl (lv_at hl 1 rfl) ?_
      refine lv_iconst (v := 3) hx hb dX12_isOrder_16 (by decide) ?_
      refine lv_iload hx hb dX12_isOrder_17 (lv_at hl 5 rfl) ?_
      refine lv_imul hx hb dX12_isOrder_19 ?_
      refine lv_topi (fun x3 ex3 => ?_)
      refine lv_ishr hx hb dX12_isOrder_20 ?_
      refine lv_topi (fun x4 ex4 => ?_)
      refine lv_bipush (v := 7) hx hb dX12_isOrder_21 (by decide) ?_
      refine lv_iand hx hb dX12_isOrder_23 ?_
      refine lv_topi (fun x5 ex5 => ?_)
      have bx5 : 0 ≤ x5.toInt ∧ x5.toInt ≤ 7 := m_andN (n := 7) ex5 rfl (by decide)
      refine lv_ishl hx hb dX12_isOrder_24 ?_
      refine lv_topi (fun x6 ex6 => ?_)
      refine lv_ior hx hb dX12_isOrder_25 ?_
      refine lv_topi (fun x7 ex7 => ?_)
      refine lv_istore (lv' := [(4, .int x7), (0, .ref (b + 81)), (1, .int k), (2, .int u), (3, .int v), (5, .int y5)]) hx hb dX12_isOrder_26 hl (by decide) rfl (fun ls hl => ?_)
      obtain ⟨x8, ex8⟩ : ∃ z : Int32, z = y5 + 1 := ⟨_, rfl⟩
      refine lv_iinc (v := x8) (lv' := [(5, .int x8), (4, .int x7), (0, .ref (b + 81)), (1, .int k), (2, .int u), (3, .int v)]) hx hb dX12_isOrder_28 hl (k := 5) rfl (by rw [ex8]; rfl) (by decide) rfl (fun ls hl => ?_)
      have tx8 : x8.toInt = y5.toInt + 1 := m_addI ex8 (rfl : y5.toInt = _) (by decide : (1 : Int32).toInt = 1) (by omega) (by omega)
      refine lv_goto (tgt := 6) hx hb dX12_isOrder_31 (by decide) ?_
      exact ih x7 x8 (by omega) (by omega) μ hI hm _ _ hW ls (lv_sub hl [2, 3, 4, 5, 1, 0] rfl)
set_option maxHeartbeats 4000000 in
set_option maxRecDepth 100000 in
theorem g_X12_isOrder (l : Launch) (D : va_G) (cy : Nat → ClassId) (b : Nat) (k u v : Int32) (μ : mM) (hI : IX μ) : m_Ci l yX12_isOrder cX12_isOrder 6 ((some .boolean)) 0 D cy b LAY μ [.ref (b + 81), .int k, .int u, .int v] (fun r ν => μ = ν ∧ ((r = 1 ∧ (True)) ∨ (r = 0 ∧ (True)))) := by
  unfold m_Ci
  refine m_of (by decide) (Nat.le_of_ble_eq_true rfl) ?_
  intro p e s m below meth c hx hb hr hml hown hts hlocks _ hW ls hl
  have hown : s.vm.findClass RX12 = some m.cls := hown
  have hl : lv_has ls 6 [(0, .ref (b + 81)), (1, .int k), (2, .int u), (3, .int v)] := hl
  refine lv_iconst (v := 0) hx hb dX12_isOrder_0 (by decide) ?_
  refine lv_istore (lv' := [(4, .int 0), (0, .ref (b + 81)), (1, .int k), (2, .int u), (3, .int v)]) hx hb dX12_isOrder_1 hl (by decide) rfl (fun ls hl => ?_)
  refine lv_iconst (v := 0) hx hb dX12_isOrder_3 (by decide) ?_
  refine lv_istore (lv' := [(5, .int 0), (4, .int 0), (0, .ref (b + 81)), (1, .int k), (2, .int u), (3, .int v)]) hx hb dX12_isOrder_4 hl (by decide) rfl (fun ls hl => ?_)
  have l_0 : (0 : Int32).toInt = 0 := by decide
  exact L_X12_isOrder_6 hx hb hr hml hown hts hlocks μ k u v  2147483648 0 0 (by omega) (by omega) μ hI rfl _ _ hW ls (lv_sub hl [2, 3, 4, 5, 1, 0] rfl)
set_option maxHeartbeats 4000000 in
set_option maxRecDepth 100000 in
theorem g_X12_kind (l : Launch) (D : va_G) (cy : Nat → ClassId) (b : Nat) (S : Nat → Bool) (μ0 : mM) (hS20 : S 20 = true) (hS28 : S 28 = true) (k u v : Int32) (μ : mM) (hI : IY S μ0 μ) : m_Ci l yX12_kind cX12_kind 4 ((some .int)) 1 D cy b LAY μ [.ref (b + 81), .int k, .int u, .int v] (fun r ν => IY S μ0 ν ∧ (True)) := by
  unfold m_Ci
  refine m_of (by decide) (Nat.le_of_ble_eq_true rfl) ?_
  intro p e s m below meth c hx hb hr hml hown hts hlocks _ hW ls hl
  have hown : s.vm.findClass RX12 = some m.cls := hown
  have hl : lv_has ls 4 [(0, .ref (b + 81)), (1, .int k), (2, .int u), (3, .int v)] := hl
  refine lv_aload_n hx hb dX12_kind_0 rfl (lv_at hl 0 rfl) ?_
  refine lv_iconst (v := 0) hx hb dX12_kind_1 (by decide) ?_
  refine m_puti hx hb hts hown hW (81) 0 rfl rfl cw_12 tyX12_ok nmX12 rfl (by decide) k_X12_167 rfl rfl rfl dX12_kind_2 (fun H locs hW _ => ?_)
  generalize hμ1 : m_si μ (81) 0 0 = μ1 at hW
  have hI := hI.si0 hμ1 rfl hS20
  refine lv_aload_n hx hb dX12_kind_5 rfl (lv_at hl 0 rfl) ?_
  refine lv_iload_n hx hb dX12_kind_6 rfl (lv_at hl 1 rfl) ?_
  refine lv_iconst (v := 1) hx hb dX12_kind_7 (by decide) ?_
  refine lv_bipush (v := 40) hx hb dX12_kind_8 (by decide) ?_
  have l_1 : (1 : Int32).toInt = 1 := by decide
  have l_40 : (40 : Int32).toInt = 40 := by decide
  refine m_aI hW (m_runV (As := [.int k, .int 1, .int 40]) (rest := []) hx hb hml hown hts hW (81) (g_X12_isIn l D cy b k 1 40 μ1 hI.1) mi_X12_isIn k_X12_170 rfl rfl rfl hl.1 rfl (Nat.le_of_ble_eq_true rfl) dX12_kind_10 ⟨Nat.le_of_ble_eq_true rfl, Nat.le_of_ble_eq_true rfl⟩ ⟨Nat.le_of_ble_eq_true rfl, Nat.le_of_ble_eq_true rfl⟩) (fun x2 μ2 H locs q2 hW => ?_)
  obtain ⟨q2_m, q2⟩ := q2
  subst q2_m
  rcases q2 with ⟨rfl, q2⟩ | ⟨rfl, q2⟩
  · refine lv_if_eq (tgt := 48) hx hb dX12_kind_13 (by decide) (fun c => False.elim (by revert c; decide)) (fun _ => ?_)
    refine lv_aload_n hx hb dX12_kind_16 rfl (lv_at hl 0 rfl) ?_
    refine lv_iload_n hx hb dX12_kind_17 rfl (lv_at hl 2 rfl) ?_
    refine lv_iconst (v := 1) hx hb dX12_kind_18 (by decide) ?_
    refine lv_bipush (v := 40) hx hb dX12_kind_19 (by decide) ?_
    refine m_aI hW (m_runV (As := [.int u, .int 1, .int 40]) (rest := []) hx hb hml hown hts hW (81) (g_X12_isIn l D cy b u 1 40 μ1 hI.1) mi_X12_isIn k_X12_170 rfl rfl rfl hl.1 rfl (Nat.le_of_ble_eq_true rfl) dX12_kind_21 ⟨Nat.le_of_ble_eq_true rfl, Nat.le_of_ble_eq_true rfl⟩ ⟨Nat.le_of_ble_eq_true rfl, Nat.le_of_ble_eq_true rfl⟩) (fun x3 μ3 H locs q3 hW => ?_)
    obtain ⟨q3_m, q3⟩ := q3
    subst q3_m
    rcases q3 with ⟨rfl, q3⟩ | ⟨rfl, q3⟩
    · refine lv_if_eq (tgt := 48) hx hb dX12_kind_24 (by decide) (fun c => False.elim (by revert c; decide)) (fun _ => ?_)
      refine lv_aload_n hx hb dX12_kind_27 rfl (lv_at hl 0 rfl) ?_
      refine lv_iload_n hx hb dX12_kind_28 rfl (lv_at hl 3 rfl) ?_
      refine lv_iconst (v := 0) hx hb dX12_kind_29 (by decide) ?_
      refine lv_sipush (v := 999) hx hb dX12_kind_30 (by decide) ?_
      have l_0 : (0 : Int32).toInt = 0 := by decide
      have l_999 : (999 : Int32).toInt = 999 := by decide
      refine m_aI hW (m_runV (As := [.int v, .int 0, .int 999]) (rest := []) hx hb hml hown hts hW (81) (g_X12_isIn l D cy b v 0 999 μ1 hI.1) mi_X12_isIn k_X12_170 rfl rfl rfl hl.1 rfl (Nat.le_of_ble_eq_true rfl) dX12_kind_33 ⟨Nat.le_of_ble_eq_true rfl, Nat.le_of_ble_eq_true rfl⟩ ⟨Nat.le_of_ble_eq_true rfl, Nat.le_of_ble_eq_true rfl⟩) (fun x4 μ4 H locs q4 hW => ?_)
      obtain ⟨q4_m, q4⟩ := q4
      subst q4_m
      rcases q4 with ⟨rfl, q4⟩ | ⟨rfl, q4⟩
      · refine lv_if_eq (tgt := 48) hx hb dX12_kind_36 (by decide) (fun c => False.elim (by revert c; decide)) (fun _ => ?_)
        refine lv_aload_n hx hb dX12_kind_39 rfl (lv_at hl 0 rfl) ?_
        refine m_geti hx hb hts hown hW (81) 62 rfl rfl cw_12 rfl (by decide) k_X12_395 dX12_kind_40 ?_
        refine lv_topi (fun x5 ex5 => ?_)
        have bx5 : 0 ≤ x5.toInt ∧ x5.toInt ≤ 6 := by rw [ex5]; exact hI.1 _ _ _ _ rfl
        refine lv_bipush (v := 6) hx hb dX12_kind_43 (by decide) ?_
        refine lv_icmp_ne (tgt := 50) hx hb dX12_kind_45 (by decide) (fun c6 => ?_) (fun c6 => ?_)
        · have i6 := m_c6 (rfl : x5.toInt = _) (by decide : (6 : Int32).toInt = 6) c6
          refine lv_aload_n hx hb dX12_kind_50 rfl (lv_at hl 0 rfl) ?_
          refine m_getr hx hb hts hown hW (81) 63 (120) rfl rfl cw_12 rfl (by decide) k_X12_140 dX12_kind_51 ?_
          refine lv_aload_n hx hb dX12_kind_54 rfl (lv_at hl 0 rfl) ?_
          refine m_geti hx hb hts hown hW (81) 62 rfl rfl cw_12 rfl (by decide) k_X12_395 dX12_kind_55 ?_
          refine lv_topi (fun x7 ex7 => ?_)
          have ex7 : x7 = x5 := by rw [ex7]; exact ex5.symm
          have ex7 := ex7.symm
          subst ex7
          refine lv_iload_n hx hb dX12_kind_58 rfl (lv_at hl 1 rfl) ?_
          refine m_iast hx hb hW (120) rfl (m_ixI (rfl : x5.toInt = _) (by omega) (by omega)) dX12_kind_59 (fun H locs hW _ => ?_)
          generalize hμ8 : m_si μ1 (120) (x5 : Int32).toNatClampNeg k = μ8 at hW
          have hI := hI.si0 hμ8 rfl hS28
          refine lv_aload_n hx hb dX12_kind_60 rfl (lv_at hl 0 rfl) ?_
          refine m_getr hx hb hts hown hW (81) 64 (121) rfl rfl cw_12 rfl (by decide) k_X12_143 dX12_kind_61 ?_
          refine lv_aload_n hx hb dX12_kind_64 rfl (lv_at hl 0 rfl) ?_
          refine m_geti hx hb hts hown hW (81) 62 rfl rfl cw_12 rfl (by decide) k_X12_395 dX12_kind_65 ?_
          refine lv_topi (fun x9 ex9 => ?_)
          have ex9 : x9 = x5 := by rw [ex9, ← hμ8]; exact ex5.symm
          have ex9 := ex9.symm
          subst ex9
          refine lv_iload_n hx hb dX12_kind_68 rfl (lv_at hl 2 rfl) ?_
          refine m_iast hx hb hW (121) rfl (m_ixI (rfl : x5.toInt = _) (by omega) (by omega)) dX12_kind_69 (fun H locs hW _ => ?_)
          generalize hμ10 : m_si μ8 (121) (x5 : Int32).toNatClampNeg u = μ10 at hW
          have hI := hI.si0 hμ10 rfl hS28
          refine lv_aload_n hx hb dX12_kind_70 rfl (lv_at hl 0 rfl) ?_
          refine m_getr hx hb hts hown hW (81) 65 (122) rfl rfl cw_12 rfl (by decide) k_X12_146 dX12_kind_71 ?_
          refine lv_aload_n hx hb dX12_kind_74 rfl (lv_at hl 0 rfl) ?_
          refine m_geti hx hb hts hown hW (81) 62 rfl rfl cw_12 rfl (by decide) k_X12_395 dX12_kind_75 ?_
          refine lv_topi (fun x11 ex11 => ?_)
          have ex11 : x11 = x5 := by rw [ex11, ← hμ10, ← hμ8]; exact ex5.symm
          have ex11 := ex11.symm
          subst ex11
          refine lv_iload_n hx hb dX12_kind_78 rfl (lv_at hl 3 rfl) ?_
          refine m_iast hx hb hW (122) rfl (m_ixI (rfl : x5.toInt = _) (by omega) (by omega)) dX12_kind_79 (fun H locs hW _ => ?_)
          generalize hμ12 : m_si μ10 (122) (x5 : Int32).toNatClampNeg v = μ12 at hW
          have hI := hI.si0 hμ12 rfl hS28
          refine lv_aload_n hx hb dX12_kind_80 rfl (lv_at hl 0 rfl) ?_
          refine lv_aload_n hx hb dX12_kind_81 rfl (lv_at hl 0 rfl) ?_
          refine m_geti hx hb hts hown hW (81) 62 rfl rfl cw_12 rfl (by decide) k_X12_395 dX12_kind_82 ?_
          refine lv_topi (fun x13 ex13 => ?_)
          have ex13 : x13 = x5 := by rw [ex13, ← hμ12, ← hμ10, ← hμ8]; exact ex5.symm
          have ex13 := ex13.symm
          subst ex13
          refine lv_iconst (v := 1) hx hb dX12_kind_85 (by decide) ?_
          refine lv_iadd hx hb dX12_kind_86 ?_
          refine lv_topi (fun x14 ex14 => ?_)
          have tx14 : x14.toInt = x5.toInt + 1 := m_addI ex14 (rfl : x5.toInt = _) (by decide : (1 : Int32).toInt = 1) (by omega) (by omega)
          refine m_puti hx hb hts hown hW (81) 62 rfl rfl cw_12 tyX12_ok nmX12 rfl (by decide) k_X12_395 rfl rfl rfl dX12_kind_87 (fun H locs hW _ => ?_)
          generalize hμ15 : m_si μ12 (81) 62 x14 = μ15 at hW
          have hI := hI.si1 hμ15 rfl (by omega) hS28
          refine lv_aload_n hx hb dX12_kind_90 rfl (lv_at hl 0 rfl) ?_
          refine m_geti hx hb hts hown hW (81) 62 rfl rfl cw_12 rfl (by decide) k_X12_395 dX12_kind_91 ?_
          refine lv_topi (fun x16 ex16 => ?_)
          have ex16 : x16 = x14 := by rw [ex16, ← hμ15]; first | rfl | exact if_pos ⟨rfl, rfl⟩
          have ex16 := ex16.symm
          subst ex16
          refine lv_iconst (v := 1) hx hb dX12_kind_94 (by decide) ?_
          refine lv_isub hx hb dX12_kind_95 ?_
          refine lv_topi (fun x17 ex17 => ?_)
          have tx17 : x17.toInt = x14.toInt - 1 := m_subI ex17 (rfl : x14.toInt = _) (by decide : (1 : Int32).toInt = 1) (by omega) (by omega)
          exact m_iret hx hb hr hlocks hW rfl (⟨hI, trivial⟩) dX12_kind_96
        · have i6 := m_c5 (rfl : x5.toInt = _) (by decide : (6 : Int32).toInt = 6) c6
          refine lv_iconst (v := (-1)) hx hb dX12_kind_48 (by decide) ?_
          exact m_iret hx hb hr hlocks hW rfl (⟨hI, trivial⟩) dX12_kind_49
      · refine lv_if_eq (tgt := 48) hx hb dX12_kind_36 (by decide) (fun _ => ?_) (fun c => False.elim (by revert c; decide))
        refine lv_iconst (v := (-1)) hx hb dX12_kind_48 (by decide) ?_
        exact m_iret hx hb hr hlocks hW rfl (⟨hI, trivial⟩) dX12_kind_49
    · refine lv_if_eq (tgt := 48) hx hb dX12_kind_24 (by decide) (fun _ => ?_) (fun c => False.elim (by revert c; decide))
      refine lv_iconst (v := (-1)) hx hb dX12_kind_48 (by decide) ?_
      exact m_iret hx hb hr hlocks hW rfl (⟨hI, trivial⟩) dX12_kind_49
  · refine lv_if_eq (tgt := 48) hx hb dX12_kind_13 (by decide) (fun _ => ?_) (fun c => False.elim (by revert c; decide))
    refine lv_iconst (v := (-1)) hx hb dX12_kind_48 (by decide) ?_
    exact m_iret hx hb hr hlocks hW rfl (⟨hI, trivial⟩) dX12_kind_49
set_option maxHeartbeats 4000000 in
set_option maxRecDepth 100000 in
theorem L_X12_mostOf_153 {p : Program} {l : Launch} {e : Env} {s : State} {m : MethodId} {args : Array Value} {below : List Frame} {meth : Method} {c : Code} {D : va_G} {cy : Nat → ClassId} {b : Nat} (hx : p.tables.exec = Jvm.exec) (hb : c.code = cX12_mostOf) (hr : meth.sig.returnType = ((some .int))) (hml : c.maxLocals = 6) (hown : s.vm.findClass RX12 = some m.cls) (hts : ∀ w ∈ TB, w.before args s = true) (hlocks : meth.locks = false) (μ1 : mM) (k u : Int32) (h_k : 1 ≤ k.toInt ∧ k.toInt ≤ 40) (h_u : 1 ≤ u.toInt ∧ u.toInt ≤ 40) : ∀ (f : Nat), ∀ (y3 y4 : Int32) (hy : 1 ≤ y4.toInt ∧ y4.toInt ≤ 21) (hf : 21 - y4.toInt < (f : Int)) (μ : mM) (hI : IX μ) (hm : μ = μ1) (H : Heap) (locs : List Loc), m_WA (m_A b LAY) D cy s b LAY μ H locs → ∀ ls : Array Slot, lv_has ls 6 [(0, .ref (b + 81)), (1, .int k), (2, .int u), (3, .int y3), (4, .int y4)] → W p l e (m_R 0 0 0) s m args below meth c H locs 0 0 (MQ below (m_Qi D cy b LAY (fun r ν => μ1 = ν ∧ (True))) args s 0 0 (m_A b LAY)) (F0 m 153 ls []) := by
  intro f
  induction f with
  | zero => intro y3 y4 hy hf; exfalso; omega
  | succ f ih =>
    intro y3 y4 hy hf μ hI hm H locs hW ls hl
    refine lv_iload hx hb dX12_mostOf_153 (lv_at hl 4 rfl) ?_
    refine lv_iload_n hx hb dX12_mostOf_155 rfl (lv_at hl 2 rfl) ?_
    refine lv_iconst (v := 2) hx hb dX12_mostOf_156 (by decide) ?_
    refine lv_idiv hx hb dX12_mostOf_157 (by decide) ?_
    refine lv_topi (fun x1 ex1 => ?_)
    have tx1 : x1.toInt = u.toInt / 2 := m_divI ex1 (rfl : u.toInt = _) (by decide : (2 : Int32).toInt = 2) (by omega) (by decide)
    refine lv_icmp_gt (tgt := 205) hx hb dX12_mostOf_158 (by decide) (fun c2 => ?_) (fun c2 => ?_)
    · have i2 := m_c1 (rfl : x1.toInt = _) (rfl : y4.toInt = _) c2
      refine lv_iload_n hx hb dX12_mostOf_205 rfl (lv_at hl 3 rfl) ?_
      exact m_iret hx hb hr hlocks hW rfl (⟨hm.symm, trivial⟩) dX12_mostOf_206
    · have i2 := m_c2 (rfl : x1.toInt = _) (rfl : y4.toInt = _) c2
      refine lv_aload_n hx hb dX12_mostOf_161 rfl (lv_at hl 0 rfl) ?_
      refine m_getr hx hb hts hown hW (81) 66 (123) rfl rfl cw_12 rfl (by decide) k_X12_149 dX12_mostOf_162 ?_
      refine lv_bipush (v := 41) hx hb dX12_mostOf_165 (by decide) ?_
      refine lv_iload_n hx hb dX12_mostOf_167 rfl (lv_at hl 1 rfl) ?_
      refine lv_imul hx hb dX12_mostOf_168 ?_
      refine lv_topi (fun x3 ex3 => ?_)
      have tx3 : x3.toInt = 41 * k.toInt := m_mulI ex3 (by decide : (41 : Int32).toInt = 41) (rfl : k.toInt = _) (by omega) (by omega)
      refine lv_iload hx hb dX12_mostOf_169 (lv_at hl 4 rfl) ?_
      refine lv_iadd hx hb dX12_mostOf_171 ?_
      refine lv_topi (fun x4 ex4 => ?_)
      have tx4 : x4.toInt = x3.toInt + y4.toInt := m_addI ex4 (rfl : x3.toInt = _) (rfl : y4.toInt = _) (by omega) (by omega)
      refine m_iald hx hb hW (123) rfl (m_ixI (rfl : x4.toInt = _) (by omega) (by omega)) dX12_mostOf_172 ?_
      refine lv_topi (fun x5 ex5 => ?_)
      refine lv_aload_n hx hb dX12_mostOf_173 rfl (lv_at hl 0 rfl) ?_
      refine m_getr hx hb hts hown hW (81) 66 (123) rfl rfl cw_12 rfl (by decide) k_X12_149 dX12_mostOf_174 ?_
      refine lv_bipush (v := 41) hx hb dX12_mostOf_177 (by decide) ?_
      refine lv_iload_n hx hb dX12_mostOf_179 rfl (lv_at hl 1 rfl) ?_
      refine lv_imul hx hb dX12_mostOf_180 ?_
      refine lv_topi (fun x6 ex6 => ?_)
      have ex6 : x6 = x3 := ex6.trans ex3.symm
      have ex6 := ex6.symm
      subst ex6
      refine lv_iload_n hx hb dX12_mostOf_181 rfl (lv_at hl 2 rfl) ?_
      refine lv_iadd hx hb dX12_mostOf_182 ?_
      refine lv_topi (fun x7 ex7 => ?_)
      have tx7 : x7.toInt = x3.toInt + u.toInt := m_addI ex7 (rfl : x3.toInt = _) (rfl : u.toInt = _) (by omega) (by omega)
      refine lv_iload hx hb dX12_mostOf_183 (lv_at hl 4 rfl) ?_
      refine lv_isub hx hb dX12_mostOf_185 ?_
      refine lv_topi (fun x8 ex8 => ?_)
      have tx8 : x8.toInt = x7.toInt - y4.toInt := m_subI ex8 (rfl : x7.toInt = _) (rfl : y4.toInt = _) (by omega) (by omega)
      refine m_iald hx hb hW (123) rfl (m_ixI (rfl : x8.toInt = _) (by omega) (by omega)) dX12_mostOf_186 ?_
      refine lv_topi (fun x9 ex9 => ?_)
      refine lv_iadd hx hb dX12_mostOf_187 ?_
      refine lv_topi (fun x10 ex10 => ?_)
      refine lv_istore (lv' := [(5, .int x10), (0, .ref (b + 81)), (1, .int k), (2, .int u), (3, .int y3), (4, .int y4)]) hx hb dX12_mostOf_188 hl (by decide) rfl (fun ls hl => ?_)
      refine lv_iload hx hb dX12_mostOf_190 (lv_at hl 0 rfl) ?_
      refine lv_iload_n hx hb dX12_mostOf_192 rfl (lv_at hl 4 rfl) ?_
      refine lv_icmp_le (tgt := 199) hx hb dX12_mostOf_193 (by decide) (fun c11 => ?_) (fun c11 => ?_)
      · have i11 := m_c3 (rfl : x10.toInt = _) (rfl : y3.toInt = _) c11
        obtain ⟨x12, ex12⟩ : ∃ z : Int32, z = y4 + 1 := ⟨_, rfl⟩
        refine lv_iinc (v := x12) (lv' := [(4, .int x12), (5, .int x10), (0, .ref (b + 81)), (1, .int k), (2, .int u), (3, .int y3)]) hx hb dX12_mostOf_199 hl (k := 5) rfl (by rw [ex12]; rfl) (by decide) rfl (fun ls hl => ?_)
        have tx12 : x12.toInt = y4.toInt + 1 := m_addI ex12 (rfl : y4.toInt = _) (by decide : (1 : Int32).toInt = 1) (by omega) (by omega)
        refine lv_goto (tgt := 153) hx hb dX12_mostOf_202 (by decide) ?_
        exact ih y3 x12 (by omega) (by omega) μ hI hm _ _ hW ls (lv_sub hl [2, 3, 4, 5, 0] rfl)
      · have i11 := m_c4 (rfl : x10.toInt = _) (rfl : y3.toInt = _) c11
        refine lv_iload hx hb dX12_mostOf_196 (lv_at hl 0 rfl) ?_
        refine lv_istore_n (lv' := [(3, .int x10), (5, .int x10), (0, .ref (b + 81)), (1, .int k), (2, .int u), (4, .int y4)]) hx hb dX12_mostOf_198 rfl hl (by decide) rfl (fun ls hl => ?_)
        obtain ⟨x13, ex13⟩ : ∃ z : Int32, z = y4 + 1 := ⟨_, rfl⟩
        refine lv_iinc (v := x13) (lv' := [(4, .int x13), (3, .int x10), (5, .int x10), (0, .ref (b + 81)), (1, .int k), (2, .int u)]) hx hb dX12_mostOf_199 hl (k := 5) rfl (by rw [ex13]; rfl) (by decide) rfl (fun ls hl => ?_)
        have tx13 : x13.toInt = y4.toInt + 1 := m_addI ex13 (rfl : y4.toInt = _) (by decide : (1 : Int32).toInt = 1) (by omega) (by omega)
        refine lv_goto (tgt := 153) hx hb dX12_mostOf_202 (by decide) ?_
        exact ih x10 x13 (by omega) (by omega) μ hI hm _ _ hW ls (lv_sub hl [3, 4, 5, 1, 0] rfl)
set_option maxHeartbeats 4000000 in
set_option maxRecDepth 100000 in
theorem L_X12_mostOf_98 {p : Program} {l : Launch} {e : Env} {s : State} {m : MethodId} {args : Array Value} {below : List Frame} {meth : Method} {c : Code} {D : va_G} {cy : Nat → ClassId} {b : Nat} (hx : p.tables.exec = Jvm.exec) (hb : c.code = cX12_mostOf) (hr : meth.sig.returnType = ((some .int))) (hml : c.maxLocals = 6) (hown : s.vm.findClass RX12 = some m.cls) (hts : ∀ w ∈ TB, w.before args s = true) (hlocks : meth.locks = false) (μ1 : mM) (k u : Int32) (h_k : 1 ≤ k.toInt ∧ k.toInt ≤ 40) (h_u : 1 ≤ u.toInt ∧ u.toInt ≤ 40) : ∀ (f : Nat), ∀ (y3 y4 : Int32) (hy : 1 ≤ y4.toInt ∧ y4.toInt ≤ 21) (hf : 21 - y4.toInt < (f : Int)) (μ : mM) (hI : IX μ) (hm : μ = μ1) (H : Heap) (locs : List Loc), m_WA (m_A b LAY) D cy s b LAY μ H locs → ∀ ls : Array Slot, lv_has ls 6 [(0, .ref (b + 81)), (1, .int k), (2, .int u), (3, .int y3), (4, .int y4)] → W p l e (m_R 0 0 0) s m args below meth c H locs 0 0 (MQ below (m_Qi D cy b LAY (fun r ν => μ1 = ν ∧ (True))) args s 0 0 (m_A b LAY)) (F0 m 98 ls []) := by
  intro f
  induction f with
  | zero => intro y3 y4 hy hf; exfalso; omega
  | succ f ih =>
    intro y3 y4 hy hf μ hI hm H locs hW ls hl
    refine lv_iload hx hb dX12_mostOf_98 (lv_at hl 4 rfl) ?_
    refine lv_iload_n hx hb dX12_mostOf_100 rfl (lv_at hl 1 rfl) ?_
    refine lv_iconst (v := 2) hx hb dX12_mostOf_101 (by decide) ?_
    refine lv_idiv hx hb dX12_mostOf_102 (by decide) ?_
    refine lv_topi (fun x1 ex1 => ?_)
    have tx1 : x1.toInt = k.toInt / 2 := m_divI ex1 (rfl : k.toInt = _) (by decide : (2 : Int32).toInt = 2) (by omega) (by decide)
    refine lv_icmp_gt (tgt := 150) hx hb dX12_mostOf_103 (by decide) (fun c2 => ?_) (fun c2 => ?_)
    · have i2 := m_c1 (rfl : x1.toInt = _) (rfl : y4.toInt = _) c2
      refine lv_iconst (v := 1) hx hb dX12_mostOf_150 (by decide) ?_
      refine lv_istore (lv' := [(4, .int 1), (0, .ref (b + 81)), (1, .int k), (2, .int u), (3, .int y3)]) hx hb dX12_mostOf_151 hl (by decide) rfl (fun ls hl => ?_)
      have l_1 : (1 : Int32).toInt = 1 := by decide
      exact L_X12_mostOf_153 hx hb hr hml hown hts hlocks μ1 k u h_k h_u  22 y3 1 (by omega) (by omega) μ hI hm _ _ hW ls (lv_sub hl [1, 2, 3, 4, 0] rfl)
    · have i2 := m_c2 (rfl : x1.toInt = _) (rfl : y4.toInt = _) c2
      refine lv_aload_n hx hb dX12_mostOf_106 rfl (lv_at hl 0 rfl) ?_
      refine m_getr hx hb hts hown hW (81) 66 (123) rfl rfl cw_12 rfl (by decide) k_X12_149 dX12_mostOf_107 ?_
      refine lv_bipush (v := 41) hx hb dX12_mostOf_110 (by decide) ?_
      refine lv_iload hx hb dX12_mostOf_112 (lv_at hl 4 rfl) ?_
      refine lv_imul hx hb dX12_mostOf_114 ?_
      refine lv_topi (fun x3 ex3 => ?_)
      have tx3 : x3.toInt = 41 * y4.toInt := m_mulI ex3 (by decide : (41 : Int32).toInt = 41) (rfl : y4.toInt = _) (by omega) (by omega)
      refine lv_iload_n hx hb dX12_mostOf_115 rfl (lv_at hl 2 rfl) ?_
      refine lv_iadd hx hb dX12_mostOf_116 ?_
      refine lv_topi (fun x4 ex4 => ?_)
      have tx4 : x4.toInt = x3.toInt + u.toInt := m_addI ex4 (rfl : x3.toInt = _) (rfl : u.toInt = _) (by omega) (by omega)
      refine m_iald hx hb hW (123) rfl (m_ixI (rfl : x4.toInt = _) (by omega) (by omega)) dX12_mostOf_117 ?_
      refine lv_topi (fun x5 ex5 => ?_)
      refine lv_aload_n hx hb dX12_mostOf_118 rfl (lv_at hl 0 rfl) ?_
      refine m_getr hx hb hts hown hW (81) 66 (123) rfl rfl cw_12 rfl (by decide) k_X12_149 dX12_mostOf_119 ?_
      refine lv_bipush (v := 41) hx hb dX12_mostOf_122 (by decide) ?_
      refine lv_iload_n hx hb dX12_mostOf_124 rfl (lv_at hl 1 rfl) ?_
      refine lv_iload hx hb dX12_mostOf_125 (lv_at hl 4 rfl) ?_
      refine lv_isub hx hb dX12_mostOf_127 ?_
      refine lv_topi (fun x6 ex6 => ?_)
      have tx6 : x6.toInt = k.toInt - y4.toInt := m_subI ex6 (rfl : k.toInt = _) (rfl : y4.toInt = _) (by omega) (by omega)
      refine lv_imul hx hb dX12_mostOf_128 ?_
      refine lv_topi (fun x7 ex7 => ?_)
      have tx7 : x7.toInt = 41 * x6.toInt := m_mulI ex7 (by decide : (41 : Int32).toInt = 41) (rfl : x6.toInt = _) (by omega) (by omega)
      refine lv_iload_n hx hb dX12_mostOf_129 rfl (lv_at hl 2 rfl) ?_
      refine lv_iadd hx hb dX12_mostOf_130 ?_
      refine lv_topi (fun x8 ex8 => ?_)
      have tx8 : x8.toInt = x7.toInt + u.toInt := m_addI ex8 (rfl : x7.toInt = _) (rfl : u.toInt = _) (by omega) (by omega)
      refine m_iald hx hb hW (123) rfl (m_ixI (rfl : x8.toInt = _) (by omega) (by omega)) dX12_mostOf_131 ?_
      refine lv_topi (fun x9 ex9 => ?_)
      refine lv_iadd hx hb dX12_mostOf_132 ?_
      refine lv_topi (fun x10 ex10 => ?_)
      refine lv_istore (lv' := [(5, .int x10), (0, .ref (b + 81)), (1, .int k), (2, .int u), (3, .int y3), (4, .int y4)]) hx hb dX12_mostOf_133 hl (by decide) rfl (fun ls hl => ?_)
      refine lv_iload hx hb dX12_mostOf_135 (lv_at hl 0 rfl) ?_
      refine lv_iload_n hx hb dX12_mostOf_137 rfl (lv_at hl 4 rfl) ?_
      refine lv_icmp_le (tgt := 144) hx hb dX12_mostOf_138 (by decide) (fun c11 => ?_) (fun c11 => ?_)
      · have i11 := m_c3 (rfl : x10.toInt = _) (rfl : y3.toInt = _) c11
        obtain ⟨x12, ex12⟩ : ∃ z : Int32, z = y4 + 1 := ⟨_, rfl⟩
        refine lv_iinc (v := x12) (lv' := [(4, .int x12), (5, .int x10), (0, .ref (b + 81)), (1, .int k), (2, .int u), (3, .int y3)]) hx hb dX12_mostOf_144 hl (k := 5) rfl (by rw [ex12]; rfl) (by decide) rfl (fun ls hl => ?_)
        have tx12 : x12.toInt = y4.toInt + 1 := m_addI ex12 (rfl : y4.toInt = _) (by decide : (1 : Int32).toInt = 1) (by omega) (by omega)
        refine lv_goto (tgt := 98) hx hb dX12_mostOf_147 (by decide) ?_
        exact ih y3 x12 (by omega) (by omega) μ hI hm _ _ hW ls (lv_sub hl [2, 3, 4, 5, 0] rfl)
      · have i11 := m_c4 (rfl : x10.toInt = _) (rfl : y3.toInt = _) c11
        refine lv_iload hx hb dX12_mostOf_141 (lv_at hl 0 rfl) ?_
        refine lv_istore_n (lv' := [(3, .int x10), (5, .int x10), (0, .ref (b + 81)), (1, .int k), (2, .int u), (4, .int y4)]) hx hb dX12_mostOf_143 rfl hl (by decide) rfl (fun ls hl => ?_)
        obtain ⟨x13, ex13⟩ : ∃ z : Int32, z = y4 + 1 := ⟨_, rfl⟩
        refine lv_iinc (v := x13) (lv' := [(4, .int x13), (3, .int x10), (5, .int x10), (0, .ref (b + 81)), (1, .int k), (2, .int u)]) hx hb dX12_mostOf_144 hl (k := 5) rfl (by rw [ex13]; rfl) (by decide) rfl (fun ls hl => ?_)
        have tx13 : x13.toInt = y4.toInt + 1 := m_addI ex13 (rfl : y4.toInt = _) (by decide : (1 : Int32).toInt = 1) (by omega) (by omega)
        refine lv_goto (tgt := 98) hx hb dX12_mostOf_147 (by decide) ?_
        exact ih x10 x13 (by omega) (by omega) μ hI hm _ _ hW ls (lv_sub hl [3, 4, 5, 1, 0] rfl)
set_option maxHeartbeats 4000000 in
set_option maxRecDepth 100000 in
theorem L_X12_mostOf_5 {p : Program} {l : Launch} {e : Env} {s : State} {m : MethodId} {args : Array Value} {below : List Frame} {meth : Method} {c : Code} {D : va_G} {cy : Nat → ClassId} {b : Nat} (hx : p.tables.exec = Jvm.exec) (hb : c.code = cX12_mostOf) (hr : meth.sig.returnType = ((some .int))) (hml : c.maxLocals = 6) (hown : s.vm.findClass RX12 = some m.cls) (hts : ∀ w ∈ TB, w.before args s = true) (hlocks : meth.locks = false) (μ1 : mM) (k u : Int32) (h_k : 1 ≤ k.toInt ∧ k.toInt ≤ 40) (h_u : 1 ≤ u.toInt ∧ u.toInt ≤ 40) : ∀ (f : Nat), ∀ (y3 y4 : Int32) (hy : 0 ≤ y4.toInt ∧ y4.toInt ≤ 6) (hf : 6 - y4.toInt < (f : Int)) (μ : mM) (hI : IX μ) (hm : μ = μ1) (H : Heap) (locs : List Loc), m_WA (m_A b LAY) D cy s b LAY μ H locs → ∀ ls : Array Slot, lv_has ls 6 [(0, .ref (b + 81)), (1, .int k), (2, .int u), (3, .int y3), (4, .int y4)] → W p l e (m_R 0 0 0) s m args below meth c H locs 0 0 (MQ below (m_Qi D cy b LAY (fun r ν => μ1 = ν ∧ (True))) args s 0 0 (m_A b LAY)) (F0 m 5 ls []) := by
  intro f
  induction f with
  | zero => intro y3 y4 hy hf; exfalso; omega
  | succ f ih =>
    intro y3 y4 hy hf μ hI hm H locs hW ls hl
    refine lv_iload hx hb dX12_mostOf_5 (lv_at hl 4 rfl) ?_
    refine lv_aload_n hx hb dX12_mostOf_7 rfl (lv_at hl 0 rfl) ?_
    refine m_geti hx hb hts hown hW (81) 62 rfl rfl cw_12 rfl (by decide) k_X12_395 dX12_mostOf_8 ?_
    refine lv_topi (fun x1 ex1 => ?_)
    have bx1 : 0 ≤ x1.toInt ∧ x1.toInt ≤ 6 := by rw [ex1]; exact hI _ _ _ _ rfl
    refine lv_icmp_ge (tgt := 95) hx hb dX12_mostOf_11 (by decide) (fun c2 => ?_) (fun c2 => ?_)
    · have i2 := m_c3 (rfl : x1.toInt = _) (rfl : y4.toInt = _) c2
      refine lv_iconst (v := 1) hx hb dX12_mostOf_95 (by decide) ?_
      refine lv_istore (lv' := [(4, .int 1), (0, .ref (b + 81)), (1, .int k), (2, .int u), (3, .int y3)]) hx hb dX12_mostOf_96 hl (by decide) rfl (fun ls hl => ?_)
      have l_1 : (1 : Int32).toInt = 1 := by decide
      exact L_X12_mostOf_98 hx hb hr hml hown hts hlocks μ1 k u h_k h_u  22 y3 1 (by omega) (by omega) μ hI hm _ _ hW ls (lv_sub hl [1, 2, 3, 4, 0] rfl)
    · have i2 := m_c4 (rfl : x1.toInt = _) (rfl : y4.toInt = _) c2
      refine lv_aload_n hx hb dX12_mostOf_14 rfl (lv_at hl 0 rfl) ?_
      refine m_getr hx hb hts hown hW (81) 63 (120) rfl rfl cw_12 rfl (by decide) k_X12_140 dX12_mostOf_15 ?_
      refine lv_iload hx hb dX12_mostOf_18 (lv_at hl 4 rfl) ?_
      refine m_iald hx hb hW (120) rfl (m_ixI (rfl : y4.toInt = _) (by omega) (by omega)) dX12_mostOf_20 ?_
      refine lv_topi (fun x3 ex3 => ?_)
      refine lv_iload_n hx hb dX12_mostOf_21 rfl (lv_at hl 1 rfl) ?_
      refine lv_icmp_ne (tgt := 36) hx hb dX12_mostOf_22 (by decide) (fun c4 => ?_) (fun c4 => ?_)
      · have i4 := m_c6 (rfl : x3.toInt = _) (rfl : k.toInt = _) c4
        refine lv_aload_n hx hb dX12_mostOf_36 rfl (lv_at hl 0 rfl) ?_
        refine m_getr hx hb hts hown hW (81) 63 (120) rfl rfl cw_12 rfl (by decide) k_X12_140 dX12_mostOf_37 ?_
        refine lv_iload hx hb dX12_mostOf_40 (lv_at hl 4 rfl) ?_
        refine m_iald hx hb hW (120) rfl (m_ixI (rfl : y4.toInt = _) (by omega) (by omega)) dX12_mostOf_42 ?_
        refine lv_topi (fun x5 ex5 => ?_)
        have ex5 : x5 = x3 := by rw [ex5]; exact ex3.symm
        have ex5 := ex5.symm
        subst ex5
        refine lv_iload_n hx hb dX12_mostOf_43 rfl (lv_at hl 2 rfl) ?_
        refine lv_icmp_ne (tgt := 62) hx hb dX12_mostOf_44 (by decide) (fun c6 => ?_) (fun c6 => ?_)
        · have i6 := m_c6 (rfl : x3.toInt = _) (rfl : u.toInt = _) c6
          refine lv_iconst (v := 0) hx hb dX12_mostOf_62 (by decide) ?_
          refine lv_istore (lv' := [(5, .int 0), (0, .ref (b + 81)), (1, .int k), (2, .int u), (3, .int y3), (4, .int y4)]) hx hb dX12_mostOf_63 hl (by decide) rfl (fun ls hl => ?_)
          refine lv_iload hx hb dX12_mostOf_65 (lv_at hl 0 rfl) ?_
          refine lv_if_eq (tgt := 89) hx hb dX12_mostOf_67 (by decide) (fun _ => ?_) (fun c => False.elim (by revert c; decide))
          obtain ⟨x7, ex7⟩ : ∃ z : Int32, z = y4 + 1 := ⟨_, rfl⟩
          refine lv_iinc (v := x7) (lv' := [(4, .int x7), (5, .int 0), (0, .ref (b + 81)), (1, .int k), (2, .int u), (3, .int y3)]) hx hb dX12_mostOf_89 hl (k := 5) rfl (by rw [ex7]; rfl) (by decide) rfl (fun ls hl => ?_)
          have tx7 : x7.toInt = y4.toInt + 1 := m_addI ex7 (rfl : y4.toInt = _) (by decide : (1 : Int32).toInt = 1) (by omega) (by omega)
          refine lv_goto (tgt := 5) hx hb dX12_mostOf_92 (by decide) ?_
          exact ih y3 x7 (by omega) (by omega) μ hI hm _ _ hW ls (lv_sub hl [2, 3, 4, 5, 0] rfl)
        · have i6 := m_c5 (rfl : x3.toInt = _) (rfl : u.toInt = _) c6
          refine lv_aload_n hx hb dX12_mostOf_47 rfl (lv_at hl 0 rfl) ?_
          refine m_getr hx hb hts hown hW (81) 64 (121) rfl rfl cw_12 rfl (by decide) k_X12_143 dX12_mostOf_48 ?_
          refine lv_iload hx hb dX12_mostOf_51 (lv_at hl 4 rfl) ?_
          refine m_iald hx hb hW (121) rfl (m_ixI (rfl : y4.toInt = _) (by omega) (by omega)) dX12_mostOf_53 ?_
          refine lv_topi (fun x8 ex8 => ?_)
          refine lv_iload_n hx hb dX12_mostOf_54 rfl (lv_at hl 1 rfl) ?_
          refine lv_icmp_ne (tgt := 62) hx hb dX12_mostOf_55 (by decide) (fun c9 => ?_) (fun c9 => ?_)
          · have i9 := m_c6 (rfl : x8.toInt = _) (rfl : k.toInt = _) c9
            refine lv_iconst (v := 0) hx hb dX12_mostOf_62 (by decide) ?_
            refine lv_istore (lv' := [(5, .int 0), (0, .ref (b + 81)), (1, .int k), (2, .int u), (3, .int y3), (4, .int y4)]) hx hb dX12_mostOf_63 hl (by decide) rfl (fun ls hl => ?_)
            refine lv_iload hx hb dX12_mostOf_65 (lv_at hl 0 rfl) ?_
            refine lv_if_eq (tgt := 89) hx hb dX12_mostOf_67 (by decide) (fun _ => ?_) (fun c => False.elim (by revert c; decide))
            obtain ⟨x10, ex10⟩ : ∃ z : Int32, z = y4 + 1 := ⟨_, rfl⟩
            refine lv_iinc (v := x10) (lv' := [(4, .int x10), (5, .int 0), (0, .ref (b + 81)), (1, .int k), (2, .int u), (3, .int y3)]) hx hb dX12_mostOf_89 hl (k := 5) rfl (by rw [ex10]; rfl) (by decide) rfl (fun ls hl => ?_)
            have tx10 : x10.toInt = y4.toInt + 1 := m_addI ex10 (rfl : y4.toInt = _) (by decide : (1 : Int32).toInt = 1) (by omega) (by omega)
            refine lv_goto (tgt := 5) hx hb dX12_mostOf_92 (by decide) ?_
            exact ih y3 x10 (by omega) (by omega) μ hI hm _ _ hW ls (lv_sub hl [2, 3, 4, 5, 0] rfl)
          · have i9 := m_c5 (rfl : x8.toInt = _) (rfl : k.toInt = _) c9
            refine lv_iconst (v := 1) hx hb dX12_mostOf_58 (by decide) ?_
            refine lv_goto (tgt := 63) hx hb dX12_mostOf_59 (by decide) ?_
            refine lv_istore (lv' := [(5, .int 1), (0, .ref (b + 81)), (1, .int k), (2, .int u), (3, .int y3), (4, .int y4)]) hx hb dX12_mostOf_63 hl (by decide) rfl (fun ls hl => ?_)
            refine lv_iload hx hb dX12_mostOf_65 (lv_at hl 0 rfl) ?_
            refine lv_if_eq (tgt := 89) hx hb dX12_mostOf_67 (by decide) (fun c => False.elim (by revert c; decide)) (fun _ => ?_)
            refine lv_aload_n hx hb dX12_mostOf_70 rfl (lv_at hl 1 rfl) ?_
            refine m_getr hx hb hts hown hW (81) 65 (122) rfl rfl cw_12 rfl (by decide) k_X12_146 dX12_mostOf_71 ?_
            refine lv_iload hx hb dX12_mostOf_74 (lv_at hl 5 rfl) ?_
            refine m_iald hx hb hW (122) rfl (m_ixI (rfl : y4.toInt = _) (by omega) (by omega)) dX12_mostOf_76 ?_
            refine lv_topi (fun x11 ex11 => ?_)
            refine lv_iload_n hx hb dX12_mostOf_77 rfl (lv_at hl 4 rfl) ?_
            refine lv_icmp_le (tgt := 89) hx hb dX12_mostOf_78 (by decide) (fun c12 => ?_) (fun c12 => ?_)
            · have i12 := m_c3 (rfl : x11.toInt = _) (rfl : y3.toInt = _) c12
              obtain ⟨x13, ex13⟩ : ∃ z : Int32, z = y4 + 1 := ⟨_, rfl⟩
              refine lv_iinc (v := x13) (lv' := [(4, .int x13), (5, .int 1), (0, .ref (b + 81)), (1, .int k), (2, .int u), (3, .int y3)]) hx hb dX12_mostOf_89 hl (k := 5) rfl (by rw [ex13]; rfl) (by decide) rfl (fun ls hl => ?_)
              have tx13 : x13.toInt = y4.toInt + 1 := m_addI ex13 (rfl : y4.toInt = _) (by decide : (1 : Int32).toInt = 1) (by omega) (by omega)
              refine lv_goto (tgt := 5) hx hb dX12_mostOf_92 (by decide) ?_
              exact ih y3 x13 (by omega) (by omega) μ hI hm _ _ hW ls (lv_sub hl [2, 3, 4, 5, 0] rfl)
            · have i12 := m_c4 (rfl : x11.toInt = _) (rfl : y3.toInt = _) c12
              refine lv_aload_n hx hb dX12_mostOf_81 rfl (lv_at hl 1 rfl) ?_
              refine m_getr hx hb hts hown hW (81) 65 (122) rfl rfl cw_12 rfl (by decide) k_X12_146 dX12_mostOf_82 ?_
              refine lv_iload hx hb dX12_mostOf_85 (lv_at hl 5 rfl) ?_
              refine m_iald hx hb hW (122) rfl (m_ixI (rfl : y4.toInt = _) (by omega) (by omega)) dX12_mostOf_87 ?_
              refine lv_topi (fun x14 ex14 => ?_)
              have ex14 : x14 = x11 := by rw [ex14]; exact ex11.symm
              have ex14 := ex14.symm
              subst ex14
              refine lv_istore_n (lv' := [(3, .int x11), (5, .int 1), (0, .ref (b + 81)), (1, .int k), (2, .int u), (4, .int y4)]) hx hb dX12_mostOf_88 rfl hl (by decide) rfl (fun ls hl => ?_)
              obtain ⟨x15, ex15⟩ : ∃ z : Int32, z = y4 + 1 := ⟨_, rfl⟩
              refine lv_iinc (v := x15) (lv' := [(4, .int x15), (3, .int x11), (5, .int 1), (0, .ref (b + 81)), (1, .int k), (2, .int u)]) hx hb dX12_mostOf_89 hl (k := 5) rfl (by rw [ex15]; rfl) (by decide) rfl (fun ls hl => ?_)
              have tx15 : x15.toInt = y4.toInt + 1 := m_addI ex15 (rfl : y4.toInt = _) (by decide : (1 : Int32).toInt = 1) (by omega) (by omega)
              refine lv_goto (tgt := 5) hx hb dX12_mostOf_92 (by decide) ?_
              exact ih x11 x15 (by omega) (by omega) μ hI hm _ _ hW ls (lv_sub hl [3, 4, 5, 1, 0] rfl)
      · have i4 := m_c5 (rfl : x3.toInt = _) (rfl : k.toInt = _) c4
        refine lv_aload_n hx hb dX12_mostOf_25 rfl (lv_at hl 0 rfl) ?_
        refine m_getr hx hb hts hown hW (81) 64 (121) rfl rfl cw_12 rfl (by decide) k_X12_143 dX12_mostOf_26 ?_
        refine lv_iload hx hb dX12_mostOf_29 (lv_at hl 4 rfl) ?_
        refine m_iald hx hb hW (121) rfl (m_ixI (rfl : y4.toInt = _) (by omega) (by omega)) dX12_mostOf_31 ?_
        refine lv_topi (fun x16 ex16 => ?_)
        refine lv_iload_n hx hb dX12_mostOf_32 rfl (lv_at hl 2 rfl) ?_
        refine lv_icmp_eq (tgt := 58) hx hb dX12_mostOf_33 (by decide) (fun c17 => ?_) (fun c17 => ?_)
        · have i17 := m_c5 (rfl : x16.toInt = _) (rfl : u.toInt = _) c17
          refine lv_iconst (v := 1) hx hb dX12_mostOf_58 (by decide) ?_
          refine lv_goto (tgt := 63) hx hb dX12_mostOf_59 (by decide) ?_
          refine lv_istore (lv' := [(5, .int 1), (0, .ref (b + 81)), (1, .int k), (2, .int u), (3, .int y3), (4, .int y4)]) hx hb dX12_mostOf_63 hl (by decide) rfl (fun ls hl => ?_)
          refine lv_iload hx hb dX12_mostOf_65 (lv_at hl 0 rfl) ?_
          refine lv_if_eq (tgt := 89) hx hb dX12_mostOf_67 (by decide) (fun c => False.elim (by revert c; decide)) (fun _ => ?_)
          refine lv_aload_n hx hb dX12_mostOf_70 rfl (lv_at hl 1 rfl) ?_
          refine m_getr hx hb hts hown hW (81) 65 (122) rfl rfl cw_12 rfl (by decide) k_X12_146 dX12_mostOf_71 ?_
          refine lv_iload hx hb dX12_mostOf_74 (lv_at hl 5 rfl) ?_
          refine m_iald hx hb hW (122) rfl (m_ixI (rfl : y4.toInt = _) (by omega) (by omega)) dX12_mostOf_76 ?_
          refine lv_topi (fun x18 ex18 => ?_)
          refine lv_iload_n hx hb dX12_mostOf_77 rfl (lv_at hl 4 rfl) ?_
          refine lv_icmp_le (tgt := 89) hx hb dX12_mostOf_78 (by decide) (fun c19 => ?_) (fun c19 => ?_)
          · have i19 := m_c3 (rfl : x18.toInt = _) (rfl : y3.toInt = _) c19
            obtain ⟨x20, ex20⟩ : ∃ z : Int32, z = y4 + 1 := ⟨_, rfl⟩
            refine lv_iinc (v := x20) (lv' := [(4, .int x20), (5, .int 1), (0, .ref (b + 81)), (1, .int k), (2, .int u), (3, .int y3)]) hx hb dX12_mostOf_89 hl (k := 5) rfl (by rw [ex20]; rfl) (by decide) rfl (fun ls hl => ?_)
            have tx20 : x20.toInt = y4.toInt + 1 := m_addI ex20 (rfl : y4.toInt = _) (by decide : (1 : Int32).toInt = 1) (by omega) (by omega)
            refine lv_goto (tgt := 5) hx hb dX12_mostOf_92 (by decide) ?_
            exact ih y3 x20 (by omega) (by omega) μ hI hm _ _ hW ls (lv_sub hl [2, 3, 4, 5, 0] rfl)
          · have i19 := m_c4 (rfl : x18.toInt = _) (rfl : y3.toInt = _) c19
            refine lv_aload_n hx hb dX12_mostOf_81 rfl (lv_at hl 1 rfl) ?_
            refine m_getr hx hb hts hown hW (81) 65 (122) rfl rfl cw_12 rfl (by decide) k_X12_146 dX12_mostOf_82 ?_
            refine lv_iload hx hb dX12_mostOf_85 (lv_at hl 5 rfl) ?_
            refine m_iald hx hb hW (122) rfl (m_ixI (rfl : y4.toInt = _) (by omega) (by omega)) dX12_mostOf_87 ?_
            refine lv_topi (fun x21 ex21 => ?_)
            have ex21 : x21 = x18 := by rw [ex21]; exact ex18.symm
            have ex21 := ex21.symm
            subst ex21
            refine lv_istore_n (lv' := [(3, .int x18), (5, .int 1), (0, .ref (b + 81)), (1, .int k), (2, .int u), (4, .int y4)]) hx hb dX12_mostOf_88 rfl hl (by decide) rfl (fun ls hl => ?_)
            obtain ⟨x22, ex22⟩ : ∃ z : Int32, z = y4 + 1 := ⟨_, rfl⟩
            refine lv_iinc (v := x22) (lv' := [(4, .int x22), (3, .int x18), (5, .int 1), (0, .ref (b + 81)), (1, .int k), (2, .int u)]) hx hb dX12_mostOf_89 hl (k := 5) rfl (by rw [ex22]; rfl) (by decide) rfl (fun ls hl => ?_)
            have tx22 : x22.toInt = y4.toInt + 1 := m_addI ex22 (rfl : y4.toInt = _) (by decide : (1 : Int32).toInt = 1) (by omega) (by omega)
            refine lv_goto (tgt := 5) hx hb dX12_mostOf_92 (by decide) ?_
            exact ih x18 x22 (by omega) (by omega) μ hI hm _ _ hW ls (lv_sub hl [3, 4, 5, 1, 0] rfl)
        · have i17 := m_c6 (rfl : x16.toInt = _) (rfl : u.toInt = _) c17
          refine lv_aload_n hx hb dX12_mostOf_36 rfl (lv_at hl 0 rfl) ?_
          refine m_getr hx hb hts hown hW (81) 63 (120) rfl rfl cw_12 rfl (by decide) k_X12_140 dX12_mostOf_37 ?_
          refine lv_iload hx hb dX12_mostOf_40 (lv_at hl 4 rfl) ?_
          refine m_iald hx hb hW (120) rfl (m_ixI (rfl : y4.toInt = _) (by omega) (by omega)) dX12_mostOf_42 ?_
          refine lv_topi (fun x23 ex23 => ?_)
          have ex23 : x23 = x3 := by rw [ex23]; exact ex3.symm
          have ex23 := ex23.symm
          subst ex23
          refine lv_iload_n hx hb dX12_mostOf_43 rfl (lv_at hl 2 rfl) ?_
          refine lv_icmp_ne (tgt := 62) hx hb dX12_mostOf_44 (by decide) (fun c24 => ?_) (fun c24 => ?_)
          · have i24 := m_c6 (rfl : x3.toInt = _) (rfl : u.toInt = _) c24
            refine lv_iconst (v := 0) hx hb dX12_mostOf_62 (by decide) ?_
            refine lv_istore (lv' := [(5, .int 0), (0, .ref (b + 81)), (1, .int k), (2, .int u), (3, .int y3), (4, .int y4)]) hx hb dX12_mostOf_63 hl (by decide) rfl (fun ls hl => ?_)
            refine lv_iload hx hb dX12_mostOf_65 (lv_at hl 0 rfl) ?_
            refine lv_if_eq (tgt := 89) hx hb dX12_mostOf_67 (by decide) (fun _ => ?_) (fun c => False.elim (by revert c; decide))
            obtain ⟨x25, ex25⟩ : ∃ z : Int32, z = y4 + 1 := ⟨_, rfl⟩
            refine lv_iinc (v := x25) (lv' := [(4, .int x25), (5, .int 0), (0, .ref (b + 81)), (1, .int k), (2, .int u), (3, .int y3)]) hx hb dX12_mostOf_89 hl (k := 5) rfl (by rw [ex25]; rfl) (by decide) rfl (fun ls hl => ?_)
            have tx25 : x25.toInt = y4.toInt + 1 := m_addI ex25 (rfl : y4.toInt = _) (by decide : (1 : Int32).toInt = 1) (by omega) (by omega)
            refine lv_goto (tgt := 5) hx hb dX12_mostOf_92 (by decide) ?_
            exact ih y3 x25 (by omega) (by omega) μ hI hm _ _ hW ls (lv_sub hl [2, 3, 4, 5, 0] rfl)
          · have i24 := m_c5 (rfl : x3.toInt = _) (rfl : u.toInt = _) c24
            refine lv_aload_n hx hb dX12_mostOf_47 rfl (lv_at hl 0 rfl) ?_
            refine m_getr hx hb hts hown hW (81) 64 (121) rfl rfl cw_12 rfl (by decide) k_X12_143 dX12_mostOf_48 ?_
            refine lv_iload hx hb dX12_mostOf_51 (lv_at hl 4 rfl) ?_
            refine m_iald hx hb hW (121) rfl (m_ixI (rfl : y4.toInt = _) (by omega) (by omega)) dX12_mostOf_53 ?_
            refine lv_topi (fun x26 ex26 => ?_)
            have ex26 : x26 = x16 := by rw [ex26]; exact ex16.symm
            have ex26 := ex26.symm
            subst ex26
            refine lv_iload_n hx hb dX12_mostOf_54 rfl (lv_at hl 1 rfl) ?_
            refine lv_icmp_ne (tgt := 62) hx hb dX12_mostOf_55 (by decide) (fun c27 => ?_) (fun c27 => ?_)
            · have i27 := m_c6 (rfl : x16.toInt = _) (rfl : k.toInt = _) c27
              refine lv_iconst (v := 0) hx hb dX12_mostOf_62 (by decide) ?_
              refine lv_istore (lv' := [(5, .int 0), (0, .ref (b + 81)), (1, .int k), (2, .int u), (3, .int y3), (4, .int y4)]) hx hb dX12_mostOf_63 hl (by decide) rfl (fun ls hl => ?_)
              refine lv_iload hx hb dX12_mostOf_65 (lv_at hl 0 rfl) ?_
              refine lv_if_eq (tgt := 89) hx hb dX12_mostOf_67 (by decide) (fun _ => ?_) (fun c => False.elim (by revert c; decide))
              obtain ⟨x28, ex28⟩ : ∃ z : Int32, z = y4 + 1 := ⟨_, rfl⟩
              refine lv_iinc (v := x28) (lv' := [(4, .int x28), (5, .int 0), (0, .ref (b + 81)), (1, .int k), (2, .int u), (3, .int y3)]) hx hb dX12_mostOf_89 hl (k := 5) rfl (by rw [ex28]; rfl) (by decide) rfl (fun ls hl => ?_)
              have tx28 : x28.toInt = y4.toInt + 1 := m_addI ex28 (rfl : y4.toInt = _) (by decide : (1 : Int32).toInt = 1) (by omega) (by omega)
              refine lv_goto (tgt := 5) hx hb dX12_mostOf_92 (by decide) ?_
              exact ih y3 x28 (by omega) (by omega) μ hI hm _ _ hW ls (lv_sub hl [2, 3, 4, 5, 0] rfl)
            · have i27 := m_c5 (rfl : x16.toInt = _) (rfl : k.toInt = _) c27
              refine lv_iconst (v := 1) hx hb dX12_mostOf_58 (by decide) ?_
              refine lv_goto (tgt := 63) hx hb dX12_mostOf_59 (by decide) ?_
              refine lv_istore (lv' := [(5, .int 1), (0, .ref (b + 81)), (1, .int k), (2, .int u), (3, .int y3), (4, .int y4)]) hx hb dX12_mostOf_63 hl (by decide) rfl (fun ls hl => ?_)
              refine lv_iload hx hb dX12_mostOf_65 (lv_at hl 0 rfl) ?_
              refine lv_if_eq (tgt := 89) hx hb dX12_mostOf_67 (by decide) (fun c => False.elim (by revert c; decide)) (fun _ => ?_)
              refine lv_aload_n hx hb dX12_mostOf_70 rfl (lv_at hl 1 rfl) ?_
              refine m_getr hx hb hts hown hW (81) 65 (122) rfl rfl cw_12 rfl (by decide) k_X12_146 dX12_mostOf_71 ?_
              refine lv_iload hx hb dX12_mostOf_74 (lv_at hl 5 rfl) ?_
              refine m_iald hx hb hW (122) rfl (m_ixI (rfl : y4.toInt = _) (by omega) (by omega)) dX12_mostOf_76 ?_
              refine lv_topi (fun x29 ex29 => ?_)
              refine lv_iload_n hx hb dX12_mostOf_77 rfl (lv_at hl 4 rfl) ?_
              refine lv_icmp_le (tgt := 89) hx hb dX12_mostOf_78 (by decide) (fun c30 => ?_) (fun c30 => ?_)
              · have i30 := m_c3 (rfl : x29.toInt = _) (rfl : y3.toInt = _) c30
                obtain ⟨x31, ex31⟩ : ∃ z : Int32, z = y4 + 1 := ⟨_, rfl⟩
                refine lv_iinc (v := x31) (lv' := [(4, .int x31), (5, .int 1), (0, .ref (b + 81)), (1, .int k), (2, .int u), (3, .int y3)]) hx hb dX12_mostOf_89 hl (k := 5) rfl (by rw [ex31]; rfl) (by decide) rfl (fun ls hl => ?_)
                have tx31 : x31.toInt = y4.toInt + 1 := m_addI ex31 (rfl : y4.toInt = _) (by decide : (1 : Int32).toInt = 1) (by omega) (by omega)
                refine lv_goto (tgt := 5) hx hb dX12_mostOf_92 (by decide) ?_
                exact ih y3 x31 (by omega) (by omega) μ hI hm _ _ hW ls (lv_sub hl [2, 3, 4, 5, 0] rfl)
              · have i30 := m_c4 (rfl : x29.toInt = _) (rfl : y3.toInt = _) c30
                refine lv_aload_n hx hb dX12_mostOf_81 rfl (lv_at hl 1 rfl) ?_
                refine m_getr hx hb hts hown hW (81) 65 (122) rfl rfl cw_12 rfl (by decide) k_X12_146 dX12_mostOf_82 ?_
                refine lv_iload hx hb dX12_mostOf_85 (lv_at hl 5 rfl) ?_
                refine m_iald hx hb hW (122) rfl (m_ixI (rfl : y4.toInt = _) (by omega) (by omega)) dX12_mostOf_87 ?_
                refine lv_topi (fun x32 ex32 => ?_)
                have ex32 : x32 = x29 := by rw [ex32]; exact ex29.symm
                have ex32 := ex32.symm
                subst ex32
                refine lv_istore_n (lv' := [(3, .int x29), (5, .int 1), (0, .ref (b + 81)), (1, .int k), (2, .int u), (4, .int y4)]) hx hb dX12_mostOf_88 rfl hl (by decide) rfl (fun ls hl => ?_)
                obtain ⟨x33, ex33⟩ : ∃ z : Int32, z = y4 + 1 := ⟨_, rfl⟩
                refine lv_iinc (v := x33) (lv' := [(4, .int x33), (3, .int x29), (5, .int 1), (0, .ref (b + 81)), (1, .int k), (2, .int u)]) hx hb dX12_mostOf_89 hl (k := 5) rfl (by rw [ex33]; rfl) (by decide) rfl (fun ls hl => ?_)
                have tx33 : x33.toInt = y4.toInt + 1 := m_addI ex33 (rfl : y4.toInt = _) (by decide : (1 : Int32).toInt = 1) (by omega) (by omega)
                refine lv_goto (tgt := 5) hx hb dX12_mostOf_92 (by decide) ?_
                exact ih x29 x33 (by omega) (by omega) μ hI hm _ _ hW ls (lv_sub hl [3, 4, 5, 1, 0] rfl)
set_option maxHeartbeats 4000000 in
set_option maxRecDepth 100000 in
theorem g_X12_mostOf (l : Launch) (D : va_G) (cy : Nat → ClassId) (b : Nat) (k u : Int32) (h_k : 1 ≤ k.toInt ∧ k.toInt ≤ 40) (h_u : 1 ≤ u.toInt ∧ u.toInt ≤ 40) (μ : mM) (hI : IX μ) : m_Ci l yX12_mostOf cX12_mostOf 6 ((some .int)) 0 D cy b LAY μ [.ref (b + 81), .int k, .int u] (fun r ν => μ = ν ∧ (True)) := by
  unfold m_Ci
  refine m_of (by decide) (Nat.le_of_ble_eq_true rfl) ?_
  intro p e s m below meth c hx hb hr hml hown hts hlocks _ hW ls hl
  have hown : s.vm.findClass RX12 = some m.cls := hown
  have hl : lv_has ls 6 [(0, .ref (b + 81)), (1, .int k), (2, .int u)] := hl
  refine lv_iconst (v := 0) hx hb dX12_mostOf_0 (by decide) ?_
  refine lv_istore_n (lv' := [(3, .int 0), (0, .ref (b + 81)), (1, .int k), (2, .int u)]) hx hb dX12_mostOf_1 rfl hl (by decide) rfl (fun ls hl => ?_)
  refine lv_iconst (v := 0) hx hb dX12_mostOf_2 (by decide) ?_
  refine lv_istore (lv' := [(4, .int 0), (3, .int 0), (0, .ref (b + 81)), (1, .int k), (2, .int u)]) hx hb dX12_mostOf_3 hl (by decide) rfl (fun ls hl => ?_)
  have l_0 : (0 : Int32).toInt = 0 := by decide
  exact L_X12_mostOf_5 hx hb hr hml hown hts hlocks μ k u h_k h_u  7 0 0 (by omega) (by omega) μ hI rfl _ _ hW ls (lv_sub hl [2, 3, 4, 1, 0] rfl)
set_option maxHeartbeats 4000000 in
set_option maxRecDepth 100000 in
theorem L_X12_fill_49 {p : Program} {l : Launch} {e : Env} {s : State} {m : MethodId} {args : Array Value} {below : List Frame} {meth : Method} {c : Code} {D : va_G} {cy : Nat → ClassId} {b : Nat} (hx : p.tables.exec = Jvm.exec) (hb : c.code = cX12_fill) (hr : meth.sig.returnType = ((some .int))) (hml : c.maxLocals = 5) (hown : s.vm.findClass RX12 = some m.cls) (hts : ∀ w ∈ TB, w.before args s = true) (hlocks : meth.locks = false) (S : Nat → Bool) (μ0 : mM) (hS20 : S 20 = true) (hS31 : S 31 = true) (k u : Int32) (F41 : Nat) (O41 : ∀ (y3 : Int32) (hy : 1 ≤ y3.toInt ∧ y3.toInt ≤ 41 ∧ 1 ≤ k.toInt ∧ k.toInt ≤ 40 ∧ 1 ≤ u.toInt ∧ u.toInt ≤ 40) (hf : 41 - y3.toInt < (F41 : Int)) (μ : mM) (hI : IY S μ0 μ) (H : Heap) (locs : List Loc), m_WA (m_A b LAY) D cy s b LAY μ H locs → ∀ ls : Array Slot, lv_has ls 5 [(0, .ref (b + 81)), (1, .int k), (2, .int u), (3, .int y3)] → W p l e (m_R 1 0 0) s m args below meth c H locs 0 0 (MQ below (m_Qi D cy b LAY (fun r ν => IY S μ0 ν ∧ (True))) args s 0 0 (m_A b LAY)) (F0 m 41 ls [])) : ∀ (f : Nat), ∀ (y3 y4 : Int32) (hy : 41 - y3.toInt < (F41 : Int) + 1 ∧ 1 ≤ y3.toInt ∧ y3.toInt ≤ 40 ∧ 1 ≤ y4.toInt ∧ y4.toInt ≤ 41 ∧ 1 ≤ y3.toInt ∧ y3.toInt ≤ 41 ∧ 1 ≤ k.toInt ∧ k.toInt ≤ 40 ∧ 1 ≤ u.toInt ∧ u.toInt ≤ 40) (hf : 41 - y4.toInt < (f : Int)) (μ : mM) (hI : IY S μ0 μ) (H : Heap) (locs : List Loc), m_WA (m_A b LAY) D cy s b LAY μ H locs → ∀ ls : Array Slot, lv_has ls 5 [(0, .ref (b + 81)), (1, .int k), (2, .int u), (3, .int y3), (4, .int y4)] → W p l e (m_R 1 0 0) s m args below meth c H locs 0 0 (MQ below (m_Qi D cy b LAY (fun r ν => IY S μ0 ν ∧ (True))) args s 0 0 (m_A b LAY)) (F0 m 49 ls []) := by
  intro f
  induction f with
  | zero => intro y3 y4 hy hf; exfalso; omega
  | succ f ih =>
    intro y3 y4 hy hf μ hI H locs hW ls hl
    refine lv_iload hx hb dX12_fill_49 (lv_at hl 4 rfl) ?_
    refine lv_iload_n hx hb dX12_fill_51 rfl (lv_at hl 2 rfl) ?_
    refine lv_icmp_gt (tgt := 80) hx hb dX12_fill_52 (by decide) (fun c1 => ?_) (fun c1 => ?_)
    · have i1 := m_c1 (rfl : u.toInt = _) (rfl : y4.toInt = _) c1
      obtain ⟨x2, ex2⟩ : ∃ z : Int32, z = y3 + 1 := ⟨_, rfl⟩
      refine lv_iinc (v := x2) (lv' := [(3, .int x2), (0, .ref (b + 81)), (1, .int k), (2, .int u), (4, .int y4)]) hx hb dX12_fill_80 hl (k := 3) rfl (by rw [ex2]; rfl) (by decide) rfl (fun ls hl => ?_)
      have tx2 : x2.toInt = y3.toInt + 1 := m_addI ex2 (rfl : y3.toInt = _) (by decide : (1 : Int32).toInt = 1) (by omega) (by omega)
      refine lv_goto (tgt := 41) hx hb dX12_fill_83 (by decide) ?_
      exact O41 x2 (by omega) (by omega) μ hI _ _ hW ls (lv_sub hl [1, 2, 3, 0] rfl)
    · have i1 := m_c2 (rfl : u.toInt = _) (rfl : y4.toInt = _) c1
      refine lv_aload_n hx hb dX12_fill_55 rfl (lv_at hl 0 rfl) ?_
      refine m_getr hx hb hts hown hW (81) 66 (123) rfl rfl cw_12 rfl (by decide) k_X12_149 dX12_fill_56 ?_
      refine lv_bipush (v := 41) hx hb dX12_fill_59 (by decide) ?_
      refine lv_iload_n hx hb dX12_fill_61 rfl (lv_at hl 3 rfl) ?_
      refine lv_imul hx hb dX12_fill_62 ?_
      refine lv_topi (fun x3 ex3 => ?_)
      have tx3 : x3.toInt = 41 * y3.toInt := m_mulI ex3 (by decide : (41 : Int32).toInt = 41) (rfl : y3.toInt = _) (by omega) (by omega)
      refine lv_iload hx hb dX12_fill_63 (lv_at hl 4 rfl) ?_
      refine lv_iadd hx hb dX12_fill_65 ?_
      refine lv_topi (fun x4 ex4 => ?_)
      have tx4 : x4.toInt = x3.toInt + y4.toInt := m_addI ex4 (rfl : x3.toInt = _) (rfl : y4.toInt = _) (by omega) (by omega)
      refine lv_aload_n hx hb dX12_fill_66 rfl (lv_at hl 0 rfl) ?_
      refine lv_iload_n hx hb dX12_fill_67 rfl (lv_at hl 3 rfl) ?_
      refine lv_iload hx hb dX12_fill_68 (lv_at hl 4 rfl) ?_
      refine m_aI hW (m_runV (As := [.int y3, .int y4]) (rest := [.int x4, .ref (b + 123)]) hx hb hml hown hts hW (81) (g_X12_mostOf l D cy b y3 y4 (by omega) (by omega) μ hI.1) mi_X12_mostOf k_X12_398 rfl rfl rfl hl.1 rfl (Nat.le_of_ble_eq_true rfl) dX12_fill_70 ⟨Nat.le_of_ble_eq_true rfl, Nat.le_of_ble_eq_true rfl⟩ ⟨Nat.le_of_ble_eq_true rfl, Nat.le_of_ble_eq_true rfl⟩) (fun x5 μ5 H locs q5 hW => ?_)
      obtain ⟨q5_m, q5⟩ := q5
      subst q5_m
      refine m_iast hx hb hW (123) rfl (m_ixI (rfl : x4.toInt = _) (by omega) (by omega)) dX12_fill_73 (fun H locs hW _ => ?_)
      generalize hμ6 : m_si μ (123) (x4 : Int32).toNatClampNeg x5 = μ6 at hW
      have hI := hI.si0 hμ6 rfl hS31
      obtain ⟨x7, ex7⟩ : ∃ z : Int32, z = y4 + 1 := ⟨_, rfl⟩
      refine lv_iinc (v := x7) (lv' := [(4, .int x7), (0, .ref (b + 81)), (1, .int k), (2, .int u), (3, .int y3)]) hx hb dX12_fill_74 hl (k := 4) rfl (by rw [ex7]; rfl) (by decide) rfl (fun ls hl => ?_)
      have tx7 : x7.toInt = y4.toInt + 1 := m_addI ex7 (rfl : y4.toInt = _) (by decide : (1 : Int32).toInt = 1) (by omega) (by omega)
      refine lv_goto (tgt := 49) hx hb dX12_fill_77 (by decide) ?_
      exact ih y3 x7 (by omega) (by omega) μ6 hI _ _ hW ls (lv_sub hl [1, 2, 3, 4, 0] rfl)
set_option maxHeartbeats 4000000 in
set_option maxRecDepth 100000 in
theorem L_X12_fill_41 {p : Program} {l : Launch} {e : Env} {s : State} {m : MethodId} {args : Array Value} {below : List Frame} {meth : Method} {c : Code} {D : va_G} {cy : Nat → ClassId} {b : Nat} (hx : p.tables.exec = Jvm.exec) (hb : c.code = cX12_fill) (hr : meth.sig.returnType = ((some .int))) (hml : c.maxLocals = 5) (hown : s.vm.findClass RX12 = some m.cls) (hts : ∀ w ∈ TB, w.before args s = true) (hlocks : meth.locks = false) (S : Nat → Bool) (μ0 : mM) (hS20 : S 20 = true) (hS31 : S 31 = true) (k u : Int32) : ∀ (f : Nat), ∀ (y3 : Int32) (hy : 1 ≤ y3.toInt ∧ y3.toInt ≤ 41 ∧ 1 ≤ k.toInt ∧ k.toInt ≤ 40 ∧ 1 ≤ u.toInt ∧ u.toInt ≤ 40) (hf : 41 - y3.toInt < (f : Int)) (μ : mM) (hI : IY S μ0 μ) (H : Heap) (locs : List Loc), m_WA (m_A b LAY) D cy s b LAY μ H locs → ∀ ls : Array Slot, lv_has ls 5 [(0, .ref (b + 81)), (1, .int k), (2, .int u), (3, .int y3)] → W p l e (m_R 1 0 0) s m args below meth c H locs 0 0 (MQ below (m_Qi D cy b LAY (fun r ν => IY S μ0 ν ∧ (True))) args s 0 0 (m_A b LAY)) (F0 m 41 ls []) := by
  intro f
  induction f with
  | zero => intro y3 hy hf; exfalso; omega
  | succ f ih =>
    intro y3 hy hf μ hI H locs hW ls hl
    refine lv_iload_n hx hb dX12_fill_41 rfl (lv_at hl 3 rfl) ?_
    refine lv_iload_n hx hb dX12_fill_42 rfl (lv_at hl 1 rfl) ?_
    refine lv_icmp_gt (tgt := 86) hx hb dX12_fill_43 (by decide) (fun c1 => ?_) (fun c1 => ?_)
    · have i1 := m_c1 (rfl : k.toInt = _) (rfl : y3.toInt = _) c1
      refine lv_aload_n hx hb dX12_fill_86 rfl (lv_at hl 0 rfl) ?_
      refine m_getr hx hb hts hown hW (81) 66 (123) rfl rfl cw_12 rfl (by decide) k_X12_149 dX12_fill_87 ?_
      refine lv_bipush (v := 41) hx hb dX12_fill_90 (by decide) ?_
      refine lv_iload_n hx hb dX12_fill_92 rfl (lv_at hl 1 rfl) ?_
      refine lv_imul hx hb dX12_fill_93 ?_
      refine lv_topi (fun x2 ex2 => ?_)
      have tx2 : x2.toInt = 41 * k.toInt := m_mulI ex2 (by decide : (41 : Int32).toInt = 41) (rfl : k.toInt = _) (by omega) (by omega)
      refine lv_iload_n hx hb dX12_fill_94 rfl (lv_at hl 2 rfl) ?_
      refine lv_iadd hx hb dX12_fill_95 ?_
      refine lv_topi (fun x3 ex3 => ?_)
      have tx3 : x3.toInt = x2.toInt + u.toInt := m_addI ex3 (rfl : x2.toInt = _) (rfl : u.toInt = _) (by omega) (by omega)
      refine m_iald hx hb hW (123) rfl (m_ixI (rfl : x3.toInt = _) (by omega) (by omega)) dX12_fill_96 ?_
      refine lv_topi (fun x4 ex4 => ?_)
      exact m_iret hx hb hr hlocks hW rfl (⟨hI, trivial⟩) dX12_fill_97
    · have i1 := m_c2 (rfl : k.toInt = _) (rfl : y3.toInt = _) c1
      refine lv_iconst (v := 1) hx hb dX12_fill_46 (by decide) ?_
      refine lv_istore (lv' := [(4, .int 1), (0, .ref (b + 81)), (1, .int k), (2, .int u), (3, .int y3)]) hx hb dX12_fill_47 hl (by decide) rfl (fun ls hl => ?_)
      have l_1 : (1 : Int32).toInt = 1 := by decide
      exact L_X12_fill_49 hx hb hr hml hown hts hlocks S μ0 hS20 hS31 k u f ih 42 y3 1 (by omega) (by omega) μ hI _ _ hW ls (lv_sub hl [1, 2, 3, 4, 0] rfl)
set_option maxHeartbeats 4000000 in
set_option maxRecDepth 100000 in
theorem g_X12_fill (l : Launch) (D : va_G) (cy : Nat → ClassId) (b : Nat) (S : Nat → Bool) (μ0 : mM) (hS20 : S 20 = true) (hS31 : S 31 = true) (k u : Int32) (μ : mM) (hI : IY S μ0 μ) : m_Ci l yX12_fill cX12_fill 5 ((some .int)) 1 D cy b LAY μ [.ref (b + 81), .int k, .int u] (fun r ν => IY S μ0 ν ∧ (True)) := by
  unfold m_Ci
  refine m_of (by decide) (Nat.le_of_ble_eq_true rfl) ?_
  intro p e s m below meth c hx hb hr hml hown hts hlocks _ hW ls hl
  have hown : s.vm.findClass RX12 = some m.cls := hown
  have hl : lv_has ls 5 [(0, .ref (b + 81)), (1, .int k), (2, .int u)] := hl
  refine lv_aload_n hx hb dX12_fill_0 rfl (lv_at hl 0 rfl) ?_
  refine lv_iconst (v := 0) hx hb dX12_fill_1 (by decide) ?_
  refine m_puti hx hb hts hown hW (81) 0 rfl rfl cw_12 tyX12_ok nmX12 rfl (by decide) k_X12_167 rfl rfl rfl dX12_fill_2 (fun H locs hW _ => ?_)
  generalize hμ1 : m_si μ (81) 0 0 = μ1 at hW
  have hI := hI.si0 hμ1 rfl hS20
  refine lv_aload_n hx hb dX12_fill_5 rfl (lv_at hl 0 rfl) ?_
  refine lv_iload_n hx hb dX12_fill_6 rfl (lv_at hl 1 rfl) ?_
  refine lv_iconst (v := 0) hx hb dX12_fill_7 (by decide) ?_
  refine lv_bipush (v := 40) hx hb dX12_fill_8 (by decide) ?_
  have l_0 : (0 : Int32).toInt = 0 := by decide
  have l_40 : (40 : Int32).toInt = 40 := by decide
  refine m_aI hW (m_runV (As := [.int k, .int 0, .int 40]) (rest := []) hx hb hml hown hts hW (81) (g_X12_isIn l D cy b k 0 40 μ1 hI.1) mi_X12_isIn k_X12_170 rfl rfl rfl hl.1 rfl (Nat.le_of_ble_eq_true rfl) dX12_fill_10 ⟨Nat.le_of_ble_eq_true rfl, Nat.le_of_ble_eq_true rfl⟩ ⟨Nat.le_of_ble_eq_true rfl, Nat.le_of_ble_eq_true rfl⟩) (fun x2 μ2 H locs q2 hW => ?_)
  obtain ⟨q2_m, q2⟩ := q2
  subst q2_m
  rcases q2 with ⟨rfl, q2⟩ | ⟨rfl, q2⟩
  · refine lv_if_eq (tgt := 27) hx hb dX12_fill_13 (by decide) (fun c => False.elim (by revert c; decide)) (fun _ => ?_)
    refine lv_aload_n hx hb dX12_fill_16 rfl (lv_at hl 0 rfl) ?_
    refine lv_iload_n hx hb dX12_fill_17 rfl (lv_at hl 2 rfl) ?_
    refine lv_iconst (v := 0) hx hb dX12_fill_18 (by decide) ?_
    refine lv_bipush (v := 40) hx hb dX12_fill_19 (by decide) ?_
    refine m_aI hW (m_runV (As := [.int u, .int 0, .int 40]) (rest := []) hx hb hml hown hts hW (81) (g_X12_isIn l D cy b u 0 40 μ1 hI.1) mi_X12_isIn k_X12_170 rfl rfl rfl hl.1 rfl (Nat.le_of_ble_eq_true rfl) dX12_fill_21 ⟨Nat.le_of_ble_eq_true rfl, Nat.le_of_ble_eq_true rfl⟩ ⟨Nat.le_of_ble_eq_true rfl, Nat.le_of_ble_eq_true rfl⟩) (fun x3 μ3 H locs q3 hW => ?_)
    obtain ⟨q3_m, q3⟩ := q3
    subst q3_m
    rcases q3 with ⟨rfl, q3⟩ | ⟨rfl, q3⟩
    · refine lv_if_ne (tgt := 29) hx hb dX12_fill_24 (by decide) (fun _ => ?_) (fun c => False.elim (by revert c; decide))
      refine lv_iload_n hx hb dX12_fill_29 rfl (lv_at hl 1 rfl) ?_
      refine lv_if_eq (tgt := 37) hx hb dX12_fill_30 (by decide) (fun c4 => ?_) (fun c4 => ?_)
      · have i4 := m_c5 (rfl : k.toInt = _) (by decide : (0 : Int32).toInt = 0) c4
        refine lv_iconst (v := 0) hx hb dX12_fill_37 (by decide) ?_
        exact m_iret hx hb hr hlocks hW rfl (⟨hI, trivial⟩) dX12_fill_38
      · have i4 := m_c6 (rfl : k.toInt = _) (by decide : (0 : Int32).toInt = 0) c4
        refine lv_iload_n hx hb dX12_fill_33 rfl (lv_at hl 2 rfl) ?_
        refine lv_if_ne (tgt := 39) hx hb dX12_fill_34 (by decide) (fun c5 => ?_) (fun c5 => ?_)
        · have i5 := m_c6 (rfl : u.toInt = _) (by decide : (0 : Int32).toInt = 0) c5
          refine lv_iconst (v := 1) hx hb dX12_fill_39 (by decide) ?_
          refine lv_istore_n (lv' := [(3, .int 1), (0, .ref (b + 81)), (1, .int k), (2, .int u)]) hx hb dX12_fill_40 rfl hl (by decide) rfl (fun ls hl => ?_)
          have l_1 : (1 : Int32).toInt = 1 := by decide
          exact L_X12_fill_41 hx hb hr hml hown hts hlocks S μ0 hS20 hS31 k u  42 1 (by omega) (by omega) μ1 hI _ _ hW ls (lv_sub hl [1, 2, 3, 0] rfl)
        · have i5 := m_c5 (rfl : u.toInt = _) (by decide : (0 : Int32).toInt = 0) c5
          refine lv_iconst (v := 0) hx hb dX12_fill_37 (by decide) ?_
          exact m_iret hx hb hr hlocks hW rfl (⟨hI, trivial⟩) dX12_fill_38
    · refine lv_if_ne (tgt := 29) hx hb dX12_fill_24 (by decide) (fun c => False.elim (by revert c; decide)) (fun _ => ?_)
      refine lv_iconst (v := (-1)) hx hb dX12_fill_27 (by decide) ?_
      exact m_iret hx hb hr hlocks hW rfl (⟨hI, trivial⟩) dX12_fill_28
  · refine lv_if_eq (tgt := 27) hx hb dX12_fill_13 (by decide) (fun _ => ?_) (fun c => False.elim (by revert c; decide))
    refine lv_iconst (v := (-1)) hx hb dX12_fill_27 (by decide) ?_
    exact m_iret hx hb hr hlocks hW rfl (⟨hI, trivial⟩) dX12_fill_28
set_option maxHeartbeats 4000000 in
set_option maxRecDepth 100000 in
theorem g_X12_test (l : Launch) (D : va_G) (cy : Nat → ClassId) (b : Nat) (S : Nat → Bool) (μ0 : mM) (hS20 : S 20 = true) (hS29 : S 29 = true) (k u v w : Int32) (h_v : 0 ≤ v.toInt ∧ v.toInt ≤ 1) (μ : mM) (hI : IY S μ0 μ) : m_Ci l yX12_test cX12_test 5 ((some .boolean)) 1 D cy b LAY μ [.ref (b + 81), .int k, .int u, .int v, .int w] (fun r ν => IY S μ0 ν ∧ ((r = 1 ∧ (True)) ∨ (r = 0 ∧ (True)))) := by
  unfold m_Ci
  refine m_of (by decide) (Nat.le_of_ble_eq_true rfl) ?_
  intro p e s m below meth c hx hb hr hml hown hts hlocks _ hW ls hl
  have hown : s.vm.findClass RX12 = some m.cls := hown
  have hl : lv_has ls 5 [(0, .ref (b + 81)), (1, .int k), (2, .int u), (3, .int v), (4, .int w)] := hl
  refine lv_aload_n hx hb dX12_test_0 rfl (lv_at hl 0 rfl) ?_
  refine lv_iconst (v := 0) hx hb dX12_test_1 (by decide) ?_
  refine m_puti hx hb hts hown hW (81) 0 rfl rfl cw_12 tyX12_ok nmX12 rfl (by decide) k_X12_167 rfl rfl rfl dX12_test_2 (fun H locs hW _ => ?_)
  generalize hμ1 : m_si μ (81) 0 0 = μ1 at hW
  have hI := hI.si0 hμ1 rfl hS20
  refine lv_aload_n hx hb dX12_test_5 rfl (lv_at hl 0 rfl) ?_
  refine lv_iload_n hx hb dX12_test_6 rfl (lv_at hl 1 rfl) ?_
  refine lv_iconst (v := 0) hx hb dX12_test_7 (by decide) ?_
  refine lv_iconst (v := 3) hx hb dX12_test_8 (by decide) ?_
  have l_0 : (0 : Int32).toInt = 0 := by decide
  have l_3 : (3 : Int32).toInt = 3 := by decide
  refine m_aI hW (m_runV (As := [.int k, .int 0, .int 3]) (rest := []) hx hb hml hown hts hW (81) (g_X12_isIn l D cy b k 0 3 μ1 hI.1) mi_X12_isIn k_X12_170 rfl rfl rfl hl.1 rfl (Nat.le_of_ble_eq_true rfl) dX12_test_9 ⟨Nat.le_of_ble_eq_true rfl, Nat.le_of_ble_eq_true rfl⟩ ⟨Nat.le_of_ble_eq_true rfl, Nat.le_of_ble_eq_true rfl⟩) (fun x2 μ2 H locs q2 hW => ?_)
  obtain ⟨q2_m, q2⟩ := q2
  subst q2_m
  rcases q2 with ⟨rfl, q2⟩ | ⟨rfl, q2⟩
  · refine lv_if_eq (tgt := 71) hx hb dX12_test_12 (by decide) (fun c => False.elim (by revert c; decide)) (fun _ => ?_)
    refine lv_aload_n hx hb dX12_test_15 rfl (lv_at hl 0 rfl) ?_
    refine lv_iload_n hx hb dX12_test_16 rfl (lv_at hl 2 rfl) ?_
    refine lv_iconst (v := 1) hx hb dX12_test_17 (by decide) ?_
    refine lv_sipush (v := 9999) hx hb dX12_test_18 (by decide) ?_
    have l_1 : (1 : Int32).toInt = 1 := by decide
    have l_9999 : (9999 : Int32).toInt = 9999 := by decide
    refine m_aI hW (m_runV (As := [.int u, .int 1, .int 9999]) (rest := []) hx hb hml hown hts hW (81) (g_X12_isIn l D cy b u 1 9999 μ1 hI.1) mi_X12_isIn k_X12_170 rfl rfl rfl hl.1 rfl (Nat.le_of_ble_eq_true rfl) dX12_test_21 ⟨Nat.le_of_ble_eq_true rfl, Nat.le_of_ble_eq_true rfl⟩ ⟨Nat.le_of_ble_eq_true rfl, Nat.le_of_ble_eq_true rfl⟩) (fun x3 μ3 H locs q3 hW => ?_)
    obtain ⟨q3_m, q3⟩ := q3
    subst q3_m
    rcases q3 with ⟨rfl, q3⟩ | ⟨rfl, q3⟩
    · refine lv_if_eq (tgt := 71) hx hb dX12_test_24 (by decide) (fun c => False.elim (by revert c; decide)) (fun _ => ?_)
      refine lv_aload_n hx hb dX12_test_27 rfl (lv_at hl 0 rfl) ?_
      refine lv_iload hx hb dX12_test_28 (lv_at hl 4 rfl) ?_
      refine lv_aload_n hx hb dX12_test_30 rfl (lv_at hl 0 rfl) ?_
      refine m_geti hx hb hts hown hW (81) 67 rfl rfl cw_12 rfl (by decide) k_X12_401 dX12_test_31 ?_
      refine lv_topi (fun x4 ex4 => ?_)
      have bx4 : 0 ≤ x4.toInt ∧ x4.toInt ≤ 200 := by rw [ex4]; exact hI.1 _ _ _ _ rfl
      refine lv_if_ne (tgt := 41) hx hb dX12_test_34 (by decide) (fun c5 => ?_) (fun c5 => ?_)
      · have i5 := m_c6 (rfl : x4.toInt = _) (by decide : (0 : Int32).toInt = 0) c5
        refine lv_aload_n hx hb dX12_test_41 rfl (lv_at hl 0 rfl) ?_
        refine m_getr hx hb hts hown hW (81) 71 (127) rfl rfl cw_12 rfl (by decide) k_X12_161 dX12_test_42 ?_
        refine lv_aload_n hx hb dX12_test_45 rfl (lv_at hl 0 rfl) ?_
        refine m_geti hx hb hts hown hW (81) 67 rfl rfl cw_12 rfl (by decide) k_X12_401 dX12_test_46 ?_
        refine lv_topi (fun x6 ex6 => ?_)
        have ex6 : x6 = x4 := by rw [ex6]; exact ex4.symm
        have ex6 := ex6.symm
        subst ex6
        refine lv_iconst (v := 1) hx hb dX12_test_49 (by decide) ?_
        refine lv_isub hx hb dX12_test_50 ?_
        refine lv_topi (fun x7 ex7 => ?_)
        have tx7 : x7.toInt = x4.toInt - 1 := m_subI ex7 (rfl : x4.toInt = _) (by decide : (1 : Int32).toInt = 1) (by omega) (by omega)
        refine m_iald hx hb hW (127) rfl (m_ixI (rfl : x7.toInt = _) (by omega) (by omega)) dX12_test_51 ?_
        refine lv_topi (fun x8 ex8 => ?_)
        refine lv_sipush (v := 999) hx hb dX12_test_52 (by decide) ?_
        have l_999 : (999 : Int32).toInt = 999 := by decide
        refine m_aI hW (m_runV (As := [.int w, .int x8, .int 999]) (rest := []) hx hb hml hown hts hW (81) (g_X12_isIn l D cy b w x8 999 μ1 hI.1) mi_X12_isIn k_X12_170 rfl rfl rfl hl.1 rfl (Nat.le_of_ble_eq_true rfl) dX12_test_55 ⟨Nat.le_of_ble_eq_true rfl, Nat.le_of_ble_eq_true rfl⟩ ⟨Nat.le_of_ble_eq_true rfl, Nat.le_of_ble_eq_true rfl⟩) (fun x9 μ9 H locs q9 hW => ?_)
        obtain ⟨q9_m, q9⟩ := q9
        subst q9_m
        rcases q9 with ⟨rfl, q9⟩ | ⟨rfl, q9⟩
        · refine lv_if_eq (tgt := 71) hx hb dX12_test_58 (by decide) (fun c => False.elim (by revert c; decide)) (fun _ => ?_)
          refine lv_aload_n hx hb dX12_test_61 rfl (lv_at hl 0 rfl) ?_
          refine m_geti hx hb hts hown hW (81) 67 rfl rfl cw_12 rfl (by decide) k_X12_401 dX12_test_62 ?_
          refine lv_topi (fun x10 ex10 => ?_)
          have ex10 : x10 = x4 := by rw [ex10]; exact ex4.symm
          have ex10 := ex10.symm
          subst ex10
          refine lv_sipush (v := 200) hx hb dX12_test_65 (by decide) ?_
          refine lv_icmp_ne (tgt := 73) hx hb dX12_test_68 (by decide) (fun c11 => ?_) (fun c11 => ?_)
          · have i11 := m_c6 (rfl : x4.toInt = _) (by decide : (200 : Int32).toInt = 200) c11
            refine lv_aload_n hx hb dX12_test_73 rfl (lv_at hl 0 rfl) ?_
            refine m_getr hx hb hts hown hW (81) 68 (124) rfl rfl cw_12 rfl (by decide) k_X12_152 dX12_test_74 ?_
            refine lv_aload_n hx hb dX12_test_77 rfl (lv_at hl 0 rfl) ?_
            refine m_geti hx hb hts hown hW (81) 67 rfl rfl cw_12 rfl (by decide) k_X12_401 dX12_test_78 ?_
            refine lv_topi (fun x12 ex12 => ?_)
            have ex12 : x12 = x4 := by rw [ex12]; exact ex4.symm
            have ex12 := ex12.symm
            subst ex12
            refine lv_iload_n hx hb dX12_test_81 rfl (lv_at hl 1 rfl) ?_
            refine m_iast hx hb hW (124) rfl (m_ixI (rfl : x4.toInt = _) (by omega) (by omega)) dX12_test_82 (fun H locs hW _ => ?_)
            generalize hμ13 : m_si μ1 (124) (x4 : Int32).toNatClampNeg k = μ13 at hW
            have hI := hI.si0 hμ13 rfl hS29
            refine lv_aload_n hx hb dX12_test_83 rfl (lv_at hl 0 rfl) ?_
            refine m_getr hx hb hts hown hW (81) 69 (125) rfl rfl cw_12 rfl (by decide) k_X12_155 dX12_test_84 ?_
            refine lv_aload_n hx hb dX12_test_87 rfl (lv_at hl 0 rfl) ?_
            refine m_geti hx hb hts hown hW (81) 67 rfl rfl cw_12 rfl (by decide) k_X12_401 dX12_test_88 ?_
            refine lv_topi (fun x14 ex14 => ?_)
            have ex14 : x14 = x4 := by rw [ex14, ← hμ13]; exact ex4.symm
            have ex14 := ex14.symm
            subst ex14
            refine lv_iload_n hx hb dX12_test_91 rfl (lv_at hl 2 rfl) ?_
            refine m_iast hx hb hW (125) rfl (m_ixI (rfl : x4.toInt = _) (by omega) (by omega)) dX12_test_92 (fun H locs hW _ => ?_)
            generalize hμ15 : m_si μ13 (125) (x4 : Int32).toNatClampNeg u = μ15 at hW
            have hI := hI.si0 hμ15 rfl hS29
            refine lv_aload_n hx hb dX12_test_93 rfl (lv_at hl 0 rfl) ?_
            refine m_getr hx hb hts hown hW (81) 70 (126) rfl rfl cw_12 rfl (by decide) k_X12_158 dX12_test_94 ?_
            refine lv_aload_n hx hb dX12_test_97 rfl (lv_at hl 0 rfl) ?_
            refine m_geti hx hb hts hown hW (81) 67 rfl rfl cw_12 rfl (by decide) k_X12_401 dX12_test_98 ?_
            refine lv_topi (fun x16 ex16 => ?_)
            have ex16 : x16 = x4 := by rw [ex16, ← hμ15, ← hμ13]; exact ex4.symm
            have ex16 := ex16.symm
            subst ex16
            refine lv_iload_n hx hb dX12_test_101 rfl (lv_at hl 3 rfl) ?_
            refine m_zast hx hb hW (126) rfl (m_ixI (rfl : x4.toInt = _) (by omega) (by omega)) (m_nb (m_b01 (by omega))) dX12_test_102 (fun H locs hW _ => ?_)
            generalize hμ17 : m_si μ15 (126) (x4 : Int32).toNatClampNeg v = μ17 at hW
            have hI := hI.si1 hμ17 rfl (by omega) hS29
            refine lv_aload_n hx hb dX12_test_103 rfl (lv_at hl 0 rfl) ?_
            refine m_getr hx hb hts hown hW (81) 71 (127) rfl rfl cw_12 rfl (by decide) k_X12_161 dX12_test_104 ?_
            refine lv_aload_n hx hb dX12_test_107 rfl (lv_at hl 0 rfl) ?_
            refine m_geti hx hb hts hown hW (81) 67 rfl rfl cw_12 rfl (by decide) k_X12_401 dX12_test_108 ?_
            refine lv_topi (fun x18 ex18 => ?_)
            have ex18 : x18 = x4 := by rw [ex18, ← hμ17, ← hμ15, ← hμ13]; exact ex4.symm
            have ex18 := ex18.symm
            subst ex18
            refine lv_iload hx hb dX12_test_111 (lv_at hl 4 rfl) ?_
            refine m_iast hx hb hW (127) rfl (m_ixI (rfl : x4.toInt = _) (by omega) (by omega)) dX12_test_113 (fun H locs hW _ => ?_)
            generalize hμ19 : m_si μ17 (127) (x4 : Int32).toNatClampNeg w = μ19 at hW
            have hI := hI.si0 hμ19 rfl hS29
            refine lv_aload_n hx hb dX12_test_114 rfl (lv_at hl 0 rfl) ?_
            refine lv_aload_n hx hb dX12_test_115 rfl (lv_at hl 0 rfl) ?_
            refine m_geti hx hb hts hown hW (81) 67 rfl rfl cw_12 rfl (by decide) k_X12_401 dX12_test_116 ?_
            refine lv_topi (fun x20 ex20 => ?_)
            have ex20 : x20 = x4 := by rw [ex20, ← hμ19, ← hμ17, ← hμ15, ← hμ13]; exact ex4.symm
            have ex20 := ex20.symm
            subst ex20
            refine lv_iconst (v := 1) hx hb dX12_test_119 (by decide) ?_
            refine lv_iadd hx hb dX12_test_120 ?_
            refine lv_topi (fun x21 ex21 => ?_)
            have tx21 : x21.toInt = x4.toInt + 1 := m_addI ex21 (rfl : x4.toInt = _) (by decide : (1 : Int32).toInt = 1) (by omega) (by omega)
            refine m_puti hx hb hts hown hW (81) 67 rfl rfl cw_12 tyX12_ok nmX12 rfl (by decide) k_X12_401 rfl rfl rfl dX12_test_121 (fun H locs hW _ => ?_)
            generalize hμ22 : m_si μ19 (81) 67 x21 = μ22 at hW
            have hI := hI.si1 hμ22 rfl (by omega) hS29
            refine lv_iconst (v := 1) hx hb dX12_test_124 (by decide) ?_
            exact m_iret hx hb hr hlocks hW (by decide) (⟨hI, Or.inl ⟨rfl, trivial⟩⟩) dX12_test_125
          · have i11 := m_c5 (rfl : x4.toInt = _) (by decide : (200 : Int32).toInt = 200) c11
            refine lv_iconst (v := 0) hx hb dX12_test_71 (by decide) ?_
            exact m_iret hx hb hr hlocks hW (by decide) (⟨hI, Or.inr ⟨rfl, trivial⟩⟩) dX12_test_72
        · refine lv_if_eq (tgt := 71) hx hb dX12_test_58 (by decide) (fun _ => ?_) (fun c => False.elim (by revert c; decide))
          refine lv_iconst (v := 0) hx hb dX12_test_71 (by decide) ?_
          exact m_iret hx hb hr hlocks hW (by decide) (⟨hI, Or.inr ⟨rfl, trivial⟩⟩) dX12_test_72
      · have i5 := m_c5 (rfl : x4.toInt = _) (by decide : (0 : Int32).toInt = 0) c5
        refine lv_iconst (v := 0) hx hb dX12_test_37 (by decide) ?_
        refine lv_goto (tgt := 52) hx hb dX12_test_38 (by decide) ?_
        refine lv_sipush (v := 999) hx hb dX12_test_52 (by decide) ?_
        have l_999 : (999 : Int32).toInt = 999 := by decide
        refine m_aI hW (m_runV (As := [.int w, .int 0, .int 999]) (rest := []) hx hb hml hown hts hW (81) (g_X12_isIn l D cy b w 0 999 μ1 hI.1) mi_X12_isIn k_X12_170 rfl rfl rfl hl.1 rfl (Nat.le_of_ble_eq_true rfl) dX12_test_55 ⟨Nat.le_of_ble_eq_true rfl, Nat.le_of_ble_eq_true rfl⟩ ⟨Nat.le_of_ble_eq_true rfl, Nat.le_of_ble_eq_true rfl⟩) (fun x23 μ23 H locs q23 hW => ?_)
        obtain ⟨q23_m, q23⟩ := q23
        subst q23_m
        rcases q23 with ⟨rfl, q23⟩ | ⟨rfl, q23⟩
        · refine lv_if_eq (tgt := 71) hx hb dX12_test_58 (by decide) (fun c => False.elim (by revert c; decide)) (fun _ => ?_)
          refine lv_aload_n hx hb dX12_test_61 rfl (lv_at hl 0 rfl) ?_
          refine m_geti hx hb hts hown hW (81) 67 rfl rfl cw_12 rfl (by decide) k_X12_401 dX12_test_62 ?_
          refine lv_topi (fun x24 ex24 => ?_)
          have ex24 : x24 = x4 := by rw [ex24]; exact ex4.symm
          have ex24 := ex24.symm
          subst ex24
          refine lv_sipush (v := 200) hx hb dX12_test_65 (by decide) ?_
          refine lv_icmp_ne (tgt := 73) hx hb dX12_test_68 (by decide) (fun c25 => ?_) (fun c25 => ?_)
          · have i25 := m_c6 (rfl : x4.toInt = _) (by decide : (200 : Int32).toInt = 200) c25
            refine lv_aload_n hx hb dX12_test_73 rfl (lv_at hl 0 rfl) ?_
            refine m_getr hx hb hts hown hW (81) 68 (124) rfl rfl cw_12 rfl (by decide) k_X12_152 dX12_test_74 ?_
            refine lv_aload_n hx hb dX12_test_77 rfl (lv_at hl 0 rfl) ?_
            refine m_geti hx hb hts hown hW (81) 67 rfl rfl cw_12 rfl (by decide) k_X12_401 dX12_test_78 ?_
            refine lv_topi (fun x26 ex26 => ?_)
            have ex26 : x26 = x4 := by rw [ex26]; exact ex4.symm
            have ex26 := ex26.symm
            subst ex26
            refine lv_iload_n hx hb dX12_test_81 rfl (lv_at hl 1 rfl) ?_
            refine m_iast hx hb hW (124) rfl (m_ixI (rfl : x4.toInt = _) (by omega) (by omega)) dX12_test_82 (fun H locs hW _ => ?_)
            generalize hμ27 : m_si μ1 (124) (x4 : Int32).toNatClampNeg k = μ27 at hW
            have hI := hI.si0 hμ27 rfl hS29
            refine lv_aload_n hx hb dX12_test_83 rfl (lv_at hl 0 rfl) ?_
            refine m_getr hx hb hts hown hW (81) 69 (125) rfl rfl cw_12 rfl (by decide) k_X12_155 dX12_test_84 ?_
            refine lv_aload_n hx hb dX12_test_87 rfl (lv_at hl 0 rfl) ?_
            refine m_geti hx hb hts hown hW (81) 67 rfl rfl cw_12 rfl (by decide) k_X12_401 dX12_test_88 ?_
            refine lv_topi (fun x28 ex28 => ?_)
            have ex28 : x28 = x4 := by rw [ex28, ← hμ27]; exact ex4.symm
            have ex28 := ex28.symm
            subst ex28
            refine lv_iload_n hx hb dX12_test_91 rfl (lv_at hl 2 rfl) ?_
            refine m_iast hx hb hW (125) rfl (m_ixI (rfl : x4.toInt = _) (by omega) (by omega)) dX12_test_92 (fun H locs hW _ => ?_)
            generalize hμ29 : m_si μ27 (125) (x4 : Int32).toNatClampNeg u = μ29 at hW
            have hI := hI.si0 hμ29 rfl hS29
            refine lv_aload_n hx hb dX12_test_93 rfl (lv_at hl 0 rfl) ?_
            refine m_getr hx hb hts hown hW (81) 70 (126) rfl rfl cw_12 rfl (by decide) k_X12_158 dX12_test_94 ?_
            refine lv_aload_n hx hb dX12_test_97 rfl (lv_at hl 0 rfl) ?_
            refine m_geti hx hb hts hown hW (81) 67 rfl rfl cw_12 rfl (by decide) k_X12_401 dX12_test_98 ?_
            refine lv_topi (fun x30 ex30 => ?_)
            have ex30 : x30 = x4 := by rw [ex30, ← hμ29, ← hμ27]; exact ex4.symm
            have ex30 := ex30.symm
            subst ex30
            refine lv_iload_n hx hb dX12_test_101 rfl (lv_at hl 3 rfl) ?_
            refine m_zast hx hb hW (126) rfl (m_ixI (rfl : x4.toInt = _) (by omega) (by omega)) (m_nb (m_b01 (by omega))) dX12_test_102 (fun H locs hW _ => ?_)
            generalize hμ31 : m_si μ29 (126) (x4 : Int32).toNatClampNeg v = μ31 at hW
            have hI := hI.si1 hμ31 rfl (by omega) hS29
            refine lv_aload_n hx hb dX12_test_103 rfl (lv_at hl 0 rfl) ?_
            refine m_getr hx hb hts hown hW (81) 71 (127) rfl rfl cw_12 rfl (by decide) k_X12_161 dX12_test_104 ?_
            refine lv_aload_n hx hb dX12_test_107 rfl (lv_at hl 0 rfl) ?_
            refine m_geti hx hb hts hown hW (81) 67 rfl rfl cw_12 rfl (by decide) k_X12_401 dX12_test_108 ?_
            refine lv_topi (fun x32 ex32 => ?_)
            have ex32 : x32 = x4 := by rw [ex32, ← hμ31, ← hμ29, ← hμ27]; exact ex4.symm
            have ex32 := ex32.symm
            subst ex32
            refine lv_iload hx hb dX12_test_111 (lv_at hl 4 rfl) ?_
            refine m_iast hx hb hW (127) rfl (m_ixI (rfl : x4.toInt = _) (by omega) (by omega)) dX12_test_113 (fun H locs hW _ => ?_)
            generalize hμ33 : m_si μ31 (127) (x4 : Int32).toNatClampNeg w = μ33 at hW
            have hI := hI.si0 hμ33 rfl hS29
            refine lv_aload_n hx hb dX12_test_114 rfl (lv_at hl 0 rfl) ?_
            refine lv_aload_n hx hb dX12_test_115 rfl (lv_at hl 0 rfl) ?_
            refine m_geti hx hb hts hown hW (81) 67 rfl rfl cw_12 rfl (by decide) k_X12_401 dX12_test_116 ?_
            refine lv_topi (fun x34 ex34 => ?_)
            have ex34 : x34 = x4 := by rw [ex34, ← hμ33, ← hμ31, ← hμ29, ← hμ27]; exact ex4.symm
            have ex34 := ex34.symm
            subst ex34
            refine lv_iconst (v := 1) hx hb dX12_test_119 (by decide) ?_
            refine lv_iadd hx hb dX12_test_120 ?_
            refine lv_topi (fun x35 ex35 => ?_)
            have tx35 : x35.toInt = x4.toInt + 1 := m_addI ex35 (rfl : x4.toInt = _) (by decide : (1 : Int32).toInt = 1) (by omega) (by omega)
            refine m_puti hx hb hts hown hW (81) 67 rfl rfl cw_12 tyX12_ok nmX12 rfl (by decide) k_X12_401 rfl rfl rfl dX12_test_121 (fun H locs hW _ => ?_)
            generalize hμ36 : m_si μ33 (81) 67 x35 = μ36 at hW
            have hI := hI.si1 hμ36 rfl (by omega) hS29
            refine lv_iconst (v := 1) hx hb dX12_test_124 (by decide) ?_
            exact m_iret hx hb hr hlocks hW (by decide) (⟨hI, Or.inl ⟨rfl, trivial⟩⟩) dX12_test_125
          · have i25 := m_c5 (rfl : x4.toInt = _) (by decide : (200 : Int32).toInt = 200) c25
            exfalso; omega
        · refine lv_if_eq (tgt := 71) hx hb dX12_test_58 (by decide) (fun _ => ?_) (fun c => False.elim (by revert c; decide))
          refine lv_iconst (v := 0) hx hb dX12_test_71 (by decide) ?_
          exact m_iret hx hb hr hlocks hW (by decide) (⟨hI, Or.inr ⟨rfl, trivial⟩⟩) dX12_test_72
    · refine lv_if_eq (tgt := 71) hx hb dX12_test_24 (by decide) (fun _ => ?_) (fun c => False.elim (by revert c; decide))
      refine lv_iconst (v := 0) hx hb dX12_test_71 (by decide) ?_
      exact m_iret hx hb hr hlocks hW (by decide) (⟨hI, Or.inr ⟨rfl, trivial⟩⟩) dX12_test_72
  · refine lv_if_eq (tgt := 71) hx hb dX12_test_12 (by decide) (fun _ => ?_) (fun c => False.elim (by revert c; decide))
    refine lv_iconst (v := 0) hx hb dX12_test_71 (by decide) ?_
    exact m_iret hx hb hr hlocks hW (by decide) (⟨hI, Or.inr ⟨rfl, trivial⟩⟩) dX12_test_72
set_option maxHeartbeats 4000000 in
set_option maxRecDepth 100000 in
theorem L_X12_known_50 {p : Program} {l : Launch} {e : Env} {s : State} {m : MethodId} {args : Array Value} {below : List Frame} {meth : Method} {c : Code} {D : va_G} {cy : Nat → ClassId} {b : Nat} (hx : p.tables.exec = Jvm.exec) (hb : c.code = cX12_known) (hr : meth.sig.returnType = ((some .int))) (hml : c.maxLocals = 7) (hown : s.vm.findClass RX12 = some m.cls) (hts : ∀ w ∈ TB, w.before args s = true) (hlocks : meth.locks = false) (S : Nat → Bool) (μ0 : mM) (hS20 : S 20 = true) (k u v : Int32) : ∀ (f : Nat), ∀ (y4 y5 y6 : Int32) (hy : 0 ≤ y6.toInt ∧ y6.toInt ≤ 200) (hf : 200 - y6.toInt < (f : Int)) (μ : mM) (hI : IY S μ0 μ) (H : Heap) (locs : List Loc), m_WA (m_A b LAY) D cy s b LAY μ H locs → ∀ ls : Array Slot, lv_has ls 7 [(0, .ref (b + 81)), (1, .int k), (2, .int u), (3, .int v), (4, .int y4), (5, .int y5), (6, .int y6)] → W p l e (m_R 1 0 0) s m args below meth c H locs 0 0 (MQ below (m_Qi D cy b LAY (fun r ν => IY S μ0 ν ∧ (True))) args s 0 0 (m_A b LAY)) (F0 m 50 ls []) := by
  intro f
  induction f with
  | zero => intro y4 y5 y6 hy hf; exfalso; omega
  | succ f ih =>
    intro y4 y5 y6 hy hf μ hI H locs hW ls hl
    refine lv_iload hx hb dX12_known_50 (lv_at hl 6 rfl) ?_
    refine lv_aload_n hx hb dX12_known_52 rfl (lv_at hl 0 rfl) ?_
    refine m_geti hx hb hts hown hW (81) 67 rfl rfl cw_12 rfl (by decide) k_X12_401 dX12_known_53 ?_
    refine lv_topi (fun x1 ex1 => ?_)
    have bx1 : 0 ≤ x1.toInt ∧ x1.toInt ≤ 200 := by rw [ex1]; exact hI.1 _ _ _ _ rfl
    refine lv_icmp_ge (tgt := 154) hx hb dX12_known_56 (by decide) (fun c2 => ?_) (fun c2 => ?_)
    · have i2 := m_c3 (rfl : x1.toInt = _) (rfl : y6.toInt = _) c2
      refine lv_iload_n hx hb dX12_known_154 rfl (lv_at hl 3 rfl) ?_
      refine lv_if_ne (tgt := 161) hx hb dX12_known_155 (by decide) (fun c3 => ?_) (fun c3 => ?_)
      · have i3 := m_c6 (rfl : v.toInt = _) (by decide : (0 : Int32).toInt = 0) c3
        refine lv_iload_n hx hb dX12_known_161 rfl (lv_at hl 3 rfl) ?_
        refine lv_iconst (v := 1) hx hb dX12_known_162 (by decide) ?_
        refine lv_icmp_ne (tgt := 169) hx hb dX12_known_163 (by decide) (fun c4 => ?_) (fun c4 => ?_)
        · have i4 := m_c6 (rfl : v.toInt = _) (by decide : (1 : Int32).toInt = 1) c4
          refine lv_iload_n hx hb dX12_known_169 rfl (lv_at hl 3 rfl) ?_
          refine lv_iconst (v := 2) hx hb dX12_known_170 (by decide) ?_
          refine lv_icmp_ne (tgt := 187) hx hb dX12_known_171 (by decide) (fun c5 => ?_) (fun c5 => ?_)
          · have i5 := m_c6 (rfl : v.toInt = _) (by decide : (2 : Int32).toInt = 2) c5
            refine lv_iload hx hb dX12_known_187 (lv_at hl 4 rfl) ?_
            refine lv_iload hx hb dX12_known_189 (lv_at hl 5 rfl) ?_
            refine lv_icmp_ge (tgt := 204) hx hb dX12_known_191 (by decide) (fun c6 => ?_) (fun c6 => ?_)
            · have i6 := m_c3 (rfl : y5.toInt = _) (rfl : y4.toInt = _) c6
              refine lv_iconst (v := (-1)) hx hb dX12_known_204 (by decide) ?_
              exact m_iret hx hb hr hlocks hW rfl (⟨hI, trivial⟩) dX12_known_205
            · have i6 := m_c4 (rfl : y5.toInt = _) (rfl : y4.toInt = _) c6
              refine lv_iload hx hb dX12_known_194 (lv_at hl 4 rfl) ?_
              refine lv_iload hx hb dX12_known_196 (lv_at hl 5 rfl) ?_
              refine lv_iadd hx hb dX12_known_198 ?_
              refine lv_topi (fun x7 ex7 => ?_)
              refine lv_iconst (v := 2) hx hb dX12_known_199 (by decide) ?_
              refine lv_idiv hx hb dX12_known_200 (by decide) ?_
              refine lv_topi (fun x8 ex8 => ?_)
              refine lv_goto (tgt := 205) hx hb dX12_known_201 (by decide) ?_
              exact m_iret hx hb hr hlocks hW rfl (⟨hI, trivial⟩) dX12_known_205
          · have i5 := m_c5 (rfl : v.toInt = _) (by decide : (2 : Int32).toInt = 2) c5
            refine lv_iload hx hb dX12_known_174 (lv_at hl 4 rfl) ?_
            refine lv_iload hx hb dX12_known_176 (lv_at hl 5 rfl) ?_
            refine lv_icmp_le (tgt := 185) hx hb dX12_known_178 (by decide) (fun c9 => ?_) (fun c9 => ?_)
            · have i9 := m_c3 (rfl : y4.toInt = _) (rfl : y5.toInt = _) c9
              refine lv_iconst (v := 0) hx hb dX12_known_185 (by decide) ?_
              exact m_iret hx hb hr hlocks hW rfl (⟨hI, trivial⟩) dX12_known_186
            · have i9 := m_c4 (rfl : y4.toInt = _) (rfl : y5.toInt = _) c9
              refine lv_iconst (v := 1) hx hb dX12_known_181 (by decide) ?_
              refine lv_goto (tgt := 186) hx hb dX12_known_182 (by decide) ?_
              exact m_iret hx hb hr hlocks hW rfl (⟨hI, trivial⟩) dX12_known_186
        · have i4 := m_c5 (rfl : v.toInt = _) (by decide : (1 : Int32).toInt = 1) c4
          refine lv_iload hx hb dX12_known_166 (lv_at hl 5 rfl) ?_
          exact m_iret hx hb hr hlocks hW rfl (⟨hI, trivial⟩) dX12_known_168
      · have i3 := m_c5 (rfl : v.toInt = _) (by decide : (0 : Int32).toInt = 0) c3
        refine lv_iload hx hb dX12_known_158 (lv_at hl 4 rfl) ?_
        exact m_iret hx hb hr hlocks hW rfl (⟨hI, trivial⟩) dX12_known_160
    · have i2 := m_c4 (rfl : x1.toInt = _) (rfl : y6.toInt = _) c2
      refine lv_aload_n hx hb dX12_known_59 rfl (lv_at hl 0 rfl) ?_
      refine m_getr hx hb hts hown hW (81) 68 (124) rfl rfl cw_12 rfl (by decide) k_X12_152 dX12_known_60 ?_
      refine lv_iload hx hb dX12_known_63 (lv_at hl 6 rfl) ?_
      refine m_iald hx hb hW (124) rfl (m_ixI (rfl : y6.toInt = _) (by omega) (by omega)) dX12_known_65 ?_
      refine lv_topi (fun x10 ex10 => ?_)
      refine lv_iload_n hx hb dX12_known_66 rfl (lv_at hl 1 rfl) ?_
      refine lv_icmp_ne (tgt := 148) hx hb dX12_known_67 (by decide) (fun c11 => ?_) (fun c11 => ?_)
      · have i11 := m_c6 (rfl : x10.toInt = _) (rfl : k.toInt = _) c11
        obtain ⟨x12, ex12⟩ : ∃ z : Int32, z = y6 + 1 := ⟨_, rfl⟩
        refine lv_iinc (v := x12) (lv' := [(6, .int x12), (0, .ref (b + 81)), (1, .int k), (2, .int u), (3, .int v), (4, .int y4), (5, .int y5)]) hx hb dX12_known_148 hl (k := 6) rfl (by rw [ex12]; rfl) (by decide) rfl (fun ls hl => ?_)
        have tx12 : x12.toInt = y6.toInt + 1 := m_addI ex12 (rfl : y6.toInt = _) (by decide : (1 : Int32).toInt = 1) (by omega) (by omega)
        refine lv_goto (tgt := 50) hx hb dX12_known_151 (by decide) ?_
        exact ih y4 y5 x12 (by omega) (by omega) μ hI _ _ hW ls (lv_sub hl [1, 2, 3, 4, 5, 6, 0] rfl)
      · have i11 := m_c5 (rfl : x10.toInt = _) (rfl : k.toInt = _) c11
        refine lv_aload_n hx hb dX12_known_70 rfl (lv_at hl 0 rfl) ?_
        refine m_getr hx hb hts hown hW (81) 71 (127) rfl rfl cw_12 rfl (by decide) k_X12_161 dX12_known_71 ?_
        refine lv_iload hx hb dX12_known_74 (lv_at hl 6 rfl) ?_
        refine m_iald hx hb hW (127) rfl (m_ixI (rfl : y6.toInt = _) (by omega) (by omega)) dX12_known_76 ?_
        refine lv_topi (fun x13 ex13 => ?_)
        refine lv_iload_n hx hb dX12_known_77 rfl (lv_at hl 2 rfl) ?_
        refine lv_icmp_le (tgt := 84) hx hb dX12_known_78 (by decide) (fun c14 => ?_) (fun c14 => ?_)
        · have i14 := m_c3 (rfl : x13.toInt = _) (rfl : u.toInt = _) c14
          refine lv_aload_n hx hb dX12_known_84 rfl (lv_at hl 0 rfl) ?_
          refine m_getr hx hb hts hown hW (81) 70 (126) rfl rfl cw_12 rfl (by decide) k_X12_158 dX12_known_85 ?_
          refine lv_iload hx hb dX12_known_88 (lv_at hl 6 rfl) ?_
          refine m_zald hx hb hW (126) rfl (m_ixI (rfl : y6.toInt = _) (by omega) (by omega)) dX12_known_90 ?_
          refine lv_topi (fun x15 ex15 => ?_)
          have bx15 : 0 ≤ x15.toInt ∧ x15.toInt ≤ 1 := by rw [ex15]; exact hI.1 _ _ _ _ rfl
          refine lv_if_eq (tgt := 115) hx hb dX12_known_91 (by decide) (fun c16 => ?_) (fun c16 => ?_)
          · have i16 := m_c5 (rfl : x15.toInt = _) (by decide : (0 : Int32).toInt = 0) c16
            refine lv_aload_n hx hb dX12_known_115 rfl (lv_at hl 0 rfl) ?_
            refine m_getr hx hb hts hown hW (81) 70 (126) rfl rfl cw_12 rfl (by decide) k_X12_158 dX12_known_116 ?_
            refine lv_iload hx hb dX12_known_119 (lv_at hl 6 rfl) ?_
            refine m_zald hx hb hW (126) rfl (m_ixI (rfl : y6.toInt = _) (by omega) (by omega)) dX12_known_121 ?_
            refine lv_topi (fun x17 ex17 => ?_)
            have ex17 : x17 = x15 := by rw [ex17]; exact ex15.symm
            have ex17 := ex17.symm
            subst ex17
            refine lv_if_ne (tgt := 148) hx hb dX12_known_122 (by decide) (fun c18 => ?_) (fun c18 => ?_)
            · have i18 := m_c6 (rfl : x15.toInt = _) (by decide : (0 : Int32).toInt = 0) c18
              exfalso; omega
            · have i18 := m_c5 (rfl : x15.toInt = _) (by decide : (0 : Int32).toInt = 0) c18
              refine lv_aload_n hx hb dX12_known_125 rfl (lv_at hl 0 rfl) ?_
              refine m_getr hx hb hts hown hW (81) 69 (125) rfl rfl cw_12 rfl (by decide) k_X12_155 dX12_known_126 ?_
              refine lv_iload hx hb dX12_known_129 (lv_at hl 6 rfl) ?_
              refine m_iald hx hb hW (125) rfl (m_ixI (rfl : y6.toInt = _) (by omega) (by omega)) dX12_known_131 ?_
              refine lv_topi (fun x19 ex19 => ?_)
              refine lv_iload hx hb dX12_known_132 (lv_at hl 4 rfl) ?_
              refine lv_icmp_lt (tgt := 148) hx hb dX12_known_134 (by decide) (fun c20 => ?_) (fun c20 => ?_)
              · have i20 := m_c1 (rfl : x19.toInt = _) (rfl : y4.toInt = _) c20
                obtain ⟨x21, ex21⟩ : ∃ z : Int32, z = y6 + 1 := ⟨_, rfl⟩
                refine lv_iinc (v := x21) (lv' := [(6, .int x21), (0, .ref (b + 81)), (1, .int k), (2, .int u), (3, .int v), (4, .int y4), (5, .int y5)]) hx hb dX12_known_148 hl (k := 6) rfl (by rw [ex21]; rfl) (by decide) rfl (fun ls hl => ?_)
                have tx21 : x21.toInt = y6.toInt + 1 := m_addI ex21 (rfl : y6.toInt = _) (by decide : (1 : Int32).toInt = 1) (by omega) (by omega)
                refine lv_goto (tgt := 50) hx hb dX12_known_151 (by decide) ?_
                exact ih y4 y5 x21 (by omega) (by omega) μ hI _ _ hW ls (lv_sub hl [1, 2, 3, 4, 5, 6, 0] rfl)
              · have i20 := m_c2 (rfl : x19.toInt = _) (rfl : y4.toInt = _) c20
                refine lv_aload_n hx hb dX12_known_137 rfl (lv_at hl 0 rfl) ?_
                refine m_getr hx hb hts hown hW (81) 69 (125) rfl rfl cw_12 rfl (by decide) k_X12_155 dX12_known_138 ?_
                refine lv_iload hx hb dX12_known_141 (lv_at hl 6 rfl) ?_
                refine m_iald hx hb hW (125) rfl (m_ixI (rfl : y6.toInt = _) (by omega) (by omega)) dX12_known_143 ?_
                refine lv_topi (fun x22 ex22 => ?_)
                have ex22 : x22 = x19 := by rw [ex22]; exact ex19.symm
                have ex22 := ex22.symm
                subst ex22
                refine lv_iconst (v := 1) hx hb dX12_known_144 (by decide) ?_
                refine lv_iadd hx hb dX12_known_145 ?_
                refine lv_topi (fun x23 ex23 => ?_)
                refine lv_istore (lv' := [(4, .int x23), (0, .ref (b + 81)), (1, .int k), (2, .int u), (3, .int v), (5, .int y5), (6, .int y6)]) hx hb dX12_known_146 hl (by decide) rfl (fun ls hl => ?_)
                obtain ⟨x24, ex24⟩ : ∃ z : Int32, z = y6 + 1 := ⟨_, rfl⟩
                refine lv_iinc (v := x24) (lv' := [(6, .int x24), (4, .int x23), (0, .ref (b + 81)), (1, .int k), (2, .int u), (3, .int v), (5, .int y5)]) hx hb dX12_known_148 hl (k := 6) rfl (by rw [ex24]; rfl) (by decide) rfl (fun ls hl => ?_)
                have tx24 : x24.toInt = y6.toInt + 1 := m_addI ex24 (rfl : y6.toInt = _) (by decide : (1 : Int32).toInt = 1) (by omega) (by omega)
                refine lv_goto (tgt := 50) hx hb dX12_known_151 (by decide) ?_
                exact ih x23 y5 x24 (by omega) (by omega) μ hI _ _ hW ls (lv_sub hl [2, 3, 4, 5, 1, 6, 0] rfl)
          · have i16 := m_c6 (rfl : x15.toInt = _) (by decide : (0 : Int32).toInt = 0) c16
            refine lv_aload_n hx hb dX12_known_94 rfl (lv_at hl 0 rfl) ?_
            refine m_getr hx hb hts hown hW (81) 69 (125) rfl rfl cw_12 rfl (by decide) k_X12_155 dX12_known_95 ?_
            refine lv_iload hx hb dX12_known_98 (lv_at hl 6 rfl) ?_
            refine m_iald hx hb hW (125) rfl (m_ixI (rfl : y6.toInt = _) (by omega) (by omega)) dX12_known_100 ?_
            refine lv_topi (fun x25 ex25 => ?_)
            refine lv_iload hx hb dX12_known_101 (lv_at hl 5 rfl) ?_
            refine lv_icmp_ge (tgt := 115) hx hb dX12_known_103 (by decide) (fun c26 => ?_) (fun c26 => ?_)
            · have i26 := m_c3 (rfl : y5.toInt = _) (rfl : x25.toInt = _) c26
              refine lv_aload_n hx hb dX12_known_115 rfl (lv_at hl 0 rfl) ?_
              refine m_getr hx hb hts hown hW (81) 70 (126) rfl rfl cw_12 rfl (by decide) k_X12_158 dX12_known_116 ?_
              refine lv_iload hx hb dX12_known_119 (lv_at hl 6 rfl) ?_
              refine m_zald hx hb hW (126) rfl (m_ixI (rfl : y6.toInt = _) (by omega) (by omega)) dX12_known_121 ?_
              refine lv_topi (fun x27 ex27 => ?_)
              have ex27 : x27 = x15 := by rw [ex27]; exact ex15.symm
              have ex27 := ex27.symm
              subst ex27
              refine lv_if_ne (tgt := 148) hx hb dX12_known_122 (by decide) (fun c28 => ?_) (fun c28 => ?_)
              · have i28 := m_c6 (rfl : x15.toInt = _) (by decide : (0 : Int32).toInt = 0) c28
                obtain ⟨x29, ex29⟩ : ∃ z : Int32, z = y6 + 1 := ⟨_, rfl⟩
                refine lv_iinc (v := x29) (lv' := [(6, .int x29), (0, .ref (b + 81)), (1, .int k), (2, .int u), (3, .int v), (4, .int y4), (5, .int y5)]) hx hb dX12_known_148 hl (k := 6) rfl (by rw [ex29]; rfl) (by decide) rfl (fun ls hl => ?_)
                have tx29 : x29.toInt = y6.toInt + 1 := m_addI ex29 (rfl : y6.toInt = _) (by decide : (1 : Int32).toInt = 1) (by omega) (by omega)
                refine lv_goto (tgt := 50) hx hb dX12_known_151 (by decide) ?_
                exact ih y4 y5 x29 (by omega) (by omega) μ hI _ _ hW ls (lv_sub hl [1, 2, 3, 4, 5, 6, 0] rfl)
              · have i28 := m_c5 (rfl : x15.toInt = _) (by decide : (0 : Int32).toInt = 0) c28
                exfalso; omega
            · have i26 := m_c4 (rfl : y5.toInt = _) (rfl : x25.toInt = _) c26
              refine lv_aload_n hx hb dX12_known_106 rfl (lv_at hl 0 rfl) ?_
              refine m_getr hx hb hts hown hW (81) 69 (125) rfl rfl cw_12 rfl (by decide) k_X12_155 dX12_known_107 ?_
              refine lv_iload hx hb dX12_known_110 (lv_at hl 6 rfl) ?_
              refine m_iald hx hb hW (125) rfl (m_ixI (rfl : y6.toInt = _) (by omega) (by omega)) dX12_known_112 ?_
              refine lv_topi (fun x30 ex30 => ?_)
              have ex30 : x30 = x25 := by rw [ex30]; exact ex25.symm
              have ex30 := ex30.symm
              subst ex30
              refine lv_istore (lv' := [(5, .int x25), (0, .ref (b + 81)), (1, .int k), (2, .int u), (3, .int v), (4, .int y4), (6, .int y6)]) hx hb dX12_known_113 hl (by decide) rfl (fun ls hl => ?_)
              refine lv_aload_n hx hb dX12_known_115 rfl (lv_at hl 1 rfl) ?_
              refine m_getr hx hb hts hown hW (81) 70 (126) rfl rfl cw_12 rfl (by decide) k_X12_158 dX12_known_116 ?_
              refine lv_iload hx hb dX12_known_119 (lv_at hl 6 rfl) ?_
              refine m_zald hx hb hW (126) rfl (m_ixI (rfl : y6.toInt = _) (by omega) (by omega)) dX12_known_121 ?_
              refine lv_topi (fun x31 ex31 => ?_)
              have ex31 : x31 = x15 := by rw [ex31]; exact ex15.symm
              have ex31 := ex31.symm
              subst ex31
              refine lv_if_ne (tgt := 148) hx hb dX12_known_122 (by decide) (fun c32 => ?_) (fun c32 => ?_)
              · have i32 := m_c6 (rfl : x15.toInt = _) (by decide : (0 : Int32).toInt = 0) c32
                obtain ⟨x33, ex33⟩ : ∃ z : Int32, z = y6 + 1 := ⟨_, rfl⟩
                refine lv_iinc (v := x33) (lv' := [(6, .int x33), (5, .int x25), (0, .ref (b + 81)), (1, .int k), (2, .int u), (3, .int v), (4, .int y4)]) hx hb dX12_known_148 hl (k := 6) rfl (by rw [ex33]; rfl) (by decide) rfl (fun ls hl => ?_)
                have tx33 : x33.toInt = y6.toInt + 1 := m_addI ex33 (rfl : y6.toInt = _) (by decide : (1 : Int32).toInt = 1) (by omega) (by omega)
                refine lv_goto (tgt := 50) hx hb dX12_known_151 (by decide) ?_
                exact ih y4 x25 x33 (by omega) (by omega) μ hI _ _ hW ls (lv_sub hl [2, 3, 4, 5, 6, 1, 0] rfl)
              · have i32 := m_c5 (rfl : x15.toInt = _) (by decide : (0 : Int32).toInt = 0) c32
                exfalso; omega
        · have i14 := m_c4 (rfl : x13.toInt = _) (rfl : u.toInt = _) c14
          refine lv_goto (tgt := 148) hx hb dX12_known_81 (by decide) ?_
          obtain ⟨x34, ex34⟩ : ∃ z : Int32, z = y6 + 1 := ⟨_, rfl⟩
          refine lv_iinc (v := x34) (lv' := [(6, .int x34), (0, .ref (b + 81)), (1, .int k), (2, .int u), (3, .int v), (4, .int y4), (5, .int y5)]) hx hb dX12_known_148 hl (k := 6) rfl (by rw [ex34]; rfl) (by decide) rfl (fun ls hl => ?_)
          have tx34 : x34.toInt = y6.toInt + 1 := m_addI ex34 (rfl : y6.toInt = _) (by decide : (1 : Int32).toInt = 1) (by omega) (by omega)
          refine lv_goto (tgt := 50) hx hb dX12_known_151 (by decide) ?_
          exact ih y4 y5 x34 (by omega) (by omega) μ hI _ _ hW ls (lv_sub hl [1, 2, 3, 4, 5, 6, 0] rfl)
set_option maxHeartbeats 4000000 in
set_option maxRecDepth 100000 in
theorem g_X12_known (l : Launch) (D : va_G) (cy : Nat → ClassId) (b : Nat) (S : Nat → Bool) (μ0 : mM) (hS20 : S 20 = true) (k u v : Int32) (μ : mM) (hI : IY S μ0 μ) : m_Ci l yX12_known cX12_known 7 ((some .int)) 1 D cy b LAY μ [.ref (b + 81), .int k, .int u, .int v] (fun r ν => IY S μ0 ν ∧ (True)) := by
  unfold m_Ci
  refine m_of (by decide) (Nat.le_of_ble_eq_true rfl) ?_
  intro p e s m below meth c hx hb hr hml hown hts hlocks _ hW ls hl
  have hown : s.vm.findClass RX12 = some m.cls := hown
  have hl : lv_has ls 7 [(0, .ref (b + 81)), (1, .int k), (2, .int u), (3, .int v)] := hl
  refine lv_aload_n hx hb dX12_known_0 rfl (lv_at hl 0 rfl) ?_
  refine lv_iconst (v := 0) hx hb dX12_known_1 (by decide) ?_
  refine m_puti hx hb hts hown hW (81) 0 rfl rfl cw_12 tyX12_ok nmX12 rfl (by decide) k_X12_167 rfl rfl rfl dX12_known_2 (fun H locs hW _ => ?_)
  generalize hμ1 : m_si μ (81) 0 0 = μ1 at hW
  have hI := hI.si0 hμ1 rfl hS20
  refine lv_aload_n hx hb dX12_known_5 rfl (lv_at hl 0 rfl) ?_
  refine lv_iload_n hx hb dX12_known_6 rfl (lv_at hl 1 rfl) ?_
  refine lv_iconst (v := 0) hx hb dX12_known_7 (by decide) ?_
  refine lv_iconst (v := 3) hx hb dX12_known_8 (by decide) ?_
  have l_0 : (0 : Int32).toInt = 0 := by decide
  have l_3 : (3 : Int32).toInt = 3 := by decide
  refine m_aI hW (m_runV (As := [.int k, .int 0, .int 3]) (rest := []) hx hb hml hown hts hW (81) (g_X12_isIn l D cy b k 0 3 μ1 hI.1) mi_X12_isIn k_X12_170 rfl rfl rfl hl.1 rfl (Nat.le_of_ble_eq_true rfl) dX12_known_9 ⟨Nat.le_of_ble_eq_true rfl, Nat.le_of_ble_eq_true rfl⟩ ⟨Nat.le_of_ble_eq_true rfl, Nat.le_of_ble_eq_true rfl⟩) (fun x2 μ2 H locs q2 hW => ?_)
  obtain ⟨q2_m, q2⟩ := q2
  subst q2_m
  rcases q2 with ⟨rfl, q2⟩ | ⟨rfl, q2⟩
  · refine lv_if_eq (tgt := 37) hx hb dX12_known_12 (by decide) (fun c => False.elim (by revert c; decide)) (fun _ => ?_)
    refine lv_aload_n hx hb dX12_known_15 rfl (lv_at hl 0 rfl) ?_
    refine lv_iload_n hx hb dX12_known_16 rfl (lv_at hl 2 rfl) ?_
    refine lv_iconst (v := 0) hx hb dX12_known_17 (by decide) ?_
    refine lv_sipush (v := 999) hx hb dX12_known_18 (by decide) ?_
    have l_999 : (999 : Int32).toInt = 999 := by decide
    refine m_aI hW (m_runV (As := [.int u, .int 0, .int 999]) (rest := []) hx hb hml hown hts hW (81) (g_X12_isIn l D cy b u 0 999 μ1 hI.1) mi_X12_isIn k_X12_170 rfl rfl rfl hl.1 rfl (Nat.le_of_ble_eq_true rfl) dX12_known_21 ⟨Nat.le_of_ble_eq_true rfl, Nat.le_of_ble_eq_true rfl⟩ ⟨Nat.le_of_ble_eq_true rfl, Nat.le_of_ble_eq_true rfl⟩) (fun x3 μ3 H locs q3 hW => ?_)
    obtain ⟨q3_m, q3⟩ := q3
    subst q3_m
    rcases q3 with ⟨rfl, q3⟩ | ⟨rfl, q3⟩
    · refine lv_if_eq (tgt := 37) hx hb dX12_known_24 (by decide) (fun c => False.elim (by revert c; decide)) (fun _ => ?_)
      refine lv_aload_n hx hb dX12_known_27 rfl (lv_at hl 0 rfl) ?_
      refine lv_iload_n hx hb dX12_known_28 rfl (lv_at hl 3 rfl) ?_
      refine lv_iconst (v := 0) hx hb dX12_known_29 (by decide) ?_
      refine lv_iconst (v := 3) hx hb dX12_known_30 (by decide) ?_
      refine m_aI hW (m_runV (As := [.int v, .int 0, .int 3]) (rest := []) hx hb hml hown hts hW (81) (g_X12_isIn l D cy b v 0 3 μ1 hI.1) mi_X12_isIn k_X12_170 rfl rfl rfl hl.1 rfl (Nat.le_of_ble_eq_true rfl) dX12_known_31 ⟨Nat.le_of_ble_eq_true rfl, Nat.le_of_ble_eq_true rfl⟩ ⟨Nat.le_of_ble_eq_true rfl, Nat.le_of_ble_eq_true rfl⟩) (fun x4 μ4 H locs q4 hW => ?_)
      obtain ⟨q4_m, q4⟩ := q4
      subst q4_m
      rcases q4 with ⟨rfl, q4⟩ | ⟨rfl, q4⟩
      · refine lv_if_ne (tgt := 39) hx hb dX12_known_34 (by decide) (fun _ => ?_) (fun c => False.elim (by revert c; decide))
        refine lv_iconst (v := 1) hx hb dX12_known_39 (by decide) ?_
        refine lv_istore (lv' := [(4, .int 1), (0, .ref (b + 81)), (1, .int k), (2, .int u), (3, .int v)]) hx hb dX12_known_40 hl (by decide) rfl (fun ls hl => ?_)
        refine lv_sipush (v := 999) hx hb dX12_known_42 (by decide) ?_
        refine lv_istore (lv' := [(5, .int 999), (4, .int 1), (0, .ref (b + 81)), (1, .int k), (2, .int u), (3, .int v)]) hx hb dX12_known_45 hl (by decide) rfl (fun ls hl => ?_)
        refine lv_iconst (v := 0) hx hb dX12_known_47 (by decide) ?_
        refine lv_istore (lv' := [(6, .int 0), (5, .int 999), (4, .int 1), (0, .ref (b + 81)), (1, .int k), (2, .int u), (3, .int v)]) hx hb dX12_known_48 hl (by decide) rfl (fun ls hl => ?_)
        have l_1 : (1 : Int32).toInt = 1 := by decide
        exact L_X12_known_50 hx hb hr hml hown hts hlocks S μ0 hS20 k u v  201 1 999 0 (by omega) (by omega) μ1 hI _ _ hW ls (lv_sub hl [3, 4, 5, 6, 2, 1, 0] rfl)
      · refine lv_if_ne (tgt := 39) hx hb dX12_known_34 (by decide) (fun c => False.elim (by revert c; decide)) (fun _ => ?_)
        refine lv_iconst (v := (-1)) hx hb dX12_known_37 (by decide) ?_
        exact m_iret hx hb hr hlocks hW rfl (⟨hI, trivial⟩) dX12_known_38
    · refine lv_if_eq (tgt := 37) hx hb dX12_known_24 (by decide) (fun _ => ?_) (fun c => False.elim (by revert c; decide))
      refine lv_iconst (v := (-1)) hx hb dX12_known_37 (by decide) ?_
      exact m_iret hx hb hr hlocks hW rfl (⟨hI, trivial⟩) dX12_known_38
  · refine lv_if_eq (tgt := 37) hx hb dX12_known_12 (by decide) (fun _ => ?_) (fun c => False.elim (by revert c; decide))
    refine lv_iconst (v := (-1)) hx hb dX12_known_37 (by decide) ?_
    exact m_iret hx hb hr hlocks hW rfl (⟨hI, trivial⟩) dX12_known_38
set_option maxHeartbeats 4000000 in
set_option maxRecDepth 100000 in
theorem L_X12_sparks_7 {p : Program} {l : Launch} {e : Env} {s : State} {m : MethodId} {args : Array Value} {below : List Frame} {meth : Method} {c : Code} {D : va_G} {cy : Nat → ClassId} {b : Nat} (hx : p.tables.exec = Jvm.exec) (hb : c.code = cX12_sparks) (hr : meth.sig.returnType = ((some .int))) (hml : c.maxLocals = 2) (hown : s.vm.findClass RX12 = some m.cls) (hts : ∀ w ∈ TB, w.before args s = true) (hlocks : meth.locks = false) (S : Nat → Bool) (μ0 : mM) (hS20 : S 20 = true) (hS23 : S 23 = true) (hS30 : S 30 = true) : ∀ (f : Nat), ∀ (y1 : Int32) (hy : 0 ≤ y1.toInt ∧ y1.toInt ≤ 400) (hf : 400 - y1.toInt < (f : Int)) (μ : mM) (hI : IY S μ0 μ) (H : Heap) (locs : List Loc), m_WA (m_A b LAY) D cy s b LAY μ H locs → ∀ ls : Array Slot, lv_has ls 2 [(0, .ref (b + 81)), (1, .int y1)] → W p l e (m_R 0 0 0) s m args below meth c H locs 0 0 (MQ below (m_Qi D cy b LAY (fun r ν => IY S μ0 ν ∧ (True))) args s 0 0 (m_A b LAY)) (F0 m 7 ls []) := by
  intro f
  induction f with
  | zero => intro y1 hy hf; exfalso; omega
  | succ f ih =>
    intro y1 hy hf μ hI H locs hW ls hl
    refine lv_iload_n hx hb dX12_sparks_7 rfl (lv_at hl 1 rfl) ?_
    refine lv_aload_n hx hb dX12_sparks_8 rfl (lv_at hl 0 rfl) ?_
    refine m_geti hx hb hts hown hW (81) 35 rfl rfl cw_12 rfl (by decide) k_X12_239 dX12_sparks_9 ?_
    refine lv_topi (fun x1 ex1 => ?_)
    have bx1 : 0 ≤ x1.toInt ∧ x1.toInt ≤ 400 := by rw [ex1]; exact hI.1 _ _ _ _ rfl
    refine lv_icmp_ge (tgt := 33) hx hb dX12_sparks_12 (by decide) (fun c2 => ?_) (fun c2 => ?_)
    · have i2 := m_c3 (rfl : x1.toInt = _) (rfl : y1.toInt = _) c2
      refine lv_aload_n hx hb dX12_sparks_33 rfl (lv_at hl 0 rfl) ?_
      refine lv_aload_n hx hb dX12_sparks_34 rfl (lv_at hl 0 rfl) ?_
      refine m_geti hx hb hts hown hW (81) 35 rfl rfl cw_12 rfl (by decide) k_X12_239 dX12_sparks_35 ?_
      refine lv_topi (fun x3 ex3 => ?_)
      have ex3 : x3 = x1 := by rw [ex3]; exact ex1.symm
      have ex3 := ex3.symm
      subst ex3
      refine m_puti hx hb hts hown hW (81) 73 rfl rfl cw_12 tyX12_ok nmX12 rfl (by decide) k_X12_404 rfl rfl rfl dX12_sparks_38 (fun H locs hW _ => ?_)
      generalize hμ4 : m_si μ (81) 73 x1 = μ4 at hW
      have hI := hI.si1 hμ4 rfl (by omega) hS30
      refine lv_aload_n hx hb dX12_sparks_41 rfl (lv_at hl 0 rfl) ?_
      refine lv_iconst (v := 0) hx hb dX12_sparks_42 (by decide) ?_
      refine m_puti hx hb hts hown hW (81) 35 rfl rfl cw_12 tyX12_ok nmX12 rfl (by decide) k_X12_239 rfl rfl rfl dX12_sparks_43 (fun H locs hW _ => ?_)
      generalize hμ5 : m_si μ4 (81) 35 0 = μ5 at hW
      have hI := hI.si1 hμ5 rfl (by decide) hS23
      refine lv_aload_n hx hb dX12_sparks_46 rfl (lv_at hl 0 rfl) ?_
      refine m_geti hx hb hts hown hW (81) 73 rfl rfl cw_12 rfl (by decide) k_X12_404 dX12_sparks_47 ?_
      refine lv_topi (fun x6 ex6 => ?_)
      have ex6 : x6 = x1 := by rw [ex6, ← hμ5, ← hμ4]; first | rfl | exact if_pos ⟨rfl, rfl⟩
      have ex6 := ex6.symm
      subst ex6
      exact m_iret hx hb hr hlocks hW rfl (⟨hI, trivial⟩) dX12_sparks_50
    · have i2 := m_c4 (rfl : x1.toInt = _) (rfl : y1.toInt = _) c2
      refine lv_aload_n hx hb dX12_sparks_15 rfl (lv_at hl 0 rfl) ?_
      refine m_getr hx hb hts hown hW (81) 72 (128) rfl rfl cw_12 rfl (by decide) k_X12_164 dX12_sparks_16 ?_
      refine lv_iload_n hx hb dX12_sparks_19 rfl (lv_at hl 1 rfl) ?_
      refine lv_aload_n hx hb dX12_sparks_20 rfl (lv_at hl 0 rfl) ?_
      refine m_getr hx hb hts hown hW (81) 34 (106) rfl rfl cw_12 rfl (by decide) k_X12_95 dX12_sparks_21 ?_
      refine lv_iload_n hx hb dX12_sparks_24 rfl (lv_at hl 1 rfl) ?_
      refine m_iald hx hb hW (106) rfl (m_ixI (rfl : y1.toInt = _) (by omega) (by omega)) dX12_sparks_25 ?_
      refine lv_topi (fun x7 ex7 => ?_)
      have bx7 : 0 ≤ x7.toInt ∧ x7.toInt ≤ 255 := by rw [ex7]; exact hI.1 _ _ _ _ rfl
      refine m_iast hx hb hW (128) rfl (m_ixI (rfl : y1.toInt = _) (by omega) (by omega)) dX12_sparks_26 (fun H locs hW _ => ?_)
      generalize hμ8 : m_si μ (128) (y1 : Int32).toNatClampNeg x7 = μ8 at hW
      have hI := hI.si0 hμ8 rfl hS30
      obtain ⟨x9, ex9⟩ : ∃ z : Int32, z = y1 + 1 := ⟨_, rfl⟩
      refine lv_iinc (v := x9) (lv' := [(1, .int x9), (0, .ref (b + 81))]) hx hb dX12_sparks_27 hl (k := 1) rfl (by rw [ex9]; rfl) (by decide) rfl (fun ls hl => ?_)
      have tx9 : x9.toInt = y1.toInt + 1 := m_addI ex9 (rfl : y1.toInt = _) (by decide : (1 : Int32).toInt = 1) (by omega) (by omega)
      refine lv_goto (tgt := 7) hx hb dX12_sparks_30 (by decide) ?_
      exact ih x9 (by omega) (by omega) μ8 hI _ _ hW ls (lv_sub hl [1, 0] rfl)
set_option maxHeartbeats 4000000 in
set_option maxRecDepth 100000 in
theorem g_X12_sparks (l : Launch) (D : va_G) (cy : Nat → ClassId) (b : Nat) (S : Nat → Bool) (μ0 : mM) (hS20 : S 20 = true) (hS23 : S 23 = true) (hS30 : S 30 = true) (μ : mM) (hI : IY S μ0 μ) : m_Ci l yX12_sparks cX12_sparks 2 ((some .int)) 0 D cy b LAY μ [.ref (b + 81)] (fun r ν => IY S μ0 ν ∧ (True)) := by
  unfold m_Ci
  refine m_of (by decide) (Nat.le_of_ble_eq_true rfl) ?_
  intro p e s m below meth c hx hb hr hml hown hts hlocks _ hW ls hl
  have hown : s.vm.findClass RX12 = some m.cls := hown
  have hl : lv_has ls 2 [(0, .ref (b + 81))] := hl
  refine lv_aload_n hx hb dX12_sparks_0 rfl (lv_at hl 0 rfl) ?_
  refine lv_iconst (v := 0) hx hb dX12_sparks_1 (by decide) ?_
  refine m_puti hx hb hts hown hW (81) 0 rfl rfl cw_12 tyX12_ok nmX12 rfl (by decide) k_X12_167 rfl rfl rfl dX12_sparks_2 (fun H locs hW _ => ?_)
  generalize hμ1 : m_si μ (81) 0 0 = μ1 at hW
  have hI := hI.si0 hμ1 rfl hS20
  refine lv_iconst (v := 0) hx hb dX12_sparks_5 (by decide) ?_
  refine lv_istore_n (lv' := [(1, .int 0), (0, .ref (b + 81))]) hx hb dX12_sparks_6 rfl hl (by decide) rfl (fun ls hl => ?_)
  have l_0 : (0 : Int32).toInt = 0 := by decide
  exact L_X12_sparks_7 hx hb hr hml hown hts hlocks S μ0 hS20 hS23 hS30  401 0 (by omega) (by omega) μ1 hI _ _ hW ls (lv_sub hl [1, 0] rfl)
set_option maxHeartbeats 4000000 in
set_option maxRecDepth 100000 in
theorem L_X12_lost_35 {p : Program} {l : Launch} {e : Env} {s : State} {m : MethodId} {args : Array Value} {below : List Frame} {meth : Method} {c : Code} {D : va_G} {cy : Nat → ClassId} {b : Nat} (hx : p.tables.exec = Jvm.exec) (hb : c.code = cX12_lost) (hr : meth.sig.returnType = ((some .int))) (hml : c.maxLocals = 5) (hown : s.vm.findClass RX12 = some m.cls) (hts : ∀ w ∈ TB, w.before args s = true) (hlocks : meth.locks = false) (S : Nat → Bool) (μ0 : mM) (hS20 : S 20 = true) (k u : Int32) : ∀ (f : Nat), ∀ (y3 y4 : Int32) (hy : 0 ≤ y4.toInt ∧ y4.toInt ≤ 400) (hf : 400 - y4.toInt < (f : Int)) (μ : mM) (hI : IY S μ0 μ) (H : Heap) (locs : List Loc), m_WA (m_A b LAY) D cy s b LAY μ H locs → ∀ ls : Array Slot, lv_has ls 5 [(0, .ref (b + 81)), (1, .int k), (2, .int u), (3, .int y3), (4, .int y4)] → W p l e (m_R 1 0 0) s m args below meth c H locs 0 0 (MQ below (m_Qi D cy b LAY (fun r ν => IY S μ0 ν ∧ (True))) args s 0 0 (m_A b LAY)) (F0 m 35 ls []) := by
  intro f
  induction f with
  | zero => intro y3 y4 hy hf; exfalso; omega
  | succ f ih =>
    intro y3 y4 hy hf μ hI H locs hW ls hl
    refine lv_iload hx hb dX12_lost_35 (lv_at hl 4 rfl) ?_
    refine lv_aload_n hx hb dX12_lost_37 rfl (lv_at hl 0 rfl) ?_
    refine m_geti hx hb hts hown hW (81) 73 rfl rfl cw_12 rfl (by decide) k_X12_404 dX12_lost_38 ?_
    refine lv_topi (fun x1 ex1 => ?_)
    have bx1 : 0 ≤ x1.toInt ∧ x1.toInt ≤ 400 := by rw [ex1]; exact hI.1 _ _ _ _ rfl
    refine lv_icmp_ge (tgt := 81) hx hb dX12_lost_41 (by decide) (fun c2 => ?_) (fun c2 => ?_)
    · have i2 := m_c3 (rfl : x1.toInt = _) (rfl : y4.toInt = _) c2
      refine lv_iconst (v := (-1)) hx hb dX12_lost_81 (by decide) ?_
      exact m_iret hx hb hr hlocks hW rfl (⟨hI, trivial⟩) dX12_lost_82
    · have i2 := m_c4 (rfl : x1.toInt = _) (rfl : y4.toInt = _) c2
      refine lv_aload_n hx hb dX12_lost_44 rfl (lv_at hl 0 rfl) ?_
      refine m_getr hx hb hts hown hW (81) 72 (128) rfl rfl cw_12 rfl (by decide) k_X12_164 dX12_lost_45 ?_
      refine lv_iload hx hb dX12_lost_48 (lv_at hl 4 rfl) ?_
      refine m_iald hx hb hW (128) rfl (m_ixI (rfl : y4.toInt = _) (by omega) (by omega)) dX12_lost_50 ?_
      refine lv_topi (fun x3 ex3 => ?_)
      refine lv_iload_n hx hb dX12_lost_51 rfl (lv_at hl 1 rfl) ?_
      refine lv_icmp_ge (tgt := 61) hx hb dX12_lost_52 (by decide) (fun c4 => ?_) (fun c4 => ?_)
      · have i4 := m_c3 (rfl : k.toInt = _) (rfl : x3.toInt = _) c4
        refine lv_iconst (v := 0) hx hb dX12_lost_61 (by decide) ?_
        refine lv_istore_n (lv' := [(3, .int 0), (0, .ref (b + 81)), (1, .int k), (2, .int u), (4, .int y4)]) hx hb dX12_lost_62 rfl hl (by decide) rfl (fun ls hl => ?_)
        refine lv_iload_n hx hb dX12_lost_63 rfl (lv_at hl 0 rfl) ?_
        refine lv_iload_n hx hb dX12_lost_64 rfl (lv_at hl 3 rfl) ?_
        refine lv_icmp_ne (tgt := 75) hx hb dX12_lost_65 (by decide) (fun c5 => ?_) (fun c5 => ?_)
        · have i5 := m_c6 (by decide : (0 : Int32).toInt = 0) (rfl : u.toInt = _) c5
          obtain ⟨x6, ex6⟩ : ∃ z : Int32, z = y4 + 1 := ⟨_, rfl⟩
          refine lv_iinc (v := x6) (lv' := [(4, .int x6), (3, .int 0), (0, .ref (b + 81)), (1, .int k), (2, .int u)]) hx hb dX12_lost_75 hl (k := 4) rfl (by rw [ex6]; rfl) (by decide) rfl (fun ls hl => ?_)
          have tx6 : x6.toInt = y4.toInt + 1 := m_addI ex6 (rfl : y4.toInt = _) (by decide : (1 : Int32).toInt = 1) (by omega) (by omega)
          refine lv_goto (tgt := 35) hx hb dX12_lost_78 (by decide) ?_
          have l_0 : (0 : Int32).toInt = 0 := by decide
          exact ih 0 x6 (by omega) (by omega) μ hI _ _ hW ls (lv_sub hl [2, 3, 4, 1, 0] rfl)
        · have i5 := m_c5 (by decide : (0 : Int32).toInt = 0) (rfl : u.toInt = _) c5
          refine lv_iload hx hb dX12_lost_68 (lv_at hl 4 rfl) ?_
          refine lv_iload_n hx hb dX12_lost_70 rfl (lv_at hl 3 rfl) ?_
          refine lv_isub hx hb dX12_lost_71 ?_
          refine lv_topi (fun x7 ex7 => ?_)
          have tx7 : x7.toInt = y4.toInt - u.toInt := m_subI ex7 (rfl : y4.toInt = _) (rfl : u.toInt = _) (by omega) (by omega)
          refine lv_iconst (v := 1) hx hb dX12_lost_72 (by decide) ?_
          refine lv_iadd hx hb dX12_lost_73 ?_
          refine lv_topi (fun x8 ex8 => ?_)
          have tx8 : x8.toInt = x7.toInt + 1 := m_addI ex8 (rfl : x7.toInt = _) (by decide : (1 : Int32).toInt = 1) (by omega) (by omega)
          exact m_iret hx hb hr hlocks hW rfl (⟨hI, trivial⟩) dX12_lost_74
      · have i4 := m_c4 (rfl : k.toInt = _) (rfl : x3.toInt = _) c4
        refine lv_iload_n hx hb dX12_lost_55 rfl (lv_at hl 3 rfl) ?_
        refine lv_iconst (v := 1) hx hb dX12_lost_56 (by decide) ?_
        refine lv_iadd hx hb dX12_lost_57 ?_
        refine lv_topi (fun x9 ex9 => ?_)
        refine lv_goto (tgt := 62) hx hb dX12_lost_58 (by decide) ?_
        refine lv_istore_n (lv' := [(3, .int x9), (0, .ref (b + 81)), (1, .int k), (2, .int u), (4, .int y4)]) hx hb dX12_lost_62 rfl hl (by decide) rfl (fun ls hl => ?_)
        refine lv_iload_n hx hb dX12_lost_63 rfl (lv_at hl 0 rfl) ?_
        refine lv_iload_n hx hb dX12_lost_64 rfl (lv_at hl 3 rfl) ?_
        refine lv_icmp_ne (tgt := 75) hx hb dX12_lost_65 (by decide) (fun c10 => ?_) (fun c10 => ?_)
        · have i10 := m_c6 (rfl : x9.toInt = _) (rfl : u.toInt = _) c10
          obtain ⟨x11, ex11⟩ : ∃ z : Int32, z = y4 + 1 := ⟨_, rfl⟩
          refine lv_iinc (v := x11) (lv' := [(4, .int x11), (3, .int x9), (0, .ref (b + 81)), (1, .int k), (2, .int u)]) hx hb dX12_lost_75 hl (k := 4) rfl (by rw [ex11]; rfl) (by decide) rfl (fun ls hl => ?_)
          have tx11 : x11.toInt = y4.toInt + 1 := m_addI ex11 (rfl : y4.toInt = _) (by decide : (1 : Int32).toInt = 1) (by omega) (by omega)
          refine lv_goto (tgt := 35) hx hb dX12_lost_78 (by decide) ?_
          exact ih x9 x11 (by omega) (by omega) μ hI _ _ hW ls (lv_sub hl [2, 3, 4, 1, 0] rfl)
        · have i10 := m_c5 (rfl : x9.toInt = _) (rfl : u.toInt = _) c10
          refine lv_iload hx hb dX12_lost_68 (lv_at hl 4 rfl) ?_
          refine lv_iload_n hx hb dX12_lost_70 rfl (lv_at hl 3 rfl) ?_
          refine lv_isub hx hb dX12_lost_71 ?_
          refine lv_topi (fun x12 ex12 => ?_)
          refine lv_iconst (v := 1) hx hb dX12_lost_72 (by decide) ?_
          refine lv_iadd hx hb dX12_lost_73 ?_
          refine lv_topi (fun x13 ex13 => ?_)
          exact m_iret hx hb hr hlocks hW rfl (⟨hI, trivial⟩) dX12_lost_74
set_option maxHeartbeats 4000000 in
set_option maxRecDepth 100000 in
theorem g_X12_lost (l : Launch) (D : va_G) (cy : Nat → ClassId) (b : Nat) (S : Nat → Bool) (μ0 : mM) (hS20 : S 20 = true) (k u : Int32) (μ : mM) (hI : IY S μ0 μ) : m_Ci l yX12_lost cX12_lost 5 ((some .int)) 1 D cy b LAY μ [.ref (b + 81), .int k, .int u] (fun r ν => IY S μ0 ν ∧ (True)) := by
  unfold m_Ci
  refine m_of (by decide) (Nat.le_of_ble_eq_true rfl) ?_
  intro p e s m below meth c hx hb hr hml hown hts hlocks _ hW ls hl
  have hown : s.vm.findClass RX12 = some m.cls := hown
  have hl : lv_has ls 5 [(0, .ref (b + 81)), (1, .int k), (2, .int u)] := hl
  refine lv_aload_n hx hb dX12_lost_0 rfl (lv_at hl 0 rfl) ?_
  refine lv_iconst (v := 0) hx hb dX12_lost_1 (by decide) ?_
  refine m_puti hx hb hts hown hW (81) 0 rfl rfl cw_12 tyX12_ok nmX12 rfl (by decide) k_X12_167 rfl rfl rfl dX12_lost_2 (fun H locs hW _ => ?_)
  generalize hμ1 : m_si μ (81) 0 0 = μ1 at hW
  have hI := hI.si0 hμ1 rfl hS20
  refine lv_aload_n hx hb dX12_lost_5 rfl (lv_at hl 0 rfl) ?_
  refine lv_iload_n hx hb dX12_lost_6 rfl (lv_at hl 1 rfl) ?_
  refine lv_iconst (v := 0) hx hb dX12_lost_7 (by decide) ?_
  refine lv_sipush (v := 256) hx hb dX12_lost_8 (by decide) ?_
  have l_0 : (0 : Int32).toInt = 0 := by decide
  have l_256 : (256 : Int32).toInt = 256 := by decide
  refine m_aI hW (m_runV (As := [.int k, .int 0, .int 256]) (rest := []) hx hb hml hown hts hW (81) (g_X12_isIn l D cy b k 0 256 μ1 hI.1) mi_X12_isIn k_X12_170 rfl rfl rfl hl.1 rfl (Nat.le_of_ble_eq_true rfl) dX12_lost_11 ⟨Nat.le_of_ble_eq_true rfl, Nat.le_of_ble_eq_true rfl⟩ ⟨Nat.le_of_ble_eq_true rfl, Nat.le_of_ble_eq_true rfl⟩) (fun x2 μ2 H locs q2 hW => ?_)
  obtain ⟨q2_m, q2⟩ := q2
  subst q2_m
  rcases q2 with ⟨rfl, q2⟩ | ⟨rfl, q2⟩
  · refine lv_if_eq (tgt := 28) hx hb dX12_lost_14 (by decide) (fun c => False.elim (by revert c; decide)) (fun _ => ?_)
    refine lv_aload_n hx hb dX12_lost_17 rfl (lv_at hl 0 rfl) ?_
    refine lv_iload_n hx hb dX12_lost_18 rfl (lv_at hl 2 rfl) ?_
    refine lv_iconst (v := 1) hx hb dX12_lost_19 (by decide) ?_
    refine lv_bipush (v := 99) hx hb dX12_lost_20 (by decide) ?_
    have l_1 : (1 : Int32).toInt = 1 := by decide
    have l_99 : (99 : Int32).toInt = 99 := by decide
    refine m_aI hW (m_runV (As := [.int u, .int 1, .int 99]) (rest := []) hx hb hml hown hts hW (81) (g_X12_isIn l D cy b u 1 99 μ1 hI.1) mi_X12_isIn k_X12_170 rfl rfl rfl hl.1 rfl (Nat.le_of_ble_eq_true rfl) dX12_lost_22 ⟨Nat.le_of_ble_eq_true rfl, Nat.le_of_ble_eq_true rfl⟩ ⟨Nat.le_of_ble_eq_true rfl, Nat.le_of_ble_eq_true rfl⟩) (fun x3 μ3 H locs q3 hW => ?_)
    obtain ⟨q3_m, q3⟩ := q3
    subst q3_m
    rcases q3 with ⟨rfl, q3⟩ | ⟨rfl, q3⟩
    · refine lv_if_ne (tgt := 30) hx hb dX12_lost_25 (by decide) (fun _ => ?_) (fun c => False.elim (by revert c; decide))
      refine lv_iconst (v := 0) hx hb dX12_lost_30 (by decide) ?_
      refine lv_istore_n (lv' := [(3, .int 0), (0, .ref (b + 81)), (1, .int k), (2, .int u)]) hx hb dX12_lost_31 rfl hl (by decide) rfl (fun ls hl => ?_)
      refine lv_iconst (v := 0) hx hb dX12_lost_32 (by decide) ?_
      refine lv_istore (lv' := [(4, .int 0), (3, .int 0), (0, .ref (b + 81)), (1, .int k), (2, .int u)]) hx hb dX12_lost_33 hl (by decide) rfl (fun ls hl => ?_)
      exact L_X12_lost_35 hx hb hr hml hown hts hlocks S μ0 hS20 k u  401 0 0 (by omega) (by omega) μ1 hI _ _ hW ls (lv_sub hl [2, 3, 4, 1, 0] rfl)
    · refine lv_if_ne (tgt := 30) hx hb dX12_lost_25 (by decide) (fun c => False.elim (by revert c; decide)) (fun _ => ?_)
      refine lv_iconst (v := (-1)) hx hb dX12_lost_28 (by decide) ?_
      exact m_iret hx hb hr hlocks hW rfl (⟨hI, trivial⟩) dX12_lost_29
  · refine lv_if_eq (tgt := 28) hx hb dX12_lost_14 (by decide) (fun _ => ?_) (fun c => False.elim (by revert c; decide))
    refine lv_iconst (v := (-1)) hx hb dX12_lost_28 (by decide) ?_
    exact m_iret hx hb hr hlocks hW rfl (⟨hI, trivial⟩) dX12_lost_29
set_option maxHeartbeats 4000000 in
set_option maxRecDepth 100000 in
theorem g_X12_askedOf (l : Launch) (D : va_G) (cy : Nat → ClassId) (b : Nat) (d k : Int32) (h_d : 0 ≤ d.toInt ∧ d.toInt ≤ 1) (μ : mM) (hI : IX μ) : m_Ci l yX12_askedOf cX12_askedOf 4 ((some .int)) 2 D cy b LAY μ [.ref (b + 81), .int d, .int k] (fun r ν => μ = ν ∧ (True)) := by
  unfold m_Ci
  refine m_of (by decide) (Nat.le_of_ble_eq_true rfl) ?_
  intro p e s m below meth c hx hb hr hml hown hts hlocks _ hW ls hl
  have hown : s.vm.findClass RX12 = some m.cls := hown
  have hl : lv_has ls 4 [(0, .ref (b + 81)), (1, .int d), (2, .int k)] := hl
  refine lv_aload_n hx hb dX12_askedOf_0 rfl (lv_at hl 0 rfl) ?_
  refine lv_iload_n hx hb dX12_askedOf_1 rfl (lv_at hl 1 rfl) ?_
  refine lv_aload_n hx hb dX12_askedOf_2 rfl (lv_at hl 0 rfl) ?_
  refine m_getr hx hb hts hown hW (81) 18 (91) rfl rfl cw_12 rfl (by decide) k_X12_49 dX12_askedOf_3 ?_
  refine lv_iload_n hx hb dX12_askedOf_6 rfl (lv_at hl 1 rfl) ?_
  refine m_iald hx hb hW (91) rfl (m_ixI (rfl : d.toInt = _) (by omega) (by omega)) dX12_askedOf_7 ?_
  refine lv_topi (fun x1 ex1 => ?_)
  refine lv_aload_n hx hb dX12_askedOf_8 rfl (lv_at hl 0 rfl) ?_
  refine m_getr hx hb hts hown hW (81) 19 (92) rfl rfl cw_12 rfl (by decide) k_X12_52 dX12_askedOf_9 ?_
  refine lv_iload_n hx hb dX12_askedOf_12 rfl (lv_at hl 1 rfl) ?_
  refine m_iald hx hb hW (92) rfl (m_ixI (rfl : d.toInt = _) (by omega) (by omega)) dX12_askedOf_13 ?_
  refine lv_topi (fun x2 ex2 => ?_)
  refine m_aI hW (m_runV (As := [.int d, .int x1, .int x2]) (rest := []) hx hb hml hown hts hW (81) (g_X12_isThere l D cy b d x1 x2 (by omega) μ hI) mi_X12_isThere k_X12_200 rfl rfl rfl hl.1 rfl (Nat.le_of_ble_eq_true rfl) dX12_askedOf_14 ⟨Nat.le_of_ble_eq_true rfl, Nat.le_of_ble_eq_true rfl⟩ ⟨Nat.le_of_ble_eq_true rfl, Nat.le_of_ble_eq_true rfl⟩) (fun x3 μ3 H locs q3 hW => ?_)
  obtain ⟨q3_m, q3⟩ := q3
  subst q3_m
  rcases q3 with ⟨rfl, q3⟩ | ⟨rfl, q3⟩
  · refine lv_istore_n (lv' := [(3, .int 1), (0, .ref (b + 81)), (1, .int d), (2, .int k)]) hx hb dX12_askedOf_17 rfl hl (by decide) rfl (fun ls hl => ?_)
    refine lv_iload_n hx hb dX12_askedOf_18 rfl (lv_at hl 3 rfl) ?_
    refine lv_bipush (v := 14) hx hb dX12_askedOf_19 (by decide) ?_
    refine lv_icmp_ne (tgt := 60) hx hb dX12_askedOf_21 (by decide) (fun c4 => ?_) (fun c4 => ?_)
    · have i4 := m_c6 (rfl : k.toInt = _) (by decide : (14 : Int32).toInt = 14) c4
      refine lv_iload_n hx hb dX12_askedOf_60 rfl (lv_at hl 3 rfl) ?_
      refine lv_bipush (v := 15) hx hb dX12_askedOf_61 (by decide) ?_
      refine lv_icmp_ne (tgt := 73) hx hb dX12_askedOf_63 (by decide) (fun c5 => ?_) (fun c5 => ?_)
      · have i5 := m_c6 (rfl : k.toInt = _) (by decide : (15 : Int32).toInt = 15) c5
        refine lv_iload_n hx hb dX12_askedOf_73 rfl (lv_at hl 3 rfl) ?_
        refine lv_bipush (v := 16) hx hb dX12_askedOf_74 (by decide) ?_
        refine lv_icmp_ne (tgt := 86) hx hb dX12_askedOf_76 (by decide) (fun c6 => ?_) (fun c6 => ?_)
        · have i6 := m_c6 (rfl : k.toInt = _) (by decide : (16 : Int32).toInt = 16) c6
          refine lv_iload_n hx hb dX12_askedOf_86 rfl (lv_at hl 3 rfl) ?_
          refine lv_bipush (v := 17) hx hb dX12_askedOf_87 (by decide) ?_
          refine lv_icmp_ne (tgt := 97) hx hb dX12_askedOf_89 (by decide) (fun c7 => ?_) (fun c7 => ?_)
          · have i7 := m_c6 (rfl : k.toInt = _) (by decide : (17 : Int32).toInt = 17) c7
            refine lv_iload_n hx hb dX12_askedOf_97 rfl (lv_at hl 0 rfl) ?_
            refine lv_if_eq (tgt := 105) hx hb dX12_askedOf_98 (by decide) (fun c => False.elim (by revert c; decide)) (fun _ => ?_)
            refine lv_iconst (v := 0) hx hb dX12_askedOf_101 (by decide) ?_
            refine lv_goto (tgt := 106) hx hb dX12_askedOf_102 (by decide) ?_
            exact m_iret hx hb hr hlocks hW rfl (⟨rfl, trivial⟩) dX12_askedOf_106
          · have i7 := m_c5 (rfl : k.toInt = _) (by decide : (17 : Int32).toInt = 17) c7
            refine lv_aload_n hx hb dX12_askedOf_92 rfl (lv_at hl 1 rfl) ?_
            refine m_geti hx hb hts hown hW (81) 60 rfl rfl cw_12 rfl (by decide) k_X12_347 dX12_askedOf_93 ?_
            refine lv_topi (fun x8 ex8 => ?_)
            exact m_iret hx hb hr hlocks hW rfl (⟨rfl, trivial⟩) dX12_askedOf_96
        · have i6 := m_c5 (rfl : k.toInt = _) (by decide : (16 : Int32).toInt = 16) c6
          refine lv_aload_n hx hb dX12_askedOf_79 rfl (lv_at hl 1 rfl) ?_
          refine m_getr hx hb hts hown hW (81) 19 (92) rfl rfl cw_12 rfl (by decide) k_X12_52 dX12_askedOf_80 ?_
          refine lv_iload_n hx hb dX12_askedOf_83 rfl (lv_at hl 2 rfl) ?_
          refine m_iald hx hb hW (92) rfl (m_ixI (rfl : d.toInt = _) (by omega) (by omega)) dX12_askedOf_84 ?_
          refine lv_topi (fun x9 ex9 => ?_)
          have ex9 : x9 = x2 := by rw [ex9]; exact ex2.symm
          have ex9 := ex9.symm
          subst ex9
          exact m_iret hx hb hr hlocks hW rfl (⟨rfl, trivial⟩) dX12_askedOf_85
      · have i5 := m_c5 (rfl : k.toInt = _) (by decide : (15 : Int32).toInt = 15) c5
        refine lv_aload_n hx hb dX12_askedOf_66 rfl (lv_at hl 1 rfl) ?_
        refine m_getr hx hb hts hown hW (81) 18 (91) rfl rfl cw_12 rfl (by decide) k_X12_49 dX12_askedOf_67 ?_
        refine lv_iload_n hx hb dX12_askedOf_70 rfl (lv_at hl 2 rfl) ?_
        refine m_iald hx hb hW (91) rfl (m_ixI (rfl : d.toInt = _) (by omega) (by omega)) dX12_askedOf_71 ?_
        refine lv_topi (fun x10 ex10 => ?_)
        have ex10 : x10 = x1 := by rw [ex10]; exact ex1.symm
        have ex10 := ex10.symm
        subst ex10
        exact m_iret hx hb hr hlocks hW rfl (⟨rfl, trivial⟩) dX12_askedOf_72
    · have i4 := m_c5 (rfl : k.toInt = _) (by decide : (14 : Int32).toInt = 14) c4
      refine lv_iload_n hx hb dX12_askedOf_24 rfl (lv_at hl 0 rfl) ?_
      refine lv_if_eq (tgt := 58) hx hb dX12_askedOf_25 (by decide) (fun c => False.elim (by revert c; decide)) (fun _ => ?_)
      refine lv_aload_n hx hb dX12_askedOf_28 rfl (lv_at hl 1 rfl) ?_
      refine m_getr hx hb hts hown hW (81) 13 (86) rfl rfl cw_12 rfl (by decide) k_X12_33 dX12_askedOf_29 ?_
      refine lv_sipush (v := 192) hx hb dX12_askedOf_32 (by decide) ?_
      refine lv_iload_n hx hb dX12_askedOf_35 rfl (lv_at hl 2 rfl) ?_
      refine lv_imul hx hb dX12_askedOf_36 ?_
      refine lv_topi (fun x11 ex11 => ?_)
      have tx11 : x11.toInt = 192 * d.toInt := m_mulI ex11 (by decide : (192 : Int32).toInt = 192) (rfl : d.toInt = _) (by omega) (by omega)
      refine lv_bipush (v := 16) hx hb dX12_askedOf_37 (by decide) ?_
      refine lv_aload_n hx hb dX12_askedOf_39 rfl (lv_at hl 1 rfl) ?_
      refine m_getr hx hb hts hown hW (81) 19 (92) rfl rfl cw_12 rfl (by decide) k_X12_52 dX12_askedOf_40 ?_
      refine lv_iload_n hx hb dX12_askedOf_43 rfl (lv_at hl 2 rfl) ?_
      refine m_iald hx hb hW (92) rfl (m_ixI (rfl : d.toInt = _) (by omega) (by omega)) dX12_askedOf_44 ?_
      refine lv_topi (fun x12 ex12 => ?_)
      have ex12 : x12 = x2 := by rw [ex12]; exact ex2.symm
      have ex12 := ex12.symm
      subst ex12
      refine lv_imul hx hb dX12_askedOf_45 ?_
      refine lv_topi (fun x13 ex13 => ?_)
      have tx13 : x13.toInt = 16 * x2.toInt := m_mulI ex13 (by decide : (16 : Int32).toInt = 16) (rfl : x2.toInt = _) (by omega) (by omega)
      refine lv_iadd hx hb dX12_askedOf_46 ?_
      refine lv_topi (fun x14 ex14 => ?_)
      have tx14 : x14.toInt = x11.toInt + x13.toInt := m_addI ex14 (rfl : x11.toInt = _) (rfl : x13.toInt = _) (by omega) (by omega)
      refine lv_aload_n hx hb dX12_askedOf_47 rfl (lv_at hl 1 rfl) ?_
      refine m_getr hx hb hts hown hW (81) 18 (91) rfl rfl cw_12 rfl (by decide) k_X12_49 dX12_askedOf_48 ?_
      refine lv_iload_n hx hb dX12_askedOf_51 rfl (lv_at hl 2 rfl) ?_
      refine m_iald hx hb hW (91) rfl (m_ixI (rfl : d.toInt = _) (by omega) (by omega)) dX12_askedOf_52 ?_
      refine lv_topi (fun x15 ex15 => ?_)
      have ex15 : x15 = x1 := by rw [ex15]; exact ex1.symm
      have ex15 := ex15.symm
      subst ex15
      refine lv_iadd hx hb dX12_askedOf_53 ?_
      refine lv_topi (fun x16 ex16 => ?_)
      have tx16 : x16.toInt = x14.toInt + x1.toInt := m_addI ex16 (rfl : x14.toInt = _) (rfl : x1.toInt = _) (by omega) (by omega)
      refine m_iald hx hb hW (86) rfl (m_ixI (rfl : x16.toInt = _) (by omega) (by omega)) dX12_askedOf_54 ?_
      refine lv_topi (fun x17 ex17 => ?_)
      refine lv_goto (tgt := 59) hx hb dX12_askedOf_55 (by decide) ?_
      exact m_iret hx hb hr hlocks hW rfl (⟨rfl, trivial⟩) dX12_askedOf_59
  · refine lv_istore_n (lv' := [(3, .int 0), (0, .ref (b + 81)), (1, .int d), (2, .int k)]) hx hb dX12_askedOf_17 rfl hl (by decide) rfl (fun ls hl => ?_)
    refine lv_iload_n hx hb dX12_askedOf_18 rfl (lv_at hl 3 rfl) ?_
    refine lv_bipush (v := 14) hx hb dX12_askedOf_19 (by decide) ?_
    refine lv_icmp_ne (tgt := 60) hx hb dX12_askedOf_21 (by decide) (fun c18 => ?_) (fun c18 => ?_)
    · have i18 := m_c6 (rfl : k.toInt = _) (by decide : (14 : Int32).toInt = 14) c18
      refine lv_iload_n hx hb dX12_askedOf_60 rfl (lv_at hl 3 rfl) ?_
      refine lv_bipush (v := 15) hx hb dX12_askedOf_61 (by decide) ?_
      refine lv_icmp_ne (tgt := 73) hx hb dX12_askedOf_63 (by decide) (fun c19 => ?_) (fun c19 => ?_)
      · have i19 := m_c6 (rfl : k.toInt = _) (by decide : (15 : Int32).toInt = 15) c19
        refine lv_iload_n hx hb dX12_askedOf_73 rfl (lv_at hl 3 rfl) ?_
        refine lv_bipush (v := 16) hx hb dX12_askedOf_74 (by decide) ?_
        refine lv_icmp_ne (tgt := 86) hx hb dX12_askedOf_76 (by decide) (fun c20 => ?_) (fun c20 => ?_)
        · have i20 := m_c6 (rfl : k.toInt = _) (by decide : (16 : Int32).toInt = 16) c20
          refine lv_iload_n hx hb dX12_askedOf_86 rfl (lv_at hl 3 rfl) ?_
          refine lv_bipush (v := 17) hx hb dX12_askedOf_87 (by decide) ?_
          refine lv_icmp_ne (tgt := 97) hx hb dX12_askedOf_89 (by decide) (fun c21 => ?_) (fun c21 => ?_)
          · have i21 := m_c6 (rfl : k.toInt = _) (by decide : (17 : Int32).toInt = 17) c21
            refine lv_iload_n hx hb dX12_askedOf_97 rfl (lv_at hl 0 rfl) ?_
            refine lv_if_eq (tgt := 105) hx hb dX12_askedOf_98 (by decide) (fun _ => ?_) (fun c => False.elim (by revert c; decide))
            refine lv_iconst (v := 1) hx hb dX12_askedOf_105 (by decide) ?_
            exact m_iret hx hb hr hlocks hW rfl (⟨rfl, trivial⟩) dX12_askedOf_106
          · have i21 := m_c5 (rfl : k.toInt = _) (by decide : (17 : Int32).toInt = 17) c21
            refine lv_aload_n hx hb dX12_askedOf_92 rfl (lv_at hl 1 rfl) ?_
            refine m_geti hx hb hts hown hW (81) 60 rfl rfl cw_12 rfl (by decide) k_X12_347 dX12_askedOf_93 ?_
            refine lv_topi (fun x22 ex22 => ?_)
            exact m_iret hx hb hr hlocks hW rfl (⟨rfl, trivial⟩) dX12_askedOf_96
        · have i20 := m_c5 (rfl : k.toInt = _) (by decide : (16 : Int32).toInt = 16) c20
          refine lv_aload_n hx hb dX12_askedOf_79 rfl (lv_at hl 1 rfl) ?_
          refine m_getr hx hb hts hown hW (81) 19 (92) rfl rfl cw_12 rfl (by decide) k_X12_52 dX12_askedOf_80 ?_
          refine lv_iload_n hx hb dX12_askedOf_83 rfl (lv_at hl 2 rfl) ?_
          refine m_iald hx hb hW (92) rfl (m_ixI (rfl : d.toInt = _) (by omega) (by omega)) dX12_askedOf_84 ?_
          refine lv_topi (fun x23 ex23 => ?_)
          have ex23 : x23 = x2 := by rw [ex23]; exact ex2.symm
          have ex23 := ex23.symm
          subst ex23
          exact m_iret hx hb hr hlocks hW rfl (⟨rfl, trivial⟩) dX12_askedOf_85
      · have i19 := m_c5 (rfl : k.toInt = _) (by decide : (15 : Int32).toInt = 15) c19
        refine lv_aload_n hx hb dX12_askedOf_66 rfl (lv_at hl 1 rfl) ?_
        refine m_getr hx hb hts hown hW (81) 18 (91) rfl rfl cw_12 rfl (by decide) k_X12_49 dX12_askedOf_67 ?_
        refine lv_iload_n hx hb dX12_askedOf_70 rfl (lv_at hl 2 rfl) ?_
        refine m_iald hx hb hW (91) rfl (m_ixI (rfl : d.toInt = _) (by omega) (by omega)) dX12_askedOf_71 ?_
        refine lv_topi (fun x24 ex24 => ?_)
        have ex24 : x24 = x1 := by rw [ex24]; exact ex1.symm
        have ex24 := ex24.symm
        subst ex24
        exact m_iret hx hb hr hlocks hW rfl (⟨rfl, trivial⟩) dX12_askedOf_72
    · have i18 := m_c5 (rfl : k.toInt = _) (by decide : (14 : Int32).toInt = 14) c18
      refine lv_iload_n hx hb dX12_askedOf_24 rfl (lv_at hl 0 rfl) ?_
      refine lv_if_eq (tgt := 58) hx hb dX12_askedOf_25 (by decide) (fun _ => ?_) (fun c => False.elim (by revert c; decide))
      refine lv_iconst (v := 0) hx hb dX12_askedOf_58 (by decide) ?_
      exact m_iret hx hb hr hlocks hW rfl (⟨rfl, trivial⟩) dX12_askedOf_59
set_option maxHeartbeats 4000000 in
set_option maxRecDepth 100000 in
theorem L_X12_sumOf_12 {p : Program} {l : Launch} {e : Env} {s : State} {m : MethodId} {args : Array Value} {below : List Frame} {meth : Method} {c : Code} {D : va_G} {cy : Nat → ClassId} {b : Nat} (hx : p.tables.exec = Jvm.exec) (hb : c.code = cX12_sumOf) (hr : meth.sig.returnType = ((some .int))) (hml : c.maxLocals = 7) (hown : s.vm.findClass RX12 = some m.cls) (hts : ∀ w ∈ TB, w.before args s = true) (hlocks : meth.locks = false) (μ1 : mM) (d k u v : Int32) (h_d : 0 ≤ d.toInt ∧ d.toInt ≤ 1) (h_k : 0 ≤ k.toInt ∧ k.toInt ≤ 7) (h_u : 0 ≤ u.toInt ∧ u.toInt ≤ 400) (h_v : 0 ≤ v.toInt ∧ v.toInt ≤ 400) : ∀ (f : Nat), ∀ (y5 y6 : Int32) (hy : 0 ≤ y6.toInt ∧ y6.toInt ≤ 3600) (hf : 3600 - y6.toInt < (f : Int)) (μ : mM) (hI : IX μ) (hm : μ = μ1) (H : Heap) (locs : List Loc), m_WA (m_A b LAY) D cy s b LAY μ H locs → ∀ ls : Array Slot, lv_has ls 7 [(0, .ref (b + 81)), (1, .int d), (2, .int k), (3, .int u), (4, .int v), (5, .int y5), (6, .int y6)] → W p l e (m_R 3 0 0) s m args below meth c H locs 0 0 (MQ below (m_Qi D cy b LAY (fun r ν => μ1 = ν ∧ (True))) args s 0 0 (m_A b LAY)) (F0 m 12 ls []) := by
  intro f
  induction f with
  | zero => intro y5 y6 hy hf; exfalso; omega
  | succ f ih =>
    intro y5 y6 hy hf μ hI hm H locs hW ls hl
    refine lv_iload hx hb dX12_sumOf_12 (lv_at hl 6 rfl) ?_
    refine lv_sipush (v := 400) hx hb dX12_sumOf_14 (by decide) ?_
    refine lv_iload_n hx hb dX12_sumOf_17 rfl (lv_at hl 2 rfl) ?_
    refine lv_imul hx hb dX12_sumOf_18 ?_
    refine lv_topi (fun x1 ex1 => ?_)
    have tx1 : x1.toInt = 400 * k.toInt := m_mulI ex1 (by decide : (400 : Int32).toInt = 400) (rfl : k.toInt = _) (by omega) (by omega)
    refine lv_iload hx hb dX12_sumOf_19 (lv_at hl 4 rfl) ?_
    refine lv_iadd hx hb dX12_sumOf_21 ?_
    refine lv_topi (fun x2 ex2 => ?_)
    have tx2 : x2.toInt = x1.toInt + v.toInt := m_addI ex2 (rfl : x1.toInt = _) (rfl : v.toInt = _) (by omega) (by omega)
    refine lv_icmp_ge (tgt := 76) hx hb dX12_sumOf_22 (by decide) (fun c3 => ?_) (fun c3 => ?_)
    · have i3 := m_c3 (rfl : x2.toInt = _) (rfl : y6.toInt = _) c3
      refine lv_iload hx hb dX12_sumOf_76 (lv_at hl 5 rfl) ?_
      exact m_iret hx hb hr hlocks hW rfl (⟨hm.symm, trivial⟩) dX12_sumOf_78
    · have i3 := m_c4 (rfl : x2.toInt = _) (rfl : y6.toInt = _) c3
      refine lv_iload hx hb dX12_sumOf_25 (lv_at hl 5 rfl) ?_
      refine lv_aload_n hx hb dX12_sumOf_27 rfl (lv_at hl 0 rfl) ?_
      refine m_getr hx hb hts hown hW (81) 48 (115) rfl rfl cw_12 rfl (by decide) k_X12_122 dX12_sumOf_28 ?_
      refine lv_iload hx hb dX12_sumOf_31 (lv_at hl 6 rfl) ?_
      refine m_iald hx hb hW (115) rfl (m_ixI (rfl : y6.toInt = _) (by omega) (by omega)) dX12_sumOf_33 ?_
      refine lv_topi (fun x4 ex4 => ?_)
      refine lv_aload_n hx hb dX12_sumOf_34 rfl (lv_at hl 0 rfl) ?_
      refine m_getr hx hb hts hown hW (81) 49 (116) rfl rfl cw_12 rfl (by decide) k_X12_125 dX12_sumOf_35 ?_
      refine lv_iload hx hb dX12_sumOf_38 (lv_at hl 6 rfl) ?_
      refine m_iald hx hb hW (116) rfl (m_ixI (rfl : y6.toInt = _) (by omega) (by omega)) dX12_sumOf_40 ?_
      refine lv_topi (fun x5 ex5 => ?_)
      refine lv_if_ne (tgt := 54) hx hb dX12_sumOf_41 (by decide) (fun c6 => ?_) (fun c6 => ?_)
      · have i6 := m_c6 (rfl : x5.toInt = _) (by decide : (0 : Int32).toInt = 0) c6
        refine lv_aload_n hx hb dX12_sumOf_54 rfl (lv_at hl 0 rfl) ?_
        refine lv_iload_n hx hb dX12_sumOf_55 rfl (lv_at hl 1 rfl) ?_
        refine lv_aload_n hx hb dX12_sumOf_56 rfl (lv_at hl 0 rfl) ?_
        refine m_getr hx hb hts hown hW (81) 49 (116) rfl rfl cw_12 rfl (by decide) k_X12_125 dX12_sumOf_57 ?_
        refine lv_iload hx hb dX12_sumOf_60 (lv_at hl 6 rfl) ?_
        refine m_iald hx hb hW (116) rfl (m_ixI (rfl : y6.toInt = _) (by omega) (by omega)) dX12_sumOf_62 ?_
        refine lv_topi (fun x7 ex7 => ?_)
        have ex7 : x7 = x5 := by rw [ex7]; exact ex5.symm
        have ex7 := ex7.symm
        subst ex7
        refine m_aI hW (m_runV (As := [.int d, .int x5]) (rest := [.int x4, .int y5]) hx hb hml hown hts hW (81) (g_X12_askedOf l D cy b d x5 (by omega) μ hI) mi_X12_askedOf k_X12_356 rfl rfl rfl hl.1 rfl (Nat.le_of_ble_eq_true rfl) dX12_sumOf_63 ⟨Nat.le_of_ble_eq_true rfl, Nat.le_of_ble_eq_true rfl⟩ ⟨Nat.le_of_ble_eq_true rfl, Nat.le_of_ble_eq_true rfl⟩) (fun x8 μ8 H locs q8 hW => ?_)
        obtain ⟨q8_m, q8⟩ := q8
        subst q8_m
        refine lv_imul hx hb dX12_sumOf_66 ?_
        refine lv_topi (fun x9 ex9 => ?_)
        refine lv_iadd hx hb dX12_sumOf_67 ?_
        refine lv_topi (fun x10 ex10 => ?_)
        refine lv_istore (lv' := [(5, .int x10), (0, .ref (b + 81)), (1, .int d), (2, .int k), (3, .int u), (4, .int v), (6, .int y6)]) hx hb dX12_sumOf_68 hl (by decide) rfl (fun ls hl => ?_)
        obtain ⟨x11, ex11⟩ : ∃ z : Int32, z = y6 + 1 := ⟨_, rfl⟩
        refine lv_iinc (v := x11) (lv' := [(6, .int x11), (5, .int x10), (0, .ref (b + 81)), (1, .int d), (2, .int k), (3, .int u), (4, .int v)]) hx hb dX12_sumOf_70 hl (k := 6) rfl (by rw [ex11]; rfl) (by decide) rfl (fun ls hl => ?_)
        have tx11 : x11.toInt = y6.toInt + 1 := m_addI ex11 (rfl : y6.toInt = _) (by decide : (1 : Int32).toInt = 1) (by omega) (by omega)
        refine lv_goto (tgt := 12) hx hb dX12_sumOf_73 (by decide) ?_
        exact ih x10 x11 (by omega) (by omega) μ hI hm _ _ hW ls (lv_sub hl [2, 3, 4, 5, 6, 1, 0] rfl)
      · have i6 := m_c5 (rfl : x5.toInt = _) (by decide : (0 : Int32).toInt = 0) c6
        refine lv_aload_n hx hb dX12_sumOf_44 rfl (lv_at hl 0 rfl) ?_
        refine m_getr hx hb hts hown hW (81) 50 (117) rfl rfl cw_12 rfl (by decide) k_X12_128 dX12_sumOf_45 ?_
        refine lv_iload hx hb dX12_sumOf_48 (lv_at hl 6 rfl) ?_
        refine m_iald hx hb hW (117) rfl (m_ixI (rfl : y6.toInt = _) (by omega) (by omega)) dX12_sumOf_50 ?_
        refine lv_topi (fun x12 ex12 => ?_)
        refine lv_goto (tgt := 66) hx hb dX12_sumOf_51 (by decide) ?_
        refine lv_imul hx hb dX12_sumOf_66 ?_
        refine lv_topi (fun x13 ex13 => ?_)
        refine lv_iadd hx hb dX12_sumOf_67 ?_
        refine lv_topi (fun x14 ex14 => ?_)
        refine lv_istore (lv' := [(5, .int x14), (0, .ref (b + 81)), (1, .int d), (2, .int k), (3, .int u), (4, .int v), (6, .int y6)]) hx hb dX12_sumOf_68 hl (by decide) rfl (fun ls hl => ?_)
        obtain ⟨x15, ex15⟩ : ∃ z : Int32, z = y6 + 1 := ⟨_, rfl⟩
        refine lv_iinc (v := x15) (lv' := [(6, .int x15), (5, .int x14), (0, .ref (b + 81)), (1, .int d), (2, .int k), (3, .int u), (4, .int v)]) hx hb dX12_sumOf_70 hl (k := 6) rfl (by rw [ex15]; rfl) (by decide) rfl (fun ls hl => ?_)
        have tx15 : x15.toInt = y6.toInt + 1 := m_addI ex15 (rfl : y6.toInt = _) (by decide : (1 : Int32).toInt = 1) (by omega) (by omega)
        refine lv_goto (tgt := 12) hx hb dX12_sumOf_73 (by decide) ?_
        exact ih x14 x15 (by omega) (by omega) μ hI hm _ _ hW ls (lv_sub hl [2, 3, 4, 5, 6, 1, 0] rfl)
set_option maxHeartbeats 4000000 in
set_option maxRecDepth 100000 in
theorem g_X12_sumOf (l : Launch) (D : va_G) (cy : Nat → ClassId) (b : Nat) (d k u v : Int32) (h_d : 0 ≤ d.toInt ∧ d.toInt ≤ 1) (h_k : 0 ≤ k.toInt ∧ k.toInt ≤ 7) (h_u : 0 ≤ u.toInt ∧ u.toInt ≤ 400) (h_v : 0 ≤ v.toInt ∧ v.toInt ≤ 400) (μ : mM) (hI : IX μ) : m_Ci l yX12_sumOf cX12_sumOf 7 ((some .int)) 3 D cy b LAY μ [.ref (b + 81), .int d, .int k, .int u, .int v] (fun r ν => μ = ν ∧ (True)) := by
  unfold m_Ci
  refine m_of (by decide) (Nat.le_of_ble_eq_true rfl) ?_
  intro p e s m below meth c hx hb hr hml hown hts hlocks _ hW ls hl
  have hown : s.vm.findClass RX12 = some m.cls := hown
  have hl : lv_has ls 7 [(0, .ref (b + 81)), (1, .int d), (2, .int k), (3, .int u), (4, .int v)] := hl
  refine lv_iconst (v := 0) hx hb dX12_sumOf_0 (by decide) ?_
  refine lv_istore (lv' := [(5, .int 0), (0, .ref (b + 81)), (1, .int d), (2, .int k), (3, .int u), (4, .int v)]) hx hb dX12_sumOf_1 hl (by decide) rfl (fun ls hl => ?_)
  refine lv_sipush (v := 400) hx hb dX12_sumOf_3 (by decide) ?_
  refine lv_iload_n hx hb dX12_sumOf_6 rfl (lv_at hl 3 rfl) ?_
  refine lv_imul hx hb dX12_sumOf_7 ?_
  refine lv_topi (fun x1 ex1 => ?_)
  have tx1 : x1.toInt = 400 * k.toInt := m_mulI ex1 (by decide : (400 : Int32).toInt = 400) (rfl : k.toInt = _) (by omega) (by omega)
  refine lv_iload_n hx hb dX12_sumOf_8 rfl (lv_at hl 4 rfl) ?_
  refine lv_iadd hx hb dX12_sumOf_9 ?_
  refine lv_topi (fun x2 ex2 => ?_)
  have tx2 : x2.toInt = x1.toInt + u.toInt := m_addI ex2 (rfl : x1.toInt = _) (rfl : u.toInt = _) (by omega) (by omega)
  refine lv_istore (lv' := [(6, .int x2), (5, .int 0), (0, .ref (b + 81)), (1, .int d), (2, .int k), (3, .int u), (4, .int v)]) hx hb dX12_sumOf_10 hl (by decide) rfl (fun ls hl => ?_)
  have l_0 : (0 : Int32).toInt = 0 := by decide
  exact L_X12_sumOf_12 hx hb hr hml hown hts hlocks μ d k u v h_d h_k h_u h_v  3601 0 x2 (by omega) (by omega) μ hI rfl _ _ hW ls (lv_sub hl [2, 3, 4, 5, 6, 1, 0] rfl)
set_option maxHeartbeats 4000000 in
set_option maxRecDepth 100000 in
theorem g_X12_isSo (l : Launch) (D : va_G) (cy : Nat → ClassId) (b : Nat) (d k u : Int32) (h_d : 0 ≤ d.toInt ∧ d.toInt ≤ 1) (h_k : 0 ≤ k.toInt ∧ k.toInt ≤ 7) (h_u : 0 ≤ u.toInt ∧ u.toInt ≤ 399) (μ : mM) (hI : IX μ) : m_Ci l yX12_isSo cX12_isSo 7 ((some .boolean)) 4 D cy b LAY μ [.ref (b + 81), .int d, .int k, .int u] (fun r ν => μ = ν ∧ ((r = 1 ∧ (True)) ∨ (r = 0 ∧ (True)))) := by
  unfold m_Ci
  refine m_of (by decide) (Nat.le_of_ble_eq_true rfl) ?_
  intro p e s m below meth c hx hb hr hml hown hts hlocks _ hW ls hl
  have hown : s.vm.findClass RX12 = some m.cls := hown
  have hl : lv_has ls 7 [(0, .ref (b + 81)), (1, .int d), (2, .int k), (3, .int u)] := hl
  refine lv_sipush (v := 400) hx hb dX12_isSo_0 (by decide) ?_
  refine lv_iload_n hx hb dX12_isSo_3 rfl (lv_at hl 2 rfl) ?_
  refine lv_imul hx hb dX12_isSo_4 ?_
  refine lv_topi (fun x1 ex1 => ?_)
  have tx1 : x1.toInt = 400 * k.toInt := m_mulI ex1 (by decide : (400 : Int32).toInt = 400) (rfl : k.toInt = _) (by omega) (by omega)
  refine lv_iload_n hx hb dX12_isSo_5 rfl (lv_at hl 3 rfl) ?_
  refine lv_iadd hx hb dX12_isSo_6 ?_
  refine lv_topi (fun x2 ex2 => ?_)
  have tx2 : x2.toInt = x1.toInt + u.toInt := m_addI ex2 (rfl : x1.toInt = _) (rfl : u.toInt = _) (by omega) (by omega)
  refine lv_istore (lv' := [(4, .int x2), (0, .ref (b + 81)), (1, .int d), (2, .int k), (3, .int u)]) hx hb dX12_isSo_7 hl (by decide) rfl (fun ls hl => ?_)
  refine lv_aload_n hx hb dX12_isSo_9 rfl (lv_at hl 1 rfl) ?_
  refine lv_iload_n hx hb dX12_isSo_10 rfl (lv_at hl 2 rfl) ?_
  refine lv_iload_n hx hb dX12_isSo_11 rfl (lv_at hl 3 rfl) ?_
  refine lv_aload_n hx hb dX12_isSo_12 rfl (lv_at hl 1 rfl) ?_
  refine m_getr hx hb hts hown hW (81) 45 (112) rfl rfl cw_12 rfl (by decide) k_X12_113 dX12_isSo_13 ?_
  refine lv_iload hx hb dX12_isSo_16 (lv_at hl 0 rfl) ?_
  refine m_iald hx hb hW (112) rfl (m_ixI (rfl : x2.toInt = _) (by omega) (by omega)) dX12_isSo_18 ?_
  refine lv_topi (fun x3 ex3 => ?_)
  have bx3 : 0 ≤ x3.toInt ∧ x3.toInt ≤ 400 := by rw [ex3]; exact hI _ _ _ _ rfl
  refine lv_aload_n hx hb dX12_isSo_19 rfl (lv_at hl 1 rfl) ?_
  refine m_getr hx hb hts hown hW (81) 46 (113) rfl rfl cw_12 rfl (by decide) k_X12_116 dX12_isSo_20 ?_
  refine lv_iload hx hb dX12_isSo_23 (lv_at hl 0 rfl) ?_
  refine m_iald hx hb hW (113) rfl (m_ixI (rfl : x2.toInt = _) (by omega) (by omega)) dX12_isSo_25 ?_
  refine lv_topi (fun x4 ex4 => ?_)
  have bx4 : 0 ≤ x4.toInt ∧ x4.toInt ≤ 400 := by rw [ex4]; exact hI _ _ _ _ rfl
  refine m_aI hW (m_runV (As := [.int d, .int k, .int x3, .int x4]) (rest := []) hx hb hml hown hts hW (81) (g_X12_sumOf l D cy b d k x3 x4 (by omega) (by omega) (by omega) (by omega) μ hI) mi_X12_sumOf k_X12_359 rfl rfl rfl hl.1 rfl (Nat.le_of_ble_eq_true rfl) dX12_isSo_26 ⟨Nat.le_of_ble_eq_true rfl, Nat.le_of_ble_eq_true rfl⟩ ⟨Nat.le_of_ble_eq_true rfl, Nat.le_of_ble_eq_true rfl⟩) (fun x5 μ5 H locs q5 hW => ?_)
  obtain ⟨q5_m, q5⟩ := q5
  subst q5_m
  refine lv_istore (lv' := [(5, .int x5), (4, .int x2), (0, .ref (b + 81)), (1, .int d), (2, .int k), (3, .int u)]) hx hb dX12_isSo_29 hl (by decide) rfl (fun ls hl => ?_)
  refine lv_aload_n hx hb dX12_isSo_31 rfl (lv_at hl 2 rfl) ?_
  refine lv_iload_n hx hb dX12_isSo_32 rfl (lv_at hl 3 rfl) ?_
  refine lv_iload_n hx hb dX12_isSo_33 rfl (lv_at hl 4 rfl) ?_
  refine lv_aload_n hx hb dX12_isSo_34 rfl (lv_at hl 2 rfl) ?_
  refine m_getr hx hb hts hown hW (81) 46 (113) rfl rfl cw_12 rfl (by decide) k_X12_116 dX12_isSo_35 ?_
  refine lv_iload hx hb dX12_isSo_38 (lv_at hl 1 rfl) ?_
  refine m_iald hx hb hW (113) rfl (m_ixI (rfl : x2.toInt = _) (by omega) (by omega)) dX12_isSo_40 ?_
  refine lv_topi (fun x6 ex6 => ?_)
  have ex6 : x6 = x4 := by rw [ex6]; exact ex4.symm
  have ex6 := ex6.symm
  subst ex6
  refine lv_aload_n hx hb dX12_isSo_41 rfl (lv_at hl 2 rfl) ?_
  refine m_getr hx hb hts hown hW (81) 47 (114) rfl rfl cw_12 rfl (by decide) k_X12_119 dX12_isSo_42 ?_
  refine lv_iload hx hb dX12_isSo_45 (lv_at hl 1 rfl) ?_
  refine m_iald hx hb hW (114) rfl (m_ixI (rfl : x2.toInt = _) (by omega) (by omega)) dX12_isSo_47 ?_
  refine lv_topi (fun x7 ex7 => ?_)
  have bx7 : 0 ≤ x7.toInt ∧ x7.toInt ≤ 400 := by rw [ex7]; exact hI _ _ _ _ rfl
  refine m_aI hW (m_runV (As := [.int d, .int k, .int x4, .int x7]) (rest := []) hx hb hml hown hts hW (81) (g_X12_sumOf l D cy b d k x4 x7 (by omega) (by omega) (by omega) (by omega) μ hI) mi_X12_sumOf k_X12_359 rfl rfl rfl hl.1 rfl (Nat.le_of_ble_eq_true rfl) dX12_isSo_48 ⟨Nat.le_of_ble_eq_true rfl, Nat.le_of_ble_eq_true rfl⟩ ⟨Nat.le_of_ble_eq_true rfl, Nat.le_of_ble_eq_true rfl⟩) (fun x8 μ8 H locs q8 hW => ?_)
  obtain ⟨q8_m, q8⟩ := q8
  subst q8_m
  refine lv_istore (lv' := [(6, .int x8), (5, .int x5), (4, .int x2), (0, .ref (b + 81)), (1, .int d), (2, .int k), (3, .int u)]) hx hb dX12_isSo_51 hl (by decide) rfl (fun ls hl => ?_)
  refine lv_aload_n hx hb dX12_isSo_53 rfl (lv_at hl 3 rfl) ?_
  refine m_getr hx hb hts hown hW (81) 43 (110) rfl rfl cw_12 rfl (by decide) k_X12_107 dX12_isSo_54 ?_
  refine lv_iload hx hb dX12_isSo_57 (lv_at hl 2 rfl) ?_
  refine m_iald hx hb hW (110) rfl (m_ixI (rfl : x2.toInt = _) (by omega) (by omega)) dX12_isSo_59 ?_
  refine lv_topi (fun x9 ex9 => ?_)
  refine lv_bipush (v := 60) hx hb dX12_isSo_60 (by decide) ?_
  refine lv_icmp_ne (tgt := 80) hx hb dX12_isSo_62 (by decide) (fun c10 => ?_) (fun c10 => ?_)
  · have i10 := m_c6 (rfl : x9.toInt = _) (by decide : (60 : Int32).toInt = 60) c10
    refine lv_aload_n hx hb dX12_isSo_80 rfl (lv_at hl 3 rfl) ?_
    refine m_getr hx hb hts hown hW (81) 43 (110) rfl rfl cw_12 rfl (by decide) k_X12_107 dX12_isSo_81 ?_
    refine lv_iload hx hb dX12_isSo_84 (lv_at hl 2 rfl) ?_
    refine m_iald hx hb hW (110) rfl (m_ixI (rfl : x2.toInt = _) (by omega) (by omega)) dX12_isSo_86 ?_
    refine lv_topi (fun x11 ex11 => ?_)
    have ex11 : x11 = x9 := by rw [ex11]; exact ex9.symm
    have ex11 := ex11.symm
    subst ex11
    refine lv_bipush (v := 61) hx hb dX12_isSo_87 (by decide) ?_
    refine lv_icmp_ne (tgt := 107) hx hb dX12_isSo_89 (by decide) (fun c12 => ?_) (fun c12 => ?_)
    · have i12 := m_c6 (rfl : x9.toInt = _) (by decide : (61 : Int32).toInt = 61) c12
      refine lv_iload hx hb dX12_isSo_107 (lv_at hl 1 rfl) ?_
      refine lv_iload hx hb dX12_isSo_109 (lv_at hl 0 rfl) ?_
      refine lv_icmp_le (tgt := 118) hx hb dX12_isSo_111 (by decide) (fun c13 => ?_) (fun c13 => ?_)
      · have i13 := m_c3 (rfl : x5.toInt = _) (rfl : x8.toInt = _) c13
        refine lv_iconst (v := 0) hx hb dX12_isSo_118 (by decide) ?_
        exact m_iret hx hb hr hlocks hW (by decide) (⟨rfl, Or.inr ⟨rfl, trivial⟩⟩) dX12_isSo_119
      · have i13 := m_c4 (rfl : x5.toInt = _) (rfl : x8.toInt = _) c13
        refine lv_iconst (v := 1) hx hb dX12_isSo_114 (by decide) ?_
        refine lv_goto (tgt := 119) hx hb dX12_isSo_115 (by decide) ?_
        exact m_iret hx hb hr hlocks hW (by decide) (⟨rfl, Or.inl ⟨rfl, trivial⟩⟩) dX12_isSo_119
    · have i12 := m_c5 (rfl : x9.toInt = _) (by decide : (61 : Int32).toInt = 61) c12
      refine lv_iload hx hb dX12_isSo_92 (lv_at hl 1 rfl) ?_
      refine lv_iload hx hb dX12_isSo_94 (lv_at hl 0 rfl) ?_
      refine lv_icmp_ne (tgt := 103) hx hb dX12_isSo_96 (by decide) (fun c14 => ?_) (fun c14 => ?_)
      · have i14 := m_c6 (rfl : x5.toInt = _) (rfl : x8.toInt = _) c14
        refine lv_iconst (v := 0) hx hb dX12_isSo_103 (by decide) ?_
        refine lv_goto (tgt := 119) hx hb dX12_isSo_104 (by decide) ?_
        exact m_iret hx hb hr hlocks hW (by decide) (⟨rfl, Or.inr ⟨rfl, trivial⟩⟩) dX12_isSo_119
      · have i14 := m_c5 (rfl : x5.toInt = _) (rfl : x8.toInt = _) c14
        refine lv_iconst (v := 1) hx hb dX12_isSo_99 (by decide) ?_
        refine lv_goto (tgt := 119) hx hb dX12_isSo_100 (by decide) ?_
        exact m_iret hx hb hr hlocks hW (by decide) (⟨rfl, Or.inl ⟨rfl, trivial⟩⟩) dX12_isSo_119
  · have i10 := m_c5 (rfl : x9.toInt = _) (by decide : (60 : Int32).toInt = 60) c10
    refine lv_iload hx hb dX12_isSo_65 (lv_at hl 1 rfl) ?_
    refine lv_iload hx hb dX12_isSo_67 (lv_at hl 0 rfl) ?_
    refine lv_icmp_ge (tgt := 76) hx hb dX12_isSo_69 (by decide) (fun c15 => ?_) (fun c15 => ?_)
    · have i15 := m_c3 (rfl : x8.toInt = _) (rfl : x5.toInt = _) c15
      refine lv_iconst (v := 0) hx hb dX12_isSo_76 (by decide) ?_
      refine lv_goto (tgt := 119) hx hb dX12_isSo_77 (by decide) ?_
      exact m_iret hx hb hr hlocks hW (by decide) (⟨rfl, Or.inr ⟨rfl, trivial⟩⟩) dX12_isSo_119
    · have i15 := m_c4 (rfl : x8.toInt = _) (rfl : x5.toInt = _) c15
      refine lv_iconst (v := 1) hx hb dX12_isSo_72 (by decide) ?_
      refine lv_goto (tgt := 119) hx hb dX12_isSo_73 (by decide) ?_
      exact m_iret hx hb hr hlocks hW (by decide) (⟨rfl, Or.inl ⟨rfl, trivial⟩⟩) dX12_isSo_119
set_option maxHeartbeats 4000000 in
set_option maxRecDepth 100000 in
theorem g_X12_comes (l : Launch) (D : va_G) (cy : Nat → ClassId) (b : Nat) (S : Nat → Bool) (μ0 : mM) (hS22 : S 22 = true) (d k u : Int32) (h_d : 0 ≤ d.toInt ∧ d.toInt ≤ 1) (μ : mM) (hI : IY S μ0 μ) : m_Cv l yX12_comes cX12_comes 4 (none) 2 D cy b LAY μ [.ref (b + 81), .int d, .int k, .int u] (fun ν => IY S μ0 ν ∧ (True)) := by
  unfold m_Cv
  refine m_of (by decide) (Nat.le_of_ble_eq_true rfl) ?_
  intro p e s m below meth c hx hb hr hml hown hts hlocks _ hW ls hl
  have hown : s.vm.findClass RX12 = some m.cls := hown
  have hl : lv_has ls 4 [(0, .ref (b + 81)), (1, .int d), (2, .int k), (3, .int u)] := hl
  refine lv_aload_n hx hb dX12_comes_0 rfl (lv_at hl 0 rfl) ?_
  refine m_getr hx hb hts hown hW (81) 18 (91) rfl rfl cw_12 rfl (by decide) k_X12_49 dX12_comes_1 ?_
  refine lv_iload_n hx hb dX12_comes_4 rfl (lv_at hl 1 rfl) ?_
  refine lv_iload_n hx hb dX12_comes_5 rfl (lv_at hl 2 rfl) ?_
  refine m_iast hx hb hW (91) rfl (m_ixI (rfl : d.toInt = _) (by omega) (by omega)) dX12_comes_6 (fun H locs hW _ => ?_)
  generalize hμ1 : m_si μ (91) (d : Int32).toNatClampNeg k = μ1 at hW
  have hI := hI.si0 hμ1 rfl hS22
  refine lv_aload_n hx hb dX12_comes_7 rfl (lv_at hl 0 rfl) ?_
  refine m_getr hx hb hts hown hW (81) 19 (92) rfl rfl cw_12 rfl (by decide) k_X12_52 dX12_comes_8 ?_
  refine lv_iload_n hx hb dX12_comes_11 rfl (lv_at hl 1 rfl) ?_
  refine lv_iload_n hx hb dX12_comes_12 rfl (lv_at hl 3 rfl) ?_
  refine m_iast hx hb hW (92) rfl (m_ixI (rfl : d.toInt = _) (by omega) (by omega)) dX12_comes_13 (fun H locs hW _ => ?_)
  generalize hμ2 : m_si μ1 (92) (d : Int32).toNatClampNeg u = μ2 at hW
  have hI := hI.si0 hμ2 rfl hS22
  refine lv_aload_n hx hb dX12_comes_14 rfl (lv_at hl 0 rfl) ?_
  refine lv_iload_n hx hb dX12_comes_15 rfl (lv_at hl 1 rfl) ?_
  refine lv_iload_n hx hb dX12_comes_16 rfl (lv_at hl 2 rfl) ?_
  refine lv_iload_n hx hb dX12_comes_17 rfl (lv_at hl 3 rfl) ?_
  refine m_aI hW (m_runV (As := [.int d, .int k, .int u]) (rest := []) hx hb hml hown hts hW (81) (g_X12_isThere l D cy b d k u (by omega) μ2 hI.1) mi_X12_isThere k_X12_200 rfl rfl rfl hl.1 rfl (Nat.le_of_ble_eq_true rfl) dX12_comes_18 ⟨Nat.le_of_ble_eq_true rfl, Nat.le_of_ble_eq_true rfl⟩ ⟨Nat.le_of_ble_eq_true rfl, Nat.le_of_ble_eq_true rfl⟩) (fun x3 μ3 H locs q3 hW => ?_)
  obtain ⟨q3_m, q3⟩ := q3
  subst q3_m
  rcases q3 with ⟨rfl, q3⟩ | ⟨rfl, q3⟩
  · refine lv_if_eq (tgt := 58) hx hb dX12_comes_21 (by decide) (fun c => False.elim (by revert c; decide)) (fun _ => ?_)
    refine lv_aload_n hx hb dX12_comes_24 rfl (lv_at hl 0 rfl) ?_
    refine m_getr hx hb hts hown hW (81) 17 (90) rfl rfl cw_12 rfl (by decide) k_X12_46 dX12_comes_25 ?_
    refine lv_sipush (v := 192) hx hb dX12_comes_28 (by decide) ?_
    refine lv_iload_n hx hb dX12_comes_31 rfl (lv_at hl 1 rfl) ?_
    refine lv_imul hx hb dX12_comes_32 ?_
    refine lv_topi (fun x4 ex4 => ?_)
    have tx4 : x4.toInt = 192 * d.toInt := m_mulI ex4 (by decide : (192 : Int32).toInt = 192) (rfl : d.toInt = _) (by omega) (by omega)
    refine lv_bipush (v := 16) hx hb dX12_comes_33 (by decide) ?_
    refine lv_iload_n hx hb dX12_comes_35 rfl (lv_at hl 3 rfl) ?_
    refine lv_imul hx hb dX12_comes_36 ?_
    refine lv_topi (fun x5 ex5 => ?_)
    have tx5 : x5.toInt = 16 * u.toInt := m_mulI ex5 (by decide : (16 : Int32).toInt = 16) (rfl : u.toInt = _) (by omega) (by omega)
    refine lv_iadd hx hb dX12_comes_37 ?_
    refine lv_topi (fun x6 ex6 => ?_)
    have tx6 : x6.toInt = x4.toInt + x5.toInt := m_addI ex6 (rfl : x4.toInt = _) (rfl : x5.toInt = _) (by omega) (by omega)
    refine lv_iload_n hx hb dX12_comes_38 rfl (lv_at hl 2 rfl) ?_
    refine lv_iadd hx hb dX12_comes_39 ?_
    refine lv_topi (fun x7 ex7 => ?_)
    have tx7 : x7.toInt = x6.toInt + k.toInt := m_addI ex7 (rfl : x6.toInt = _) (rfl : k.toInt = _) (by omega) (by omega)
    refine m_zald hx hb hW (90) rfl (m_ixI (rfl : x7.toInt = _) (by omega) (by omega)) dX12_comes_40 ?_
    refine lv_topi (fun x8 ex8 => ?_)
    have bx8 : 0 ≤ x8.toInt ∧ x8.toInt ≤ 1 := by rw [ex8]; exact hI.1 _ _ _ _ rfl
    refine lv_if_eq (tgt := 58) hx hb dX12_comes_41 (by decide) (fun c9 => ?_) (fun c9 => ?_)
    · have i9 := m_c5 (rfl : x8.toInt = _) (by decide : (0 : Int32).toInt = 0) c9
      exact m_vret hx hb hr hlocks hW (⟨hI, trivial⟩) dX12_comes_58
    · have i9 := m_c6 (rfl : x8.toInt = _) (by decide : (0 : Int32).toInt = 0) c9
      refine lv_aload_n hx hb dX12_comes_44 rfl (lv_at hl 0 rfl) ?_
      refine m_getr hx hb hts hown hW (81) 23 (96) rfl rfl cw_12 rfl (by decide) k_X12_64 dX12_comes_45 ?_
      refine lv_iload_n hx hb dX12_comes_48 rfl (lv_at hl 1 rfl) ?_
      refine lv_aload_n hx hb dX12_comes_49 rfl (lv_at hl 0 rfl) ?_
      refine m_getr hx hb hts hown hW (81) 23 (96) rfl rfl cw_12 rfl (by decide) k_X12_64 dX12_comes_50 ?_
      refine lv_iload_n hx hb dX12_comes_53 rfl (lv_at hl 1 rfl) ?_
      refine m_iald hx hb hW (96) rfl (m_ixI (rfl : d.toInt = _) (by omega) (by omega)) dX12_comes_54 ?_
      refine lv_topi (fun x10 ex10 => ?_)
      refine lv_iconst (v := 1) hx hb dX12_comes_55 (by decide) ?_
      refine lv_iadd hx hb dX12_comes_56 ?_
      refine lv_topi (fun x11 ex11 => ?_)
      refine m_iast hx hb hW (96) rfl (m_ixI (rfl : d.toInt = _) (by omega) (by omega)) dX12_comes_57 (fun H locs hW _ => ?_)
      generalize hμ12 : m_si μ2 (96) (d : Int32).toNatClampNeg x11 = μ12 at hW
      have hI := hI.si0 hμ12 rfl hS22
      exact m_vret hx hb hr hlocks hW (⟨hI, trivial⟩) dX12_comes_58
  · refine lv_if_eq (tgt := 58) hx hb dX12_comes_21 (by decide) (fun _ => ?_) (fun c => False.elim (by revert c; decide))
    exact m_vret hx hb hr hlocks hW (⟨hI, trivial⟩) dX12_comes_58
