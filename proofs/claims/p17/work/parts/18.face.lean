set_option maxHeartbeats 4000000 in
set_option maxRecDepth 100000 in
theorem g_X11_stuff (l : Launch) (D : va_G) (cy : Nat → ClassId) (b : Nat) (S : Nat → Bool) (μ0 : mM) (hS1 : S 1 = true) (k u v w z : Int32) (μ : mM) (hI : IY S μ0 μ) : m_Ci l yX11_stuff cX11_stuff 6 ((some .boolean)) 2 D cy b LAY μ [.ref (b + 0), .int k, .int u, .int v, .int w, .int z] (fun r ν => IY S μ0 ν ∧ ((r = 1 ∧ (0 ≤ k.toInt ∧ k.toInt ≤ 3 ∧ 1 ≤ u.toInt ∧ u.toInt ≤ 999 ∧ 0 ≤ v.toInt ∧ v.toInt ≤ 20 ∧ 0 ≤ w.toInt ∧ w.toInt ≤ 20 ∧ 1 ≤ z.toInt ∧ z.toInt ≤ 9999)) ∨ (r = 0 ∧ (¬ (0 ≤ k.toInt ∧ k.toInt ≤ 3 ∧ 1 ≤ u.toInt ∧ u.toInt ≤ 999 ∧ 0 ≤ v.toInt ∧ v.toInt ≤ 20 ∧ 0 ≤ w.toInt ∧ w.toInt ≤ 20 ∧ 1 ≤ z.toInt ∧ z.toInt ≤ 9999))))) := by
  unfold m_Ci
  refine m_of (by decide) (Nat.le_of_ble_eq_true rfl) ?_
  intro p e s m below meth c hx hb hr hml hown hts hlocks _ hW ls hl
  have hown : s.vm.findClass RX11 = some m.cls := hown
  have hl : lv_has ls 6 [(0, .ref (b + 0)), (1, .int k), (2, .int u), (3, .int v), (4, .int w), (5, .int z)] := hl
  refine lv_aload_n hx hb dX11_stuff_0 rfl (lv_at hl 0 rfl) ?_
  refine m_getr hx hb hts hown hW (0) 0 (1) rfl rfl cw_11 rfl (by decide) k_X11_10 dX11_stuff_1 ?_
  refine lv_iload_n hx hb dX11_stuff_4 rfl (lv_at hl 1 rfl) ?_
  refine lv_iload_n hx hb dX11_stuff_5 rfl (lv_at hl 2 rfl) ?_
  refine lv_iload_n hx hb dX11_stuff_6 rfl (lv_at hl 3 rfl) ?_
  refine lv_iload hx hb dX11_stuff_7 (lv_at hl 4 rfl) ?_
  refine lv_iload hx hb dX11_stuff_9 (lv_at hl 5 rfl) ?_
  refine m_aI hW (m_runV (As := [.int k, .int u, .int v, .int w, .int z]) (rest := []) hx hb hml hown hts hW (1) (g_X10_setStuff l D cy b S μ0 hS1 k u v w z μ hI) mi_X10_setStuff k_X11_77 rfl rfl rfl hl.1 rfl (Nat.le_of_ble_eq_true rfl) dX11_stuff_11 ⟨Nat.le_of_ble_eq_true rfl, Nat.le_of_ble_eq_true rfl⟩ ⟨Nat.le_of_ble_eq_true rfl, Nat.le_of_ble_eq_true rfl⟩) (fun x1 μ1 H locs q1 hW => ?_)
  obtain ⟨hI, q1⟩ := q1
  rcases q1 with ⟨rfl, q1⟩ | ⟨rfl, q1⟩
  · exact m_iret hx hb hr hlocks hW (by decide) (⟨hI, Or.inl ⟨rfl, by omega⟩⟩) dX11_stuff_14
  · exact m_iret hx hb hr hlocks hW (by decide) (⟨hI, Or.inr ⟨rfl, by omega⟩⟩) dX11_stuff_14
set_option maxHeartbeats 4000000 in
set_option maxRecDepth 100000 in
theorem g_X11_plate (l : Launch) (D : va_G) (cy : Nat → ClassId) (b : Nat) (S : Nat → Bool) (μ0 : mM) (hS6 : S 6 = true) (k u v w : Int32) (μ : mM) (hI : IY S μ0 μ) : m_Ci l yX11_plate cX11_plate 5 ((some .boolean)) 2 D cy b LAY μ [.ref (b + 0), .int k, .int u, .int v, .int w] (fun r ν => IY S μ0 ν ∧ ((r = 1 ∧ (1 ≤ k.toInt ∧ k.toInt ≤ 16 ∧ 1 ≤ u.toInt ∧ u.toInt ≤ 12 ∧ 0 ≤ v.toInt ∧ v.toInt ≤ 3 ∧ 1 ≤ w.toInt ∧ w.toInt ≤ 9)) ∨ (r = 0 ∧ (¬ (1 ≤ k.toInt ∧ k.toInt ≤ 16 ∧ 1 ≤ u.toInt ∧ u.toInt ≤ 12 ∧ 0 ≤ v.toInt ∧ v.toInt ≤ 3 ∧ 1 ≤ w.toInt ∧ w.toInt ≤ 9))))) := by
  unfold m_Ci
  refine m_of (by decide) (Nat.le_of_ble_eq_true rfl) ?_
  intro p e s m below meth c hx hb hr hml hown hts hlocks _ hW ls hl
  have hown : s.vm.findClass RX11 = some m.cls := hown
  have hl : lv_has ls 5 [(0, .ref (b + 0)), (1, .int k), (2, .int u), (3, .int v), (4, .int w)] := hl
  refine lv_iload_n hx hb dX11_plate_0 rfl (lv_at hl 1 rfl) ?_
  refine lv_iconst (v := 1) hx hb dX11_plate_1 (by decide) ?_
  refine lv_bipush (v := 16) hx hb dX11_plate_2 (by decide) ?_
  have l_1 : (1 : Int32).toInt = 1 := by decide
  have l_16 : (16 : Int32).toInt = 16 := by decide
  refine m_aI hW (m_runS (As := [.int k, .int 1, .int 16]) (rest := []) hx hb hml hown hts hW (g_X11_within l D cy b k 1 16 μ hI.1) ms_X11_within k_X11_81 rfl hl.1 rfl (Nat.le_of_ble_eq_true rfl) dX11_plate_4 ⟨Nat.le_of_ble_eq_true rfl, Nat.le_of_ble_eq_true rfl⟩ ⟨Nat.le_of_ble_eq_true rfl, Nat.le_of_ble_eq_true rfl⟩) (fun x1 μ1 H locs q1 hW => ?_)
  obtain ⟨q1_m, q1⟩ := q1
  subst q1_m
  rcases q1 with ⟨rfl, q1⟩ | ⟨rfl, q1⟩
  · refine lv_if_eq (tgt := 40) hx hb dX11_plate_7 (by decide) (fun c => False.elim (by revert c; decide)) (fun _ => ?_)
    refine lv_iload_n hx hb dX11_plate_10 rfl (lv_at hl 2 rfl) ?_
    refine lv_iconst (v := 1) hx hb dX11_plate_11 (by decide) ?_
    refine lv_bipush (v := 12) hx hb dX11_plate_12 (by decide) ?_
    have l_12 : (12 : Int32).toInt = 12 := by decide
    refine m_aI hW (m_runS (As := [.int u, .int 1, .int 12]) (rest := []) hx hb hml hown hts hW (g_X11_within l D cy b u 1 12 μ hI.1) ms_X11_within k_X11_81 rfl hl.1 rfl (Nat.le_of_ble_eq_true rfl) dX11_plate_14 ⟨Nat.le_of_ble_eq_true rfl, Nat.le_of_ble_eq_true rfl⟩ ⟨Nat.le_of_ble_eq_true rfl, Nat.le_of_ble_eq_true rfl⟩) (fun x2 μ2 H locs q2 hW => ?_)
    obtain ⟨q2_m, q2⟩ := q2
    subst q2_m
    rcases q2 with ⟨rfl, q2⟩ | ⟨rfl, q2⟩
    · refine lv_if_eq (tgt := 40) hx hb dX11_plate_17 (by decide) (fun c => False.elim (by revert c; decide)) (fun _ => ?_)
      refine lv_iload_n hx hb dX11_plate_20 rfl (lv_at hl 3 rfl) ?_
      refine lv_iconst (v := 0) hx hb dX11_plate_21 (by decide) ?_
      refine lv_iconst (v := 3) hx hb dX11_plate_22 (by decide) ?_
      have l_0 : (0 : Int32).toInt = 0 := by decide
      have l_3 : (3 : Int32).toInt = 3 := by decide
      refine m_aI hW (m_runS (As := [.int v, .int 0, .int 3]) (rest := []) hx hb hml hown hts hW (g_X11_within l D cy b v 0 3 μ hI.1) ms_X11_within k_X11_81 rfl hl.1 rfl (Nat.le_of_ble_eq_true rfl) dX11_plate_23 ⟨Nat.le_of_ble_eq_true rfl, Nat.le_of_ble_eq_true rfl⟩ ⟨Nat.le_of_ble_eq_true rfl, Nat.le_of_ble_eq_true rfl⟩) (fun x3 μ3 H locs q3 hW => ?_)
      obtain ⟨q3_m, q3⟩ := q3
      subst q3_m
      rcases q3 with ⟨rfl, q3⟩ | ⟨rfl, q3⟩
      · refine lv_if_eq (tgt := 40) hx hb dX11_plate_26 (by decide) (fun c => False.elim (by revert c; decide)) (fun _ => ?_)
        refine lv_iload hx hb dX11_plate_29 (lv_at hl 4 rfl) ?_
        refine lv_iconst (v := 1) hx hb dX11_plate_31 (by decide) ?_
        refine lv_bipush (v := 9) hx hb dX11_plate_32 (by decide) ?_
        have l_9 : (9 : Int32).toInt = 9 := by decide
        refine m_aI hW (m_runS (As := [.int w, .int 1, .int 9]) (rest := []) hx hb hml hown hts hW (g_X11_within l D cy b w 1 9 μ hI.1) ms_X11_within k_X11_81 rfl hl.1 rfl (Nat.le_of_ble_eq_true rfl) dX11_plate_34 ⟨Nat.le_of_ble_eq_true rfl, Nat.le_of_ble_eq_true rfl⟩ ⟨Nat.le_of_ble_eq_true rfl, Nat.le_of_ble_eq_true rfl⟩) (fun x4 μ4 H locs q4 hW => ?_)
        obtain ⟨q4_m, q4⟩ := q4
        subst q4_m
        rcases q4 with ⟨rfl, q4⟩ | ⟨rfl, q4⟩
        · refine lv_if_ne (tgt := 42) hx hb dX11_plate_37 (by decide) (fun _ => ?_) (fun c => False.elim (by revert c; decide))
          refine lv_aload_n hx hb dX11_plate_42 rfl (lv_at hl 0 rfl) ?_
          refine m_getr hx hb hts hown hW (0) 4 (41) rfl rfl cw_11 rfl (by decide) k_X11_38 dX11_plate_43 ?_
          refine lv_iload_n hx hb dX11_plate_46 rfl (lv_at hl 1 rfl) ?_
          refine lv_iload_n hx hb dX11_plate_47 rfl (lv_at hl 2 rfl) ?_
          refine lv_iload_n hx hb dX11_plate_48 rfl (lv_at hl 3 rfl) ?_
          refine lv_iload hx hb dX11_plate_49 (lv_at hl 4 rfl) ?_
          refine m_aV hW (m_runV (As := [.int k, .int u, .int v, .int w]) (rest := []) hx hb hml hown hts hW (41) (g_X3_renew_41 l D cy b S μ0 hS6 k u v w (by omega) (by omega) (by omega) (by omega) μ hI) mi_X3_renew k_X11_85 rfl rfl rfl hl.1 rfl (Nat.le_of_ble_eq_true rfl) dX11_plate_51 ⟨Nat.le_of_ble_eq_true rfl, Nat.le_of_ble_eq_true rfl⟩ ⟨Nat.le_of_ble_eq_true rfl, Nat.le_of_ble_eq_true rfl⟩) (fun μ5 H locs q5 hW => ?_)
          obtain ⟨hI, q5⟩ := q5
          refine lv_iconst (v := 1) hx hb dX11_plate_54 (by decide) ?_
          exact m_iret hx hb hr hlocks hW (by decide) (⟨hI, Or.inl ⟨rfl, by omega⟩⟩) dX11_plate_55
        · refine lv_if_ne (tgt := 42) hx hb dX11_plate_37 (by decide) (fun c => False.elim (by revert c; decide)) (fun _ => ?_)
          refine lv_iconst (v := 0) hx hb dX11_plate_40 (by decide) ?_
          exact m_iret hx hb hr hlocks hW (by decide) (⟨hI, Or.inr ⟨rfl, by omega⟩⟩) dX11_plate_41
      · refine lv_if_eq (tgt := 40) hx hb dX11_plate_26 (by decide) (fun _ => ?_) (fun c => False.elim (by revert c; decide))
        refine lv_iconst (v := 0) hx hb dX11_plate_40 (by decide) ?_
        exact m_iret hx hb hr hlocks hW (by decide) (⟨hI, Or.inr ⟨rfl, by omega⟩⟩) dX11_plate_41
    · refine lv_if_eq (tgt := 40) hx hb dX11_plate_17 (by decide) (fun _ => ?_) (fun c => False.elim (by revert c; decide))
      refine lv_iconst (v := 0) hx hb dX11_plate_40 (by decide) ?_
      exact m_iret hx hb hr hlocks hW (by decide) (⟨hI, Or.inr ⟨rfl, by omega⟩⟩) dX11_plate_41
  · refine lv_if_eq (tgt := 40) hx hb dX11_plate_7 (by decide) (fun _ => ?_) (fun c => False.elim (by revert c; decide))
    refine lv_iconst (v := 0) hx hb dX11_plate_40 (by decide) ?_
    exact m_iret hx hb hr hlocks hW (by decide) (⟨hI, Or.inr ⟨rfl, by omega⟩⟩) dX11_plate_41
set_option maxHeartbeats 4000000 in
set_option maxRecDepth 100000 in
theorem g_X11_beam (l : Launch) (D : va_G) (cy : Nat → ClassId) (b : Nat) (S : Nat → Bool) (μ0 : mM) (hS1 : S 1 = true) (k u : Int32) (h_u : 0 ≤ u.toInt ∧ u.toInt ≤ 1) (μ : mM) (hI : IY S μ0 μ) : m_Ci l yX11_beam cX11_beam 3 ((some .boolean)) 1 D cy b LAY μ [.ref (b + 0), .int k, .int u] (fun r ν => IY S μ0 ν ∧ ((r = 1 ∧ (0 ≤ k.toInt ∧ k.toInt ≤ 9999)) ∨ (r = 0 ∧ (¬ (0 ≤ k.toInt ∧ k.toInt ≤ 9999))))) := by
  unfold m_Ci
  refine m_of (by decide) (Nat.le_of_ble_eq_true rfl) ?_
  intro p e s m below meth c hx hb hr hml hown hts hlocks _ hW ls hl
  have hown : s.vm.findClass RX11 = some m.cls := hown
  have hl : lv_has ls 3 [(0, .ref (b + 0)), (1, .int k), (2, .int u)] := hl
  refine lv_iload_n hx hb dX11_beam_0 rfl (lv_at hl 1 rfl) ?_
  refine lv_iconst (v := 0) hx hb dX11_beam_1 (by decide) ?_
  refine lv_sipush (v := 9999) hx hb dX11_beam_2 (by decide) ?_
  have l_0 : (0 : Int32).toInt = 0 := by decide
  have l_9999 : (9999 : Int32).toInt = 9999 := by decide
  refine m_aI hW (m_runS (As := [.int k, .int 0, .int 9999]) (rest := []) hx hb hml hown hts hW (g_X11_within l D cy b k 0 9999 μ hI.1) ms_X11_within k_X11_81 rfl hl.1 rfl (Nat.le_of_ble_eq_true rfl) dX11_beam_5 ⟨Nat.le_of_ble_eq_true rfl, Nat.le_of_ble_eq_true rfl⟩ ⟨Nat.le_of_ble_eq_true rfl, Nat.le_of_ble_eq_true rfl⟩) (fun x1 μ1 H locs q1 hW => ?_)
  obtain ⟨q1_m, q1⟩ := q1
  subst q1_m
  rcases q1 with ⟨rfl, q1⟩ | ⟨rfl, q1⟩
  · refine lv_if_ne (tgt := 13) hx hb dX11_beam_8 (by decide) (fun _ => ?_) (fun c => False.elim (by revert c; decide))
    refine lv_aload_n hx hb dX11_beam_13 rfl (lv_at hl 0 rfl) ?_
    refine m_getr hx hb hts hown hW (0) 0 (1) rfl rfl cw_11 rfl (by decide) k_X11_10 dX11_beam_14 ?_
    refine lv_iload_n hx hb dX11_beam_17 rfl (lv_at hl 1 rfl) ?_
    refine m_puti hx hb hts hown hW (1) 4 rfl rfl cw_10 tyX10_ok nmX10 rfl (by decide) k_X11_89 rfl rfl rfl dX11_beam_18 (fun H locs hW _ => ?_)
    generalize hμ2 : m_si μ (1) 4 k = μ2 at hW
    have hI := hI.si0 hμ2 rfl hS1
    refine lv_aload_n hx hb dX11_beam_21 rfl (lv_at hl 0 rfl) ?_
    refine m_getr hx hb hts hown hW (0) 0 (1) rfl rfl cw_11 rfl (by decide) k_X11_10 dX11_beam_22 ?_
    refine lv_iload_n hx hb dX11_beam_25 rfl (lv_at hl 2 rfl) ?_
    refine m_puti hx hb hts hown hW (1) 5 rfl rfl cw_10 tyX10_ok nmX10 rfl (by decide) k_X11_92 rfl (m_nb (m_b01 (by omega))) (m_nbf (m_b01 (by omega))) dX11_beam_26 (fun H locs hW _ => ?_)
    generalize hμ3 : m_si μ2 (1) 5 u = μ3 at hW
    have hI := hI.si1 hμ3 rfl (by omega) hS1
    refine lv_iconst (v := 1) hx hb dX11_beam_29 (by decide) ?_
    exact m_iret hx hb hr hlocks hW (by decide) (⟨hI, Or.inl ⟨rfl, by omega⟩⟩) dX11_beam_30
  · refine lv_if_ne (tgt := 13) hx hb dX11_beam_8 (by decide) (fun c => False.elim (by revert c; decide)) (fun _ => ?_)
    refine lv_iconst (v := 0) hx hb dX11_beam_11 (by decide) ?_
    exact m_iret hx hb hr hlocks hW (by decide) (⟨hI, Or.inr ⟨rfl, by omega⟩⟩) dX11_beam_12
set_option maxHeartbeats 4000000 in
set_option maxRecDepth 100000 in
theorem g_X11_pitch (l : Launch) (D : va_G) (cy : Nat → ClassId) (b : Nat) (S : Nat → Bool) (μ0 : mM) (hS1 : S 1 = true) (k : Int32) (μ : mM) (hI : IY S μ0 μ) : m_Ci l yX11_pitch cX11_pitch 2 ((some .boolean)) 1 D cy b LAY μ [.ref (b + 0), .int k] (fun r ν => IY S μ0 ν ∧ ((r = 1 ∧ (2 ≤ k.toInt ∧ k.toInt ≤ 9)) ∨ (r = 0 ∧ (¬ (2 ≤ k.toInt ∧ k.toInt ≤ 9))))) := by
  unfold m_Ci
  refine m_of (by decide) (Nat.le_of_ble_eq_true rfl) ?_
  intro p e s m below meth c hx hb hr hml hown hts hlocks _ hW ls hl
  have hown : s.vm.findClass RX11 = some m.cls := hown
  have hl : lv_has ls 2 [(0, .ref (b + 0)), (1, .int k)] := hl
  refine lv_iload_n hx hb dX11_pitch_0 rfl (lv_at hl 1 rfl) ?_
  refine lv_iconst (v := 2) hx hb dX11_pitch_1 (by decide) ?_
  refine lv_bipush (v := 9) hx hb dX11_pitch_2 (by decide) ?_
  have l_2 : (2 : Int32).toInt = 2 := by decide
  have l_9 : (9 : Int32).toInt = 9 := by decide
  refine m_aI hW (m_runS (As := [.int k, .int 2, .int 9]) (rest := []) hx hb hml hown hts hW (g_X11_within l D cy b k 2 9 μ hI.1) ms_X11_within k_X11_81 rfl hl.1 rfl (Nat.le_of_ble_eq_true rfl) dX11_pitch_4 ⟨Nat.le_of_ble_eq_true rfl, Nat.le_of_ble_eq_true rfl⟩ ⟨Nat.le_of_ble_eq_true rfl, Nat.le_of_ble_eq_true rfl⟩) (fun x1 μ1 H locs q1 hW => ?_)
  obtain ⟨q1_m, q1⟩ := q1
  subst q1_m
  rcases q1 with ⟨rfl, q1⟩ | ⟨rfl, q1⟩
  · refine lv_if_ne (tgt := 12) hx hb dX11_pitch_7 (by decide) (fun _ => ?_) (fun c => False.elim (by revert c; decide))
    refine lv_aload_n hx hb dX11_pitch_12 rfl (lv_at hl 0 rfl) ?_
    refine m_getr hx hb hts hown hW (0) 0 (1) rfl rfl cw_11 rfl (by decide) k_X11_10 dX11_pitch_13 ?_
    refine lv_iload_n hx hb dX11_pitch_16 rfl (lv_at hl 1 rfl) ?_
    refine m_puti hx hb hts hown hW (1) 6 rfl rfl cw_10 tyX10_ok nmX10 rfl (by decide) k_X11_96 rfl rfl rfl dX11_pitch_17 (fun H locs hW _ => ?_)
    generalize hμ2 : m_si μ (1) 6 k = μ2 at hW
    have hI := hI.si0 hμ2 rfl hS1
    refine lv_iconst (v := 1) hx hb dX11_pitch_20 (by decide) ?_
    exact m_iret hx hb hr hlocks hW (by decide) (⟨hI, Or.inl ⟨rfl, by omega⟩⟩) dX11_pitch_21
  · refine lv_if_ne (tgt := 12) hx hb dX11_pitch_7 (by decide) (fun c => False.elim (by revert c; decide)) (fun _ => ?_)
    refine lv_iconst (v := 0) hx hb dX11_pitch_10 (by decide) ?_
    exact m_iret hx hb hr hlocks hW (by decide) (⟨hI, Or.inr ⟨rfl, by omega⟩⟩) dX11_pitch_11
set_option maxHeartbeats 4000000 in
set_option maxRecDepth 100000 in
theorem g_X11_feed (l : Launch) (D : va_G) (cy : Nat → ClassId) (b : Nat) (S : Nat → Bool) (μ0 : mM) (hS3 : S 3 = true) (k u v w z : Int32) (μ : mM) (hI : IY S μ0 μ) : m_Ci l yX11_feed cX11_feed 6 ((some .int)) 2 D cy b LAY μ [.ref (b + 0), .int k, .int u, .int v, .int w, .int z] (fun r ν => IY S μ0 ν ∧ (True)) := by
  unfold m_Ci
  refine m_of (by decide) (Nat.le_of_ble_eq_true rfl) ?_
  intro p e s m below meth c hx hb hr hml hown hts hlocks _ hW ls hl
  have hown : s.vm.findClass RX11 = some m.cls := hown
  have hl : lv_has ls 6 [(0, .ref (b + 0)), (1, .int k), (2, .int u), (3, .int v), (4, .int w), (5, .int z)] := hl
  refine lv_aload_n hx hb dX11_feed_0 rfl (lv_at hl 0 rfl) ?_
  refine m_getr hx hb hts hown hW (0) 1 (23) rfl rfl cw_11 rfl (by decide) k_X11_21 dX11_feed_1 ?_
  refine m_geti hx hb hts hown hW (23) 1 rfl rfl cw_5 rfl (by decide) k_X11_99 dX11_feed_4 ?_
  refine lv_topi (fun x1 ex1 => ?_)
  have bx1 : 0 ≤ x1.toInt ∧ x1.toInt ≤ 400 := by rw [ex1]; exact hI.1 _ _ _ _ rfl
  refine lv_bipush (v := 20) hx hb dX11_feed_7 (by decide) ?_
  refine lv_iadd hx hb dX11_feed_9 ?_
  refine lv_topi (fun x2 ex2 => ?_)
  have tx2 : x2.toInt = x1.toInt + 20 := m_addI ex2 (rfl : x1.toInt = _) (by decide : (20 : Int32).toInt = 20) (by omega) (by omega)
  refine lv_sipush (v := 400) hx hb dX11_feed_10 (by decide) ?_
  refine lv_icmp_le (tgt := 18) hx hb dX11_feed_13 (by decide) (fun c3 => ?_) (fun c3 => ?_)
  · have i3 := m_c3 (rfl : x2.toInt = _) (by decide : (400 : Int32).toInt = 400) c3
    refine lv_aload_n hx hb dX11_feed_18 rfl (lv_at hl 0 rfl) ?_
    refine m_getr hx hb hts hown hW (0) 1 (23) rfl rfl cw_11 rfl (by decide) k_X11_21 dX11_feed_19 ?_
    refine lv_iload_n hx hb dX11_feed_22 rfl (lv_at hl 1 rfl) ?_
    refine m_aV hW (m_runV (As := [.int k]) (rest := []) hx hb hml hown hts hW (23) (g_X5_addBytes l D cy b S μ0 23 24 400 rfl rfl (by decide) rfl (fun _ => rfl) hS3 (fun _ => hS3) k μ hI) mi_X5_addBytes k_X11_102 rfl rfl rfl hl.1 rfl (Nat.le_of_ble_eq_true rfl) dX11_feed_23 ⟨Nat.le_of_ble_eq_true rfl, Nat.le_of_ble_eq_true rfl⟩ ⟨Nat.le_of_ble_eq_true rfl, Nat.le_of_ble_eq_true rfl⟩) (fun μ4 H locs q4 hW => ?_)
    obtain ⟨hI, q4⟩ := q4
    refine lv_aload_n hx hb dX11_feed_26 rfl (lv_at hl 0 rfl) ?_
    refine m_getr hx hb hts hown hW (0) 1 (23) rfl rfl cw_11 rfl (by decide) k_X11_21 dX11_feed_27 ?_
    refine lv_iload_n hx hb dX11_feed_30 rfl (lv_at hl 2 rfl) ?_
    refine m_aV hW (m_runV (As := [.int u]) (rest := []) hx hb hml hown hts hW (23) (g_X5_addBytes l D cy b S μ0 23 24 400 rfl rfl (by decide) rfl (fun _ => rfl) hS3 (fun _ => hS3) u μ4 hI) mi_X5_addBytes k_X11_102 rfl rfl rfl hl.1 rfl (Nat.le_of_ble_eq_true rfl) dX11_feed_31 ⟨Nat.le_of_ble_eq_true rfl, Nat.le_of_ble_eq_true rfl⟩ ⟨Nat.le_of_ble_eq_true rfl, Nat.le_of_ble_eq_true rfl⟩) (fun μ5 H locs q5 hW => ?_)
    obtain ⟨hI, q5⟩ := q5
    refine lv_aload_n hx hb dX11_feed_34 rfl (lv_at hl 0 rfl) ?_
    refine m_getr hx hb hts hown hW (0) 1 (23) rfl rfl cw_11 rfl (by decide) k_X11_21 dX11_feed_35 ?_
    refine lv_iload_n hx hb dX11_feed_38 rfl (lv_at hl 3 rfl) ?_
    refine m_aV hW (m_runV (As := [.int v]) (rest := []) hx hb hml hown hts hW (23) (g_X5_addBytes l D cy b S μ0 23 24 400 rfl rfl (by decide) rfl (fun _ => rfl) hS3 (fun _ => hS3) v μ5 hI) mi_X5_addBytes k_X11_102 rfl rfl rfl hl.1 rfl (Nat.le_of_ble_eq_true rfl) dX11_feed_39 ⟨Nat.le_of_ble_eq_true rfl, Nat.le_of_ble_eq_true rfl⟩ ⟨Nat.le_of_ble_eq_true rfl, Nat.le_of_ble_eq_true rfl⟩) (fun μ6 H locs q6 hW => ?_)
    obtain ⟨hI, q6⟩ := q6
    refine lv_aload_n hx hb dX11_feed_42 rfl (lv_at hl 0 rfl) ?_
    refine m_getr hx hb hts hown hW (0) 1 (23) rfl rfl cw_11 rfl (by decide) k_X11_21 dX11_feed_43 ?_
    refine lv_iload hx hb dX11_feed_46 (lv_at hl 4 rfl) ?_
    refine m_aV hW (m_runV (As := [.int w]) (rest := []) hx hb hml hown hts hW (23) (g_X5_addBytes l D cy b S μ0 23 24 400 rfl rfl (by decide) rfl (fun _ => rfl) hS3 (fun _ => hS3) w μ6 hI) mi_X5_addBytes k_X11_102 rfl rfl rfl hl.1 rfl (Nat.le_of_ble_eq_true rfl) dX11_feed_48 ⟨Nat.le_of_ble_eq_true rfl, Nat.le_of_ble_eq_true rfl⟩ ⟨Nat.le_of_ble_eq_true rfl, Nat.le_of_ble_eq_true rfl⟩) (fun μ7 H locs q7 hW => ?_)
    obtain ⟨hI, q7⟩ := q7
    refine lv_aload_n hx hb dX11_feed_51 rfl (lv_at hl 0 rfl) ?_
    refine m_getr hx hb hts hown hW (0) 1 (23) rfl rfl cw_11 rfl (by decide) k_X11_21 dX11_feed_52 ?_
    refine lv_iload hx hb dX11_feed_55 (lv_at hl 5 rfl) ?_
    refine m_aV hW (m_runV (As := [.int z]) (rest := []) hx hb hml hown hts hW (23) (g_X5_addBytes l D cy b S μ0 23 24 400 rfl rfl (by decide) rfl (fun _ => rfl) hS3 (fun _ => hS3) z μ7 hI) mi_X5_addBytes k_X11_102 rfl rfl rfl hl.1 rfl (Nat.le_of_ble_eq_true rfl) dX11_feed_57 ⟨Nat.le_of_ble_eq_true rfl, Nat.le_of_ble_eq_true rfl⟩ ⟨Nat.le_of_ble_eq_true rfl, Nat.le_of_ble_eq_true rfl⟩) (fun μ8 H locs q8 hW => ?_)
    obtain ⟨hI, q8⟩ := q8
    refine lv_aload_n hx hb dX11_feed_60 rfl (lv_at hl 0 rfl) ?_
    refine m_getr hx hb hts hown hW (0) 1 (23) rfl rfl cw_11 rfl (by decide) k_X11_21 dX11_feed_61 ?_
    refine m_geti hx hb hts hown hW (23) 1 rfl rfl cw_5 rfl (by decide) k_X11_99 dX11_feed_64 ?_
    refine lv_topi (fun x9 ex9 => ?_)
    have bx9 : 0 ≤ x9.toInt ∧ x9.toInt ≤ 400 := by rw [ex9]; exact hI.1 _ _ _ _ rfl
    exact m_iret hx hb hr hlocks hW rfl (⟨hI, trivial⟩) dX11_feed_67
  · have i3 := m_c4 (rfl : x2.toInt = _) (by decide : (400 : Int32).toInt = 400) c3
    refine lv_iconst (v := (-1)) hx hb dX11_feed_16 (by decide) ?_
    exact m_iret hx hb hr hlocks hW rfl (⟨hI, trivial⟩) dX11_feed_17
set_option maxHeartbeats 4000000 in
set_option maxRecDepth 100000 in
theorem g_X11_end (l : Launch) (D : va_G) (cy : Nat → ClassId) (b : Nat) (S : Nat → Bool) (μ0 : mM) (hS3 : S 3 = true) (k : Int32) (μ : mM) (hI : IY S μ0 μ) : m_Ci l yX11_end cX11_end 2 ((some .boolean)) 1 D cy b LAY μ [.ref (b + 0), .int k] (fun r ν => IY S μ0 ν ∧ ((r = 1 ∧ (True)) ∨ (r = 0 ∧ (True)))) := by
  unfold m_Ci
  refine m_of (by decide) (Nat.le_of_ble_eq_true rfl) ?_
  intro p e s m below meth c hx hb hr hml hown hts hlocks _ hW ls hl
  have hown : s.vm.findClass RX11 = some m.cls := hown
  have hl : lv_has ls 2 [(0, .ref (b + 0)), (1, .int k)] := hl
  refine lv_iload_n hx hb dX11_end_0 rfl (lv_at hl 1 rfl) ?_
  refine lv_iconst (v := 0) hx hb dX11_end_1 (by decide) ?_
  refine lv_aload_n hx hb dX11_end_2 rfl (lv_at hl 0 rfl) ?_
  refine m_getr hx hb hts hown hW (0) 1 (23) rfl rfl cw_11 rfl (by decide) k_X11_21 dX11_end_3 ?_
  refine m_geti hx hb hts hown hW (23) 1 rfl rfl cw_5 rfl (by decide) k_X11_99 dX11_end_6 ?_
  refine lv_topi (fun x1 ex1 => ?_)
  have bx1 : 0 ≤ x1.toInt ∧ x1.toInt ≤ 400 := by rw [ex1]; exact hI.1 _ _ _ _ rfl
  have l_0 : (0 : Int32).toInt = 0 := by decide
  refine m_aI hW (m_runS (As := [.int k, .int 0, .int x1]) (rest := []) hx hb hml hown hts hW (g_X11_within l D cy b k 0 x1 μ hI.1) ms_X11_within k_X11_81 rfl hl.1 rfl (Nat.le_of_ble_eq_true rfl) dX11_end_9 ⟨Nat.le_of_ble_eq_true rfl, Nat.le_of_ble_eq_true rfl⟩ ⟨Nat.le_of_ble_eq_true rfl, Nat.le_of_ble_eq_true rfl⟩) (fun x2 μ2 H locs q2 hW => ?_)
  obtain ⟨q2_m, q2⟩ := q2
  subst q2_m
  rcases q2 with ⟨rfl, q2⟩ | ⟨rfl, q2⟩
  · refine lv_if_ne (tgt := 17) hx hb dX11_end_12 (by decide) (fun _ => ?_) (fun c => False.elim (by revert c; decide))
    refine lv_aload_n hx hb dX11_end_17 rfl (lv_at hl 0 rfl) ?_
    refine m_getr hx hb hts hown hW (0) 1 (23) rfl rfl cw_11 rfl (by decide) k_X11_21 dX11_end_18 ?_
    refine lv_iload_n hx hb dX11_end_21 rfl (lv_at hl 1 rfl) ?_
    refine m_puti hx hb hts hown hW (23) 1 rfl rfl cw_5 tyX5_ok nmX5 rfl (by decide) k_X11_99 rfl rfl rfl dX11_end_22 (fun H locs hW _ => ?_)
    generalize hμ3 : m_si μ (23) 1 k = μ3 at hW
    have hI := hI.si1 hμ3 rfl (by omega) hS3
    refine lv_iconst (v := 1) hx hb dX11_end_25 (by decide) ?_
    exact m_iret hx hb hr hlocks hW (by decide) (⟨hI, Or.inl ⟨rfl, trivial⟩⟩) dX11_end_26
  · refine lv_if_ne (tgt := 17) hx hb dX11_end_12 (by decide) (fun c => False.elim (by revert c; decide)) (fun _ => ?_)
    refine lv_iconst (v := 0) hx hb dX11_end_15 (by decide) ?_
    exact m_iret hx hb hr hlocks hW (by decide) (⟨hI, Or.inr ⟨rfl, trivial⟩⟩) dX11_end_16
set_option maxHeartbeats 4000000 in
set_option maxRecDepth 100000 in
theorem g_X11_fault (l : Launch) (D : va_G) (cy : Nat → ClassId) (b : Nat) (k : Int32) (μ : mM) (hI : IX μ) : m_Ci l yX11_fault cX11_fault 2 ((some .int)) 0 D cy b LAY μ [.ref (b + 0), .int k] (fun r ν => μ = ν ∧ (True)) := by
  unfold m_Ci
  refine m_of (by decide) (Nat.le_of_ble_eq_true rfl) ?_
  intro p e s m below meth c hx hb hr hml hown hts hlocks _ hW ls hl
  have hown : s.vm.findClass RX11 = some m.cls := hown
  have hl : lv_has ls 2 [(0, .ref (b + 0)), (1, .int k)] := hl
  refine lv_iload_n hx hb dX11_fault_0 rfl (lv_at hl 1 rfl) ?_
  by_cases c1_0 : k.toInt = 0
  · refine lv_lookup (off := 27) (tgt := 28) hx hb dX11_fault_1 (by decide) (by rw [c1_0]; rfl) (by decide) ?_
    refine lv_aload_n hx hb dX11_fault_28 rfl (lv_at hl 0 rfl) ?_
    refine m_geti hx hb hts hown hW (0) 9 rfl rfl cw_11 rfl (by decide) k_X11_70 dX11_fault_29 ?_
    refine lv_topi (fun x2 ex2 => ?_)
    exact m_iret hx hb hr hlocks hW rfl (⟨rfl, trivial⟩) dX11_fault_32
  by_cases c1_1 : k.toInt = 1
  · refine lv_lookup (off := 32) (tgt := 33) hx hb dX11_fault_1 (by decide) (by rw [c1_1]; rfl) (by decide) ?_
    refine lv_aload_n hx hb dX11_fault_33 rfl (lv_at hl 0 rfl) ?_
    refine m_geti hx hb hts hown hW (0) 10 rfl rfl cw_11 rfl (by decide) k_X11_74 dX11_fault_34 ?_
    refine lv_topi (fun x3 ex3 => ?_)
    exact m_iret hx hb hr hlocks hW rfl (⟨rfl, trivial⟩) dX11_fault_37
  refine lv_lookup (off := 37) (tgt := 38) hx hb dX11_fault_1 (by decide) (by simp [Op.lookupswitch.offset_cons, Op.lookupswitch.offset_nil, Ne.symm c1_0, Ne.symm c1_1]) (by decide) ?_
  refine lv_iconst (v := (-1)) hx hb dX11_fault_38 (by decide) ?_
  exact m_iret hx hb hr hlocks hW rfl (⟨rfl, trivial⟩) dX11_fault_39
set_option maxHeartbeats 4000000 in
set_option maxRecDepth 100000 in
theorem g_X11_run (l : Launch) (D : va_G) (cy : Nat → ClassId) (b : Nat) (S : Nat → Bool) (μ0 : mM) (hS6 : S 6 = true) (hS7 : S 7 = true) (k : Int32) (μ : mM) (hI : IY S μ0 μ) : m_Ci l yX11_run cX11_run 3 ((some .int)) 6 D cy b LAY μ [.ref (b + 0), .int k] (fun r ν => IY S μ0 ν ∧ (True)) := by
  unfold m_Ci
  refine m_of (by decide) (Nat.le_of_ble_eq_true rfl) ?_
  intro p e s m below meth c hx hb hr hml hown hts hlocks _ hW ls hl
  have hown : s.vm.findClass RX11 = some m.cls := hown
  have hl : lv_has ls 3 [(0, .ref (b + 0)), (1, .int k)] := hl
  refine lv_aload_n hx hb dX11_run_0 rfl (lv_at hl 0 rfl) ?_
  refine m_getr hx hb hts hown hW (0) 0 (1) rfl rfl cw_11 rfl (by decide) k_X11_10 dX11_run_1 ?_
  refine lv_iload_n hx hb dX11_run_4 rfl (lv_at hl 1 rfl) ?_
  refine m_aQ hW (m_runV (As := [.int k]) (rest := []) hx hb hml hown hts hW (1) (g_X10_programOf l D cy b k μ hI.1) mi_X10_programOf k_X11_105 rfl rfl rfl hl.1 rfl (Nat.le_of_ble_eq_true rfl) dX11_run_5 ⟨Nat.le_of_ble_eq_true rfl, Nat.le_of_ble_eq_true rfl⟩ ⟨Nat.le_of_ble_eq_true rfl, Nat.le_of_ble_eq_true rfl⟩) (fun μ1 H locs q1 hW => ?_) (fun r1 μ1 H locs q1 hW => ?_)
  · obtain ⟨q1_m, q1⟩ := q1
    subst q1_m
    refine lv_astore_nN (lv' := [(2, .null), (0, .ref (b + 0)), (1, .int k)]) hx hb dX11_run_8 rfl hl (by decide) rfl (fun ls hl => ?_)
    refine lv_aload_nN hx hb dX11_run_9 rfl (lv_at hl 0 rfl) ?_
    refine lv_ifnullN (tgt := 23) hx hb dX11_run_10 (by decide) ?_
    refine lv_iconst (v := (-1)) hx hb dX11_run_23 (by decide) ?_
    exact m_iret hx hb hr hlocks hW rfl (⟨hI, trivial⟩) dX11_run_24
  · obtain ⟨q1_m, q1⟩ := q1
    subst q1_m
    obtain ⟨n1, ra1, q1⟩ : ∃ n, n < 8 ∧ r1 = 7 + 2 * n := by
      rcases q1 with ⟨z, _⟩ | ⟨n, h, z⟩
      · cases z
      · exact ⟨n, h, Option.some.inj z⟩
    subst q1
    obtain ⟨rb1, rc1, rd1, re1, rf1, rg1, rh1⟩ := m_rows n1 ra1
    refine lv_astore_n (lv' := [(2, .ref (b + (7 + 2 * n1))), (0, .ref (b + 0)), (1, .int k)]) hx hb dX11_run_8 rfl hl (by decide) rfl (fun ls hl => ?_)
    refine lv_aload_n hx hb dX11_run_9 rfl (lv_at hl 0 rfl) ?_
    refine lv_ifnull hx hb dX11_run_10 ?_
    refine lv_aload_n hx hb dX11_run_13 rfl (lv_at hl 1 rfl) ?_
    refine m_getr hx hb hts hown hW (0) 4 (41) rfl rfl cw_11 rfl (by decide) k_X11_38 dX11_run_14 ?_
    refine m_aI hW (m_runV (As := []) (rest := []) hx hb hml hown hts hW (41) (g_X3_isLaid_41 l D cy b μ hI.1) mi_X3_isLaid k_X11_124 rfl rfl rfl hl.1 rfl (Nat.le_of_ble_eq_true rfl) dX11_run_17 ⟨Nat.le_of_ble_eq_true rfl, Nat.le_of_ble_eq_true rfl⟩ ⟨Nat.le_of_ble_eq_true rfl, Nat.le_of_ble_eq_true rfl⟩) (fun x2 μ2 H locs q2 hW => ?_)
    obtain ⟨q2_m, q2⟩ := q2
    subst q2_m
    rcases q2 with ⟨rfl, q2⟩ | ⟨rfl, q2⟩
    · refine lv_if_ne (tgt := 25) hx hb dX11_run_20 (by decide) (fun _ => ?_) (fun c => False.elim (by revert c; decide))
      refine lv_aload_n hx hb dX11_run_25 rfl (lv_at hl 1 rfl) ?_
      refine m_getr hx hb hts hown hW (0) 5 (52) rfl rfl cw_11 rfl (by decide) k_X11_45 dX11_run_26 ?_
      refine lv_aload_n hx hb dX11_run_29 rfl (lv_at hl 0 rfl) ?_
      refine lv_aload_n hx hb dX11_run_30 rfl (lv_at hl 1 rfl) ?_
      refine m_getr hx hb hts hown hW (0) 4 (41) rfl rfl cw_11 rfl (by decide) k_X11_38 dX11_run_31 ?_
      refine lv_aload_n hx hb dX11_run_34 rfl (lv_at hl 1 rfl) ?_
      refine m_getr hx hb hts hown hW (0) 0 (1) rfl rfl cw_11 rfl (by decide) k_X11_10 dX11_run_35 ?_
      refine m_aI hW (m_runV (As := [.ref (b + (7 + 2 * n1)), .ref (b + 41), .ref (b + 1)]) (rest := []) hx hb hml hown hts hW (52) (g_X6_perform_52 l D cy b S μ0 hS6 hS7 (7 + 2 * n1) (7 + 2 * n1 + 1) 800 rc1 rd1 (by decide) re1 rf1 μ hI) mi_X6_perform k_X11_128 rfl rfl rfl hl.1 rfl (Nat.le_of_ble_eq_true rfl) dX11_run_38 ⟨Nat.le_of_ble_eq_true rfl, Nat.le_of_ble_eq_true rfl⟩ ⟨Nat.le_of_ble_eq_true rfl, Nat.le_of_ble_eq_true rfl⟩) (fun x3 μ3 H locs q3 hW => ?_)
      obtain ⟨hI, q3⟩ := q3
      exact m_iret hx hb hr hlocks hW rfl (⟨hI, trivial⟩) dX11_run_41
    · refine lv_if_ne (tgt := 25) hx hb dX11_run_20 (by decide) (fun c => False.elim (by revert c; decide)) (fun _ => ?_)
      refine lv_iconst (v := (-1)) hx hb dX11_run_23 (by decide) ?_
      exact m_iret hx hb hr hlocks hW rfl (⟨hI, trivial⟩) dX11_run_24
set_option maxHeartbeats 4000000 in
set_option maxRecDepth 100000 in
theorem g_X11_cell (l : Launch) (D : va_G) (cy : Nat → ClassId) (b : Nat) (S : Nat → Bool) (μ0 : mM) (hS6 : S 6 = true) (k u v : Int32) (μ : mM) (hI : IY S μ0 μ) : m_Ci l yX11_cell cX11_cell 5 ((some .int)) 4 D cy b LAY μ [.ref (b + 0), .int k, .int u, .int v] (fun r ν => IY S μ0 ν ∧ (True)) := by
  unfold m_Ci
  refine m_of (by decide) (Nat.le_of_ble_eq_true rfl) ?_
  intro p e s m below meth c hx hb hr hml hown hts hlocks _ hW ls hl
  have hown : s.vm.findClass RX11 = some m.cls := hown
  have hl : lv_has ls 5 [(0, .ref (b + 0)), (1, .int k), (2, .int u), (3, .int v)] := hl
  refine lv_aload_n hx hb dX11_cell_0 rfl (lv_at hl 0 rfl) ?_
  refine m_getr hx hb hts hown hW (0) 4 (41) rfl rfl cw_11 rfl (by decide) k_X11_38 dX11_cell_1 ?_
  refine lv_iload_n hx hb dX11_cell_4 rfl (lv_at hl 1 rfl) ?_
  refine lv_iload_n hx hb dX11_cell_5 rfl (lv_at hl 2 rfl) ?_
  refine m_aI hW (m_runV (As := [.int k, .int u]) (rest := []) hx hb hml hown hts hW (41) (g_X3_has_41 l D cy b k u μ hI.1) mi_X3_has k_X11_132 rfl rfl rfl hl.1 rfl (Nat.le_of_ble_eq_true rfl) dX11_cell_6 ⟨Nat.le_of_ble_eq_true rfl, Nat.le_of_ble_eq_true rfl⟩ ⟨Nat.le_of_ble_eq_true rfl, Nat.le_of_ble_eq_true rfl⟩) (fun x1 μ1 H locs q1 hW => ?_)
  obtain ⟨q1_m, q1⟩ := q1
  subst q1_m
  rcases q1 with ⟨rfl, q1⟩ | ⟨rfl, q1⟩
  · refine lv_if_ne (tgt := 14) hx hb dX11_cell_9 (by decide) (fun _ => ?_) (fun c => False.elim (by revert c; decide))
    refine lv_aload_n hx hb dX11_cell_14 rfl (lv_at hl 0 rfl) ?_
    refine m_getr hx hb hts hown hW (0) 4 (41) rfl rfl cw_11 rfl (by decide) k_X11_38 dX11_cell_15 ?_
    refine lv_iload_n hx hb dX11_cell_18 rfl (lv_at hl 1 rfl) ?_
    refine lv_iload_n hx hb dX11_cell_19 rfl (lv_at hl 2 rfl) ?_
    refine m_aI hW (m_runV (As := [.int k, .int u]) (rest := []) hx hb hml hown hts hW (41) (g_X3_index_41b l D cy b k u (by omega) (by omega) μ hI.1) mi_X3_index k_X11_136 rfl rfl rfl hl.1 rfl (Nat.le_of_ble_eq_true rfl) dX11_cell_20 ⟨Nat.le_of_ble_eq_true rfl, Nat.le_of_ble_eq_true rfl⟩ ⟨Nat.le_of_ble_eq_true rfl, Nat.le_of_ble_eq_true rfl⟩) (fun x2 μ2 H locs q2 hW => ?_)
    obtain ⟨q2_m, q2⟩ := q2
    subst q2_m
    refine lv_istore (lv' := [(4, .int x2), (0, .ref (b + 0)), (1, .int k), (2, .int u), (3, .int v)]) hx hb dX11_cell_23 hl (by decide) rfl (fun ls hl => ?_)
    refine lv_iload_n hx hb dX11_cell_25 rfl (lv_at hl 4 rfl) ?_
    by_cases c3 : v.toInt < 0 ∨ 5 < v.toInt
    · refine lv_tableOut (tgt := 156) hx hb dX11_cell_26 c3 (by decide) ?_
      refine lv_iconst (v := (-1)) hx hb dX11_cell_156 (by decide) ?_
      exact m_iret hx hb hr hlocks hW rfl (⟨hI, trivial⟩) dX11_cell_157
    · have q3 : v.toInt = 0 ∨ v.toInt = 1 ∨ v.toInt = 2 ∨ v.toInt = 3 ∨ v.toInt = 4 ∨ v.toInt = 5 := by omega
      rcases q3 with q3 | q3 | q3 | q3 | q3 | q3
      · refine lv_tableIn (off := 38) (tgt := 64) hx hb dX11_cell_26 (fun z => c3 (Or.inl z)) (fun z => c3 (Or.inr z)) (by rw [q3]; rfl) (by decide) ?_
        refine lv_aload_n hx hb dX11_cell_64 rfl (lv_at hl 1 rfl) ?_
        refine m_getr hx hb hts hown hW (0) 4 (41) rfl rfl cw_11 rfl (by decide) k_X11_38 dX11_cell_65 ?_
        refine m_getr hx hb hts hown hW (41) 11 (43) rfl rfl cw_3 rfl (by decide) k_X11_140 dX11_cell_68 ?_
        refine lv_iload hx hb dX11_cell_71 (lv_at hl 0 rfl) ?_
        refine m_iald hx hb hW (43) rfl (m_ixI (rfl : x2.toInt = _) (by omega) (by omega)) dX11_cell_73 ?_
        refine lv_topi (fun x4 ex4 => ?_)
        exact m_iret hx hb hr hlocks hW rfl (⟨hI, trivial⟩) dX11_cell_74
      · refine lv_tableIn (off := 49) (tgt := 75) hx hb dX11_cell_26 (fun z => c3 (Or.inl z)) (fun z => c3 (Or.inr z)) (by rw [q3]; rfl) (by decide) ?_
        refine lv_aload_n hx hb dX11_cell_75 rfl (lv_at hl 1 rfl) ?_
        refine m_getr hx hb hts hown hW (0) 4 (41) rfl rfl cw_11 rfl (by decide) k_X11_38 dX11_cell_76 ?_
        refine lv_iload hx hb dX11_cell_79 (lv_at hl 0 rfl) ?_
        refine m_aI hW (m_runV (As := [.int x2]) (rest := []) hx hb hml hown hts hW (41) (g_X3_condition_41 l D cy b x2 (by omega) μ hI.1) mi_X3_condition k_X11_144 rfl rfl rfl hl.1 rfl (Nat.le_of_ble_eq_true rfl) dX11_cell_81 ⟨Nat.le_of_ble_eq_true rfl, Nat.le_of_ble_eq_true rfl⟩ ⟨Nat.le_of_ble_eq_true rfl, Nat.le_of_ble_eq_true rfl⟩) (fun x5 μ5 H locs q5 hW => ?_)
        obtain ⟨q5_m, q5⟩ := q5
        subst q5_m
        exact m_iret hx hb hr hlocks hW rfl (⟨hI, trivial⟩) dX11_cell_84
      · refine lv_tableIn (off := 59) (tgt := 85) hx hb dX11_cell_26 (fun z => c3 (Or.inl z)) (fun z => c3 (Or.inr z)) (by rw [q3]; rfl) (by decide) ?_
        refine lv_aload_n hx hb dX11_cell_85 rfl (lv_at hl 1 rfl) ?_
        refine m_getr hx hb hts hown hW (0) 4 (41) rfl rfl cw_11 rfl (by decide) k_X11_38 dX11_cell_86 ?_
        refine m_getr hx hb hts hown hW (41) 13 (45) rfl rfl cw_3 rfl (by decide) k_X11_148 dX11_cell_89 ?_
        refine lv_iload hx hb dX11_cell_92 (lv_at hl 0 rfl) ?_
        refine m_iald hx hb hW (45) rfl (m_ixI (rfl : x2.toInt = _) (by omega) (by omega)) dX11_cell_94 ?_
        refine lv_topi (fun x6 ex6 => ?_)
        exact m_iret hx hb hr hlocks hW rfl (⟨hI, trivial⟩) dX11_cell_95
      · refine lv_tableIn (off := 70) (tgt := 96) hx hb dX11_cell_26 (fun z => c3 (Or.inl z)) (fun z => c3 (Or.inr z)) (by rw [q3]; rfl) (by decide) ?_
        refine lv_aload_n hx hb dX11_cell_96 rfl (lv_at hl 1 rfl) ?_
        refine m_getr hx hb hts hown hW (0) 4 (41) rfl rfl cw_11 rfl (by decide) k_X11_38 dX11_cell_97 ?_
        refine lv_iload hx hb dX11_cell_100 (lv_at hl 0 rfl) ?_
        refine m_aQ hW (m_runV (As := [.int x2]) (rest := []) hx hb hml hown hts hW (41) (g_X3_partAt_41 l D cy b S μ0 hS6 x2 μ hI) mi_X3_partAt k_X11_151 rfl rfl rfl hl.1 rfl (Nat.le_of_ble_eq_true rfl) dX11_cell_102 ⟨Nat.le_of_ble_eq_true rfl, Nat.le_of_ble_eq_true rfl⟩ ⟨Nat.le_of_ble_eq_true rfl, Nat.le_of_ble_eq_true rfl⟩) (fun μ7 H locs q7 hW => by cases q7.2) (fun r7 μ7 H locs q7 hW => ?_)
        obtain ⟨hI, q7⟩ := q7
        obtain rfl := Option.some.inj q7
        refine m_geti hx hb hts hown hW (49) 2 rfl rfl cw_2 rfl (by decide) k_X11_155 dX11_cell_105 ?_
        refine lv_topi (fun x8 ex8 => ?_)
        have bx8 : 0 ≤ x8.toInt ∧ x8.toInt ≤ 192 := by rw [ex8]; exact hI.1 _ _ _ _ rfl
        exact m_iret hx hb hr hlocks hW rfl (⟨hI, trivial⟩) dX11_cell_108
      · refine lv_tableIn (off := 83) (tgt := 109) hx hb dX11_cell_26 (fun z => c3 (Or.inl z)) (fun z => c3 (Or.inr z)) (by rw [q3]; rfl) (by decide) ?_
        refine lv_aload_n hx hb dX11_cell_109 rfl (lv_at hl 1 rfl) ?_
        refine m_getr hx hb hts hown hW (0) 4 (41) rfl rfl cw_11 rfl (by decide) k_X11_38 dX11_cell_110 ?_
        refine lv_iload hx hb dX11_cell_113 (lv_at hl 0 rfl) ?_
        refine m_aQ hW (m_runV (As := [.int x2]) (rest := []) hx hb hml hown hts hW (41) (g_X3_partAt_41 l D cy b S μ0 hS6 x2 μ hI) mi_X3_partAt k_X11_151 rfl rfl rfl hl.1 rfl (Nat.le_of_ble_eq_true rfl) dX11_cell_115 ⟨Nat.le_of_ble_eq_true rfl, Nat.le_of_ble_eq_true rfl⟩ ⟨Nat.le_of_ble_eq_true rfl, Nat.le_of_ble_eq_true rfl⟩) (fun μ9 H locs q9 hW => by cases q9.2) (fun r9 μ9 H locs q9 hW => ?_)
        obtain ⟨hI, q9⟩ := q9
        obtain rfl := Option.some.inj q9
        refine m_geti hx hb hts hown hW (49) 4 rfl rfl cw_2 rfl (by decide) k_X11_158 dX11_cell_118 ?_
        refine lv_topi (fun x10 ex10 => ?_)
        have bx10 : 0 ≤ x10.toInt ∧ x10.toInt ≤ 1 := by rw [ex10]; exact hI.1 _ _ _ _ rfl
        refine lv_if_eq (tgt := 128) hx hb dX11_cell_121 (by decide) (fun c11 => ?_) (fun c11 => ?_)
        · have i11 := m_c5 (rfl : x10.toInt = _) (by decide : (0 : Int32).toInt = 0) c11
          refine lv_iconst (v := 0) hx hb dX11_cell_128 (by decide) ?_
          exact m_iret hx hb hr hlocks hW rfl (⟨hI, trivial⟩) dX11_cell_129
        · have i11 := m_c6 (rfl : x10.toInt = _) (by decide : (0 : Int32).toInt = 0) c11
          refine lv_iconst (v := 1) hx hb dX11_cell_124 (by decide) ?_
          refine lv_goto (tgt := 129) hx hb dX11_cell_125 (by decide) ?_
          exact m_iret hx hb hr hlocks hW rfl (⟨hI, trivial⟩) dX11_cell_129
      · refine lv_tableIn (off := 104) (tgt := 130) hx hb dX11_cell_26 (fun z => c3 (Or.inl z)) (fun z => c3 (Or.inr z)) (by rw [q3]; rfl) (by decide) ?_
        refine lv_aload_n hx hb dX11_cell_130 rfl (lv_at hl 1 rfl) ?_
        refine m_getr hx hb hts hown hW (0) 4 (41) rfl rfl cw_11 rfl (by decide) k_X11_38 dX11_cell_131 ?_
        refine lv_iload hx hb dX11_cell_134 (lv_at hl 0 rfl) ?_
        refine m_aI hW (m_runV (As := [.int x2]) (rest := []) hx hb hml hown hts hW (41) (g_X3_isThere_41 l D cy b x2 μ hI.1) mi_X3_isThere k_X11_161 rfl rfl rfl hl.1 rfl (Nat.le_of_ble_eq_true rfl) dX11_cell_136 ⟨Nat.le_of_ble_eq_true rfl, Nat.le_of_ble_eq_true rfl⟩ ⟨Nat.le_of_ble_eq_true rfl, Nat.le_of_ble_eq_true rfl⟩) (fun x12 μ12 H locs q12 hW => ?_)
        obtain ⟨q12_m, q12⟩ := q12
        subst q12_m
        rcases q12 with ⟨rfl, q12⟩ | ⟨rfl, q12⟩
        · refine lv_if_eq (tgt := 154) hx hb dX11_cell_139 (by decide) (fun c => False.elim (by revert c; decide)) (fun _ => ?_)
          refine lv_aload_n hx hb dX11_cell_142 rfl (lv_at hl 1 rfl) ?_
          refine m_getr hx hb hts hown hW (0) 4 (41) rfl rfl cw_11 rfl (by decide) k_X11_38 dX11_cell_143 ?_
          refine lv_iload hx hb dX11_cell_146 (lv_at hl 0 rfl) ?_
          refine m_aI hW (m_runV (As := [.int x2]) (rest := []) hx hb hml hown hts hW (41) (g_X3_bridge_41 l D cy b S μ0 hS6 x2 μ hI) mi_X3_bridge k_X11_165 rfl rfl rfl hl.1 rfl (Nat.le_of_ble_eq_true rfl) dX11_cell_148 ⟨Nat.le_of_ble_eq_true rfl, Nat.le_of_ble_eq_true rfl⟩ ⟨Nat.le_of_ble_eq_true rfl, Nat.le_of_ble_eq_true rfl⟩) (fun x13 μ13 H locs q13 hW => ?_)
          obtain ⟨hI, q13⟩ := q13
          refine lv_goto (tgt := 155) hx hb dX11_cell_151 (by decide) ?_
          exact m_iret hx hb hr hlocks hW rfl (⟨hI, trivial⟩) dX11_cell_155
        · refine lv_if_eq (tgt := 154) hx hb dX11_cell_139 (by decide) (fun _ => ?_) (fun c => False.elim (by revert c; decide))
          refine lv_iconst (v := (-1)) hx hb dX11_cell_154 (by decide) ?_
          exact m_iret hx hb hr hlocks hW rfl (⟨hI, trivial⟩) dX11_cell_155
  · refine lv_if_ne (tgt := 14) hx hb dX11_cell_9 (by decide) (fun c => False.elim (by revert c; decide)) (fun _ => ?_)
    refine lv_iconst (v := (-1)) hx hb dX11_cell_12 (by decide) ?_
    exact m_iret hx hb hr hlocks hW rfl (⟨hI, trivial⟩) dX11_cell_13
set_option maxHeartbeats 4000000 in
set_option maxRecDepth 100000 in
theorem g_X11_look (l : Launch) (D : va_G) (cy : Nat → ClassId) (b : Nat) (S : Nat → Bool) (μ0 : mM) (hS6 : S 6 = true) (k : Int32) (μ : mM) (hI : IY S μ0 μ) : m_Ci l yX11_look cX11_look 2 ((some .int)) 3 D cy b LAY μ [.ref (b + 0), .int k] (fun r ν => IY S μ0 ν ∧ (True)) := by
  unfold m_Ci
  refine m_of (by decide) (Nat.le_of_ble_eq_true rfl) ?_
  intro p e s m below meth c hx hb hr hml hown hts hlocks _ hW ls hl
  have hown : s.vm.findClass RX11 = some m.cls := hown
  have hl : lv_has ls 2 [(0, .ref (b + 0)), (1, .int k)] := hl
  refine lv_iload_n hx hb dX11_look_0 rfl (lv_at hl 1 rfl) ?_
  refine lv_iconst (v := 0) hx hb dX11_look_1 (by decide) ?_
  refine lv_bipush (v := 13) hx hb dX11_look_2 (by decide) ?_
  have l_0 : (0 : Int32).toInt = 0 := by decide
  have l_13 : (13 : Int32).toInt = 13 := by decide
  refine m_aI hW (m_runS (As := [.int k, .int 0, .int 13]) (rest := []) hx hb hml hown hts hW (g_X11_within l D cy b k 0 13 μ hI.1) ms_X11_within k_X11_81 rfl hl.1 rfl (Nat.le_of_ble_eq_true rfl) dX11_look_4 ⟨Nat.le_of_ble_eq_true rfl, Nat.le_of_ble_eq_true rfl⟩ ⟨Nat.le_of_ble_eq_true rfl, Nat.le_of_ble_eq_true rfl⟩) (fun x1 μ1 H locs q1 hW => ?_)
  obtain ⟨q1_m, q1⟩ := q1
  subst q1_m
  rcases q1 with ⟨rfl, q1⟩ | ⟨rfl, q1⟩
  · refine lv_if_ne (tgt := 12) hx hb dX11_look_7 (by decide) (fun _ => ?_) (fun c => False.elim (by revert c; decide))
    refine lv_aload_n hx hb dX11_look_12 rfl (lv_at hl 0 rfl) ?_
    refine m_getr hx hb hts hown hW (0) 4 (41) rfl rfl cw_11 rfl (by decide) k_X11_38 dX11_look_13 ?_
    refine m_aI hW (m_runV (As := []) (rest := []) hx hb hml hown hts hW (41) (g_X3_isLaid_41 l D cy b μ hI.1) mi_X3_isLaid k_X11_124 rfl rfl rfl hl.1 rfl (Nat.le_of_ble_eq_true rfl) dX11_look_16 ⟨Nat.le_of_ble_eq_true rfl, Nat.le_of_ble_eq_true rfl⟩ ⟨Nat.le_of_ble_eq_true rfl, Nat.le_of_ble_eq_true rfl⟩) (fun x2 μ2 H locs q2 hW => ?_)
    obtain ⟨q2_m, q2⟩ := q2
    subst q2_m
    rcases q2 with ⟨rfl, q2⟩ | ⟨rfl, q2⟩
    · refine lv_if_ne (tgt := 24) hx hb dX11_look_19 (by decide) (fun _ => ?_) (fun c => False.elim (by revert c; decide))
      refine lv_iload_n hx hb dX11_look_24 rfl (lv_at hl 1 rfl) ?_
      by_cases c3 : k.toInt < 0 ∨ 12 < k.toInt
      · refine lv_tableOut (tgt := 224) hx hb dX11_look_25 c3 (by decide) ?_
        refine lv_aload_n hx hb dX11_look_224 rfl (lv_at hl 0 rfl) ?_
        refine m_getr hx hb hts hown hW (0) 4 (41) rfl rfl cw_11 rfl (by decide) k_X11_38 dX11_look_225 ?_
        refine m_geti hx hb hts hown hW (41) 6 rfl rfl cw_3 rfl (by decide) k_X11_206 dX11_look_228 ?_
        refine lv_topi (fun x4 ex4 => ?_)
        exact m_iret hx hb hr hlocks hW rfl (⟨hI, trivial⟩) dX11_look_231
      · have q3 : k.toInt = 0 ∨ k.toInt = 1 ∨ k.toInt = 2 ∨ k.toInt = 3 ∨ k.toInt = 4 ∨ k.toInt = 5 ∨ k.toInt = 6 ∨ k.toInt = 7 ∨ k.toInt = 8 ∨ k.toInt = 9 ∨ k.toInt = 10 ∨ k.toInt = 11 ∨ k.toInt = 12 := by omega
        rcases q3 with q3 | q3 | q3 | q3 | q3 | q3 | q3 | q3 | q3 | q3 | q3 | q3 | q3
        · refine lv_tableIn (off := 67) (tgt := 92) hx hb dX11_look_25 (fun z => c3 (Or.inl z)) (fun z => c3 (Or.inr z)) (by rw [q3]; rfl) (by decide) ?_
          refine lv_aload_n hx hb dX11_look_92 rfl (lv_at hl 0 rfl) ?_
          refine m_getr hx hb hts hown hW (0) 4 (41) rfl rfl cw_11 rfl (by decide) k_X11_38 dX11_look_93 ?_
          refine m_geti hx hb hts hown hW (41) 5 rfl rfl cw_3 rfl (by decide) k_X11_168 dX11_look_96 ?_
          refine lv_topi (fun x5 ex5 => ?_)
          exact m_iret hx hb hr hlocks hW rfl (⟨hI, trivial⟩) dX11_look_99
        · refine lv_tableIn (off := 75) (tgt := 100) hx hb dX11_look_25 (fun z => c3 (Or.inl z)) (fun z => c3 (Or.inr z)) (by rw [q3]; rfl) (by decide) ?_
          refine lv_aload_n hx hb dX11_look_100 rfl (lv_at hl 0 rfl) ?_
          refine m_getr hx hb hts hown hW (0) 4 (41) rfl rfl cw_11 rfl (by decide) k_X11_38 dX11_look_101 ?_
          refine m_getr hx hb hts hown hW (41) 10 (42) rfl rfl cw_3 rfl (by decide) k_X11_171 dX11_look_104 ?_
          refine m_geti hx hb hts hown hW (42) 0 rfl rfl cw_1 rfl (by decide) k_X11_175 dX11_look_107 ?_
          refine lv_topi (fun x6 ex6 => ?_)
          exact m_iret hx hb hr hlocks hW rfl (⟨hI, trivial⟩) dX11_look_110
        · refine lv_tableIn (off := 86) (tgt := 111) hx hb dX11_look_25 (fun z => c3 (Or.inl z)) (fun z => c3 (Or.inr z)) (by rw [q3]; rfl) (by decide) ?_
          refine lv_aload_n hx hb dX11_look_111 rfl (lv_at hl 0 rfl) ?_
          refine m_getr hx hb hts hown hW (0) 4 (41) rfl rfl cw_11 rfl (by decide) k_X11_38 dX11_look_112 ?_
          refine m_getr hx hb hts hown hW (41) 10 (42) rfl rfl cw_3 rfl (by decide) k_X11_171 dX11_look_115 ?_
          refine m_geti hx hb hts hown hW (42) 1 rfl rfl cw_1 rfl (by decide) k_X11_180 dX11_look_118 ?_
          refine lv_topi (fun x7 ex7 => ?_)
          exact m_iret hx hb hr hlocks hW rfl (⟨hI, trivial⟩) dX11_look_121
        · refine lv_tableIn (off := 97) (tgt := 122) hx hb dX11_look_25 (fun z => c3 (Or.inl z)) (fun z => c3 (Or.inr z)) (by rw [q3]; rfl) (by decide) ?_
          refine lv_aload_n hx hb dX11_look_122 rfl (lv_at hl 0 rfl) ?_
          refine m_getr hx hb hts hown hW (0) 4 (41) rfl rfl cw_11 rfl (by decide) k_X11_38 dX11_look_123 ?_
          refine m_getr hx hb hts hown hW (41) 10 (42) rfl rfl cw_3 rfl (by decide) k_X11_171 dX11_look_126 ?_
          refine m_geti hx hb hts hown hW (42) 2 rfl rfl cw_1 rfl (by decide) k_X11_183 dX11_look_129 ?_
          refine lv_topi (fun x8 ex8 => ?_)
          have bx8 : 0 ≤ x8.toInt ∧ x8.toInt ≤ 1 := by rw [ex8]; exact hI.1 _ _ _ _ rfl
          refine lv_if_eq (tgt := 139) hx hb dX11_look_132 (by decide) (fun c9 => ?_) (fun c9 => ?_)
          · have i9 := m_c5 (rfl : x8.toInt = _) (by decide : (0 : Int32).toInt = 0) c9
            refine lv_iconst (v := 0) hx hb dX11_look_139 (by decide) ?_
            exact m_iret hx hb hr hlocks hW rfl (⟨hI, trivial⟩) dX11_look_140
          · have i9 := m_c6 (rfl : x8.toInt = _) (by decide : (0 : Int32).toInt = 0) c9
            refine lv_iconst (v := 1) hx hb dX11_look_135 (by decide) ?_
            refine lv_goto (tgt := 140) hx hb dX11_look_136 (by decide) ?_
            exact m_iret hx hb hr hlocks hW rfl (⟨hI, trivial⟩) dX11_look_140
        · refine lv_tableIn (off := 116) (tgt := 141) hx hb dX11_look_25 (fun z => c3 (Or.inl z)) (fun z => c3 (Or.inr z)) (by rw [q3]; rfl) (by decide) ?_
          refine lv_aload_n hx hb dX11_look_141 rfl (lv_at hl 0 rfl) ?_
          refine m_getr hx hb hts hown hW (0) 4 (41) rfl rfl cw_11 rfl (by decide) k_X11_38 dX11_look_142 ?_
          refine m_getr hx hb hts hown hW (41) 10 (42) rfl rfl cw_3 rfl (by decide) k_X11_171 dX11_look_145 ?_
          refine m_geti hx hb hts hown hW (42) 3 rfl rfl cw_1 rfl (by decide) k_X11_186 dX11_look_148 ?_
          refine lv_topi (fun x10 ex10 => ?_)
          exact m_iret hx hb hr hlocks hW rfl (⟨hI, trivial⟩) dX11_look_151
        · refine lv_tableIn (off := 127) (tgt := 152) hx hb dX11_look_25 (fun z => c3 (Or.inl z)) (fun z => c3 (Or.inr z)) (by rw [q3]; rfl) (by decide) ?_
          refine lv_aload_n hx hb dX11_look_152 rfl (lv_at hl 0 rfl) ?_
          refine m_getr hx hb hts hown hW (0) 4 (41) rfl rfl cw_11 rfl (by decide) k_X11_38 dX11_look_153 ?_
          refine m_getr hx hb hts hown hW (41) 10 (42) rfl rfl cw_3 rfl (by decide) k_X11_171 dX11_look_156 ?_
          refine m_geti hx hb hts hown hW (42) 4 rfl rfl cw_1 rfl (by decide) k_X11_189 dX11_look_159 ?_
          refine lv_topi (fun x11 ex11 => ?_)
          exact m_iret hx hb hr hlocks hW rfl (⟨hI, trivial⟩) dX11_look_162
        · refine lv_tableIn (off := 138) (tgt := 163) hx hb dX11_look_25 (fun z => c3 (Or.inl z)) (fun z => c3 (Or.inr z)) (by rw [q3]; rfl) (by decide) ?_
          refine lv_aload_n hx hb dX11_look_163 rfl (lv_at hl 0 rfl) ?_
          refine m_getr hx hb hts hown hW (0) 4 (41) rfl rfl cw_11 rfl (by decide) k_X11_38 dX11_look_164 ?_
          refine lv_iconst (v := 0) hx hb dX11_look_167 (by decide) ?_
          refine m_aI hW (m_runV (As := [.int 0]) (rest := []) hx hb hml hown hts hW (41) (g_X3_countState_41 l D cy b S μ0 hS6 0 μ hI) mi_X3_countState k_X11_192 rfl rfl rfl hl.1 rfl (Nat.le_of_ble_eq_true rfl) dX11_look_168 ⟨Nat.le_of_ble_eq_true rfl, Nat.le_of_ble_eq_true rfl⟩ ⟨Nat.le_of_ble_eq_true rfl, Nat.le_of_ble_eq_true rfl⟩) (fun x12 μ12 H locs q12 hW => ?_)
          obtain ⟨hI, q12⟩ := q12
          exact m_iret hx hb hr hlocks hW rfl (⟨hI, trivial⟩) dX11_look_171
        · refine lv_tableIn (off := 147) (tgt := 172) hx hb dX11_look_25 (fun z => c3 (Or.inl z)) (fun z => c3 (Or.inr z)) (by rw [q3]; rfl) (by decide) ?_
          refine lv_aload_n hx hb dX11_look_172 rfl (lv_at hl 0 rfl) ?_
          refine m_getr hx hb hts hown hW (0) 4 (41) rfl rfl cw_11 rfl (by decide) k_X11_38 dX11_look_173 ?_
          refine lv_iconst (v := 1) hx hb dX11_look_176 (by decide) ?_
          have l_1 : (1 : Int32).toInt = 1 := by decide
          refine m_aI hW (m_runV (As := [.int 1]) (rest := []) hx hb hml hown hts hW (41) (g_X3_countState_41 l D cy b S μ0 hS6 1 μ hI) mi_X3_countState k_X11_192 rfl rfl rfl hl.1 rfl (Nat.le_of_ble_eq_true rfl) dX11_look_177 ⟨Nat.le_of_ble_eq_true rfl, Nat.le_of_ble_eq_true rfl⟩ ⟨Nat.le_of_ble_eq_true rfl, Nat.le_of_ble_eq_true rfl⟩) (fun x13 μ13 H locs q13 hW => ?_)
          obtain ⟨hI, q13⟩ := q13
          exact m_iret hx hb hr hlocks hW rfl (⟨hI, trivial⟩) dX11_look_180
        · refine lv_tableIn (off := 156) (tgt := 181) hx hb dX11_look_25 (fun z => c3 (Or.inl z)) (fun z => c3 (Or.inr z)) (by rw [q3]; rfl) (by decide) ?_
          refine lv_aload_n hx hb dX11_look_181 rfl (lv_at hl 0 rfl) ?_
          refine m_getr hx hb hts hown hW (0) 4 (41) rfl rfl cw_11 rfl (by decide) k_X11_38 dX11_look_182 ?_
          refine lv_iconst (v := 2) hx hb dX11_look_185 (by decide) ?_
          have l_2 : (2 : Int32).toInt = 2 := by decide
          refine m_aI hW (m_runV (As := [.int 2]) (rest := []) hx hb hml hown hts hW (41) (g_X3_countState_41 l D cy b S μ0 hS6 2 μ hI) mi_X3_countState k_X11_192 rfl rfl rfl hl.1 rfl (Nat.le_of_ble_eq_true rfl) dX11_look_186 ⟨Nat.le_of_ble_eq_true rfl, Nat.le_of_ble_eq_true rfl⟩ ⟨Nat.le_of_ble_eq_true rfl, Nat.le_of_ble_eq_true rfl⟩) (fun x14 μ14 H locs q14 hW => ?_)
          obtain ⟨hI, q14⟩ := q14
          exact m_iret hx hb hr hlocks hW rfl (⟨hI, trivial⟩) dX11_look_189
        · refine lv_tableIn (off := 165) (tgt := 190) hx hb dX11_look_25 (fun z => c3 (Or.inl z)) (fun z => c3 (Or.inr z)) (by rw [q3]; rfl) (by decide) ?_
          refine lv_aload_n hx hb dX11_look_190 rfl (lv_at hl 0 rfl) ?_
          refine m_getr hx hb hts hown hW (0) 4 (41) rfl rfl cw_11 rfl (by decide) k_X11_38 dX11_look_191 ?_
          refine m_aI hW (m_runV (As := []) (rest := []) hx hb hml hown hts hW (41) (g_X3_countTipped_41 l D cy b S μ0 hS6 μ hI) mi_X3_countTipped k_X11_195 rfl rfl rfl hl.1 rfl (Nat.le_of_ble_eq_true rfl) dX11_look_194 ⟨Nat.le_of_ble_eq_true rfl, Nat.le_of_ble_eq_true rfl⟩ ⟨Nat.le_of_ble_eq_true rfl, Nat.le_of_ble_eq_true rfl⟩) (fun x15 μ15 H locs q15 hW => ?_)
          obtain ⟨hI, q15⟩ := q15
          exact m_iret hx hb hr hlocks hW rfl (⟨hI, trivial⟩) dX11_look_197
        · refine lv_tableIn (off := 173) (tgt := 198) hx hb dX11_look_25 (fun z => c3 (Or.inl z)) (fun z => c3 (Or.inr z)) (by rw [q3]; rfl) (by decide) ?_
          refine lv_aload_n hx hb dX11_look_198 rfl (lv_at hl 0 rfl) ?_
          refine m_getr hx hb hts hown hW (0) 4 (41) rfl rfl cw_11 rfl (by decide) k_X11_38 dX11_look_199 ?_
          refine m_aI hW (m_runV (As := []) (rest := []) hx hb hml hown hts hW (41) (g_X3_countBurntThere_41 l D cy b S μ0 hS6 μ hI) mi_X3_countBurntThere k_X11_199 rfl rfl rfl hl.1 rfl (Nat.le_of_ble_eq_true rfl) dX11_look_202 ⟨Nat.le_of_ble_eq_true rfl, Nat.le_of_ble_eq_true rfl⟩ ⟨Nat.le_of_ble_eq_true rfl, Nat.le_of_ble_eq_true rfl⟩) (fun x16 μ16 H locs q16 hW => ?_)
          obtain ⟨hI, q16⟩ := q16
          exact m_iret hx hb hr hlocks hW rfl (⟨hI, trivial⟩) dX11_look_205
        · refine lv_tableIn (off := 181) (tgt := 206) hx hb dX11_look_25 (fun z => c3 (Or.inl z)) (fun z => c3 (Or.inr z)) (by rw [q3]; rfl) (by decide) ?_
          refine lv_aload_n hx hb dX11_look_206 rfl (lv_at hl 0 rfl) ?_
          refine m_getr hx hb hts hown hW (0) 4 (41) rfl rfl cw_11 rfl (by decide) k_X11_38 dX11_look_207 ?_
          refine lv_iconst (v := 0) hx hb dX11_look_210 (by decide) ?_
          refine m_aI hW (m_runV (As := [.int 0]) (rest := []) hx hb hml hown hts hW (41) (g_X3_countParts_41 l D cy b S μ0 hS6 0 (by omega) μ hI) mi_X3_countParts k_X11_202 rfl rfl rfl hl.1 rfl (Nat.le_of_ble_eq_true rfl) dX11_look_211 ⟨Nat.le_of_ble_eq_true rfl, Nat.le_of_ble_eq_true rfl⟩ ⟨Nat.le_of_ble_eq_true rfl, Nat.le_of_ble_eq_true rfl⟩) (fun x17 μ17 H locs q17 hW => ?_)
          obtain ⟨hI, q17⟩ := q17
          exact m_iret hx hb hr hlocks hW rfl (⟨hI, trivial⟩) dX11_look_214
        · refine lv_tableIn (off := 190) (tgt := 215) hx hb dX11_look_25 (fun z => c3 (Or.inl z)) (fun z => c3 (Or.inr z)) (by rw [q3]; rfl) (by decide) ?_
          refine lv_aload_n hx hb dX11_look_215 rfl (lv_at hl 0 rfl) ?_
          refine m_getr hx hb hts hown hW (0) 4 (41) rfl rfl cw_11 rfl (by decide) k_X11_38 dX11_look_216 ?_
          refine lv_iconst (v := 1) hx hb dX11_look_219 (by decide) ?_
          have l_1 : (1 : Int32).toInt = 1 := by decide
          refine m_aI hW (m_runV (As := [.int 1]) (rest := []) hx hb hml hown hts hW (41) (g_X3_countParts_41 l D cy b S μ0 hS6 1 (by omega) μ hI) mi_X3_countParts k_X11_202 rfl rfl rfl hl.1 rfl (Nat.le_of_ble_eq_true rfl) dX11_look_220 ⟨Nat.le_of_ble_eq_true rfl, Nat.le_of_ble_eq_true rfl⟩ ⟨Nat.le_of_ble_eq_true rfl, Nat.le_of_ble_eq_true rfl⟩) (fun x18 μ18 H locs q18 hW => ?_)
          obtain ⟨hI, q18⟩ := q18
          exact m_iret hx hb hr hlocks hW rfl (⟨hI, trivial⟩) dX11_look_223
    · refine lv_if_ne (tgt := 24) hx hb dX11_look_19 (by decide) (fun c => False.elim (by revert c; decide)) (fun _ => ?_)
      refine lv_iconst (v := 0) hx hb dX11_look_22 (by decide) ?_
      exact m_iret hx hb hr hlocks hW rfl (⟨hI, trivial⟩) dX11_look_23
  · refine lv_if_ne (tgt := 12) hx hb dX11_look_7 (by decide) (fun c => False.elim (by revert c; decide)) (fun _ => ?_)
    refine lv_iconst (v := (-1)) hx hb dX11_look_10 (by decide) ?_
    exact m_iret hx hb hr hlocks hW rfl (⟨hI, trivial⟩) dX11_look_11
set_option maxHeartbeats 4000000 in
set_option maxRecDepth 100000 in
theorem g_X11_heat (l : Launch) (D : va_G) (cy : Nat → ClassId) (b : Nat) (S : Nat → Bool) (μ0 : mM) (hS6 : S 6 = true) (k : Int32) (μ : mM) (hI : IY S μ0 μ) : m_Cl l yX11_heat cX11_heat 2 ((some .long)) 1 D cy b LAY μ [.ref (b + 0), .int k] (fun r ν => IY S μ0 ν ∧ (True)) := by
  unfold m_Cl
  refine m_of (by decide) (Nat.le_of_ble_eq_true rfl) ?_
  intro p e s m below meth c hx hb hr hml hown hts hlocks _ hW ls hl
  have hown : s.vm.findClass RX11 = some m.cls := hown
  have hl : lv_has ls 2 [(0, .ref (b + 0)), (1, .int k)] := hl
  refine lv_iload_n hx hb dX11_heat_0 rfl (lv_at hl 1 rfl) ?_
  by_cases c1 : k.toInt < 0 ∨ 3 < k.toInt
  · refine lv_tableOut (tgt := 64) hx hb dX11_heat_1 c1 (by decide) ?_
    refine lv_ldc2 hx hb hown (hts _ k_X11_223) dX11_heat_64 ?_
    exact m_lret hx hb hr hlocks hW (⟨hI, trivial⟩) dX11_heat_67
  · have q1 : k.toInt = 0 ∨ k.toInt = 1 ∨ k.toInt = 2 ∨ k.toInt = 3 := by omega
    rcases q1 with q1 | q1 | q1 | q1
    · refine lv_tableIn (off := 31) (tgt := 32) hx hb dX11_heat_1 (fun z => c1 (Or.inl z)) (fun z => c1 (Or.inr z)) (by rw [q1]; rfl) (by decide) ?_
      refine lv_aload_n hx hb dX11_heat_32 rfl (lv_at hl 0 rfl) ?_
      refine m_getr hx hb hts hown hW (0) 4 (41) rfl rfl cw_11 rfl (by decide) k_X11_38 dX11_heat_33 ?_
      refine m_getl hx hb hts hown hW (41) 7 rfl rfl cw_3 rfl (by decide) k_X11_209 dX11_heat_36 ?_
      refine lv_topl (fun x2 ex2 => ?_)
      exact m_lret hx hb hr hlocks hW (⟨hI, trivial⟩) dX11_heat_39
    · refine lv_tableIn (off := 39) (tgt := 40) hx hb dX11_heat_1 (fun z => c1 (Or.inl z)) (fun z => c1 (Or.inr z)) (by rw [q1]; rfl) (by decide) ?_
      refine lv_aload_n hx hb dX11_heat_40 rfl (lv_at hl 0 rfl) ?_
      refine m_getr hx hb hts hown hW (0) 4 (41) rfl rfl cw_11 rfl (by decide) k_X11_38 dX11_heat_41 ?_
      refine m_aL hW (m_runV (As := []) (rest := []) hx hb hml hown hts hW (41) (g_X3_heatInAll_41 l D cy b S μ0 hS6 μ hI) mi_X3_heatInAll k_X11_213 rfl rfl rfl hl.1 rfl (Nat.le_of_ble_eq_true rfl) dX11_heat_44 ⟨Nat.le_of_ble_eq_true rfl, Nat.le_of_ble_eq_true rfl⟩ ⟨Nat.le_of_ble_eq_true rfl, Nat.le_of_ble_eq_true rfl⟩) (fun x3 μ3 H locs q3 hW => ?_)
      obtain ⟨hI, q3⟩ := q3
      exact m_lret hx hb hr hlocks hW (⟨hI, trivial⟩) dX11_heat_47
    · refine lv_tableIn (off := 47) (tgt := 48) hx hb dX11_heat_1 (fun z => c1 (Or.inl z)) (fun z => c1 (Or.inr z)) (by rw [q1]; rfl) (by decide) ?_
      refine lv_aload_n hx hb dX11_heat_48 rfl (lv_at hl 0 rfl) ?_
      refine m_getr hx hb hts hown hW (0) 4 (41) rfl rfl cw_11 rfl (by decide) k_X11_38 dX11_heat_49 ?_
      refine m_getl hx hb hts hown hW (41) 8 rfl rfl cw_3 rfl (by decide) k_X11_217 dX11_heat_52 ?_
      refine lv_topl (fun x4 ex4 => ?_)
      exact m_lret hx hb hr hlocks hW (⟨hI, trivial⟩) dX11_heat_55
    · refine lv_tableIn (off := 55) (tgt := 56) hx hb dX11_heat_1 (fun z => c1 (Or.inl z)) (fun z => c1 (Or.inr z)) (by rw [q1]; rfl) (by decide) ?_
      refine lv_aload_n hx hb dX11_heat_56 rfl (lv_at hl 0 rfl) ?_
      refine m_getr hx hb hts hown hW (0) 4 (41) rfl rfl cw_11 rfl (by decide) k_X11_38 dX11_heat_57 ?_
      refine m_getl hx hb hts hown hW (41) 9 rfl rfl cw_3 rfl (by decide) k_X11_220 dX11_heat_60 ?_
      refine lv_topl (fun x5 ex5 => ?_)
      exact m_lret hx hb hr hlocks hW (⟨hI, trivial⟩) dX11_heat_63
set_option maxHeartbeats 4000000 in
set_option maxRecDepth 100000 in
theorem L_X9_noneIsThereBehind_2 {p : Program} {l : Launch} {e : Env} {s : State} {m : MethodId} {args : Array Value} {below : List Frame} {meth : Method} {c : Code} {D : va_G} {cy : Nat → ClassId} {b : Nat} (hx : p.tables.exec = Jvm.exec) (hb : c.code = cX9_noneIsThereBehind) (hr : meth.sig.returnType = ((some .boolean))) (hml : c.maxLocals = 5) (hown : s.vm.findClass RX9 = some m.cls) (hts : ∀ w ∈ TB, w.before args s = true) (hlocks : meth.locks = false) (μ1 : mM) (k u : Int32) : ∀ (f : Nat), ∀ (y3 : Int32) (hy : 0 ≤ y3.toInt ∧ y3.toInt ≤ 2147483647) (hf : 2147483647 - y3.toInt < (f : Int)) (μ : mM) (hI : IX μ) (hm : μ = μ1) (H : Heap) (locs : List Loc), m_WA (m_A b LAY) D cy s b LAY μ H locs → ∀ ls : Array Slot, lv_has ls 5 [(0, .ref (b + 54)), (1, .int k), (2, .int u), (3, .int y3)] → W p l e (m_R 1 0 0) s m args below meth c H locs 0 0 (MQ below (m_Qi D cy b LAY (fun r ν => μ1 = ν ∧ ((r = 1 ∧ (True)) ∨ (r = 0 ∧ (True))))) args s 0 0 (m_A b LAY)) (F0 m 2 ls []) := by
  intro f
  induction f with
  | zero => intro y3 hy hf; exfalso; omega
  | succ f ih =>
    intro y3 hy hf μ hI hm H locs hW ls hl
    refine lv_iload_n hx hb dX9_noneIsThereBehind_2 rfl (lv_at hl 3 rfl) ?_
    refine lv_iload_n hx hb dX9_noneIsThereBehind_3 rfl (lv_at hl 2 rfl) ?_
    refine lv_icmp_ge (tgt := 70) hx hb dX9_noneIsThereBehind_4 (by decide) (fun c1 => ?_) (fun c1 => ?_)
    · have i1 := m_c3 (rfl : u.toInt = _) (rfl : y3.toInt = _) c1
      refine lv_iconst (v := 1) hx hb dX9_noneIsThereBehind_70 (by decide) ?_
      exact m_iret hx hb hr hlocks hW (by decide) (⟨hm.symm, Or.inl ⟨rfl, trivial⟩⟩) dX9_noneIsThereBehind_71
    · have i1 := m_c4 (rfl : u.toInt = _) (rfl : y3.toInt = _) c1; have r_u := m_rng u
      refine lv_aload_n hx hb dX9_noneIsThereBehind_7 rfl (lv_at hl 0 rfl) ?_
      refine m_getr hx hb hts hown hW (54) 5 (59) rfl rfl cw_9 rfl (by decide) k_X9_40 dX9_noneIsThereBehind_8 ?_
      refine lv_aload_n hx hb dX9_noneIsThereBehind_11 rfl (lv_at hl 0 rfl) ?_
      refine m_getr hx hb hts hown hW (54) 5 (59) rfl rfl cw_9 rfl (by decide) k_X9_40 dX9_noneIsThereBehind_12 ?_
      refine m_getr hx hb hts hown hW (59) 10 (60) rfl rfl cw_3 rfl (by decide) k_X9_84 dX9_noneIsThereBehind_15 ?_
      refine m_geti hx hb hts hown hW (60) 0 rfl rfl cw_1 rfl (by decide) k_X9_88 dX9_noneIsThereBehind_18 ?_
      refine lv_topi (fun x2 ex2 => ?_)
      refine lv_iload_n hx hb dX9_noneIsThereBehind_21 rfl (lv_at hl 1 rfl) ?_
      refine m_aI hW (m_runSN (As := [.int k]) (rest := [.int x2, .ref (b + 59)]) hx hb hml hown hts hW (g_X11_stepX l D cy b k μ hI) ms_X11_stepX n_X9_93 rfl hl.1 rfl (Nat.le_of_ble_eq_true rfl) dX9_noneIsThereBehind_22 ⟨Nat.le_of_ble_eq_true rfl, Nat.le_of_ble_eq_true rfl⟩ ⟨Nat.le_of_ble_eq_true rfl, Nat.le_of_ble_eq_true rfl⟩) (fun x3 μ3 H locs q3 hW => ?_)
      obtain ⟨q3_m, q3⟩ := q3
      subst q3_m
      refine lv_iload_n hx hb dX9_noneIsThereBehind_25 rfl (lv_at hl 3 rfl) ?_
      refine lv_imul hx hb dX9_noneIsThereBehind_26 ?_
      refine lv_topi (fun x4 ex4 => ?_)
      refine lv_isub hx hb dX9_noneIsThereBehind_27 ?_
      refine lv_topi (fun x5 ex5 => ?_)
      refine lv_aload_n hx hb dX9_noneIsThereBehind_28 rfl (lv_at hl 0 rfl) ?_
      refine m_getr hx hb hts hown hW (54) 5 (59) rfl rfl cw_9 rfl (by decide) k_X9_40 dX9_noneIsThereBehind_29 ?_
      refine m_getr hx hb hts hown hW (59) 10 (60) rfl rfl cw_3 rfl (by decide) k_X9_84 dX9_noneIsThereBehind_32 ?_
      refine m_geti hx hb hts hown hW (60) 1 rfl rfl cw_1 rfl (by decide) k_X9_96 dX9_noneIsThereBehind_35 ?_
      refine lv_topi (fun x6 ex6 => ?_)
      refine lv_iload_n hx hb dX9_noneIsThereBehind_38 rfl (lv_at hl 1 rfl) ?_
      refine m_aI hW (m_runSN (As := [.int k]) (rest := [.int x6, .int x5, .ref (b + 59)]) hx hb hml hown hts hW (g_X11_stepY l D cy b k μ hI) ms_X11_stepY n_X9_99 rfl hl.1 rfl (Nat.le_of_ble_eq_true rfl) dX9_noneIsThereBehind_39 ⟨Nat.le_of_ble_eq_true rfl, Nat.le_of_ble_eq_true rfl⟩ ⟨Nat.le_of_ble_eq_true rfl, Nat.le_of_ble_eq_true rfl⟩) (fun x7 μ7 H locs q7 hW => ?_)
      obtain ⟨q7_m, q7⟩ := q7
      subst q7_m
      refine lv_iload_n hx hb dX9_noneIsThereBehind_42 rfl (lv_at hl 3 rfl) ?_
      refine lv_imul hx hb dX9_noneIsThereBehind_43 ?_
      refine lv_topi (fun x8 ex8 => ?_)
      refine lv_isub hx hb dX9_noneIsThereBehind_44 ?_
      refine lv_topi (fun x9 ex9 => ?_)
      refine m_aI hW (m_runV (As := [.int x5, .int x9]) (rest := []) hx hb hml hown hts hW (59) (g_X3_index_59 l D cy b x5 x9 μ hI) mi_X3_index k_X9_119 rfl rfl rfl hl.1 rfl (Nat.le_of_ble_eq_true rfl) dX9_noneIsThereBehind_45 ⟨Nat.le_of_ble_eq_true rfl, Nat.le_of_ble_eq_true rfl⟩ ⟨Nat.le_of_ble_eq_true rfl, Nat.le_of_ble_eq_true rfl⟩) (fun x10 μ10 H locs q10 hW => ?_)
      obtain ⟨q10_m, q10⟩ := q10
      subst q10_m
      refine lv_istore (lv' := [(4, .int x10), (0, .ref (b + 54)), (1, .int k), (2, .int u), (3, .int y3)]) hx hb dX9_noneIsThereBehind_48 hl (by decide) rfl (fun ls hl => ?_)
      refine lv_aload_n hx hb dX9_noneIsThereBehind_50 rfl (lv_at hl 1 rfl) ?_
      refine m_getr hx hb hts hown hW (54) 5 (59) rfl rfl cw_9 rfl (by decide) k_X9_40 dX9_noneIsThereBehind_51 ?_
      refine lv_iload hx hb dX9_noneIsThereBehind_54 (lv_at hl 0 rfl) ?_
      refine m_aI hW (m_runV (As := [.int x10]) (rest := []) hx hb hml hown hts hW (59) (g_X3_isThere_59 l D cy b x10 μ hI) mi_X3_isThere k_X9_123 rfl rfl rfl hl.1 rfl (Nat.le_of_ble_eq_true rfl) dX9_noneIsThereBehind_56 ⟨Nat.le_of_ble_eq_true rfl, Nat.le_of_ble_eq_true rfl⟩ ⟨Nat.le_of_ble_eq_true rfl, Nat.le_of_ble_eq_true rfl⟩) (fun x11 μ11 H locs q11 hW => ?_)
      obtain ⟨q11_m, q11⟩ := q11
      subst q11_m
      rcases q11 with ⟨rfl, q11⟩ | ⟨rfl, q11⟩
      · refine lv_if_eq (tgt := 64) hx hb dX9_noneIsThereBehind_59 (by decide) (fun c => False.elim (by revert c; decide)) (fun _ => ?_)
        refine lv_iconst (v := 0) hx hb dX9_noneIsThereBehind_62 (by decide) ?_
        exact m_iret hx hb hr hlocks hW (by decide) (⟨hm.symm, Or.inr ⟨rfl, trivial⟩⟩) dX9_noneIsThereBehind_63
      · refine lv_if_eq (tgt := 64) hx hb dX9_noneIsThereBehind_59 (by decide) (fun _ => ?_) (fun c => False.elim (by revert c; decide))
        obtain ⟨x12, ex12⟩ : ∃ z : Int32, z = y3 + 1 := ⟨_, rfl⟩
        refine lv_iinc (v := x12) (lv' := [(3, .int x12), (4, .int x10), (0, .ref (b + 54)), (1, .int k), (2, .int u)]) hx hb dX9_noneIsThereBehind_64 hl (k := 4) rfl (by rw [ex12]; rfl) (by decide) rfl (fun ls hl => ?_)
        have tx12 : x12.toInt = y3.toInt + 1 := m_addI ex12 (rfl : y3.toInt = _) (by decide : (1 : Int32).toInt = 1) (by omega) (by omega)
        refine lv_goto (tgt := 2) hx hb dX9_noneIsThereBehind_67 (by decide) ?_
        exact ih x12 (by omega) (by omega) μ hI hm _ _ hW ls (lv_sub hl [2, 3, 4, 0] rfl)
set_option maxHeartbeats 4000000 in
set_option maxRecDepth 100000 in
theorem g_X9_noneIsThereBehind (l : Launch) (D : va_G) (cy : Nat → ClassId) (b : Nat) (k u : Int32) (μ : mM) (hI : IX μ) : m_Ci l yX9_noneIsThereBehind cX9_noneIsThereBehind 5 ((some .boolean)) 1 D cy b LAY μ [.ref (b + 54), .int k, .int u] (fun r ν => μ = ν ∧ ((r = 1 ∧ (True)) ∨ (r = 0 ∧ (True)))) := by
  unfold m_Ci
  refine m_of (by decide) (Nat.le_of_ble_eq_true rfl) ?_
  intro p e s m below meth c hx hb hr hml hown hts hlocks _ hW ls hl
  have hown : s.vm.findClass RX9 = some m.cls := hown
  have hl : lv_has ls 5 [(0, .ref (b + 54)), (1, .int k), (2, .int u)] := hl
  refine lv_iconst (v := 0) hx hb dX9_noneIsThereBehind_0 (by decide) ?_
  refine lv_istore_n (lv' := [(3, .int 0), (0, .ref (b + 54)), (1, .int k), (2, .int u)]) hx hb dX9_noneIsThereBehind_1 rfl hl (by decide) rfl (fun ls hl => ?_)
  have l_0 : (0 : Int32).toInt = 0 := by decide
  exact L_X9_noneIsThereBehind_2 hx hb hr hml hown hts hlocks μ k u  2147483648 0 (by omega) (by omega) μ hI rfl _ _ hW ls (lv_sub hl [1, 2, 3, 0] rfl)
set_option maxHeartbeats 4000000 in
set_option maxRecDepth 100000 in
theorem g_X9_keepIfBetter (l : Launch) (D : va_G) (cy : Nat → ClassId) (b : Nat) (S : Nat → Bool) (μ0 : mM) (hS8 : S 8 = true) (k u v : Int32) (μ : mM) (hI : IY S μ0 μ) : m_Cv l yX9_keepIfBetter cX9_keepIfBetter 5 (none) 0 D cy b LAY μ [.ref (b + 54), .int k, .int u, .int v] (fun ν => IY S μ0 ν ∧ (True)) := by
  unfold m_Cv
  refine m_of (by decide) (Nat.le_of_ble_eq_true rfl) ?_
  intro p e s m below meth c hx hb hr hml hown hts hlocks _ hW ls hl
  have hown : s.vm.findClass RX9 = some m.cls := hown
  have hl : lv_has ls 5 [(0, .ref (b + 54)), (1, .int k), (2, .int u), (3, .int v)] := hl
  refine lv_iload_n hx hb dX9_keepIfBetter_0 rfl (lv_at hl 1 rfl) ?_
  refine lv_aload_n hx hb dX9_keepIfBetter_1 rfl (lv_at hl 0 rfl) ?_
  refine m_geti hx hb hts hown hW (54) 0 rfl rfl cw_9 rfl (by decide) k_X9_9 dX9_keepIfBetter_2 ?_
  refine lv_topi (fun x1 ex1 => ?_)
  refine lv_icmp_lt (tgt := 24) hx hb dX9_keepIfBetter_5 (by decide) (fun c2 => ?_) (fun c2 => ?_)
  · have i2 := m_c1 (rfl : k.toInt = _) (rfl : x1.toInt = _) c2
    refine lv_iconst (v := 1) hx hb dX9_keepIfBetter_24 (by decide) ?_
    refine lv_goto (tgt := 29) hx hb dX9_keepIfBetter_25 (by decide) ?_
    refine lv_istore (lv' := [(4, .int 1), (0, .ref (b + 54)), (1, .int k), (2, .int u), (3, .int v)]) hx hb dX9_keepIfBetter_29 hl (by decide) rfl (fun ls hl => ?_)
    refine lv_aload_n hx hb dX9_keepIfBetter_31 rfl (lv_at hl 1 rfl) ?_
    refine m_geti hx hb hts hown hW (54) 2 rfl rfl cw_9 rfl (by decide) k_X9_18 dX9_keepIfBetter_32 ?_
    refine lv_topi (fun x3 ex3 => ?_)
    refine lv_iconst (v := (-1)) hx hb dX9_keepIfBetter_35 (by decide) ?_
    refine lv_icmp_eq (tgt := 44) hx hb dX9_keepIfBetter_36 (by decide) (fun c4 => ?_) (fun c4 => ?_)
    · have i4 := m_c5 (rfl : x3.toInt = _) (by decide : ((-1) : Int32).toInt = (-1)) c4
      refine lv_aload_n hx hb dX9_keepIfBetter_44 rfl (lv_at hl 1 rfl) ?_
      refine lv_iload_n hx hb dX9_keepIfBetter_45 rfl (lv_at hl 2 rfl) ?_
      refine m_puti hx hb hts hown hW (54) 0 rfl rfl cw_9 tyX9_ok nmX9 rfl (by decide) k_X9_9 rfl rfl rfl dX9_keepIfBetter_46 (fun H locs hW _ => ?_)
      generalize hμ5 : m_si μ (54) 0 k = μ5 at hW
      have hI := hI.si0 hμ5 rfl hS8
      refine lv_aload_n hx hb dX9_keepIfBetter_49 rfl (lv_at hl 1 rfl) ?_
      refine lv_iload_n hx hb dX9_keepIfBetter_50 rfl (lv_at hl 3 rfl) ?_
      refine m_puti hx hb hts hown hW (54) 1 rfl rfl cw_9 tyX9_ok nmX9 rfl (by decide) k_X9_15 rfl rfl rfl dX9_keepIfBetter_51 (fun H locs hW _ => ?_)
      generalize hμ6 : m_si μ5 (54) 1 u = μ6 at hW
      have hI := hI.si0 hμ6 rfl hS8
      refine lv_aload_n hx hb dX9_keepIfBetter_54 rfl (lv_at hl 1 rfl) ?_
      refine lv_iload_n hx hb dX9_keepIfBetter_55 rfl (lv_at hl 4 rfl) ?_
      refine m_puti hx hb hts hown hW (54) 2 rfl rfl cw_9 tyX9_ok nmX9 rfl (by decide) k_X9_18 rfl rfl rfl dX9_keepIfBetter_56 (fun H locs hW _ => ?_)
      generalize hμ7 : m_si μ6 (54) 2 v = μ7 at hW
      have hI := hI.si0 hμ7 rfl hS8
      exact m_vret hx hb hr hlocks hW (⟨hI, trivial⟩) dX9_keepIfBetter_59
    · have i4 := m_c6 (rfl : x3.toInt = _) (by decide : ((-1) : Int32).toInt = (-1)) c4
      refine lv_iload hx hb dX9_keepIfBetter_39 (lv_at hl 0 rfl) ?_
      refine lv_if_eq (tgt := 59) hx hb dX9_keepIfBetter_41 (by decide) (fun c => False.elim (by revert c; decide)) (fun _ => ?_)
      refine lv_aload_n hx hb dX9_keepIfBetter_44 rfl (lv_at hl 1 rfl) ?_
      refine lv_iload_n hx hb dX9_keepIfBetter_45 rfl (lv_at hl 2 rfl) ?_
      refine m_puti hx hb hts hown hW (54) 0 rfl rfl cw_9 tyX9_ok nmX9 rfl (by decide) k_X9_9 rfl rfl rfl dX9_keepIfBetter_46 (fun H locs hW _ => ?_)
      generalize hμ8 : m_si μ (54) 0 k = μ8 at hW
      have hI := hI.si0 hμ8 rfl hS8
      refine lv_aload_n hx hb dX9_keepIfBetter_49 rfl (lv_at hl 1 rfl) ?_
      refine lv_iload_n hx hb dX9_keepIfBetter_50 rfl (lv_at hl 3 rfl) ?_
      refine m_puti hx hb hts hown hW (54) 1 rfl rfl cw_9 tyX9_ok nmX9 rfl (by decide) k_X9_15 rfl rfl rfl dX9_keepIfBetter_51 (fun H locs hW _ => ?_)
      generalize hμ9 : m_si μ8 (54) 1 u = μ9 at hW
      have hI := hI.si0 hμ9 rfl hS8
      refine lv_aload_n hx hb dX9_keepIfBetter_54 rfl (lv_at hl 1 rfl) ?_
      refine lv_iload_n hx hb dX9_keepIfBetter_55 rfl (lv_at hl 4 rfl) ?_
      refine m_puti hx hb hts hown hW (54) 2 rfl rfl cw_9 tyX9_ok nmX9 rfl (by decide) k_X9_18 rfl rfl rfl dX9_keepIfBetter_56 (fun H locs hW _ => ?_)
      generalize hμ10 : m_si μ9 (54) 2 v = μ10 at hW
      have hI := hI.si0 hμ10 rfl hS8
      exact m_vret hx hb hr hlocks hW (⟨hI, trivial⟩) dX9_keepIfBetter_59
  · have i2 := m_c2 (rfl : k.toInt = _) (rfl : x1.toInt = _) c2
    refine lv_iload_n hx hb dX9_keepIfBetter_8 rfl (lv_at hl 1 rfl) ?_
    refine lv_aload_n hx hb dX9_keepIfBetter_9 rfl (lv_at hl 0 rfl) ?_
    refine m_geti hx hb hts hown hW (54) 0 rfl rfl cw_9 rfl (by decide) k_X9_9 dX9_keepIfBetter_10 ?_
    refine lv_topi (fun x11 ex11 => ?_)
    have ex11 : x11 = x1 := by rw [ex11]; exact ex1.symm
    have ex11 := ex11.symm
    subst ex11
    refine lv_icmp_ne (tgt := 28) hx hb dX9_keepIfBetter_13 (by decide) (fun c12 => ?_) (fun c12 => ?_)
    · have i12 := m_c6 (rfl : k.toInt = _) (rfl : x1.toInt = _) c12
      refine lv_iconst (v := 0) hx hb dX9_keepIfBetter_28 (by decide) ?_
      refine lv_istore (lv' := [(4, .int 0), (0, .ref (b + 54)), (1, .int k), (2, .int u), (3, .int v)]) hx hb dX9_keepIfBetter_29 hl (by decide) rfl (fun ls hl => ?_)
      refine lv_aload_n hx hb dX9_keepIfBetter_31 rfl (lv_at hl 1 rfl) ?_
      refine m_geti hx hb hts hown hW (54) 2 rfl rfl cw_9 rfl (by decide) k_X9_18 dX9_keepIfBetter_32 ?_
      refine lv_topi (fun x13 ex13 => ?_)
      refine lv_iconst (v := (-1)) hx hb dX9_keepIfBetter_35 (by decide) ?_
      refine lv_icmp_eq (tgt := 44) hx hb dX9_keepIfBetter_36 (by decide) (fun c14 => ?_) (fun c14 => ?_)
      · have i14 := m_c5 (rfl : x13.toInt = _) (by decide : ((-1) : Int32).toInt = (-1)) c14
        refine lv_aload_n hx hb dX9_keepIfBetter_44 rfl (lv_at hl 1 rfl) ?_
        refine lv_iload_n hx hb dX9_keepIfBetter_45 rfl (lv_at hl 2 rfl) ?_
        refine m_puti hx hb hts hown hW (54) 0 rfl rfl cw_9 tyX9_ok nmX9 rfl (by decide) k_X9_9 rfl rfl rfl dX9_keepIfBetter_46 (fun H locs hW _ => ?_)
        generalize hμ15 : m_si μ (54) 0 k = μ15 at hW
        have hI := hI.si0 hμ15 rfl hS8
        refine lv_aload_n hx hb dX9_keepIfBetter_49 rfl (lv_at hl 1 rfl) ?_
        refine lv_iload_n hx hb dX9_keepIfBetter_50 rfl (lv_at hl 3 rfl) ?_
        refine m_puti hx hb hts hown hW (54) 1 rfl rfl cw_9 tyX9_ok nmX9 rfl (by decide) k_X9_15 rfl rfl rfl dX9_keepIfBetter_51 (fun H locs hW _ => ?_)
        generalize hμ16 : m_si μ15 (54) 1 u = μ16 at hW
        have hI := hI.si0 hμ16 rfl hS8
        refine lv_aload_n hx hb dX9_keepIfBetter_54 rfl (lv_at hl 1 rfl) ?_
        refine lv_iload_n hx hb dX9_keepIfBetter_55 rfl (lv_at hl 4 rfl) ?_
        refine m_puti hx hb hts hown hW (54) 2 rfl rfl cw_9 tyX9_ok nmX9 rfl (by decide) k_X9_18 rfl rfl rfl dX9_keepIfBetter_56 (fun H locs hW _ => ?_)
        generalize hμ17 : m_si μ16 (54) 2 v = μ17 at hW
        have hI := hI.si0 hμ17 rfl hS8
        exact m_vret hx hb hr hlocks hW (⟨hI, trivial⟩) dX9_keepIfBetter_59
      · have i14 := m_c6 (rfl : x13.toInt = _) (by decide : ((-1) : Int32).toInt = (-1)) c14
        refine lv_iload hx hb dX9_keepIfBetter_39 (lv_at hl 0 rfl) ?_
        refine lv_if_eq (tgt := 59) hx hb dX9_keepIfBetter_41 (by decide) (fun _ => ?_) (fun c => False.elim (by revert c; decide))
        exact m_vret hx hb hr hlocks hW (⟨hI, trivial⟩) dX9_keepIfBetter_59
    · have i12 := m_c5 (rfl : k.toInt = _) (rfl : x1.toInt = _) c12
      refine lv_iload_n hx hb dX9_keepIfBetter_16 rfl (lv_at hl 2 rfl) ?_
      refine lv_aload_n hx hb dX9_keepIfBetter_17 rfl (lv_at hl 0 rfl) ?_
      refine m_geti hx hb hts hown hW (54) 1 rfl rfl cw_9 rfl (by decide) k_X9_15 dX9_keepIfBetter_18 ?_
      refine lv_topi (fun x18 ex18 => ?_)
      refine lv_icmp_ge (tgt := 28) hx hb dX9_keepIfBetter_21 (by decide) (fun c19 => ?_) (fun c19 => ?_)
      · have i19 := m_c3 (rfl : x18.toInt = _) (rfl : u.toInt = _) c19
        refine lv_iconst (v := 0) hx hb dX9_keepIfBetter_28 (by decide) ?_
        refine lv_istore (lv' := [(4, .int 0), (0, .ref (b + 54)), (1, .int k), (2, .int u), (3, .int v)]) hx hb dX9_keepIfBetter_29 hl (by decide) rfl (fun ls hl => ?_)
        refine lv_aload_n hx hb dX9_keepIfBetter_31 rfl (lv_at hl 1 rfl) ?_
        refine m_geti hx hb hts hown hW (54) 2 rfl rfl cw_9 rfl (by decide) k_X9_18 dX9_keepIfBetter_32 ?_
        refine lv_topi (fun x20 ex20 => ?_)
        refine lv_iconst (v := (-1)) hx hb dX9_keepIfBetter_35 (by decide) ?_
        refine lv_icmp_eq (tgt := 44) hx hb dX9_keepIfBetter_36 (by decide) (fun c21 => ?_) (fun c21 => ?_)
        · have i21 := m_c5 (rfl : x20.toInt = _) (by decide : ((-1) : Int32).toInt = (-1)) c21
          refine lv_aload_n hx hb dX9_keepIfBetter_44 rfl (lv_at hl 1 rfl) ?_
          refine lv_iload_n hx hb dX9_keepIfBetter_45 rfl (lv_at hl 2 rfl) ?_
          refine m_puti hx hb hts hown hW (54) 0 rfl rfl cw_9 tyX9_ok nmX9 rfl (by decide) k_X9_9 rfl rfl rfl dX9_keepIfBetter_46 (fun H locs hW _ => ?_)
          generalize hμ22 : m_si μ (54) 0 k = μ22 at hW
          have hI := hI.si0 hμ22 rfl hS8
          refine lv_aload_n hx hb dX9_keepIfBetter_49 rfl (lv_at hl 1 rfl) ?_
          refine lv_iload_n hx hb dX9_keepIfBetter_50 rfl (lv_at hl 3 rfl) ?_
          refine m_puti hx hb hts hown hW (54) 1 rfl rfl cw_9 tyX9_ok nmX9 rfl (by decide) k_X9_15 rfl rfl rfl dX9_keepIfBetter_51 (fun H locs hW _ => ?_)
          generalize hμ23 : m_si μ22 (54) 1 u = μ23 at hW
          have hI := hI.si0 hμ23 rfl hS8
          refine lv_aload_n hx hb dX9_keepIfBetter_54 rfl (lv_at hl 1 rfl) ?_
          refine lv_iload_n hx hb dX9_keepIfBetter_55 rfl (lv_at hl 4 rfl) ?_
          refine m_puti hx hb hts hown hW (54) 2 rfl rfl cw_9 tyX9_ok nmX9 rfl (by decide) k_X9_18 rfl rfl rfl dX9_keepIfBetter_56 (fun H locs hW _ => ?_)
          generalize hμ24 : m_si μ23 (54) 2 v = μ24 at hW
          have hI := hI.si0 hμ24 rfl hS8
          exact m_vret hx hb hr hlocks hW (⟨hI, trivial⟩) dX9_keepIfBetter_59
        · have i21 := m_c6 (rfl : x20.toInt = _) (by decide : ((-1) : Int32).toInt = (-1)) c21
          refine lv_iload hx hb dX9_keepIfBetter_39 (lv_at hl 0 rfl) ?_
          refine lv_if_eq (tgt := 59) hx hb dX9_keepIfBetter_41 (by decide) (fun _ => ?_) (fun c => False.elim (by revert c; decide))
          exact m_vret hx hb hr hlocks hW (⟨hI, trivial⟩) dX9_keepIfBetter_59
      · have i19 := m_c4 (rfl : x18.toInt = _) (rfl : u.toInt = _) c19
        refine lv_iconst (v := 1) hx hb dX9_keepIfBetter_24 (by decide) ?_
        refine lv_goto (tgt := 29) hx hb dX9_keepIfBetter_25 (by decide) ?_
        refine lv_istore (lv' := [(4, .int 1), (0, .ref (b + 54)), (1, .int k), (2, .int u), (3, .int v)]) hx hb dX9_keepIfBetter_29 hl (by decide) rfl (fun ls hl => ?_)
        refine lv_aload_n hx hb dX9_keepIfBetter_31 rfl (lv_at hl 1 rfl) ?_
        refine m_geti hx hb hts hown hW (54) 2 rfl rfl cw_9 rfl (by decide) k_X9_18 dX9_keepIfBetter_32 ?_
        refine lv_topi (fun x25 ex25 => ?_)
        refine lv_iconst (v := (-1)) hx hb dX9_keepIfBetter_35 (by decide) ?_
        refine lv_icmp_eq (tgt := 44) hx hb dX9_keepIfBetter_36 (by decide) (fun c26 => ?_) (fun c26 => ?_)
        · have i26 := m_c5 (rfl : x25.toInt = _) (by decide : ((-1) : Int32).toInt = (-1)) c26
          refine lv_aload_n hx hb dX9_keepIfBetter_44 rfl (lv_at hl 1 rfl) ?_
          refine lv_iload_n hx hb dX9_keepIfBetter_45 rfl (lv_at hl 2 rfl) ?_
          refine m_puti hx hb hts hown hW (54) 0 rfl rfl cw_9 tyX9_ok nmX9 rfl (by decide) k_X9_9 rfl rfl rfl dX9_keepIfBetter_46 (fun H locs hW _ => ?_)
          generalize hμ27 : m_si μ (54) 0 k = μ27 at hW
          have hI := hI.si0 hμ27 rfl hS8
          refine lv_aload_n hx hb dX9_keepIfBetter_49 rfl (lv_at hl 1 rfl) ?_
          refine lv_iload_n hx hb dX9_keepIfBetter_50 rfl (lv_at hl 3 rfl) ?_
          refine m_puti hx hb hts hown hW (54) 1 rfl rfl cw_9 tyX9_ok nmX9 rfl (by decide) k_X9_15 rfl rfl rfl dX9_keepIfBetter_51 (fun H locs hW _ => ?_)
          generalize hμ28 : m_si μ27 (54) 1 u = μ28 at hW
          have hI := hI.si0 hμ28 rfl hS8
          refine lv_aload_n hx hb dX9_keepIfBetter_54 rfl (lv_at hl 1 rfl) ?_
          refine lv_iload_n hx hb dX9_keepIfBetter_55 rfl (lv_at hl 4 rfl) ?_
          refine m_puti hx hb hts hown hW (54) 2 rfl rfl cw_9 tyX9_ok nmX9 rfl (by decide) k_X9_18 rfl rfl rfl dX9_keepIfBetter_56 (fun H locs hW _ => ?_)
          generalize hμ29 : m_si μ28 (54) 2 v = μ29 at hW
          have hI := hI.si0 hμ29 rfl hS8
          exact m_vret hx hb hr hlocks hW (⟨hI, trivial⟩) dX9_keepIfBetter_59
        · have i26 := m_c6 (rfl : x25.toInt = _) (by decide : ((-1) : Int32).toInt = (-1)) c26
          refine lv_iload hx hb dX9_keepIfBetter_39 (lv_at hl 0 rfl) ?_
          refine lv_if_eq (tgt := 59) hx hb dX9_keepIfBetter_41 (by decide) (fun c => False.elim (by revert c; decide)) (fun _ => ?_)
          refine lv_aload_n hx hb dX9_keepIfBetter_44 rfl (lv_at hl 1 rfl) ?_
          refine lv_iload_n hx hb dX9_keepIfBetter_45 rfl (lv_at hl 2 rfl) ?_
          refine m_puti hx hb hts hown hW (54) 0 rfl rfl cw_9 tyX9_ok nmX9 rfl (by decide) k_X9_9 rfl rfl rfl dX9_keepIfBetter_46 (fun H locs hW _ => ?_)
          generalize hμ30 : m_si μ (54) 0 k = μ30 at hW
          have hI := hI.si0 hμ30 rfl hS8
          refine lv_aload_n hx hb dX9_keepIfBetter_49 rfl (lv_at hl 1 rfl) ?_
          refine lv_iload_n hx hb dX9_keepIfBetter_50 rfl (lv_at hl 3 rfl) ?_
          refine m_puti hx hb hts hown hW (54) 1 rfl rfl cw_9 tyX9_ok nmX9 rfl (by decide) k_X9_15 rfl rfl rfl dX9_keepIfBetter_51 (fun H locs hW _ => ?_)
          generalize hμ31 : m_si μ30 (54) 1 u = μ31 at hW
          have hI := hI.si0 hμ31 rfl hS8
          refine lv_aload_n hx hb dX9_keepIfBetter_54 rfl (lv_at hl 1 rfl) ?_
          refine lv_iload_n hx hb dX9_keepIfBetter_55 rfl (lv_at hl 4 rfl) ?_
          refine m_puti hx hb hts hown hW (54) 2 rfl rfl cw_9 tyX9_ok nmX9 rfl (by decide) k_X9_18 rfl rfl rfl dX9_keepIfBetter_56 (fun H locs hW _ => ?_)
          generalize hμ32 : m_si μ31 (54) 2 v = μ32 at hW
          have hI := hI.si0 hμ32 rfl hS8
          exact m_vret hx hb hr hlocks hW (⟨hI, trivial⟩) dX9_keepIfBetter_59
set_option maxHeartbeats 4000000 in
set_option maxRecDepth 100000 in
theorem L_X9_choose_4 {p : Program} {l : Launch} {e : Env} {s : State} {m : MethodId} {args : Array Value} {below : List Frame} {meth : Method} {c : Code} {D : va_G} {cy : Nat → ClassId} {b : Nat} (hx : p.tables.exec = Jvm.exec) (hb : c.code = cX9_choose) (hr : meth.sig.returnType = ((some .int))) (hml : c.maxLocals = 4) (hown : s.vm.findClass RX9 = some m.cls) (hts : ∀ w ∈ TB, w.before args s = true) (hlocks : meth.locks = false) (S : Nat → Bool) (μ0 : mM) (hS8 : S 8 = true) (k : Int32) : ∀ (f : Nat), ∀ (y2 y3 : Int32) (hy : 0 ≤ y2.toInt ∧ y2.toInt ≤ 3 ∧ 0 ≤ y3.toInt ∧ y3.toInt ≤ 8) (hf : 8 - y3.toInt < (f : Int)) (μ : mM) (hI : IY S μ0 μ) (H : Heap) (locs : List Loc), m_WA (m_A b LAY) D cy s b LAY μ H locs → ∀ ls : Array Slot, lv_has ls 4 [(0, .ref (b + 54)), (1, .int k), (2, .int y2), (3, .int y3)] → W p l e (m_R 0 0 0) s m args below meth c H locs 0 0 (MQ below (m_Qi D cy b LAY (fun r ν => IY S μ0 ν ∧ (0 ≤ r.toInt ∧ r.toInt ≤ 3))) args s 0 0 (m_A b LAY)) (F0 m 4 ls []) := by
  intro f
  induction f with
  | zero => intro y2 y3 hy hf; exfalso; omega
  | succ f ih =>
    intro y2 y3 hy hf μ hI H locs hW ls hl
    refine lv_iload_n hx hb dX9_choose_4 rfl (lv_at hl 3 rfl) ?_
    refine lv_bipush (v := 8) hx hb dX9_choose_5 (by decide) ?_
    refine lv_icmp_ge (tgt := 40) hx hb dX9_choose_7 (by decide) (fun c1 => ?_) (fun c1 => ?_)
    · have i1 := m_c3 (by decide : (8 : Int32).toInt = 8) (rfl : y3.toInt = _) c1
      refine lv_iload_n hx hb dX9_choose_40 rfl (lv_at hl 2 rfl) ?_
      exact m_iret hx hb hr hlocks hW rfl (⟨hI, by omega⟩) dX9_choose_41
    · have i1 := m_c4 (by decide : (8 : Int32).toInt = 8) (rfl : y3.toInt = _) c1
      refine lv_iload_n hx hb dX9_choose_10 rfl (lv_at hl 2 rfl) ?_
      refine lv_iconst (v := 3) hx hb dX9_choose_11 (by decide) ?_
      refine lv_icmp_ge (tgt := 40) hx hb dX9_choose_12 (by decide) (fun c2 => ?_) (fun c2 => ?_)
      · have i2 := m_c3 (by decide : (3 : Int32).toInt = 3) (rfl : y2.toInt = _) c2
        refine lv_iload_n hx hb dX9_choose_40 rfl (lv_at hl 2 rfl) ?_
        exact m_iret hx hb hr hlocks hW rfl (⟨hI, by omega⟩) dX9_choose_41
      · have i2 := m_c4 (by decide : (3 : Int32).toInt = 3) (rfl : y2.toInt = _) c2
        refine lv_iload_n hx hb dX9_choose_15 rfl (lv_at hl 1 rfl) ?_
        refine lv_iload_n hx hb dX9_choose_16 rfl (lv_at hl 3 rfl) ?_
        refine lv_ishr hx hb dX9_choose_17 ?_
        refine lv_topi (fun x3 ex3 => ?_)
        refine lv_iconst (v := 1) hx hb dX9_choose_18 (by decide) ?_
        refine lv_iand hx hb dX9_choose_19 ?_
        refine lv_topi (fun x4 ex4 => ?_)
        have bx4 : 0 ≤ x4.toInt ∧ x4.toInt ≤ 1 := m_andN (n := 1) ex4 rfl (by decide)
        refine lv_iconst (v := 1) hx hb dX9_choose_20 (by decide) ?_
        refine lv_icmp_ne (tgt := 34) hx hb dX9_choose_21 (by decide) (fun c5 => ?_) (fun c5 => ?_)
        · have i5 := m_c6 (rfl : x4.toInt = _) (by decide : (1 : Int32).toInt = 1) c5
          obtain ⟨x6, ex6⟩ : ∃ z : Int32, z = y3 + 1 := ⟨_, rfl⟩
          refine lv_iinc (v := x6) (lv' := [(3, .int x6), (0, .ref (b + 54)), (1, .int k), (2, .int y2)]) hx hb dX9_choose_34 hl (k := 3) rfl (by rw [ex6]; rfl) (by decide) rfl (fun ls hl => ?_)
          have tx6 : x6.toInt = y3.toInt + 1 := m_addI ex6 (rfl : y3.toInt = _) (by decide : (1 : Int32).toInt = 1) (by omega) (by omega)
          refine lv_goto (tgt := 4) hx hb dX9_choose_37 (by decide) ?_
          exact ih y2 x6 (by omega) (by omega) μ hI _ _ hW ls (lv_sub hl [1, 2, 3, 0] rfl)
        · have i5 := m_c5 (rfl : x4.toInt = _) (by decide : (1 : Int32).toInt = 1) c5
          refine lv_aload_n hx hb dX9_choose_24 rfl (lv_at hl 0 rfl) ?_
          refine m_getr hx hb hts hown hW (54) 6 (70) rfl rfl cw_9 rfl (by decide) k_X9_44 dX9_choose_25 ?_
          refine lv_iload_n hx hb dX9_choose_28 rfl (lv_at hl 2 rfl) ?_
          refine lv_iload_n hx hb dX9_choose_29 rfl (lv_at hl 3 rfl) ?_
          refine m_iast hx hb hW (70) rfl (m_ixI (rfl : y2.toInt = _) (by omega) (by omega)) dX9_choose_30 (fun H locs hW _ => ?_)
          generalize hμ7 : m_si μ (70) (y2 : Int32).toNatClampNeg y3 = μ7 at hW
          have hI := hI.si0 hμ7 rfl hS8
          obtain ⟨x8, ex8⟩ : ∃ z : Int32, z = y2 + 1 := ⟨_, rfl⟩
          refine lv_iinc (v := x8) (lv' := [(2, .int x8), (0, .ref (b + 54)), (1, .int k), (3, .int y3)]) hx hb dX9_choose_31 hl (k := 2) rfl (by rw [ex8]; rfl) (by decide) rfl (fun ls hl => ?_)
          have tx8 : x8.toInt = y2.toInt + 1 := m_addI ex8 (rfl : y2.toInt = _) (by decide : (1 : Int32).toInt = 1) (by omega) (by omega)
          obtain ⟨x9, ex9⟩ : ∃ z : Int32, z = y3 + 1 := ⟨_, rfl⟩
          refine lv_iinc (v := x9) (lv' := [(3, .int x9), (2, .int x8), (0, .ref (b + 54)), (1, .int k)]) hx hb dX9_choose_34 hl (k := 3) rfl (by rw [ex9]; rfl) (by decide) rfl (fun ls hl => ?_)
          have tx9 : x9.toInt = y3.toInt + 1 := m_addI ex9 (rfl : y3.toInt = _) (by decide : (1 : Int32).toInt = 1) (by omega) (by omega)
          refine lv_goto (tgt := 4) hx hb dX9_choose_37 (by decide) ?_
          exact ih x8 x9 (by omega) (by omega) μ7 hI _ _ hW ls (lv_sub hl [2, 3, 1, 0] rfl)
set_option maxHeartbeats 4000000 in
set_option maxRecDepth 100000 in
theorem g_X9_choose (l : Launch) (D : va_G) (cy : Nat → ClassId) (b : Nat) (S : Nat → Bool) (μ0 : mM) (hS8 : S 8 = true) (k : Int32) (μ : mM) (hI : IY S μ0 μ) : m_Ci l yX9_choose cX9_choose 4 ((some .int)) 0 D cy b LAY μ [.ref (b + 54), .int k] (fun r ν => IY S μ0 ν ∧ (0 ≤ r.toInt ∧ r.toInt ≤ 3)) := by
  unfold m_Ci
  refine m_of (by decide) (Nat.le_of_ble_eq_true rfl) ?_
  intro p e s m below meth c hx hb hr hml hown hts hlocks _ hW ls hl
  have hown : s.vm.findClass RX9 = some m.cls := hown
  have hl : lv_has ls 4 [(0, .ref (b + 54)), (1, .int k)] := hl
  refine lv_iconst (v := 0) hx hb dX9_choose_0 (by decide) ?_
  refine lv_istore_n (lv' := [(2, .int 0), (0, .ref (b + 54)), (1, .int k)]) hx hb dX9_choose_1 rfl hl (by decide) rfl (fun ls hl => ?_)
  refine lv_iconst (v := 0) hx hb dX9_choose_2 (by decide) ?_
  refine lv_istore_n (lv' := [(3, .int 0), (2, .int 0), (0, .ref (b + 54)), (1, .int k)]) hx hb dX9_choose_3 rfl hl (by decide) rfl (fun ls hl => ?_)
  have l_0 : (0 : Int32).toInt = 0 := by decide
  exact L_X9_choose_4 hx hb hr hml hown hts hlocks S μ0 hS8 k  9 0 0 (by omega) (by omega) μ hI _ _ hW ls (lv_sub hl [2, 3, 1, 0] rfl)
set_option maxHeartbeats 4000000 in
set_option maxRecDepth 100000 in
theorem L_X9_leastSpeed_85 {p : Program} {l : Launch} {e : Env} {s : State} {m : MethodId} {args : Array Value} {below : List Frame} {meth : Method} {c : Code} {D : va_G} {cy : Nat → ClassId} {b : Nat} (hx : p.tables.exec = Jvm.exec) (hb : c.code = cX9_leastSpeed) (hr : meth.sig.returnType = ((some .int))) (hml : c.maxLocals = 6) (hown : s.vm.findClass RX9 = some m.cls) (hts : ∀ w ∈ TB, w.before args s = true) (hlocks : meth.locks = false) (S : Nat → Bool) (μ0 : mM) (hS8 : S 8 = true) (k u : Int32) : ∀ (f : Nat), ∀ (y5 : Int32) (hy : 1 ≤ y5.toInt ∧ y5.toInt ≤ 21) (hf : 21 - y5.toInt < (f : Int)) (μ : mM) (hI : IY S μ0 μ) (H : Heap) (locs : List Loc), m_WA (m_A b LAY) D cy s b LAY μ H locs → ∀ ls : Array Slot, lv_has ls 6 [(0, .ref (b + 54)), (1, .ref (b + 1)), (2, .ref (b + 41)), (3, .int k), (4, .int u), (5, .int y5)] → W p l e (m_R 6 0 0) s m args below meth c H locs 0 0 (MQ below (m_Qi D cy b LAY (fun r ν => IY S μ0 ν ∧ (True))) args s 0 0 (m_A b LAY)) (F0 m 85 ls []) := by
  intro f
  induction f with
  | zero => intro y5 hy hf; exfalso; omega
  | succ f ih =>
    intro y5 hy hf μ hI H locs hW ls hl
    refine lv_iload hx hb dX9_leastSpeed_85 (lv_at hl 5 rfl) ?_
    refine lv_bipush (v := 20) hx hb dX9_leastSpeed_87 (by decide) ?_
    refine lv_icmp_gt (tgt := 148) hx hb dX9_leastSpeed_89 (by decide) (fun c1 => ?_) (fun c1 => ?_)
    · have i1 := m_c1 (by decide : (20 : Int32).toInt = 20) (rfl : y5.toInt = _) c1
      refine lv_iconst (v := (-1)) hx hb dX9_leastSpeed_148 (by decide) ?_
      exact m_iret hx hb hr hlocks hW rfl (⟨hI, trivial⟩) dX9_leastSpeed_149
    · have i1 := m_c2 (by decide : (20 : Int32).toInt = 20) (rfl : y5.toInt = _) c1
      refine lv_aload_n hx hb dX9_leastSpeed_92 rfl (lv_at hl 0 rfl) ?_
      refine m_getr hx hb hts hown hW (54) 5 (59) rfl rfl cw_9 rfl (by decide) k_X9_40 dX9_leastSpeed_93 ?_
      refine lv_aload_n hx hb dX9_leastSpeed_96 rfl (lv_at hl 2 rfl) ?_
      refine m_aV hW (m_runV (As := [.ref (b + 41)]) (rest := []) hx hb hml hown hts hW (59) (g_X3_copyFrom_59 l D cy b S μ0 hS8 μ hI) mi_X3_copyFrom k_X9_59 rfl rfl rfl hl.1 rfl (Nat.le_of_ble_eq_true rfl) dX9_leastSpeed_97 ⟨Nat.le_of_ble_eq_true rfl, Nat.le_of_ble_eq_true rfl⟩ ⟨Nat.le_of_ble_eq_true rfl, Nat.le_of_ble_eq_true rfl⟩) (fun μ2 H locs q2 hW => ?_)
      obtain ⟨hI, q2⟩ := q2
      refine lv_aload_n hx hb dX9_leastSpeed_100 rfl (lv_at hl 0 rfl) ?_
      refine m_getr hx hb hts hown hW (54) 5 (59) rfl rfl cw_9 rfl (by decide) k_X9_40 dX9_leastSpeed_101 ?_
      refine m_getr hx hb hts hown hW (59) 10 (60) rfl rfl cw_3 rfl (by decide) k_X9_84 dX9_leastSpeed_104 ?_
      refine lv_iload hx hb dX9_leastSpeed_107 (lv_at hl 5 rfl) ?_
      refine m_puti hx hb hts hown hW (60) 3 rfl rfl cw_1 tyX1_ok nmX1 rfl (by decide) k_X9_113 rfl rfl rfl dX9_leastSpeed_109 (fun H locs hW _ => ?_)
      generalize hμ3 : m_si μ2 (60) 3 y5 = μ3 at hW
      have hI := hI.si0 hμ3 rfl hS8
      refine lv_aload_n hx hb dX9_leastSpeed_112 rfl (lv_at hl 0 rfl) ?_
      refine m_getr hx hb hts hown hW (54) 3 (55) rfl rfl cw_9 rfl (by decide) k_X9_24 dX9_leastSpeed_113 ?_
      refine lv_aload_n hx hb dX9_leastSpeed_116 rfl (lv_at hl 0 rfl) ?_
      refine m_getr hx hb hts hown hW (54) 4 (57) rfl rfl cw_9 rfl (by decide) k_X9_33 dX9_leastSpeed_117 ?_
      refine lv_aload_n hx hb dX9_leastSpeed_120 rfl (lv_at hl 0 rfl) ?_
      refine m_getr hx hb hts hown hW (54) 5 (59) rfl rfl cw_9 rfl (by decide) k_X9_40 dX9_leastSpeed_121 ?_
      refine lv_aload_n hx hb dX9_leastSpeed_124 rfl (lv_at hl 1 rfl) ?_
      refine m_aI hW (m_runV (As := [.ref (b + 57), .ref (b + 59), .ref (b + 1)]) (rest := []) hx hb hml hown hts hW (55) (g_X6_perform_55 l D cy b S μ0 hS8 57 58 4 rfl rfl (by decide) rfl (fun _ => rfl) μ3 hI) mi_X6_perform k_X9_69 rfl rfl rfl hl.1 rfl (Nat.le_of_ble_eq_true rfl) dX9_leastSpeed_125 ⟨Nat.le_of_ble_eq_true rfl, Nat.le_of_ble_eq_true rfl⟩ ⟨Nat.le_of_ble_eq_true rfl, Nat.le_of_ble_eq_true rfl⟩) (fun x4 μ4 H locs q4 hW => ?_)
      obtain ⟨hI, q4⟩ := q4
      refine lv_pop hx hb dX9_leastSpeed_128 rfl ?_
      refine lv_aload_n hx hb dX9_leastSpeed_129 rfl (lv_at hl 0 rfl) ?_
      refine lv_iload_n hx hb dX9_leastSpeed_130 rfl (lv_at hl 3 rfl) ?_
      refine lv_iload hx hb dX9_leastSpeed_131 (lv_at hl 4 rfl) ?_
      refine m_aI hW (m_runV (As := [.int k, .int u]) (rest := []) hx hb hml hown hts hW (54) (g_X9_noneIsThereBehind l D cy b k u μ4 hI.1) mi_X9_noneIsThereBehind k_X9_116 rfl rfl rfl hl.1 rfl (Nat.le_of_ble_eq_true rfl) dX9_leastSpeed_133 ⟨Nat.le_of_ble_eq_true rfl, Nat.le_of_ble_eq_true rfl⟩ ⟨Nat.le_of_ble_eq_true rfl, Nat.le_of_ble_eq_true rfl⟩) (fun x5 μ5 H locs q5 hW => ?_)
      obtain ⟨q5_m, q5⟩ := q5
      subst q5_m
      rcases q5 with ⟨rfl, q5⟩ | ⟨rfl, q5⟩
      · refine lv_if_eq (tgt := 142) hx hb dX9_leastSpeed_136 (by decide) (fun c => False.elim (by revert c; decide)) (fun _ => ?_)
        refine lv_iload hx hb dX9_leastSpeed_139 (lv_at hl 5 rfl) ?_
        exact m_iret hx hb hr hlocks hW rfl (⟨hI, trivial⟩) dX9_leastSpeed_141
      · refine lv_if_eq (tgt := 142) hx hb dX9_leastSpeed_136 (by decide) (fun _ => ?_) (fun c => False.elim (by revert c; decide))
        obtain ⟨x6, ex6⟩ : ∃ z : Int32, z = y5 + 1 := ⟨_, rfl⟩
        refine lv_iinc (v := x6) (lv' := [(5, .int x6), (0, .ref (b + 54)), (1, .ref (b + 1)), (2, .ref (b + 41)), (3, .int k), (4, .int u)]) hx hb dX9_leastSpeed_142 hl (k := 5) rfl (by rw [ex6]; rfl) (by decide) rfl (fun ls hl => ?_)
        have tx6 : x6.toInt = y5.toInt + 1 := m_addI ex6 (rfl : y5.toInt = _) (by decide : (1 : Int32).toInt = 1) (by omega) (by omega)
        refine lv_goto (tgt := 85) hx hb dX9_leastSpeed_145 (by decide) ?_
        exact ih x6 (by omega) (by omega) μ4 hI _ _ hW ls (lv_sub hl [1, 2, 3, 4, 5, 0] rfl)
set_option maxHeartbeats 4000000 in
set_option maxRecDepth 100000 in
theorem g_X9_leastSpeed (l : Launch) (D : va_G) (cy : Nat → ClassId) (b : Nat) (S : Nat → Bool) (μ0 : mM) (hS8 : S 8 = true) (k u : Int32) (μ : mM) (hI : IY S μ0 μ) : m_Ci l yX9_leastSpeed cX9_leastSpeed 6 ((some .int)) 6 D cy b LAY μ [.ref (b + 54), .ref (b + 1), .ref (b + 41), .int k, .int u] (fun r ν => IY S μ0 ν ∧ (True)) := by
  unfold m_Ci
  refine m_of (by decide) (Nat.le_of_ble_eq_true rfl) ?_
  intro p e s m below meth c hx hb hr hml hown hts hlocks _ hW ls hl
  have hown : s.vm.findClass RX9 = some m.cls := hown
  have hl : lv_has ls 6 [(0, .ref (b + 54)), (1, .ref (b + 1)), (2, .ref (b + 41)), (3, .int k), (4, .int u)] := hl
  refine lv_aload_n hx hb dX9_leastSpeed_0 rfl (lv_at hl 2 rfl) ?_
  refine lv_aload_n hx hb dX9_leastSpeed_1 rfl (lv_at hl 2 rfl) ?_
  refine m_getr hx hb hts hown hW (41) 10 (42) rfl rfl cw_3 rfl (by decide) k_X9_84 dX9_leastSpeed_2 ?_
  refine m_geti hx hb hts hown hW (42) 0 rfl rfl cw_1 rfl (by decide) k_X9_88 dX9_leastSpeed_5 ?_
  refine lv_topi (fun x1 ex1 => ?_)
  refine lv_iload_n hx hb dX9_leastSpeed_8 rfl (lv_at hl 3 rfl) ?_
  refine m_aI hW (m_runSN (As := [.int k]) (rest := [.int x1, .ref (b + 41)]) hx hb hml hown hts hW (g_X11_stepX l D cy b k μ hI.1) ms_X11_stepX n_X9_93 rfl hl.1 rfl (Nat.le_of_ble_eq_true rfl) dX9_leastSpeed_9 ⟨Nat.le_of_ble_eq_true rfl, Nat.le_of_ble_eq_true rfl⟩ ⟨Nat.le_of_ble_eq_true rfl, Nat.le_of_ble_eq_true rfl⟩) (fun x2 μ2 H locs q2 hW => ?_)
  obtain ⟨q2_m, q2⟩ := q2
  subst q2_m
  refine lv_iload hx hb dX9_leastSpeed_12 (lv_at hl 4 rfl) ?_
  refine lv_imul hx hb dX9_leastSpeed_14 ?_
  refine lv_topi (fun x3 ex3 => ?_)
  refine lv_iadd hx hb dX9_leastSpeed_15 ?_
  refine lv_topi (fun x4 ex4 => ?_)
  refine lv_aload_n hx hb dX9_leastSpeed_16 rfl (lv_at hl 2 rfl) ?_
  refine m_getr hx hb hts hown hW (41) 10 (42) rfl rfl cw_3 rfl (by decide) k_X9_84 dX9_leastSpeed_17 ?_
  refine m_geti hx hb hts hown hW (42) 1 rfl rfl cw_1 rfl (by decide) k_X9_96 dX9_leastSpeed_20 ?_
  refine lv_topi (fun x5 ex5 => ?_)
  refine lv_iload_n hx hb dX9_leastSpeed_23 rfl (lv_at hl 3 rfl) ?_
  refine m_aI hW (m_runSN (As := [.int k]) (rest := [.int x5, .int x4, .ref (b + 41)]) hx hb hml hown hts hW (g_X11_stepY l D cy b k μ hI.1) ms_X11_stepY n_X9_99 rfl hl.1 rfl (Nat.le_of_ble_eq_true rfl) dX9_leastSpeed_24 ⟨Nat.le_of_ble_eq_true rfl, Nat.le_of_ble_eq_true rfl⟩ ⟨Nat.le_of_ble_eq_true rfl, Nat.le_of_ble_eq_true rfl⟩) (fun x6 μ6 H locs q6 hW => ?_)
  obtain ⟨q6_m, q6⟩ := q6
  subst q6_m
  refine lv_iload hx hb dX9_leastSpeed_27 (lv_at hl 4 rfl) ?_
  refine lv_imul hx hb dX9_leastSpeed_29 ?_
  refine lv_topi (fun x7 ex7 => ?_)
  refine lv_iadd hx hb dX9_leastSpeed_30 ?_
  refine lv_topi (fun x8 ex8 => ?_)
  refine m_aI hW (m_runV (As := [.int x4, .int x8]) (rest := []) hx hb hml hown hts hW (41) (g_X3_has_41 l D cy b x4 x8 μ hI.1) mi_X3_has k_X9_102 rfl rfl rfl hl.1 rfl (Nat.le_of_ble_eq_true rfl) dX9_leastSpeed_31 ⟨Nat.le_of_ble_eq_true rfl, Nat.le_of_ble_eq_true rfl⟩ ⟨Nat.le_of_ble_eq_true rfl, Nat.le_of_ble_eq_true rfl⟩) (fun x9 μ9 H locs q9 hW => ?_)
  obtain ⟨q9_m, q9⟩ := q9
  subst q9_m
  rcases q9 with ⟨rfl, q9⟩ | ⟨rfl, q9⟩
  · refine lv_if_ne (tgt := 39) hx hb dX9_leastSpeed_34 (by decide) (fun _ => ?_) (fun c => False.elim (by revert c; decide))
    refine lv_aload_n hx hb dX9_leastSpeed_39 rfl (lv_at hl 0 rfl) ?_
    refine m_getr hx hb hts hown hW (54) 4 (57) rfl rfl cw_9 rfl (by decide) k_X9_33 dX9_leastSpeed_40 ?_
    refine lv_iconst (v := 0) hx hb dX9_leastSpeed_43 (by decide) ?_
    refine m_puti hx hb hts hown hW (57) 1 rfl rfl cw_5 tyX5_ok nmX5 rfl (by decide) k_X9_105 rfl rfl rfl dX9_leastSpeed_44 (fun H locs hW _ => ?_)
    generalize hμ10 : m_si μ (57) 1 0 = μ10 at hW
    have hI := hI.si1 hμ10 rfl (by decide) hS8
    refine lv_aload_n hx hb dX9_leastSpeed_47 rfl (lv_at hl 0 rfl) ?_
    refine m_getr hx hb hts hown hW (54) 4 (57) rfl rfl cw_9 rfl (by decide) k_X9_33 dX9_leastSpeed_48 ?_
    refine lv_bipush (v := 9) hx hb dX9_leastSpeed_51 (by decide) ?_
    have l_9 : (9 : Int32).toInt = 9 := by decide
    refine m_aV hW (m_runV (As := [.int 9]) (rest := []) hx hb hml hown hts hW (57) (g_X5_add l D cy b S μ0 57 58 4 rfl rfl (by decide) rfl (fun _ => rfl) hS8 (fun _ => hS8) 9 μ10 hI) mi_X5_add k_X9_110 rfl rfl rfl hl.1 rfl (Nat.le_of_ble_eq_true rfl) dX9_leastSpeed_53 ⟨Nat.le_of_ble_eq_true rfl, Nat.le_of_ble_eq_true rfl⟩ ⟨Nat.le_of_ble_eq_true rfl, Nat.le_of_ble_eq_true rfl⟩) (fun μ11 H locs q11 hW => ?_)
    obtain ⟨hI, q11⟩ := q11
    refine lv_aload_n hx hb dX9_leastSpeed_56 rfl (lv_at hl 0 rfl) ?_
    refine m_getr hx hb hts hown hW (54) 4 (57) rfl rfl cw_9 rfl (by decide) k_X9_33 dX9_leastSpeed_57 ?_
    refine lv_bipush (v := 12) hx hb dX9_leastSpeed_60 (by decide) ?_
    have l_12 : (12 : Int32).toInt = 12 := by decide
    refine m_aV hW (m_runV (As := [.int 12]) (rest := []) hx hb hml hown hts hW (57) (g_X5_add l D cy b S μ0 57 58 4 rfl rfl (by decide) rfl (fun _ => rfl) hS8 (fun _ => hS8) 12 μ11 hI) mi_X5_add k_X9_110 rfl rfl rfl hl.1 rfl (Nat.le_of_ble_eq_true rfl) dX9_leastSpeed_62 ⟨Nat.le_of_ble_eq_true rfl, Nat.le_of_ble_eq_true rfl⟩ ⟨Nat.le_of_ble_eq_true rfl, Nat.le_of_ble_eq_true rfl⟩) (fun μ12 H locs q12 hW => ?_)
    obtain ⟨hI, q12⟩ := q12
    refine lv_aload_n hx hb dX9_leastSpeed_65 rfl (lv_at hl 0 rfl) ?_
    refine m_getr hx hb hts hown hW (54) 4 (57) rfl rfl cw_9 rfl (by decide) k_X9_33 dX9_leastSpeed_66 ?_
    refine lv_iload_n hx hb dX9_leastSpeed_69 rfl (lv_at hl 3 rfl) ?_
    refine m_aV hW (m_runV (As := [.int k]) (rest := []) hx hb hml hown hts hW (57) (g_X5_add l D cy b S μ0 57 58 4 rfl rfl (by decide) rfl (fun _ => rfl) hS8 (fun _ => hS8) k μ12 hI) mi_X5_add k_X9_110 rfl rfl rfl hl.1 rfl (Nat.le_of_ble_eq_true rfl) dX9_leastSpeed_70 ⟨Nat.le_of_ble_eq_true rfl, Nat.le_of_ble_eq_true rfl⟩ ⟨Nat.le_of_ble_eq_true rfl, Nat.le_of_ble_eq_true rfl⟩) (fun μ13 H locs q13 hW => ?_)
    obtain ⟨hI, q13⟩ := q13
    refine lv_aload_n hx hb dX9_leastSpeed_73 rfl (lv_at hl 0 rfl) ?_
    refine m_getr hx hb hts hown hW (54) 4 (57) rfl rfl cw_9 rfl (by decide) k_X9_33 dX9_leastSpeed_74 ?_
    refine lv_iload hx hb dX9_leastSpeed_77 (lv_at hl 4 rfl) ?_
    refine m_aV hW (m_runV (As := [.int u]) (rest := []) hx hb hml hown hts hW (57) (g_X5_add l D cy b S μ0 57 58 4 rfl rfl (by decide) rfl (fun _ => rfl) hS8 (fun _ => hS8) u μ13 hI) mi_X5_add k_X9_110 rfl rfl rfl hl.1 rfl (Nat.le_of_ble_eq_true rfl) dX9_leastSpeed_79 ⟨Nat.le_of_ble_eq_true rfl, Nat.le_of_ble_eq_true rfl⟩ ⟨Nat.le_of_ble_eq_true rfl, Nat.le_of_ble_eq_true rfl⟩) (fun μ14 H locs q14 hW => ?_)
    obtain ⟨hI, q14⟩ := q14
    refine lv_iconst (v := 1) hx hb dX9_leastSpeed_82 (by decide) ?_
    refine lv_istore (lv' := [(5, .int 1), (0, .ref (b + 54)), (1, .ref (b + 1)), (2, .ref (b + 41)), (3, .int k), (4, .int u)]) hx hb dX9_leastSpeed_83 hl (by decide) rfl (fun ls hl => ?_)
    have l_1 : (1 : Int32).toInt = 1 := by decide
    exact L_X9_leastSpeed_85 hx hb hr hml hown hts hlocks S μ0 hS8 k u  22 1 (by omega) (by omega) μ14 hI _ _ hW ls (lv_sub hl [1, 2, 3, 4, 5, 0] rfl)
  · refine lv_if_ne (tgt := 39) hx hb dX9_leastSpeed_34 (by decide) (fun c => False.elim (by revert c; decide)) (fun _ => ?_)
    refine lv_iconst (v := (-1)) hx hb dX9_leastSpeed_37 (by decide) ?_
    exact m_iret hx hb hr hlocks hW rfl (⟨hI, trivial⟩) dX9_leastSpeed_38
set_option maxHeartbeats 4000000 in
set_option maxRecDepth 100000 in
theorem g_X11_speed (l : Launch) (D : va_G) (cy : Nat → ClassId) (b : Nat) (S : Nat → Bool) (μ0 : mM) (hS8 : S 8 = true) (k u : Int32) (μ : mM) (hI : IY S μ0 μ) : m_Ci l yX11_speed cX11_speed 3 ((some .int)) 7 D cy b LAY μ [.ref (b + 0), .int k, .int u] (fun r ν => IY S μ0 ν ∧ (True)) := by
  unfold m_Ci
  refine m_of (by decide) (Nat.le_of_ble_eq_true rfl) ?_
  intro p e s m below meth c hx hb hr hml hown hts hlocks _ hW ls hl
  have hown : s.vm.findClass RX11 = some m.cls := hown
  have hl : lv_has ls 3 [(0, .ref (b + 0)), (1, .int k), (2, .int u)] := hl
  refine lv_iload_n hx hb dX11_speed_0 rfl (lv_at hl 1 rfl) ?_
  refine lv_iconst (v := 0) hx hb dX11_speed_1 (by decide) ?_
  refine lv_iconst (v := 3) hx hb dX11_speed_2 (by decide) ?_
  have l_0 : (0 : Int32).toInt = 0 := by decide
  have l_3 : (3 : Int32).toInt = 3 := by decide
  refine m_aI hW (m_runS (As := [.int k, .int 0, .int 3]) (rest := []) hx hb hml hown hts hW (g_X11_within l D cy b k 0 3 μ hI.1) ms_X11_within k_X11_81 rfl hl.1 rfl (Nat.le_of_ble_eq_true rfl) dX11_speed_3 ⟨Nat.le_of_ble_eq_true rfl, Nat.le_of_ble_eq_true rfl⟩ ⟨Nat.le_of_ble_eq_true rfl, Nat.le_of_ble_eq_true rfl⟩) (fun x1 μ1 H locs q1 hW => ?_)
  obtain ⟨q1_m, q1⟩ := q1
  subst q1_m
  rcases q1 with ⟨rfl, q1⟩ | ⟨rfl, q1⟩
  · refine lv_if_eq (tgt := 29) hx hb dX11_speed_6 (by decide) (fun c => False.elim (by revert c; decide)) (fun _ => ?_)
    refine lv_iload_n hx hb dX11_speed_9 rfl (lv_at hl 2 rfl) ?_
    refine lv_iconst (v := 1) hx hb dX11_speed_10 (by decide) ?_
    refine lv_bipush (v := 15) hx hb dX11_speed_11 (by decide) ?_
    have l_1 : (1 : Int32).toInt = 1 := by decide
    have l_15 : (15 : Int32).toInt = 15 := by decide
    refine m_aI hW (m_runS (As := [.int u, .int 1, .int 15]) (rest := []) hx hb hml hown hts hW (g_X11_within l D cy b u 1 15 μ hI.1) ms_X11_within k_X11_81 rfl hl.1 rfl (Nat.le_of_ble_eq_true rfl) dX11_speed_13 ⟨Nat.le_of_ble_eq_true rfl, Nat.le_of_ble_eq_true rfl⟩ ⟨Nat.le_of_ble_eq_true rfl, Nat.le_of_ble_eq_true rfl⟩) (fun x2 μ2 H locs q2 hW => ?_)
    obtain ⟨q2_m, q2⟩ := q2
    subst q2_m
    rcases q2 with ⟨rfl, q2⟩ | ⟨rfl, q2⟩
    · refine lv_if_eq (tgt := 29) hx hb dX11_speed_16 (by decide) (fun c => False.elim (by revert c; decide)) (fun _ => ?_)
      refine lv_aload_n hx hb dX11_speed_19 rfl (lv_at hl 0 rfl) ?_
      refine m_getr hx hb hts hown hW (0) 4 (41) rfl rfl cw_11 rfl (by decide) k_X11_38 dX11_speed_20 ?_
      refine m_aI hW (m_runV (As := []) (rest := []) hx hb hml hown hts hW (41) (g_X3_isLaid_41 l D cy b μ hI.1) mi_X3_isLaid k_X11_124 rfl rfl rfl hl.1 rfl (Nat.le_of_ble_eq_true rfl) dX11_speed_23 ⟨Nat.le_of_ble_eq_true rfl, Nat.le_of_ble_eq_true rfl⟩ ⟨Nat.le_of_ble_eq_true rfl, Nat.le_of_ble_eq_true rfl⟩) (fun x3 μ3 H locs q3 hW => ?_)
      obtain ⟨q3_m, q3⟩ := q3
      subst q3_m
      rcases q3 with ⟨rfl, q3⟩ | ⟨rfl, q3⟩
      · refine lv_if_ne (tgt := 31) hx hb dX11_speed_26 (by decide) (fun _ => ?_) (fun c => False.elim (by revert c; decide))
        refine lv_aload_n hx hb dX11_speed_31 rfl (lv_at hl 0 rfl) ?_
        refine m_getr hx hb hts hown hW (0) 6 (54) rfl rfl cw_11 rfl (by decide) k_X11_52 dX11_speed_32 ?_
        refine lv_aload_n hx hb dX11_speed_35 rfl (lv_at hl 0 rfl) ?_
        refine m_getr hx hb hts hown hW (0) 0 (1) rfl rfl cw_11 rfl (by decide) k_X11_10 dX11_speed_36 ?_
        refine lv_aload_n hx hb dX11_speed_39 rfl (lv_at hl 0 rfl) ?_
        refine m_getr hx hb hts hown hW (0) 4 (41) rfl rfl cw_11 rfl (by decide) k_X11_38 dX11_speed_40 ?_
        refine lv_iload_n hx hb dX11_speed_43 rfl (lv_at hl 1 rfl) ?_
        refine lv_iload_n hx hb dX11_speed_44 rfl (lv_at hl 2 rfl) ?_
        refine m_aI hW (m_runV (As := [.ref (b + 1), .ref (b + 41), .int k, .int u]) (rest := []) hx hb hml hown hts hW (54) (g_X9_leastSpeed l D cy b S μ0 hS8 k u μ hI) mi_X9_leastSpeed k_X11_243 rfl rfl rfl hl.1 rfl (Nat.le_of_ble_eq_true rfl) dX11_speed_45 ⟨Nat.le_of_ble_eq_true rfl, Nat.le_of_ble_eq_true rfl⟩ ⟨Nat.le_of_ble_eq_true rfl, Nat.le_of_ble_eq_true rfl⟩) (fun x4 μ4 H locs q4 hW => ?_)
        obtain ⟨hI, q4⟩ := q4
        exact m_iret hx hb hr hlocks hW rfl (⟨hI, trivial⟩) dX11_speed_48
      · refine lv_if_ne (tgt := 31) hx hb dX11_speed_26 (by decide) (fun c => False.elim (by revert c; decide)) (fun _ => ?_)
        refine lv_iconst (v := (-1)) hx hb dX11_speed_29 (by decide) ?_
        exact m_iret hx hb hr hlocks hW rfl (⟨hI, trivial⟩) dX11_speed_30
    · refine lv_if_eq (tgt := 29) hx hb dX11_speed_16 (by decide) (fun _ => ?_) (fun c => False.elim (by revert c; decide))
      refine lv_iconst (v := (-1)) hx hb dX11_speed_29 (by decide) ?_
      exact m_iret hx hb hr hlocks hW rfl (⟨hI, trivial⟩) dX11_speed_30
  · refine lv_if_eq (tgt := 29) hx hb dX11_speed_6 (by decide) (fun _ => ?_) (fun c => False.elim (by revert c; decide))
    refine lv_iconst (v := (-1)) hx hb dX11_speed_29 (by decide) ?_
    exact m_iret hx hb hr hlocks hW rfl (⟨hI, trivial⟩) dX11_speed_30
set_option maxHeartbeats 4000000 in
set_option maxRecDepth 100000 in
theorem g_X11_kind (l : Launch) (D : va_G) (cy : Nat → ClassId) (b : Nat) (S : Nat → Bool) (μ0 : mM) (hS9 : S 9 = true) (k u v : Int32) (μ : mM) (hI : IY S μ0 μ) : m_Ci l yX11_kind cX11_kind 4 ((some .int)) 4 D cy b LAY μ [.ref (b + 0), .int k, .int u, .int v] (fun r ν => IY S μ0 ν ∧ (True)) := by
  unfold m_Ci
  refine m_of (by decide) (Nat.le_of_ble_eq_true rfl) ?_
  intro p e s m below meth c hx hb hr hml hown hts hlocks _ hW ls hl
  have hown : s.vm.findClass RX11 = some m.cls := hown
  have hl : lv_has ls 4 [(0, .ref (b + 0)), (1, .int k), (2, .int u), (3, .int v)] := hl
  refine lv_aload_n hx hb dX11_kind_0 rfl (lv_at hl 0 rfl) ?_
  refine m_getr hx hb hts hown hW (0) 7 (71) rfl rfl cw_11 rfl (by decide) k_X11_59 dX11_kind_1 ?_
  refine lv_iload_n hx hb dX11_kind_4 rfl (lv_at hl 1 rfl) ?_
  refine lv_iload_n hx hb dX11_kind_5 rfl (lv_at hl 2 rfl) ?_
  refine lv_iload_n hx hb dX11_kind_6 rfl (lv_at hl 3 rfl) ?_
  refine m_aI hW (m_runV (As := [.int k, .int u, .int v]) (rest := []) hx hb hml hown hts hW (71) (g_X0_addKind l D cy b S μ0 hS9 k u v μ hI) mi_X0_addKind k_X11_247 rfl rfl rfl hl.1 rfl (Nat.le_of_ble_eq_true rfl) dX11_kind_7 ⟨Nat.le_of_ble_eq_true rfl, Nat.le_of_ble_eq_true rfl⟩ ⟨Nat.le_of_ble_eq_true rfl, Nat.le_of_ble_eq_true rfl⟩) (fun x1 μ1 H locs q1 hW => ?_)
  obtain ⟨hI, q1⟩ := q1
  exact m_iret hx hb hr hlocks hW rfl (⟨hI, trivial⟩) dX11_kind_10
set_option maxHeartbeats 4000000 in
set_option maxRecDepth 100000 in
theorem g_X11_fill (l : Launch) (D : va_G) (cy : Nat → ClassId) (b : Nat) (k u : Int32) (μ : mM) (hI : IX μ) : m_Ci l yX11_fill cX11_fill 3 ((some .int)) 2 D cy b LAY μ [.ref (b + 0), .int k, .int u] (fun r ν => μ = ν ∧ (True)) := by
  unfold m_Ci
  refine m_of (by decide) (Nat.le_of_ble_eq_true rfl) ?_
  intro p e s m below meth c hx hb hr hml hown hts hlocks _ hW ls hl
  have hown : s.vm.findClass RX11 = some m.cls := hown
  have hl : lv_has ls 3 [(0, .ref (b + 0)), (1, .int k), (2, .int u)] := hl
  refine lv_aload_n hx hb dX11_fill_0 rfl (lv_at hl 0 rfl) ?_
  refine m_getr hx hb hts hown hW (0) 7 (71) rfl rfl cw_11 rfl (by decide) k_X11_59 dX11_fill_1 ?_
  refine lv_iload_n hx hb dX11_fill_4 rfl (lv_at hl 1 rfl) ?_
  refine lv_iload_n hx hb dX11_fill_5 rfl (lv_at hl 2 rfl) ?_
  refine m_aI hW (m_runV (As := [.int k, .int u]) (rest := []) hx hb hml hown hts hW (71) (g_X0_greatestWorth l D cy b k u μ hI) mi_X0_greatestWorth k_X11_251 rfl rfl rfl hl.1 rfl (Nat.le_of_ble_eq_true rfl) dX11_fill_6 ⟨Nat.le_of_ble_eq_true rfl, Nat.le_of_ble_eq_true rfl⟩ ⟨Nat.le_of_ble_eq_true rfl, Nat.le_of_ble_eq_true rfl⟩) (fun x1 μ1 H locs q1 hW => ?_)
  obtain ⟨q1_m, q1⟩ := q1
  subst q1_m
  exact m_iret hx hb hr hlocks hW rfl (⟨rfl, trivial⟩) dX11_fill_9
set_option maxHeartbeats 4000000 in
set_option maxRecDepth 100000 in
theorem g_X11_test (l : Launch) (D : va_G) (cy : Nat → ClassId) (b : Nat) (S : Nat → Bool) (μ0 : mM) (hS10 : S 10 = true) (k u v w : Int32) (h_v : 0 ≤ v.toInt ∧ v.toInt ≤ 1) (μ : mM) (hI : IY S μ0 μ) : m_Ci l yX11_test cX11_test 5 ((some .boolean)) 2 D cy b LAY μ [.ref (b + 0), .int k, .int u, .int v, .int w] (fun r ν => IY S μ0 ν ∧ ((r = 1 ∧ (True)) ∨ (r = 0 ∧ (True)))) := by
  unfold m_Ci
  refine m_of (by decide) (Nat.le_of_ble_eq_true rfl) ?_
  intro p e s m below meth c hx hb hr hml hown hts hlocks _ hW ls hl
  have hown : s.vm.findClass RX11 = some m.cls := hown
  have hl : lv_has ls 5 [(0, .ref (b + 0)), (1, .int k), (2, .int u), (3, .int v), (4, .int w)] := hl
  refine lv_aload_n hx hb dX11_test_0 rfl (lv_at hl 0 rfl) ?_
  refine m_getr hx hb hts hown hW (0) 8 (76) rfl rfl cw_11 rfl (by decide) k_X11_66 dX11_test_1 ?_
  refine lv_iload_n hx hb dX11_test_4 rfl (lv_at hl 1 rfl) ?_
  refine lv_iload_n hx hb dX11_test_5 rfl (lv_at hl 2 rfl) ?_
  refine lv_iload_n hx hb dX11_test_6 rfl (lv_at hl 3 rfl) ?_
  refine lv_iload hx hb dX11_test_7 (lv_at hl 4 rfl) ?_
  refine m_aI hW (m_runV (As := [.int k, .int u, .int v, .int w]) (rest := []) hx hb hml hown hts hW (76) (g_X7_tell l D cy b S μ0 hS10 k u v w (by omega) μ hI) mi_X7_tell k_X11_254 rfl rfl rfl hl.1 rfl (Nat.le_of_ble_eq_true rfl) dX11_test_9 ⟨Nat.le_of_ble_eq_true rfl, Nat.le_of_ble_eq_true rfl⟩ ⟨Nat.le_of_ble_eq_true rfl, Nat.le_of_ble_eq_true rfl⟩) (fun x1 μ1 H locs q1 hW => ?_)
  obtain ⟨hI, q1⟩ := q1
  rcases q1 with ⟨rfl, q1⟩ | ⟨rfl, q1⟩
  · exact m_iret hx hb hr hlocks hW (by decide) (⟨hI, Or.inl ⟨rfl, trivial⟩⟩) dX11_test_12
  · exact m_iret hx hb hr hlocks hW (by decide) (⟨hI, Or.inr ⟨rfl, trivial⟩⟩) dX11_test_12
set_option maxHeartbeats 4000000 in
set_option maxRecDepth 100000 in
theorem g_X11_known (l : Launch) (D : va_G) (cy : Nat → ClassId) (b : Nat) (k u v : Int32) (μ : mM) (hI : IX μ) : m_Ci l yX11_known cX11_known 6 ((some .int)) 2 D cy b LAY μ [.ref (b + 0), .int k, .int u, .int v] (fun r ν => μ = ν ∧ (True)) := by
  unfold m_Ci
  refine m_of (by decide) (Nat.le_of_ble_eq_true rfl) ?_
  intro p e s m below meth c hx hb hr hml hown hts hlocks _ hW ls hl
  have hown : s.vm.findClass RX11 = some m.cls := hown
  have hl : lv_has ls 6 [(0, .ref (b + 0)), (1, .int k), (2, .int u), (3, .int v)] := hl
  refine lv_iload_n hx hb dX11_known_0 rfl (lv_at hl 1 rfl) ?_
  refine lv_iconst (v := 0) hx hb dX11_known_1 (by decide) ?_
  refine lv_iconst (v := 3) hx hb dX11_known_2 (by decide) ?_
  have l_0 : (0 : Int32).toInt = 0 := by decide
  have l_3 : (3 : Int32).toInt = 3 := by decide
  refine m_aI hW (m_runS (As := [.int k, .int 0, .int 3]) (rest := []) hx hb hml hown hts hW (g_X11_within l D cy b k 0 3 μ hI) ms_X11_within k_X11_81 rfl hl.1 rfl (Nat.le_of_ble_eq_true rfl) dX11_known_3 ⟨Nat.le_of_ble_eq_true rfl, Nat.le_of_ble_eq_true rfl⟩ ⟨Nat.le_of_ble_eq_true rfl, Nat.le_of_ble_eq_true rfl⟩) (fun x1 μ1 H locs q1 hW => ?_)
  obtain ⟨q1_m, q1⟩ := q1
  subst q1_m
  rcases q1 with ⟨rfl, q1⟩ | ⟨rfl, q1⟩
  · refine lv_if_eq (tgt := 20) hx hb dX11_known_6 (by decide) (fun c => False.elim (by revert c; decide)) (fun _ => ?_)
    refine lv_iload_n hx hb dX11_known_9 rfl (lv_at hl 2 rfl) ?_
    refine lv_iconst (v := 0) hx hb dX11_known_10 (by decide) ?_
    refine lv_sipush (v := 999) hx hb dX11_known_11 (by decide) ?_
    have l_999 : (999 : Int32).toInt = 999 := by decide
    refine m_aI hW (m_runS (As := [.int u, .int 0, .int 999]) (rest := []) hx hb hml hown hts hW (g_X11_within l D cy b u 0 999 μ hI) ms_X11_within k_X11_81 rfl hl.1 rfl (Nat.le_of_ble_eq_true rfl) dX11_known_14 ⟨Nat.le_of_ble_eq_true rfl, Nat.le_of_ble_eq_true rfl⟩ ⟨Nat.le_of_ble_eq_true rfl, Nat.le_of_ble_eq_true rfl⟩) (fun x2 μ2 H locs q2 hW => ?_)
    obtain ⟨q2_m, q2⟩ := q2
    subst q2_m
    rcases q2 with ⟨rfl, q2⟩ | ⟨rfl, q2⟩
    · refine lv_if_ne (tgt := 22) hx hb dX11_known_17 (by decide) (fun _ => ?_) (fun c => False.elim (by revert c; decide))
      refine lv_aload_n hx hb dX11_known_22 rfl (lv_at hl 0 rfl) ?_
      refine m_getr hx hb hts hown hW (0) 8 (76) rfl rfl cw_11 rfl (by decide) k_X11_66 dX11_known_23 ?_
      refine lv_iload_n hx hb dX11_known_26 rfl (lv_at hl 1 rfl) ?_
      refine lv_iload_n hx hb dX11_known_27 rfl (lv_at hl 2 rfl) ?_
      refine m_aI hW (m_runV (As := [.int k, .int u]) (rest := []) hx hb hml hown hts hW (76) (g_X7_leastMelt l D cy b k u μ hI) mi_X7_leastMelt k_X11_258 rfl rfl rfl hl.1 rfl (Nat.le_of_ble_eq_true rfl) dX11_known_28 ⟨Nat.le_of_ble_eq_true rfl, Nat.le_of_ble_eq_true rfl⟩ ⟨Nat.le_of_ble_eq_true rfl, Nat.le_of_ble_eq_true rfl⟩) (fun x3 μ3 H locs q3 hW => ?_)
      obtain ⟨q3_m, q3⟩ := q3
      subst q3_m
      refine lv_istore (lv' := [(4, .int x3), (0, .ref (b + 0)), (1, .int k), (2, .int u), (3, .int v)]) hx hb dX11_known_31 hl (by decide) rfl (fun ls hl => ?_)
      refine lv_aload_n hx hb dX11_known_33 rfl (lv_at hl 1 rfl) ?_
      refine m_getr hx hb hts hown hW (0) 8 (76) rfl rfl cw_11 rfl (by decide) k_X11_66 dX11_known_34 ?_
      refine lv_iload_n hx hb dX11_known_37 rfl (lv_at hl 2 rfl) ?_
      refine lv_iload_n hx hb dX11_known_38 rfl (lv_at hl 3 rfl) ?_
      refine m_aI hW (m_runV (As := [.int k, .int u]) (rest := []) hx hb hml hown hts hW (76) (g_X7_greatestMelt l D cy b k u μ hI) mi_X7_greatestMelt k_X11_261 rfl rfl rfl hl.1 rfl (Nat.le_of_ble_eq_true rfl) dX11_known_39 ⟨Nat.le_of_ble_eq_true rfl, Nat.le_of_ble_eq_true rfl⟩ ⟨Nat.le_of_ble_eq_true rfl, Nat.le_of_ble_eq_true rfl⟩) (fun x4 μ4 H locs q4 hW => ?_)
      obtain ⟨q4_m, q4⟩ := q4
      subst q4_m
      refine lv_istore (lv' := [(5, .int x4), (4, .int x3), (0, .ref (b + 0)), (1, .int k), (2, .int u), (3, .int v)]) hx hb dX11_known_42 hl (by decide) rfl (fun ls hl => ?_)
      refine lv_iload_n hx hb dX11_known_44 rfl (lv_at hl 5 rfl) ?_
      by_cases c5 : v.toInt < 0 ∨ 3 < v.toInt
      · refine lv_tableOut (tgt := 114) hx hb dX11_known_45 c5 (by decide) ?_
        refine lv_iconst (v := (-1)) hx hb dX11_known_114 (by decide) ?_
        exact m_iret hx hb hr hlocks hW rfl (⟨rfl, trivial⟩) dX11_known_115
      · have q5 : v.toInt = 0 ∨ v.toInt = 1 ∨ v.toInt = 2 ∨ v.toInt = 3 := by omega
        rcases q5 with q5 | q5 | q5 | q5
        · refine lv_tableIn (off := 31) (tgt := 76) hx hb dX11_known_45 (fun z => c5 (Or.inl z)) (fun z => c5 (Or.inr z)) (by rw [q5]; rfl) (by decide) ?_
          refine lv_iload hx hb dX11_known_76 (lv_at hl 1 rfl) ?_
          exact m_iret hx hb hr hlocks hW rfl (⟨rfl, trivial⟩) dX11_known_78
        · refine lv_tableIn (off := 34) (tgt := 79) hx hb dX11_known_45 (fun z => c5 (Or.inl z)) (fun z => c5 (Or.inr z)) (by rw [q5]; rfl) (by decide) ?_
          refine lv_iload hx hb dX11_known_79 (lv_at hl 0 rfl) ?_
          exact m_iret hx hb hr hlocks hW rfl (⟨rfl, trivial⟩) dX11_known_81
        · refine lv_tableIn (off := 37) (tgt := 82) hx hb dX11_known_45 (fun z => c5 (Or.inl z)) (fun z => c5 (Or.inr z)) (by rw [q5]; rfl) (by decide) ?_
          refine lv_iload hx hb dX11_known_82 (lv_at hl 1 rfl) ?_
          refine lv_iload hx hb dX11_known_84 (lv_at hl 0 rfl) ?_
          refine lv_icmp_le (tgt := 93) hx hb dX11_known_86 (by decide) (fun c6 => ?_) (fun c6 => ?_)
          · have i6 := m_c3 (rfl : x3.toInt = _) (rfl : x4.toInt = _) c6
            refine lv_iconst (v := 0) hx hb dX11_known_93 (by decide) ?_
            exact m_iret hx hb hr hlocks hW rfl (⟨rfl, trivial⟩) dX11_known_94
          · have i6 := m_c4 (rfl : x3.toInt = _) (rfl : x4.toInt = _) c6
            refine lv_iconst (v := 1) hx hb dX11_known_89 (by decide) ?_
            refine lv_goto (tgt := 94) hx hb dX11_known_90 (by decide) ?_
            exact m_iret hx hb hr hlocks hW rfl (⟨rfl, trivial⟩) dX11_known_94
        · refine lv_tableIn (off := 50) (tgt := 95) hx hb dX11_known_45 (fun z => c5 (Or.inl z)) (fun z => c5 (Or.inr z)) (by rw [q5]; rfl) (by decide) ?_
          refine lv_iload hx hb dX11_known_95 (lv_at hl 1 rfl) ?_
          refine lv_iload hx hb dX11_known_97 (lv_at hl 0 rfl) ?_
          refine lv_icmp_ge (tgt := 112) hx hb dX11_known_99 (by decide) (fun c7 => ?_) (fun c7 => ?_)
          · have i7 := m_c3 (rfl : x4.toInt = _) (rfl : x3.toInt = _) c7
            refine lv_iconst (v := (-1)) hx hb dX11_known_112 (by decide) ?_
            exact m_iret hx hb hr hlocks hW rfl (⟨rfl, trivial⟩) dX11_known_113
          · have i7 := m_c4 (rfl : x4.toInt = _) (rfl : x3.toInt = _) c7
            refine lv_iload hx hb dX11_known_102 (lv_at hl 1 rfl) ?_
            refine lv_iload hx hb dX11_known_104 (lv_at hl 0 rfl) ?_
            refine lv_iadd hx hb dX11_known_106 ?_
            refine lv_topi (fun x8 ex8 => ?_)
            refine lv_iconst (v := 2) hx hb dX11_known_107 (by decide) ?_
            refine lv_idiv hx hb dX11_known_108 (by decide) ?_
            refine lv_topi (fun x9 ex9 => ?_)
            refine lv_goto (tgt := 113) hx hb dX11_known_109 (by decide) ?_
            exact m_iret hx hb hr hlocks hW rfl (⟨rfl, trivial⟩) dX11_known_113
    · refine lv_if_ne (tgt := 22) hx hb dX11_known_17 (by decide) (fun c => False.elim (by revert c; decide)) (fun _ => ?_)
      refine lv_iconst (v := (-1)) hx hb dX11_known_20 (by decide) ?_
      exact m_iret hx hb hr hlocks hW rfl (⟨rfl, trivial⟩) dX11_known_21
  · refine lv_if_eq (tgt := 20) hx hb dX11_known_6 (by decide) (fun _ => ?_) (fun c => False.elim (by revert c; decide))
    refine lv_iconst (v := (-1)) hx hb dX11_known_20 (by decide) ?_
    exact m_iret hx hb hr hlocks hW rfl (⟨rfl, trivial⟩) dX11_known_21
set_option maxHeartbeats 4000000 in
set_option maxRecDepth 100000 in
theorem g_X11_sparks (l : Launch) (D : va_G) (cy : Nat → ClassId) (b : Nat) (S : Nat → Bool) (μ0 : mM) (hS3 : S 3 = true) (hS4 : S 4 = true) (μ : mM) (hI : IY S μ0 μ) : m_Ci l yX11_sparks cX11_sparks 1 ((some .int)) 2 D cy b LAY μ [.ref (b + 0)] (fun r ν => IY S μ0 ν ∧ (True)) := by
  unfold m_Ci
  refine m_of (by decide) (Nat.le_of_ble_eq_true rfl) ?_
  intro p e s m below meth c hx hb hr hml hown hts hlocks _ hW ls hl
  have hown : s.vm.findClass RX11 = some m.cls := hown
  have hl : lv_has ls 1 [(0, .ref (b + 0))] := hl
  refine lv_aload_n hx hb dX11_sparks_0 rfl (lv_at hl 0 rfl) ?_
  refine m_getr hx hb hts hown hW (0) 2 (25) rfl rfl cw_11 rfl (by decide) k_X11_25 dX11_sparks_1 ?_
  refine lv_aload_n hx hb dX11_sparks_4 rfl (lv_at hl 0 rfl) ?_
  refine m_getr hx hb hts hown hW (0) 1 (23) rfl rfl cw_11 rfl (by decide) k_X11_21 dX11_sparks_5 ?_
  refine m_aV hW (m_runV (As := [.ref (b + 23)]) (rest := []) hx hb hml hown hts hW (25) (g_X5_copyFrom l D cy b S μ0 25 26 400 rfl rfl (by decide) rfl (fun _ => rfl) hS4 (fun _ => hS4) 23 24 400 rfl rfl (by decide) rfl (fun _ => rfl) μ hI) mi_X5_copyFrom k_X11_120 rfl rfl rfl hl.1 rfl (Nat.le_of_ble_eq_true rfl) dX11_sparks_8 ⟨Nat.le_of_ble_eq_true rfl, Nat.le_of_ble_eq_true rfl⟩ ⟨Nat.le_of_ble_eq_true rfl, Nat.le_of_ble_eq_true rfl⟩) (fun μ1 H locs q1 hW => ?_)
  obtain ⟨hI, q1⟩ := q1
  refine lv_aload_n hx hb dX11_sparks_11 rfl (lv_at hl 0 rfl) ?_
  refine m_getr hx hb hts hown hW (0) 1 (23) rfl rfl cw_11 rfl (by decide) k_X11_21 dX11_sparks_12 ?_
  refine lv_iconst (v := 0) hx hb dX11_sparks_15 (by decide) ?_
  refine m_puti hx hb hts hown hW (23) 1 rfl rfl cw_5 tyX5_ok nmX5 rfl (by decide) k_X11_99 rfl rfl rfl dX11_sparks_16 (fun H locs hW _ => ?_)
  generalize hμ2 : m_si μ1 (23) 1 0 = μ2 at hW
  have hI := hI.si1 hμ2 rfl (by decide) hS3
  refine lv_aload_n hx hb dX11_sparks_19 rfl (lv_at hl 0 rfl) ?_
  refine m_getr hx hb hts hown hW (0) 2 (25) rfl rfl cw_11 rfl (by decide) k_X11_25 dX11_sparks_20 ?_
  refine m_geti hx hb hts hown hW (25) 1 rfl rfl cw_5 rfl (by decide) k_X11_99 dX11_sparks_23 ?_
  refine lv_topi (fun x3 ex3 => ?_)
  have bx3 : 0 ≤ x3.toInt ∧ x3.toInt ≤ 400 := by rw [ex3]; exact hI.1 _ _ _ _ rfl
  exact m_iret hx hb hr hlocks hW rfl (⟨hI, trivial⟩) dX11_sparks_26
set_option maxHeartbeats 4000000 in
set_option maxRecDepth 100000 in
theorem g_X11_lost (l : Launch) (D : va_G) (cy : Nat → ClassId) (b : Nat) (k u : Int32) (μ : mM) (hI : IX μ) : m_Ci l yX11_lost cX11_lost 3 ((some .int)) 1 D cy b LAY μ [.ref (b + 0), .int k, .int u] (fun r ν => μ = ν ∧ (True)) := by
  unfold m_Ci
  refine m_of (by decide) (Nat.le_of_ble_eq_true rfl) ?_
  intro p e s m below meth c hx hb hr hml hown hts hlocks _ hW ls hl
  have hown : s.vm.findClass RX11 = some m.cls := hown
  have hl : lv_has ls 3 [(0, .ref (b + 0)), (1, .int k), (2, .int u)] := hl
  refine lv_iload_n hx hb dX11_lost_0 rfl (lv_at hl 1 rfl) ?_
  refine lv_iconst (v := 0) hx hb dX11_lost_1 (by decide) ?_
  refine lv_sipush (v := 256) hx hb dX11_lost_2 (by decide) ?_
  have l_0 : (0 : Int32).toInt = 0 := by decide
  have l_256 : (256 : Int32).toInt = 256 := by decide
  refine m_aI hW (m_runS (As := [.int k, .int 0, .int 256]) (rest := []) hx hb hml hown hts hW (g_X11_within l D cy b k 0 256 μ hI) ms_X11_within k_X11_81 rfl hl.1 rfl (Nat.le_of_ble_eq_true rfl) dX11_lost_5 ⟨Nat.le_of_ble_eq_true rfl, Nat.le_of_ble_eq_true rfl⟩ ⟨Nat.le_of_ble_eq_true rfl, Nat.le_of_ble_eq_true rfl⟩) (fun x1 μ1 H locs q1 hW => ?_)
  obtain ⟨q1_m, q1⟩ := q1
  subst q1_m
  rcases q1 with ⟨rfl, q1⟩ | ⟨rfl, q1⟩
  · refine lv_if_eq (tgt := 21) hx hb dX11_lost_8 (by decide) (fun c => False.elim (by revert c; decide)) (fun _ => ?_)
    refine lv_iload_n hx hb dX11_lost_11 rfl (lv_at hl 2 rfl) ?_
    refine lv_iconst (v := 1) hx hb dX11_lost_12 (by decide) ?_
    refine lv_bipush (v := 99) hx hb dX11_lost_13 (by decide) ?_
    have l_1 : (1 : Int32).toInt = 1 := by decide
    have l_99 : (99 : Int32).toInt = 99 := by decide
    refine m_aI hW (m_runS (As := [.int u, .int 1, .int 99]) (rest := []) hx hb hml hown hts hW (g_X11_within l D cy b u 1 99 μ hI) ms_X11_within k_X11_81 rfl hl.1 rfl (Nat.le_of_ble_eq_true rfl) dX11_lost_15 ⟨Nat.le_of_ble_eq_true rfl, Nat.le_of_ble_eq_true rfl⟩ ⟨Nat.le_of_ble_eq_true rfl, Nat.le_of_ble_eq_true rfl⟩) (fun x2 μ2 H locs q2 hW => ?_)
    obtain ⟨q2_m, q2⟩ := q2
    subst q2_m
    rcases q2 with ⟨rfl, q2⟩ | ⟨rfl, q2⟩
    · refine lv_if_ne (tgt := 23) hx hb dX11_lost_18 (by decide) (fun _ => ?_) (fun c => False.elim (by revert c; decide))
      refine lv_aload_n hx hb dX11_lost_23 rfl (lv_at hl 0 rfl) ?_
      refine m_getr hx hb hts hown hW (0) 2 (25) rfl rfl cw_11 rfl (by decide) k_X11_25 dX11_lost_24 ?_
      refine lv_iload_n hx hb dX11_lost_27 rfl (lv_at hl 1 rfl) ?_
      refine lv_iload_n hx hb dX11_lost_28 rfl (lv_at hl 2 rfl) ?_
      refine m_aI hW (m_runV (As := [.int k, .int u]) (rest := []) hx hb hml hown hts hW (25) (g_X5_firstRunBelow l D cy b 25 26 400 rfl rfl (by decide) rfl (fun _ => rfl) k u μ hI) mi_X5_firstRunBelow k_X11_264 rfl rfl rfl hl.1 rfl (Nat.le_of_ble_eq_true rfl) dX11_lost_29 ⟨Nat.le_of_ble_eq_true rfl, Nat.le_of_ble_eq_true rfl⟩ ⟨Nat.le_of_ble_eq_true rfl, Nat.le_of_ble_eq_true rfl⟩) (fun x3 μ3 H locs q3 hW => ?_)
      obtain ⟨q3_m, q3⟩ := q3
      subst q3_m
      exact m_iret hx hb hr hlocks hW rfl (⟨rfl, trivial⟩) dX11_lost_32
    · refine lv_if_ne (tgt := 23) hx hb dX11_lost_18 (by decide) (fun c => False.elim (by revert c; decide)) (fun _ => ?_)
      refine lv_iconst (v := (-1)) hx hb dX11_lost_21 (by decide) ?_
      exact m_iret hx hb hr hlocks hW rfl (⟨rfl, trivial⟩) dX11_lost_22
  · refine lv_if_eq (tgt := 21) hx hb dX11_lost_8 (by decide) (fun _ => ?_) (fun c => False.elim (by revert c; decide))
    refine lv_iconst (v := (-1)) hx hb dX11_lost_21 (by decide) ?_
    exact m_iret hx hb hr hlocks hW rfl (⟨rfl, trivial⟩) dX11_lost_22
