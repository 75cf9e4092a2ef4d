set_option maxHeartbeats 4000000 in
set_option maxRecDepth 100000 in
theorem g_X4_closeAgain_o (l : Launch) (D : va_G) (cy : Nat → ClassId) (b : Nat) (S : Nat → Bool) (μ0 : mM) (hS5 : S 5 = true) (hS12 : S 12 = true) (hS13 : S 13 = true) (hS14 : S 14 = true) (fT : Nat → Int32) (n cn gi : Nat) (sl : List Bool) (s1 : List Bool) (μ : mM) (hI : IY S μ0 μ) (hxt : m_XT μ fT n cn) (hxs : m_XS μ fT n cn gi) (hso : m_SO μ sl) (hk18 : t_K fT n gi = 18) (hs1 : sl = true :: s1) : m_Cv l yX4_closeAgain cX4_closeAgain 1 (none) 4 D cy b LAY μ [.ref (b + 27)] (fun ν => IY S μ0 ν ∧ ((∃ j, a_close (t_K fT n) (t_L fT n) s1 (gi + 1) = .inr (j, a_pop s1) ∧ m_XS ν fT n cn j ∧ m_SO ν (a_pop s1)) ∨ (∃ e, a_close (t_K fT n) (t_L fT n) s1 (gi + 1) = .inl e ∧ m_XE ν e))) := by
  unfold m_Cv
  refine m_of (by decide) (Nat.le_of_ble_eq_true rfl) ?_
  intro p e s m below meth c hx hb hr hml hown hts hlocks _ hW ls hl
  have hown : s.vm.findClass RX4 = some m.cls := hown
  have hl : lv_has ls 1 [(0, .ref (b + 27))] := hl
  obtain ⟨xs1, xs2, xs3, xs4, xs5⟩ := hxs
  obtain ⟨cu, hcu⟩ : ∃ z, μ.1 27 4 = z := ⟨_, rfl⟩
  rw [hcu] at xs2
  obtain ⟨tk, htk⟩ : ∃ z, μ.1 27 5 = z := ⟨_, rfl⟩
  rw [htk] at xs3
  have hc4 : cn ≤ 400 := by have := hxt.1.2.2; have := hxt.2.2.2.2; omega
  refine lv_aload_n hx hb dX4_closeAgain_0 rfl (lv_at hl 0 rfl) ?_
  refine m_aV hW (m_runV (As := []) (rest := []) hx hb hml hown hts hW (27) (g_X4_advance_o l D cy b (fun g => [5].contains g) μ rfl fT n cn gi (hxt.lt (by omega) (by omega)) μ (IY.rf hI.1) hxt ⟨by exact xs1, by rw [show μ.1 27 4 = cu from by exact hcu]; omega, by rw [show μ.1 27 5 = tk from by exact htk]; omega, by omega, by exact xs5⟩) mi_X4_advance k_X4_80 rfl rfl rfl hl.1 rfl (Nat.le_of_ble_eq_true rfl) dX4_closeAgain_1 ⟨Nat.le_of_ble_eq_true rfl, Nat.le_of_ble_eq_true rfl⟩ ⟨Nat.le_of_ble_eq_true rfl, Nat.le_of_ble_eq_true rfl⟩) (fun μ1 H locs q1 hW => ?_)
  obtain ⟨hJ1, q1⟩ := q1
  have hI := hI.tr hJ1 (m_subL (by simp [hS5]))
  have hxt : m_XT μ1 fT n cn := hxt.fr hJ1 rfl rfl rfl
  have hso : m_SO μ1 sl := hso.fr hJ1 rfl
  obtain ⟨xa2, xb2, xc2, xd2, xf2⟩ := q1
  obtain ⟨cu2, hcu2⟩ : ∃ z, μ1.1 27 4 = z := ⟨_, rfl⟩
  rw [hcu2] at xb2
  obtain ⟨tk2, htk2⟩ : ∃ z, μ1.1 27 5 = z := ⟨_, rfl⟩
  rw [htk2] at xc2
  refine lv_aload_n hx hb dX4_closeAgain_4 rfl (lv_at hl 0 rfl) ?_
  refine m_getr hx hb hts hown hW (27) 0 (28) rfl rfl cw_4 rfl (by decide) k_X4_16 dX4_closeAgain_5 ?_
  refine lv_bipush (v := 18) hx hb dX4_closeAgain_8 (by decide) ?_
  have l_18 : (18 : Int32).toInt = 18 := by decide
  refine m_aV hW (m_runV (As := [.int 18]) (rest := []) hx hb hml hown hts hW (28) (g_X5_add_28 l D cy b (fun g => [12].contains g) μ1 rfl 18 μ1 (IY.rf hI.1)) mi_X5_add k_X4_83 rfl rfl rfl hl.1 rfl (Nat.le_of_ble_eq_true rfl) dX4_closeAgain_10 ⟨Nat.le_of_ble_eq_true rfl, Nat.le_of_ble_eq_true rfl⟩ ⟨Nat.le_of_ble_eq_true rfl, Nat.le_of_ble_eq_true rfl⟩) (fun μ3 H locs q3 hW => ?_)
  obtain ⟨hJ3, q3⟩ := q3
  have hI := hI.tr hJ3 (m_subL (by simp [hS12]))
  have hxt : m_XT μ3 fT n cn := hxt.fr hJ3 rfl rfl rfl
  have hso : m_SO μ3 sl := hso.fr hJ3 rfl
  refine lv_aload_n hx hb dX4_closeAgain_13 rfl (lv_at hl 0 rfl) ?_
  refine m_getr hx hb hts hown hW (27) 0 (28) rfl rfl cw_4 rfl (by decide) k_X4_16 dX4_closeAgain_14 ?_
  refine lv_aload_n hx hb dX4_closeAgain_17 rfl (lv_at hl 0 rfl) ?_
  refine m_getr hx hb hts hown hW (27) 6 (37) rfl rfl cw_4 rfl (by decide) k_X4_40 dX4_closeAgain_18 ?_
  refine m_geti hx hb hts hown hW (37) 1 rfl rfl cw_5 rfl (by decide) k_X4_50 dX4_closeAgain_21 ?_
  refine lv_topi (fun x4 ex4 => ?_)
  have bx4 : 0 ≤ x4.toInt ∧ x4.toInt ≤ 4 := by rw [ex4]; exact hI.1 _ _ _ _ rfl
  refine m_aV hW (m_runV (As := [.int x4]) (rest := []) hx hb hml hown hts hW (28) (g_X5_add_28 l D cy b (fun g => [12].contains g) μ3 rfl x4 μ3 (IY.rf hI.1)) mi_X5_add k_X4_83 rfl rfl rfl hl.1 rfl (Nat.le_of_ble_eq_true rfl) dX4_closeAgain_24 ⟨Nat.le_of_ble_eq_true rfl, Nat.le_of_ble_eq_true rfl⟩ ⟨Nat.le_of_ble_eq_true rfl, Nat.le_of_ble_eq_true rfl⟩) (fun μ5 H locs q5 hW => ?_)
  obtain ⟨hJ5, q5⟩ := q5
  have hI := hI.tr hJ5 (m_subL (by simp [hS12]))
  have hxt : m_XT μ5 fT n cn := hxt.fr hJ5 rfl rfl rfl
  have hso : m_SO μ5 sl := hso.fr hJ5 rfl
  refine lv_aload_n hx hb dX4_closeAgain_27 rfl (lv_at hl 0 rfl) ?_
  refine m_getr hx hb hts hown hW (27) 0 (28) rfl rfl cw_4 rfl (by decide) k_X4_16 dX4_closeAgain_28 ?_
  refine lv_aload_n hx hb dX4_closeAgain_31 rfl (lv_at hl 0 rfl) ?_
  refine m_getr hx hb hts hown hW (27) 7 (39) rfl rfl cw_4 rfl (by decide) k_X4_43 dX4_closeAgain_32 ?_
  refine lv_aload_n hx hb dX4_closeAgain_35 rfl (lv_at hl 0 rfl) ?_
  refine m_getr hx hb hts hown hW (27) 7 (39) rfl rfl cw_4 rfl (by decide) k_X4_43 dX4_closeAgain_36 ?_
  refine m_geti hx hb hts hown hW (39) 1 rfl rfl cw_5 rfl (by decide) k_X4_50 dX4_closeAgain_39 ?_
  refine lv_topi (fun x6 ex6 => ?_)
  have bx6 : 0 ≤ x6.toInt ∧ x6.toInt ≤ 4 := by rw [ex6]; exact hI.1 _ _ _ _ rfl
  refine lv_iconst (v := 1) hx hb dX4_closeAgain_42 (by decide) ?_
  refine lv_isub hx hb dX4_closeAgain_43 ?_
  refine lv_topi (fun x7 ex7 => ?_)
  have tx7 : x7.toInt = x6.toInt - 1 := m_subI ex7 (rfl : x6.toInt = _) (by decide : (1 : Int32).toInt = 1) (by omega) (by omega)
  refine m_aI hW (m_runV (As := [.int x7]) (rest := [.ref (b + 28)]) hx hb hml hown hts hW (39) (g_X5_at l D cy b 39 40 4 rfl rfl (by decide) rfl (fun _ => rfl) x7 μ5 hI.1) mi_X5_at k_X4_56 rfl rfl rfl hl.1 rfl (Nat.le_of_ble_eq_true rfl) dX4_closeAgain_44 ⟨Nat.le_of_ble_eq_true rfl, Nat.le_of_ble_eq_true rfl⟩ ⟨Nat.le_of_ble_eq_true rfl, Nat.le_of_ble_eq_true rfl⟩) (fun x8 μ8 H locs q8 hW => ?_)
  obtain ⟨q8_m, q8⟩ := q8
  subst q8_m
  refine m_aV hW (m_runV (As := [.int x8]) (rest := []) hx hb hml hown hts hW (28) (g_X5_add_28 l D cy b (fun g => [12].contains g) μ5 rfl x8 μ5 (IY.rf hI.1)) mi_X5_add k_X4_83 rfl rfl rfl hl.1 rfl (Nat.le_of_ble_eq_true rfl) dX4_closeAgain_47 ⟨Nat.le_of_ble_eq_true rfl, Nat.le_of_ble_eq_true rfl⟩ ⟨Nat.le_of_ble_eq_true rfl, Nat.le_of_ble_eq_true rfl⟩) (fun μ9 H locs q9 hW => ?_)
  obtain ⟨hJ9, q9⟩ := q9
  have hI := hI.tr hJ9 (m_subL (by simp [hS12]))
  have hxt : m_XT μ9 fT n cn := hxt.fr hJ9 rfl rfl rfl
  have hso : m_SO μ9 sl := hso.fr hJ9 rfl
  refine lv_aload_n hx hb dX4_closeAgain_50 rfl (lv_at hl 0 rfl) ?_
  refine m_aV hW (m_runV (As := []) (rest := []) hx hb hml hown hts hW (27) (g_X4_dropInnermost_o l D cy b (fun g => [13, 14].contains g) μ9 rfl rfl x4 (by omega) μ9 (IY.rf hI.1) (by exact ((hJ9.2.1 37 1 rfl).trans (by exact ((hJ5.2.1 37 1 rfl).trans (by exact ex4.symm)))))) mi_X4_dropInnermost k_X4_105 rfl rfl rfl hl.1 rfl (Nat.le_of_ble_eq_true rfl) dX4_closeAgain_51 ⟨Nat.le_of_ble_eq_true rfl, Nat.le_of_ble_eq_true rfl⟩ ⟨Nat.le_of_ble_eq_true rfl, Nat.le_of_ble_eq_true rfl⟩) (fun μ10 H locs q10 hW => ?_)
  obtain ⟨hJ10, q10⟩ := q10
  have hI := hI.tr hJ10 (m_subL (by simp [hS13, hS14]))
  have hxt : m_XT μ10 fT n cn := hxt.fr hJ10 rfl rfl rfl
  have hso : m_SO μ10 s1 := (show m_SO μ9 (true :: s1) from by rw [← hs1]; exact hso).pop (nv := x4) (by exact ((hJ9.2.1 37 1 rfl).trans (by exact ((hJ5.2.1 37 1 rfl).trans (by exact ex4.symm))))) q10.1 q10.2 (by omega)
  have q10 := q10.1
  obtain ⟨x11, hx11⟩ : ∃ z, μ10.1 37 1 = z := ⟨_, rfl⟩
  have bx11 : 0 ≤ x11.toInt ∧ x11.toInt ≤ 4 := by rw [← hx11]; exact hI.1 _ _ _ _ rfl
  rw [show μ10.1 37 1 = x11 from by exact hx11] at q10
  refine lv_aload_n hx hb dX4_closeAgain_54 rfl (lv_at hl 0 rfl) ?_
  refine m_aV hW (m_runV (As := []) (rest := []) hx hb hml hown hts hW (27) (g_X4_closeStep_o l D cy b (fun g => [5, 12, 13, 14].contains g) μ10 rfl rfl rfl rfl fT n cn (gi + 1) s1 μ10 (IY.rf hI.1) hxt ⟨by exact ((hJ10.2.1 27 1 rfl).trans (by exact ((hJ9.2.1 27 1 rfl).trans (by exact ((hJ5.2.1 27 1 rfl).trans (by exact ((hJ3.2.1 27 1 rfl).trans (by exact xa2)))))))), by rw [show μ10.1 27 4 = cu2 from by exact ((hJ10.2.1 27 4 rfl).trans (by exact ((hJ9.2.1 27 4 rfl).trans (by exact ((hJ5.2.1 27 4 rfl).trans (by exact ((hJ3.2.1 27 4 rfl).trans (by exact hcu2))))))))]; omega, by rw [show μ10.1 27 5 = tk2 from by exact ((hJ10.2.1 27 5 rfl).trans (by exact ((hJ9.2.1 27 5 rfl).trans (by exact ((hJ5.2.1 27 5 rfl).trans (by exact ((hJ3.2.1 27 5 rfl).trans (by exact htk2))))))))]; omega, by omega, by exact ((hJ10.2.1 27 2 rfl).trans (by exact ((hJ9.2.1 27 2 rfl).trans (by exact ((hJ5.2.1 27 2 rfl).trans (by exact ((hJ3.2.1 27 2 rfl).trans (by exact xf2))))))))⟩ hso) mi_X4_closeStep k_X4_99 rfl rfl rfl hl.1 rfl (Nat.le_of_ble_eq_true rfl) dX4_closeAgain_55 ⟨Nat.le_of_ble_eq_true rfl, Nat.le_of_ble_eq_true rfl⟩ ⟨Nat.le_of_ble_eq_true rfl, Nat.le_of_ble_eq_true rfl⟩) (fun μ12 H locs q12 hW => ?_)
  obtain ⟨hJ12, q12⟩ := q12
  have hI := hI.tr hJ12 (m_subL (by simp [hS5, hS12, hS13, hS14]))
  have hxt : m_XT μ12 fT n cn := hxt.fr hJ12 rfl rfl rfl
  rcases q12 with ⟨j13, ha13, hxs13, hso⟩ | ⟨e13, ha13, hxe13⟩
  · obtain ⟨xa14, xb14, xc14, xd14, xf14⟩ := hxs13
    obtain ⟨cu14, hcu14⟩ : ∃ z, μ12.1 27 4 = z := ⟨_, rfl⟩
    rw [hcu14] at xb14
    obtain ⟨tk14, htk14⟩ : ∃ z, μ12.1 27 5 = z := ⟨_, rfl⟩
    rw [htk14] at xc14
    exact m_vret hx hb hr hlocks hW (⟨hI, Or.inl ⟨j13, (by exact ha13), ⟨by rw [show μ12.1 27 1 = 0 from by exact xa14], by rw [show μ12.1 27 4 = cu14 from by exact hcu14]; omega, by rw [show μ12.1 27 5 = tk14 from by exact htk14]; omega, by omega, by rw [show μ12.1 27 2 = (-1) from by exact xf14]⟩, hso⟩⟩) dX4_closeAgain_58
  · obtain ⟨xa15, xb15, xc15, xd15⟩ := hxe13
    obtain ⟨ef15, hef15⟩ : ∃ z, μ12.1 27 1 = z := ⟨_, rfl⟩
    rw [hef15] at xa15
    obtain ⟨ep15, hep15⟩ : ∃ z, μ12.1 27 2 = z := ⟨_, rfl⟩
    rw [hep15] at xc15
    exact m_vret hx hb hr hlocks hW (⟨hI, Or.inr ⟨e13, (by exact ha13), ⟨by rw [show μ12.1 27 1 = ef15 from by exact hef15]; exact xa15, xb15, by rw [show μ12.1 27 2 = ep15 from by exact hep15]; exact xc15, by rw [show μ12.1 27 5 = 0 from by exact xd15]⟩⟩⟩) dX4_closeAgain_58
set_option maxHeartbeats 4000000 in
set_option maxRecDepth 100000 in
theorem g_X4_readStep_o (l : Launch) (D : va_G) (cy : Nat → ClassId) (b : Nat) (S : Nat → Bool) (μ0 : mM) (hS5 : S 5 = true) (hS12 : S 12 = true) (hS13 : S 13 = true) (hS14 : S 14 = true) (fT : Nat → Int32) (n cn gi : Nat) (sl : List Bool) (μ : mM) (hI : IY S μ0 μ) (hxt : m_XT μ fT n cn) (hxs : m_XS μ fT n cn gi) (hso : m_SO μ sl) (hk9 : 9 ≤ t_K fT n gi ∧ t_K fT n gi ≤ 16) : m_Cv l yX4_readStep cX4_readStep 3 (none) 5 D cy b LAY μ [.ref (b + 27)] (fun ν => IY S μ0 ν ∧ ((∃ j s1, a_step (t_K fT n) (t_L fT n) (t_V fT n) gi sl = .inr (j, s1) ∧ m_XS ν fT n cn j ∧ m_SO ν s1) ∨ (∃ e, a_step (t_K fT n) (t_L fT n) (t_V fT n) gi sl = .inl e ∧ m_XE ν e))) := by
  unfold m_Cv
  refine m_of (by decide) (Nat.le_of_ble_eq_true rfl) ?_
  intro p e s m below meth c hx hb hr hml hown hts hlocks _ hW ls hl
  have hown : s.vm.findClass RX4 = some m.cls := hown
  have hl : lv_has ls 3 [(0, .ref (b + 27))] := hl
  obtain ⟨xs1, xs2, xs3, xs4, xs5⟩ := hxs
  obtain ⟨cu, hcu⟩ : ∃ z, μ.1 27 4 = z := ⟨_, rfl⟩
  rw [hcu] at xs2
  obtain ⟨tk, htk⟩ : ∃ z, μ.1 27 5 = z := ⟨_, rfl⟩
  rw [htk] at xs3
  have hc4 : cn ≤ 400 := by have := hxt.1.2.2; have := hxt.2.2.2.2; omega
  obtain ⟨z37, hz37⟩ : ∃ z, μ.1 37 1 = z := ⟨_, rfl⟩
  have bz37 : 0 ≤ z37.toInt ∧ z37.toInt ≤ 4 := by rw [← hz37]; exact hI.1 _ _ _ _ rfl
  have hln := hso.len hz37 (by omega)
  refine lv_aload_n hx hb dX4_readStep_0 rfl (lv_at hl 0 rfl) ?_
  refine m_geti hx hb hts hown hW (27) 5 rfl rfl cw_4 rfl (by decide) k_X4_37 dX4_readStep_1 ?_
  refine lv_topi (fun x1 ex1 => ?_)
  have ex1 : x1 = tk := by rw [ex1]; exact htk
  have ex1 := ex1.symm
  subst ex1
  refine lv_istore_n (lv' := [(1, .int tk), (0, .ref (b + 27))]) hx hb dX4_readStep_4 rfl hl (by decide) rfl (fun ls hl => ?_)
  refine lv_iload_n hx hb dX4_readStep_5 rfl (lv_at hl 0 rfl) ?_
  refine lv_bipush (v := 15) hx hb dX4_readStep_6 (by decide) ?_
  refine lv_icmp_eq (tgt := 17) hx hb dX4_readStep_8 (by decide) (fun c2 => ?_) (fun c2 => ?_)
  · have i2 := m_c5 (rfl : tk.toInt = _) (by decide : (15 : Int32).toInt = 15) c2
    refine lv_iconst (v := 1) hx hb dX4_readStep_17 (by decide) ?_
    refine lv_goto (tgt := 22) hx hb dX4_readStep_18 (by decide) ?_
    refine lv_istore_n (lv' := [(2, .int 1), (1, .int tk), (0, .ref (b + 27))]) hx hb dX4_readStep_22 rfl hl (by decide) rfl (fun ls hl => ?_)
    refine lv_iload_n hx hb dX4_readStep_23 rfl (lv_at hl 0 rfl) ?_
    refine lv_if_eq (tgt := 44) hx hb dX4_readStep_24 (by decide) (fun c => False.elim (by revert c; decide)) (fun _ => ?_)
    refine lv_aload_n hx hb dX4_readStep_27 rfl (lv_at hl 2 rfl) ?_
    refine m_getr hx hb hts hown hW (27) 6 (37) rfl rfl cw_4 rfl (by decide) k_X4_40 dX4_readStep_28 ?_
    refine m_geti hx hb hts hown hW (37) 1 rfl rfl cw_5 rfl (by decide) k_X4_50 dX4_readStep_31 ?_
    refine lv_topi (fun x3 ex3 => ?_)
    have ex3 : x3 = z37 := by rw [ex3]; exact hz37
    have ex3 := ex3.symm
    subst ex3
    refine lv_iconst (v := 4) hx hb dX4_readStep_34 (by decide) ?_
    refine lv_icmp_lt (tgt := 44) hx hb dX4_readStep_35 (by decide) (fun c4 => ?_) (fun c4 => ?_)
    · have i4 := m_c1 (rfl : z37.toInt = _) (by decide : (4 : Int32).toInt = 4) c4
      refine lv_aload_n hx hb dX4_readStep_44 rfl (lv_at hl 2 rfl) ?_
      refine m_getr hx hb hts hown hW (27) 0 (28) rfl rfl cw_4 rfl (by decide) k_X4_16 dX4_readStep_45 ?_
      refine lv_iload_n hx hb dX4_readStep_48 rfl (lv_at hl 1 rfl) ?_
      refine m_aV hW (m_runV (As := [.int tk]) (rest := []) hx hb hml hown hts hW (28) (g_X5_add_28 l D cy b (fun g => [12].contains g) μ rfl tk μ (IY.rf hI.1)) mi_X5_add k_X4_83 rfl rfl rfl hl.1 rfl (Nat.le_of_ble_eq_true rfl) dX4_readStep_49 ⟨Nat.le_of_ble_eq_true rfl, Nat.le_of_ble_eq_true rfl⟩ ⟨Nat.le_of_ble_eq_true rfl, Nat.le_of_ble_eq_true rfl⟩) (fun μ5 H locs q5 hW => ?_)
      obtain ⟨hJ5, q5⟩ := q5
      have hI := hI.tr hJ5 (m_subL (by simp [hS12]))
      have hxt : m_XT μ5 fT n cn := hxt.fr hJ5 rfl rfl rfl
      have hso : m_SO μ5 sl := hso.fr hJ5 rfl
      refine lv_aload_n hx hb dX4_readStep_52 rfl (lv_at hl 2 rfl) ?_
      refine m_aV hW (m_runV (As := []) (rest := []) hx hb hml hown hts hW (27) (g_X4_advance_o l D cy b (fun g => [5].contains g) μ5 rfl fT n cn gi (hxt.lt (by omega) (by omega)) μ5 (IY.rf hI.1) hxt ⟨by exact ((hJ5.2.1 27 1 rfl).trans (by exact xs1)), by rw [show μ5.1 27 4 = cu from by exact ((hJ5.2.1 27 4 rfl).trans (by exact hcu))]; omega, by rw [show μ5.1 27 5 = tk from by exact ((hJ5.2.1 27 5 rfl).trans (by exact htk))]; omega, by omega, by exact ((hJ5.2.1 27 2 rfl).trans (by exact xs5))⟩) mi_X4_advance k_X4_80 rfl rfl rfl hl.1 rfl (Nat.le_of_ble_eq_true rfl) dX4_readStep_53 ⟨Nat.le_of_ble_eq_true rfl, Nat.le_of_ble_eq_true rfl⟩ ⟨Nat.le_of_ble_eq_true rfl, Nat.le_of_ble_eq_true rfl⟩) (fun μ6 H locs q6 hW => ?_)
      obtain ⟨hJ6, q6⟩ := q6
      have hI := hI.tr hJ6 (m_subL (by simp [hS5]))
      have hxt : m_XT μ6 fT n cn := hxt.fr hJ6 rfl rfl rfl
      have hso : m_SO μ6 sl := hso.fr hJ6 rfl
      obtain ⟨xa7, xb7, xc7, xd7, xf7⟩ := q6
      obtain ⟨cu7, hcu7⟩ : ∃ z, μ6.1 27 4 = z := ⟨_, rfl⟩
      rw [hcu7] at xb7
      obtain ⟨tk7, htk7⟩ : ∃ z, μ6.1 27 5 = z := ⟨_, rfl⟩
      rw [htk7] at xc7
      refine lv_iload_n hx hb dX4_readStep_56 rfl (lv_at hl 1 rfl) ?_
      by_cases c8 : tk.toInt < 11 ∨ 16 < tk.toInt
      · exfalso; omega
      · have q8 : tk.toInt = 11 ∨ tk.toInt = 12 ∨ tk.toInt = 13 ∨ tk.toInt = 14 ∨ tk.toInt = 15 ∨ tk.toInt = 16 := by omega
        rcases q8 with q8 | q8 | q8 | q8 | q8 | q8
        · exfalso; omega
        · exfalso; omega
        · exfalso; omega
        · exfalso; omega
        · refine lv_tableIn (off := 94) (tgt := 151) hx hb dX4_readStep_57 (fun z => c8 (Or.inl z)) (fun z => c8 (Or.inr z)) (by rw [q8]; rfl) (by decide) ?_
          refine lv_aload_n hx hb dX4_readStep_151 rfl (lv_at hl 2 rfl) ?_
          refine m_aV hW (m_runV (As := []) (rest := []) hx hb hml hown hts hW (27) (g_X4_openAgain_o l D cy b (fun g => [5, 12, 13, 14].contains g) μ6 rfl rfl rfl rfl fT n cn (gi + 1) sl μ6 (IY.rf hI.1) hxt ⟨by exact xa7, by rw [show μ6.1 27 4 = cu7 from by exact hcu7]; omega, by rw [show μ6.1 27 5 = tk7 from by exact htk7]; omega, by omega, by exact xf7⟩ hso (by omega)) mi_X4_openAgain k_X4_93 rfl rfl rfl hl.1 rfl (Nat.le_of_ble_eq_true rfl) dX4_readStep_152 ⟨Nat.le_of_ble_eq_true rfl, Nat.le_of_ble_eq_true rfl⟩ ⟨Nat.le_of_ble_eq_true rfl, Nat.le_of_ble_eq_true rfl⟩) (fun μ9 H locs q9 hW => ?_)
          obtain ⟨hJ9, q9⟩ := q9
          have hI := hI.tr hJ9 (m_subL (by simp [hS5, hS12, hS13, hS14]))
          have hxt : m_XT μ9 fT n cn := hxt.fr hJ9 rfl rfl rfl
          rcases q9 with ⟨j10, ha10, hxs10, hso⟩ | ⟨e10, ha10, hxe10⟩
          · obtain ⟨xa11, xb11, xc11, xd11, xf11⟩ := hxs10
            obtain ⟨cu11, hcu11⟩ : ∃ z, μ9.1 27 4 = z := ⟨_, rfl⟩
            rw [hcu11] at xb11
            obtain ⟨tk11, htk11⟩ : ∃ z, μ9.1 27 5 = z := ⟨_, rfl⟩
            rw [htk11] at xc11
            refine lv_goto (tgt := 165) hx hb dX4_readStep_155 (by decide) ?_
            refine lv_iload_n hx hb dX4_readStep_165 rfl (lv_at hl 0 rfl) ?_
            refine lv_if_ne (tgt := 173) hx hb dX4_readStep_166 (by decide) (fun _ => ?_) (fun c => False.elim (by revert c; decide))
            exact m_vret hx hb hr hlocks hW (⟨hI, Or.inl ⟨j10, (true :: sl), (by rw [a_stA (by omega), if_neg (by omega)]; unfold a_again; rw [ha10]; rfl), ⟨by rw [show μ9.1 27 1 = 0 from by exact xa11], by rw [show μ9.1 27 4 = cu11 from by exact hcu11]; omega, by rw [show μ9.1 27 5 = tk11 from by exact htk11]; omega, by omega, by rw [show μ9.1 27 2 = (-1) from by exact xf11]⟩, hso⟩⟩) dX4_readStep_173
          · obtain ⟨xa12, xb12, xc12, xd12⟩ := hxe10
            obtain ⟨ef12, hef12⟩ : ∃ z, μ9.1 27 1 = z := ⟨_, rfl⟩
            rw [hef12] at xa12
            obtain ⟨ep12, hep12⟩ : ∃ z, μ9.1 27 2 = z := ⟨_, rfl⟩
            rw [hep12] at xc12
            refine lv_goto (tgt := 165) hx hb dX4_readStep_155 (by decide) ?_
            refine lv_iload_n hx hb dX4_readStep_165 rfl (lv_at hl 0 rfl) ?_
            refine lv_if_ne (tgt := 173) hx hb dX4_readStep_166 (by decide) (fun _ => ?_) (fun c => False.elim (by revert c; decide))
            exact m_vret hx hb hr hlocks hW (⟨hI, Or.inr ⟨e10, (by rw [a_stA (by omega), if_neg (by omega)]; unfold a_again; rw [ha10]; rfl), ⟨by rw [show μ9.1 27 1 = ef12 from by exact hef12]; exact xa12, xb12, by rw [show μ9.1 27 2 = ep12 from by exact hep12]; exact xc12, by rw [show μ9.1 27 5 = 0 from by exact xd12]⟩⟩⟩) dX4_readStep_173
        · exfalso; omega
    · have i4 := m_c2 (rfl : z37.toInt = _) (by decide : (4 : Int32).toInt = 4) c4
      refine lv_aload_n hx hb dX4_readStep_38 rfl (lv_at hl 2 rfl) ?_
      refine lv_iconst (v := 3) hx hb dX4_readStep_39 (by decide) ?_
      have l_3 : (3 : Int32).toInt = 3 := by decide
      refine m_aV hW (m_runV (As := [.int 3]) (rest := []) hx hb hml hown hts hW (27) (g_X4_fail_o l D cy b (fun g => [5].contains g) μ rfl fT n cn gi 3 (by omega) μ (IY.rf hI.1) hxt ⟨by exact xs1, by rw [show μ.1 27 4 = cu from by exact hcu]; omega, by rw [show μ.1 27 5 = tk from by exact htk]; omega, by omega, by exact xs5⟩) mi_X4_fail k_X4_74 rfl rfl rfl hl.1 rfl (Nat.le_of_ble_eq_true rfl) dX4_readStep_40 ⟨Nat.le_of_ble_eq_true rfl, Nat.le_of_ble_eq_true rfl⟩ ⟨Nat.le_of_ble_eq_true rfl, Nat.le_of_ble_eq_true rfl⟩) (fun μ13 H locs q13 hW => ?_)
      obtain ⟨hJ13, q13⟩ := q13
      have hI := hI.tr hJ13 (m_subL (by simp [hS5]))
      have hxt : m_XT μ13 fT n cn := hxt.fr hJ13 rfl rfl rfl
      have hso : m_SO μ13 sl := hso.fr hJ13 rfl
      rw [show (3 : Int32).toInt = 3 from by decide] at q13
      have hxe14 : m_XE μ13 (3, (t_L fT n) gi) := q13
      obtain ⟨xa15, xb15, xc15, xd15⟩ := hxe14
      obtain ⟨ef15, hef15⟩ : ∃ z, μ13.1 27 1 = z := ⟨_, rfl⟩
      rw [hef15] at xa15
      obtain ⟨ep15, hep15⟩ : ∃ z, μ13.1 27 2 = z := ⟨_, rfl⟩
      rw [hep15] at xc15
      exact m_vret hx hb hr hlocks hW (⟨hI, Or.inr ⟨(3, (t_L fT n) gi), (by rw [show a_step (t_K fT n) (t_L fT n) (t_V fT n) gi sl = _ from (by first | exact a_stA (by omega) | exact a_stI (by omega)), if_pos (by omega)]), ⟨by rw [show μ13.1 27 1 = ef15 from by exact hef15]; exact xa15, xb15, by rw [show μ13.1 27 2 = ep15 from by exact hep15]; exact xc15, by rw [show μ13.1 27 5 = 0 from by exact xd15]⟩⟩⟩) dX4_readStep_43
  · have i2 := m_c6 (rfl : tk.toInt = _) (by decide : (15 : Int32).toInt = 15) c2
    refine lv_iload_n hx hb dX4_readStep_11 rfl (lv_at hl 0 rfl) ?_
    refine lv_bipush (v := 16) hx hb dX4_readStep_12 (by decide) ?_
    refine lv_icmp_ne (tgt := 21) hx hb dX4_readStep_14 (by decide) (fun c16 => ?_) (fun c16 => ?_)
    · have i16 := m_c6 (rfl : tk.toInt = _) (by decide : (16 : Int32).toInt = 16) c16
      refine lv_iconst (v := 0) hx hb dX4_readStep_21 (by decide) ?_
      refine lv_istore_n (lv' := [(2, .int 0), (1, .int tk), (0, .ref (b + 27))]) hx hb dX4_readStep_22 rfl hl (by decide) rfl (fun ls hl => ?_)
      refine lv_iload_n hx hb dX4_readStep_23 rfl (lv_at hl 0 rfl) ?_
      refine lv_if_eq (tgt := 44) hx hb dX4_readStep_24 (by decide) (fun _ => ?_) (fun c => False.elim (by revert c; decide))
      refine lv_aload_n hx hb dX4_readStep_44 rfl (lv_at hl 2 rfl) ?_
      refine m_getr hx hb hts hown hW (27) 0 (28) rfl rfl cw_4 rfl (by decide) k_X4_16 dX4_readStep_45 ?_
      refine lv_iload_n hx hb dX4_readStep_48 rfl (lv_at hl 1 rfl) ?_
      refine m_aV hW (m_runV (As := [.int tk]) (rest := []) hx hb hml hown hts hW (28) (g_X5_add_28 l D cy b (fun g => [12].contains g) μ rfl tk μ (IY.rf hI.1)) mi_X5_add k_X4_83 rfl rfl rfl hl.1 rfl (Nat.le_of_ble_eq_true rfl) dX4_readStep_49 ⟨Nat.le_of_ble_eq_true rfl, Nat.le_of_ble_eq_true rfl⟩ ⟨Nat.le_of_ble_eq_true rfl, Nat.le_of_ble_eq_true rfl⟩) (fun μ17 H locs q17 hW => ?_)
      obtain ⟨hJ17, q17⟩ := q17
      have hI := hI.tr hJ17 (m_subL (by simp [hS12]))
      have hxt : m_XT μ17 fT n cn := hxt.fr hJ17 rfl rfl rfl
      have hso : m_SO μ17 sl := hso.fr hJ17 rfl
      refine lv_aload_n hx hb dX4_readStep_52 rfl (lv_at hl 2 rfl) ?_
      refine m_aV hW (m_runV (As := []) (rest := []) hx hb hml hown hts hW (27) (g_X4_advance_o l D cy b (fun g => [5].contains g) μ17 rfl fT n cn gi (hxt.lt (by omega) (by omega)) μ17 (IY.rf hI.1) hxt ⟨by exact ((hJ17.2.1 27 1 rfl).trans (by exact xs1)), by rw [show μ17.1 27 4 = cu from by exact ((hJ17.2.1 27 4 rfl).trans (by exact hcu))]; omega, by rw [show μ17.1 27 5 = tk from by exact ((hJ17.2.1 27 5 rfl).trans (by exact htk))]; omega, by omega, by exact ((hJ17.2.1 27 2 rfl).trans (by exact xs5))⟩) mi_X4_advance k_X4_80 rfl rfl rfl hl.1 rfl (Nat.le_of_ble_eq_true rfl) dX4_readStep_53 ⟨Nat.le_of_ble_eq_true rfl, Nat.le_of_ble_eq_true rfl⟩ ⟨Nat.le_of_ble_eq_true rfl, Nat.le_of_ble_eq_true rfl⟩) (fun μ18 H locs q18 hW => ?_)
      obtain ⟨hJ18, q18⟩ := q18
      have hI := hI.tr hJ18 (m_subL (by simp [hS5]))
      have hxt : m_XT μ18 fT n cn := hxt.fr hJ18 rfl rfl rfl
      have hso : m_SO μ18 sl := hso.fr hJ18 rfl
      obtain ⟨xa19, xb19, xc19, xd19, xf19⟩ := q18
      obtain ⟨cu19, hcu19⟩ : ∃ z, μ18.1 27 4 = z := ⟨_, rfl⟩
      rw [hcu19] at xb19
      obtain ⟨tk19, htk19⟩ : ∃ z, μ18.1 27 5 = z := ⟨_, rfl⟩
      rw [htk19] at xc19
      refine lv_iload_n hx hb dX4_readStep_56 rfl (lv_at hl 1 rfl) ?_
      by_cases c20 : tk.toInt < 11 ∨ 16 < tk.toInt
      · refine lv_tableOut (tgt := 165) hx hb dX4_readStep_57 c20 (by decide) ?_
        refine lv_iload_n hx hb dX4_readStep_165 rfl (lv_at hl 0 rfl) ?_
        refine lv_if_ne (tgt := 173) hx hb dX4_readStep_166 (by decide) (fun c => False.elim (by revert c; decide)) (fun _ => ?_)
        refine lv_aload_n hx hb dX4_readStep_169 rfl (lv_at hl 2 rfl) ?_
        refine m_aV hW (m_runV (As := []) (rest := []) hx hb hml hown hts hW (27) (g_X4_closeStep_o l D cy b (fun g => [5, 12, 13, 14].contains g) μ18 rfl rfl rfl rfl fT n cn (gi + 1) sl μ18 (IY.rf hI.1) hxt ⟨by exact xa19, by rw [show μ18.1 27 4 = cu19 from by exact hcu19]; omega, by rw [show μ18.1 27 5 = tk19 from by exact htk19]; omega, by omega, by exact xf19⟩ hso) mi_X4_closeStep k_X4_99 rfl rfl rfl hl.1 rfl (Nat.le_of_ble_eq_true rfl) dX4_readStep_170 ⟨Nat.le_of_ble_eq_true rfl, Nat.le_of_ble_eq_true rfl⟩ ⟨Nat.le_of_ble_eq_true rfl, Nat.le_of_ble_eq_true rfl⟩) (fun μ21 H locs q21 hW => ?_)
        obtain ⟨hJ21, q21⟩ := q21
        have hI := hI.tr hJ21 (m_subL (by simp [hS5, hS12, hS13, hS14]))
        have hxt : m_XT μ21 fT n cn := hxt.fr hJ21 rfl rfl rfl
        rcases q21 with ⟨j22, ha22, hxs22, hso⟩ | ⟨e22, ha22, hxe22⟩
        · obtain ⟨xa23, xb23, xc23, xd23, xf23⟩ := hxs22
          obtain ⟨cu23, hcu23⟩ : ∃ z, μ21.1 27 4 = z := ⟨_, rfl⟩
          rw [hcu23] at xb23
          obtain ⟨tk23, htk23⟩ : ∃ z, μ21.1 27 5 = z := ⟨_, rfl⟩
          rw [htk23] at xc23
          exact m_vret hx hb hr hlocks hW (⟨hI, Or.inl ⟨j22, (a_pop sl), (by rw [a_stP (by omega)]; unfold a_plain; rw [if_pos (by omega)]; simp only [a_b, ha22]), ⟨by rw [show μ21.1 27 1 = 0 from by exact xa23], by rw [show μ21.1 27 4 = cu23 from by exact hcu23]; omega, by rw [show μ21.1 27 5 = tk23 from by exact htk23]; omega, by omega, by rw [show μ21.1 27 2 = (-1) from by exact xf23]⟩, hso⟩⟩) dX4_readStep_173
        · obtain ⟨xa24, xb24, xc24, xd24⟩ := hxe22
          obtain ⟨ef24, hef24⟩ : ∃ z, μ21.1 27 1 = z := ⟨_, rfl⟩
          rw [hef24] at xa24
          obtain ⟨ep24, hep24⟩ : ∃ z, μ21.1 27 2 = z := ⟨_, rfl⟩
          rw [hep24] at xc24
          exact m_vret hx hb hr hlocks hW (⟨hI, Or.inr ⟨e22, (by rw [a_stP (by omega)]; unfold a_plain; rw [if_pos (by omega)]; simp only [a_b, ha22]), ⟨by rw [show μ21.1 27 1 = ef24 from by exact hef24]; exact xa24, xb24, by rw [show μ21.1 27 2 = ep24 from by exact hep24]; exact xc24, by rw [show μ21.1 27 5 = 0 from by exact xd24]⟩⟩⟩) dX4_readStep_173
      · have q20 : tk.toInt = 11 ∨ tk.toInt = 12 ∨ tk.toInt = 13 ∨ tk.toInt = 14 ∨ tk.toInt = 15 ∨ tk.toInt = 16 := by omega
        rcases q20 with q20 | q20 | q20 | q20 | q20 | q20
        · refine lv_tableIn (off := 39) (tgt := 96) hx hb dX4_readStep_57 (fun z => c20 (Or.inl z)) (fun z => c20 (Or.inr z)) (by rw [q20]; rfl) (by decide) ?_
          refine lv_aload_n hx hb dX4_readStep_96 rfl (lv_at hl 2 rfl) ?_
          refine lv_iconst (v := 0) hx hb dX4_readStep_97 (by decide) ?_
          refine lv_sipush (v := 9999) hx hb dX4_readStep_98 (by decide) ?_
          have l_0 : (0 : Int32).toInt = 0 := by decide
          have l_9999 : (9999 : Int32).toInt = 9999 := by decide
          refine m_aV hW (m_runV (As := [.int 0, .int 9999]) (rest := []) hx hb hml hown hts hW (27) (g_X4_readNumber_o l D cy b (fun g => [5, 12].contains g) μ18 rfl rfl fT n cn (gi + 1) 0 9999 μ18 (IY.rf hI.1) hxt ⟨by exact xa19, by rw [show μ18.1 27 4 = cu19 from by exact hcu19]; omega, by rw [show μ18.1 27 5 = tk19 from by exact htk19]; omega, by omega, by exact xf19⟩) mi_X4_readNumber k_X4_86 rfl rfl rfl hl.1 rfl (Nat.le_of_ble_eq_true rfl) dX4_readStep_101 ⟨Nat.le_of_ble_eq_true rfl, Nat.le_of_ble_eq_true rfl⟩ ⟨Nat.le_of_ble_eq_true rfl, Nat.le_of_ble_eq_true rfl⟩) (fun μ25 H locs q25 hW => ?_)
          obtain ⟨hJ25, q25⟩ := q25
          have hI := hI.tr hJ25 (m_subL (by simp [hS5, hS12]))
          have hxt : m_XT μ25 fT n cn := hxt.fr hJ25 rfl rfl rfl
          have hso : m_SO μ25 sl := hso.fr hJ25 rfl
          rw [show (0 : Int32).toInt = 0 from by decide, show (9999 : Int32).toInt = 9999 from by decide] at q25
          rcases q25 with ⟨j26, ha26, hxs26⟩ | ⟨e26, ha26, hxe26⟩
          · obtain ⟨xa27, xb27, xc27, xd27, xf27⟩ := hxs26
            obtain ⟨cu27, hcu27⟩ : ∃ z, μ25.1 27 4 = z := ⟨_, rfl⟩
            rw [hcu27] at xb27
            obtain ⟨tk27, htk27⟩ : ∃ z, μ25.1 27 5 = z := ⟨_, rfl⟩
            rw [htk27] at xc27
            refine lv_aload_n hx hb dX4_readStep_104 rfl (lv_at hl 2 rfl) ?_
            refine lv_iconst (v := 0) hx hb dX4_readStep_105 (by decide) ?_
            refine lv_sipush (v := 9999) hx hb dX4_readStep_106 (by decide) ?_
            refine m_aV hW (m_runV (As := [.int 0, .int 9999]) (rest := []) hx hb hml hown hts hW (27) (g_X4_readNumber_o l D cy b (fun g => [5, 12].contains g) μ25 rfl rfl fT n cn j26 0 9999 μ25 (IY.rf hI.1) hxt ⟨by exact xa27, by rw [show μ25.1 27 4 = cu27 from by exact hcu27]; omega, by rw [show μ25.1 27 5 = tk27 from by exact htk27]; omega, by omega, by exact xf27⟩) mi_X4_readNumber k_X4_86 rfl rfl rfl hl.1 rfl (Nat.le_of_ble_eq_true rfl) dX4_readStep_109 ⟨Nat.le_of_ble_eq_true rfl, Nat.le_of_ble_eq_true rfl⟩ ⟨Nat.le_of_ble_eq_true rfl, Nat.le_of_ble_eq_true rfl⟩) (fun μ28 H locs q28 hW => ?_)
            obtain ⟨hJ28, q28⟩ := q28
            have hI := hI.tr hJ28 (m_subL (by simp [hS5, hS12]))
            have hxt : m_XT μ28 fT n cn := hxt.fr hJ28 rfl rfl rfl
            have hso : m_SO μ28 sl := hso.fr hJ28 rfl
            rw [show (0 : Int32).toInt = 0 from by decide, show (9999 : Int32).toInt = 9999 from by decide] at q28
            rcases q28 with ⟨j29, ha29, hxs29⟩ | ⟨e29, ha29, hxe29⟩
            · obtain ⟨xa30, xb30, xc30, xd30, xf30⟩ := hxs29
              obtain ⟨cu30, hcu30⟩ : ∃ z, μ28.1 27 4 = z := ⟨_, rfl⟩
              rw [hcu30] at xb30
              obtain ⟨tk30, htk30⟩ : ∃ z, μ28.1 27 5 = z := ⟨_, rfl⟩
              rw [htk30] at xc30
              refine lv_goto (tgt := 165) hx hb dX4_readStep_112 (by decide) ?_
              refine lv_iload_n hx hb dX4_readStep_165 rfl (lv_at hl 0 rfl) ?_
              refine lv_if_ne (tgt := 173) hx hb dX4_readStep_166 (by decide) (fun c => False.elim (by revert c; decide)) (fun _ => ?_)
              refine lv_aload_n hx hb dX4_readStep_169 rfl (lv_at hl 2 rfl) ?_
              refine m_aV hW (m_runV (As := []) (rest := []) hx hb hml hown hts hW (27) (g_X4_closeStep_o l D cy b (fun g => [5, 12, 13, 14].contains g) μ28 rfl rfl rfl rfl fT n cn j29 sl μ28 (IY.rf hI.1) hxt ⟨by exact xa30, by rw [show μ28.1 27 4 = cu30 from by exact hcu30]; omega, by rw [show μ28.1 27 5 = tk30 from by exact htk30]; omega, by omega, by exact xf30⟩ hso) mi_X4_closeStep k_X4_99 rfl rfl rfl hl.1 rfl (Nat.le_of_ble_eq_true rfl) dX4_readStep_170 ⟨Nat.le_of_ble_eq_true rfl, Nat.le_of_ble_eq_true rfl⟩ ⟨Nat.le_of_ble_eq_true rfl, Nat.le_of_ble_eq_true rfl⟩) (fun μ31 H locs q31 hW => ?_)
              obtain ⟨hJ31, q31⟩ := q31
              have hI := hI.tr hJ31 (m_subL (by simp [hS5, hS12, hS13, hS14]))
              have hxt : m_XT μ31 fT n cn := hxt.fr hJ31 rfl rfl rfl
              rcases q31 with ⟨j32, ha32, hxs32, hso⟩ | ⟨e32, ha32, hxe32⟩
              · obtain ⟨xa33, xb33, xc33, xd33, xf33⟩ := hxs32
                obtain ⟨cu33, hcu33⟩ : ∃ z, μ31.1 27 4 = z := ⟨_, rfl⟩
                rw [hcu33] at xb33
                obtain ⟨tk33, htk33⟩ : ∃ z, μ31.1 27 5 = z := ⟨_, rfl⟩
                rw [htk33] at xc33
                exact m_vret hx hb hr hlocks hW (⟨hI, Or.inl ⟨j32, (a_pop sl), (by rw [a_stP (by omega)]; unfold a_plain; rw [if_neg (by omega), if_pos (by omega)]; simp only [a_b, ha26, ha29, ha32]), ⟨by rw [show μ31.1 27 1 = 0 from by exact xa33], by rw [show μ31.1 27 4 = cu33 from by exact hcu33]; omega, by rw [show μ31.1 27 5 = tk33 from by exact htk33]; omega, by omega, by rw [show μ31.1 27 2 = (-1) from by exact xf33]⟩, hso⟩⟩) dX4_readStep_173
              · obtain ⟨xa34, xb34, xc34, xd34⟩ := hxe32
                obtain ⟨ef34, hef34⟩ : ∃ z, μ31.1 27 1 = z := ⟨_, rfl⟩
                rw [hef34] at xa34
                obtain ⟨ep34, hep34⟩ : ∃ z, μ31.1 27 2 = z := ⟨_, rfl⟩
                rw [hep34] at xc34
                exact m_vret hx hb hr hlocks hW (⟨hI, Or.inr ⟨e32, (by rw [a_stP (by omega)]; unfold a_plain; rw [if_neg (by omega), if_pos (by omega)]; simp only [a_b, ha26, ha29, ha32]), ⟨by rw [show μ31.1 27 1 = ef34 from by exact hef34]; exact xa34, xb34, by rw [show μ31.1 27 2 = ep34 from by exact hep34]; exact xc34, by rw [show μ31.1 27 5 = 0 from by exact xd34]⟩⟩⟩) dX4_readStep_173
            · obtain ⟨xa35, xb35, xc35, xd35⟩ := hxe29
              obtain ⟨ef35, hef35⟩ : ∃ z, μ28.1 27 1 = z := ⟨_, rfl⟩
              rw [hef35] at xa35
              obtain ⟨ep35, hep35⟩ : ∃ z, μ28.1 27 2 = z := ⟨_, rfl⟩
              rw [hep35] at xc35
              refine lv_goto (tgt := 165) hx hb dX4_readStep_112 (by decide) ?_
              refine lv_iload_n hx hb dX4_readStep_165 rfl (lv_at hl 0 rfl) ?_
              refine lv_if_ne (tgt := 173) hx hb dX4_readStep_166 (by decide) (fun c => False.elim (by revert c; decide)) (fun _ => ?_)
              refine lv_aload_n hx hb dX4_readStep_169 rfl (lv_at hl 2 rfl) ?_
              refine m_aV hW (m_runV (As := []) (rest := []) hx hb hml hown hts hW (27) (g_X4_closeStep_e l D cy b S μ0 hS5 hS12 hS13 hS14 ef35 ep35 (by omega) μ28 hI (by exact hef35) (by exact hep35) (by exact xd35)) mi_X4_closeStep k_X4_99 rfl rfl rfl hl.1 rfl (Nat.le_of_ble_eq_true rfl) dX4_readStep_170 ⟨Nat.le_of_ble_eq_true rfl, Nat.le_of_ble_eq_true rfl⟩ ⟨Nat.le_of_ble_eq_true rfl, Nat.le_of_ble_eq_true rfl⟩) (fun μ36 H locs q36 hW => ?_)
              obtain ⟨hI, q36⟩ := q36
              obtain ⟨q36a, q36b, q36c⟩ := q36
              exact m_vret hx hb hr hlocks hW (⟨hI, Or.inr ⟨e29, (by rw [a_stP (by omega)]; unfold a_plain; rw [if_neg (by omega), if_pos (by omega)]; simp only [a_b, ha26, ha29]), ⟨by rw [show μ36.1 27 1 = ef35 from by exact q36a]; exact xa35, xb35, by rw [show μ36.1 27 2 = ep35 from by exact q36b]; exact xc35, by rw [show μ36.1 27 5 = 0 from by exact q36c]⟩⟩⟩) dX4_readStep_173
          · obtain ⟨xa37, xb37, xc37, xd37⟩ := hxe26
            obtain ⟨ef37, hef37⟩ : ∃ z, μ25.1 27 1 = z := ⟨_, rfl⟩
            rw [hef37] at xa37
            obtain ⟨ep37, hep37⟩ : ∃ z, μ25.1 27 2 = z := ⟨_, rfl⟩
            rw [hep37] at xc37
            refine lv_aload_n hx hb dX4_readStep_104 rfl (lv_at hl 2 rfl) ?_
            refine lv_iconst (v := 0) hx hb dX4_readStep_105 (by decide) ?_
            refine lv_sipush (v := 9999) hx hb dX4_readStep_106 (by decide) ?_
            refine m_aV hW (m_runV (As := [.int 0, .int 9999]) (rest := []) hx hb hml hown hts hW (27) (g_X4_readNumber_e l D cy b (fun g => [5, 12].contains g) μ25 rfl rfl ef37 ep37 (by omega) 0 9999 μ25 (IY.rf hI.1) (by exact hef37) (by exact hep37) (by exact xd37)) mi_X4_readNumber k_X4_86 rfl rfl rfl hl.1 rfl (Nat.le_of_ble_eq_true rfl) dX4_readStep_109 ⟨Nat.le_of_ble_eq_true rfl, Nat.le_of_ble_eq_true rfl⟩ ⟨Nat.le_of_ble_eq_true rfl, Nat.le_of_ble_eq_true rfl⟩) (fun μ38 H locs q38 hW => ?_)
            obtain ⟨hJ38, q38⟩ := q38
            have hI := hI.tr hJ38 (m_subL (by simp [hS5, hS12]))
            obtain ⟨q38a, q38b, q38c⟩ := q38
            refine lv_goto (tgt := 165) hx hb dX4_readStep_112 (by decide) ?_
            refine lv_iload_n hx hb dX4_readStep_165 rfl (lv_at hl 0 rfl) ?_
            refine lv_if_ne (tgt := 173) hx hb dX4_readStep_166 (by decide) (fun c => False.elim (by revert c; decide)) (fun _ => ?_)
            refine lv_aload_n hx hb dX4_readStep_169 rfl (lv_at hl 2 rfl) ?_
            refine m_aV hW (m_runV (As := []) (rest := []) hx hb hml hown hts hW (27) (g_X4_closeStep_e l D cy b S μ0 hS5 hS12 hS13 hS14 ef37 ep37 (by omega) μ38 hI (by exact q38a) (by exact q38b) (by exact q38c)) mi_X4_closeStep k_X4_99 rfl rfl rfl hl.1 rfl (Nat.le_of_ble_eq_true rfl) dX4_readStep_170 ⟨Nat.le_of_ble_eq_true rfl, Nat.le_of_ble_eq_true rfl⟩ ⟨Nat.le_of_ble_eq_true rfl, Nat.le_of_ble_eq_true rfl⟩) (fun μ39 H locs q39 hW => ?_)
            obtain ⟨hI, q39⟩ := q39
            obtain ⟨q39a, q39b, q39c⟩ := q39
            exact m_vret hx hb hr hlocks hW (⟨hI, Or.inr ⟨e26, (by rw [a_stP (by omega)]; unfold a_plain; rw [if_neg (by omega), if_pos (by omega)]; simp only [a_b, ha26]), ⟨by rw [show μ39.1 27 1 = ef37 from by exact q39a]; exact xa37, xb37, by rw [show μ39.1 27 2 = ep37 from by exact q39b]; exact xc37, by rw [show μ39.1 27 5 = 0 from by exact q39c]⟩⟩⟩) dX4_readStep_173
        · refine lv_tableIn (off := 58) (tgt := 115) hx hb dX4_readStep_57 (fun z => c20 (Or.inl z)) (fun z => c20 (Or.inr z)) (by rw [q20]; rfl) (by decide) ?_
          refine lv_aload_n hx hb dX4_readStep_115 rfl (lv_at hl 2 rfl) ?_
          refine m_aV hW (m_runV (As := []) (rest := []) hx hb hml hown hts hW (27) (g_X4_readSide_o l D cy b (fun g => [5, 12].contains g) μ18 rfl rfl fT n cn (gi + 1) μ18 (IY.rf hI.1) hxt ⟨by exact xa19, by rw [show μ18.1 27 4 = cu19 from by exact hcu19]; omega, by rw [show μ18.1 27 5 = tk19 from by exact htk19]; omega, by omega, by exact xf19⟩) mi_X4_readSide k_X4_90 rfl rfl rfl hl.1 rfl (Nat.le_of_ble_eq_true rfl) dX4_readStep_116 ⟨Nat.le_of_ble_eq_true rfl, Nat.le_of_ble_eq_true rfl⟩ ⟨Nat.le_of_ble_eq_true rfl, Nat.le_of_ble_eq_true rfl⟩) (fun μ40 H locs q40 hW => ?_)
          obtain ⟨hJ40, q40⟩ := q40
          have hI := hI.tr hJ40 (m_subL (by simp [hS5, hS12]))
          have hxt : m_XT μ40 fT n cn := hxt.fr hJ40 rfl rfl rfl
          have hso : m_SO μ40 sl := hso.fr hJ40 rfl
          rcases q40 with ⟨j41, ha41, hxs41⟩ | ⟨e41, ha41, hxe41⟩
          · obtain ⟨xa42, xb42, xc42, xd42, xf42⟩ := hxs41
            obtain ⟨cu42, hcu42⟩ : ∃ z, μ40.1 27 4 = z := ⟨_, rfl⟩
            rw [hcu42] at xb42
            obtain ⟨tk42, htk42⟩ : ∃ z, μ40.1 27 5 = z := ⟨_, rfl⟩
            rw [htk42] at xc42
            refine lv_aload_n hx hb dX4_readStep_119 rfl (lv_at hl 2 rfl) ?_
            refine lv_iconst (v := 0) hx hb dX4_readStep_120 (by decide) ?_
            refine lv_sipush (v := 9999) hx hb dX4_readStep_121 (by decide) ?_
            have l_0 : (0 : Int32).toInt = 0 := by decide
            have l_9999 : (9999 : Int32).toInt = 9999 := by decide
            refine m_aV hW (m_runV (As := [.int 0, .int 9999]) (rest := []) hx hb hml hown hts hW (27) (g_X4_readNumber_o l D cy b (fun g => [5, 12].contains g) μ40 rfl rfl fT n cn j41 0 9999 μ40 (IY.rf hI.1) hxt ⟨by exact xa42, by rw [show μ40.1 27 4 = cu42 from by exact hcu42]; omega, by rw [show μ40.1 27 5 = tk42 from by exact htk42]; omega, by omega, by exact xf42⟩) mi_X4_readNumber k_X4_86 rfl rfl rfl hl.1 rfl (Nat.le_of_ble_eq_true rfl) dX4_readStep_124 ⟨Nat.le_of_ble_eq_true rfl, Nat.le_of_ble_eq_true rfl⟩ ⟨Nat.le_of_ble_eq_true rfl, Nat.le_of_ble_eq_true rfl⟩) (fun μ43 H locs q43 hW => ?_)
            obtain ⟨hJ43, q43⟩ := q43
            have hI := hI.tr hJ43 (m_subL (by simp [hS5, hS12]))
            have hxt : m_XT μ43 fT n cn := hxt.fr hJ43 rfl rfl rfl
            have hso : m_SO μ43 sl := hso.fr hJ43 rfl
            rw [show (0 : Int32).toInt = 0 from by decide, show (9999 : Int32).toInt = 9999 from by decide] at q43
            rcases q43 with ⟨j44, ha44, hxs44⟩ | ⟨e44, ha44, hxe44⟩
            · obtain ⟨xa45, xb45, xc45, xd45, xf45⟩ := hxs44
              obtain ⟨cu45, hcu45⟩ : ∃ z, μ43.1 27 4 = z := ⟨_, rfl⟩
              rw [hcu45] at xb45
              obtain ⟨tk45, htk45⟩ : ∃ z, μ43.1 27 5 = z := ⟨_, rfl⟩
              rw [htk45] at xc45
              refine lv_goto (tgt := 165) hx hb dX4_readStep_127 (by decide) ?_
              refine lv_iload_n hx hb dX4_readStep_165 rfl (lv_at hl 0 rfl) ?_
              refine lv_if_ne (tgt := 173) hx hb dX4_readStep_166 (by decide) (fun c => False.elim (by revert c; decide)) (fun _ => ?_)
              refine lv_aload_n hx hb dX4_readStep_169 rfl (lv_at hl 2 rfl) ?_
              refine m_aV hW (m_runV (As := []) (rest := []) hx hb hml hown hts hW (27) (g_X4_closeStep_o l D cy b (fun g => [5, 12, 13, 14].contains g) μ43 rfl rfl rfl rfl fT n cn j44 sl μ43 (IY.rf hI.1) hxt ⟨by exact xa45, by rw [show μ43.1 27 4 = cu45 from by exact hcu45]; omega, by rw [show μ43.1 27 5 = tk45 from by exact htk45]; omega, by omega, by exact xf45⟩ hso) mi_X4_closeStep k_X4_99 rfl rfl rfl hl.1 rfl (Nat.le_of_ble_eq_true rfl) dX4_readStep_170 ⟨Nat.le_of_ble_eq_true rfl, Nat.le_of_ble_eq_true rfl⟩ ⟨Nat.le_of_ble_eq_true rfl, Nat.le_of_ble_eq_true rfl⟩) (fun μ46 H locs q46 hW => ?_)
              obtain ⟨hJ46, q46⟩ := q46
              have hI := hI.tr hJ46 (m_subL (by simp [hS5, hS12, hS13, hS14]))
              have hxt : m_XT μ46 fT n cn := hxt.fr hJ46 rfl rfl rfl
              rcases q46 with ⟨j47, ha47, hxs47, hso⟩ | ⟨e47, ha47, hxe47⟩
              · obtain ⟨xa48, xb48, xc48, xd48, xf48⟩ := hxs47
                obtain ⟨cu48, hcu48⟩ : ∃ z, μ46.1 27 4 = z := ⟨_, rfl⟩
                rw [hcu48] at xb48
                obtain ⟨tk48, htk48⟩ : ∃ z, μ46.1 27 5 = z := ⟨_, rfl⟩
                rw [htk48] at xc48
                exact m_vret hx hb hr hlocks hW (⟨hI, Or.inl ⟨j47, (a_pop sl), (by rw [a_stP (by omega)]; unfold a_plain; rw [if_neg (by omega), if_neg (by omega), if_pos (by omega)]; simp only [a_b, ha41, ha44, ha47]), ⟨by rw [show μ46.1 27 1 = 0 from by exact xa48], by rw [show μ46.1 27 4 = cu48 from by exact hcu48]; omega, by rw [show μ46.1 27 5 = tk48 from by exact htk48]; omega, by omega, by rw [show μ46.1 27 2 = (-1) from by exact xf48]⟩, hso⟩⟩) dX4_readStep_173
              · obtain ⟨xa49, xb49, xc49, xd49⟩ := hxe47
                obtain ⟨ef49, hef49⟩ : ∃ z, μ46.1 27 1 = z := ⟨_, rfl⟩
                rw [hef49] at xa49
                obtain ⟨ep49, hep49⟩ : ∃ z, μ46.1 27 2 = z := ⟨_, rfl⟩
                rw [hep49] at xc49
                exact m_vret hx hb hr hlocks hW (⟨hI, Or.inr ⟨e47, (by rw [a_stP (by omega)]; unfold a_plain; rw [if_neg (by omega), if_neg (by omega), if_pos (by omega)]; simp only [a_b, ha41, ha44, ha47]), ⟨by rw [show μ46.1 27 1 = ef49 from by exact hef49]; exact xa49, xb49, by rw [show μ46.1 27 2 = ep49 from by exact hep49]; exact xc49, by rw [show μ46.1 27 5 = 0 from by exact xd49]⟩⟩⟩) dX4_readStep_173
            · obtain ⟨xa50, xb50, xc50, xd50⟩ := hxe44
              obtain ⟨ef50, hef50⟩ : ∃ z, μ43.1 27 1 = z := ⟨_, rfl⟩
              rw [hef50] at xa50
              obtain ⟨ep50, hep50⟩ : ∃ z, μ43.1 27 2 = z := ⟨_, rfl⟩
              rw [hep50] at xc50
              refine lv_goto (tgt := 165) hx hb dX4_readStep_127 (by decide) ?_
              refine lv_iload_n hx hb dX4_readStep_165 rfl (lv_at hl 0 rfl) ?_
              refine lv_if_ne (tgt := 173) hx hb dX4_readStep_166 (by decide) (fun c => False.elim (by revert c; decide)) (fun _ => ?_)
              refine lv_aload_n hx hb dX4_readStep_169 rfl (lv_at hl 2 rfl) ?_
              refine m_aV hW (m_runV (As := []) (rest := []) hx hb hml hown hts hW (27) (g_X4_closeStep_e l D cy b S μ0 hS5 hS12 hS13 hS14 ef50 ep50 (by omega) μ43 hI (by exact hef50) (by exact hep50) (by exact xd50)) mi_X4_closeStep k_X4_99 rfl rfl rfl hl.1 rfl (Nat.le_of_ble_eq_true rfl) dX4_readStep_170 ⟨Nat.le_of_ble_eq_true rfl, Nat.le_of_ble_eq_true rfl⟩ ⟨Nat.le_of_ble_eq_true rfl, Nat.le_of_ble_eq_true rfl⟩) (fun μ51 H locs q51 hW => ?_)
              obtain ⟨hI, q51⟩ := q51
              obtain ⟨q51a, q51b, q51c⟩ := q51
              exact m_vret hx hb hr hlocks hW (⟨hI, Or.inr ⟨e44, (by rw [a_stP (by omega)]; unfold a_plain; rw [if_neg (by omega), if_neg (by omega), if_pos (by omega)]; simp only [a_b, ha41, ha44]), ⟨by rw [show μ51.1 27 1 = ef50 from by exact q51a]; exact xa50, xb50, by rw [show μ51.1 27 2 = ep50 from by exact q51b]; exact xc50, by rw [show μ51.1 27 5 = 0 from by exact q51c]⟩⟩⟩) dX4_readStep_173
          · obtain ⟨xa52, xb52, xc52, xd52⟩ := hxe41
            obtain ⟨ef52, hef52⟩ : ∃ z, μ40.1 27 1 = z := ⟨_, rfl⟩
            rw [hef52] at xa52
            obtain ⟨ep52, hep52⟩ : ∃ z, μ40.1 27 2 = z := ⟨_, rfl⟩
            rw [hep52] at xc52
            refine lv_aload_n hx hb dX4_readStep_119 rfl (lv_at hl 2 rfl) ?_
            refine lv_iconst (v := 0) hx hb dX4_readStep_120 (by decide) ?_
            refine lv_sipush (v := 9999) hx hb dX4_readStep_121 (by decide) ?_
            have l_0 : (0 : Int32).toInt = 0 := by decide
            have l_9999 : (9999 : Int32).toInt = 9999 := by decide
            refine m_aV hW (m_runV (As := [.int 0, .int 9999]) (rest := []) hx hb hml hown hts hW (27) (g_X4_readNumber_e l D cy b (fun g => [5, 12].contains g) μ40 rfl rfl ef52 ep52 (by omega) 0 9999 μ40 (IY.rf hI.1) (by exact hef52) (by exact hep52) (by exact xd52)) mi_X4_readNumber k_X4_86 rfl rfl rfl hl.1 rfl (Nat.le_of_ble_eq_true rfl) dX4_readStep_124 ⟨Nat.le_of_ble_eq_true rfl, Nat.le_of_ble_eq_true rfl⟩ ⟨Nat.le_of_ble_eq_true rfl, Nat.le_of_ble_eq_true rfl⟩) (fun μ53 H locs q53 hW => ?_)
            obtain ⟨hJ53, q53⟩ := q53
            have hI := hI.tr hJ53 (m_subL (by simp [hS5, hS12]))
            obtain ⟨q53a, q53b, q53c⟩ := q53
            refine lv_goto (tgt := 165) hx hb dX4_readStep_127 (by decide) ?_
            refine lv_iload_n hx hb dX4_readStep_165 rfl (lv_at hl 0 rfl) ?_
            refine lv_if_ne (tgt := 173) hx hb dX4_readStep_166 (by decide) (fun c => False.elim (by revert c; decide)) (fun _ => ?_)
            refine lv_aload_n hx hb dX4_readStep_169 rfl (lv_at hl 2 rfl) ?_
            refine m_aV hW (m_runV (As := []) (rest := []) hx hb hml hown hts hW (27) (g_X4_closeStep_e l D cy b S μ0 hS5 hS12 hS13 hS14 ef52 ep52 (by omega) μ53 hI (by exact q53a) (by exact q53b) (by exact q53c)) mi_X4_closeStep k_X4_99 rfl rfl rfl hl.1 rfl (Nat.le_of_ble_eq_true rfl) dX4_readStep_170 ⟨Nat.le_of_ble_eq_true rfl, Nat.le_of_ble_eq_true rfl⟩ ⟨Nat.le_of_ble_eq_true rfl, Nat.le_of_ble_eq_true rfl⟩) (fun μ54 H locs q54 hW => ?_)
            obtain ⟨hI, q54⟩ := q54
            obtain ⟨q54a, q54b, q54c⟩ := q54
            exact m_vret hx hb hr hlocks hW (⟨hI, Or.inr ⟨e41, (by rw [a_stP (by omega)]; unfold a_plain; rw [if_neg (by omega), if_neg (by omega), if_pos (by omega)]; simp only [a_b, ha41]), ⟨by rw [show μ54.1 27 1 = ef52 from by exact q54a]; exact xa52, xb52, by rw [show μ54.1 27 2 = ep52 from by exact q54b]; exact xc52, by rw [show μ54.1 27 5 = 0 from by exact q54c]⟩⟩⟩) dX4_readStep_173
        · refine lv_tableIn (off := 73) (tgt := 130) hx hb dX4_readStep_57 (fun z => c20 (Or.inl z)) (fun z => c20 (Or.inr z)) (by rw [q20]; rfl) (by decide) ?_
          refine lv_aload_n hx hb dX4_readStep_130 rfl (lv_at hl 2 rfl) ?_
          refine lv_iconst (v := 0) hx hb dX4_readStep_131 (by decide) ?_
          refine lv_sipush (v := 9999) hx hb dX4_readStep_132 (by decide) ?_
          have l_0 : (0 : Int32).toInt = 0 := by decide
          have l_9999 : (9999 : Int32).toInt = 9999 := by decide
          refine m_aV hW (m_runV (As := [.int 0, .int 9999]) (rest := []) hx hb hml hown hts hW (27) (g_X4_readNumber_o l D cy b (fun g => [5, 12].contains g) μ18 rfl rfl fT n cn (gi + 1) 0 9999 μ18 (IY.rf hI.1) hxt ⟨by exact xa19, by rw [show μ18.1 27 4 = cu19 from by exact hcu19]; omega, by rw [show μ18.1 27 5 = tk19 from by exact htk19]; omega, by omega, by exact xf19⟩) mi_X4_readNumber k_X4_86 rfl rfl rfl hl.1 rfl (Nat.le_of_ble_eq_true rfl) dX4_readStep_135 ⟨Nat.le_of_ble_eq_true rfl, Nat.le_of_ble_eq_true rfl⟩ ⟨Nat.le_of_ble_eq_true rfl, Nat.le_of_ble_eq_true rfl⟩) (fun μ55 H locs q55 hW => ?_)
          obtain ⟨hJ55, q55⟩ := q55
          have hI := hI.tr hJ55 (m_subL (by simp [hS5, hS12]))
          have hxt : m_XT μ55 fT n cn := hxt.fr hJ55 rfl rfl rfl
          have hso : m_SO μ55 sl := hso.fr hJ55 rfl
          rw [show (0 : Int32).toInt = 0 from by decide, show (9999 : Int32).toInt = 9999 from by decide] at q55
          rcases q55 with ⟨j56, ha56, hxs56⟩ | ⟨e56, ha56, hxe56⟩
          · obtain ⟨xa57, xb57, xc57, xd57, xf57⟩ := hxs56
            obtain ⟨cu57, hcu57⟩ : ∃ z, μ55.1 27 4 = z := ⟨_, rfl⟩
            rw [hcu57] at xb57
            obtain ⟨tk57, htk57⟩ : ∃ z, μ55.1 27 5 = z := ⟨_, rfl⟩
            rw [htk57] at xc57
            refine lv_goto (tgt := 165) hx hb dX4_readStep_138 (by decide) ?_
            refine lv_iload_n hx hb dX4_readStep_165 rfl (lv_at hl 0 rfl) ?_
            refine lv_if_ne (tgt := 173) hx hb dX4_readStep_166 (by decide) (fun c => False.elim (by revert c; decide)) (fun _ => ?_)
            refine lv_aload_n hx hb dX4_readStep_169 rfl (lv_at hl 2 rfl) ?_
            refine m_aV hW (m_runV (As := []) (rest := []) hx hb hml hown hts hW (27) (g_X4_closeStep_o l D cy b (fun g => [5, 12, 13, 14].contains g) μ55 rfl rfl rfl rfl fT n cn j56 sl μ55 (IY.rf hI.1) hxt ⟨by exact xa57, by rw [show μ55.1 27 4 = cu57 from by exact hcu57]; omega, by rw [show μ55.1 27 5 = tk57 from by exact htk57]; omega, by omega, by exact xf57⟩ hso) mi_X4_closeStep k_X4_99 rfl rfl rfl hl.1 rfl (Nat.le_of_ble_eq_true rfl) dX4_readStep_170 ⟨Nat.le_of_ble_eq_true rfl, Nat.le_of_ble_eq_true rfl⟩ ⟨Nat.le_of_ble_eq_true rfl, Nat.le_of_ble_eq_true rfl⟩) (fun μ58 H locs q58 hW => ?_)
            obtain ⟨hJ58, q58⟩ := q58
            have hI := hI.tr hJ58 (m_subL (by simp [hS5, hS12, hS13, hS14]))
            have hxt : m_XT μ58 fT n cn := hxt.fr hJ58 rfl rfl rfl
            rcases q58 with ⟨j59, ha59, hxs59, hso⟩ | ⟨e59, ha59, hxe59⟩
            · obtain ⟨xa60, xb60, xc60, xd60, xf60⟩ := hxs59
              obtain ⟨cu60, hcu60⟩ : ∃ z, μ58.1 27 4 = z := ⟨_, rfl⟩
              rw [hcu60] at xb60
              obtain ⟨tk60, htk60⟩ : ∃ z, μ58.1 27 5 = z := ⟨_, rfl⟩
              rw [htk60] at xc60
              exact m_vret hx hb hr hlocks hW (⟨hI, Or.inl ⟨j59, (a_pop sl), (by rw [a_stP (by omega)]; unfold a_plain; rw [if_neg (by omega), if_neg (by omega), if_neg (by omega), if_pos (by omega)]; simp only [a_b, ha56, ha59]), ⟨by rw [show μ58.1 27 1 = 0 from by exact xa60], by rw [show μ58.1 27 4 = cu60 from by exact hcu60]; omega, by rw [show μ58.1 27 5 = tk60 from by exact htk60]; omega, by omega, by rw [show μ58.1 27 2 = (-1) from by exact xf60]⟩, hso⟩⟩) dX4_readStep_173
            · obtain ⟨xa61, xb61, xc61, xd61⟩ := hxe59
              obtain ⟨ef61, hef61⟩ : ∃ z, μ58.1 27 1 = z := ⟨_, rfl⟩
              rw [hef61] at xa61
              obtain ⟨ep61, hep61⟩ : ∃ z, μ58.1 27 2 = z := ⟨_, rfl⟩
              rw [hep61] at xc61
              exact m_vret hx hb hr hlocks hW (⟨hI, Or.inr ⟨e59, (by rw [a_stP (by omega)]; unfold a_plain; rw [if_neg (by omega), if_neg (by omega), if_neg (by omega), if_pos (by omega)]; simp only [a_b, ha56, ha59]), ⟨by rw [show μ58.1 27 1 = ef61 from by exact hef61]; exact xa61, xb61, by rw [show μ58.1 27 2 = ep61 from by exact hep61]; exact xc61, by rw [show μ58.1 27 5 = 0 from by exact xd61]⟩⟩⟩) dX4_readStep_173
          · obtain ⟨xa62, xb62, xc62, xd62⟩ := hxe56
            obtain ⟨ef62, hef62⟩ : ∃ z, μ55.1 27 1 = z := ⟨_, rfl⟩
            rw [hef62] at xa62
            obtain ⟨ep62, hep62⟩ : ∃ z, μ55.1 27 2 = z := ⟨_, rfl⟩
            rw [hep62] at xc62
            refine lv_goto (tgt := 165) hx hb dX4_readStep_138 (by decide) ?_
            refine lv_iload_n hx hb dX4_readStep_165 rfl (lv_at hl 0 rfl) ?_
            refine lv_if_ne (tgt := 173) hx hb dX4_readStep_166 (by decide) (fun c => False.elim (by revert c; decide)) (fun _ => ?_)
            refine lv_aload_n hx hb dX4_readStep_169 rfl (lv_at hl 2 rfl) ?_
            refine m_aV hW (m_runV (As := []) (rest := []) hx hb hml hown hts hW (27) (g_X4_closeStep_e l D cy b S μ0 hS5 hS12 hS13 hS14 ef62 ep62 (by omega) μ55 hI (by exact hef62) (by exact hep62) (by exact xd62)) mi_X4_closeStep k_X4_99 rfl rfl rfl hl.1 rfl (Nat.le_of_ble_eq_true rfl) dX4_readStep_170 ⟨Nat.le_of_ble_eq_true rfl, Nat.le_of_ble_eq_true rfl⟩ ⟨Nat.le_of_ble_eq_true rfl, Nat.le_of_ble_eq_true rfl⟩) (fun μ63 H locs q63 hW => ?_)
            obtain ⟨hI, q63⟩ := q63
            obtain ⟨q63a, q63b, q63c⟩ := q63
            exact m_vret hx hb hr hlocks hW (⟨hI, Or.inr ⟨e56, (by rw [a_stP (by omega)]; unfold a_plain; rw [if_neg (by omega), if_neg (by omega), if_neg (by omega), if_pos (by omega)]; simp only [a_b, ha56]), ⟨by rw [show μ63.1 27 1 = ef62 from by exact q63a]; exact xa62, xb62, by rw [show μ63.1 27 2 = ep62 from by exact q63b]; exact xc62, by rw [show μ63.1 27 5 = 0 from by exact q63c]⟩⟩⟩) dX4_readStep_173
        · refine lv_tableIn (off := 84) (tgt := 141) hx hb dX4_readStep_57 (fun z => c20 (Or.inl z)) (fun z => c20 (Or.inr z)) (by rw [q20]; rfl) (by decide) ?_
          refine lv_aload_n hx hb dX4_readStep_141 rfl (lv_at hl 2 rfl) ?_
          refine lv_iconst (v := 1) hx hb dX4_readStep_142 (by decide) ?_
          refine lv_bipush (v := 20) hx hb dX4_readStep_143 (by decide) ?_
          have l_1 : (1 : Int32).toInt = 1 := by decide
          have l_20 : (20 : Int32).toInt = 20 := by decide
          refine m_aV hW (m_runV (As := [.int 1, .int 20]) (rest := []) hx hb hml hown hts hW (27) (g_X4_readNumber_o l D cy b (fun g => [5, 12].contains g) μ18 rfl rfl fT n cn (gi + 1) 1 20 μ18 (IY.rf hI.1) hxt ⟨by exact xa19, by rw [show μ18.1 27 4 = cu19 from by exact hcu19]; omega, by rw [show μ18.1 27 5 = tk19 from by exact htk19]; omega, by omega, by exact xf19⟩) mi_X4_readNumber k_X4_86 rfl rfl rfl hl.1 rfl (Nat.le_of_ble_eq_true rfl) dX4_readStep_145 ⟨Nat.le_of_ble_eq_true rfl, Nat.le_of_ble_eq_true rfl⟩ ⟨Nat.le_of_ble_eq_true rfl, Nat.le_of_ble_eq_true rfl⟩) (fun μ64 H locs q64 hW => ?_)
          obtain ⟨hJ64, q64⟩ := q64
          have hI := hI.tr hJ64 (m_subL (by simp [hS5, hS12]))
          have hxt : m_XT μ64 fT n cn := hxt.fr hJ64 rfl rfl rfl
          have hso : m_SO μ64 sl := hso.fr hJ64 rfl
          rw [show (1 : Int32).toInt = 1 from by decide, show (20 : Int32).toInt = 20 from by decide] at q64
          rcases q64 with ⟨j65, ha65, hxs65⟩ | ⟨e65, ha65, hxe65⟩
          · obtain ⟨xa66, xb66, xc66, xd66, xf66⟩ := hxs65
            obtain ⟨cu66, hcu66⟩ : ∃ z, μ64.1 27 4 = z := ⟨_, rfl⟩
            rw [hcu66] at xb66
            obtain ⟨tk66, htk66⟩ : ∃ z, μ64.1 27 5 = z := ⟨_, rfl⟩
            rw [htk66] at xc66
            refine lv_goto (tgt := 165) hx hb dX4_readStep_148 (by decide) ?_
            refine lv_iload_n hx hb dX4_readStep_165 rfl (lv_at hl 0 rfl) ?_
            refine lv_if_ne (tgt := 173) hx hb dX4_readStep_166 (by decide) (fun c => False.elim (by revert c; decide)) (fun _ => ?_)
            refine lv_aload_n hx hb dX4_readStep_169 rfl (lv_at hl 2 rfl) ?_
            refine m_aV hW (m_runV (As := []) (rest := []) hx hb hml hown hts hW (27) (g_X4_closeStep_o l D cy b (fun g => [5, 12, 13, 14].contains g) μ64 rfl rfl rfl rfl fT n cn j65 sl μ64 (IY.rf hI.1) hxt ⟨by exact xa66, by rw [show μ64.1 27 4 = cu66 from by exact hcu66]; omega, by rw [show μ64.1 27 5 = tk66 from by exact htk66]; omega, by omega, by exact xf66⟩ hso) mi_X4_closeStep k_X4_99 rfl rfl rfl hl.1 rfl (Nat.le_of_ble_eq_true rfl) dX4_readStep_170 ⟨Nat.le_of_ble_eq_true rfl, Nat.le_of_ble_eq_true rfl⟩ ⟨Nat.le_of_ble_eq_true rfl, Nat.le_of_ble_eq_true rfl⟩) (fun μ67 H locs q67 hW => ?_)
            obtain ⟨hJ67, q67⟩ := q67
            have hI := hI.tr hJ67 (m_subL (by simp [hS5, hS12, hS13, hS14]))
            have hxt : m_XT μ67 fT n cn := hxt.fr hJ67 rfl rfl rfl
            rcases q67 with ⟨j68, ha68, hxs68, hso⟩ | ⟨e68, ha68, hxe68⟩
            · obtain ⟨xa69, xb69, xc69, xd69, xf69⟩ := hxs68
              obtain ⟨cu69, hcu69⟩ : ∃ z, μ67.1 27 4 = z := ⟨_, rfl⟩
              rw [hcu69] at xb69
              obtain ⟨tk69, htk69⟩ : ∃ z, μ67.1 27 5 = z := ⟨_, rfl⟩
              rw [htk69] at xc69
              exact m_vret hx hb hr hlocks hW (⟨hI, Or.inl ⟨j68, (a_pop sl), (by rw [a_stP (by omega)]; unfold a_plain; rw [if_neg (by omega), if_neg (by omega), if_neg (by omega), if_neg (by omega)]; simp only [a_b, ha65, ha68]), ⟨by rw [show μ67.1 27 1 = 0 from by exact xa69], by rw [show μ67.1 27 4 = cu69 from by exact hcu69]; omega, by rw [show μ67.1 27 5 = tk69 from by exact htk69]; omega, by omega, by rw [show μ67.1 27 2 = (-1) from by exact xf69]⟩, hso⟩⟩) dX4_readStep_173
            · obtain ⟨xa70, xb70, xc70, xd70⟩ := hxe68
              obtain ⟨ef70, hef70⟩ : ∃ z, μ67.1 27 1 = z := ⟨_, rfl⟩
              rw [hef70] at xa70
              obtain ⟨ep70, hep70⟩ : ∃ z, μ67.1 27 2 = z := ⟨_, rfl⟩
              rw [hep70] at xc70
              exact m_vret hx hb hr hlocks hW (⟨hI, Or.inr ⟨e68, (by rw [a_stP (by omega)]; unfold a_plain; rw [if_neg (by omega), if_neg (by omega), if_neg (by omega), if_neg (by omega)]; simp only [a_b, ha65, ha68]), ⟨by rw [show μ67.1 27 1 = ef70 from by exact hef70]; exact xa70, xb70, by rw [show μ67.1 27 2 = ep70 from by exact hep70]; exact xc70, by rw [show μ67.1 27 5 = 0 from by exact xd70]⟩⟩⟩) dX4_readStep_173
          · obtain ⟨xa71, xb71, xc71, xd71⟩ := hxe65
            obtain ⟨ef71, hef71⟩ : ∃ z, μ64.1 27 1 = z := ⟨_, rfl⟩
            rw [hef71] at xa71
            obtain ⟨ep71, hep71⟩ : ∃ z, μ64.1 27 2 = z := ⟨_, rfl⟩
            rw [hep71] at xc71
            refine lv_goto (tgt := 165) hx hb dX4_readStep_148 (by decide) ?_
            refine lv_iload_n hx hb dX4_readStep_165 rfl (lv_at hl 0 rfl) ?_
            refine lv_if_ne (tgt := 173) hx hb dX4_readStep_166 (by decide) (fun c => False.elim (by revert c; decide)) (fun _ => ?_)
            refine lv_aload_n hx hb dX4_readStep_169 rfl (lv_at hl 2 rfl) ?_
            refine m_aV hW (m_runV (As := []) (rest := []) hx hb hml hown hts hW (27) (g_X4_closeStep_e l D cy b S μ0 hS5 hS12 hS13 hS14 ef71 ep71 (by omega) μ64 hI (by exact hef71) (by exact hep71) (by exact xd71)) mi_X4_closeStep k_X4_99 rfl rfl rfl hl.1 rfl (Nat.le_of_ble_eq_true rfl) dX4_readStep_170 ⟨Nat.le_of_ble_eq_true rfl, Nat.le_of_ble_eq_true rfl⟩ ⟨Nat.le_of_ble_eq_true rfl, Nat.le_of_ble_eq_true rfl⟩) (fun μ72 H locs q72 hW => ?_)
            obtain ⟨hI, q72⟩ := q72
            obtain ⟨q72a, q72b, q72c⟩ := q72
            exact m_vret hx hb hr hlocks hW (⟨hI, Or.inr ⟨e65, (by rw [a_stP (by omega)]; unfold a_plain; rw [if_neg (by omega), if_neg (by omega), if_neg (by omega), if_neg (by omega)]; simp only [a_b, ha65]), ⟨by rw [show μ72.1 27 1 = ef71 from by exact q72a]; exact xa71, xb71, by rw [show μ72.1 27 2 = ep71 from by exact q72b]; exact xc71, by rw [show μ72.1 27 5 = 0 from by exact q72c]⟩⟩⟩) dX4_readStep_173
        · exfalso; omega
        · exfalso; omega
    · have i16 := m_c5 (rfl : tk.toInt = _) (by decide : (16 : Int32).toInt = 16) c16
      refine lv_iconst (v := 1) hx hb dX4_readStep_17 (by decide) ?_
      refine lv_goto (tgt := 22) hx hb dX4_readStep_18 (by decide) ?_
      refine lv_istore_n (lv' := [(2, .int 1), (1, .int tk), (0, .ref (b + 27))]) hx hb dX4_readStep_22 rfl hl (by decide) rfl (fun ls hl => ?_)
      refine lv_iload_n hx hb dX4_readStep_23 rfl (lv_at hl 0 rfl) ?_
      refine lv_if_eq (tgt := 44) hx hb dX4_readStep_24 (by decide) (fun c => False.elim (by revert c; decide)) (fun _ => ?_)
      refine lv_aload_n hx hb dX4_readStep_27 rfl (lv_at hl 2 rfl) ?_
      refine m_getr hx hb hts hown hW (27) 6 (37) rfl rfl cw_4 rfl (by decide) k_X4_40 dX4_readStep_28 ?_
      refine m_geti hx hb hts hown hW (37) 1 rfl rfl cw_5 rfl (by decide) k_X4_50 dX4_readStep_31 ?_
      refine lv_topi (fun x73 ex73 => ?_)
      have ex73 : x73 = z37 := by rw [ex73]; exact hz37
      have ex73 := ex73.symm
      subst ex73
      refine lv_iconst (v := 4) hx hb dX4_readStep_34 (by decide) ?_
      refine lv_icmp_lt (tgt := 44) hx hb dX4_readStep_35 (by decide) (fun c74 => ?_) (fun c74 => ?_)
      · have i74 := m_c1 (rfl : z37.toInt = _) (by decide : (4 : Int32).toInt = 4) c74
        refine lv_aload_n hx hb dX4_readStep_44 rfl (lv_at hl 2 rfl) ?_
        refine m_getr hx hb hts hown hW (27) 0 (28) rfl rfl cw_4 rfl (by decide) k_X4_16 dX4_readStep_45 ?_
        refine lv_iload_n hx hb dX4_readStep_48 rfl (lv_at hl 1 rfl) ?_
        refine m_aV hW (m_runV (As := [.int tk]) (rest := []) hx hb hml hown hts hW (28) (g_X5_add_28 l D cy b (fun g => [12].contains g) μ rfl tk μ (IY.rf hI.1)) mi_X5_add k_X4_83 rfl rfl rfl hl.1 rfl (Nat.le_of_ble_eq_true rfl) dX4_readStep_49 ⟨Nat.le_of_ble_eq_true rfl, Nat.le_of_ble_eq_true rfl⟩ ⟨Nat.le_of_ble_eq_true rfl, Nat.le_of_ble_eq_true rfl⟩) (fun μ75 H locs q75 hW => ?_)
        obtain ⟨hJ75, q75⟩ := q75
        have hI := hI.tr hJ75 (m_subL (by simp [hS12]))
        have hxt : m_XT μ75 fT n cn := hxt.fr hJ75 rfl rfl rfl
        have hso : m_SO μ75 sl := hso.fr hJ75 rfl
        refine lv_aload_n hx hb dX4_readStep_52 rfl (lv_at hl 2 rfl) ?_
        refine m_aV hW (m_runV (As := []) (rest := []) hx hb hml hown hts hW (27) (g_X4_advance_o l D cy b (fun g => [5].contains g) μ75 rfl fT n cn gi (hxt.lt (by omega) (by omega)) μ75 (IY.rf hI.1) hxt ⟨by exact ((hJ75.2.1 27 1 rfl).trans (by exact xs1)), by rw [show μ75.1 27 4 = cu from by exact ((hJ75.2.1 27 4 rfl).trans (by exact hcu))]; omega, by rw [show μ75.1 27 5 = tk from by exact ((hJ75.2.1 27 5 rfl).trans (by exact htk))]; omega, by omega, by exact ((hJ75.2.1 27 2 rfl).trans (by exact xs5))⟩) mi_X4_advance k_X4_80 rfl rfl rfl hl.1 rfl (Nat.le_of_ble_eq_true rfl) dX4_readStep_53 ⟨Nat.le_of_ble_eq_true rfl, Nat.le_of_ble_eq_true rfl⟩ ⟨Nat.le_of_ble_eq_true rfl, Nat.le_of_ble_eq_true rfl⟩) (fun μ76 H locs q76 hW => ?_)
        obtain ⟨hJ76, q76⟩ := q76
        have hI := hI.tr hJ76 (m_subL (by simp [hS5]))
        have hxt : m_XT μ76 fT n cn := hxt.fr hJ76 rfl rfl rfl
        have hso : m_SO μ76 sl := hso.fr hJ76 rfl
        obtain ⟨xa77, xb77, xc77, xd77, xf77⟩ := q76
        obtain ⟨cu77, hcu77⟩ : ∃ z, μ76.1 27 4 = z := ⟨_, rfl⟩
        rw [hcu77] at xb77
        obtain ⟨tk77, htk77⟩ : ∃ z, μ76.1 27 5 = z := ⟨_, rfl⟩
        rw [htk77] at xc77
        refine lv_iload_n hx hb dX4_readStep_56 rfl (lv_at hl 1 rfl) ?_
        by_cases c78 : tk.toInt < 11 ∨ 16 < tk.toInt
        · exfalso; omega
        · have q78 : tk.toInt = 11 ∨ tk.toInt = 12 ∨ tk.toInt = 13 ∨ tk.toInt = 14 ∨ tk.toInt = 15 ∨ tk.toInt = 16 := by omega
          rcases q78 with q78 | q78 | q78 | q78 | q78 | q78
          · exfalso; omega
          · exfalso; omega
          · exfalso; omega
          · exfalso; omega
          · exfalso; omega
          · refine lv_tableIn (off := 101) (tgt := 158) hx hb dX4_readStep_57 (fun z => c78 (Or.inl z)) (fun z => c78 (Or.inr z)) (by rw [q78]; rfl) (by decide) ?_
            refine lv_aload_n hx hb dX4_readStep_158 rfl (lv_at hl 2 rfl) ?_
            refine m_aV hW (m_runV (As := []) (rest := []) hx hb hml hown hts hW (27) (g_X4_openIf_o l D cy b (fun g => [5, 12, 13, 14].contains g) μ76 rfl rfl rfl rfl fT n cn (gi + 1) sl μ76 (IY.rf hI.1) hxt ⟨by exact xa77, by rw [show μ76.1 27 4 = cu77 from by exact hcu77]; omega, by rw [show μ76.1 27 5 = tk77 from by exact htk77]; omega, by omega, by exact xf77⟩ hso (by omega)) mi_X4_openIf k_X4_96 rfl rfl rfl hl.1 rfl (Nat.le_of_ble_eq_true rfl) dX4_readStep_159 ⟨Nat.le_of_ble_eq_true rfl, Nat.le_of_ble_eq_true rfl⟩ ⟨Nat.le_of_ble_eq_true rfl, Nat.le_of_ble_eq_true rfl⟩) (fun μ79 H locs q79 hW => ?_)
            obtain ⟨hJ79, q79⟩ := q79
            have hI := hI.tr hJ79 (m_subL (by simp [hS5, hS12, hS13, hS14]))
            have hxt : m_XT μ79 fT n cn := hxt.fr hJ79 rfl rfl rfl
            rcases q79 with ⟨j80, ha80, hxs80, hso⟩ | ⟨e80, ha80, hxe80⟩
            · obtain ⟨xa81, xb81, xc81, xd81, xf81⟩ := hxs80
              obtain ⟨cu81, hcu81⟩ : ∃ z, μ79.1 27 4 = z := ⟨_, rfl⟩
              rw [hcu81] at xb81
              obtain ⟨tk81, htk81⟩ : ∃ z, μ79.1 27 5 = z := ⟨_, rfl⟩
              rw [htk81] at xc81
              refine lv_goto (tgt := 165) hx hb dX4_readStep_162 (by decide) ?_
              refine lv_iload_n hx hb dX4_readStep_165 rfl (lv_at hl 0 rfl) ?_
              refine lv_if_ne (tgt := 173) hx hb dX4_readStep_166 (by decide) (fun _ => ?_) (fun c => False.elim (by revert c; decide))
              exact m_vret hx hb hr hlocks hW (⟨hI, Or.inl ⟨j80, (false :: sl), (by rw [a_stI (by omega), if_neg (by omega)]; unfold a_if; rw [ha80]; rfl), ⟨by rw [show μ79.1 27 1 = 0 from by exact xa81], by rw [show μ79.1 27 4 = cu81 from by exact hcu81]; omega, by rw [show μ79.1 27 5 = tk81 from by exact htk81]; omega, by omega, by rw [show μ79.1 27 2 = (-1) from by exact xf81]⟩, hso⟩⟩) dX4_readStep_173
            · obtain ⟨xa82, xb82, xc82, xd82⟩ := hxe80
              obtain ⟨ef82, hef82⟩ : ∃ z, μ79.1 27 1 = z := ⟨_, rfl⟩
              rw [hef82] at xa82
              obtain ⟨ep82, hep82⟩ : ∃ z, μ79.1 27 2 = z := ⟨_, rfl⟩
              rw [hep82] at xc82
              refine lv_goto (tgt := 165) hx hb dX4_readStep_162 (by decide) ?_
              refine lv_iload_n hx hb dX4_readStep_165 rfl (lv_at hl 0 rfl) ?_
              refine lv_if_ne (tgt := 173) hx hb dX4_readStep_166 (by decide) (fun _ => ?_) (fun c => False.elim (by revert c; decide))
              exact m_vret hx hb hr hlocks hW (⟨hI, Or.inr ⟨e80, (by rw [a_stI (by omega), if_neg (by omega)]; unfold a_if; rw [ha80]; rfl), ⟨by rw [show μ79.1 27 1 = ef82 from by exact hef82]; exact xa82, xb82, by rw [show μ79.1 27 2 = ep82 from by exact hep82]; exact xc82, by rw [show μ79.1 27 5 = 0 from by exact xd82]⟩⟩⟩) dX4_readStep_173
      · have i74 := m_c2 (rfl : z37.toInt = _) (by decide : (4 : Int32).toInt = 4) c74
        refine lv_aload_n hx hb dX4_readStep_38 rfl (lv_at hl 2 rfl) ?_
        refine lv_iconst (v := 3) hx hb dX4_readStep_39 (by decide) ?_
        have l_3 : (3 : Int32).toInt = 3 := by decide
        refine m_aV hW (m_runV (As := [.int 3]) (rest := []) hx hb hml hown hts hW (27) (g_X4_fail_o l D cy b (fun g => [5].contains g) μ rfl fT n cn gi 3 (by omega) μ (IY.rf hI.1) hxt ⟨by exact xs1, by rw [show μ.1 27 4 = cu from by exact hcu]; omega, by rw [show μ.1 27 5 = tk from by exact htk]; omega, by omega, by exact xs5⟩) mi_X4_fail k_X4_74 rfl rfl rfl hl.1 rfl (Nat.le_of_ble_eq_true rfl) dX4_readStep_40 ⟨Nat.le_of_ble_eq_true rfl, Nat.le_of_ble_eq_true rfl⟩ ⟨Nat.le_of_ble_eq_true rfl, Nat.le_of_ble_eq_true rfl⟩) (fun μ83 H locs q83 hW => ?_)
        obtain ⟨hJ83, q83⟩ := q83
        have hI := hI.tr hJ83 (m_subL (by simp [hS5]))
        have hxt : m_XT μ83 fT n cn := hxt.fr hJ83 rfl rfl rfl
        have hso : m_SO μ83 sl := hso.fr hJ83 rfl
        rw [show (3 : Int32).toInt = 3 from by decide] at q83
        have hxe84 : m_XE μ83 (3, (t_L fT n) gi) := q83
        obtain ⟨xa85, xb85, xc85, xd85⟩ := hxe84
        obtain ⟨ef85, hef85⟩ : ∃ z, μ83.1 27 1 = z := ⟨_, rfl⟩
        rw [hef85] at xa85
        obtain ⟨ep85, hep85⟩ : ∃ z, μ83.1 27 2 = z := ⟨_, rfl⟩
        rw [hep85] at xc85
        exact m_vret hx hb hr hlocks hW (⟨hI, Or.inr ⟨(3, (t_L fT n) gi), (by rw [show a_step (t_K fT n) (t_L fT n) (t_V fT n) gi sl = _ from (by first | exact a_stA (by omega) | exact a_stI (by omega)), if_pos (by omega)]), ⟨by rw [show μ83.1 27 1 = ef85 from by exact hef85]; exact xa85, xb85, by rw [show μ83.1 27 2 = ep85 from by exact hep85]; exact xc85, by rw [show μ83.1 27 5 = 0 from by exact xd85]⟩⟩⟩) dX4_readStep_43
