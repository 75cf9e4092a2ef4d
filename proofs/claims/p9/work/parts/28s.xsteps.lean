theorem a_T_r {K L : Nat → Int} {i j : Nat} (h : a_T K L i = .inr j) : j = i + 1 := by
  unfold a_T at h
  split at h
  · cases h; rfl
  · cases h
set_option maxHeartbeats 4000000 in
set_option maxRecDepth 100000 in
theorem g_X4_readNumber_o (l : Launch) (D : va_G) (cy : Nat → ClassId) (b : Nat) (S : Nat → Bool) (μ0 : mM) (hS5 : S 5 = true) (hS12 : S 12 = true) (fT : Nat → Int32) (n cn gi : Nat) (k u : Int32) (μ : mM) (hI : IY S μ0 μ) (hxt : m_XT μ fT n cn) (hxs : m_XS μ fT n cn gi) : m_Cv l yX4_readNumber cX4_readNumber 4 (none) 2 D cy b LAY μ [.ref (b + 27), .int k, .int u] (fun ν => IY S μ0 ν ∧ ((∃ j, a_N (t_K fT n) (t_L fT n) (t_V fT n) k.toInt u.toInt gi = .inr j ∧ m_XS ν fT n cn j) ∨ (∃ e, a_N (t_K fT n) (t_L fT n) (t_V fT n) k.toInt u.toInt gi = .inl e ∧ m_XE ν e))) := by
  unfold m_Cv
  refine m_of (by decide) (Nat.le_of_ble_eq_true rfl) ?_
  intro p e s m below meth c hx hb hr hml hown hts hlocks _ hW ls hl
  have hown : s.vm.findClass RX4 = some m.cls := hown
  have hl : lv_has ls 4 [(0, .ref (b + 27)), (1, .int k), (2, .int u)] := hl
  obtain ⟨xs1, xs2, xs3, xs4, xs5⟩ := hxs
  obtain ⟨cu, hcu⟩ : ∃ z, μ.1 27 4 = z := ⟨_, rfl⟩
  rw [hcu] at xs2
  obtain ⟨tk, htk⟩ : ∃ z, μ.1 27 5 = z := ⟨_, rfl⟩
  rw [htk] at xs3
  have hc4 : cn ≤ 400 := by have := hxt.1.2.2; have := hxt.2.2.2.2; omega
  refine lv_aload_n hx hb dX4_readNumber_0 rfl (lv_at hl 0 rfl) ?_
  refine m_getr hx hb hts hown hW (27) 3 (30) rfl rfl cw_4 rfl (by decide) k_X4_30 dX4_readNumber_1 ?_
  refine m_getr hx hb hts hown hW (30) 2 (35) rfl rfl cw_8 rfl (by decide) k_X4_124 dX4_readNumber_4 ?_
  refine lv_aload_n hx hb dX4_readNumber_7 rfl (lv_at hl 0 rfl) ?_
  refine m_geti hx hb hts hown hW (27) 4 rfl rfl cw_4 rfl (by decide) k_X4_34 dX4_readNumber_8 ?_
  refine lv_topi (fun x1 ex1 => ?_)
  have ex1 : x1 = cu := by rw [ex1]; exact hcu
  have ex1 := ex1.symm
  subst ex1
  obtain ⟨x2, hx2⟩ : ∃ z, μ.1 35 1 = z := ⟨_, rfl⟩
  have bx2 : 0 ≤ x2.toInt ∧ x2.toInt ≤ 401 := by rw [← hx2]; exact hI.1 _ _ _ _ rfl
  refine m_aI hW (m_runV (As := [.int cu]) (rest := []) hx hb hml hown hts hW (35) (g_X5_at_at35 l D cy b x2 (by omega) (μ.1 36) cu μ hI.1 (by exact hx2) rfl) mi_X5_at k_X4_56 rfl rfl rfl hl.1 rfl (Nat.le_of_ble_eq_true rfl) dX4_readNumber_11 ⟨Nat.le_of_ble_eq_true rfl, Nat.le_of_ble_eq_true rfl⟩ ⟨Nat.le_of_ble_eq_true rfl, Nat.le_of_ble_eq_true rfl⟩) (fun x3 μ3 H locs q3 hW => ?_)
  obtain ⟨q3_m, q3⟩ := q3
  subst q3_m
  have hz35 := hxt.2.2.2.1
  rw [show μ.1 35 1 = x2 from by exact hx2] at hz35
  have hval : x3.toInt = t_V fT n gi := by
    rcases q3 with ⟨q1, q2⟩ | ⟨q1, q2⟩
    · rw [q2, show cu.toNatClampNeg = gi from by have := m_ckI (x := cu) (by omega); omega, (hxt.1.1 gi xs4).2.2]; rfl
    · exact absurd q1 (by omega)
  refine lv_istore_n (lv' := [(3, .int x3), (0, .ref (b + 27)), (1, .int k), (2, .int u)]) hx hb dX4_readNumber_14 rfl hl (by decide) rfl (fun ls hl => ?_)
  refine lv_aload_n hx hb dX4_readNumber_15 rfl (lv_at hl 1 rfl) ?_
  refine m_geti hx hb hts hown hW (27) 5 rfl rfl cw_4 rfl (by decide) k_X4_37 dX4_readNumber_16 ?_
  refine lv_topi (fun x4 ex4 => ?_)
  have ex4 : x4 = tk := by rw [ex4]; exact htk
  have ex4 := ex4.symm
  subst ex4
  refine lv_iconst (v := 2) hx hb dX4_readNumber_19 (by decide) ?_
  refine lv_icmp_eq (tgt := 31) hx hb dX4_readNumber_20 (by decide) (fun c5 => ?_) (fun c5 => ?_)
  · have i5 := m_c5 (rfl : tk.toInt = _) (by decide : (2 : Int32).toInt = 2) c5
    refine lv_iload_n hx hb dX4_readNumber_31 rfl (lv_at hl 0 rfl) ?_
    refine lv_iload_n hx hb dX4_readNumber_32 rfl (lv_at hl 2 rfl) ?_
    refine lv_iload_n hx hb dX4_readNumber_33 rfl (lv_at hl 3 rfl) ?_
    refine m_aI hW (m_runSN (As := [.int x3, .int k, .int u]) (rest := []) hx hb hml hown hts hW (g_X11_within l D cy b x3 k u μ hI.1) ms_X11_within n_X4_60 rfl hl.1 rfl (Nat.le_of_ble_eq_true rfl) dX4_readNumber_34 ⟨Nat.le_of_ble_eq_true rfl, Nat.le_of_ble_eq_true rfl⟩ ⟨Nat.le_of_ble_eq_true rfl, Nat.le_of_ble_eq_true rfl⟩) (fun x6 μ6 H locs q6 hW => ?_)
    obtain ⟨q6_m, q6⟩ := q6
    subst q6_m
    rcases q6 with ⟨rfl, q6⟩ | ⟨rfl, q6⟩
    · refine lv_if_ne (tgt := 48) hx hb dX4_readNumber_37 (by decide) (fun _ => ?_) (fun c => False.elim (by revert c; decide))
      refine lv_aload_n hx hb dX4_readNumber_48 rfl (lv_at hl 1 rfl) ?_
      refine m_getr hx hb hts hown hW (27) 0 (28) rfl rfl cw_4 rfl (by decide) k_X4_16 dX4_readNumber_49 ?_
      refine lv_iload_n hx hb dX4_readNumber_52 rfl (lv_at hl 0 rfl) ?_
      refine m_aV hW (m_runV (As := [.int x3]) (rest := []) hx hb hml hown hts hW (28) (g_X5_add_28 l D cy b (fun g => [12].contains g) μ rfl x3 μ (IY.rf hI.1)) mi_X5_add k_X4_83 rfl rfl rfl hl.1 rfl (Nat.le_of_ble_eq_true rfl) dX4_readNumber_53 ⟨Nat.le_of_ble_eq_true rfl, Nat.le_of_ble_eq_true rfl⟩ ⟨Nat.le_of_ble_eq_true rfl, Nat.le_of_ble_eq_true rfl⟩) (fun μ7 H locs q7 hW => ?_)
      obtain ⟨hJ7, q7⟩ := q7
      have hI := hI.tr hJ7 (m_subL (by simp [hS12]))
      have hxt : m_XT μ7 fT n cn := hxt.fr hJ7 rfl rfl rfl
      refine lv_aload_n hx hb dX4_readNumber_56 rfl (lv_at hl 1 rfl) ?_
      refine m_aV hW (m_runV (As := []) (rest := []) hx hb hml hown hts hW (27) (g_X4_advance_o l D cy b (fun g => [5].contains g) μ7 rfl fT n cn gi (hxt.lt (by omega) (by omega)) μ7 (IY.rf hI.1) hxt ⟨by exact ((hJ7.2.1 27 1 rfl).trans (by exact xs1)), by rw [show μ7.1 27 4 = cu from by exact ((hJ7.2.1 27 4 rfl).trans (by exact hcu))]; omega, by rw [show μ7.1 27 5 = tk from by exact ((hJ7.2.1 27 5 rfl).trans (by exact htk))]; omega, by omega, by exact ((hJ7.2.1 27 2 rfl).trans (by exact xs5))⟩) mi_X4_advance k_X4_80 rfl rfl rfl hl.1 rfl (Nat.le_of_ble_eq_true rfl) dX4_readNumber_57 ⟨Nat.le_of_ble_eq_true rfl, Nat.le_of_ble_eq_true rfl⟩ ⟨Nat.le_of_ble_eq_true rfl, Nat.le_of_ble_eq_true rfl⟩) (fun μ8 H locs q8 hW => ?_)
      obtain ⟨hJ8, q8⟩ := q8
      have hI := hI.tr hJ8 (m_subL (by simp [hS5]))
      have hxt : m_XT μ8 fT n cn := hxt.fr hJ8 rfl rfl rfl
      obtain ⟨xa9, xb9, xc9, xd9, xf9⟩ := q8
      obtain ⟨cu9, hcu9⟩ : ∃ z, μ8.1 27 4 = z := ⟨_, rfl⟩
      rw [hcu9] at xb9
      obtain ⟨tk9, htk9⟩ : ∃ z, μ8.1 27 5 = z := ⟨_, rfl⟩
      rw [htk9] at xc9
      exact m_vret hx hb hr hlocks hW (⟨hI, Or.inl ⟨(gi + 1), (by exact a_N1 (by omega) (by omega)), ⟨by rw [show μ8.1 27 1 = 0 from by exact xa9], by rw [show μ8.1 27 4 = cu9 from by exact hcu9]; omega, by rw [show μ8.1 27 5 = tk9 from by exact htk9]; omega, by omega, by rw [show μ8.1 27 2 = (-1) from by exact xf9]⟩⟩⟩) dX4_readNumber_60
    · refine lv_if_ne (tgt := 48) hx hb dX4_readNumber_37 (by decide) (fun c => False.elim (by revert c; decide)) (fun _ => ?_)
      refine lv_aload_n hx hb dX4_readNumber_40 rfl (lv_at hl 1 rfl) ?_
      refine lv_iconst (v := 2) hx hb dX4_readNumber_41 (by decide) ?_
      have l_2 : (2 : Int32).toInt = 2 := by decide
      refine m_aV hW (m_runV (As := [.int 2]) (rest := []) hx hb hml hown hts hW (27) (g_X4_fail_o l D cy b (fun g => [5].contains g) μ rfl fT n cn gi 2 (by omega) μ (IY.rf hI.1) hxt ⟨by exact xs1, by rw [show μ.1 27 4 = cu from by exact hcu]; omega, by rw [show μ.1 27 5 = tk from by exact htk]; omega, by omega, by exact xs5⟩) mi_X4_fail k_X4_74 rfl rfl rfl hl.1 rfl (Nat.le_of_ble_eq_true rfl) dX4_readNumber_42 ⟨Nat.le_of_ble_eq_true rfl, Nat.le_of_ble_eq_true rfl⟩ ⟨Nat.le_of_ble_eq_true rfl, Nat.le_of_ble_eq_true rfl⟩) (fun μ10 H locs q10 hW => ?_)
      obtain ⟨hJ10, q10⟩ := q10
      have hI := hI.tr hJ10 (m_subL (by simp [hS5]))
      have hxt : m_XT μ10 fT n cn := hxt.fr hJ10 rfl rfl rfl
      rw [show (2 : Int32).toInt = 2 from by decide] at q10
      have hxe11 : m_XE μ10 (2, (t_L fT n) gi) := q10
      obtain ⟨xa12, xb12, xc12, xd12⟩ := hxe11
      obtain ⟨ef12, hef12⟩ : ∃ z, μ10.1 27 1 = z := ⟨_, rfl⟩
      rw [hef12] at xa12
      obtain ⟨ep12, hep12⟩ : ∃ z, μ10.1 27 2 = z := ⟨_, rfl⟩
      rw [hep12] at xc12
      refine lv_goto (tgt := 60) hx hb dX4_readNumber_45 (by decide) ?_
      exact m_vret hx hb hr hlocks hW (⟨hI, Or.inr ⟨(2, (t_L fT n) gi), (by first | exact a_N0 (by omega) | exact a_N2 (by omega) (by omega)), ⟨by rw [show μ10.1 27 1 = ef12 from by exact hef12]; exact xa12, xb12, by rw [show μ10.1 27 2 = ep12 from by exact hep12]; exact xc12, by rw [show μ10.1 27 5 = 0 from by exact xd12]⟩⟩⟩) dX4_readNumber_60
  · have i5 := m_c6 (rfl : tk.toInt = _) (by decide : (2 : Int32).toInt = 2) c5
    refine lv_aload_n hx hb dX4_readNumber_23 rfl (lv_at hl 1 rfl) ?_
    refine lv_iconst (v := 1) hx hb dX4_readNumber_24 (by decide) ?_
    have l_1 : (1 : Int32).toInt = 1 := by decide
    refine m_aV hW (m_runV (As := [.int 1]) (rest := []) hx hb hml hown hts hW (27) (g_X4_fail_o l D cy b (fun g => [5].contains g) μ rfl fT n cn gi 1 (by omega) μ (IY.rf hI.1) hxt ⟨by exact xs1, by rw [show μ.1 27 4 = cu from by exact hcu]; omega, by rw [show μ.1 27 5 = tk from by exact htk]; omega, by omega, by exact xs5⟩) mi_X4_fail k_X4_74 rfl rfl rfl hl.1 rfl (Nat.le_of_ble_eq_true rfl) dX4_readNumber_25 ⟨Nat.le_of_ble_eq_true rfl, Nat.le_of_ble_eq_true rfl⟩ ⟨Nat.le_of_ble_eq_true rfl, Nat.le_of_ble_eq_true rfl⟩) (fun μ13 H locs q13 hW => ?_)
    obtain ⟨hJ13, q13⟩ := q13
    have hI := hI.tr hJ13 (m_subL (by simp [hS5]))
    have hxt : m_XT μ13 fT n cn := hxt.fr hJ13 rfl rfl rfl
    rw [show (1 : Int32).toInt = 1 from by decide] at q13
    have hxe14 : m_XE μ13 (1, (t_L fT n) gi) := q13
    obtain ⟨xa15, xb15, xc15, xd15⟩ := hxe14
    obtain ⟨ef15, hef15⟩ : ∃ z, μ13.1 27 1 = z := ⟨_, rfl⟩
    rw [hef15] at xa15
    obtain ⟨ep15, hep15⟩ : ∃ z, μ13.1 27 2 = z := ⟨_, rfl⟩
    rw [hep15] at xc15
    refine lv_goto (tgt := 60) hx hb dX4_readNumber_28 (by decide) ?_
    exact m_vret hx hb hr hlocks hW (⟨hI, Or.inr ⟨(1, (t_L fT n) gi), (by first | exact a_N0 (by omega) | exact a_N2 (by omega) (by omega)), ⟨by rw [show μ13.1 27 1 = ef15 from by exact hef15]; exact xa15, xb15, by rw [show μ13.1 27 2 = ep15 from by exact hep15]; exact xc15, by rw [show μ13.1 27 5 = 0 from by exact xd15]⟩⟩⟩) dX4_readNumber_60
set_option maxHeartbeats 4000000 in
set_option maxRecDepth 100000 in
theorem g_X4_readNumber_e (l : Launch) (D : va_G) (cy : Nat → ClassId) (b : Nat) (S : Nat → Bool) (μ0 : mM) (hS5 : S 5 = true) (hS12 : S 12 = true) (ef ep : Int32) (h_ef : ef.toInt ≠ 0) (k u : Int32) (μ : mM) (hI : IY S μ0 μ) (he1 : μ.1 27 1 = ef) (he2 : μ.1 27 2 = ep) (he5 : μ.1 27 5 = 0) : m_Cv l yX4_readNumber cX4_readNumber 4 (none) 2 D cy b LAY μ [.ref (b + 27), .int k, .int u] (fun ν => IY S μ0 ν ∧ (ν.1 27 1 = ef ∧ ν.1 27 2 = ep ∧ ν.1 27 5 = 0)) := by
  unfold m_Cv
  refine m_of (by decide) (Nat.le_of_ble_eq_true rfl) ?_
  intro p e s m below meth c hx hb hr hml hown hts hlocks _ hW ls hl
  have hown : s.vm.findClass RX4 = some m.cls := hown
  have hl : lv_has ls 4 [(0, .ref (b + 27)), (1, .int k), (2, .int u)] := hl
  refine lv_aload_n hx hb dX4_readNumber_0 rfl (lv_at hl 0 rfl) ?_
  refine m_getr hx hb hts hown hW (27) 3 (30) rfl rfl cw_4 rfl (by decide) k_X4_30 dX4_readNumber_1 ?_
  refine m_getr hx hb hts hown hW (30) 2 (35) rfl rfl cw_8 rfl (by decide) k_X4_124 dX4_readNumber_4 ?_
  refine lv_aload_n hx hb dX4_readNumber_7 rfl (lv_at hl 0 rfl) ?_
  refine m_geti hx hb hts hown hW (27) 4 rfl rfl cw_4 rfl (by decide) k_X4_34 dX4_readNumber_8 ?_
  refine lv_topi (fun x1 ex1 => ?_)
  refine m_aI hW (m_runV (As := [.int x1]) (rest := []) hx hb hml hown hts hW (35) (g_X5_at l D cy b 35 36 401 rfl rfl (by decide) rfl (fun _ => rfl) x1 μ hI.1) mi_X5_at k_X4_56 rfl rfl rfl hl.1 rfl (Nat.le_of_ble_eq_true rfl) dX4_readNumber_11 ⟨Nat.le_of_ble_eq_true rfl, Nat.le_of_ble_eq_true rfl⟩ ⟨Nat.le_of_ble_eq_true rfl, Nat.le_of_ble_eq_true rfl⟩) (fun x2 μ2 H locs q2 hW => ?_)
  obtain ⟨q2_m, q2⟩ := q2
  subst q2_m
  refine lv_istore_n (lv' := [(3, .int x2), (0, .ref (b + 27)), (1, .int k), (2, .int u)]) hx hb dX4_readNumber_14 rfl hl (by decide) rfl (fun ls hl => ?_)
  refine lv_aload_n hx hb dX4_readNumber_15 rfl (lv_at hl 1 rfl) ?_
  refine m_geti hx hb hts hown hW (27) 5 rfl rfl cw_4 rfl (by decide) k_X4_37 dX4_readNumber_16 ?_
  refine lv_topi (fun x3 ex3 => ?_)
  have ex3 : x3 = 0 := by rw [ex3]; exact he5
  have ex3 := ex3.symm
  subst ex3
  refine lv_iconst (v := 2) hx hb dX4_readNumber_19 (by decide) ?_
  refine lv_icmp_eq (tgt := 31) hx hb dX4_readNumber_20 (by decide) (fun c => False.elim (by revert c; decide)) (fun _ => ?_)
  refine lv_aload_n hx hb dX4_readNumber_23 rfl (lv_at hl 1 rfl) ?_
  refine lv_iconst (v := 1) hx hb dX4_readNumber_24 (by decide) ?_
  have l_1 : (1 : Int32).toInt = 1 := by decide
  refine m_aV hW (m_runV (As := [.int 1]) (rest := []) hx hb hml hown hts hW (27) (g_X4_fail_e l D cy b S μ0 hS5 ef ep (by omega) 1 μ hI (by exact he1) (by exact he2) (by exact he5)) mi_X4_fail k_X4_74 rfl rfl rfl hl.1 rfl (Nat.le_of_ble_eq_true rfl) dX4_readNumber_25 ⟨Nat.le_of_ble_eq_true rfl, Nat.le_of_ble_eq_true rfl⟩ ⟨Nat.le_of_ble_eq_true rfl, Nat.le_of_ble_eq_true rfl⟩) (fun μ4 H locs q4 hW => ?_)
  obtain ⟨hI, q4⟩ := q4
  obtain ⟨q4a, q4b, q4c⟩ := q4
  refine lv_goto (tgt := 60) hx hb dX4_readNumber_28 (by decide) ?_
  exact m_vret hx hb hr hlocks hW (⟨hI, ⟨by rw [show μ4.1 27 1 = ef from by exact q4a], by rw [show μ4.1 27 2 = ep from by exact q4b], by rw [show μ4.1 27 5 = 0 from by exact q4c]⟩⟩) dX4_readNumber_60
set_option maxHeartbeats 4000000 in
set_option maxRecDepth 100000 in
theorem L_X4_readSum_o_9 {p : Program} {l : Launch} {e : Env} {s : State} {m : MethodId} {args : Array Value} {below : List Frame} {meth : Method} {c : Code} {D : va_G} {cy : Nat → ClassId} {b : Nat} (hx : p.tables.exec = Jvm.exec) (hb : c.code = cX4_readSum) (hr : meth.sig.returnType = ((some .int))) (hml : c.maxLocals = 4) (hown : s.vm.findClass RX4 = some m.cls) (hts : ∀ w ∈ TB, w.before args s = true) (hlocks : meth.locks = false) (S : Nat → Bool) (μ0 : mM) (hS5 : S 5 = true) (hS12 : S 12 = true) (fT : Nat → Int32) (n cn gi : Nat) : ∀ (f : Nat), ∀ (y1 y2 : Int32) (gj : Nat) (hy : 0 ≤ y2.toInt ∧ y2.toInt ≤ 400 ∧ y2.toInt ≤ gj) (hf : 400 - y2.toInt < (f : Int)) (μ : mM) (hI : IY S μ0 μ) (hxt : m_XT μ fT n cn) (hxs : m_XS μ fT n cn gj) (hsp : a_Sl (t_K fT n) (t_L fT n) 401 gj = a_S (t_K fT n) (t_L fT n) gi) (H : Heap) (locs : List Loc), m_WA (m_A b LAY) D cy s b LAY μ H locs → ∀ ls : Array Slot, lv_has ls 4 [(0, .ref (b + 27)), (1, .int y1), (2, .int y2)] → W p l e (m_R 3 0 0) s m args below meth c H locs 0 0 (MQ below (m_Qi D cy b LAY (fun r ν => IY S μ0 ν ∧ ((∃ j, a_S (t_K fT n) (t_L fT n) gi = .inr j ∧ m_XS ν fT n cn j) ∨ (∃ e, a_S (t_K fT n) (t_L fT n) gi = .inl e ∧ m_XE ν e)))) args s 0 0 (m_A b LAY)) (F0 m 9 ls []) := by
  intro f
  induction f with
  | zero => intro y1 y2 gj hy hf; exfalso; omega
  | succ f ih =>
    intro y1 y2 gj hy hf μ hI hxt hxs hsp H locs hW ls hl
    obtain ⟨xs1, xs2, xs3, xs4, xs5⟩ := hxs
    obtain ⟨cu, hcu⟩ : ∃ z, μ.1 27 4 = z := ⟨_, rfl⟩
    rw [hcu] at xs2
    obtain ⟨tk, htk⟩ : ∃ z, μ.1 27 5 = z := ⟨_, rfl⟩
    rw [htk] at xs3
    have hc4 : cn ≤ 400 := by have := hxt.1.2.2; have := hxt.2.2.2.2; omega
    have hxt0 := hxt
    refine lv_iload_n hx hb dX4_readSum_9 rfl (lv_at hl 2 rfl) ?_
    refine lv_sipush (v := 400) hx hb dX4_readSum_10 (by decide) ?_
    refine lv_icmp_ge (tgt := 64) hx hb dX4_readSum_13 (by decide) (fun c1 => ?_) (fun c1 => ?_)
    · have i1 := m_c3 (by decide : (400 : Int32).toInt = 400) (rfl : y2.toInt = _) c1
      refine lv_iload_n hx hb dX4_readSum_64 rfl (lv_at hl 1 rfl) ?_
      exact m_iret hx hb hr hlocks hW rfl (⟨hI, Or.inl ⟨gj, (by rw [← hsp]; exact a_Sl_0 (by first | omega | (have := hxt.k4 gj; omega))), ⟨by rw [show μ.1 27 1 = 0 from by exact xs1], by rw [show μ.1 27 4 = cu from by exact hcu]; omega, by rw [show μ.1 27 5 = tk from by exact htk]; omega, by omega, by rw [show μ.1 27 2 = (-1) from by exact xs5]⟩⟩⟩) dX4_readSum_65
    · have i1 := m_c4 (by decide : (400 : Int32).toInt = 400) (rfl : y2.toInt = _) c1
      refine lv_aload_n hx hb dX4_readSum_16 rfl (lv_at hl 0 rfl) ?_
      refine m_geti hx hb hts hown hW (27) 5 rfl rfl cw_4 rfl (by decide) k_X4_37 dX4_readSum_17 ?_
      refine lv_topi (fun x2 ex2 => ?_)
      have ex2 : x2 = tk := by rw [ex2]; exact htk
      have ex2 := ex2.symm
      subst ex2
      refine lv_iconst (v := 4) hx hb dX4_readSum_20 (by decide) ?_
      refine lv_icmp_eq (tgt := 32) hx hb dX4_readSum_21 (by decide) (fun c3 => ?_) (fun c3 => ?_)
      · have i3 := m_c5 (rfl : tk.toInt = _) (by decide : (4 : Int32).toInt = 4) c3
        refine lv_aload_n hx hb dX4_readSum_32 rfl (lv_at hl 0 rfl) ?_
        refine m_geti hx hb hts hown hW (27) 5 rfl rfl cw_4 rfl (by decide) k_X4_37 dX4_readSum_33 ?_
        refine lv_topi (fun x4 ex4 => ?_)
        have ex4 : x4 = tk := by rw [ex4]; exact htk
        have ex4 := ex4.symm
        subst ex4
        refine lv_iconst (v := 5) hx hb dX4_readSum_36 (by decide) ?_
        refine lv_icmp_ne (tgt := 44) hx hb dX4_readSum_37 (by decide) (fun c5 => ?_) (fun c5 => ?_)
        · have i5 := m_c6 (rfl : tk.toInt = _) (by decide : (5 : Int32).toInt = 5) c5
          refine lv_iconst (v := 0) hx hb dX4_readSum_44 (by decide) ?_
          refine lv_istore_n (lv' := [(3, .int 0), (0, .ref (b + 27)), (1, .int y1), (2, .int y2)]) hx hb dX4_readSum_45 rfl hl (by decide) rfl (fun ls hl => ?_)
          refine lv_aload_n hx hb dX4_readSum_46 rfl (lv_at hl 1 rfl) ?_
          refine m_aV hW (m_runV (As := []) (rest := []) hx hb hml hown hts hW (27) (g_X4_advance_o l D cy b (fun g => [5].contains g) μ rfl fT n cn gj (hxt.lt (by omega) (by omega)) μ (IY.rf hI.1) hxt ⟨by exact xs1, by rw [show μ.1 27 4 = cu from by exact hcu]; omega, by rw [show μ.1 27 5 = tk from by exact htk]; omega, by omega, by exact xs5⟩) mi_X4_advance k_X4_80 rfl rfl rfl hl.1 rfl (Nat.le_of_ble_eq_true rfl) dX4_readSum_47 ⟨Nat.le_of_ble_eq_true rfl, Nat.le_of_ble_eq_true rfl⟩ ⟨Nat.le_of_ble_eq_true rfl, Nat.le_of_ble_eq_true rfl⟩) (fun μ6 H locs q6 hW => ?_)
          obtain ⟨hJ6, q6⟩ := q6
          have hI := hI.tr hJ6 (m_subL (by simp [hS5]))
          have hxt : m_XT μ6 fT n cn := hxt.fr hJ6 rfl rfl rfl
          obtain ⟨xa7, xb7, xc7, xd7, xf7⟩ := q6
          obtain ⟨cu7, hcu7⟩ : ∃ z, μ6.1 27 4 = z := ⟨_, rfl⟩
          rw [hcu7] at xb7
          obtain ⟨tk7, htk7⟩ : ∃ z, μ6.1 27 5 = z := ⟨_, rfl⟩
          rw [htk7] at xc7
          refine lv_aload_n hx hb dX4_readSum_50 rfl (lv_at hl 1 rfl) ?_
          refine lv_iload_n hx hb dX4_readSum_51 rfl (lv_at hl 0 rfl) ?_
          have l_0 : (0 : Int32).toInt = 0 := by decide
          refine m_aV hW (m_runV (As := [.int 0]) (rest := []) hx hb hml hown hts hW (27) (g_X4_readTerm_o l D cy b (fun g => [5, 12].contains g) μ6 rfl rfl fT n cn (gj + 1) 0 (by omega) μ6 (IY.rf hI.1) hxt ⟨by exact xa7, by rw [show μ6.1 27 4 = cu7 from by exact hcu7]; omega, by rw [show μ6.1 27 5 = tk7 from by exact htk7]; omega, by omega, by exact xf7⟩) mi_X4_readTerm k_X4_120 rfl rfl rfl hl.1 rfl (Nat.le_of_ble_eq_true rfl) dX4_readSum_52 ⟨Nat.le_of_ble_eq_true rfl, Nat.le_of_ble_eq_true rfl⟩ ⟨Nat.le_of_ble_eq_true rfl, Nat.le_of_ble_eq_true rfl⟩) (fun μ8 H locs q8 hW => ?_)
          obtain ⟨hJ8, q8⟩ := q8
          have hI := hI.tr hJ8 (m_subL (by simp [hS5, hS12]))
          have hxt : m_XT μ8 fT n cn := hxt.fr hJ8 rfl rfl rfl
          rcases q8 with ⟨j9, ha9, hxs9⟩ | ⟨e9, ha9, hxe9⟩
          · obtain ⟨xa10, xb10, xc10, xd10, xf10⟩ := hxs9
            obtain ⟨cu10, hcu10⟩ : ∃ z, μ8.1 27 4 = z := ⟨_, rfl⟩
            rw [hcu10] at xb10
            obtain ⟨tk10, htk10⟩ : ∃ z, μ8.1 27 5 = z := ⟨_, rfl⟩
            rw [htk10] at xc10
            obtain ⟨x11, ex11⟩ : ∃ z : Int32, z = y1 + 1 := ⟨_, rfl⟩
            refine lv_iinc (v := x11) (lv' := [(1, .int x11), (3, .int 0), (0, .ref (b + 27)), (2, .int y2)]) hx hb dX4_readSum_55 hl (k := 2) rfl (by rw [ex11]; rfl) (by decide) rfl (fun ls hl => ?_)
            obtain ⟨x12, ex12⟩ : ∃ z : Int32, z = y2 + 1 := ⟨_, rfl⟩
            refine lv_iinc (v := x12) (lv' := [(2, .int x12), (1, .int x11), (3, .int 0), (0, .ref (b + 27))]) hx hb dX4_readSum_58 hl (k := 3) rfl (by rw [ex12]; rfl) (by decide) rfl (fun ls hl => ?_)
            have tx12 : x12.toInt = y2.toInt + 1 := m_addI ex12 (rfl : y2.toInt = _) (by decide : (1 : Int32).toInt = 1) (by omega) (by omega)
            refine lv_goto (tgt := 9) hx hb dX4_readSum_61 (by decide) ?_
            have hjr := a_T_r ha9
            exact ih x11 x12 j9 (by omega) (by omega) μ8 hI (hxt) (⟨by rw [show μ8.1 27 1 = 0 from by exact xa10], by rw [show μ8.1 27 4 = cu10 from by exact hcu10]; omega, by rw [show μ8.1 27 5 = tk10 from by exact htk10]; omega, by omega, by rw [show μ8.1 27 2 = (-1) from by exact xf10]⟩) ((by rw [← hsp, a_Sl_1 (j := gj) hxt.k4 (by omega)]; simp only [a_b, ha9])) _ _ hW ls (lv_sub hl [3, 1, 0] rfl)
          · obtain ⟨xa13, xb13, xc13, xd13⟩ := hxe9
            obtain ⟨ef13, hef13⟩ : ∃ z, μ8.1 27 1 = z := ⟨_, rfl⟩
            rw [hef13] at xa13
            obtain ⟨ep13, hep13⟩ : ∃ z, μ8.1 27 2 = z := ⟨_, rfl⟩
            rw [hep13] at xc13
            obtain ⟨x14, ex14⟩ : ∃ z : Int32, z = y1 + 1 := ⟨_, rfl⟩
            refine lv_iinc (v := x14) (lv' := [(1, .int x14), (3, .int 0), (0, .ref (b + 27)), (2, .int y2)]) hx hb dX4_readSum_55 hl (k := 2) rfl (by rw [ex14]; rfl) (by decide) rfl (fun ls hl => ?_)
            obtain ⟨x15, ex15⟩ : ∃ z : Int32, z = y2 + 1 := ⟨_, rfl⟩
            refine lv_iinc (v := x15) (lv' := [(2, .int x15), (1, .int x14), (3, .int 0), (0, .ref (b + 27))]) hx hb dX4_readSum_58 hl (k := 3) rfl (by rw [ex15]; rfl) (by decide) rfl (fun ls hl => ?_)
            have tx15 : x15.toInt = y2.toInt + 1 := m_addI ex15 (rfl : y2.toInt = _) (by decide : (1 : Int32).toInt = 1) (by omega) (by omega)
            refine lv_goto (tgt := 9) hx hb dX4_readSum_61 (by decide) ?_
            refine lv_iload_n hx hb dX4_readSum_9 rfl (lv_at hl 0 rfl) ?_
            refine lv_sipush (v := 400) hx hb dX4_readSum_10 (by decide) ?_
            refine lv_icmp_ge (tgt := 64) hx hb dX4_readSum_13 (by decide) (fun c16 => ?_) (fun c16 => ?_)
            · have i16 := m_c3 (by decide : (400 : Int32).toInt = 400) (rfl : x15.toInt = _) c16
              refine lv_iload_n hx hb dX4_readSum_64 rfl (lv_at hl 1 rfl) ?_
              exact m_iret hx hb hr hlocks hW rfl (⟨hI, Or.inr ⟨e9, (by rw [← hsp, a_Sl_1 (j := gj) hxt0.k4 (by omega)]; simp only [a_b, ha9]), ⟨by rw [show μ8.1 27 1 = ef13 from by exact hef13]; exact xa13, xb13, by rw [show μ8.1 27 2 = ep13 from by exact hep13]; exact xc13, by rw [show μ8.1 27 5 = 0 from by exact xd13]⟩⟩⟩) dX4_readSum_65
            · have i16 := m_c4 (by decide : (400 : Int32).toInt = 400) (rfl : x15.toInt = _) c16
              refine lv_aload_n hx hb dX4_readSum_16 rfl (lv_at hl 3 rfl) ?_
              refine m_geti hx hb hts hown hW (27) 5 rfl rfl cw_4 rfl (by decide) k_X4_37 dX4_readSum_17 ?_
              refine lv_topi (fun x17 ex17 => ?_)
              have ex17 : x17 = 0 := by rw [ex17]; exact xd13
              have ex17 := ex17.symm
              subst ex17
              refine lv_iconst (v := 4) hx hb dX4_readSum_20 (by decide) ?_
              refine lv_icmp_eq (tgt := 32) hx hb dX4_readSum_21 (by decide) (fun c => False.elim (by revert c; decide)) (fun _ => ?_)
              refine lv_aload_n hx hb dX4_readSum_24 rfl (lv_at hl 3 rfl) ?_
              refine m_geti hx hb hts hown hW (27) 5 rfl rfl cw_4 rfl (by decide) k_X4_37 dX4_readSum_25 ?_
              refine lv_topi (fun x18 ex18 => ?_)
              have ex18 : x18 = 0 := by rw [ex18]; exact xd13
              have ex18 := ex18.symm
              subst ex18
              refine lv_iconst (v := 5) hx hb dX4_readSum_28 (by decide) ?_
              refine lv_icmp_ne (tgt := 64) hx hb dX4_readSum_29 (by decide) (fun _ => ?_) (fun c => False.elim (by revert c; decide))
              refine lv_iload_n hx hb dX4_readSum_64 rfl (lv_at hl 1 rfl) ?_
              exact m_iret hx hb hr hlocks hW rfl (⟨hI, Or.inr ⟨e9, (by rw [← hsp, a_Sl_1 (j := gj) hxt0.k4 (by omega)]; simp only [a_b, ha9]), ⟨by rw [show μ8.1 27 1 = ef13 from by exact hef13]; exact xa13, xb13, by rw [show μ8.1 27 2 = ep13 from by exact hep13]; exact xc13, by rw [show μ8.1 27 5 = 0 from by exact xd13]⟩⟩⟩) dX4_readSum_65
        · have i5 := m_c5 (rfl : tk.toInt = _) (by decide : (5 : Int32).toInt = 5) c5
          exfalso; omega
      · have i3 := m_c6 (rfl : tk.toInt = _) (by decide : (4 : Int32).toInt = 4) c3
        refine lv_aload_n hx hb dX4_readSum_24 rfl (lv_at hl 0 rfl) ?_
        refine m_geti hx hb hts hown hW (27) 5 rfl rfl cw_4 rfl (by decide) k_X4_37 dX4_readSum_25 ?_
        refine lv_topi (fun x19 ex19 => ?_)
        have ex19 : x19 = tk := by rw [ex19]; exact htk
        have ex19 := ex19.symm
        subst ex19
        refine lv_iconst (v := 5) hx hb dX4_readSum_28 (by decide) ?_
        refine lv_icmp_ne (tgt := 64) hx hb dX4_readSum_29 (by decide) (fun c20 => ?_) (fun c20 => ?_)
        · have i20 := m_c6 (rfl : tk.toInt = _) (by decide : (5 : Int32).toInt = 5) c20
          refine lv_iload_n hx hb dX4_readSum_64 rfl (lv_at hl 1 rfl) ?_
          exact m_iret hx hb hr hlocks hW rfl (⟨hI, Or.inl ⟨gj, (by rw [← hsp]; exact a_Sl_0 (by first | omega | (have := hxt.k4 gj; omega))), ⟨by rw [show μ.1 27 1 = 0 from by exact xs1], by rw [show μ.1 27 4 = cu from by exact hcu]; omega, by rw [show μ.1 27 5 = tk from by exact htk]; omega, by omega, by rw [show μ.1 27 2 = (-1) from by exact xs5]⟩⟩⟩) dX4_readSum_65
        · have i20 := m_c5 (rfl : tk.toInt = _) (by decide : (5 : Int32).toInt = 5) c20
          refine lv_aload_n hx hb dX4_readSum_32 rfl (lv_at hl 0 rfl) ?_
          refine m_geti hx hb hts hown hW (27) 5 rfl rfl cw_4 rfl (by decide) k_X4_37 dX4_readSum_33 ?_
          refine lv_topi (fun x21 ex21 => ?_)
          have ex21 : x21 = tk := by rw [ex21]; exact htk
          have ex21 := ex21.symm
          subst ex21
          refine lv_iconst (v := 5) hx hb dX4_readSum_36 (by decide) ?_
          refine lv_icmp_ne (tgt := 44) hx hb dX4_readSum_37 (by decide) (fun c22 => ?_) (fun c22 => ?_)
          · have i22 := m_c6 (rfl : tk.toInt = _) (by decide : (5 : Int32).toInt = 5) c22
            exfalso; omega
          · have i22 := m_c5 (rfl : tk.toInt = _) (by decide : (5 : Int32).toInt = 5) c22
            refine lv_iconst (v := 1) hx hb dX4_readSum_40 (by decide) ?_
            refine lv_goto (tgt := 45) hx hb dX4_readSum_41 (by decide) ?_
            refine lv_istore_n (lv' := [(3, .int 1), (0, .ref (b + 27)), (1, .int y1), (2, .int y2)]) hx hb dX4_readSum_45 rfl hl (by decide) rfl (fun ls hl => ?_)
            refine lv_aload_n hx hb dX4_readSum_46 rfl (lv_at hl 1 rfl) ?_
            refine m_aV hW (m_runV (As := []) (rest := []) hx hb hml hown hts hW (27) (g_X4_advance_o l D cy b (fun g => [5].contains g) μ rfl fT n cn gj (hxt.lt (by omega) (by omega)) μ (IY.rf hI.1) hxt ⟨by exact xs1, by rw [show μ.1 27 4 = cu from by exact hcu]; omega, by rw [show μ.1 27 5 = tk from by exact htk]; omega, by omega, by exact xs5⟩) mi_X4_advance k_X4_80 rfl rfl rfl hl.1 rfl (Nat.le_of_ble_eq_true rfl) dX4_readSum_47 ⟨Nat.le_of_ble_eq_true rfl, Nat.le_of_ble_eq_true rfl⟩ ⟨Nat.le_of_ble_eq_true rfl, Nat.le_of_ble_eq_true rfl⟩) (fun μ23 H locs q23 hW => ?_)
            obtain ⟨hJ23, q23⟩ := q23
            have hI := hI.tr hJ23 (m_subL (by simp [hS5]))
            have hxt : m_XT μ23 fT n cn := hxt.fr hJ23 rfl rfl rfl
            obtain ⟨xa24, xb24, xc24, xd24, xf24⟩ := q23
            obtain ⟨cu24, hcu24⟩ : ∃ z, μ23.1 27 4 = z := ⟨_, rfl⟩
            rw [hcu24] at xb24
            obtain ⟨tk24, htk24⟩ : ∃ z, μ23.1 27 5 = z := ⟨_, rfl⟩
            rw [htk24] at xc24
            refine lv_aload_n hx hb dX4_readSum_50 rfl (lv_at hl 1 rfl) ?_
            refine lv_iload_n hx hb dX4_readSum_51 rfl (lv_at hl 0 rfl) ?_
            have l_1 : (1 : Int32).toInt = 1 := by decide
            refine m_aV hW (m_runV (As := [.int 1]) (rest := []) hx hb hml hown hts hW (27) (g_X4_readTerm_o l D cy b (fun g => [5, 12].contains g) μ23 rfl rfl fT n cn (gj + 1) 1 (by omega) μ23 (IY.rf hI.1) hxt ⟨by exact xa24, by rw [show μ23.1 27 4 = cu24 from by exact hcu24]; omega, by rw [show μ23.1 27 5 = tk24 from by exact htk24]; omega, by omega, by exact xf24⟩) mi_X4_readTerm k_X4_120 rfl rfl rfl hl.1 rfl (Nat.le_of_ble_eq_true rfl) dX4_readSum_52 ⟨Nat.le_of_ble_eq_true rfl, Nat.le_of_ble_eq_true rfl⟩ ⟨Nat.le_of_ble_eq_true rfl, Nat.le_of_ble_eq_true rfl⟩) (fun μ25 H locs q25 hW => ?_)
            obtain ⟨hJ25, q25⟩ := q25
            have hI := hI.tr hJ25 (m_subL (by simp [hS5, hS12]))
            have hxt : m_XT μ25 fT n cn := hxt.fr hJ25 rfl rfl rfl
            rcases q25 with ⟨j26, ha26, hxs26⟩ | ⟨e26, ha26, hxe26⟩
            · obtain ⟨xa27, xb27, xc27, xd27, xf27⟩ := hxs26
              obtain ⟨cu27, hcu27⟩ : ∃ z, μ25.1 27 4 = z := ⟨_, rfl⟩
              rw [hcu27] at xb27
              obtain ⟨tk27, htk27⟩ : ∃ z, μ25.1 27 5 = z := ⟨_, rfl⟩
              rw [htk27] at xc27
              obtain ⟨x28, ex28⟩ : ∃ z : Int32, z = y1 + 1 := ⟨_, rfl⟩
              refine lv_iinc (v := x28) (lv' := [(1, .int x28), (3, .int 1), (0, .ref (b + 27)), (2, .int y2)]) hx hb dX4_readSum_55 hl (k := 2) rfl (by rw [ex28]; rfl) (by decide) rfl (fun ls hl => ?_)
              obtain ⟨x29, ex29⟩ : ∃ z : Int32, z = y2 + 1 := ⟨_, rfl⟩
              refine lv_iinc (v := x29) (lv' := [(2, .int x29), (1, .int x28), (3, .int 1), (0, .ref (b + 27))]) hx hb dX4_readSum_58 hl (k := 3) rfl (by rw [ex29]; rfl) (by decide) rfl (fun ls hl => ?_)
              have tx29 : x29.toInt = y2.toInt + 1 := m_addI ex29 (rfl : y2.toInt = _) (by decide : (1 : Int32).toInt = 1) (by omega) (by omega)
              refine lv_goto (tgt := 9) hx hb dX4_readSum_61 (by decide) ?_
              have hjr := a_T_r ha26
              exact ih x28 x29 j26 (by omega) (by omega) μ25 hI (hxt) (⟨by rw [show μ25.1 27 1 = 0 from by exact xa27], by rw [show μ25.1 27 4 = cu27 from by exact hcu27]; omega, by rw [show μ25.1 27 5 = tk27 from by exact htk27]; omega, by omega, by rw [show μ25.1 27 2 = (-1) from by exact xf27]⟩) ((by rw [← hsp, a_Sl_1 (j := gj) hxt.k4 (by omega)]; simp only [a_b, ha26])) _ _ hW ls (lv_sub hl [3, 1, 0] rfl)
            · obtain ⟨xa30, xb30, xc30, xd30⟩ := hxe26
              obtain ⟨ef30, hef30⟩ : ∃ z, μ25.1 27 1 = z := ⟨_, rfl⟩
              rw [hef30] at xa30
              obtain ⟨ep30, hep30⟩ : ∃ z, μ25.1 27 2 = z := ⟨_, rfl⟩
              rw [hep30] at xc30
              obtain ⟨x31, ex31⟩ : ∃ z : Int32, z = y1 + 1 := ⟨_, rfl⟩
              refine lv_iinc (v := x31) (lv' := [(1, .int x31), (3, .int 1), (0, .ref (b + 27)), (2, .int y2)]) hx hb dX4_readSum_55 hl (k := 2) rfl (by rw [ex31]; rfl) (by decide) rfl (fun ls hl => ?_)
              obtain ⟨x32, ex32⟩ : ∃ z : Int32, z = y2 + 1 := ⟨_, rfl⟩
              refine lv_iinc (v := x32) (lv' := [(2, .int x32), (1, .int x31), (3, .int 1), (0, .ref (b + 27))]) hx hb dX4_readSum_58 hl (k := 3) rfl (by rw [ex32]; rfl) (by decide) rfl (fun ls hl => ?_)
              have tx32 : x32.toInt = y2.toInt + 1 := m_addI ex32 (rfl : y2.toInt = _) (by decide : (1 : Int32).toInt = 1) (by omega) (by omega)
              refine lv_goto (tgt := 9) hx hb dX4_readSum_61 (by decide) ?_
              refine lv_iload_n hx hb dX4_readSum_9 rfl (lv_at hl 0 rfl) ?_
              refine lv_sipush (v := 400) hx hb dX4_readSum_10 (by decide) ?_
              refine lv_icmp_ge (tgt := 64) hx hb dX4_readSum_13 (by decide) (fun c33 => ?_) (fun c33 => ?_)
              · have i33 := m_c3 (by decide : (400 : Int32).toInt = 400) (rfl : x32.toInt = _) c33
                refine lv_iload_n hx hb dX4_readSum_64 rfl (lv_at hl 1 rfl) ?_
                exact m_iret hx hb hr hlocks hW rfl (⟨hI, Or.inr ⟨e26, (by rw [← hsp, a_Sl_1 (j := gj) hxt0.k4 (by omega)]; simp only [a_b, ha26]), ⟨by rw [show μ25.1 27 1 = ef30 from by exact hef30]; exact xa30, xb30, by rw [show μ25.1 27 2 = ep30 from by exact hep30]; exact xc30, by rw [show μ25.1 27 5 = 0 from by exact xd30]⟩⟩⟩) dX4_readSum_65
              · have i33 := m_c4 (by decide : (400 : Int32).toInt = 400) (rfl : x32.toInt = _) c33
                refine lv_aload_n hx hb dX4_readSum_16 rfl (lv_at hl 3 rfl) ?_
                refine m_geti hx hb hts hown hW (27) 5 rfl rfl cw_4 rfl (by decide) k_X4_37 dX4_readSum_17 ?_
                refine lv_topi (fun x34 ex34 => ?_)
                have ex34 : x34 = 0 := by rw [ex34]; exact xd30
                have ex34 := ex34.symm
                subst ex34
                refine lv_iconst (v := 4) hx hb dX4_readSum_20 (by decide) ?_
                refine lv_icmp_eq (tgt := 32) hx hb dX4_readSum_21 (by decide) (fun c => False.elim (by revert c; decide)) (fun _ => ?_)
                refine lv_aload_n hx hb dX4_readSum_24 rfl (lv_at hl 3 rfl) ?_
                refine m_geti hx hb hts hown hW (27) 5 rfl rfl cw_4 rfl (by decide) k_X4_37 dX4_readSum_25 ?_
                refine lv_topi (fun x35 ex35 => ?_)
                have ex35 : x35 = 0 := by rw [ex35]; exact xd30
                have ex35 := ex35.symm
                subst ex35
                refine lv_iconst (v := 5) hx hb dX4_readSum_28 (by decide) ?_
                refine lv_icmp_ne (tgt := 64) hx hb dX4_readSum_29 (by decide) (fun _ => ?_) (fun c => False.elim (by revert c; decide))
                refine lv_iload_n hx hb dX4_readSum_64 rfl (lv_at hl 1 rfl) ?_
                exact m_iret hx hb hr hlocks hW rfl (⟨hI, Or.inr ⟨e26, (by rw [← hsp, a_Sl_1 (j := gj) hxt0.k4 (by omega)]; simp only [a_b, ha26]), ⟨by rw [show μ25.1 27 1 = ef30 from by exact hef30]; exact xa30, xb30, by rw [show μ25.1 27 2 = ep30 from by exact hep30]; exact xc30, by rw [show μ25.1 27 5 = 0 from by exact xd30]⟩⟩⟩) dX4_readSum_65
set_option maxHeartbeats 4000000 in
set_option maxRecDepth 100000 in
theorem g_X4_readSum_o (l : Launch) (D : va_G) (cy : Nat → ClassId) (b : Nat) (S : Nat → Bool) (μ0 : mM) (hS5 : S 5 = true) (hS12 : S 12 = true) (fT : Nat → Int32) (n cn gi : Nat) (μ : mM) (hI : IY S μ0 μ) (hxt : m_XT μ fT n cn) (hxs : m_XS μ fT n cn gi) : m_Ci l yX4_readSum cX4_readSum 4 ((some .int)) 3 D cy b LAY μ [.ref (b + 27)] (fun r ν => IY S μ0 ν ∧ ((∃ j, a_S (t_K fT n) (t_L fT n) gi = .inr j ∧ m_XS ν fT n cn j) ∨ (∃ e, a_S (t_K fT n) (t_L fT n) gi = .inl e ∧ m_XE ν e))) := by
  unfold m_Ci
  refine m_of (by decide) (Nat.le_of_ble_eq_true rfl) ?_
  intro p e s m below meth c hx hb hr hml hown hts hlocks _ hW ls hl
  have hown : s.vm.findClass RX4 = some m.cls := hown
  have hl : lv_has ls 4 [(0, .ref (b + 27))] := hl
  obtain ⟨xs1, xs2, xs3, xs4, xs5⟩ := hxs
  obtain ⟨cu, hcu⟩ : ∃ z, μ.1 27 4 = z := ⟨_, rfl⟩
  rw [hcu] at xs2
  obtain ⟨tk, htk⟩ : ∃ z, μ.1 27 5 = z := ⟨_, rfl⟩
  rw [htk] at xs3
  have hc4 : cn ≤ 400 := by have := hxt.1.2.2; have := hxt.2.2.2.2; omega
  refine lv_iconst (v := 1) hx hb dX4_readSum_0 (by decide) ?_
  refine lv_istore_n (lv' := [(1, .int 1), (0, .ref (b + 27))]) hx hb dX4_readSum_1 rfl hl (by decide) rfl (fun ls hl => ?_)
  refine lv_aload_n hx hb dX4_readSum_2 rfl (lv_at hl 1 rfl) ?_
  refine lv_iconst (v := 0) hx hb dX4_readSum_3 (by decide) ?_
  have l_0 : (0 : Int32).toInt = 0 := by decide
  refine m_aV hW (m_runV (As := [.int 0]) (rest := []) hx hb hml hown hts hW (27) (g_X4_readTerm_o l D cy b (fun g => [5, 12].contains g) μ rfl rfl fT n cn gi 0 (by omega) μ (IY.rf hI.1) hxt ⟨by exact xs1, by rw [show μ.1 27 4 = cu from by exact hcu]; omega, by rw [show μ.1 27 5 = tk from by exact htk]; omega, by omega, by exact xs5⟩) mi_X4_readTerm k_X4_120 rfl rfl rfl hl.1 rfl (Nat.le_of_ble_eq_true rfl) dX4_readSum_4 ⟨Nat.le_of_ble_eq_true rfl, Nat.le_of_ble_eq_true rfl⟩ ⟨Nat.le_of_ble_eq_true rfl, Nat.le_of_ble_eq_true rfl⟩) (fun μ1 H locs q1 hW => ?_)
  obtain ⟨hJ1, q1⟩ := q1
  have hI := hI.tr hJ1 (m_subL (by simp [hS5, hS12]))
  have hxt : m_XT μ1 fT n cn := hxt.fr hJ1 rfl rfl rfl
  rcases q1 with ⟨j2, ha2, hxs2⟩ | ⟨e2, ha2, hxe2⟩
  · obtain ⟨xa3, xb3, xc3, xd3, xf3⟩ := hxs2
    obtain ⟨cu3, hcu3⟩ : ∃ z, μ1.1 27 4 = z := ⟨_, rfl⟩
    rw [hcu3] at xb3
    obtain ⟨tk3, htk3⟩ : ∃ z, μ1.1 27 5 = z := ⟨_, rfl⟩
    rw [htk3] at xc3
    refine lv_iconst (v := 0) hx hb dX4_readSum_7 (by decide) ?_
    refine lv_istore_n (lv' := [(2, .int 0), (1, .int 1), (0, .ref (b + 27))]) hx hb dX4_readSum_8 rfl hl (by decide) rfl (fun ls hl => ?_)
    have l_1 : (1 : Int32).toInt = 1 := by decide
    exact L_X4_readSum_o_9 hx hb hr hml hown hts hlocks S μ0 hS5 hS12 fT n cn gi  401 1 0 j2 (by omega) (by omega) μ1 hI (hxt) (⟨by rw [show μ1.1 27 1 = 0 from by exact xa3], by rw [show μ1.1 27 4 = cu3 from by exact hcu3]; omega, by rw [show μ1.1 27 5 = tk3 from by exact htk3]; omega, by omega, by rw [show μ1.1 27 2 = (-1) from by exact xf3]⟩) ((by simp only [a_S, a_b, ha2])) _ _ hW ls (lv_sub hl [2, 1, 0] rfl)
  · obtain ⟨xa4, xb4, xc4, xd4⟩ := hxe2
    obtain ⟨ef4, hef4⟩ : ∃ z, μ1.1 27 1 = z := ⟨_, rfl⟩
    rw [hef4] at xa4
    obtain ⟨ep4, hep4⟩ : ∃ z, μ1.1 27 2 = z := ⟨_, rfl⟩
    rw [hep4] at xc4
    refine lv_iconst (v := 0) hx hb dX4_readSum_7 (by decide) ?_
    refine lv_istore_n (lv' := [(2, .int 0), (1, .int 1), (0, .ref (b + 27))]) hx hb dX4_readSum_8 rfl hl (by decide) rfl (fun ls hl => ?_)
    refine lv_iload_n hx hb dX4_readSum_9 rfl (lv_at hl 0 rfl) ?_
    refine lv_sipush (v := 400) hx hb dX4_readSum_10 (by decide) ?_
    refine lv_icmp_ge (tgt := 64) hx hb dX4_readSum_13 (by decide) (fun c => False.elim (by revert c; decide)) (fun _ => ?_)
    refine lv_aload_n hx hb dX4_readSum_16 rfl (lv_at hl 2 rfl) ?_
    refine m_geti hx hb hts hown hW (27) 5 rfl rfl cw_4 rfl (by decide) k_X4_37 dX4_readSum_17 ?_
    refine lv_topi (fun x5 ex5 => ?_)
    have ex5 : x5 = 0 := by rw [ex5]; exact xd4
    have ex5 := ex5.symm
    subst ex5
    refine lv_iconst (v := 4) hx hb dX4_readSum_20 (by decide) ?_
    refine lv_icmp_eq (tgt := 32) hx hb dX4_readSum_21 (by decide) (fun c => False.elim (by revert c; decide)) (fun _ => ?_)
    refine lv_aload_n hx hb dX4_readSum_24 rfl (lv_at hl 2 rfl) ?_
    refine m_geti hx hb hts hown hW (27) 5 rfl rfl cw_4 rfl (by decide) k_X4_37 dX4_readSum_25 ?_
    refine lv_topi (fun x6 ex6 => ?_)
    have ex6 : x6 = 0 := by rw [ex6]; exact xd4
    have ex6 := ex6.symm
    subst ex6
    refine lv_iconst (v := 5) hx hb dX4_readSum_28 (by decide) ?_
    refine lv_icmp_ne (tgt := 64) hx hb dX4_readSum_29 (by decide) (fun _ => ?_) (fun c => False.elim (by revert c; decide))
    refine lv_iload_n hx hb dX4_readSum_64 rfl (lv_at hl 1 rfl) ?_
    exact m_iret hx hb hr hlocks hW rfl (⟨hI, Or.inr ⟨e2, (by simp only [a_S, a_b, ha2]), ⟨by rw [show μ1.1 27 1 = ef4 from by exact hef4]; exact xa4, xb4, by rw [show μ1.1 27 2 = ep4 from by exact hep4]; exact xc4, by rw [show μ1.1 27 5 = 0 from by exact xd4]⟩⟩⟩) dX4_readSum_65
set_option maxHeartbeats 4000000 in
set_option maxRecDepth 100000 in
theorem L_X4_readSum_e_9 {p : Program} {l : Launch} {e : Env} {s : State} {m : MethodId} {args : Array Value} {below : List Frame} {meth : Method} {c : Code} {D : va_G} {cy : Nat → ClassId} {b : Nat} (hx : p.tables.exec = Jvm.exec) (hb : c.code = cX4_readSum) (hr : meth.sig.returnType = ((some .int))) (hml : c.maxLocals = 4) (hown : s.vm.findClass RX4 = some m.cls) (hts : ∀ w ∈ TB, w.before args s = true) (hlocks : meth.locks = false) (S : Nat → Bool) (μ0 : mM) (hS5 : S 5 = true) (hS12 : S 12 = true) (ef ep : Int32) (h_ef : ef.toInt ≠ 0) : ∀ (f : Nat), ∀ (y1 y2 : Int32) (hy : 0 ≤ y2.toInt ∧ y2.toInt ≤ 400) (hf : 400 - y2.toInt < (f : Int)) (μ : mM) (hI : IY S μ0 μ) (he1 : μ.1 27 1 = ef) (he2 : μ.1 27 2 = ep) (he5 : μ.1 27 5 = 0) (H : Heap) (locs : List Loc), m_WA (m_A b LAY) D cy s b LAY μ H locs → ∀ ls : Array Slot, lv_has ls 4 [(0, .ref (b + 27)), (1, .int y1), (2, .int y2)] → W p l e (m_R 3 0 0) s m args below meth c H locs 0 0 (MQ below (m_Qi D cy b LAY (fun r ν => IY S μ0 ν ∧ (ν.1 27 1 = ef ∧ ν.1 27 2 = ep ∧ ν.1 27 5 = 0))) args s 0 0 (m_A b LAY)) (F0 m 9 ls []) := by
  intro f
  induction f with
  | zero => intro y1 y2 hy hf; exfalso; omega
  | succ f ih =>
    intro y1 y2 hy hf μ hI he1 he2 he5 H locs hW ls hl
    refine lv_iload_n hx hb dX4_readSum_9 rfl (lv_at hl 2 rfl) ?_
    refine lv_sipush (v := 400) hx hb dX4_readSum_10 (by decide) ?_
    refine lv_icmp_ge (tgt := 64) hx hb dX4_readSum_13 (by decide) (fun c1 => ?_) (fun c1 => ?_)
    · have i1 := m_c3 (by decide : (400 : Int32).toInt = 400) (rfl : y2.toInt = _) c1
      refine lv_iload_n hx hb dX4_readSum_64 rfl (lv_at hl 1 rfl) ?_
      exact m_iret hx hb hr hlocks hW rfl (⟨hI, ⟨by rw [show μ.1 27 1 = ef from by exact he1], by rw [show μ.1 27 2 = ep from by exact he2], by rw [show μ.1 27 5 = 0 from by exact he5]⟩⟩) dX4_readSum_65
    · have i1 := m_c4 (by decide : (400 : Int32).toInt = 400) (rfl : y2.toInt = _) c1
      refine lv_aload_n hx hb dX4_readSum_16 rfl (lv_at hl 0 rfl) ?_
      refine m_geti hx hb hts hown hW (27) 5 rfl rfl cw_4 rfl (by decide) k_X4_37 dX4_readSum_17 ?_
      refine lv_topi (fun x2 ex2 => ?_)
      have ex2 : x2 = 0 := by rw [ex2]; exact he5
      have ex2 := ex2.symm
      subst ex2
      refine lv_iconst (v := 4) hx hb dX4_readSum_20 (by decide) ?_
      refine lv_icmp_eq (tgt := 32) hx hb dX4_readSum_21 (by decide) (fun c => False.elim (by revert c; decide)) (fun _ => ?_)
      refine lv_aload_n hx hb dX4_readSum_24 rfl (lv_at hl 0 rfl) ?_
      refine m_geti hx hb hts hown hW (27) 5 rfl rfl cw_4 rfl (by decide) k_X4_37 dX4_readSum_25 ?_
      refine lv_topi (fun x3 ex3 => ?_)
      have ex3 : x3 = 0 := by rw [ex3]; exact he5
      have ex3 := ex3.symm
      subst ex3
      refine lv_iconst (v := 5) hx hb dX4_readSum_28 (by decide) ?_
      refine lv_icmp_ne (tgt := 64) hx hb dX4_readSum_29 (by decide) (fun _ => ?_) (fun c => False.elim (by revert c; decide))
      refine lv_iload_n hx hb dX4_readSum_64 rfl (lv_at hl 1 rfl) ?_
      exact m_iret hx hb hr hlocks hW rfl (⟨hI, ⟨by rw [show μ.1 27 1 = ef from by exact he1], by rw [show μ.1 27 2 = ep from by exact he2], by rw [show μ.1 27 5 = 0 from by exact he5]⟩⟩) dX4_readSum_65
set_option maxHeartbeats 4000000 in
set_option maxRecDepth 100000 in
theorem g_X4_readSum_e (l : Launch) (D : va_G) (cy : Nat → ClassId) (b : Nat) (S : Nat → Bool) (μ0 : mM) (hS5 : S 5 = true) (hS12 : S 12 = true) (ef ep : Int32) (h_ef : ef.toInt ≠ 0) (μ : mM) (hI : IY S μ0 μ) (he1 : μ.1 27 1 = ef) (he2 : μ.1 27 2 = ep) (he5 : μ.1 27 5 = 0) : m_Ci l yX4_readSum cX4_readSum 4 ((some .int)) 3 D cy b LAY μ [.ref (b + 27)] (fun r ν => IY S μ0 ν ∧ (ν.1 27 1 = ef ∧ ν.1 27 2 = ep ∧ ν.1 27 5 = 0)) := by
  unfold m_Ci
  refine m_of (by decide) (Nat.le_of_ble_eq_true rfl) ?_
  intro p e s m below meth c hx hb hr hml hown hts hlocks _ hW ls hl
  have hown : s.vm.findClass RX4 = some m.cls := hown
  have hl : lv_has ls 4 [(0, .ref (b + 27))] := hl
  refine lv_iconst (v := 1) hx hb dX4_readSum_0 (by decide) ?_
  refine lv_istore_n (lv' := [(1, .int 1), (0, .ref (b + 27))]) hx hb dX4_readSum_1 rfl hl (by decide) rfl (fun ls hl => ?_)
  refine lv_aload_n hx hb dX4_readSum_2 rfl (lv_at hl 1 rfl) ?_
  refine lv_iconst (v := 0) hx hb dX4_readSum_3 (by decide) ?_
  have l_0 : (0 : Int32).toInt = 0 := by decide
  refine m_aV hW (m_runV (As := [.int 0]) (rest := []) hx hb hml hown hts hW (27) (g_X4_readTerm_e l D cy b S μ0 hS5 hS12 ef ep (by omega) 0 (by omega) μ hI (by exact he1) (by exact he2) (by exact he5)) mi_X4_readTerm k_X4_120 rfl rfl rfl hl.1 rfl (Nat.le_of_ble_eq_true rfl) dX4_readSum_4 ⟨Nat.le_of_ble_eq_true rfl, Nat.le_of_ble_eq_true rfl⟩ ⟨Nat.le_of_ble_eq_true rfl, Nat.le_of_ble_eq_true rfl⟩) (fun μ1 H locs q1 hW => ?_)
  obtain ⟨hI, q1⟩ := q1
  obtain ⟨q1a, q1b, q1c⟩ := q1
  refine lv_iconst (v := 0) hx hb dX4_readSum_7 (by decide) ?_
  refine lv_istore_n (lv' := [(2, .int 0), (1, .int 1), (0, .ref (b + 27))]) hx hb dX4_readSum_8 rfl hl (by decide) rfl (fun ls hl => ?_)
  have l_1 : (1 : Int32).toInt = 1 := by decide
  exact L_X4_readSum_e_9 hx hb hr hml hown hts hlocks S μ0 hS5 hS12 ef ep h_ef  401 1 0 (by omega) (by omega) μ1 hI (by exact q1a) (by exact q1b) (by exact q1c) _ _ hW ls (lv_sub hl [2, 1, 0] rfl)
set_option maxHeartbeats 4000000 in
set_option maxRecDepth 100000 in
theorem g_X4_innermost_o (l : Launch) (D : va_G) (cy : Nat → ClassId) (b : Nat) (sl : List Bool) (μ : mM) (hI : IX μ) (hso : m_SO μ sl) : m_Ci l yX4_innermost cX4_innermost 1 ((some .int)) 1 D cy b LAY μ [.ref (b + 27)] (fun r ν => μ = ν ∧ ((sl = [] ∧ r.toInt = -1) ∨ (∃ t, sl = true :: t ∧ r.toInt = 15) ∨ (∃ t, sl = false :: t ∧ r.toInt = 16))) := by
  unfold m_Ci
  refine m_of (by decide) (Nat.le_of_ble_eq_true rfl) ?_
  intro p e s m below meth c hx hb hr hml hown hts hlocks _ hW ls hl
  have hown : s.vm.findClass RX4 = some m.cls := hown
  have hl : lv_has ls 1 [(0, .ref (b + 27))] := hl
  refine lv_aload_n hx hb dX4_innermost_0 rfl (lv_at hl 0 rfl) ?_
  refine m_getr hx hb hts hown hW (27) 6 (37) rfl rfl cw_4 rfl (by decide) k_X4_40 dX4_innermost_1 ?_
  refine lv_aload_n hx hb dX4_innermost_4 rfl (lv_at hl 0 rfl) ?_
  refine m_getr hx hb hts hown hW (27) 6 (37) rfl rfl cw_4 rfl (by decide) k_X4_40 dX4_innermost_5 ?_
  refine m_geti hx hb hts hown hW (37) 1 rfl rfl cw_5 rfl (by decide) k_X4_50 dX4_innermost_8 ?_
  refine lv_topi (fun x1 ex1 => ?_)
  have bx1 : 0 ≤ x1.toInt ∧ x1.toInt ≤ 4 := by rw [ex1]; exact hI _ _ _ _ rfl
  refine lv_iconst (v := 1) hx hb dX4_innermost_11 (by decide) ?_
  refine lv_isub hx hb dX4_innermost_12 ?_
  refine lv_topi (fun x2 ex2 => ?_)
  have tx2 : x2.toInt = x1.toInt - 1 := m_subI ex2 (rfl : x1.toInt = _) (by decide : (1 : Int32).toInt = 1) (by omega) (by omega)
  refine m_aI hW (m_runV (As := [.int x2]) (rest := []) hx hb hml hown hts hW (37) (g_X5_at_at37 l D cy b x1 (by omega) (μ.1 38) x2 μ hI (by exact ex1.symm) rfl) mi_X5_at k_X4_56 rfl rfl rfl hl.1 rfl (Nat.le_of_ble_eq_true rfl) dX4_innermost_13 ⟨Nat.le_of_ble_eq_true rfl, Nat.le_of_ble_eq_true rfl⟩ ⟨Nat.le_of_ble_eq_true rfl, Nat.le_of_ble_eq_true rfl⟩) (fun x3 μ3 H locs q3 hW => ?_)
  obtain ⟨q3_m, q3⟩ := q3
  subst q3_m
  exact m_iret hx hb hr hlocks hW rfl (⟨rfl, (hso.top (nv := x1) (r := x3) (by exact ex1.symm) (by omega) (q3.elim (fun z => Or.inl ⟨by omega, by rw [z.2, show x2.toNatClampNeg = x1.toNatClampNeg - 1 from by have := m_ckI (x := x2) (by omega); have := m_ckI (x := x1) (by omega); omega]⟩) (fun z => Or.inr ⟨by omega, z.2⟩)))⟩) dX4_innermost_16
set_option maxHeartbeats 4000000 in
set_option maxRecDepth 100000 in
theorem g_X4_dropInnermost_o (l : Launch) (D : va_G) (cy : Nat → ClassId) (b : Nat) (S : Nat → Bool) (μ0 : mM) (hS13 : S 13 = true) (hS14 : S 14 = true) (t : Int32) (h_t : 0 ≤ t.toInt ∧ t.toInt ≤ 4) (μ : mM) (hI : IY S μ0 μ) (ht : μ.1 37 1 = t) : m_Cv l yX4_dropInnermost cX4_dropInnermost 1 (none) 1 D cy b LAY μ [.ref (b + 27)] (fun ν => IY S μ0 ν ∧ ((ν.1 37 1).toInt = max 0 (t.toInt - 1) ∧ ν.1 38 = μ.1 38)) := by
  unfold m_Cv
  refine m_of (by decide) (Nat.le_of_ble_eq_true rfl) ?_
  intro p e s m below meth c hx hb hr hml hown hts hlocks _ hW ls hl
  have hown : s.vm.findClass RX4 = some m.cls := hown
  have hl : lv_has ls 1 [(0, .ref (b + 27))] := hl
  refine lv_aload_n hx hb dX4_dropInnermost_0 rfl (lv_at hl 0 rfl) ?_
  refine m_getr hx hb hts hown hW (27) 6 (37) rfl rfl cw_4 rfl (by decide) k_X4_40 dX4_dropInnermost_1 ?_
  refine lv_iconst (v := 0) hx hb dX4_dropInnermost_4 (by decide) ?_
  refine lv_aload_n hx hb dX4_dropInnermost_5 rfl (lv_at hl 0 rfl) ?_
  refine m_getr hx hb hts hown hW (27) 6 (37) rfl rfl cw_4 rfl (by decide) k_X4_40 dX4_dropInnermost_6 ?_
  refine m_geti hx hb hts hown hW (37) 1 rfl rfl cw_5 rfl (by decide) k_X4_50 dX4_dropInnermost_9 ?_
  refine lv_topi (fun x1 ex1 => ?_)
  have ex1 : x1 = t := by rw [ex1]; exact ht
  have ex1 := ex1.symm
  subst ex1
  refine lv_iconst (v := 1) hx hb dX4_dropInnermost_12 (by decide) ?_
  refine lv_isub hx hb dX4_dropInnermost_13 ?_
  refine lv_topi (fun x2 ex2 => ?_)
  have tx2 : x2.toInt = t.toInt - 1 := m_subI ex2 (rfl : t.toInt = _) (by decide : (1 : Int32).toInt = 1) (by omega) (by omega)
  refine va_mmax hx hb (hml.trans hl.1.symm) hown (hts _ k_X4_111) (hts _ kM_max_s) (hts _ kM_n) (hts _ kM_max_c) (Nat.le_of_ble_eq_true rfl) (Nat.le_of_ble_eq_true rfl) (Nat.le_of_ble_eq_true rfl) (Nat.le_of_ble_eq_true rfl) dX4_dropInnermost_14 ?_
  refine lv_topi (fun x3 ex3 => ?_)
  have tx3 : x3.toInt = max (0) (x2.toInt) := m_max ex3 (by decide : (0 : Int32).toInt = 0) (rfl : x2.toInt = _)
  refine m_puti hx hb hts hown hW (37) 1 rfl rfl cw_5 tyX5_ok nmX5 rfl (by decide) k_X4_50 rfl rfl rfl dX4_dropInnermost_17 (fun H locs hW _ => ?_)
  generalize hμ4 : m_si μ (37) 1 x3 = μ4 at hW
  have hI := hI.si1 hμ4 rfl (by omega) hS13
  refine lv_aload_n hx hb dX4_dropInnermost_20 rfl (lv_at hl 0 rfl) ?_
  refine m_getr hx hb hts hown hW (27) 7 (39) rfl rfl cw_4 rfl (by decide) k_X4_43 dX4_dropInnermost_21 ?_
  refine lv_iconst (v := 0) hx hb dX4_dropInnermost_24 (by decide) ?_
  refine lv_aload_n hx hb dX4_dropInnermost_25 rfl (lv_at hl 0 rfl) ?_
  refine m_getr hx hb hts hown hW (27) 7 (39) rfl rfl cw_4 rfl (by decide) k_X4_43 dX4_dropInnermost_26 ?_
  refine m_geti hx hb hts hown hW (39) 1 rfl rfl cw_5 rfl (by decide) k_X4_50 dX4_dropInnermost_29 ?_
  refine lv_topi (fun x5 ex5 => ?_)
  have bx5 : 0 ≤ x5.toInt ∧ x5.toInt ≤ 4 := by rw [ex5]; exact hI.1 _ _ _ _ rfl
  refine lv_iconst (v := 1) hx hb dX4_dropInnermost_32 (by decide) ?_
  refine lv_isub hx hb dX4_dropInnermost_33 ?_
  refine lv_topi (fun x6 ex6 => ?_)
  have tx6 : x6.toInt = x5.toInt - 1 := m_subI ex6 (rfl : x5.toInt = _) (by decide : (1 : Int32).toInt = 1) (by omega) (by omega)
  refine va_mmax hx hb (hml.trans hl.1.symm) hown (hts _ k_X4_111) (hts _ kM_max_s) (hts _ kM_n) (hts _ kM_max_c) (Nat.le_of_ble_eq_true rfl) (Nat.le_of_ble_eq_true rfl) (Nat.le_of_ble_eq_true rfl) (Nat.le_of_ble_eq_true rfl) dX4_dropInnermost_34 ?_
  refine lv_topi (fun x7 ex7 => ?_)
  have tx7 : x7.toInt = max (0) (x6.toInt) := m_max ex7 (by decide : (0 : Int32).toInt = 0) (rfl : x6.toInt = _)
  refine m_puti hx hb hts hown hW (39) 1 rfl rfl cw_5 tyX5_ok nmX5 rfl (by decide) k_X4_50 rfl rfl rfl dX4_dropInnermost_37 (fun H locs hW _ => ?_)
  generalize hμ8 : m_si μ4 (39) 1 x7 = μ8 at hW
  have hI := hI.si1 hμ8 rfl (by omega) hS14
  exact m_vret hx hb hr hlocks hW (⟨hI, ⟨by rw [show μ8.1 37 1 = x3 from by rw [← hμ8, ← hμ4]; first | rfl | exact if_pos ⟨rfl, rfl⟩]; omega, by rw [show μ8.1 38 = μ4.1 38 from by rw [← hμ8]; exact m_si_row (by decide), show μ4.1 38 = μ.1 38 from by rw [← hμ4]; exact m_si_row (by decide)]⟩⟩) dX4_dropInnermost_40
set_option maxHeartbeats 4000000 in
set_option maxRecDepth 100000 in
theorem g_X4_dropInnermost_e (l : Launch) (D : va_G) (cy : Nat → ClassId) (b : Nat) (S : Nat → Bool) (μ0 : mM) (hS13 : S 13 = true) (hS14 : S 14 = true) (μ : mM) (hI : IY S μ0 μ) : m_Cv l yX4_dropInnermost cX4_dropInnermost 1 (none) 1 D cy b LAY μ [.ref (b + 27)] (fun ν => IY S μ0 ν ∧ (True)) := by
  unfold m_Cv
  refine m_of (by decide) (Nat.le_of_ble_eq_true rfl) ?_
  intro p e s m below meth c hx hb hr hml hown hts hlocks _ hW ls hl
  have hown : s.vm.findClass RX4 = some m.cls := hown
  have hl : lv_has ls 1 [(0, .ref (b + 27))] := hl
  refine lv_aload_n hx hb dX4_dropInnermost_0 rfl (lv_at hl 0 rfl) ?_
  refine m_getr hx hb hts hown hW (27) 6 (37) rfl rfl cw_4 rfl (by decide) k_X4_40 dX4_dropInnermost_1 ?_
  refine lv_iconst (v := 0) hx hb dX4_dropInnermost_4 (by decide) ?_
  refine lv_aload_n hx hb dX4_dropInnermost_5 rfl (lv_at hl 0 rfl) ?_
  refine m_getr hx hb hts hown hW (27) 6 (37) rfl rfl cw_4 rfl (by decide) k_X4_40 dX4_dropInnermost_6 ?_
  refine m_geti hx hb hts hown hW (37) 1 rfl rfl cw_5 rfl (by decide) k_X4_50 dX4_dropInnermost_9 ?_
  refine lv_topi (fun x1 ex1 => ?_)
  have bx1 : 0 ≤ x1.toInt ∧ x1.toInt ≤ 4 := by rw [ex1]; exact hI.1 _ _ _ _ rfl
  refine lv_iconst (v := 1) hx hb dX4_dropInnermost_12 (by decide) ?_
  refine lv_isub hx hb dX4_dropInnermost_13 ?_
  refine lv_topi (fun x2 ex2 => ?_)
  have tx2 : x2.toInt = x1.toInt - 1 := m_subI ex2 (rfl : x1.toInt = _) (by decide : (1 : Int32).toInt = 1) (by omega) (by omega)
  refine va_mmax hx hb (hml.trans hl.1.symm) hown (hts _ k_X4_111) (hts _ kM_max_s) (hts _ kM_n) (hts _ kM_max_c) (Nat.le_of_ble_eq_true rfl) (Nat.le_of_ble_eq_true rfl) (Nat.le_of_ble_eq_true rfl) (Nat.le_of_ble_eq_true rfl) dX4_dropInnermost_14 ?_
  refine lv_topi (fun x3 ex3 => ?_)
  have tx3 : x3.toInt = max (0) (x2.toInt) := m_max ex3 (by decide : (0 : Int32).toInt = 0) (rfl : x2.toInt = _)
  refine m_puti hx hb hts hown hW (37) 1 rfl rfl cw_5 tyX5_ok nmX5 rfl (by decide) k_X4_50 rfl rfl rfl dX4_dropInnermost_17 (fun H locs hW _ => ?_)
  generalize hμ4 : m_si μ (37) 1 x3 = μ4 at hW
  have hI := hI.si1 hμ4 rfl (by omega) hS13
  refine lv_aload_n hx hb dX4_dropInnermost_20 rfl (lv_at hl 0 rfl) ?_
  refine m_getr hx hb hts hown hW (27) 7 (39) rfl rfl cw_4 rfl (by decide) k_X4_43 dX4_dropInnermost_21 ?_
  refine lv_iconst (v := 0) hx hb dX4_dropInnermost_24 (by decide) ?_
  refine lv_aload_n hx hb dX4_dropInnermost_25 rfl (lv_at hl 0 rfl) ?_
  refine m_getr hx hb hts hown hW (27) 7 (39) rfl rfl cw_4 rfl (by decide) k_X4_43 dX4_dropInnermost_26 ?_
  refine m_geti hx hb hts hown hW (39) 1 rfl rfl cw_5 rfl (by decide) k_X4_50 dX4_dropInnermost_29 ?_
  refine lv_topi (fun x5 ex5 => ?_)
  have bx5 : 0 ≤ x5.toInt ∧ x5.toInt ≤ 4 := by rw [ex5]; exact hI.1 _ _ _ _ rfl
  refine lv_iconst (v := 1) hx hb dX4_dropInnermost_32 (by decide) ?_
  refine lv_isub hx hb dX4_dropInnermost_33 ?_
  refine lv_topi (fun x6 ex6 => ?_)
  have tx6 : x6.toInt = x5.toInt - 1 := m_subI ex6 (rfl : x5.toInt = _) (by decide : (1 : Int32).toInt = 1) (by omega) (by omega)
  refine va_mmax hx hb (hml.trans hl.1.symm) hown (hts _ k_X4_111) (hts _ kM_max_s) (hts _ kM_n) (hts _ kM_max_c) (Nat.le_of_ble_eq_true rfl) (Nat.le_of_ble_eq_true rfl) (Nat.le_of_ble_eq_true rfl) (Nat.le_of_ble_eq_true rfl) dX4_dropInnermost_34 ?_
  refine lv_topi (fun x7 ex7 => ?_)
  have tx7 : x7.toInt = max (0) (x6.toInt) := m_max ex7 (by decide : (0 : Int32).toInt = 0) (rfl : x6.toInt = _)
  refine m_puti hx hb hts hown hW (39) 1 rfl rfl cw_5 tyX5_ok nmX5 rfl (by decide) k_X4_50 rfl rfl rfl dX4_dropInnermost_37 (fun H locs hW _ => ?_)
  generalize hμ8 : m_si μ4 (39) 1 x7 = μ8 at hW
  have hI := hI.si1 hμ8 rfl (by omega) hS14
  exact m_vret hx hb hr hlocks hW (⟨hI, trivial⟩) dX4_dropInnermost_40
set_option maxHeartbeats 4000000 in
set_option maxRecDepth 100000 in
theorem L_X4_closeStep_o_2 {p : Program} {l : Launch} {e : Env} {s : State} {m : MethodId} {args : Array Value} {below : List Frame} {meth : Method} {c : Code} {D : va_G} {cy : Nat → ClassId} {b : Nat} (hx : p.tables.exec = Jvm.exec) (hb : c.code = cX4_closeStep) (hr : meth.sig.returnType = (none)) (hml : c.maxLocals = 2) (hown : s.vm.findClass RX4 = some m.cls) (hts : ∀ w ∈ TB, w.before args s = true) (hlocks : meth.locks = false) (S : Nat → Bool) (μ0 : mM) (hS5 : S 5 = true) (hS12 : S 12 = true) (hS13 : S 13 = true) (hS14 : S 14 = true) (fT : Nat → Int32) (n cn gi : Nat) (sl : List Bool) : ∀ (f : Nat), ∀ (y1 : Int32) (gs : List Bool) (hy : 0 ≤ y1.toInt ∧ y1.toInt ≤ 4 ∧ y1.toInt + gs.length ≤ 4) (hf : 4 - y1.toInt < (f : Int)) (μ : mM) (hI : IY S μ0 μ) (hxt : m_XT μ fT n cn) (hxs : m_XS μ fT n cn gi) (hso : m_SO μ gs) (hpp : a_pop gs = a_pop sl) (H : Heap) (locs : List Loc), m_WA (m_A b LAY) D cy s b LAY μ H locs → ∀ ls : Array Slot, lv_has ls 2 [(0, .ref (b + 27)), (1, .int y1)] → W p l e (m_R 3 0 0) s m args below meth c H locs 0 0 (MQ below (m_Qv D cy b LAY (fun ν => IY S μ0 ν ∧ ((∃ j, a_close (t_K fT n) (t_L fT n) sl gi = .inr (j, a_pop sl) ∧ m_XS ν fT n cn j ∧ m_SO ν (a_pop sl)) ∨ (∃ e, a_close (t_K fT n) (t_L fT n) sl gi = .inl e ∧ m_XE ν e)))) args s 0 0 (m_A b LAY)) (F0 m 2 ls []) := by
  intro f
  induction f with
  | zero => intro y1 gs hy hf; exfalso; omega
  | succ f ih =>
    intro y1 gs hy hf μ hI hxt hxs hso hpp H locs hW ls hl
    obtain ⟨xs1, xs2, xs3, xs4, xs5⟩ := hxs
    obtain ⟨cu, hcu⟩ : ∃ z, μ.1 27 4 = z := ⟨_, rfl⟩
    rw [hcu] at xs2
    obtain ⟨tk, htk⟩ : ∃ z, μ.1 27 5 = z := ⟨_, rfl⟩
    rw [htk] at xs3
    have hc4 : cn ≤ 400 := by have := hxt.1.2.2; have := hxt.2.2.2.2; omega
    have hln : y1.toInt + gs.length ≤ 4 := by omega
    refine lv_iload_n hx hb dX4_closeStep_2 rfl (lv_at hl 1 rfl) ?_
    refine lv_iconst (v := 4) hx hb dX4_closeStep_3 (by decide) ?_
    refine lv_icmp_ge (tgt := 56) hx hb dX4_closeStep_4 (by decide) (fun c1 => ?_) (fun c1 => ?_)
    · have i1 := m_c3 (by decide : (4 : Int32).toInt = 4) (rfl : y1.toInt = _) c1
      obtain ⟨x2, hx2⟩ : ∃ z, μ.1 37 1 = z := ⟨_, rfl⟩
      have bx2 : 0 ≤ x2.toInt ∧ x2.toInt ≤ 4 := by rw [← hx2]; exact hI.1 _ _ _ _ rfl
      have hpo : a_pop gs = gs := by
        have := hso.len (nv := x2) (by exact hx2) (by omega)
        cases hgs : gs with
        | nil => rfl
        | cons b t => rw [hgs] at hln; simp only [List.length_cons] at hln; omega
      have hso : m_SO μ (a_pop sl) := by rw [← hpp, hpo]; exact hso
      refine lv_aload_n hx hb dX4_closeStep_56 rfl (lv_at hl 0 rfl) ?_
      refine lv_iconst (v := 3) hx hb dX4_closeStep_57 (by decide) ?_
      have l_3 : (3 : Int32).toInt = 3 := by decide
      refine m_aV hW (m_runV (As := [.int 3]) (rest := []) hx hb hml hown hts hW (27) (g_X4_expect_o l D cy b (fun g => [5].contains g) μ rfl fT n cn gi 3 (by omega) μ (IY.rf hI.1) hxt ⟨by exact xs1, by rw [show μ.1 27 4 = cu from by exact hcu]; omega, by rw [show μ.1 27 5 = tk from by exact htk]; omega, by omega, by exact xs5⟩) mi_X4_expect k_X4_108 rfl rfl rfl hl.1 rfl (Nat.le_of_ble_eq_true rfl) dX4_closeStep_58 ⟨Nat.le_of_ble_eq_true rfl, Nat.le_of_ble_eq_true rfl⟩ ⟨Nat.le_of_ble_eq_true rfl, Nat.le_of_ble_eq_true rfl⟩) (fun μ3 H locs q3 hW => ?_)
      obtain ⟨hJ3, q3⟩ := q3
      have hI := hI.tr hJ3 (m_subL (by simp [hS5]))
      have hxt : m_XT μ3 fT n cn := hxt.fr hJ3 rfl rfl rfl
      have hso : m_SO μ3 (a_pop sl) := hso.fr hJ3 rfl
      rw [show (3 : Int32).toInt = 3 from by decide] at q3
      rcases q3 with ⟨j4, ha4, hxs4⟩ | ⟨e4, ha4, hxe4⟩
      · obtain ⟨xa5, xb5, xc5, xd5, xf5⟩ := hxs4
        obtain ⟨cu5, hcu5⟩ : ∃ z, μ3.1 27 4 = z := ⟨_, rfl⟩
        rw [hcu5] at xb5
        obtain ⟨tk5, htk5⟩ : ∃ z, μ3.1 27 5 = z := ⟨_, rfl⟩
        rw [htk5] at xc5
        exact m_vret hx hb hr hlocks hW (⟨hI, Or.inl ⟨j4, (by simp only [a_close, a_b, ha4]), ⟨by rw [show μ3.1 27 1 = 0 from by exact xa5], by rw [show μ3.1 27 4 = cu5 from by exact hcu5]; omega, by rw [show μ3.1 27 5 = tk5 from by exact htk5]; omega, by omega, by rw [show μ3.1 27 2 = (-1) from by exact xf5]⟩, hso⟩⟩) dX4_closeStep_61
      · obtain ⟨xa6, xb6, xc6, xd6⟩ := hxe4
        obtain ⟨ef6, hef6⟩ : ∃ z, μ3.1 27 1 = z := ⟨_, rfl⟩
        rw [hef6] at xa6
        obtain ⟨ep6, hep6⟩ : ∃ z, μ3.1 27 2 = z := ⟨_, rfl⟩
        rw [hep6] at xc6
        exact m_vret hx hb hr hlocks hW (⟨hI, Or.inr ⟨e4, (by simp only [a_close, a_b, ha4]), ⟨by rw [show μ3.1 27 1 = ef6 from by exact hef6]; exact xa6, xb6, by rw [show μ3.1 27 2 = ep6 from by exact hep6]; exact xc6, by rw [show μ3.1 27 5 = 0 from by exact xd6]⟩⟩⟩) dX4_closeStep_61
    · have i1 := m_c4 (by decide : (4 : Int32).toInt = 4) (rfl : y1.toInt = _) c1
      refine lv_aload_n hx hb dX4_closeStep_7 rfl (lv_at hl 0 rfl) ?_
      refine m_aI hW (m_runV (As := []) (rest := []) hx hb hml hown hts hW (27) (g_X4_innermost_o l D cy b gs μ hI.1 hso) mi_X4_innermost k_X4_67 rfl rfl rfl hl.1 rfl (Nat.le_of_ble_eq_true rfl) dX4_closeStep_8 ⟨Nat.le_of_ble_eq_true rfl, Nat.le_of_ble_eq_true rfl⟩ ⟨Nat.le_of_ble_eq_true rfl, Nat.le_of_ble_eq_true rfl⟩) (fun x7 μ7 H locs q7 hW => ?_)
      obtain ⟨q7_m, q7⟩ := q7
      subst q7_m
      rcases q7 with ⟨hst8, q7⟩ | ⟨t8, hst8, q7⟩ | ⟨t8, hst8, q7⟩
      · refine lv_bipush (v := 16) hx hb dX4_closeStep_11 (by decide) ?_
        refine lv_icmp_ne (tgt := 56) hx hb dX4_closeStep_13 (by decide) (fun c9 => ?_) (fun c9 => ?_)
        · have i9 := m_c6 (rfl : x7.toInt = _) (by decide : (16 : Int32).toInt = 16) c9
          have hpo : a_pop gs = gs := by
            rw [hst8]; rfl
          have hso : m_SO μ (a_pop sl) := by rw [← hpp, hpo]; exact hso
          refine lv_aload_n hx hb dX4_closeStep_56 rfl (lv_at hl 0 rfl) ?_
          refine lv_iconst (v := 3) hx hb dX4_closeStep_57 (by decide) ?_
          have l_3 : (3 : Int32).toInt = 3 := by decide
          refine m_aV hW (m_runV (As := [.int 3]) (rest := []) hx hb hml hown hts hW (27) (g_X4_expect_o l D cy b (fun g => [5].contains g) μ rfl fT n cn gi 3 (by omega) μ (IY.rf hI.1) hxt ⟨by exact xs1, by rw [show μ.1 27 4 = cu from by exact hcu]; omega, by rw [show μ.1 27 5 = tk from by exact htk]; omega, by omega, by exact xs5⟩) mi_X4_expect k_X4_108 rfl rfl rfl hl.1 rfl (Nat.le_of_ble_eq_true rfl) dX4_closeStep_58 ⟨Nat.le_of_ble_eq_true rfl, Nat.le_of_ble_eq_true rfl⟩ ⟨Nat.le_of_ble_eq_true rfl, Nat.le_of_ble_eq_true rfl⟩) (fun μ10 H locs q10 hW => ?_)
          obtain ⟨hJ10, q10⟩ := q10
          have hI := hI.tr hJ10 (m_subL (by simp [hS5]))
          have hxt : m_XT μ10 fT n cn := hxt.fr hJ10 rfl rfl rfl
          have hso : m_SO μ10 (a_pop sl) := hso.fr hJ10 rfl
          rw [show (3 : Int32).toInt = 3 from by decide] at q10
          rcases q10 with ⟨j11, ha11, hxs11⟩ | ⟨e11, ha11, hxe11⟩
          · obtain ⟨xa12, xb12, xc12, xd12, xf12⟩ := hxs11
            obtain ⟨cu12, hcu12⟩ : ∃ z, μ10.1 27 4 = z := ⟨_, rfl⟩
            rw [hcu12] at xb12
            obtain ⟨tk12, htk12⟩ : ∃ z, μ10.1 27 5 = z := ⟨_, rfl⟩
            rw [htk12] at xc12
            exact m_vret hx hb hr hlocks hW (⟨hI, Or.inl ⟨j11, (by simp only [a_close, a_b, ha11]), ⟨by rw [show μ10.1 27 1 = 0 from by exact xa12], by rw [show μ10.1 27 4 = cu12 from by exact hcu12]; omega, by rw [show μ10.1 27 5 = tk12 from by exact htk12]; omega, by omega, by rw [show μ10.1 27 2 = (-1) from by exact xf12]⟩, hso⟩⟩) dX4_closeStep_61
          · obtain ⟨xa13, xb13, xc13, xd13⟩ := hxe11
            obtain ⟨ef13, hef13⟩ : ∃ z, μ10.1 27 1 = z := ⟨_, rfl⟩
            rw [hef13] at xa13
            obtain ⟨ep13, hep13⟩ : ∃ z, μ10.1 27 2 = z := ⟨_, rfl⟩
            rw [hep13] at xc13
            exact m_vret hx hb hr hlocks hW (⟨hI, Or.inr ⟨e11, (by simp only [a_close, a_b, ha11]), ⟨by rw [show μ10.1 27 1 = ef13 from by exact hef13]; exact xa13, xb13, by rw [show μ10.1 27 2 = ep13 from by exact hep13]; exact xc13, by rw [show μ10.1 27 5 = 0 from by exact xd13]⟩⟩⟩) dX4_closeStep_61
        · have i9 := m_c5 (rfl : x7.toInt = _) (by decide : (16 : Int32).toInt = 16) c9
          exfalso; omega
      · refine lv_bipush (v := 16) hx hb dX4_closeStep_11 (by decide) ?_
        refine lv_icmp_ne (tgt := 56) hx hb dX4_closeStep_13 (by decide) (fun c14 => ?_) (fun c14 => ?_)
        · have i14 := m_c6 (rfl : x7.toInt = _) (by decide : (16 : Int32).toInt = 16) c14
          have hpo : a_pop gs = gs := by
            rw [hst8]; rfl
          have hso : m_SO μ (a_pop sl) := by rw [← hpp, hpo]; exact hso
          refine lv_aload_n hx hb dX4_closeStep_56 rfl (lv_at hl 0 rfl) ?_
          refine lv_iconst (v := 3) hx hb dX4_closeStep_57 (by decide) ?_
          have l_3 : (3 : Int32).toInt = 3 := by decide
          refine m_aV hW (m_runV (As := [.int 3]) (rest := []) hx hb hml hown hts hW (27) (g_X4_expect_o l D cy b (fun g => [5].contains g) μ rfl fT n cn gi 3 (by omega) μ (IY.rf hI.1) hxt ⟨by exact xs1, by rw [show μ.1 27 4 = cu from by exact hcu]; omega, by rw [show μ.1 27 5 = tk from by exact htk]; omega, by omega, by exact xs5⟩) mi_X4_expect k_X4_108 rfl rfl rfl hl.1 rfl (Nat.le_of_ble_eq_true rfl) dX4_closeStep_58 ⟨Nat.le_of_ble_eq_true rfl, Nat.le_of_ble_eq_true rfl⟩ ⟨Nat.le_of_ble_eq_true rfl, Nat.le_of_ble_eq_true rfl⟩) (fun μ15 H locs q15 hW => ?_)
          obtain ⟨hJ15, q15⟩ := q15
          have hI := hI.tr hJ15 (m_subL (by simp [hS5]))
          have hxt : m_XT μ15 fT n cn := hxt.fr hJ15 rfl rfl rfl
          have hso : m_SO μ15 (a_pop sl) := hso.fr hJ15 rfl
          rw [show (3 : Int32).toInt = 3 from by decide] at q15
          rcases q15 with ⟨j16, ha16, hxs16⟩ | ⟨e16, ha16, hxe16⟩
          · obtain ⟨xa17, xb17, xc17, xd17, xf17⟩ := hxs16
            obtain ⟨cu17, hcu17⟩ : ∃ z, μ15.1 27 4 = z := ⟨_, rfl⟩
            rw [hcu17] at xb17
            obtain ⟨tk17, htk17⟩ : ∃ z, μ15.1 27 5 = z := ⟨_, rfl⟩
            rw [htk17] at xc17
            exact m_vret hx hb hr hlocks hW (⟨hI, Or.inl ⟨j16, (by simp only [a_close, a_b, ha16]), ⟨by rw [show μ15.1 27 1 = 0 from by exact xa17], by rw [show μ15.1 27 4 = cu17 from by exact hcu17]; omega, by rw [show μ15.1 27 5 = tk17 from by exact htk17]; omega, by omega, by rw [show μ15.1 27 2 = (-1) from by exact xf17]⟩, hso⟩⟩) dX4_closeStep_61
          · obtain ⟨xa18, xb18, xc18, xd18⟩ := hxe16
            obtain ⟨ef18, hef18⟩ : ∃ z, μ15.1 27 1 = z := ⟨_, rfl⟩
            rw [hef18] at xa18
            obtain ⟨ep18, hep18⟩ : ∃ z, μ15.1 27 2 = z := ⟨_, rfl⟩
            rw [hep18] at xc18
            exact m_vret hx hb hr hlocks hW (⟨hI, Or.inr ⟨e16, (by simp only [a_close, a_b, ha16]), ⟨by rw [show μ15.1 27 1 = ef18 from by exact hef18]; exact xa18, xb18, by rw [show μ15.1 27 2 = ep18 from by exact hep18]; exact xc18, by rw [show μ15.1 27 5 = 0 from by exact xd18]⟩⟩⟩) dX4_closeStep_61
        · have i14 := m_c5 (rfl : x7.toInt = _) (by decide : (16 : Int32).toInt = 16) c14
          exfalso; omega
      · refine lv_bipush (v := 16) hx hb dX4_closeStep_11 (by decide) ?_
        refine lv_icmp_ne (tgt := 56) hx hb dX4_closeStep_13 (by decide) (fun c19 => ?_) (fun c19 => ?_)
        · have i19 := m_c6 (rfl : x7.toInt = _) (by decide : (16 : Int32).toInt = 16) c19
          exfalso; omega
        · have i19 := m_c5 (rfl : x7.toInt = _) (by decide : (16 : Int32).toInt = 16) c19
          refine lv_aload_n hx hb dX4_closeStep_16 rfl (lv_at hl 0 rfl) ?_
          refine m_getr hx hb hts hown hW (27) 0 (28) rfl rfl cw_4 rfl (by decide) k_X4_16 dX4_closeStep_17 ?_
          refine lv_aload_n hx hb dX4_closeStep_20 rfl (lv_at hl 0 rfl) ?_
          refine m_getr hx hb hts hown hW (27) 7 (39) rfl rfl cw_4 rfl (by decide) k_X4_43 dX4_closeStep_21 ?_
          refine lv_aload_n hx hb dX4_closeStep_24 rfl (lv_at hl 0 rfl) ?_
          refine m_getr hx hb hts hown hW (27) 7 (39) rfl rfl cw_4 rfl (by decide) k_X4_43 dX4_closeStep_25 ?_
          refine m_geti hx hb hts hown hW (39) 1 rfl rfl cw_5 rfl (by decide) k_X4_50 dX4_closeStep_28 ?_
          refine lv_topi (fun x20 ex20 => ?_)
          have bx20 : 0 ≤ x20.toInt ∧ x20.toInt ≤ 4 := by rw [ex20]; exact hI.1 _ _ _ _ rfl
          refine lv_iconst (v := 1) hx hb dX4_closeStep_31 (by decide) ?_
          refine lv_isub hx hb dX4_closeStep_32 ?_
          refine lv_topi (fun x21 ex21 => ?_)
          have tx21 : x21.toInt = x20.toInt - 1 := m_subI ex21 (rfl : x20.toInt = _) (by decide : (1 : Int32).toInt = 1) (by omega) (by omega)
          refine m_aI hW (m_runV (As := [.int x21]) (rest := [.ref (b + 28)]) hx hb hml hown hts hW (39) (g_X5_at l D cy b 39 40 4 rfl rfl (by decide) rfl (fun _ => rfl) x21 μ hI.1) mi_X5_at k_X4_56 rfl rfl rfl hl.1 rfl (Nat.le_of_ble_eq_true rfl) dX4_closeStep_33 ⟨Nat.le_of_ble_eq_true rfl, Nat.le_of_ble_eq_true rfl⟩ ⟨Nat.le_of_ble_eq_true rfl, Nat.le_of_ble_eq_true rfl⟩) (fun x22 μ22 H locs q22 hW => ?_)
          obtain ⟨q22_m, q22⟩ := q22
          subst q22_m
          refine lv_aload_n hx hb dX4_closeStep_36 rfl (lv_at hl 0 rfl) ?_
          refine m_getr hx hb hts hown hW (27) 0 (28) rfl rfl cw_4 rfl (by decide) k_X4_16 dX4_closeStep_37 ?_
          refine m_geti hx hb hts hown hW (28) 1 rfl rfl cw_5 rfl (by decide) k_X4_50 dX4_closeStep_40 ?_
          refine lv_topi (fun x23 ex23 => ?_)
          have bx23 : 0 ≤ x23.toInt ∧ x23.toInt ≤ 800 := by rw [ex23]; exact hI.1 _ _ _ _ rfl
          refine m_aV hW (m_runV (As := [.int x22, .int x23]) (rest := []) hx hb hml hown hts hW (28) (g_X5_put_28 l D cy b (fun g => [12].contains g) μ rfl x22 x23 μ (IY.rf hI.1)) mi_X5_put k_X4_102 rfl rfl rfl hl.1 rfl (Nat.le_of_ble_eq_true rfl) dX4_closeStep_43 ⟨Nat.le_of_ble_eq_true rfl, Nat.le_of_ble_eq_true rfl⟩ ⟨Nat.le_of_ble_eq_true rfl, Nat.le_of_ble_eq_true rfl⟩) (fun μ24 H locs q24 hW => ?_)
          obtain ⟨hJ24, q24⟩ := q24
          have hI := hI.tr hJ24 (m_subL (by simp [hS12]))
          have hxt : m_XT μ24 fT n cn := hxt.fr hJ24 rfl rfl rfl
          have hso : m_SO μ24 gs := hso.fr hJ24 rfl
          refine lv_aload_n hx hb dX4_closeStep_46 rfl (lv_at hl 0 rfl) ?_
          obtain ⟨x25, hx25⟩ : ∃ z, μ24.1 37 1 = z := ⟨_, rfl⟩
          have bx25 : 0 ≤ x25.toInt ∧ x25.toInt ≤ 4 := by rw [← hx25]; exact hI.1 _ _ _ _ rfl
          refine m_aV hW (m_runV (As := []) (rest := []) hx hb hml hown hts hW (27) (g_X4_dropInnermost_o l D cy b (fun g => [13, 14].contains g) μ24 rfl rfl x25 (by omega) μ24 (IY.rf hI.1) (by exact hx25)) mi_X4_dropInnermost k_X4_105 rfl rfl rfl hl.1 rfl (Nat.le_of_ble_eq_true rfl) dX4_closeStep_47 ⟨Nat.le_of_ble_eq_true rfl, Nat.le_of_ble_eq_true rfl⟩ ⟨Nat.le_of_ble_eq_true rfl, Nat.le_of_ble_eq_true rfl⟩) (fun μ26 H locs q26 hW => ?_)
          obtain ⟨hJ26, q26⟩ := q26
          have hI := hI.tr hJ26 (m_subL (by simp [hS13, hS14]))
          have hxt : m_XT μ26 fT n cn := hxt.fr hJ26 rfl rfl rfl
          have hso : m_SO μ26 t8 := (show m_SO μ24 (false :: t8) from by rw [← hst8]; exact hso).pop (nv := x25) (by exact hx25) q26.1 q26.2 (by omega)
          have q26 := q26.1
          obtain ⟨x27, hx27⟩ : ∃ z, μ26.1 37 1 = z := ⟨_, rfl⟩
          have bx27 : 0 ≤ x27.toInt ∧ x27.toInt ≤ 4 := by rw [← hx27]; exact hI.1 _ _ _ _ rfl
          rw [show μ26.1 37 1 = x27 from by exact hx27] at q26
          obtain ⟨x28, ex28⟩ : ∃ z : Int32, z = y1 + 1 := ⟨_, rfl⟩
          refine lv_iinc (v := x28) (lv' := [(1, .int x28), (0, .ref (b + 27))]) hx hb dX4_closeStep_50 hl (k := 1) rfl (by rw [ex28]; rfl) (by decide) rfl (fun ls hl => ?_)
          have tx28 : x28.toInt = y1.toInt + 1 := m_addI ex28 (rfl : y1.toInt = _) (by decide : (1 : Int32).toInt = 1) (by omega) (by omega)
          refine lv_goto (tgt := 2) hx hb dX4_closeStep_53 (by decide) ?_
          have hl0 : gs.length = t8.length + 1 := by rw [hst8]; rfl
          exact ih x28 t8 (by omega) (by omega) μ26 hI (hxt) (⟨by rw [show μ26.1 27 1 = 0 from by exact ((hJ26.2.1 27 1 rfl).trans (by exact ((hJ24.2.1 27 1 rfl).trans (by exact xs1))))], by rw [show μ26.1 27 4 = cu from by exact ((hJ26.2.1 27 4 rfl).trans (by exact ((hJ24.2.1 27 4 rfl).trans (by exact hcu))))]; omega, by rw [show μ26.1 27 5 = tk from by exact ((hJ26.2.1 27 5 rfl).trans (by exact ((hJ24.2.1 27 5 rfl).trans (by exact htk))))]; omega, by omega, by rw [show μ26.1 27 2 = (-1) from by exact ((hJ26.2.1 27 2 rfl).trans (by exact ((hJ24.2.1 27 2 rfl).trans (by exact xs5))))]⟩) (hso) ((by rw [← hpp, hst8]; rfl)) _ _ hW ls (lv_sub hl [1, 0] rfl)
set_option maxHeartbeats 4000000 in
set_option maxRecDepth 100000 in
theorem g_X4_closeStep_o (l : Launch) (D : va_G) (cy : Nat → ClassId) (b : Nat) (S : Nat → Bool) (μ0 : mM) (hS5 : S 5 = true) (hS12 : S 12 = true) (hS13 : S 13 = true) (hS14 : S 14 = true) (fT : Nat → Int32) (n cn gi : Nat) (sl : List Bool) (μ : mM) (hI : IY S μ0 μ) (hxt : m_XT μ fT n cn) (hxs : m_XS μ fT n cn gi) (hso : m_SO μ sl) : m_Cv l yX4_closeStep cX4_closeStep 2 (none) 3 D cy b LAY μ [.ref (b + 27)] (fun ν => IY S μ0 ν ∧ ((∃ j, a_close (t_K fT n) (t_L fT n) sl gi = .inr (j, a_pop sl) ∧ m_XS ν fT n cn j ∧ m_SO ν (a_pop sl)) ∨ (∃ e, a_close (t_K fT n) (t_L fT n) sl gi = .inl e ∧ m_XE ν e))) := by
  unfold m_Cv
  refine m_of (by decide) (Nat.le_of_ble_eq_true rfl) ?_
  intro p e s m below meth c hx hb hr hml hown hts hlocks _ hW ls hl
  have hown : s.vm.findClass RX4 = some m.cls := hown
  have hl : lv_has ls 2 [(0, .ref (b + 27))] := hl
  obtain ⟨xs1, xs2, xs3, xs4, xs5⟩ := hxs
  obtain ⟨cu, hcu⟩ : ∃ z, μ.1 27 4 = z := ⟨_, rfl⟩
  rw [hcu] at xs2
  obtain ⟨tk, htk⟩ : ∃ z, μ.1 27 5 = z := ⟨_, rfl⟩
  rw [htk] at xs3
  have hc4 : cn ≤ 400 := by have := hxt.1.2.2; have := hxt.2.2.2.2; omega
  refine lv_iconst (v := 0) hx hb dX4_closeStep_0 (by decide) ?_
  refine lv_istore_n (lv' := [(1, .int 0), (0, .ref (b + 27))]) hx hb dX4_closeStep_1 rfl hl (by decide) rfl (fun ls hl => ?_)
  have l_0 : (0 : Int32).toInt = 0 := by decide
  obtain ⟨x1, hx1⟩ : ∃ z, μ.1 37 1 = z := ⟨_, rfl⟩
  have bx1 : 0 ≤ x1.toInt ∧ x1.toInt ≤ 4 := by rw [← hx1]; exact hI.1 _ _ _ _ rfl
  have hl0 := hso.len (nv := x1) (by exact hx1) (by omega)
  exact L_X4_closeStep_o_2 hx hb hr hml hown hts hlocks S μ0 hS5 hS12 hS13 hS14 fT n cn gi sl  5 0 sl (by omega) (by omega) μ hI (hxt) (⟨by rw [show μ.1 27 1 = 0 from by exact xs1], by rw [show μ.1 27 4 = cu from by exact hcu]; omega, by rw [show μ.1 27 5 = tk from by exact htk]; omega, by omega, by rw [show μ.1 27 2 = (-1) from by exact xs5]⟩) (hso) (rfl) _ _ hW ls (lv_sub hl [1, 0] rfl)
set_option maxHeartbeats 4000000 in
set_option maxRecDepth 100000 in
theorem L_X4_closeStep_e_2 {p : Program} {l : Launch} {e : Env} {s : State} {m : MethodId} {args : Array Value} {below : List Frame} {meth : Method} {c : Code} {D : va_G} {cy : Nat → ClassId} {b : Nat} (hx : p.tables.exec = Jvm.exec) (hb : c.code = cX4_closeStep) (hr : meth.sig.returnType = (none)) (hml : c.maxLocals = 2) (hown : s.vm.findClass RX4 = some m.cls) (hts : ∀ w ∈ TB, w.before args s = true) (hlocks : meth.locks = false) (S : Nat → Bool) (μ0 : mM) (hS5 : S 5 = true) (hS12 : S 12 = true) (hS13 : S 13 = true) (hS14 : S 14 = true) (ef ep : Int32) (h_ef : ef.toInt ≠ 0) : ∀ (f : Nat), ∀ (y1 : Int32) (hy : 0 ≤ y1.toInt ∧ y1.toInt ≤ 4) (hf : 4 - y1.toInt < (f : Int)) (μ : mM) (hI : IY S μ0 μ) (he1 : μ.1 27 1 = ef) (he2 : μ.1 27 2 = ep) (he5 : μ.1 27 5 = 0) (H : Heap) (locs : List Loc), m_WA (m_A b LAY) D cy s b LAY μ H locs → ∀ ls : Array Slot, lv_has ls 2 [(0, .ref (b + 27)), (1, .int y1)] → W p l e (m_R 3 0 0) s m args below meth c H locs 0 0 (MQ below (m_Qv D cy b LAY (fun ν => IY S μ0 ν ∧ (ν.1 27 1 = ef ∧ ν.1 27 2 = ep ∧ ν.1 27 5 = 0))) args s 0 0 (m_A b LAY)) (F0 m 2 ls []) := by
  intro f
  induction f with
  | zero => intro y1 hy hf; exfalso; omega
  | succ f ih =>
    intro y1 hy hf μ hI he1 he2 he5 H locs hW ls hl
    refine lv_iload_n hx hb dX4_closeStep_2 rfl (lv_at hl 1 rfl) ?_
    refine lv_iconst (v := 4) hx hb dX4_closeStep_3 (by decide) ?_
    refine lv_icmp_ge (tgt := 56) hx hb dX4_closeStep_4 (by decide) (fun c1 => ?_) (fun c1 => ?_)
    · have i1 := m_c3 (by decide : (4 : Int32).toInt = 4) (rfl : y1.toInt = _) c1
      refine lv_aload_n hx hb dX4_closeStep_56 rfl (lv_at hl 0 rfl) ?_
      refine lv_iconst (v := 3) hx hb dX4_closeStep_57 (by decide) ?_
      have l_3 : (3 : Int32).toInt = 3 := by decide
      refine m_aV hW (m_runV (As := [.int 3]) (rest := []) hx hb hml hown hts hW (27) (g_X4_expect_e l D cy b S μ0 hS5 ef ep (by omega) 3 (by omega) μ hI (by exact he1) (by exact he2) (by exact he5)) mi_X4_expect k_X4_108 rfl rfl rfl hl.1 rfl (Nat.le_of_ble_eq_true rfl) dX4_closeStep_58 ⟨Nat.le_of_ble_eq_true rfl, Nat.le_of_ble_eq_true rfl⟩ ⟨Nat.le_of_ble_eq_true rfl, Nat.le_of_ble_eq_true rfl⟩) (fun μ2 H locs q2 hW => ?_)
      obtain ⟨hI, q2⟩ := q2
      obtain ⟨q2a, q2b, q2c⟩ := q2
      exact m_vret hx hb hr hlocks hW (⟨hI, ⟨by rw [show μ2.1 27 1 = ef from by exact q2a], by rw [show μ2.1 27 2 = ep from by exact q2b], by rw [show μ2.1 27 5 = 0 from by exact q2c]⟩⟩) dX4_closeStep_61
    · have i1 := m_c4 (by decide : (4 : Int32).toInt = 4) (rfl : y1.toInt = _) c1
      refine lv_aload_n hx hb dX4_closeStep_7 rfl (lv_at hl 0 rfl) ?_
      refine m_aI hW (m_runV (As := []) (rest := []) hx hb hml hown hts hW (27) (g_X4_innermost l D cy b μ hI.1) mi_X4_innermost k_X4_67 rfl rfl rfl hl.1 rfl (Nat.le_of_ble_eq_true rfl) dX4_closeStep_8 ⟨Nat.le_of_ble_eq_true rfl, Nat.le_of_ble_eq_true rfl⟩ ⟨Nat.le_of_ble_eq_true rfl, Nat.le_of_ble_eq_true rfl⟩) (fun x3 μ3 H locs q3 hW => ?_)
      obtain ⟨q3_m, q3⟩ := q3
      subst q3_m
      refine lv_bipush (v := 16) hx hb dX4_closeStep_11 (by decide) ?_
      refine lv_icmp_ne (tgt := 56) hx hb dX4_closeStep_13 (by decide) (fun c4 => ?_) (fun c4 => ?_)
      · have i4 := m_c6 (rfl : x3.toInt = _) (by decide : (16 : Int32).toInt = 16) c4
        refine lv_aload_n hx hb dX4_closeStep_56 rfl (lv_at hl 0 rfl) ?_
        refine lv_iconst (v := 3) hx hb dX4_closeStep_57 (by decide) ?_
        have l_3 : (3 : Int32).toInt = 3 := by decide
        refine m_aV hW (m_runV (As := [.int 3]) (rest := []) hx hb hml hown hts hW (27) (g_X4_expect_e l D cy b S μ0 hS5 ef ep (by omega) 3 (by omega) μ hI (by exact he1) (by exact he2) (by exact he5)) mi_X4_expect k_X4_108 rfl rfl rfl hl.1 rfl (Nat.le_of_ble_eq_true rfl) dX4_closeStep_58 ⟨Nat.le_of_ble_eq_true rfl, Nat.le_of_ble_eq_true rfl⟩ ⟨Nat.le_of_ble_eq_true rfl, Nat.le_of_ble_eq_true rfl⟩) (fun μ5 H locs q5 hW => ?_)
        obtain ⟨hI, q5⟩ := q5
        obtain ⟨q5a, q5b, q5c⟩ := q5
        exact m_vret hx hb hr hlocks hW (⟨hI, ⟨by rw [show μ5.1 27 1 = ef from by exact q5a], by rw [show μ5.1 27 2 = ep from by exact q5b], by rw [show μ5.1 27 5 = 0 from by exact q5c]⟩⟩) dX4_closeStep_61
      · have i4 := m_c5 (rfl : x3.toInt = _) (by decide : (16 : Int32).toInt = 16) c4
        refine lv_aload_n hx hb dX4_closeStep_16 rfl (lv_at hl 0 rfl) ?_
        refine m_getr hx hb hts hown hW (27) 0 (28) rfl rfl cw_4 rfl (by decide) k_X4_16 dX4_closeStep_17 ?_
        refine lv_aload_n hx hb dX4_closeStep_20 rfl (lv_at hl 0 rfl) ?_
        refine m_getr hx hb hts hown hW (27) 7 (39) rfl rfl cw_4 rfl (by decide) k_X4_43 dX4_closeStep_21 ?_
        refine lv_aload_n hx hb dX4_closeStep_24 rfl (lv_at hl 0 rfl) ?_
        refine m_getr hx hb hts hown hW (27) 7 (39) rfl rfl cw_4 rfl (by decide) k_X4_43 dX4_closeStep_25 ?_
        refine m_geti hx hb hts hown hW (39) 1 rfl rfl cw_5 rfl (by decide) k_X4_50 dX4_closeStep_28 ?_
        refine lv_topi (fun x6 ex6 => ?_)
        have bx6 : 0 ≤ x6.toInt ∧ x6.toInt ≤ 4 := by rw [ex6]; exact hI.1 _ _ _ _ rfl
        refine lv_iconst (v := 1) hx hb dX4_closeStep_31 (by decide) ?_
        refine lv_isub hx hb dX4_closeStep_32 ?_
        refine lv_topi (fun x7 ex7 => ?_)
        have tx7 : x7.toInt = x6.toInt - 1 := m_subI ex7 (rfl : x6.toInt = _) (by decide : (1 : Int32).toInt = 1) (by omega) (by omega)
        refine m_aI hW (m_runV (As := [.int x7]) (rest := [.ref (b + 28)]) hx hb hml hown hts hW (39) (g_X5_at l D cy b 39 40 4 rfl rfl (by decide) rfl (fun _ => rfl) x7 μ hI.1) mi_X5_at k_X4_56 rfl rfl rfl hl.1 rfl (Nat.le_of_ble_eq_true rfl) dX4_closeStep_33 ⟨Nat.le_of_ble_eq_true rfl, Nat.le_of_ble_eq_true rfl⟩ ⟨Nat.le_of_ble_eq_true rfl, Nat.le_of_ble_eq_true rfl⟩) (fun x8 μ8 H locs q8 hW => ?_)
        obtain ⟨q8_m, q8⟩ := q8
        subst q8_m
        refine lv_aload_n hx hb dX4_closeStep_36 rfl (lv_at hl 0 rfl) ?_
        refine m_getr hx hb hts hown hW (27) 0 (28) rfl rfl cw_4 rfl (by decide) k_X4_16 dX4_closeStep_37 ?_
        refine m_geti hx hb hts hown hW (28) 1 rfl rfl cw_5 rfl (by decide) k_X4_50 dX4_closeStep_40 ?_
        refine lv_topi (fun x9 ex9 => ?_)
        have bx9 : 0 ≤ x9.toInt ∧ x9.toInt ≤ 800 := by rw [ex9]; exact hI.1 _ _ _ _ rfl
        refine m_aV hW (m_runV (As := [.int x8, .int x9]) (rest := []) hx hb hml hown hts hW (28) (g_X5_put_28 l D cy b (fun g => [12].contains g) μ rfl x8 x9 μ (IY.rf hI.1)) mi_X5_put k_X4_102 rfl rfl rfl hl.1 rfl (Nat.le_of_ble_eq_true rfl) dX4_closeStep_43 ⟨Nat.le_of_ble_eq_true rfl, Nat.le_of_ble_eq_true rfl⟩ ⟨Nat.le_of_ble_eq_true rfl, Nat.le_of_ble_eq_true rfl⟩) (fun μ10 H locs q10 hW => ?_)
        obtain ⟨hJ10, q10⟩ := q10
        have hI := hI.tr hJ10 (m_subL (by simp [hS12]))
        refine lv_aload_n hx hb dX4_closeStep_46 rfl (lv_at hl 0 rfl) ?_
        refine m_aV hW (m_runV (As := []) (rest := []) hx hb hml hown hts hW (27) (g_X4_dropInnermost_e l D cy b (fun g => [13, 14].contains g) μ10 rfl rfl μ10 (IY.rf hI.1)) mi_X4_dropInnermost k_X4_105 rfl rfl rfl hl.1 rfl (Nat.le_of_ble_eq_true rfl) dX4_closeStep_47 ⟨Nat.le_of_ble_eq_true rfl, Nat.le_of_ble_eq_true rfl⟩ ⟨Nat.le_of_ble_eq_true rfl, Nat.le_of_ble_eq_true rfl⟩) (fun μ11 H locs q11 hW => ?_)
        obtain ⟨hJ11, q11⟩ := q11
        have hI := hI.tr hJ11 (m_subL (by simp [hS13, hS14]))
        obtain ⟨x12, ex12⟩ : ∃ z : Int32, z = y1 + 1 := ⟨_, rfl⟩
        refine lv_iinc (v := x12) (lv' := [(1, .int x12), (0, .ref (b + 27))]) hx hb dX4_closeStep_50 hl (k := 1) rfl (by rw [ex12]; rfl) (by decide) rfl (fun ls hl => ?_)
        have tx12 : x12.toInt = y1.toInt + 1 := m_addI ex12 (rfl : y1.toInt = _) (by decide : (1 : Int32).toInt = 1) (by omega) (by omega)
        refine lv_goto (tgt := 2) hx hb dX4_closeStep_53 (by decide) ?_
        exact ih x12 (by omega) (by omega) μ11 hI (by exact ((hJ11.2.1 27 1 rfl).trans (by exact ((hJ10.2.1 27 1 rfl).trans (by exact he1))))) (by exact ((hJ11.2.1 27 2 rfl).trans (by exact ((hJ10.2.1 27 2 rfl).trans (by exact he2))))) (by exact ((hJ11.2.1 27 5 rfl).trans (by exact ((hJ10.2.1 27 5 rfl).trans (by exact he5))))) _ _ hW ls (lv_sub hl [1, 0] rfl)
set_option maxHeartbeats 4000000 in
set_option maxRecDepth 100000 in
theorem g_X4_closeStep_e (l : Launch) (D : va_G) (cy : Nat → ClassId) (b : Nat) (S : Nat → Bool) (μ0 : mM) (hS5 : S 5 = true) (hS12 : S 12 = true) (hS13 : S 13 = true) (hS14 : S 14 = true) (ef ep : Int32) (h_ef : ef.toInt ≠ 0) (μ : mM) (hI : IY S μ0 μ) (he1 : μ.1 27 1 = ef) (he2 : μ.1 27 2 = ep) (he5 : μ.1 27 5 = 0) : m_Cv l yX4_closeStep cX4_closeStep 2 (none) 3 D cy b LAY μ [.ref (b + 27)] (fun ν => IY S μ0 ν ∧ (ν.1 27 1 = ef ∧ ν.1 27 2 = ep ∧ ν.1 27 5 = 0)) := by
  unfold m_Cv
  refine m_of (by decide) (Nat.le_of_ble_eq_true rfl) ?_
  intro p e s m below meth c hx hb hr hml hown hts hlocks _ hW ls hl
  have hown : s.vm.findClass RX4 = some m.cls := hown
  have hl : lv_has ls 2 [(0, .ref (b + 27))] := hl
  refine lv_iconst (v := 0) hx hb dX4_closeStep_0 (by decide) ?_
  refine lv_istore_n (lv' := [(1, .int 0), (0, .ref (b + 27))]) hx hb dX4_closeStep_1 rfl hl (by decide) rfl (fun ls hl => ?_)
  have l_0 : (0 : Int32).toInt = 0 := by decide
  exact L_X4_closeStep_e_2 hx hb hr hml hown hts hlocks S μ0 hS5 hS12 hS13 hS14 ef ep h_ef  5 0 (by omega) (by omega) μ hI (by exact he1) (by exact he2) (by exact he5) _ _ hW ls (lv_sub hl [1, 0] rfl)
set_option maxHeartbeats 4000000 in
set_option maxRecDepth 100000 in
theorem g_X4_openAgain_o (l : Launch) (D : va_G) (cy : Nat → ClassId) (b : Nat) (S : Nat → Bool) (μ0 : mM) (hS5 : S 5 = true) (hS12 : S 12 = true) (hS13 : S 13 = true) (hS14 : S 14 = true) (fT : Nat → Int32) (n cn gi : Nat) (sl : List Bool) (μ : mM) (hI : IY S μ0 μ) (hxt : m_XT μ fT n cn) (hxs : m_XS μ fT n cn gi) (hso : m_SO μ sl) (hs3 : sl.length ≤ 3) : m_Cv l yX4_openAgain cX4_openAgain 1 (none) 3 D cy b LAY μ [.ref (b + 27)] (fun ν => IY S μ0 ν ∧ ((∃ j, a_b (a_N (t_K fT n) (t_L fT n) (t_V fT n) 1 99 gi) (a_k (t_K fT n) (t_L fT n) 17 17) = .inr j ∧ m_XS ν fT n cn j ∧ m_SO ν (true :: sl)) ∨ (∃ e, a_b (a_N (t_K fT n) (t_L fT n) (t_V fT n) 1 99 gi) (a_k (t_K fT n) (t_L fT n) 17 17) = .inl e ∧ m_XE ν e))) := by
  unfold m_Cv
  refine m_of (by decide) (Nat.le_of_ble_eq_true rfl) ?_
  intro p e s m below meth c hx hb hr hml hown hts hlocks _ hW ls hl
  have hown : s.vm.findClass RX4 = some m.cls := hown
  have hl : lv_has ls 1 [(0, .ref (b + 27))] := hl
  obtain ⟨xs1, xs2, xs3, xs4, xs5⟩ := hxs
  obtain ⟨cu, hcu⟩ : ∃ z, μ.1 27 4 = z := ⟨_, rfl⟩
  rw [hcu] at xs2
  obtain ⟨tk, htk⟩ : ∃ z, μ.1 27 5 = z := ⟨_, rfl⟩
  rw [htk] at xs3
  have hc4 : cn ≤ 400 := by have := hxt.1.2.2; have := hxt.2.2.2.2; omega
  refine lv_aload_n hx hb dX4_openAgain_0 rfl (lv_at hl 0 rfl) ?_
  refine lv_iconst (v := 1) hx hb dX4_openAgain_1 (by decide) ?_
  refine lv_bipush (v := 99) hx hb dX4_openAgain_2 (by decide) ?_
  have l_1 : (1 : Int32).toInt = 1 := by decide
  have l_99 : (99 : Int32).toInt = 99 := by decide
  refine m_aV hW (m_runV (As := [.int 1, .int 99]) (rest := []) hx hb hml hown hts hW (27) (g_X4_readNumber_o l D cy b (fun g => [5, 12].contains g) μ rfl rfl fT n cn gi 1 99 μ (IY.rf hI.1) hxt ⟨by exact xs1, by rw [show μ.1 27 4 = cu from by exact hcu]; omega, by rw [show μ.1 27 5 = tk from by exact htk]; omega, by omega, by exact xs5⟩) mi_X4_readNumber k_X4_86 rfl rfl rfl hl.1 rfl (Nat.le_of_ble_eq_true rfl) dX4_openAgain_4 ⟨Nat.le_of_ble_eq_true rfl, Nat.le_of_ble_eq_true rfl⟩ ⟨Nat.le_of_ble_eq_true rfl, Nat.le_of_ble_eq_true rfl⟩) (fun μ1 H locs q1 hW => ?_)
  obtain ⟨hJ1, q1⟩ := q1
  have hI := hI.tr hJ1 (m_subL (by simp [hS5, hS12]))
  have hxt : m_XT μ1 fT n cn := hxt.fr hJ1 rfl rfl rfl
  have hso : m_SO μ1 sl := hso.fr hJ1 rfl
  rw [show (1 : Int32).toInt = 1 from by decide, show (99 : Int32).toInt = 99 from by decide] at q1
  rcases q1 with ⟨j2, ha2, hxs2⟩ | ⟨e2, ha2, hxe2⟩
  · obtain ⟨xa3, xb3, xc3, xd3, xf3⟩ := hxs2
    obtain ⟨cu3, hcu3⟩ : ∃ z, μ1.1 27 4 = z := ⟨_, rfl⟩
    rw [hcu3] at xb3
    obtain ⟨tk3, htk3⟩ : ∃ z, μ1.1 27 5 = z := ⟨_, rfl⟩
    rw [htk3] at xc3
    obtain ⟨x4, hx4⟩ : ∃ z, μ1.1 37 1 = z := ⟨_, rfl⟩
    have bx4 : 0 ≤ x4.toInt ∧ x4.toInt ≤ 4 := by rw [← hx4]; exact hI.1 _ _ _ _ rfl
    have hln0 := hso.len (nv := x4) (by exact hx4) (by omega)
    refine lv_aload_n hx hb dX4_openAgain_7 rfl (lv_at hl 0 rfl) ?_
    refine m_getr hx hb hts hown hW (27) 6 (37) rfl rfl cw_4 rfl (by decide) k_X4_40 dX4_openAgain_8 ?_
    refine lv_bipush (v := 15) hx hb dX4_openAgain_11 (by decide) ?_
    have l_15 : (15 : Int32).toInt = 15 := by decide
    refine m_aV hW (m_runV (As := [.int 15]) (rest := []) hx hb hml hown hts hW (37) (g_X5_add_o l D cy b (fun g => [13].contains g) μ1 rfl x4 (by omega) 15 μ1 (IY.rf hI.1) (by exact hx4)) mi_X5_add k_X4_83 rfl rfl rfl hl.1 rfl (Nat.le_of_ble_eq_true rfl) dX4_openAgain_13 ⟨Nat.le_of_ble_eq_true rfl, Nat.le_of_ble_eq_true rfl⟩ ⟨Nat.le_of_ble_eq_true rfl, Nat.le_of_ble_eq_true rfl⟩) (fun μ5 H locs q5 hW => ?_)
    obtain ⟨hJ5, q5⟩ := q5
    have hI := hI.tr hJ5 (m_subL (by simp [hS13]))
    have hxt : m_XT μ5 fT n cn := hxt.fr hJ5 rfl rfl rfl
    obtain ⟨q5, q5r⟩ := q5
    obtain ⟨x6, hx6⟩ : ∃ z, μ5.1 37 1 = z := ⟨_, rfl⟩
    have bx6 : 0 ≤ x6.toInt ∧ x6.toInt ≤ 4 := by rw [← hx6]; exact hI.1 _ _ _ _ rfl
    rw [show μ5.1 37 1 = x6 from by exact hx6] at q5
    have hso : m_SO μ5 (true :: sl) := hso.push (nv := x4) (b := true) (by exact hx4) (by omega) (by rw [show μ5.1 37 1 = x6 from by exact hx6]; omega) q5r rfl
    refine lv_aload_n hx hb dX4_openAgain_16 rfl (lv_at hl 0 rfl) ?_
    refine m_getr hx hb hts hown hW (27) 0 (28) rfl rfl cw_4 rfl (by decide) k_X4_16 dX4_openAgain_17 ?_
    refine lv_aload_n hx hb dX4_openAgain_20 rfl (lv_at hl 0 rfl) ?_
    refine m_getr hx hb hts hown hW (27) 6 (37) rfl rfl cw_4 rfl (by decide) k_X4_40 dX4_openAgain_21 ?_
    refine m_geti hx hb hts hown hW (37) 1 rfl rfl cw_5 rfl (by decide) k_X4_50 dX4_openAgain_24 ?_
    refine lv_topi (fun x7 ex7 => ?_)
    have ex7 : x7 = x6 := by rw [ex7]; exact hx6
    have ex7 := ex7.symm
    subst ex7
    refine m_aV hW (m_runV (As := [.int x6]) (rest := []) hx hb hml hown hts hW (28) (g_X5_add_28 l D cy b (fun g => [12].contains g) μ5 rfl x6 μ5 (IY.rf hI.1)) mi_X5_add k_X4_83 rfl rfl rfl hl.1 rfl (Nat.le_of_ble_eq_true rfl) dX4_openAgain_27 ⟨Nat.le_of_ble_eq_true rfl, Nat.le_of_ble_eq_true rfl⟩ ⟨Nat.le_of_ble_eq_true rfl, Nat.le_of_ble_eq_true rfl⟩) (fun μ8 H locs q8 hW => ?_)
    obtain ⟨hJ8, q8⟩ := q8
    have hI := hI.tr hJ8 (m_subL (by simp [hS12]))
    have hxt : m_XT μ8 fT n cn := hxt.fr hJ8 rfl rfl rfl
    have hso : m_SO μ8 (true :: sl) := hso.fr hJ8 rfl
    refine lv_aload_n hx hb dX4_openAgain_30 rfl (lv_at hl 0 rfl) ?_
    refine lv_bipush (v := 17) hx hb dX4_openAgain_31 (by decide) ?_
    have l_17 : (17 : Int32).toInt = 17 := by decide
    refine m_aV hW (m_runV (As := [.int 17]) (rest := []) hx hb hml hown hts hW (27) (g_X4_expect_o l D cy b (fun g => [5].contains g) μ8 rfl fT n cn j2 17 (by omega) μ8 (IY.rf hI.1) hxt ⟨by exact ((hJ8.2.1 27 1 rfl).trans (by exact ((hJ5.2.1 27 1 rfl).trans (by exact xa3)))), by rw [show μ8.1 27 4 = cu3 from by exact ((hJ8.2.1 27 4 rfl).trans (by exact ((hJ5.2.1 27 4 rfl).trans (by exact hcu3))))]; omega, by rw [show μ8.1 27 5 = tk3 from by exact ((hJ8.2.1 27 5 rfl).trans (by exact ((hJ5.2.1 27 5 rfl).trans (by exact htk3))))]; omega, by omega, by exact ((hJ8.2.1 27 2 rfl).trans (by exact ((hJ5.2.1 27 2 rfl).trans (by exact xf3))))⟩) mi_X4_expect k_X4_108 rfl rfl rfl hl.1 rfl (Nat.le_of_ble_eq_true rfl) dX4_openAgain_33 ⟨Nat.le_of_ble_eq_true rfl, Nat.le_of_ble_eq_true rfl⟩ ⟨Nat.le_of_ble_eq_true rfl, Nat.le_of_ble_eq_true rfl⟩) (fun μ9 H locs q9 hW => ?_)
    obtain ⟨hJ9, q9⟩ := q9
    have hI := hI.tr hJ9 (m_subL (by simp [hS5]))
    have hxt : m_XT μ9 fT n cn := hxt.fr hJ9 rfl rfl rfl
    have hso : m_SO μ9 (true :: sl) := hso.fr hJ9 rfl
    rw [show (17 : Int32).toInt = 17 from by decide] at q9
    rcases q9 with ⟨j10, ha10, hxs10⟩ | ⟨e10, ha10, hxe10⟩
    · obtain ⟨xa11, xb11, xc11, xd11, xf11⟩ := hxs10
      obtain ⟨cu11, hcu11⟩ : ∃ z, μ9.1 27 4 = z := ⟨_, rfl⟩
      rw [hcu11] at xb11
      obtain ⟨tk11, htk11⟩ : ∃ z, μ9.1 27 5 = z := ⟨_, rfl⟩
      rw [htk11] at xc11
      refine lv_aload_n hx hb dX4_openAgain_36 rfl (lv_at hl 0 rfl) ?_
      refine m_getr hx hb hts hown hW (27) 7 (39) rfl rfl cw_4 rfl (by decide) k_X4_43 dX4_openAgain_37 ?_
      refine lv_aload_n hx hb dX4_openAgain_40 rfl (lv_at hl 0 rfl) ?_
      refine m_getr hx hb hts hown hW (27) 0 (28) rfl rfl cw_4 rfl (by decide) k_X4_16 dX4_openAgain_41 ?_
      refine m_geti hx hb hts hown hW (28) 1 rfl rfl cw_5 rfl (by decide) k_X4_50 dX4_openAgain_44 ?_
      refine lv_topi (fun x12 ex12 => ?_)
      have bx12 : 0 ≤ x12.toInt ∧ x12.toInt ≤ 800 := by rw [ex12]; exact hI.1 _ _ _ _ rfl
      refine m_aV hW (m_runV (As := [.int x12]) (rest := []) hx hb hml hown hts hW (39) (g_X5_add_39 l D cy b (fun g => [14].contains g) μ9 rfl x12 μ9 (IY.rf hI.1)) mi_X5_add k_X4_83 rfl rfl rfl hl.1 rfl (Nat.le_of_ble_eq_true rfl) dX4_openAgain_47 ⟨Nat.le_of_ble_eq_true rfl, Nat.le_of_ble_eq_true rfl⟩ ⟨Nat.le_of_ble_eq_true rfl, Nat.le_of_ble_eq_true rfl⟩) (fun μ13 H locs q13 hW => ?_)
      obtain ⟨hJ13, q13⟩ := q13
      have hI := hI.tr hJ13 (m_subL (by simp [hS14]))
      have hxt : m_XT μ13 fT n cn := hxt.fr hJ13 rfl rfl rfl
      have hso : m_SO μ13 (true :: sl) := hso.fr hJ13 rfl
      exact m_vret hx hb hr hlocks hW (⟨hI, Or.inl ⟨j10, (by simp only [a_b, ha2, ha10]), ⟨by rw [show μ13.1 27 1 = 0 from by exact ((hJ13.2.1 27 1 rfl).trans (by exact xa11))], by rw [show μ13.1 27 4 = cu11 from by exact ((hJ13.2.1 27 4 rfl).trans (by exact hcu11))]; omega, by rw [show μ13.1 27 5 = tk11 from by exact ((hJ13.2.1 27 5 rfl).trans (by exact htk11))]; omega, by omega, by rw [show μ13.1 27 2 = (-1) from by exact ((hJ13.2.1 27 2 rfl).trans (by exact xf11))]⟩, hso⟩⟩) dX4_openAgain_50
    · obtain ⟨xa14, xb14, xc14, xd14⟩ := hxe10
      obtain ⟨ef14, hef14⟩ : ∃ z, μ9.1 27 1 = z := ⟨_, rfl⟩
      rw [hef14] at xa14
      obtain ⟨ep14, hep14⟩ : ∃ z, μ9.1 27 2 = z := ⟨_, rfl⟩
      rw [hep14] at xc14
      refine lv_aload_n hx hb dX4_openAgain_36 rfl (lv_at hl 0 rfl) ?_
      refine m_getr hx hb hts hown hW (27) 7 (39) rfl rfl cw_4 rfl (by decide) k_X4_43 dX4_openAgain_37 ?_
      refine lv_aload_n hx hb dX4_openAgain_40 rfl (lv_at hl 0 rfl) ?_
      refine m_getr hx hb hts hown hW (27) 0 (28) rfl rfl cw_4 rfl (by decide) k_X4_16 dX4_openAgain_41 ?_
      refine m_geti hx hb hts hown hW (28) 1 rfl rfl cw_5 rfl (by decide) k_X4_50 dX4_openAgain_44 ?_
      refine lv_topi (fun x15 ex15 => ?_)
      have bx15 : 0 ≤ x15.toInt ∧ x15.toInt ≤ 800 := by rw [ex15]; exact hI.1 _ _ _ _ rfl
      refine m_aV hW (m_runV (As := [.int x15]) (rest := []) hx hb hml hown hts hW (39) (g_X5_add_39 l D cy b (fun g => [14].contains g) μ9 rfl x15 μ9 (IY.rf hI.1)) mi_X5_add k_X4_83 rfl rfl rfl hl.1 rfl (Nat.le_of_ble_eq_true rfl) dX4_openAgain_47 ⟨Nat.le_of_ble_eq_true rfl, Nat.le_of_ble_eq_true rfl⟩ ⟨Nat.le_of_ble_eq_true rfl, Nat.le_of_ble_eq_true rfl⟩) (fun μ16 H locs q16 hW => ?_)
      obtain ⟨hJ16, q16⟩ := q16
      have hI := hI.tr hJ16 (m_subL (by simp [hS14]))
      exact m_vret hx hb hr hlocks hW (⟨hI, Or.inr ⟨e10, (by simp only [a_b, ha2, ha10]), ⟨by rw [show μ16.1 27 1 = ef14 from by exact ((hJ16.2.1 27 1 rfl).trans (by exact hef14))]; exact xa14, xb14, by rw [show μ16.1 27 2 = ep14 from by exact ((hJ16.2.1 27 2 rfl).trans (by exact hep14))]; exact xc14, by rw [show μ16.1 27 5 = 0 from by exact ((hJ16.2.1 27 5 rfl).trans (by exact xd14))]⟩⟩⟩) dX4_openAgain_50
  · obtain ⟨xa17, xb17, xc17, xd17⟩ := hxe2
    obtain ⟨ef17, hef17⟩ : ∃ z, μ1.1 27 1 = z := ⟨_, rfl⟩
    rw [hef17] at xa17
    obtain ⟨ep17, hep17⟩ : ∃ z, μ1.1 27 2 = z := ⟨_, rfl⟩
    rw [hep17] at xc17
    refine lv_aload_n hx hb dX4_openAgain_7 rfl (lv_at hl 0 rfl) ?_
    refine m_getr hx hb hts hown hW (27) 6 (37) rfl rfl cw_4 rfl (by decide) k_X4_40 dX4_openAgain_8 ?_
    refine lv_bipush (v := 15) hx hb dX4_openAgain_11 (by decide) ?_
    have l_15 : (15 : Int32).toInt = 15 := by decide
    refine m_aV hW (m_runV (As := [.int 15]) (rest := []) hx hb hml hown hts hW (37) (g_X5_add_37e l D cy b (fun g => [13].contains g) μ1 rfl 15 μ1 (IY.rf hI.1)) mi_X5_add k_X4_83 rfl rfl rfl hl.1 rfl (Nat.le_of_ble_eq_true rfl) dX4_openAgain_13 ⟨Nat.le_of_ble_eq_true rfl, Nat.le_of_ble_eq_true rfl⟩ ⟨Nat.le_of_ble_eq_true rfl, Nat.le_of_ble_eq_true rfl⟩) (fun μ18 H locs q18 hW => ?_)
    obtain ⟨hJ18, q18⟩ := q18
    have hI := hI.tr hJ18 (m_subL (by simp [hS13]))
    refine lv_aload_n hx hb dX4_openAgain_16 rfl (lv_at hl 0 rfl) ?_
    refine m_getr hx hb hts hown hW (27) 0 (28) rfl rfl cw_4 rfl (by decide) k_X4_16 dX4_openAgain_17 ?_
    refine lv_aload_n hx hb dX4_openAgain_20 rfl (lv_at hl 0 rfl) ?_
    refine m_getr hx hb hts hown hW (27) 6 (37) rfl rfl cw_4 rfl (by decide) k_X4_40 dX4_openAgain_21 ?_
    refine m_geti hx hb hts hown hW (37) 1 rfl rfl cw_5 rfl (by decide) k_X4_50 dX4_openAgain_24 ?_
    refine lv_topi (fun x19 ex19 => ?_)
    have bx19 : 0 ≤ x19.toInt ∧ x19.toInt ≤ 4 := by rw [ex19]; exact hI.1 _ _ _ _ rfl
    refine m_aV hW (m_runV (As := [.int x19]) (rest := []) hx hb hml hown hts hW (28) (g_X5_add_28 l D cy b (fun g => [12].contains g) μ18 rfl x19 μ18 (IY.rf hI.1)) mi_X5_add k_X4_83 rfl rfl rfl hl.1 rfl (Nat.le_of_ble_eq_true rfl) dX4_openAgain_27 ⟨Nat.le_of_ble_eq_true rfl, Nat.le_of_ble_eq_true rfl⟩ ⟨Nat.le_of_ble_eq_true rfl, Nat.le_of_ble_eq_true rfl⟩) (fun μ20 H locs q20 hW => ?_)
    obtain ⟨hJ20, q20⟩ := q20
    have hI := hI.tr hJ20 (m_subL (by simp [hS12]))
    refine lv_aload_n hx hb dX4_openAgain_30 rfl (lv_at hl 0 rfl) ?_
    refine lv_bipush (v := 17) hx hb dX4_openAgain_31 (by decide) ?_
    have l_17 : (17 : Int32).toInt = 17 := by decide
    refine m_aV hW (m_runV (As := [.int 17]) (rest := []) hx hb hml hown hts hW (27) (g_X4_expect_e l D cy b (fun g => [5].contains g) μ20 rfl ef17 ep17 (by omega) 17 (by omega) μ20 (IY.rf hI.1) (by exact ((hJ20.2.1 27 1 rfl).trans (by exact ((hJ18.2.1 27 1 rfl).trans (by exact hef17))))) (by exact ((hJ20.2.1 27 2 rfl).trans (by exact ((hJ18.2.1 27 2 rfl).trans (by exact hep17))))) (by exact ((hJ20.2.1 27 5 rfl).trans (by exact ((hJ18.2.1 27 5 rfl).trans (by exact xd17)))))) mi_X4_expect k_X4_108 rfl rfl rfl hl.1 rfl (Nat.le_of_ble_eq_true rfl) dX4_openAgain_33 ⟨Nat.le_of_ble_eq_true rfl, Nat.le_of_ble_eq_true rfl⟩ ⟨Nat.le_of_ble_eq_true rfl, Nat.le_of_ble_eq_true rfl⟩) (fun μ21 H locs q21 hW => ?_)
    obtain ⟨hJ21, q21⟩ := q21
    have hI := hI.tr hJ21 (m_subL (by simp [hS5]))
    obtain ⟨q21a, q21b, q21c⟩ := q21
    refine lv_aload_n hx hb dX4_openAgain_36 rfl (lv_at hl 0 rfl) ?_
    refine m_getr hx hb hts hown hW (27) 7 (39) rfl rfl cw_4 rfl (by decide) k_X4_43 dX4_openAgain_37 ?_
    refine lv_aload_n hx hb dX4_openAgain_40 rfl (lv_at hl 0 rfl) ?_
    refine m_getr hx hb hts hown hW (27) 0 (28) rfl rfl cw_4 rfl (by decide) k_X4_16 dX4_openAgain_41 ?_
    refine m_geti hx hb hts hown hW (28) 1 rfl rfl cw_5 rfl (by decide) k_X4_50 dX4_openAgain_44 ?_
    refine lv_topi (fun x22 ex22 => ?_)
    have bx22 : 0 ≤ x22.toInt ∧ x22.toInt ≤ 800 := by rw [ex22]; exact hI.1 _ _ _ _ rfl
    refine m_aV hW (m_runV (As := [.int x22]) (rest := []) hx hb hml hown hts hW (39) (g_X5_add_39 l D cy b (fun g => [14].contains g) μ21 rfl x22 μ21 (IY.rf hI.1)) mi_X5_add k_X4_83 rfl rfl rfl hl.1 rfl (Nat.le_of_ble_eq_true rfl) dX4_openAgain_47 ⟨Nat.le_of_ble_eq_true rfl, Nat.le_of_ble_eq_true rfl⟩ ⟨Nat.le_of_ble_eq_true rfl, Nat.le_of_ble_eq_true rfl⟩) (fun μ23 H locs q23 hW => ?_)
    obtain ⟨hJ23, q23⟩ := q23
    have hI := hI.tr hJ23 (m_subL (by simp [hS14]))
    exact m_vret hx hb hr hlocks hW (⟨hI, Or.inr ⟨e2, (by simp only [a_b, ha2]), ⟨by rw [show μ23.1 27 1 = ef17 from by exact ((hJ23.2.1 27 1 rfl).trans (by exact q21a))]; exact xa17, xb17, by rw [show μ23.1 27 2 = ep17 from by exact ((hJ23.2.1 27 2 rfl).trans (by exact q21b))]; exact xc17, by rw [show μ23.1 27 5 = 0 from by exact ((hJ23.2.1 27 5 rfl).trans (by exact q21c))]⟩⟩⟩) dX4_openAgain_50
set_option maxHeartbeats 4000000 in
set_option maxRecDepth 100000 in
theorem g_X4_openAgain_e (l : Launch) (D : va_G) (cy : Nat → ClassId) (b : Nat) (S : Nat → Bool) (μ0 : mM) (hS5 : S 5 = true) (hS12 : S 12 = true) (hS13 : S 13 = true) (hS14 : S 14 = true) (ef ep : Int32) (h_ef : ef.toInt ≠ 0) (μ : mM) (hI : IY S μ0 μ) (he1 : μ.1 27 1 = ef) (he2 : μ.1 27 2 = ep) (he5 : μ.1 27 5 = 0) : m_Cv l yX4_openAgain cX4_openAgain 1 (none) 3 D cy b LAY μ [.ref (b + 27)] (fun ν => IY S μ0 ν ∧ (ν.1 27 1 = ef ∧ ν.1 27 2 = ep ∧ ν.1 27 5 = 0)) := by
  unfold m_Cv
  refine m_of (by decide) (Nat.le_of_ble_eq_true rfl) ?_
  intro p e s m below meth c hx hb hr hml hown hts hlocks _ hW ls hl
  have hown : s.vm.findClass RX4 = some m.cls := hown
  have hl : lv_has ls 1 [(0, .ref (b + 27))] := hl
  refine lv_aload_n hx hb dX4_openAgain_0 rfl (lv_at hl 0 rfl) ?_
  refine lv_iconst (v := 1) hx hb dX4_openAgain_1 (by decide) ?_
  refine lv_bipush (v := 99) hx hb dX4_openAgain_2 (by decide) ?_
  have l_1 : (1 : Int32).toInt = 1 := by decide
  have l_99 : (99 : Int32).toInt = 99 := by decide
  refine m_aV hW (m_runV (As := [.int 1, .int 99]) (rest := []) hx hb hml hown hts hW (27) (g_X4_readNumber_e l D cy b S μ0 hS5 hS12 ef ep (by omega) 1 99 μ hI (by exact he1) (by exact he2) (by exact he5)) mi_X4_readNumber k_X4_86 rfl rfl rfl hl.1 rfl (Nat.le_of_ble_eq_true rfl) dX4_openAgain_4 ⟨Nat.le_of_ble_eq_true rfl, Nat.le_of_ble_eq_true rfl⟩ ⟨Nat.le_of_ble_eq_true rfl, Nat.le_of_ble_eq_true rfl⟩) (fun μ1 H locs q1 hW => ?_)
  obtain ⟨hI, q1⟩ := q1
  obtain ⟨q1a, q1b, q1c⟩ := q1
  refine lv_aload_n hx hb dX4_openAgain_7 rfl (lv_at hl 0 rfl) ?_
  refine m_getr hx hb hts hown hW (27) 6 (37) rfl rfl cw_4 rfl (by decide) k_X4_40 dX4_openAgain_8 ?_
  refine lv_bipush (v := 15) hx hb dX4_openAgain_11 (by decide) ?_
  have l_15 : (15 : Int32).toInt = 15 := by decide
  refine m_aV hW (m_runV (As := [.int 15]) (rest := []) hx hb hml hown hts hW (37) (g_X5_add_37e l D cy b (fun g => [13].contains g) μ1 rfl 15 μ1 (IY.rf hI.1)) mi_X5_add k_X4_83 rfl rfl rfl hl.1 rfl (Nat.le_of_ble_eq_true rfl) dX4_openAgain_13 ⟨Nat.le_of_ble_eq_true rfl, Nat.le_of_ble_eq_true rfl⟩ ⟨Nat.le_of_ble_eq_true rfl, Nat.le_of_ble_eq_true rfl⟩) (fun μ2 H locs q2 hW => ?_)
  obtain ⟨hJ2, q2⟩ := q2
  have hI := hI.tr hJ2 (m_subL (by simp [hS13]))
  refine lv_aload_n hx hb dX4_openAgain_16 rfl (lv_at hl 0 rfl) ?_
  refine m_getr hx hb hts hown hW (27) 0 (28) rfl rfl cw_4 rfl (by decide) k_X4_16 dX4_openAgain_17 ?_
  refine lv_aload_n hx hb dX4_openAgain_20 rfl (lv_at hl 0 rfl) ?_
  refine m_getr hx hb hts hown hW (27) 6 (37) rfl rfl cw_4 rfl (by decide) k_X4_40 dX4_openAgain_21 ?_
  refine m_geti hx hb hts hown hW (37) 1 rfl rfl cw_5 rfl (by decide) k_X4_50 dX4_openAgain_24 ?_
  refine lv_topi (fun x3 ex3 => ?_)
  have bx3 : 0 ≤ x3.toInt ∧ x3.toInt ≤ 4 := by rw [ex3]; exact hI.1 _ _ _ _ rfl
  refine m_aV hW (m_runV (As := [.int x3]) (rest := []) hx hb hml hown hts hW (28) (g_X5_add_28 l D cy b (fun g => [12].contains g) μ2 rfl x3 μ2 (IY.rf hI.1)) mi_X5_add k_X4_83 rfl rfl rfl hl.1 rfl (Nat.le_of_ble_eq_true rfl) dX4_openAgain_27 ⟨Nat.le_of_ble_eq_true rfl, Nat.le_of_ble_eq_true rfl⟩ ⟨Nat.le_of_ble_eq_true rfl, Nat.le_of_ble_eq_true rfl⟩) (fun μ4 H locs q4 hW => ?_)
  obtain ⟨hJ4, q4⟩ := q4
  have hI := hI.tr hJ4 (m_subL (by simp [hS12]))
  refine lv_aload_n hx hb dX4_openAgain_30 rfl (lv_at hl 0 rfl) ?_
  refine lv_bipush (v := 17) hx hb dX4_openAgain_31 (by decide) ?_
  have l_17 : (17 : Int32).toInt = 17 := by decide
  refine m_aV hW (m_runV (As := [.int 17]) (rest := []) hx hb hml hown hts hW (27) (g_X4_expect_e l D cy b (fun g => [5].contains g) μ4 rfl ef ep (by omega) 17 (by omega) μ4 (IY.rf hI.1) (by exact ((hJ4.2.1 27 1 rfl).trans (by exact ((hJ2.2.1 27 1 rfl).trans (by exact q1a))))) (by exact ((hJ4.2.1 27 2 rfl).trans (by exact ((hJ2.2.1 27 2 rfl).trans (by exact q1b))))) (by exact ((hJ4.2.1 27 5 rfl).trans (by exact ((hJ2.2.1 27 5 rfl).trans (by exact q1c)))))) mi_X4_expect k_X4_108 rfl rfl rfl hl.1 rfl (Nat.le_of_ble_eq_true rfl) dX4_openAgain_33 ⟨Nat.le_of_ble_eq_true rfl, Nat.le_of_ble_eq_true rfl⟩ ⟨Nat.le_of_ble_eq_true rfl, Nat.le_of_ble_eq_true rfl⟩) (fun μ5 H locs q5 hW => ?_)
  obtain ⟨hJ5, q5⟩ := q5
  have hI := hI.tr hJ5 (m_subL (by simp [hS5]))
  obtain ⟨q5a, q5b, q5c⟩ := q5
  refine lv_aload_n hx hb dX4_openAgain_36 rfl (lv_at hl 0 rfl) ?_
  refine m_getr hx hb hts hown hW (27) 7 (39) rfl rfl cw_4 rfl (by decide) k_X4_43 dX4_openAgain_37 ?_
  refine lv_aload_n hx hb dX4_openAgain_40 rfl (lv_at hl 0 rfl) ?_
  refine m_getr hx hb hts hown hW (27) 0 (28) rfl rfl cw_4 rfl (by decide) k_X4_16 dX4_openAgain_41 ?_
  refine m_geti hx hb hts hown hW (28) 1 rfl rfl cw_5 rfl (by decide) k_X4_50 dX4_openAgain_44 ?_
  refine lv_topi (fun x6 ex6 => ?_)
  have bx6 : 0 ≤ x6.toInt ∧ x6.toInt ≤ 800 := by rw [ex6]; exact hI.1 _ _ _ _ rfl
  refine m_aV hW (m_runV (As := [.int x6]) (rest := []) hx hb hml hown hts hW (39) (g_X5_add_39 l D cy b (fun g => [14].contains g) μ5 rfl x6 μ5 (IY.rf hI.1)) mi_X5_add k_X4_83 rfl rfl rfl hl.1 rfl (Nat.le_of_ble_eq_true rfl) dX4_openAgain_47 ⟨Nat.le_of_ble_eq_true rfl, Nat.le_of_ble_eq_true rfl⟩ ⟨Nat.le_of_ble_eq_true rfl, Nat.le_of_ble_eq_true rfl⟩) (fun μ7 H locs q7 hW => ?_)
  obtain ⟨hJ7, q7⟩ := q7
  have hI := hI.tr hJ7 (m_subL (by simp [hS14]))
  exact m_vret hx hb hr hlocks hW (⟨hI, ⟨by rw [show μ7.1 27 1 = ef from by exact ((hJ7.2.1 27 1 rfl).trans (by exact q5a))], by rw [show μ7.1 27 2 = ep from by exact ((hJ7.2.1 27 2 rfl).trans (by exact q5b))], by rw [show μ7.1 27 5 = 0 from by exact ((hJ7.2.1 27 5 rfl).trans (by exact q5c))]⟩⟩) dX4_openAgain_50
set_option maxHeartbeats 4000000 in
set_option maxRecDepth 100000 in
theorem L_X4_openIf_o_27 {p : Program} {l : Launch} {e : Env} {s : State} {m : MethodId} {args : Array Value} {below : List Frame} {meth : Method} {c : Code} {D : va_G} {cy : Nat → ClassId} {b : Nat} (hx : p.tables.exec = Jvm.exec) (hb : c.code = cX4_openIf) (hr : meth.sig.returnType = (none)) (hml : c.maxLocals = 3) (hown : s.vm.findClass RX4 = some m.cls) (hts : ∀ w ∈ TB, w.before args s = true) (hlocks : meth.locks = false) (S : Nat → Bool) (μ0 : mM) (hS5 : S 5 = true) (hS12 : S 12 = true) (hS13 : S 13 = true) (hS14 : S 14 = true) (fT : Nat → Int32) (n cn gi : Nat) (sl : List Bool) : ∀ (f : Nat), ∀ (y1 y2 : Int32) (hy : 0 ≤ y1.toInt ∧ y1.toInt ≤ 800 ∧ 0 ≤ y2.toInt ∧ y2.toInt ≤ 4) (hf : 4 - y2.toInt < (f : Int)) (μ : mM) (hI : IY S μ0 μ) (hxt : m_XT μ fT n cn) (hxs : m_XS μ fT n cn gi) (hso : m_SO μ (false :: sl)) (H : Heap) (locs : List Loc), m_WA (m_A b LAY) D cy s b LAY μ H locs → ∀ ls : Array Slot, lv_has ls 3 [(0, .ref (b + 27)), (1, .int y1), (2, .int y2)] → W p l e (m_R 4 0 0) s m args below meth c H locs 0 0 (MQ below (m_Qv D cy b LAY (fun ν => IY S μ0 ν ∧ ((∃ j, a_b (a_S (t_K fT n) (t_L fT n) gi) (fun j => a_b (a_k (t_K fT n) (t_L fT n) 6 8 j) (a_S (t_K fT n) (t_L fT n))) = .inr j ∧ m_XS ν fT n cn j ∧ m_SO ν (false :: sl)) ∨ (∃ e, a_b (a_S (t_K fT n) (t_L fT n) gi) (fun j => a_b (a_k (t_K fT n) (t_L fT n) 6 8 j) (a_S (t_K fT n) (t_L fT n))) = .inl e ∧ m_XE ν e)))) args s 0 0 (m_A b LAY)) (F0 m 27 ls []) := by
  intro f
  induction f with
  | zero => intro y1 y2 hy hf; exfalso; omega
  | succ f ih =>
    intro y1 y2 hy hf μ hI hxt hxs hso H locs hW ls hl
    obtain ⟨xs1, xs2, xs3, xs4, xs5⟩ := hxs
    obtain ⟨cu, hcu⟩ : ∃ z, μ.1 27 4 = z := ⟨_, rfl⟩
    rw [hcu] at xs2
    obtain ⟨tk, htk⟩ : ∃ z, μ.1 27 5 = z := ⟨_, rfl⟩
    rw [htk] at xs3
    have hc4 : cn ≤ 400 := by have := hxt.1.2.2; have := hxt.2.2.2.2; omega
    refine lv_iload_n hx hb dX4_openIf_27 rfl (lv_at hl 2 rfl) ?_
    refine lv_iconst (v := 4) hx hb dX4_openIf_28 (by decide) ?_
    refine lv_icmp_ge (tgt := 46) hx hb dX4_openIf_29 (by decide) (fun c1 => ?_) (fun c1 => ?_)
    · have i1 := m_c3 (by decide : (4 : Int32).toInt = 4) (rfl : y2.toInt = _) c1
      refine lv_aload_n hx hb dX4_openIf_46 rfl (lv_at hl 0 rfl) ?_
      refine m_getr hx hb hts hown hW (27) 0 (28) rfl rfl cw_4 rfl (by decide) k_X4_16 dX4_openIf_47 ?_
      refine lv_iload_n hx hb dX4_openIf_50 rfl (lv_at hl 1 rfl) ?_
      refine lv_iconst (v := 2) hx hb dX4_openIf_51 (by decide) ?_
      refine lv_iadd hx hb dX4_openIf_52 ?_
      refine lv_topi (fun x2 ex2 => ?_)
      have tx2 : x2.toInt = y1.toInt + 2 := m_addI ex2 (rfl : y1.toInt = _) (by decide : (2 : Int32).toInt = 2) (by omega) (by omega)
      refine lv_aload_n hx hb dX4_openIf_53 rfl (lv_at hl 0 rfl) ?_
      refine m_aI hW (m_runV (As := []) (rest := [.int x2, .ref (b + 28)]) hx hb hml hown hts hW (27) (g_X4_readSum_o l D cy b (fun g => [5, 12].contains g) μ rfl rfl fT n cn gi μ (IY.rf hI.1) hxt ⟨by exact xs1, by rw [show μ.1 27 4 = cu from by exact hcu]; omega, by rw [show μ.1 27 5 = tk from by exact htk]; omega, by omega, by exact xs5⟩) mi_X4_readSum k_X4_117 rfl rfl rfl hl.1 rfl (Nat.le_of_ble_eq_true rfl) dX4_openIf_54 ⟨Nat.le_of_ble_eq_true rfl, Nat.le_of_ble_eq_true rfl⟩ ⟨Nat.le_of_ble_eq_true rfl, Nat.le_of_ble_eq_true rfl⟩) (fun x3 μ3 H locs q3 hW => ?_)
      obtain ⟨hJ3, q3⟩ := q3
      have hI := hI.tr hJ3 (m_subL (by simp [hS5, hS12]))
      have hxt : m_XT μ3 fT n cn := hxt.fr hJ3 rfl rfl rfl
      have hso : m_SO μ3 (false :: sl) := hso.fr hJ3 rfl
      rcases q3 with ⟨j4, ha4, hxs4⟩ | ⟨e4, ha4, hxe4⟩
      · obtain ⟨xa5, xb5, xc5, xd5, xf5⟩ := hxs4
        obtain ⟨cu5, hcu5⟩ : ∃ z, μ3.1 27 4 = z := ⟨_, rfl⟩
        rw [hcu5] at xb5
        obtain ⟨tk5, htk5⟩ : ∃ z, μ3.1 27 5 = z := ⟨_, rfl⟩
        rw [htk5] at xc5
        refine m_aV hW (m_runV (As := [.int x2, .int x3]) (rest := []) hx hb hml hown hts hW (28) (g_X5_put_28 l D cy b (fun g => [12].contains g) μ3 rfl x2 x3 μ3 (IY.rf hI.1)) mi_X5_put k_X4_102 rfl rfl rfl hl.1 rfl (Nat.le_of_ble_eq_true rfl) dX4_openIf_57 ⟨Nat.le_of_ble_eq_true rfl, Nat.le_of_ble_eq_true rfl⟩ ⟨Nat.le_of_ble_eq_true rfl, Nat.le_of_ble_eq_true rfl⟩) (fun μ6 H locs q6 hW => ?_)
        obtain ⟨hJ6, q6⟩ := q6
        have hI := hI.tr hJ6 (m_subL (by simp [hS12]))
        have hxt : m_XT μ6 fT n cn := hxt.fr hJ6 rfl rfl rfl
        have hso : m_SO μ6 (false :: sl) := hso.fr hJ6 rfl
        refine lv_aload_n hx hb dX4_openIf_60 rfl (lv_at hl 0 rfl) ?_
        refine m_getr hx hb hts hown hW (27) 0 (28) rfl rfl cw_4 rfl (by decide) k_X4_16 dX4_openIf_61 ?_
        refine lv_iload_n hx hb dX4_openIf_64 rfl (lv_at hl 1 rfl) ?_
        refine lv_iconst (v := 1) hx hb dX4_openIf_65 (by decide) ?_
        refine lv_iadd hx hb dX4_openIf_66 ?_
        refine lv_topi (fun x7 ex7 => ?_)
        have tx7 : x7.toInt = y1.toInt + 1 := m_addI ex7 (rfl : y1.toInt = _) (by decide : (1 : Int32).toInt = 1) (by omega) (by omega)
        refine lv_aload_n hx hb dX4_openIf_67 rfl (lv_at hl 0 rfl) ?_
        refine m_geti hx hb hts hown hW (27) 5 rfl rfl cw_4 rfl (by decide) k_X4_37 dX4_openIf_68 ?_
        refine lv_topi (fun x8 ex8 => ?_)
        have ex8 : x8 = tk5 := by rw [ex8]; exact ((hJ6.2.1 27 5 rfl).trans (by exact htk5))
        have ex8 := ex8.symm
        subst ex8
        refine m_aV hW (m_runV (As := [.int x7, .int tk5]) (rest := []) hx hb hml hown hts hW (28) (g_X5_put_28 l D cy b (fun g => [12].contains g) μ6 rfl x7 tk5 μ6 (IY.rf hI.1)) mi_X5_put k_X4_102 rfl rfl rfl hl.1 rfl (Nat.le_of_ble_eq_true rfl) dX4_openIf_71 ⟨Nat.le_of_ble_eq_true rfl, Nat.le_of_ble_eq_true rfl⟩ ⟨Nat.le_of_ble_eq_true rfl, Nat.le_of_ble_eq_true rfl⟩) (fun μ9 H locs q9 hW => ?_)
        obtain ⟨hJ9, q9⟩ := q9
        have hI := hI.tr hJ9 (m_subL (by simp [hS12]))
        have hxt : m_XT μ9 fT n cn := hxt.fr hJ9 rfl rfl rfl
        have hso : m_SO μ9 (false :: sl) := hso.fr hJ9 rfl
        refine lv_aload_n hx hb dX4_openIf_74 rfl (lv_at hl 0 rfl) ?_
        refine m_geti hx hb hts hown hW (27) 5 rfl rfl cw_4 rfl (by decide) k_X4_37 dX4_openIf_75 ?_
        refine lv_topi (fun x10 ex10 => ?_)
        have ex10 : x10 = tk5 := by rw [ex10]; exact ((hJ9.2.1 27 5 rfl).trans (by exact ((hJ6.2.1 27 5 rfl).trans (by exact htk5))))
        have ex10 := ex10.symm
        subst ex10
        refine lv_bipush (v := 6) hx hb dX4_openIf_78 (by decide) ?_
        refine lv_bipush (v := 8) hx hb dX4_openIf_80 (by decide) ?_
        have l_6 : (6 : Int32).toInt = 6 := by decide
        have l_8 : (8 : Int32).toInt = 8 := by decide
        refine m_aI hW (m_runSN (As := [.int tk5, .int 6, .int 8]) (rest := []) hx hb hml hown hts hW (g_X11_within l D cy b tk5 6 8 μ9 hI.1) ms_X11_within n_X4_60 rfl hl.1 rfl (Nat.le_of_ble_eq_true rfl) dX4_openIf_82 ⟨Nat.le_of_ble_eq_true rfl, Nat.le_of_ble_eq_true rfl⟩ ⟨Nat.le_of_ble_eq_true rfl, Nat.le_of_ble_eq_true rfl⟩) (fun x11 μ11 H locs q11 hW => ?_)
        obtain ⟨q11_m, q11⟩ := q11
        subst q11_m
        rcases q11 with ⟨rfl, q11⟩ | ⟨rfl, q11⟩
        · refine lv_if_eq (tgt := 95) hx hb dX4_openIf_85 (by decide) (fun c => False.elim (by revert c; decide)) (fun _ => ?_)
          have hs12 : a_k (t_K fT n) (t_L fT n) 6 8 j4 = .inr (j4 + 1) := a_k1 (by omega)
          refine lv_aload_n hx hb dX4_openIf_88 rfl (lv_at hl 0 rfl) ?_
          refine m_aV hW (m_runV (As := []) (rest := []) hx hb hml hown hts hW (27) (g_X4_advance_o l D cy b (fun g => [5].contains g) μ9 rfl fT n cn j4 (hxt.lt (by omega) (by omega)) μ9 (IY.rf hI.1) hxt ⟨by exact ((hJ9.2.1 27 1 rfl).trans (by exact ((hJ6.2.1 27 1 rfl).trans (by exact xa5)))), by rw [show μ9.1 27 4 = cu5 from by exact ((hJ9.2.1 27 4 rfl).trans (by exact ((hJ6.2.1 27 4 rfl).trans (by exact hcu5))))]; omega, by rw [show μ9.1 27 5 = tk5 from by exact ((hJ9.2.1 27 5 rfl).trans (by exact ((hJ6.2.1 27 5 rfl).trans (by exact htk5))))]; omega, by omega, by exact ((hJ9.2.1 27 2 rfl).trans (by exact ((hJ6.2.1 27 2 rfl).trans (by exact xf5))))⟩) mi_X4_advance k_X4_80 rfl rfl rfl hl.1 rfl (Nat.le_of_ble_eq_true rfl) dX4_openIf_89 ⟨Nat.le_of_ble_eq_true rfl, Nat.le_of_ble_eq_true rfl⟩ ⟨Nat.le_of_ble_eq_true rfl, Nat.le_of_ble_eq_true rfl⟩) (fun μ13 H locs q13 hW => ?_)
          obtain ⟨hJ13, q13⟩ := q13
          have hI := hI.tr hJ13 (m_subL (by simp [hS5]))
          have hxt : m_XT μ13 fT n cn := hxt.fr hJ13 rfl rfl rfl
          have hso : m_SO μ13 (false :: sl) := hso.fr hJ13 rfl
          obtain ⟨xa14, xb14, xc14, xd14, xf14⟩ := q13
          obtain ⟨cu14, hcu14⟩ : ∃ z, μ13.1 27 4 = z := ⟨_, rfl⟩
          rw [hcu14] at xb14
          obtain ⟨tk14, htk14⟩ : ∃ z, μ13.1 27 5 = z := ⟨_, rfl⟩
          rw [htk14] at xc14
          refine lv_goto (tgt := 100) hx hb dX4_openIf_92 (by decide) ?_
          refine lv_aload_n hx hb dX4_openIf_100 rfl (lv_at hl 0 rfl) ?_
          refine m_getr hx hb hts hown hW (27) 0 (28) rfl rfl cw_4 rfl (by decide) k_X4_16 dX4_openIf_101 ?_
          refine lv_iload_n hx hb dX4_openIf_104 rfl (lv_at hl 1 rfl) ?_
          refine lv_iconst (v := 3) hx hb dX4_openIf_105 (by decide) ?_
          refine lv_iadd hx hb dX4_openIf_106 ?_
          refine lv_topi (fun x15 ex15 => ?_)
          have tx15 : x15.toInt = y1.toInt + 3 := m_addI ex15 (rfl : y1.toInt = _) (by decide : (3 : Int32).toInt = 3) (by omega) (by omega)
          refine lv_aload_n hx hb dX4_openIf_107 rfl (lv_at hl 0 rfl) ?_
          refine m_aI hW (m_runV (As := []) (rest := [.int x15, .ref (b + 28)]) hx hb hml hown hts hW (27) (g_X4_readSum_o l D cy b (fun g => [5, 12].contains g) μ13 rfl rfl fT n cn (j4 + 1) μ13 (IY.rf hI.1) hxt ⟨by exact xa14, by rw [show μ13.1 27 4 = cu14 from by exact hcu14]; omega, by rw [show μ13.1 27 5 = tk14 from by exact htk14]; omega, by omega, by exact xf14⟩) mi_X4_readSum k_X4_117 rfl rfl rfl hl.1 rfl (Nat.le_of_ble_eq_true rfl) dX4_openIf_108 ⟨Nat.le_of_ble_eq_true rfl, Nat.le_of_ble_eq_true rfl⟩ ⟨Nat.le_of_ble_eq_true rfl, Nat.le_of_ble_eq_true rfl⟩) (fun x16 μ16 H locs q16 hW => ?_)
          obtain ⟨hJ16, q16⟩ := q16
          have hI := hI.tr hJ16 (m_subL (by simp [hS5, hS12]))
          have hxt : m_XT μ16 fT n cn := hxt.fr hJ16 rfl rfl rfl
          have hso : m_SO μ16 (false :: sl) := hso.fr hJ16 rfl
          rcases q16 with ⟨j17, ha17, hxs17⟩ | ⟨e17, ha17, hxe17⟩
          · obtain ⟨xa18, xb18, xc18, xd18, xf18⟩ := hxs17
            obtain ⟨cu18, hcu18⟩ : ∃ z, μ16.1 27 4 = z := ⟨_, rfl⟩
            rw [hcu18] at xb18
            obtain ⟨tk18, htk18⟩ : ∃ z, μ16.1 27 5 = z := ⟨_, rfl⟩
            rw [htk18] at xc18
            refine m_aV hW (m_runV (As := [.int x15, .int x16]) (rest := []) hx hb hml hown hts hW (28) (g_X5_put_28 l D cy b (fun g => [12].contains g) μ16 rfl x15 x16 μ16 (IY.rf hI.1)) mi_X5_put k_X4_102 rfl rfl rfl hl.1 rfl (Nat.le_of_ble_eq_true rfl) dX4_openIf_111 ⟨Nat.le_of_ble_eq_true rfl, Nat.le_of_ble_eq_true rfl⟩ ⟨Nat.le_of_ble_eq_true rfl, Nat.le_of_ble_eq_true rfl⟩) (fun μ19 H locs q19 hW => ?_)
            obtain ⟨hJ19, q19⟩ := q19
            have hI := hI.tr hJ19 (m_subL (by simp [hS12]))
            have hxt : m_XT μ19 fT n cn := hxt.fr hJ19 rfl rfl rfl
            have hso : m_SO μ19 (false :: sl) := hso.fr hJ19 rfl
            exact m_vret hx hb hr hlocks hW (⟨hI, Or.inl ⟨j17, (by simp only [a_b, ha4, hs12, ha17]), ⟨by rw [show μ19.1 27 1 = 0 from by exact ((hJ19.2.1 27 1 rfl).trans (by exact xa18))], by rw [show μ19.1 27 4 = cu18 from by exact ((hJ19.2.1 27 4 rfl).trans (by exact hcu18))]; omega, by rw [show μ19.1 27 5 = tk18 from by exact ((hJ19.2.1 27 5 rfl).trans (by exact htk18))]; omega, by omega, by rw [show μ19.1 27 2 = (-1) from by exact ((hJ19.2.1 27 2 rfl).trans (by exact xf18))]⟩, hso⟩⟩) dX4_openIf_114
          · obtain ⟨xa20, xb20, xc20, xd20⟩ := hxe17
            obtain ⟨ef20, hef20⟩ : ∃ z, μ16.1 27 1 = z := ⟨_, rfl⟩
            rw [hef20] at xa20
            obtain ⟨ep20, hep20⟩ : ∃ z, μ16.1 27 2 = z := ⟨_, rfl⟩
            rw [hep20] at xc20
            refine m_aV hW (m_runV (As := [.int x15, .int x16]) (rest := []) hx hb hml hown hts hW (28) (g_X5_put_28 l D cy b (fun g => [12].contains g) μ16 rfl x15 x16 μ16 (IY.rf hI.1)) mi_X5_put k_X4_102 rfl rfl rfl hl.1 rfl (Nat.le_of_ble_eq_true rfl) dX4_openIf_111 ⟨Nat.le_of_ble_eq_true rfl, Nat.le_of_ble_eq_true rfl⟩ ⟨Nat.le_of_ble_eq_true rfl, Nat.le_of_ble_eq_true rfl⟩) (fun μ21 H locs q21 hW => ?_)
            obtain ⟨hJ21, q21⟩ := q21
            have hI := hI.tr hJ21 (m_subL (by simp [hS12]))
            exact m_vret hx hb hr hlocks hW (⟨hI, Or.inr ⟨e17, (by simp only [a_b, ha4, hs12, ha17]), ⟨by rw [show μ21.1 27 1 = ef20 from by exact ((hJ21.2.1 27 1 rfl).trans (by exact hef20))]; exact xa20, xb20, by rw [show μ21.1 27 2 = ep20 from by exact ((hJ21.2.1 27 2 rfl).trans (by exact hep20))]; exact xc20, by rw [show μ21.1 27 5 = 0 from by exact ((hJ21.2.1 27 5 rfl).trans (by exact xd20))]⟩⟩⟩) dX4_openIf_114
        · refine lv_if_eq (tgt := 95) hx hb dX4_openIf_85 (by decide) (fun _ => ?_) (fun c => False.elim (by revert c; decide))
          have hs22 : a_k (t_K fT n) (t_L fT n) 6 8 j4 = .inl (1, (t_L fT n) j4) := a_k0 (by omega)
          refine lv_aload_n hx hb dX4_openIf_95 rfl (lv_at hl 0 rfl) ?_
          refine lv_iconst (v := 1) hx hb dX4_openIf_96 (by decide) ?_
          have l_1 : (1 : Int32).toInt = 1 := by decide
          refine m_aV hW (m_runV (As := [.int 1]) (rest := []) hx hb hml hown hts hW (27) (g_X4_fail_o l D cy b (fun g => [5].contains g) μ9 rfl fT n cn j4 1 (by omega) μ9 (IY.rf hI.1) hxt ⟨by exact ((hJ9.2.1 27 1 rfl).trans (by exact ((hJ6.2.1 27 1 rfl).trans (by exact xa5)))), by rw [show μ9.1 27 4 = cu5 from by exact ((hJ9.2.1 27 4 rfl).trans (by exact ((hJ6.2.1 27 4 rfl).trans (by exact hcu5))))]; omega, by rw [show μ9.1 27 5 = tk5 from by exact ((hJ9.2.1 27 5 rfl).trans (by exact ((hJ6.2.1 27 5 rfl).trans (by exact htk5))))]; omega, by omega, by exact ((hJ9.2.1 27 2 rfl).trans (by exact ((hJ6.2.1 27 2 rfl).trans (by exact xf5))))⟩) mi_X4_fail k_X4_74 rfl rfl rfl hl.1 rfl (Nat.le_of_ble_eq_true rfl) dX4_openIf_97 ⟨Nat.le_of_ble_eq_true rfl, Nat.le_of_ble_eq_true rfl⟩ ⟨Nat.le_of_ble_eq_true rfl, Nat.le_of_ble_eq_true rfl⟩) (fun μ23 H locs q23 hW => ?_)
          obtain ⟨hJ23, q23⟩ := q23
          have hI := hI.tr hJ23 (m_subL (by simp [hS5]))
          have hxt : m_XT μ23 fT n cn := hxt.fr hJ23 rfl rfl rfl
          have hso : m_SO μ23 (false :: sl) := hso.fr hJ23 rfl
          rw [show (1 : Int32).toInt = 1 from by decide] at q23
          have hxe24 : m_XE μ23 (1, (t_L fT n) j4) := q23
          obtain ⟨xa25, xb25, xc25, xd25⟩ := hxe24
          obtain ⟨ef25, hef25⟩ : ∃ z, μ23.1 27 1 = z := ⟨_, rfl⟩
          rw [hef25] at xa25
          obtain ⟨ep25, hep25⟩ : ∃ z, μ23.1 27 2 = z := ⟨_, rfl⟩
          rw [hep25] at xc25
          refine lv_aload_n hx hb dX4_openIf_100 rfl (lv_at hl 0 rfl) ?_
          refine m_getr hx hb hts hown hW (27) 0 (28) rfl rfl cw_4 rfl (by decide) k_X4_16 dX4_openIf_101 ?_
          refine lv_iload_n hx hb dX4_openIf_104 rfl (lv_at hl 1 rfl) ?_
          refine lv_iconst (v := 3) hx hb dX4_openIf_105 (by decide) ?_
          refine lv_iadd hx hb dX4_openIf_106 ?_
          refine lv_topi (fun x26 ex26 => ?_)
          have tx26 : x26.toInt = y1.toInt + 3 := m_addI ex26 (rfl : y1.toInt = _) (by decide : (3 : Int32).toInt = 3) (by omega) (by omega)
          refine lv_aload_n hx hb dX4_openIf_107 rfl (lv_at hl 0 rfl) ?_
          refine m_aI hW (m_runV (As := []) (rest := [.int x26, .ref (b + 28)]) hx hb hml hown hts hW (27) (g_X4_readSum_e l D cy b S μ0 hS5 hS12 ef25 ep25 (by omega) μ23 hI (by exact hef25) (by exact hep25) (by exact xd25)) mi_X4_readSum k_X4_117 rfl rfl rfl hl.1 rfl (Nat.le_of_ble_eq_true rfl) dX4_openIf_108 ⟨Nat.le_of_ble_eq_true rfl, Nat.le_of_ble_eq_true rfl⟩ ⟨Nat.le_of_ble_eq_true rfl, Nat.le_of_ble_eq_true rfl⟩) (fun x27 μ27 H locs q27 hW => ?_)
          obtain ⟨hI, q27⟩ := q27
          obtain ⟨q27a, q27b, q27c⟩ := q27
          refine m_aV hW (m_runV (As := [.int x26, .int x27]) (rest := []) hx hb hml hown hts hW (28) (g_X5_put_28 l D cy b (fun g => [12].contains g) μ27 rfl x26 x27 μ27 (IY.rf hI.1)) mi_X5_put k_X4_102 rfl rfl rfl hl.1 rfl (Nat.le_of_ble_eq_true rfl) dX4_openIf_111 ⟨Nat.le_of_ble_eq_true rfl, Nat.le_of_ble_eq_true rfl⟩ ⟨Nat.le_of_ble_eq_true rfl, Nat.le_of_ble_eq_true rfl⟩) (fun μ28 H locs q28 hW => ?_)
          obtain ⟨hJ28, q28⟩ := q28
          have hI := hI.tr hJ28 (m_subL (by simp [hS12]))
          exact m_vret hx hb hr hlocks hW (⟨hI, Or.inr ⟨(1, (t_L fT n) j4), (by simp only [a_b, ha4, hs22]), ⟨by rw [show μ28.1 27 1 = ef25 from by exact ((hJ28.2.1 27 1 rfl).trans (by exact q27a))]; exact xa25, xb25, by rw [show μ28.1 27 2 = ep25 from by exact ((hJ28.2.1 27 2 rfl).trans (by exact q27b))]; exact xc25, by rw [show μ28.1 27 5 = 0 from by exact ((hJ28.2.1 27 5 rfl).trans (by exact q27c))]⟩⟩⟩) dX4_openIf_114
      · obtain ⟨xa29, xb29, xc29, xd29⟩ := hxe4
        obtain ⟨ef29, hef29⟩ : ∃ z, μ3.1 27 1 = z := ⟨_, rfl⟩
        rw [hef29] at xa29
        obtain ⟨ep29, hep29⟩ : ∃ z, μ3.1 27 2 = z := ⟨_, rfl⟩
        rw [hep29] at xc29
        refine m_aV hW (m_runV (As := [.int x2, .int x3]) (rest := []) hx hb hml hown hts hW (28) (g_X5_put_28 l D cy b (fun g => [12].contains g) μ3 rfl x2 x3 μ3 (IY.rf hI.1)) mi_X5_put k_X4_102 rfl rfl rfl hl.1 rfl (Nat.le_of_ble_eq_true rfl) dX4_openIf_57 ⟨Nat.le_of_ble_eq_true rfl, Nat.le_of_ble_eq_true rfl⟩ ⟨Nat.le_of_ble_eq_true rfl, Nat.le_of_ble_eq_true rfl⟩) (fun μ30 H locs q30 hW => ?_)
        obtain ⟨hJ30, q30⟩ := q30
        have hI := hI.tr hJ30 (m_subL (by simp [hS12]))
        refine lv_aload_n hx hb dX4_openIf_60 rfl (lv_at hl 0 rfl) ?_
        refine m_getr hx hb hts hown hW (27) 0 (28) rfl rfl cw_4 rfl (by decide) k_X4_16 dX4_openIf_61 ?_
        refine lv_iload_n hx hb dX4_openIf_64 rfl (lv_at hl 1 rfl) ?_
        refine lv_iconst (v := 1) hx hb dX4_openIf_65 (by decide) ?_
        refine lv_iadd hx hb dX4_openIf_66 ?_
        refine lv_topi (fun x31 ex31 => ?_)
        have tx31 : x31.toInt = y1.toInt + 1 := m_addI ex31 (rfl : y1.toInt = _) (by decide : (1 : Int32).toInt = 1) (by omega) (by omega)
        refine lv_aload_n hx hb dX4_openIf_67 rfl (lv_at hl 0 rfl) ?_
        refine m_geti hx hb hts hown hW (27) 5 rfl rfl cw_4 rfl (by decide) k_X4_37 dX4_openIf_68 ?_
        refine lv_topi (fun x32 ex32 => ?_)
        have ex32 : x32 = 0 := by rw [ex32]; exact ((hJ30.2.1 27 5 rfl).trans (by exact xd29))
        have ex32 := ex32.symm
        subst ex32
        have l_0 : (0 : Int32).toInt = 0 := by decide
        refine m_aV hW (m_runV (As := [.int x31, .int 0]) (rest := []) hx hb hml hown hts hW (28) (g_X5_put_28 l D cy b (fun g => [12].contains g) μ30 rfl x31 0 μ30 (IY.rf hI.1)) mi_X5_put k_X4_102 rfl rfl rfl hl.1 rfl (Nat.le_of_ble_eq_true rfl) dX4_openIf_71 ⟨Nat.le_of_ble_eq_true rfl, Nat.le_of_ble_eq_true rfl⟩ ⟨Nat.le_of_ble_eq_true rfl, Nat.le_of_ble_eq_true rfl⟩) (fun μ33 H locs q33 hW => ?_)
        obtain ⟨hJ33, q33⟩ := q33
        have hI := hI.tr hJ33 (m_subL (by simp [hS12]))
        refine lv_aload_n hx hb dX4_openIf_74 rfl (lv_at hl 0 rfl) ?_
        refine m_geti hx hb hts hown hW (27) 5 rfl rfl cw_4 rfl (by decide) k_X4_37 dX4_openIf_75 ?_
        refine lv_topi (fun x34 ex34 => ?_)
        have ex34 : x34 = 0 := by rw [ex34]; exact ((hJ33.2.1 27 5 rfl).trans (by exact ((hJ30.2.1 27 5 rfl).trans (by exact xd29))))
        have ex34 := ex34.symm
        subst ex34
        refine lv_bipush (v := 6) hx hb dX4_openIf_78 (by decide) ?_
        refine lv_bipush (v := 8) hx hb dX4_openIf_80 (by decide) ?_
        have l_6 : (6 : Int32).toInt = 6 := by decide
        have l_8 : (8 : Int32).toInt = 8 := by decide
        refine m_aI hW (m_runSN (As := [.int 0, .int 6, .int 8]) (rest := []) hx hb hml hown hts hW (g_X11_within l D cy b 0 6 8 μ33 hI.1) ms_X11_within n_X4_60 rfl hl.1 rfl (Nat.le_of_ble_eq_true rfl) dX4_openIf_82 ⟨Nat.le_of_ble_eq_true rfl, Nat.le_of_ble_eq_true rfl⟩ ⟨Nat.le_of_ble_eq_true rfl, Nat.le_of_ble_eq_true rfl⟩) (fun x35 μ35 H locs q35 hW => ?_)
        obtain ⟨q35_m, q35⟩ := q35
        subst q35_m
        rcases q35 with ⟨rfl, q35⟩ | ⟨rfl, q35⟩
        · refine lv_if_eq (tgt := 95) hx hb dX4_openIf_85 (by decide) (fun c => False.elim (by revert c; decide)) (fun _ => ?_)
          refine lv_aload_n hx hb dX4_openIf_88 rfl (lv_at hl 0 rfl) ?_
          refine m_aV hW (m_runV (As := []) (rest := []) hx hb hml hown hts hW (27) (g_X4_advance_e l D cy b S μ0 hS5 ef29 ep29 (by omega) μ33 hI (by exact ((hJ33.2.1 27 1 rfl).trans (by exact ((hJ30.2.1 27 1 rfl).trans (by exact hef29))))) (by exact ((hJ33.2.1 27 2 rfl).trans (by exact ((hJ30.2.1 27 2 rfl).trans (by exact hep29))))) (by exact ((hJ33.2.1 27 5 rfl).trans (by exact ((hJ30.2.1 27 5 rfl).trans (by exact xd29)))))) mi_X4_advance k_X4_80 rfl rfl rfl hl.1 rfl (Nat.le_of_ble_eq_true rfl) dX4_openIf_89 ⟨Nat.le_of_ble_eq_true rfl, Nat.le_of_ble_eq_true rfl⟩ ⟨Nat.le_of_ble_eq_true rfl, Nat.le_of_ble_eq_true rfl⟩) (fun μ36 H locs q36 hW => ?_)
          obtain ⟨hI, q36⟩ := q36
          obtain ⟨q36a, q36b, q36c⟩ := q36
          refine lv_goto (tgt := 100) hx hb dX4_openIf_92 (by decide) ?_
          refine lv_aload_n hx hb dX4_openIf_100 rfl (lv_at hl 0 rfl) ?_
          refine m_getr hx hb hts hown hW (27) 0 (28) rfl rfl cw_4 rfl (by decide) k_X4_16 dX4_openIf_101 ?_
          refine lv_iload_n hx hb dX4_openIf_104 rfl (lv_at hl 1 rfl) ?_
          refine lv_iconst (v := 3) hx hb dX4_openIf_105 (by decide) ?_
          refine lv_iadd hx hb dX4_openIf_106 ?_
          refine lv_topi (fun x37 ex37 => ?_)
          have tx37 : x37.toInt = y1.toInt + 3 := m_addI ex37 (rfl : y1.toInt = _) (by decide : (3 : Int32).toInt = 3) (by omega) (by omega)
          refine lv_aload_n hx hb dX4_openIf_107 rfl (lv_at hl 0 rfl) ?_
          refine m_aI hW (m_runV (As := []) (rest := [.int x37, .ref (b + 28)]) hx hb hml hown hts hW (27) (g_X4_readSum_e l D cy b S μ0 hS5 hS12 ef29 ep29 (by omega) μ36 hI (by exact q36a) (by exact q36b) (by exact q36c)) mi_X4_readSum k_X4_117 rfl rfl rfl hl.1 rfl (Nat.le_of_ble_eq_true rfl) dX4_openIf_108 ⟨Nat.le_of_ble_eq_true rfl, Nat.le_of_ble_eq_true rfl⟩ ⟨Nat.le_of_ble_eq_true rfl, Nat.le_of_ble_eq_true rfl⟩) (fun x38 μ38 H locs q38 hW => ?_)
          obtain ⟨hI, q38⟩ := q38
          obtain ⟨q38a, q38b, q38c⟩ := q38
          refine m_aV hW (m_runV (As := [.int x37, .int x38]) (rest := []) hx hb hml hown hts hW (28) (g_X5_put_28 l D cy b (fun g => [12].contains g) μ38 rfl x37 x38 μ38 (IY.rf hI.1)) mi_X5_put k_X4_102 rfl rfl rfl hl.1 rfl (Nat.le_of_ble_eq_true rfl) dX4_openIf_111 ⟨Nat.le_of_ble_eq_true rfl, Nat.le_of_ble_eq_true rfl⟩ ⟨Nat.le_of_ble_eq_true rfl, Nat.le_of_ble_eq_true rfl⟩) (fun μ39 H locs q39 hW => ?_)
          obtain ⟨hJ39, q39⟩ := q39
          have hI := hI.tr hJ39 (m_subL (by simp [hS12]))
          exact m_vret hx hb hr hlocks hW (⟨hI, Or.inr ⟨e4, (by simp only [a_b, ha4]), ⟨by rw [show μ39.1 27 1 = ef29 from by exact ((hJ39.2.1 27 1 rfl).trans (by exact q38a))]; exact xa29, xb29, by rw [show μ39.1 27 2 = ep29 from by exact ((hJ39.2.1 27 2 rfl).trans (by exact q38b))]; exact xc29, by rw [show μ39.1 27 5 = 0 from by exact ((hJ39.2.1 27 5 rfl).trans (by exact q38c))]⟩⟩⟩) dX4_openIf_114
        · refine lv_if_eq (tgt := 95) hx hb dX4_openIf_85 (by decide) (fun _ => ?_) (fun c => False.elim (by revert c; decide))
          refine lv_aload_n hx hb dX4_openIf_95 rfl (lv_at hl 0 rfl) ?_
          refine lv_iconst (v := 1) hx hb dX4_openIf_96 (by decide) ?_
          have l_1 : (1 : Int32).toInt = 1 := by decide
          refine m_aV hW (m_runV (As := [.int 1]) (rest := []) hx hb hml hown hts hW (27) (g_X4_fail_e l D cy b S μ0 hS5 ef29 ep29 (by omega) 1 μ33 hI (by exact ((hJ33.2.1 27 1 rfl).trans (by exact ((hJ30.2.1 27 1 rfl).trans (by exact hef29))))) (by exact ((hJ33.2.1 27 2 rfl).trans (by exact ((hJ30.2.1 27 2 rfl).trans (by exact hep29))))) (by exact ((hJ33.2.1 27 5 rfl).trans (by exact ((hJ30.2.1 27 5 rfl).trans (by exact xd29)))))) mi_X4_fail k_X4_74 rfl rfl rfl hl.1 rfl (Nat.le_of_ble_eq_true rfl) dX4_openIf_97 ⟨Nat.le_of_ble_eq_true rfl, Nat.le_of_ble_eq_true rfl⟩ ⟨Nat.le_of_ble_eq_true rfl, Nat.le_of_ble_eq_true rfl⟩) (fun μ40 H locs q40 hW => ?_)
          obtain ⟨hI, q40⟩ := q40
          obtain ⟨q40a, q40b, q40c⟩ := q40
          refine lv_aload_n hx hb dX4_openIf_100 rfl (lv_at hl 0 rfl) ?_
          refine m_getr hx hb hts hown hW (27) 0 (28) rfl rfl cw_4 rfl (by decide) k_X4_16 dX4_openIf_101 ?_
          refine lv_iload_n hx hb dX4_openIf_104 rfl (lv_at hl 1 rfl) ?_
          refine lv_iconst (v := 3) hx hb dX4_openIf_105 (by decide) ?_
          refine lv_iadd hx hb dX4_openIf_106 ?_
          refine lv_topi (fun x41 ex41 => ?_)
          have tx41 : x41.toInt = y1.toInt + 3 := m_addI ex41 (rfl : y1.toInt = _) (by decide : (3 : Int32).toInt = 3) (by omega) (by omega)
          refine lv_aload_n hx hb dX4_openIf_107 rfl (lv_at hl 0 rfl) ?_
          refine m_aI hW (m_runV (As := []) (rest := [.int x41, .ref (b + 28)]) hx hb hml hown hts hW (27) (g_X4_readSum_e l D cy b S μ0 hS5 hS12 ef29 ep29 (by omega) μ40 hI (by exact q40a) (by exact q40b) (by exact q40c)) mi_X4_readSum k_X4_117 rfl rfl rfl hl.1 rfl (Nat.le_of_ble_eq_true rfl) dX4_openIf_108 ⟨Nat.le_of_ble_eq_true rfl, Nat.le_of_ble_eq_true rfl⟩ ⟨Nat.le_of_ble_eq_true rfl, Nat.le_of_ble_eq_true rfl⟩) (fun x42 μ42 H locs q42 hW => ?_)
          obtain ⟨hI, q42⟩ := q42
          obtain ⟨q42a, q42b, q42c⟩ := q42
          refine m_aV hW (m_runV (As := [.int x41, .int x42]) (rest := []) hx hb hml hown hts hW (28) (g_X5_put_28 l D cy b (fun g => [12].contains g) μ42 rfl x41 x42 μ42 (IY.rf hI.1)) mi_X5_put k_X4_102 rfl rfl rfl hl.1 rfl (Nat.le_of_ble_eq_true rfl) dX4_openIf_111 ⟨Nat.le_of_ble_eq_true rfl, Nat.le_of_ble_eq_true rfl⟩ ⟨Nat.le_of_ble_eq_true rfl, Nat.le_of_ble_eq_true rfl⟩) (fun μ43 H locs q43 hW => ?_)
          obtain ⟨hJ43, q43⟩ := q43
          have hI := hI.tr hJ43 (m_subL (by simp [hS12]))
          exact m_vret hx hb hr hlocks hW (⟨hI, Or.inr ⟨e4, (by simp only [a_b, ha4]), ⟨by rw [show μ43.1 27 1 = ef29 from by exact ((hJ43.2.1 27 1 rfl).trans (by exact q42a))]; exact xa29, xb29, by rw [show μ43.1 27 2 = ep29 from by exact ((hJ43.2.1 27 2 rfl).trans (by exact q42b))]; exact xc29, by rw [show μ43.1 27 5 = 0 from by exact ((hJ43.2.1 27 5 rfl).trans (by exact q42c))]⟩⟩⟩) dX4_openIf_114
    · have i1 := m_c4 (by decide : (4 : Int32).toInt = 4) (rfl : y2.toInt = _) c1
      refine lv_aload_n hx hb dX4_openIf_32 rfl (lv_at hl 0 rfl) ?_
      refine m_getr hx hb hts hown hW (27) 0 (28) rfl rfl cw_4 rfl (by decide) k_X4_16 dX4_openIf_33 ?_
      refine lv_iconst (v := 0) hx hb dX4_openIf_36 (by decide) ?_
      have l_0 : (0 : Int32).toInt = 0 := by decide
      refine m_aV hW (m_runV (As := [.int 0]) (rest := []) hx hb hml hown hts hW (28) (g_X5_add_28 l D cy b (fun g => [12].contains g) μ rfl 0 μ (IY.rf hI.1)) mi_X5_add k_X4_83 rfl rfl rfl hl.1 rfl (Nat.le_of_ble_eq_true rfl) dX4_openIf_37 ⟨Nat.le_of_ble_eq_true rfl, Nat.le_of_ble_eq_true rfl⟩ ⟨Nat.le_of_ble_eq_true rfl, Nat.le_of_ble_eq_true rfl⟩) (fun μ44 H locs q44 hW => ?_)
      obtain ⟨hJ44, q44⟩ := q44
      have hI := hI.tr hJ44 (m_subL (by simp [hS12]))
      have hxt : m_XT μ44 fT n cn := hxt.fr hJ44 rfl rfl rfl
      have hso : m_SO μ44 (false :: sl) := hso.fr hJ44 rfl
      obtain ⟨x45, ex45⟩ : ∃ z : Int32, z = y2 + 1 := ⟨_, rfl⟩
      refine lv_iinc (v := x45) (lv' := [(2, .int x45), (0, .ref (b + 27)), (1, .int y1)]) hx hb dX4_openIf_40 hl (k := 2) rfl (by rw [ex45]; rfl) (by decide) rfl (fun ls hl => ?_)
      have tx45 : x45.toInt = y2.toInt + 1 := m_addI ex45 (rfl : y2.toInt = _) (by decide : (1 : Int32).toInt = 1) (by omega) (by omega)
      refine lv_goto (tgt := 27) hx hb dX4_openIf_43 (by decide) ?_
      exact ih y1 x45 (by omega) (by omega) μ44 hI (hxt) (⟨by rw [show μ44.1 27 1 = 0 from by exact ((hJ44.2.1 27 1 rfl).trans (by exact xs1))], by rw [show μ44.1 27 4 = cu from by exact ((hJ44.2.1 27 4 rfl).trans (by exact hcu))]; omega, by rw [show μ44.1 27 5 = tk from by exact ((hJ44.2.1 27 5 rfl).trans (by exact htk))]; omega, by omega, by rw [show μ44.1 27 2 = (-1) from by exact ((hJ44.2.1 27 2 rfl).trans (by exact xs5))]⟩) (hso) _ _ hW ls (lv_sub hl [1, 2, 0] rfl)
set_option maxHeartbeats 4000000 in
set_option maxRecDepth 100000 in
theorem g_X4_openIf_o (l : Launch) (D : va_G) (cy : Nat → ClassId) (b : Nat) (S : Nat → Bool) (μ0 : mM) (hS5 : S 5 = true) (hS12 : S 12 = true) (hS13 : S 13 = true) (hS14 : S 14 = true) (fT : Nat → Int32) (n cn gi : Nat) (sl : List Bool) (μ : mM) (hI : IY S μ0 μ) (hxt : m_XT μ fT n cn) (hxs : m_XS μ fT n cn gi) (hso : m_SO μ sl) (hs3 : sl.length ≤ 3) : m_Cv l yX4_openIf cX4_openIf 3 (none) 4 D cy b LAY μ [.ref (b + 27)] (fun ν => IY S μ0 ν ∧ ((∃ j, a_b (a_S (t_K fT n) (t_L fT n) gi) (fun j => a_b (a_k (t_K fT n) (t_L fT n) 6 8 j) (a_S (t_K fT n) (t_L fT n))) = .inr j ∧ m_XS ν fT n cn j ∧ m_SO ν (false :: sl)) ∨ (∃ e, a_b (a_S (t_K fT n) (t_L fT n) gi) (fun j => a_b (a_k (t_K fT n) (t_L fT n) 6 8 j) (a_S (t_K fT n) (t_L fT n))) = .inl e ∧ m_XE ν e))) := by
  unfold m_Cv
  refine m_of (by decide) (Nat.le_of_ble_eq_true rfl) ?_
  intro p e s m below meth c hx hb hr hml hown hts hlocks _ hW ls hl
  have hown : s.vm.findClass RX4 = some m.cls := hown
  have hl : lv_has ls 3 [(0, .ref (b + 27))] := hl
  obtain ⟨xs1, xs2, xs3, xs4, xs5⟩ := hxs
  obtain ⟨cu, hcu⟩ : ∃ z, μ.1 27 4 = z := ⟨_, rfl⟩
  rw [hcu] at xs2
  obtain ⟨tk, htk⟩ : ∃ z, μ.1 27 5 = z := ⟨_, rfl⟩
  rw [htk] at xs3
  have hc4 : cn ≤ 400 := by have := hxt.1.2.2; have := hxt.2.2.2.2; omega
  refine lv_aload_n hx hb dX4_openIf_0 rfl (lv_at hl 0 rfl) ?_
  refine m_getr hx hb hts hown hW (27) 0 (28) rfl rfl cw_4 rfl (by decide) k_X4_16 dX4_openIf_1 ?_
  refine m_geti hx hb hts hown hW (28) 1 rfl rfl cw_5 rfl (by decide) k_X4_50 dX4_openIf_4 ?_
  refine lv_topi (fun x1 ex1 => ?_)
  have bx1 : 0 ≤ x1.toInt ∧ x1.toInt ≤ 800 := by rw [ex1]; exact hI.1 _ _ _ _ rfl
  refine lv_istore_n (lv' := [(1, .int x1), (0, .ref (b + 27))]) hx hb dX4_openIf_7 rfl hl (by decide) rfl (fun ls hl => ?_)
  obtain ⟨x2, hx2⟩ : ∃ z, μ.1 37 1 = z := ⟨_, rfl⟩
  have bx2 : 0 ≤ x2.toInt ∧ x2.toInt ≤ 4 := by rw [← hx2]; exact hI.1 _ _ _ _ rfl
  have hln0 := hso.len (nv := x2) (by exact hx2) (by omega)
  refine lv_aload_n hx hb dX4_openIf_8 rfl (lv_at hl 1 rfl) ?_
  refine m_getr hx hb hts hown hW (27) 6 (37) rfl rfl cw_4 rfl (by decide) k_X4_40 dX4_openIf_9 ?_
  refine lv_bipush (v := 16) hx hb dX4_openIf_12 (by decide) ?_
  have l_16 : (16 : Int32).toInt = 16 := by decide
  refine m_aV hW (m_runV (As := [.int 16]) (rest := []) hx hb hml hown hts hW (37) (g_X5_add_o l D cy b (fun g => [13].contains g) μ rfl x2 (by omega) 16 μ (IY.rf hI.1) (by exact hx2)) mi_X5_add k_X4_83 rfl rfl rfl hl.1 rfl (Nat.le_of_ble_eq_true rfl) dX4_openIf_14 ⟨Nat.le_of_ble_eq_true rfl, Nat.le_of_ble_eq_true rfl⟩ ⟨Nat.le_of_ble_eq_true rfl, Nat.le_of_ble_eq_true rfl⟩) (fun μ3 H locs q3 hW => ?_)
  obtain ⟨hJ3, q3⟩ := q3
  have hI := hI.tr hJ3 (m_subL (by simp [hS13]))
  have hxt : m_XT μ3 fT n cn := hxt.fr hJ3 rfl rfl rfl
  obtain ⟨q3, q3r⟩ := q3
  obtain ⟨x4, hx4⟩ : ∃ z, μ3.1 37 1 = z := ⟨_, rfl⟩
  have bx4 : 0 ≤ x4.toInt ∧ x4.toInt ≤ 4 := by rw [← hx4]; exact hI.1 _ _ _ _ rfl
  rw [show μ3.1 37 1 = x4 from by exact hx4] at q3
  have hso : m_SO μ3 (false :: sl) := hso.push (nv := x2) (b := false) (by exact hx2) (by omega) (by rw [show μ3.1 37 1 = x4 from by exact hx4]; omega) q3r rfl
  refine lv_aload_n hx hb dX4_openIf_17 rfl (lv_at hl 1 rfl) ?_
  refine m_getr hx hb hts hown hW (27) 7 (39) rfl rfl cw_4 rfl (by decide) k_X4_43 dX4_openIf_18 ?_
  refine lv_iload_n hx hb dX4_openIf_21 rfl (lv_at hl 0 rfl) ?_
  refine m_aV hW (m_runV (As := [.int x1]) (rest := []) hx hb hml hown hts hW (39) (g_X5_add_39 l D cy b (fun g => [14].contains g) μ3 rfl x1 μ3 (IY.rf hI.1)) mi_X5_add k_X4_83 rfl rfl rfl hl.1 rfl (Nat.le_of_ble_eq_true rfl) dX4_openIf_22 ⟨Nat.le_of_ble_eq_true rfl, Nat.le_of_ble_eq_true rfl⟩ ⟨Nat.le_of_ble_eq_true rfl, Nat.le_of_ble_eq_true rfl⟩) (fun μ5 H locs q5 hW => ?_)
  obtain ⟨hJ5, q5⟩ := q5
  have hI := hI.tr hJ5 (m_subL (by simp [hS14]))
  have hxt : m_XT μ5 fT n cn := hxt.fr hJ5 rfl rfl rfl
  have hso : m_SO μ5 (false :: sl) := hso.fr hJ5 rfl
  refine lv_iconst (v := 0) hx hb dX4_openIf_25 (by decide) ?_
  refine lv_istore_n (lv' := [(2, .int 0), (1, .int x1), (0, .ref (b + 27))]) hx hb dX4_openIf_26 rfl hl (by decide) rfl (fun ls hl => ?_)
  have l_0 : (0 : Int32).toInt = 0 := by decide
  exact L_X4_openIf_o_27 hx hb hr hml hown hts hlocks S μ0 hS5 hS12 hS13 hS14 fT n cn gi sl  5 x1 0 (by omega) (by omega) μ5 hI (hxt) (⟨by rw [show μ5.1 27 1 = 0 from by exact ((hJ5.2.1 27 1 rfl).trans (by exact ((hJ3.2.1 27 1 rfl).trans (by exact xs1))))], by rw [show μ5.1 27 4 = cu from by exact ((hJ5.2.1 27 4 rfl).trans (by exact ((hJ3.2.1 27 4 rfl).trans (by exact hcu))))]; omega, by rw [show μ5.1 27 5 = tk from by exact ((hJ5.2.1 27 5 rfl).trans (by exact ((hJ3.2.1 27 5 rfl).trans (by exact htk))))]; omega, by omega, by rw [show μ5.1 27 2 = (-1) from by exact ((hJ5.2.1 27 2 rfl).trans (by exact ((hJ3.2.1 27 2 rfl).trans (by exact xs5))))]⟩) (hso) _ _ hW ls (lv_sub hl [2, 1, 0] rfl)
set_option maxHeartbeats 4000000 in
set_option maxRecDepth 100000 in
theorem L_X4_openIf_e_27 {p : Program} {l : Launch} {e : Env} {s : State} {m : MethodId} {args : Array Value} {below : List Frame} {meth : Method} {c : Code} {D : va_G} {cy : Nat → ClassId} {b : Nat} (hx : p.tables.exec = Jvm.exec) (hb : c.code = cX4_openIf) (hr : meth.sig.returnType = (none)) (hml : c.maxLocals = 3) (hown : s.vm.findClass RX4 = some m.cls) (hts : ∀ w ∈ TB, w.before args s = true) (hlocks : meth.locks = false) (S : Nat → Bool) (μ0 : mM) (hS5 : S 5 = true) (hS12 : S 12 = true) (hS13 : S 13 = true) (hS14 : S 14 = true) (ef ep : Int32) (h_ef : ef.toInt ≠ 0) : ∀ (f : Nat), ∀ (y1 y2 : Int32) (hy : 0 ≤ y1.toInt ∧ y1.toInt ≤ 800 ∧ 0 ≤ y2.toInt ∧ y2.toInt ≤ 4) (hf : 4 - y2.toInt < (f : Int)) (μ : mM) (hI : IY S μ0 μ) (he1 : μ.1 27 1 = ef) (he2 : μ.1 27 2 = ep) (he5 : μ.1 27 5 = 0) (H : Heap) (locs : List Loc), m_WA (m_A b LAY) D cy s b LAY μ H locs → ∀ ls : Array Slot, lv_has ls 3 [(0, .ref (b + 27)), (1, .int y1), (2, .int y2)] → W p l e (m_R 4 0 0) s m args below meth c H locs 0 0 (MQ below (m_Qv D cy b LAY (fun ν => IY S μ0 ν ∧ (ν.1 27 1 = ef ∧ ν.1 27 2 = ep ∧ ν.1 27 5 = 0))) args s 0 0 (m_A b LAY)) (F0 m 27 ls []) := by
  intro f
  induction f with
  | zero => intro y1 y2 hy hf; exfalso; omega
  | succ f ih =>
    intro y1 y2 hy hf μ hI he1 he2 he5 H locs hW ls hl
    refine lv_iload_n hx hb dX4_openIf_27 rfl (lv_at hl 2 rfl) ?_
    refine lv_iconst (v := 4) hx hb dX4_openIf_28 (by decide) ?_
    refine lv_icmp_ge (tgt := 46) hx hb dX4_openIf_29 (by decide) (fun c1 => ?_) (fun c1 => ?_)
    · have i1 := m_c3 (by decide : (4 : Int32).toInt = 4) (rfl : y2.toInt = _) c1
      refine lv_aload_n hx hb dX4_openIf_46 rfl (lv_at hl 0 rfl) ?_
      refine m_getr hx hb hts hown hW (27) 0 (28) rfl rfl cw_4 rfl (by decide) k_X4_16 dX4_openIf_47 ?_
      refine lv_iload_n hx hb dX4_openIf_50 rfl (lv_at hl 1 rfl) ?_
      refine lv_iconst (v := 2) hx hb dX4_openIf_51 (by decide) ?_
      refine lv_iadd hx hb dX4_openIf_52 ?_
      refine lv_topi (fun x2 ex2 => ?_)
      have tx2 : x2.toInt = y1.toInt + 2 := m_addI ex2 (rfl : y1.toInt = _) (by decide : (2 : Int32).toInt = 2) (by omega) (by omega)
      refine lv_aload_n hx hb dX4_openIf_53 rfl (lv_at hl 0 rfl) ?_
      refine m_aI hW (m_runV (As := []) (rest := [.int x2, .ref (b + 28)]) hx hb hml hown hts hW (27) (g_X4_readSum_e l D cy b S μ0 hS5 hS12 ef ep (by omega) μ hI (by exact he1) (by exact he2) (by exact he5)) mi_X4_readSum k_X4_117 rfl rfl rfl hl.1 rfl (Nat.le_of_ble_eq_true rfl) dX4_openIf_54 ⟨Nat.le_of_ble_eq_true rfl, Nat.le_of_ble_eq_true rfl⟩ ⟨Nat.le_of_ble_eq_true rfl, Nat.le_of_ble_eq_true rfl⟩) (fun x3 μ3 H locs q3 hW => ?_)
      obtain ⟨hI, q3⟩ := q3
      obtain ⟨q3a, q3b, q3c⟩ := q3
      refine m_aV hW (m_runV (As := [.int x2, .int x3]) (rest := []) hx hb hml hown hts hW (28) (g_X5_put_28 l D cy b (fun g => [12].contains g) μ3 rfl x2 x3 μ3 (IY.rf hI.1)) mi_X5_put k_X4_102 rfl rfl rfl hl.1 rfl (Nat.le_of_ble_eq_true rfl) dX4_openIf_57 ⟨Nat.le_of_ble_eq_true rfl, Nat.le_of_ble_eq_true rfl⟩ ⟨Nat.le_of_ble_eq_true rfl, Nat.le_of_ble_eq_true rfl⟩) (fun μ4 H locs q4 hW => ?_)
      obtain ⟨hJ4, q4⟩ := q4
      have hI := hI.tr hJ4 (m_subL (by simp [hS12]))
      refine lv_aload_n hx hb dX4_openIf_60 rfl (lv_at hl 0 rfl) ?_
      refine m_getr hx hb hts hown hW (27) 0 (28) rfl rfl cw_4 rfl (by decide) k_X4_16 dX4_openIf_61 ?_
      refine lv_iload_n hx hb dX4_openIf_64 rfl (lv_at hl 1 rfl) ?_
      refine lv_iconst (v := 1) hx hb dX4_openIf_65 (by decide) ?_
      refine lv_iadd hx hb dX4_openIf_66 ?_
      refine lv_topi (fun x5 ex5 => ?_)
      have tx5 : x5.toInt = y1.toInt + 1 := m_addI ex5 (rfl : y1.toInt = _) (by decide : (1 : Int32).toInt = 1) (by omega) (by omega)
      refine lv_aload_n hx hb dX4_openIf_67 rfl (lv_at hl 0 rfl) ?_
      refine m_geti hx hb hts hown hW (27) 5 rfl rfl cw_4 rfl (by decide) k_X4_37 dX4_openIf_68 ?_
      refine lv_topi (fun x6 ex6 => ?_)
      have ex6 : x6 = 0 := by rw [ex6]; exact ((hJ4.2.1 27 5 rfl).trans (by exact q3c))
      have ex6 := ex6.symm
      subst ex6
      have l_0 : (0 : Int32).toInt = 0 := by decide
      refine m_aV hW (m_runV (As := [.int x5, .int 0]) (rest := []) hx hb hml hown hts hW (28) (g_X5_put_28 l D cy b (fun g => [12].contains g) μ4 rfl x5 0 μ4 (IY.rf hI.1)) mi_X5_put k_X4_102 rfl rfl rfl hl.1 rfl (Nat.le_of_ble_eq_true rfl) dX4_openIf_71 ⟨Nat.le_of_ble_eq_true rfl, Nat.le_of_ble_eq_true rfl⟩ ⟨Nat.le_of_ble_eq_true rfl, Nat.le_of_ble_eq_true rfl⟩) (fun μ7 H locs q7 hW => ?_)
      obtain ⟨hJ7, q7⟩ := q7
      have hI := hI.tr hJ7 (m_subL (by simp [hS12]))
      refine lv_aload_n hx hb dX4_openIf_74 rfl (lv_at hl 0 rfl) ?_
      refine m_geti hx hb hts hown hW (27) 5 rfl rfl cw_4 rfl (by decide) k_X4_37 dX4_openIf_75 ?_
      refine lv_topi (fun x8 ex8 => ?_)
      have ex8 : x8 = 0 := by rw [ex8]; exact ((hJ7.2.1 27 5 rfl).trans (by exact ((hJ4.2.1 27 5 rfl).trans (by exact q3c))))
      have ex8 := ex8.symm
      subst ex8
      refine lv_bipush (v := 6) hx hb dX4_openIf_78 (by decide) ?_
      refine lv_bipush (v := 8) hx hb dX4_openIf_80 (by decide) ?_
      have l_6 : (6 : Int32).toInt = 6 := by decide
      have l_8 : (8 : Int32).toInt = 8 := by decide
      refine m_aI hW (m_runSN (As := [.int 0, .int 6, .int 8]) (rest := []) hx hb hml hown hts hW (g_X11_within l D cy b 0 6 8 μ7 hI.1) ms_X11_within n_X4_60 rfl hl.1 rfl (Nat.le_of_ble_eq_true rfl) dX4_openIf_82 ⟨Nat.le_of_ble_eq_true rfl, Nat.le_of_ble_eq_true rfl⟩ ⟨Nat.le_of_ble_eq_true rfl, Nat.le_of_ble_eq_true rfl⟩) (fun x9 μ9 H locs q9 hW => ?_)
      obtain ⟨q9_m, q9⟩ := q9
      subst q9_m
      rcases q9 with ⟨rfl, q9⟩ | ⟨rfl, q9⟩
      · refine lv_if_eq (tgt := 95) hx hb dX4_openIf_85 (by decide) (fun c => False.elim (by revert c; decide)) (fun _ => ?_)
        refine lv_aload_n hx hb dX4_openIf_88 rfl (lv_at hl 0 rfl) ?_
        refine m_aV hW (m_runV (As := []) (rest := []) hx hb hml hown hts hW (27) (g_X4_advance_e l D cy b S μ0 hS5 ef ep (by omega) μ7 hI (by exact ((hJ7.2.1 27 1 rfl).trans (by exact ((hJ4.2.1 27 1 rfl).trans (by exact q3a))))) (by exact ((hJ7.2.1 27 2 rfl).trans (by exact ((hJ4.2.1 27 2 rfl).trans (by exact q3b))))) (by exact ((hJ7.2.1 27 5 rfl).trans (by exact ((hJ4.2.1 27 5 rfl).trans (by exact q3c)))))) mi_X4_advance k_X4_80 rfl rfl rfl hl.1 rfl (Nat.le_of_ble_eq_true rfl) dX4_openIf_89 ⟨Nat.le_of_ble_eq_true rfl, Nat.le_of_ble_eq_true rfl⟩ ⟨Nat.le_of_ble_eq_true rfl, Nat.le_of_ble_eq_true rfl⟩) (fun μ10 H locs q10 hW => ?_)
        obtain ⟨hI, q10⟩ := q10
        obtain ⟨q10a, q10b, q10c⟩ := q10
        refine lv_goto (tgt := 100) hx hb dX4_openIf_92 (by decide) ?_
        refine lv_aload_n hx hb dX4_openIf_100 rfl (lv_at hl 0 rfl) ?_
        refine m_getr hx hb hts hown hW (27) 0 (28) rfl rfl cw_4 rfl (by decide) k_X4_16 dX4_openIf_101 ?_
        refine lv_iload_n hx hb dX4_openIf_104 rfl (lv_at hl 1 rfl) ?_
        refine lv_iconst (v := 3) hx hb dX4_openIf_105 (by decide) ?_
        refine lv_iadd hx hb dX4_openIf_106 ?_
        refine lv_topi (fun x11 ex11 => ?_)
        have tx11 : x11.toInt = y1.toInt + 3 := m_addI ex11 (rfl : y1.toInt = _) (by decide : (3 : Int32).toInt = 3) (by omega) (by omega)
        refine lv_aload_n hx hb dX4_openIf_107 rfl (lv_at hl 0 rfl) ?_
        refine m_aI hW (m_runV (As := []) (rest := [.int x11, .ref (b + 28)]) hx hb hml hown hts hW (27) (g_X4_readSum_e l D cy b S μ0 hS5 hS12 ef ep (by omega) μ10 hI (by exact q10a) (by exact q10b) (by exact q10c)) mi_X4_readSum k_X4_117 rfl rfl rfl hl.1 rfl (Nat.le_of_ble_eq_true rfl) dX4_openIf_108 ⟨Nat.le_of_ble_eq_true rfl, Nat.le_of_ble_eq_true rfl⟩ ⟨Nat.le_of_ble_eq_true rfl, Nat.le_of_ble_eq_true rfl⟩) (fun x12 μ12 H locs q12 hW => ?_)
        obtain ⟨hI, q12⟩ := q12
        obtain ⟨q12a, q12b, q12c⟩ := q12
        refine m_aV hW (m_runV (As := [.int x11, .int x12]) (rest := []) hx hb hml hown hts hW (28) (g_X5_put_28 l D cy b (fun g => [12].contains g) μ12 rfl x11 x12 μ12 (IY.rf hI.1)) mi_X5_put k_X4_102 rfl rfl rfl hl.1 rfl (Nat.le_of_ble_eq_true rfl) dX4_openIf_111 ⟨Nat.le_of_ble_eq_true rfl, Nat.le_of_ble_eq_true rfl⟩ ⟨Nat.le_of_ble_eq_true rfl, Nat.le_of_ble_eq_true rfl⟩) (fun μ13 H locs q13 hW => ?_)
        obtain ⟨hJ13, q13⟩ := q13
        have hI := hI.tr hJ13 (m_subL (by simp [hS12]))
        exact m_vret hx hb hr hlocks hW (⟨hI, ⟨by rw [show μ13.1 27 1 = ef from by exact ((hJ13.2.1 27 1 rfl).trans (by exact q12a))], by rw [show μ13.1 27 2 = ep from by exact ((hJ13.2.1 27 2 rfl).trans (by exact q12b))], by rw [show μ13.1 27 5 = 0 from by exact ((hJ13.2.1 27 5 rfl).trans (by exact q12c))]⟩⟩) dX4_openIf_114
      · refine lv_if_eq (tgt := 95) hx hb dX4_openIf_85 (by decide) (fun _ => ?_) (fun c => False.elim (by revert c; decide))
        refine lv_aload_n hx hb dX4_openIf_95 rfl (lv_at hl 0 rfl) ?_
        refine lv_iconst (v := 1) hx hb dX4_openIf_96 (by decide) ?_
        have l_1 : (1 : Int32).toInt = 1 := by decide
        refine m_aV hW (m_runV (As := [.int 1]) (rest := []) hx hb hml hown hts hW (27) (g_X4_fail_e l D cy b S μ0 hS5 ef ep (by omega) 1 μ7 hI (by exact ((hJ7.2.1 27 1 rfl).trans (by exact ((hJ4.2.1 27 1 rfl).trans (by exact q3a))))) (by exact ((hJ7.2.1 27 2 rfl).trans (by exact ((hJ4.2.1 27 2 rfl).trans (by exact q3b))))) (by exact ((hJ7.2.1 27 5 rfl).trans (by exact ((hJ4.2.1 27 5 rfl).trans (by exact q3c)))))) mi_X4_fail k_X4_74 rfl rfl rfl hl.1 rfl (Nat.le_of_ble_eq_true rfl) dX4_openIf_97 ⟨Nat.le_of_ble_eq_true rfl, Nat.le_of_ble_eq_true rfl⟩ ⟨Nat.le_of_ble_eq_true rfl, Nat.le_of_ble_eq_true rfl⟩) (fun μ14 H locs q14 hW => ?_)
        obtain ⟨hI, q14⟩ := q14
        obtain ⟨q14a, q14b, q14c⟩ := q14
        refine lv_aload_n hx hb dX4_openIf_100 rfl (lv_at hl 0 rfl) ?_
        refine m_getr hx hb hts hown hW (27) 0 (28) rfl rfl cw_4 rfl (by decide) k_X4_16 dX4_openIf_101 ?_
        refine lv_iload_n hx hb dX4_openIf_104 rfl (lv_at hl 1 rfl) ?_
        refine lv_iconst (v := 3) hx hb dX4_openIf_105 (by decide) ?_
        refine lv_iadd hx hb dX4_openIf_106 ?_
        refine lv_topi (fun x15 ex15 => ?_)
        have tx15 : x15.toInt = y1.toInt + 3 := m_addI ex15 (rfl : y1.toInt = _) (by decide : (3 : Int32).toInt = 3) (by omega) (by omega)
        refine lv_aload_n hx hb dX4_openIf_107 rfl (lv_at hl 0 rfl) ?_
        refine m_aI hW (m_runV (As := []) (rest := [.int x15, .ref (b + 28)]) hx hb hml hown hts hW (27) (g_X4_readSum_e l D cy b S μ0 hS5 hS12 ef ep (by omega) μ14 hI (by exact q14a) (by exact q14b) (by exact q14c)) mi_X4_readSum k_X4_117 rfl rfl rfl hl.1 rfl (Nat.le_of_ble_eq_true rfl) dX4_openIf_108 ⟨Nat.le_of_ble_eq_true rfl, Nat.le_of_ble_eq_true rfl⟩ ⟨Nat.le_of_ble_eq_true rfl, Nat.le_of_ble_eq_true rfl⟩) (fun x16 μ16 H locs q16 hW => ?_)
        obtain ⟨hI, q16⟩ := q16
        obtain ⟨q16a, q16b, q16c⟩ := q16
        refine m_aV hW (m_runV (As := [.int x15, .int x16]) (rest := []) hx hb hml hown hts hW (28) (g_X5_put_28 l D cy b (fun g => [12].contains g) μ16 rfl x15 x16 μ16 (IY.rf hI.1)) mi_X5_put k_X4_102 rfl rfl rfl hl.1 rfl (Nat.le_of_ble_eq_true rfl) dX4_openIf_111 ⟨Nat.le_of_ble_eq_true rfl, Nat.le_of_ble_eq_true rfl⟩ ⟨Nat.le_of_ble_eq_true rfl, Nat.le_of_ble_eq_true rfl⟩) (fun μ17 H locs q17 hW => ?_)
        obtain ⟨hJ17, q17⟩ := q17
        have hI := hI.tr hJ17 (m_subL (by simp [hS12]))
        exact m_vret hx hb hr hlocks hW (⟨hI, ⟨by rw [show μ17.1 27 1 = ef from by exact ((hJ17.2.1 27 1 rfl).trans (by exact q16a))], by rw [show μ17.1 27 2 = ep from by exact ((hJ17.2.1 27 2 rfl).trans (by exact q16b))], by rw [show μ17.1 27 5 = 0 from by exact ((hJ17.2.1 27 5 rfl).trans (by exact q16c))]⟩⟩) dX4_openIf_114
    · have i1 := m_c4 (by decide : (4 : Int32).toInt = 4) (rfl : y2.toInt = _) c1
      refine lv_aload_n hx hb dX4_openIf_32 rfl (lv_at hl 0 rfl) ?_
      refine m_getr hx hb hts hown hW (27) 0 (28) rfl rfl cw_4 rfl (by decide) k_X4_16 dX4_openIf_33 ?_
      refine lv_iconst (v := 0) hx hb dX4_openIf_36 (by decide) ?_
      have l_0 : (0 : Int32).toInt = 0 := by decide
      refine m_aV hW (m_runV (As := [.int 0]) (rest := []) hx hb hml hown hts hW (28) (g_X5_add_28 l D cy b (fun g => [12].contains g) μ rfl 0 μ (IY.rf hI.1)) mi_X5_add k_X4_83 rfl rfl rfl hl.1 rfl (Nat.le_of_ble_eq_true rfl) dX4_openIf_37 ⟨Nat.le_of_ble_eq_true rfl, Nat.le_of_ble_eq_true rfl⟩ ⟨Nat.le_of_ble_eq_true rfl, Nat.le_of_ble_eq_true rfl⟩) (fun μ18 H locs q18 hW => ?_)
      obtain ⟨hJ18, q18⟩ := q18
      have hI := hI.tr hJ18 (m_subL (by simp [hS12]))
      obtain ⟨x19, ex19⟩ : ∃ z : Int32, z = y2 + 1 := ⟨_, rfl⟩
      refine lv_iinc (v := x19) (lv' := [(2, .int x19), (0, .ref (b + 27)), (1, .int y1)]) hx hb dX4_openIf_40 hl (k := 2) rfl (by rw [ex19]; rfl) (by decide) rfl (fun ls hl => ?_)
      have tx19 : x19.toInt = y2.toInt + 1 := m_addI ex19 (rfl : y2.toInt = _) (by decide : (1 : Int32).toInt = 1) (by omega) (by omega)
      refine lv_goto (tgt := 27) hx hb dX4_openIf_43 (by decide) ?_
      exact ih y1 x19 (by omega) (by omega) μ18 hI (by exact ((hJ18.2.1 27 1 rfl).trans (by exact he1))) (by exact ((hJ18.2.1 27 2 rfl).trans (by exact he2))) (by exact ((hJ18.2.1 27 5 rfl).trans (by exact he5))) _ _ hW ls (lv_sub hl [1, 2, 0] rfl)
set_option maxHeartbeats 4000000 in
set_option maxRecDepth 100000 in
theorem g_X4_openIf_e (l : Launch) (D : va_G) (cy : Nat → ClassId) (b : Nat) (S : Nat → Bool) (μ0 : mM) (hS5 : S 5 = true) (hS12 : S 12 = true) (hS13 : S 13 = true) (hS14 : S 14 = true) (ef ep : Int32) (h_ef : ef.toInt ≠ 0) (μ : mM) (hI : IY S μ0 μ) (he1 : μ.1 27 1 = ef) (he2 : μ.1 27 2 = ep) (he5 : μ.1 27 5 = 0) : m_Cv l yX4_openIf cX4_openIf 3 (none) 4 D cy b LAY μ [.ref (b + 27)] (fun ν => IY S μ0 ν ∧ (ν.1 27 1 = ef ∧ ν.1 27 2 = ep ∧ ν.1 27 5 = 0)) := by
  unfold m_Cv
  refine m_of (by decide) (Nat.le_of_ble_eq_true rfl) ?_
  intro p e s m below meth c hx hb hr hml hown hts hlocks _ hW ls hl
  have hown : s.vm.findClass RX4 = some m.cls := hown
  have hl : lv_has ls 3 [(0, .ref (b + 27))] := hl
  refine lv_aload_n hx hb dX4_openIf_0 rfl (lv_at hl 0 rfl) ?_
  refine m_getr hx hb hts hown hW (27) 0 (28) rfl rfl cw_4 rfl (by decide) k_X4_16 dX4_openIf_1 ?_
  refine m_geti hx hb hts hown hW (28) 1 rfl rfl cw_5 rfl (by decide) k_X4_50 dX4_openIf_4 ?_
  refine lv_topi (fun x1 ex1 => ?_)
  have bx1 : 0 ≤ x1.toInt ∧ x1.toInt ≤ 800 := by rw [ex1]; exact hI.1 _ _ _ _ rfl
  refine lv_istore_n (lv' := [(1, .int x1), (0, .ref (b + 27))]) hx hb dX4_openIf_7 rfl hl (by decide) rfl (fun ls hl => ?_)
  refine lv_aload_n hx hb dX4_openIf_8 rfl (lv_at hl 1 rfl) ?_
  refine m_getr hx hb hts hown hW (27) 6 (37) rfl rfl cw_4 rfl (by decide) k_X4_40 dX4_openIf_9 ?_
  refine lv_bipush (v := 16) hx hb dX4_openIf_12 (by decide) ?_
  have l_16 : (16 : Int32).toInt = 16 := by decide
  refine m_aV hW (m_runV (As := [.int 16]) (rest := []) hx hb hml hown hts hW (37) (g_X5_add_37e l D cy b (fun g => [13].contains g) μ rfl 16 μ (IY.rf hI.1)) mi_X5_add k_X4_83 rfl rfl rfl hl.1 rfl (Nat.le_of_ble_eq_true rfl) dX4_openIf_14 ⟨Nat.le_of_ble_eq_true rfl, Nat.le_of_ble_eq_true rfl⟩ ⟨Nat.le_of_ble_eq_true rfl, Nat.le_of_ble_eq_true rfl⟩) (fun μ2 H locs q2 hW => ?_)
  obtain ⟨hJ2, q2⟩ := q2
  have hI := hI.tr hJ2 (m_subL (by simp [hS13]))
  refine lv_aload_n hx hb dX4_openIf_17 rfl (lv_at hl 1 rfl) ?_
  refine m_getr hx hb hts hown hW (27) 7 (39) rfl rfl cw_4 rfl (by decide) k_X4_43 dX4_openIf_18 ?_
  refine lv_iload_n hx hb dX4_openIf_21 rfl (lv_at hl 0 rfl) ?_
  refine m_aV hW (m_runV (As := [.int x1]) (rest := []) hx hb hml hown hts hW (39) (g_X5_add_39 l D cy b (fun g => [14].contains g) μ2 rfl x1 μ2 (IY.rf hI.1)) mi_X5_add k_X4_83 rfl rfl rfl hl.1 rfl (Nat.le_of_ble_eq_true rfl) dX4_openIf_22 ⟨Nat.le_of_ble_eq_true rfl, Nat.le_of_ble_eq_true rfl⟩ ⟨Nat.le_of_ble_eq_true rfl, Nat.le_of_ble_eq_true rfl⟩) (fun μ3 H locs q3 hW => ?_)
  obtain ⟨hJ3, q3⟩ := q3
  have hI := hI.tr hJ3 (m_subL (by simp [hS14]))
  refine lv_iconst (v := 0) hx hb dX4_openIf_25 (by decide) ?_
  refine lv_istore_n (lv' := [(2, .int 0), (1, .int x1), (0, .ref (b + 27))]) hx hb dX4_openIf_26 rfl hl (by decide) rfl (fun ls hl => ?_)
  have l_0 : (0 : Int32).toInt = 0 := by decide
  exact L_X4_openIf_e_27 hx hb hr hml hown hts hlocks S μ0 hS5 hS12 hS13 hS14 ef ep h_ef  5 x1 0 (by omega) (by omega) μ3 hI (by exact ((hJ3.2.1 27 1 rfl).trans (by exact ((hJ2.2.1 27 1 rfl).trans (by exact he1))))) (by exact ((hJ3.2.1 27 2 rfl).trans (by exact ((hJ2.2.1 27 2 rfl).trans (by exact he2))))) (by exact ((hJ3.2.1 27 5 rfl).trans (by exact ((hJ2.2.1 27 5 rfl).trans (by exact he5))))) _ _ hW ls (lv_sub hl [2, 1, 0] rfl)
