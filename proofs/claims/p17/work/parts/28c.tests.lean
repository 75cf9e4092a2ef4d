set_option maxHeartbeats 4000000 in
set_option maxRecDepth 100000 in
theorem g_X11_way_f (l : Launch) (D : va_G) (cy : Nat → ClassId) (b oq oa ov : Nat) (S : Nat → Bool) (μ0 : mM) (hS0 : S 0 = true) (hS2 : S 2 = true) (hS3 : S 3 = true) (hS5 : S 5 = true) (k : Int32) (μ : mM) (hI : IY S μ0 μ) : m_CiO l yX11_way cX11_way 4 ((some .boolean)) 9 D cy b oq oa ov μ [.ref (b + 0), .int k] (fun r ν => IY S μ0 ν ∧ ((r = 1 ∨ r = 0) ∧ ν.1 23 1 = 0)) := by
  unfold m_CiO
  refine m_ofO (by decide) (Nat.le_of_ble_eq_true rfl) ?_
  intro p e s m below meth c hx hb hr hml hown hts hlocks _ hW hO ls hl
  have hown : s.vm.findClass RX11 = some m.cls := hown
  have hl : lv_has ls 4 [(0, .ref (b + 0)), (1, .int k)] := hl
  refine lv_aload_n hx hb dX11_way_0 rfl (lv_at hl 0 rfl) ?_
  refine lv_iconst (v := 0) hx hb dX11_way_1 (by decide) ?_
  refine m_puti hx hb hts hown hW (0) 9 rfl rfl cw_11 tyX11_ok nmX11 rfl (by decide) k_X11_70 rfl rfl rfl dX11_way_2 (fun H locs hW _ => ?_)
  generalize hμ1 : m_si μ (0) 9 0 = μ1 at hW
  have hI := hI.si0 hμ1 rfl hS0
  refine lv_aload_n hx hb dX11_way_5 rfl (lv_at hl 0 rfl) ?_
  refine lv_iconst (v := (-1)) hx hb dX11_way_6 (by decide) ?_
  refine m_puti hx hb hts hown hW (0) 10 rfl rfl cw_11 tyX11_ok nmX11 rfl (by decide) k_X11_74 rfl rfl rfl dX11_way_7 (fun H locs hW _ => ?_)
  generalize hμ2 : m_si μ1 (0) 10 (-1) = μ2 at hW
  have hI := hI.si0 hμ2 rfl hS0
  refine lv_iconst (v := 0) hx hb dX11_way_10 (by decide) ?_
  refine lv_istore_n (lv' := [(2, .int 0), (0, .ref (b + 0)), (1, .int k)]) hx hb dX11_way_11 rfl hl (by decide) rfl (fun ls hl => ?_)
  refine lv_aload_n hx hb dX11_way_12 rfl (lv_at hl 1 rfl) ?_
  refine m_getr hx hb hts hown hW (0) 0 (1) rfl rfl cw_11 rfl (by decide) k_X11_10 dX11_way_13 ?_
  refine lv_iload_n hx hb dX11_way_16 rfl (lv_at hl 2 rfl) ?_
  refine m_aQ hW (m_runV (As := [.int k]) (rest := []) hx hb hml hown hts hW (1) (g_X10_programOf l D cy b k μ2 hI.1) mi_X10_programOf k_X11_105 rfl rfl rfl hl.1 rfl (Nat.le_of_ble_eq_true rfl) dX11_way_17 ⟨Nat.le_of_ble_eq_true rfl, Nat.le_of_ble_eq_true rfl⟩ ⟨Nat.le_of_ble_eq_true rfl, Nat.le_of_ble_eq_true rfl⟩) (fun μ3 H locs q3 hW => ?_) (fun r3 μ3 H locs q3 hW => ?_)
  · obtain ⟨q3_m, q3⟩ := q3
    subst q3_m
    refine lv_astore_nN (lv' := [(3, .null), (2, .int 0), (0, .ref (b + 0)), (1, .int k)]) hx hb dX11_way_20 rfl hl (by decide) rfl (fun ls hl => ?_)
    refine lv_aload_nN hx hb dX11_way_21 rfl (lv_at hl 0 rfl) ?_
    refine lv_ifnullN (tgt := 74) hx hb dX11_way_22 (by decide) ?_
    refine lv_aload_n hx hb dX11_way_74 rfl (lv_at hl 2 rfl) ?_
    refine m_getr hx hb hts hown hW (0) 1 (23) rfl rfl cw_11 rfl (by decide) k_X11_21 dX11_way_75 ?_
    refine lv_iconst (v := 0) hx hb dX11_way_78 (by decide) ?_
    refine m_puti hx hb hts hown hW (23) 1 rfl rfl cw_5 tyX5_ok nmX5 rfl (by decide) k_X11_99 rfl rfl rfl dX11_way_79 (fun H locs hW _ => ?_)
    generalize hμ4 : m_si μ2 (23) 1 0 = μ4 at hW
    have hI := hI.si1 hμ4 rfl (by decide) hS3
    refine lv_iload_n hx hb dX11_way_82 rfl (lv_at hl 1 rfl) ?_
    exact m_iret hx hb hr hlocks hW (by decide) (⟨hI, ⟨Or.inr rfl, by rw [show μ4.1 23 1 = 0 from by rw [← hμ4]; first | rfl | exact if_pos ⟨rfl, rfl⟩]⟩⟩) dX11_way_83
  · obtain ⟨q3_m, q3⟩ := q3
    subst q3_m
    obtain ⟨n3, ra3, q3⟩ : ∃ n, n < 8 ∧ r3 = 7 + 2 * n := by
      rcases q3 with ⟨z, _⟩ | ⟨n, h, z⟩
      · cases z
      · exact ⟨n, h, Option.some.inj z⟩
    subst q3
    obtain ⟨rb3, rc3, rd3, re3, rf3, rg3, rh3⟩ := m_rows n3 ra3
    refine lv_astore_n (lv' := [(3, .ref (b + (7 + 2 * n3))), (2, .int 0), (0, .ref (b + 0)), (1, .int k)]) hx hb dX11_way_20 rfl hl (by decide) rfl (fun ls hl => ?_)
    refine lv_aload_n hx hb dX11_way_21 rfl (lv_at hl 0 rfl) ?_
    refine lv_ifnull hx hb dX11_way_22 ?_
    refine lv_aload_n hx hb dX11_way_25 rfl (lv_at hl 2 rfl) ?_
    refine m_getr hx hb hts hown hW (0) 3 (27) rfl rfl cw_11 rfl (by decide) k_X11_31 dX11_way_26 ?_
    refine lv_aload_n hx hb dX11_way_29 rfl (lv_at hl 2 rfl) ?_
    refine m_getr hx hb hts hown hW (0) 1 (23) rfl rfl cw_11 rfl (by decide) k_X11_21 dX11_way_30 ?_
    refine m_aI hW (m_runVO (As := [.ref (b + 23)]) (rest := []) hx hb hml hown hts hW hO (27) (g_X4_read l D cy b oq oa ov S μ0 hS5 μ2 hI) mi_X4_read k_X11_109 rfl rfl rfl hl.1 rfl (Nat.le_of_ble_eq_true rfl) dX11_way_33 ⟨Nat.le_of_ble_eq_true rfl, Nat.le_of_ble_eq_true rfl⟩ ⟨Nat.le_of_ble_eq_true rfl, Nat.le_of_ble_eq_true rfl⟩) (fun x5 μ5 H locs q5 hW => ?_)
    obtain ⟨hI, q5⟩ := q5
    rcases q5 with ⟨rfl, q5⟩ | ⟨rfl, q5⟩
    · refine lv_istore_n (lv' := [(2, .int 1), (3, .ref (b + (7 + 2 * n3))), (0, .ref (b + 0)), (1, .int k)]) hx hb dX11_way_36 rfl hl (by decide) rfl (fun ls hl => ?_)
      refine lv_aload_n hx hb dX11_way_37 rfl (lv_at hl 2 rfl) ?_
      refine lv_aload_n hx hb dX11_way_38 rfl (lv_at hl 2 rfl) ?_
      refine m_getr hx hb hts hown hW (0) 3 (27) rfl rfl cw_11 rfl (by decide) k_X11_31 dX11_way_39 ?_
      refine m_geti hx hb hts hown hW (27) 1 rfl rfl cw_4 rfl (by decide) k_X11_113 dX11_way_42 ?_
      refine lv_topi (fun x6 ex6 => ?_)
      refine m_puti hx hb hts hown hW (0) 9 rfl rfl cw_11 tyX11_ok nmX11 rfl (by decide) k_X11_70 rfl rfl rfl dX11_way_45 (fun H locs hW _ => ?_)
      generalize hμ7 : m_si μ5 (0) 9 x6 = μ7 at hW
      have hI := hI.si0 hμ7 rfl hS0
      refine lv_aload_n hx hb dX11_way_48 rfl (lv_at hl 2 rfl) ?_
      refine lv_aload_n hx hb dX11_way_49 rfl (lv_at hl 2 rfl) ?_
      refine m_getr hx hb hts hown hW (0) 3 (27) rfl rfl cw_11 rfl (by decide) k_X11_31 dX11_way_50 ?_
      refine m_geti hx hb hts hown hW (27) 2 rfl rfl cw_4 rfl (by decide) k_X11_116 dX11_way_53 ?_
      refine lv_topi (fun x8 ex8 => ?_)
      refine m_puti hx hb hts hown hW (0) 10 rfl rfl cw_11 tyX11_ok nmX11 rfl (by decide) k_X11_74 rfl rfl rfl dX11_way_56 (fun H locs hW _ => ?_)
      generalize hμ9 : m_si μ7 (0) 10 x8 = μ9 at hW
      have hI := hI.si0 hμ9 rfl hS0
      refine lv_iload_n hx hb dX11_way_59 rfl (lv_at hl 0 rfl) ?_
      refine lv_if_eq (tgt := 74) hx hb dX11_way_60 (by decide) (fun c => False.elim (by revert c; decide)) (fun _ => ?_)
      refine lv_aload_n hx hb dX11_way_63 rfl (lv_at hl 1 rfl) ?_
      refine lv_aload_n hx hb dX11_way_64 rfl (lv_at hl 2 rfl) ?_
      refine m_getr hx hb hts hown hW (0) 3 (27) rfl rfl cw_11 rfl (by decide) k_X11_31 dX11_way_65 ?_
      refine m_getr hx hb hts hown hW (27) 0 (28) rfl rfl cw_4 rfl (by decide) k_X11_117 dX11_way_68 ?_
      refine m_aV hW (m_runV (As := [.ref (b + 28)]) (rest := []) hx hb hml hown hts hW (7 + 2 * n3) (g_X5_copyFrom l D cy b S μ0 (7 + 2 * n3) (7 + 2 * n3 + 1) 800 rc3 rd3 (by decide) re3 rf3 (by rw [rg3]; exact hS2) (fun j => by rw [rh3 j]; exact hS2) 28 29 800 rfl rfl (by decide) rfl (fun _ => rfl) μ9 hI) mi_X5_copyFrom k_X11_120 rc3 rfl rfl hl.1 rfl (Nat.le_of_ble_eq_true rfl) dX11_way_71 ⟨Nat.le_of_ble_eq_true rfl, Nat.le_of_ble_eq_true rfl⟩ ⟨Nat.le_of_ble_eq_true rfl, Nat.le_of_ble_eq_true rfl⟩) (fun μ10 H locs q10 hW => ?_)
      obtain ⟨hI, q10⟩ := q10
      refine lv_aload_n hx hb dX11_way_74 rfl (lv_at hl 2 rfl) ?_
      refine m_getr hx hb hts hown hW (0) 1 (23) rfl rfl cw_11 rfl (by decide) k_X11_21 dX11_way_75 ?_
      refine lv_iconst (v := 0) hx hb dX11_way_78 (by decide) ?_
      refine m_puti hx hb hts hown hW (23) 1 rfl rfl cw_5 tyX5_ok nmX5 rfl (by decide) k_X11_99 rfl rfl rfl dX11_way_79 (fun H locs hW _ => ?_)
      generalize hμ11 : m_si μ10 (23) 1 0 = μ11 at hW
      have hI := hI.si1 hμ11 rfl (by decide) hS3
      refine lv_iload_n hx hb dX11_way_82 rfl (lv_at hl 0 rfl) ?_
      exact m_iret hx hb hr hlocks hW (by decide) (⟨hI, ⟨Or.inl rfl, by rw [show μ11.1 23 1 = 0 from by rw [← hμ11]; first | rfl | exact if_pos ⟨rfl, rfl⟩]⟩⟩) dX11_way_83
    · refine lv_istore_n (lv' := [(2, .int 0), (3, .ref (b + (7 + 2 * n3))), (0, .ref (b + 0)), (1, .int k)]) hx hb dX11_way_36 rfl hl (by decide) rfl (fun ls hl => ?_)
      refine lv_aload_n hx hb dX11_way_37 rfl (lv_at hl 2 rfl) ?_
      refine lv_aload_n hx hb dX11_way_38 rfl (lv_at hl 2 rfl) ?_
      refine m_getr hx hb hts hown hW (0) 3 (27) rfl rfl cw_11 rfl (by decide) k_X11_31 dX11_way_39 ?_
      refine m_geti hx hb hts hown hW (27) 1 rfl rfl cw_4 rfl (by decide) k_X11_113 dX11_way_42 ?_
      refine lv_topi (fun x12 ex12 => ?_)
      refine m_puti hx hb hts hown hW (0) 9 rfl rfl cw_11 tyX11_ok nmX11 rfl (by decide) k_X11_70 rfl rfl rfl dX11_way_45 (fun H locs hW _ => ?_)
      generalize hμ13 : m_si μ5 (0) 9 x12 = μ13 at hW
      have hI := hI.si0 hμ13 rfl hS0
      refine lv_aload_n hx hb dX11_way_48 rfl (lv_at hl 2 rfl) ?_
      refine lv_aload_n hx hb dX11_way_49 rfl (lv_at hl 2 rfl) ?_
      refine m_getr hx hb hts hown hW (0) 3 (27) rfl rfl cw_11 rfl (by decide) k_X11_31 dX11_way_50 ?_
      refine m_geti hx hb hts hown hW (27) 2 rfl rfl cw_4 rfl (by decide) k_X11_116 dX11_way_53 ?_
      refine lv_topi (fun x14 ex14 => ?_)
      refine m_puti hx hb hts hown hW (0) 10 rfl rfl cw_11 tyX11_ok nmX11 rfl (by decide) k_X11_74 rfl rfl rfl dX11_way_56 (fun H locs hW _ => ?_)
      generalize hμ15 : m_si μ13 (0) 10 x14 = μ15 at hW
      have hI := hI.si0 hμ15 rfl hS0
      refine lv_iload_n hx hb dX11_way_59 rfl (lv_at hl 0 rfl) ?_
      refine lv_if_eq (tgt := 74) hx hb dX11_way_60 (by decide) (fun _ => ?_) (fun c => False.elim (by revert c; decide))
      refine lv_aload_n hx hb dX11_way_74 rfl (lv_at hl 2 rfl) ?_
      refine m_getr hx hb hts hown hW (0) 1 (23) rfl rfl cw_11 rfl (by decide) k_X11_21 dX11_way_75 ?_
      refine lv_iconst (v := 0) hx hb dX11_way_78 (by decide) ?_
      refine m_puti hx hb hts hown hW (23) 1 rfl rfl cw_5 tyX5_ok nmX5 rfl (by decide) k_X11_99 rfl rfl rfl dX11_way_79 (fun H locs hW _ => ?_)
      generalize hμ16 : m_si μ15 (23) 1 0 = μ16 at hW
      have hI := hI.si1 hμ16 rfl (by decide) hS3
      refine lv_iload_n hx hb dX11_way_82 rfl (lv_at hl 0 rfl) ?_
      exact m_iret hx hb hr hlocks hW (by decide) (⟨hI, ⟨Or.inr rfl, by rw [show μ16.1 23 1 = 0 from by rw [← hμ16]; first | rfl | exact if_pos ⟨rfl, rfl⟩]⟩⟩) dX11_way_83
set_option maxHeartbeats 4000000 in
set_option maxRecDepth 100000 in
theorem L_X12_way_f_77 {p : Program} {l : Launch} {e : Env} {s : State} {m : MethodId} {args : Array Value} {below : List Frame} {meth : Method} {c : Code} {D : va_G} {cy : Nat → ClassId} {b : Nat} (hx : p.tables.exec = Jvm.exec) (hb : c.code = cX12_way) (hr : meth.sig.returnType = ((some .boolean))) (hml : c.maxLocals = 7) (hown : s.vm.findClass RX12 = some m.cls) (hts : ∀ w ∈ TB, w.before args s = true) (hlocks : meth.locks = false) (S : Nat → Bool) (μ0 : mM) (hS20 : S 20 = true) (hS23 : S 23 = true) (hS26 : S 26 = true) (hS24 : S 24 = true) (hS25 : S 25 = true) (hS33 : S 33 = true) (hS34 : S 34 = true) (hS35 : S 35 = true) (hS36 : S 36 = true) (hS41 : S 41 = true) (k : Int32) : ∀ (f : Nat), ∀ (y4 : Int32) (hy : 0 ≤ y4.toInt ∧ y4.toInt ≤ 400 ∧ 0 ≤ k.toInt ∧ k.toInt ≤ 7) (hf : 400 - y4.toInt < (f : Int)) (μ : mM) (hI : IY S μ0 μ) (hcy : m_CY μ k.toNatClampNeg y4.toNatClampNeg) (htp : μ.1 81 35 = 0) (H : Heap) (locs : List Loc), m_WA (m_A b LAY) D cy s b LAY μ H locs → ∀ ls : Array Slot, lv_has ls 7 [(0, .ref (b + 81)), (1, .int k), (4, .int y4)] → W p l e (m_R 7 0 0) s m args below meth c H locs 0 0 (MQ below (m_Qi D cy b LAY (fun r ν => IY S μ0 ν ∧ (((r = 1 ∨ r = 0) ∧ ν.1 81 35 = 0) ∧ m_GP ν))) args s 0 0 (m_A b LAY)) (F0 m 77 ls []) := by
  intro f
  induction f with
  | zero => intro y4 hy hf; exfalso; omega
  | succ f ih =>
    intro y4 hy hf μ hI hcy htp H locs hW ls hl
    have hI0_ := hI
    refine lv_iload hx hb dX12_way_77 (lv_at hl 2 rfl) ?_
    refine lv_sipush (v := 400) hx hb dX12_way_79 (by decide) ?_
    refine lv_icmp_ge (tgt := 235) hx hb dX12_way_82 (by decide) (fun c1 => ?_) (fun c1 => ?_)
    · have i1 := m_c3 (by decide : (400 : Int32).toInt = 400) (rfl : y4.toInt = _) c1
      refine lv_aload_n hx hb dX12_way_235 rfl (lv_at hl 0 rfl) ?_
      refine m_getr hx hb hts hown hW (81) 44 (111) rfl rfl cw_12 rfl (by decide) k_X12_110 dX12_way_236 ?_
      refine lv_iload_n hx hb dX12_way_239 rfl (lv_at hl 1 rfl) ?_
      refine lv_aload_n hx hb dX12_way_240 rfl (lv_at hl 0 rfl) ?_
      refine m_getr hx hb hts hown hW (81) 44 (111) rfl rfl cw_12 rfl (by decide) k_X12_110 dX12_way_241 ?_
      refine lv_bipush (v := 8) hx hb dX12_way_244 (by decide) ?_
      refine m_iald hx hb hW (111) rfl (vp_in_iff.mpr ⟨by decide, by decide⟩) dX12_way_246 ?_
      refine lv_topi (fun x2 ex2 => ?_)
      have bx2 : 0 ≤ x2.toInt ∧ x2.toInt ≤ 400 := by rw [ex2]; exact hI.1 _ _ _ _ rfl
      refine m_iast hx hb hW (111) rfl (m_ixI (rfl : k.toInt = _) (by omega) (by omega)) dX12_way_247 (fun H locs hW _ => ?_)
      generalize hμ3 : m_si μ (111) (k : Int32).toNatClampNeg x2 = μ3 at hW
      have hI := hI.si1 hμ3 rfl (by omega) hS33
      have hgp : m_GP μ3 := m_CY.done (k := k.toNatClampNeg) (v := x2) (by have ck_y := m_ckI (x := y4) (by omega); rw [show y4.toNatClampNeg = 400 from by omega] at hcy; exact hcy) (m_ck (by omega)) ex2.symm (m_c400 (by omega)) hμ3
      refine lv_iconst (v := 1) hx hb dX12_way_248 (by decide) ?_
      exact m_iret hx hb hr hlocks hW (by decide) (⟨hI, ⟨⟨Or.inl rfl, by rw [show μ3.1 81 35 = 0 from by rw [← hμ3]; exact htp]⟩, hgp⟩⟩) dX12_way_249
    · have i1 := m_c4 (by decide : (400 : Int32).toInt = 400) (rfl : y4.toInt = _) c1
      refine lv_sipush (v := 400) hx hb dX12_way_85 (by decide) ?_
      refine lv_iload_n hx hb dX12_way_88 rfl (lv_at hl 1 rfl) ?_
      refine lv_imul hx hb dX12_way_89 ?_
      refine lv_topi (fun x4 ex4 => ?_)
      have tx4 : x4.toInt = 400 * k.toInt := m_mulI ex4 (by decide : (400 : Int32).toInt = 400) (rfl : k.toInt = _) (by omega) (by omega)
      refine lv_iload hx hb dX12_way_90 (lv_at hl 2 rfl) ?_
      refine lv_iadd hx hb dX12_way_92 ?_
      refine lv_topi (fun x5 ex5 => ?_)
      have tx5 : x5.toInt = x4.toInt + y4.toInt := m_addI ex5 (rfl : x4.toInt = _) (rfl : y4.toInt = _) (by omega) (by omega)
      refine lv_istore (lv' := [(5, .int x5), (0, .ref (b + 81)), (1, .int k), (4, .int y4)]) hx hb dX12_way_93 hl (by decide) rfl (fun ls hl => ?_)
      refine lv_sipush (v := 3200) hx hb dX12_way_95 (by decide) ?_
      refine lv_iload hx hb dX12_way_98 (lv_at hl 3 rfl) ?_
      refine lv_iadd hx hb dX12_way_100 ?_
      refine lv_topi (fun x6 ex6 => ?_)
      have tx6 : x6.toInt = 3200 + y4.toInt := m_addI ex6 (by decide : (3200 : Int32).toInt = 3200) (rfl : y4.toInt = _) (by omega) (by omega)
      refine lv_istore (lv' := [(6, .int x6), (5, .int x5), (0, .ref (b + 81)), (1, .int k), (4, .int y4)]) hx hb dX12_way_101 hl (by decide) rfl (fun ls hl => ?_)
      refine lv_aload_n hx hb dX12_way_103 rfl (lv_at hl 2 rfl) ?_
      refine m_getr hx hb hts hown hW (81) 41 (108) rfl rfl cw_12 rfl (by decide) k_X12_101 dX12_way_104 ?_
      refine lv_iload hx hb dX12_way_107 (lv_at hl 1 rfl) ?_
      refine lv_aload_n hx hb dX12_way_109 rfl (lv_at hl 2 rfl) ?_
      refine m_getr hx hb hts hown hW (81) 41 (108) rfl rfl cw_12 rfl (by decide) k_X12_101 dX12_way_110 ?_
      refine lv_iload hx hb dX12_way_113 (lv_at hl 0 rfl) ?_
      refine m_iald hx hb hW (108) rfl (m_ixI (rfl : x6.toInt = _) (by omega) (by omega)) dX12_way_115 ?_
      refine lv_topi (fun x7 ex7 => ?_)
      refine m_iast hx hb hW (108) rfl (m_ixI (rfl : x5.toInt = _) (by omega) (by omega)) dX12_way_116 (fun H locs hW _ => ?_)
      generalize hμ8 : m_si μ (108) (x5 : Int32).toNatClampNeg x7 = μ8 at hW
      have hI := hI.si0 hμ8 rfl hS41
      refine lv_aload_n hx hb dX12_way_117 rfl (lv_at hl 2 rfl) ?_
      refine m_getr hx hb hts hown hW (81) 42 (109) rfl rfl cw_12 rfl (by decide) k_X12_104 dX12_way_118 ?_
      refine lv_iload hx hb dX12_way_121 (lv_at hl 1 rfl) ?_
      refine lv_aload_n hx hb dX12_way_123 rfl (lv_at hl 2 rfl) ?_
      refine m_getr hx hb hts hown hW (81) 42 (109) rfl rfl cw_12 rfl (by decide) k_X12_104 dX12_way_124 ?_
      refine lv_iload hx hb dX12_way_127 (lv_at hl 0 rfl) ?_
      refine m_iald hx hb hW (109) rfl (m_ixI (rfl : x6.toInt = _) (by omega) (by omega)) dX12_way_129 ?_
      refine lv_topi (fun x9 ex9 => ?_)
      have bx9 : 0 ≤ x9.toInt ∧ x9.toInt ≤ 99999 := by rw [ex9]; exact hI.1 _ _ _ _ rfl
      refine m_iast hx hb hW (109) rfl (m_ixI (rfl : x5.toInt = _) (by omega) (by omega)) dX12_way_130 (fun H locs hW _ => ?_)
      generalize hμ10 : m_si μ8 (109) (x5 : Int32).toNatClampNeg x9 = μ10 at hW
      have hI := hI.si1 hμ10 rfl (by omega) hS41
      refine lv_aload_n hx hb dX12_way_131 rfl (lv_at hl 2 rfl) ?_
      refine m_getr hx hb hts hown hW (81) 43 (110) rfl rfl cw_12 rfl (by decide) k_X12_107 dX12_way_132 ?_
      refine lv_iload hx hb dX12_way_135 (lv_at hl 1 rfl) ?_
      refine lv_aload_n hx hb dX12_way_137 rfl (lv_at hl 2 rfl) ?_
      refine m_getr hx hb hts hown hW (81) 43 (110) rfl rfl cw_12 rfl (by decide) k_X12_107 dX12_way_138 ?_
      refine lv_iload hx hb dX12_way_141 (lv_at hl 0 rfl) ?_
      refine m_iald hx hb hW (110) rfl (m_ixI (rfl : x6.toInt = _) (by omega) (by omega)) dX12_way_143 ?_
      refine lv_topi (fun x11 ex11 => ?_)
      refine m_iast hx hb hW (110) rfl (m_ixI (rfl : x5.toInt = _) (by omega) (by omega)) dX12_way_144 (fun H locs hW _ => ?_)
      generalize hμ12 : m_si μ10 (110) (x5 : Int32).toNatClampNeg x11 = μ12 at hW
      have hI := hI.si0 hμ12 rfl hS25
      refine lv_aload_n hx hb dX12_way_145 rfl (lv_at hl 2 rfl) ?_
      refine m_getr hx hb hts hown hW (81) 45 (112) rfl rfl cw_12 rfl (by decide) k_X12_113 dX12_way_146 ?_
      refine lv_iload hx hb dX12_way_149 (lv_at hl 1 rfl) ?_
      refine lv_aload_n hx hb dX12_way_151 rfl (lv_at hl 2 rfl) ?_
      refine m_getr hx hb hts hown hW (81) 45 (112) rfl rfl cw_12 rfl (by decide) k_X12_113 dX12_way_152 ?_
      refine lv_iload hx hb dX12_way_155 (lv_at hl 0 rfl) ?_
      refine m_iald hx hb hW (112) rfl (m_ixI (rfl : x6.toInt = _) (by omega) (by omega)) dX12_way_157 ?_
      refine lv_topi (fun x13 ex13 => ?_)
      have bx13 : 0 ≤ x13.toInt ∧ x13.toInt ≤ 400 := by rw [ex13]; exact hI.1 _ _ _ _ rfl
      refine m_iast hx hb hW (112) rfl (m_ixI (rfl : x5.toInt = _) (by omega) (by omega)) dX12_way_158 (fun H locs hW _ => ?_)
      generalize hμ14 : m_si μ12 (112) (x5 : Int32).toNatClampNeg x13 = μ14 at hW
      have hI := hI.si1 hμ14 rfl (by omega) hS25
      refine lv_aload_n hx hb dX12_way_159 rfl (lv_at hl 2 rfl) ?_
      refine m_getr hx hb hts hown hW (81) 46 (113) rfl rfl cw_12 rfl (by decide) k_X12_116 dX12_way_160 ?_
      refine lv_iload hx hb dX12_way_163 (lv_at hl 1 rfl) ?_
      refine lv_aload_n hx hb dX12_way_165 rfl (lv_at hl 2 rfl) ?_
      refine m_getr hx hb hts hown hW (81) 46 (113) rfl rfl cw_12 rfl (by decide) k_X12_116 dX12_way_166 ?_
      refine lv_iload hx hb dX12_way_169 (lv_at hl 0 rfl) ?_
      refine m_iald hx hb hW (113) rfl (m_ixI (rfl : x6.toInt = _) (by omega) (by omega)) dX12_way_171 ?_
      refine lv_topi (fun x15 ex15 => ?_)
      have bx15 : 0 ≤ x15.toInt ∧ x15.toInt ≤ 400 := by rw [ex15]; exact hI.1 _ _ _ _ rfl
      refine m_iast hx hb hW (113) rfl (m_ixI (rfl : x5.toInt = _) (by omega) (by omega)) dX12_way_172 (fun H locs hW _ => ?_)
      generalize hμ16 : m_si μ14 (113) (x5 : Int32).toNatClampNeg x15 = μ16 at hW
      have hI := hI.si1 hμ16 rfl (by omega) hS25
      refine lv_aload_n hx hb dX12_way_173 rfl (lv_at hl 2 rfl) ?_
      refine m_getr hx hb hts hown hW (81) 47 (114) rfl rfl cw_12 rfl (by decide) k_X12_119 dX12_way_174 ?_
      refine lv_iload hx hb dX12_way_177 (lv_at hl 1 rfl) ?_
      refine lv_aload_n hx hb dX12_way_179 rfl (lv_at hl 2 rfl) ?_
      refine m_getr hx hb hts hown hW (81) 47 (114) rfl rfl cw_12 rfl (by decide) k_X12_119 dX12_way_180 ?_
      refine lv_iload hx hb dX12_way_183 (lv_at hl 0 rfl) ?_
      refine m_iald hx hb hW (114) rfl (m_ixI (rfl : x6.toInt = _) (by omega) (by omega)) dX12_way_185 ?_
      refine lv_topi (fun x17 ex17 => ?_)
      have bx17 : 0 ≤ x17.toInt ∧ x17.toInt ≤ 400 := by rw [ex17]; exact hI.1 _ _ _ _ rfl
      refine m_iast hx hb hW (114) rfl (m_ixI (rfl : x5.toInt = _) (by omega) (by omega)) dX12_way_186 (fun H locs hW _ => ?_)
      generalize hμ18 : m_si μ16 (114) (x5 : Int32).toNatClampNeg x17 = μ18 at hW
      have hI := hI.si1 hμ18 rfl (by omega) hS25
      refine lv_aload_n hx hb dX12_way_187 rfl (lv_at hl 2 rfl) ?_
      refine m_getr hx hb hts hown hW (81) 48 (115) rfl rfl cw_12 rfl (by decide) k_X12_122 dX12_way_188 ?_
      refine lv_iload hx hb dX12_way_191 (lv_at hl 1 rfl) ?_
      refine lv_aload_n hx hb dX12_way_193 rfl (lv_at hl 2 rfl) ?_
      refine m_getr hx hb hts hown hW (81) 48 (115) rfl rfl cw_12 rfl (by decide) k_X12_122 dX12_way_194 ?_
      refine lv_iload hx hb dX12_way_197 (lv_at hl 0 rfl) ?_
      refine m_iald hx hb hW (115) rfl (m_ixI (rfl : x6.toInt = _) (by omega) (by omega)) dX12_way_199 ?_
      refine lv_topi (fun x19 ex19 => ?_)
      refine m_iast hx hb hW (115) rfl (m_ixI (rfl : x5.toInt = _) (by omega) (by omega)) dX12_way_200 (fun H locs hW _ => ?_)
      generalize hμ20 : m_si μ18 (115) (x5 : Int32).toNatClampNeg x19 = μ20 at hW
      have hI := hI.si0 hμ20 rfl hS25
      refine lv_aload_n hx hb dX12_way_201 rfl (lv_at hl 2 rfl) ?_
      refine m_getr hx hb hts hown hW (81) 49 (116) rfl rfl cw_12 rfl (by decide) k_X12_125 dX12_way_202 ?_
      refine lv_iload hx hb dX12_way_205 (lv_at hl 1 rfl) ?_
      refine lv_aload_n hx hb dX12_way_207 rfl (lv_at hl 2 rfl) ?_
      refine m_getr hx hb hts hown hW (81) 49 (116) rfl rfl cw_12 rfl (by decide) k_X12_125 dX12_way_208 ?_
      refine lv_iload hx hb dX12_way_211 (lv_at hl 0 rfl) ?_
      refine m_iald hx hb hW (116) rfl (m_ixI (rfl : x6.toInt = _) (by omega) (by omega)) dX12_way_213 ?_
      refine lv_topi (fun x21 ex21 => ?_)
      refine m_iast hx hb hW (116) rfl (m_ixI (rfl : x5.toInt = _) (by omega) (by omega)) dX12_way_214 (fun H locs hW _ => ?_)
      generalize hμ22 : m_si μ20 (116) (x5 : Int32).toNatClampNeg x21 = μ22 at hW
      have hI := hI.si0 hμ22 rfl hS25
      refine lv_aload_n hx hb dX12_way_215 rfl (lv_at hl 2 rfl) ?_
      refine m_getr hx hb hts hown hW (81) 50 (117) rfl rfl cw_12 rfl (by decide) k_X12_128 dX12_way_216 ?_
      refine lv_iload hx hb dX12_way_219 (lv_at hl 1 rfl) ?_
      refine lv_aload_n hx hb dX12_way_221 rfl (lv_at hl 2 rfl) ?_
      refine m_getr hx hb hts hown hW (81) 50 (117) rfl rfl cw_12 rfl (by decide) k_X12_128 dX12_way_222 ?_
      refine lv_iload hx hb dX12_way_225 (lv_at hl 0 rfl) ?_
      refine m_iald hx hb hW (117) rfl (m_ixI (rfl : x6.toInt = _) (by omega) (by omega)) dX12_way_227 ?_
      refine lv_topi (fun x23 ex23 => ?_)
      refine m_iast hx hb hW (117) rfl (m_ixI (rfl : x5.toInt = _) (by omega) (by omega)) dX12_way_228 (fun H locs hW _ => ?_)
      generalize hμ24 : m_si μ22 (117) (x5 : Int32).toNatClampNeg x23 = μ24 at hW
      have hI := hI.si0 hμ24 rfl hS25
      obtain ⟨x25, ex25⟩ : ∃ z : Int32, z = y4 + 1 := ⟨_, rfl⟩
      refine lv_iinc (v := x25) (lv' := [(4, .int x25), (6, .int x6), (5, .int x5), (0, .ref (b + 81)), (1, .int k)]) hx hb dX12_way_229 hl (k := 4) rfl (by rw [ex25]; rfl) (by decide) rfl (fun ls hl => ?_)
      have tx25 : x25.toInt = y4.toInt + 1 := m_addI ex25 (rfl : y4.toInt = _) (by decide : (1 : Int32).toInt = 1) (by omega) (by omega)
      refine lv_goto (tgt := 77) hx hb dX12_way_232 (by decide) ?_
      have ck_k := m_ckI (x := k) (by omega)
      have ck_y := m_ckI (x := y4) (by omega)
      have ck_t := m_ckI (x := x5) (by omega)
      have ck_o := m_ckI (x := x6) (by omega)
      have ck_n := m_ckI (x := x25) (by omega)
      have hto : x5.toNatClampNeg = 400 * k.toNatClampNeg + y4.toNatClampNeg := by omega
      have hof : x6.toNatClampNeg = 3200 + y4.toNatClampNeg := by omega
      have hr1 : μ24.1 108 = (m_si μ 108 (400 * k.toNatClampNeg + y4.toNatClampNeg) (μ.1 108 (3200 + y4.toNatClampNeg))).1 108 := (show μ24.1 108 = μ22.1 108 from by rw [← hμ24]; exact m_si_row (by decide)).trans ((show μ22.1 108 = μ20.1 108 from by rw [← hμ22]; exact m_si_row (by decide)).trans ((show μ20.1 108 = μ18.1 108 from by rw [← hμ20]; exact m_si_row (by decide)).trans ((show μ18.1 108 = μ16.1 108 from by rw [← hμ18]; exact m_si_row (by decide)).trans ((show μ16.1 108 = μ14.1 108 from by rw [← hμ16]; exact m_si_row (by decide)).trans ((show μ14.1 108 = μ12.1 108 from by rw [← hμ14]; exact m_si_row (by decide)).trans ((show μ12.1 108 = μ10.1 108 from by rw [← hμ12]; exact m_si_row (by decide)).trans ((show μ10.1 108 = μ8.1 108 from by rw [← hμ10]; exact m_si_row (by decide)).trans (by rw [← hμ8, hto, ex7, hof]))))))))
      have hr2 : μ24.1 109 = (m_si μ 109 (400 * k.toNatClampNeg + y4.toNatClampNeg) (μ.1 109 (3200 + y4.toNatClampNeg))).1 109 := (show μ24.1 109 = μ22.1 109 from by rw [← hμ24]; exact m_si_row (by decide)).trans ((show μ22.1 109 = μ20.1 109 from by rw [← hμ22]; exact m_si_row (by decide)).trans ((show μ20.1 109 = μ18.1 109 from by rw [← hμ20]; exact m_si_row (by decide)).trans ((show μ18.1 109 = μ16.1 109 from by rw [← hμ18]; exact m_si_row (by decide)).trans ((show μ16.1 109 = μ14.1 109 from by rw [← hμ16]; exact m_si_row (by decide)).trans ((show μ14.1 109 = μ12.1 109 from by rw [← hμ14]; exact m_si_row (by decide)).trans ((show μ12.1 109 = μ10.1 109 from by rw [← hμ12]; exact m_si_row (by decide)).trans (by rw [← hμ10, hto, ex9, hof, ← hμ8]; rfl)))))))
      have hr3 : μ24.1 111 = μ.1 111 := (show μ24.1 111 = μ22.1 111 from by rw [← hμ24]; exact m_si_row (by decide)).trans ((show μ22.1 111 = μ20.1 111 from by rw [← hμ22]; exact m_si_row (by decide)).trans ((show μ20.1 111 = μ18.1 111 from by rw [← hμ20]; exact m_si_row (by decide)).trans ((show μ18.1 111 = μ16.1 111 from by rw [← hμ18]; exact m_si_row (by decide)).trans ((show μ16.1 111 = μ14.1 111 from by rw [← hμ16]; exact m_si_row (by decide)).trans ((show μ14.1 111 = μ12.1 111 from by rw [← hμ14]; exact m_si_row (by decide)).trans ((show μ12.1 111 = μ10.1 111 from by rw [← hμ12]; exact m_si_row (by decide)).trans ((show μ10.1 111 = μ8.1 111 from by rw [← hμ10]; exact m_si_row (by decide)).trans ((show μ8.1 111 = μ.1 111 from by rw [← hμ8]; exact m_si_row (by decide)).trans (rfl)))))))))
      have h8_ : (μ.1 111 8).toNatClampNeg ≤ 400 := m_c400 (hI0_.1 111 8 0 400 rfl).2
      exact ih x25 (by omega) (by omega) μ24 hI ((by rw [show x25.toNatClampNeg = y4.toNatClampNeg + 1 from by omega]; exact hcy.step (m_ck (by omega)) (by omega) h8_ hr1 hr2 hr3)) (by rw [← hμ24, ← hμ22, ← hμ20, ← hμ18, ← hμ16, ← hμ14, ← hμ12, ← hμ10, ← hμ8]; exact htp) _ _ hW ls (lv_sub hl [3, 4, 0] rfl)
set_option maxHeartbeats 4000000 in
set_option maxRecDepth 100000 in
theorem g_X12_way_f (l : Launch) (D : va_G) (cy : Nat → ClassId) (b : Nat) (S : Nat → Bool) (μ0 : mM) (hS20 : S 20 = true) (hS23 : S 23 = true) (hS26 : S 26 = true) (hS24 : S 24 = true) (hS25 : S 25 = true) (hS33 : S 33 = true) (hS34 : S 34 = true) (hS35 : S 35 = true) (hS36 : S 36 = true) (hS41 : S 41 = true) (k : Int32) (μ : mM) (hI : IY S μ0 μ) (hgp : m_GP μ) : m_Ci l yX12_way cX12_way 7 ((some .boolean)) 7 D cy b LAY μ [.ref (b + 81), .int k] (fun r ν => IY S μ0 ν ∧ (((r = 1 ∨ r = 0) ∧ ν.1 81 35 = 0) ∧ m_GP ν)) := by
  unfold m_Ci
  refine m_of (by decide) (Nat.le_of_ble_eq_true rfl) ?_
  intro p e s m below meth c hx hb hr hml hown hts hlocks _ hW ls hl
  have hown : s.vm.findClass RX12 = some m.cls := hown
  have hl : lv_has ls 7 [(0, .ref (b + 81)), (1, .int k)] := hl
  refine lv_aload_n hx hb dX12_way_0 rfl (lv_at hl 0 rfl) ?_
  refine lv_iconst (v := 0) hx hb dX12_way_1 (by decide) ?_
  refine m_puti hx hb hts hown hW (81) 0 rfl rfl cw_12 tyX12_ok nmX12 rfl (by decide) k_X12_167 rfl rfl rfl dX12_way_2 (fun H locs hW _ => ?_)
  generalize hμ1 : m_si μ (81) 0 0 = μ1 at hW
  have hgp : m_GP μ1 := hgp.si hμ1 (by decide) (by decide) (by decide)
  have hI := hI.si0 hμ1 rfl hS20
  refine lv_aload_n hx hb dX12_way_5 rfl (lv_at hl 0 rfl) ?_
  refine lv_iconst (v := 0) hx hb dX12_way_6 (by decide) ?_
  refine m_puti hx hb hts hown hW (81) 56 rfl rfl cw_12 tyX12_ok nmX12 rfl (by decide) k_X12_329 rfl rfl rfl dX12_way_7 (fun H locs hW _ => ?_)
  generalize hμ2 : m_si μ1 (81) 56 0 = μ2 at hW
  have hgp : m_GP μ2 := hgp.si hμ2 (by decide) (by decide) (by decide)
  have hI := hI.si0 hμ2 rfl hS26
  refine lv_aload_n hx hb dX12_way_10 rfl (lv_at hl 0 rfl) ?_
  refine lv_iconst (v := (-1)) hx hb dX12_way_11 (by decide) ?_
  refine m_puti hx hb hts hown hW (81) 57 rfl rfl cw_12 tyX12_ok nmX12 rfl (by decide) k_X12_134 rfl rfl rfl dX12_way_12 (fun H locs hW _ => ?_)
  generalize hμ3 : m_si μ2 (81) 57 (-1) = μ3 at hW
  have hgp : m_GP μ3 := hgp.si hμ3 (by decide) (by decide) (by decide)
  have hI := hI.si0 hμ3 rfl hS26
  refine lv_aload_n hx hb dX12_way_15 rfl (lv_at hl 0 rfl) ?_
  refine lv_iload_n hx hb dX12_way_16 rfl (lv_at hl 1 rfl) ?_
  refine lv_iconst (v := 0) hx hb dX12_way_17 (by decide) ?_
  refine lv_bipush (v := 7) hx hb dX12_way_18 (by decide) ?_
  have l_0 : (0 : Int32).toInt = 0 := by decide
  have l_7 : (7 : Int32).toInt = 7 := by decide
  refine m_aI hW (m_runV (As := [.int k, .int 0, .int 7]) (rest := []) hx hb hml hown hts hW (81) (g_X12_isIn l D cy b k 0 7 μ3 hI.1) mi_X12_isIn k_X12_170 rfl rfl rfl hl.1 rfl (Nat.le_of_ble_eq_true rfl) dX12_way_20 ⟨Nat.le_of_ble_eq_true rfl, Nat.le_of_ble_eq_true rfl⟩ ⟨Nat.le_of_ble_eq_true rfl, Nat.le_of_ble_eq_true rfl⟩) (fun x4 μ4 H locs q4 hW => ?_)
  obtain ⟨q4_m, q4⟩ := q4
  subst q4_m
  rcases q4 with ⟨rfl, q4⟩ | ⟨rfl, q4⟩
  · refine lv_istore_n (lv' := [(2, .int 1), (0, .ref (b + 81)), (1, .int k)]) hx hb dX12_way_23 rfl hl (by decide) rfl (fun ls hl => ?_)
    refine lv_iload_n hx hb dX12_way_24 rfl (lv_at hl 0 rfl) ?_
    refine lv_if_eq (tgt := 39) hx hb dX12_way_25 (by decide) (fun c => False.elim (by revert c; decide)) (fun _ => ?_)
    refine lv_aload_n hx hb dX12_way_28 rfl (lv_at hl 1 rfl) ?_
    refine m_aI hW (m_runV (As := []) (rest := []) hx hb hml hown hts hW (81) (g_X12_readAll l D cy b S μ0 hS24 hS25 hS33 hS34 hS35 hS36 hS41 μ3 hI hgp) mi_X12_readAll k_X12_332 rfl rfl rfl hl.1 rfl (Nat.le_of_ble_eq_true rfl) dX12_way_29 ⟨Nat.le_of_ble_eq_true rfl, Nat.le_of_ble_eq_true rfl⟩ ⟨Nat.le_of_ble_eq_true rfl, Nat.le_of_ble_eq_true rfl⟩) (fun x5 μ5 H locs q5 hW => ?_)
    obtain ⟨hI, q5⟩ := q5
    obtain ⟨hgp, q5⟩ := q5
    rcases q5 with rfl | ⟨rfl, hwd⟩
    · refine lv_if_ne (tgt := 39) hx hb dX12_way_32 (by decide) (fun _ => ?_) (fun c => False.elim (by revert c; decide))
      refine lv_iconst (v := 0) hx hb dX12_way_39 (by decide) ?_
      refine lv_istore_n (lv' := [(3, .int 0), (2, .int 1), (0, .ref (b + 81)), (1, .int k)]) hx hb dX12_way_40 rfl hl (by decide) rfl (fun ls hl => ?_)
      refine lv_aload_n hx hb dX12_way_41 rfl (lv_at hl 2 rfl) ?_
      refine lv_iconst (v := 0) hx hb dX12_way_42 (by decide) ?_
      refine m_puti hx hb hts hown hW (81) 35 rfl rfl cw_12 tyX12_ok nmX12 rfl (by decide) k_X12_239 rfl rfl rfl dX12_way_43 (fun H locs hW _ => ?_)
      generalize hμ6 : m_si μ5 (81) 35 0 = μ6 at hW
      have hgp : m_GP μ6 := hgp.si hμ6 (by decide) (by decide) (by decide)
      have hI := hI.si1 hμ6 rfl (by decide) hS23
      refine lv_iload_n hx hb dX12_way_46 rfl (lv_at hl 1 rfl) ?_
      refine lv_if_ne (tgt := 52) hx hb dX12_way_47 (by decide) (fun _ => ?_) (fun c => False.elim (by revert c; decide))
      refine lv_iload_n hx hb dX12_way_52 rfl (lv_at hl 0 rfl) ?_
      refine lv_if_ne (tgt := 74) hx hb dX12_way_53 (by decide) (fun c => False.elim (by revert c; decide)) (fun _ => ?_)
      refine lv_aload_n hx hb dX12_way_56 rfl (lv_at hl 2 rfl) ?_
      refine lv_aload_n hx hb dX12_way_57 rfl (lv_at hl 2 rfl) ?_
      refine m_geti hx hb hts hown hW (81) 54 rfl rfl cw_12 rfl (by decide) k_X12_273 dX12_way_58 ?_
      refine lv_topi (fun x7 ex7 => ?_)
      refine m_puti hx hb hts hown hW (81) 56 rfl rfl cw_12 tyX12_ok nmX12 rfl (by decide) k_X12_329 rfl rfl rfl dX12_way_61 (fun H locs hW _ => ?_)
      generalize hμ8 : m_si μ6 (81) 56 x7 = μ8 at hW
      have hgp : m_GP μ8 := hgp.si hμ8 (by decide) (by decide) (by decide)
      have hI := hI.si0 hμ8 rfl hS26
      refine lv_aload_n hx hb dX12_way_64 rfl (lv_at hl 2 rfl) ?_
      refine lv_aload_n hx hb dX12_way_65 rfl (lv_at hl 2 rfl) ?_
      refine m_geti hx hb hts hown hW (81) 55 rfl rfl cw_12 rfl (by decide) k_X12_276 dX12_way_66 ?_
      refine lv_topi (fun x9 ex9 => ?_)
      refine m_puti hx hb hts hown hW (81) 57 rfl rfl cw_12 tyX12_ok nmX12 rfl (by decide) k_X12_134 rfl rfl rfl dX12_way_69 (fun H locs hW _ => ?_)
      generalize hμ10 : m_si μ8 (81) 57 x9 = μ10 at hW
      have hgp : m_GP μ10 := hgp.si hμ10 (by decide) (by decide) (by decide)
      have hI := hI.si0 hμ10 rfl hS26
      refine lv_iconst (v := 0) hx hb dX12_way_72 (by decide) ?_
      exact m_iret hx hb hr hlocks hW (by decide) (⟨hI, ⟨⟨Or.inr rfl, by rw [show μ10.1 81 35 = 0 from by rw [← hμ10, ← hμ8, ← hμ6]; first | rfl | exact if_pos ⟨rfl, rfl⟩]⟩, hgp⟩⟩) dX12_way_73
    · refine lv_if_ne (tgt := 39) hx hb dX12_way_32 (by decide) (fun c => False.elim (by revert c; decide)) (fun _ => ?_)
      refine lv_iconst (v := 1) hx hb dX12_way_35 (by decide) ?_
      refine lv_goto (tgt := 40) hx hb dX12_way_36 (by decide) ?_
      refine lv_istore_n (lv' := [(3, .int 1), (2, .int 1), (0, .ref (b + 81)), (1, .int k)]) hx hb dX12_way_40 rfl hl (by decide) rfl (fun ls hl => ?_)
      refine lv_aload_n hx hb dX12_way_41 rfl (lv_at hl 2 rfl) ?_
      refine lv_iconst (v := 0) hx hb dX12_way_42 (by decide) ?_
      refine m_puti hx hb hts hown hW (81) 35 rfl rfl cw_12 tyX12_ok nmX12 rfl (by decide) k_X12_239 rfl rfl rfl dX12_way_43 (fun H locs hW _ => ?_)
      generalize hμ11 : m_si μ5 (81) 35 0 = μ11 at hW
      have hgp : m_GP μ11 := hgp.si hμ11 (by decide) (by decide) (by decide)
      have hwd : m_WD μ11 := hwd.si hμ11 (by decide) (by decide) (by decide)
      have hI := hI.si1 hμ11 rfl (by decide) hS23
      refine lv_iload_n hx hb dX12_way_46 rfl (lv_at hl 1 rfl) ?_
      refine lv_if_ne (tgt := 52) hx hb dX12_way_47 (by decide) (fun _ => ?_) (fun c => False.elim (by revert c; decide))
      refine lv_iload_n hx hb dX12_way_52 rfl (lv_at hl 0 rfl) ?_
      refine lv_if_ne (tgt := 74) hx hb dX12_way_53 (by decide) (fun _ => ?_) (fun c => False.elim (by revert c; decide))
      refine lv_iconst (v := 0) hx hb dX12_way_74 (by decide) ?_
      refine lv_istore (lv' := [(4, .int 0), (3, .int 1), (2, .int 1), (0, .ref (b + 81)), (1, .int k)]) hx hb dX12_way_75 hl (by decide) rfl (fun ls hl => ?_)
      exact L_X12_way_f_77 hx hb hr hml hown hts hlocks S μ0 hS20 hS23 hS26 hS24 hS25 hS33 hS34 hS35 hS36 hS41 k  401 0 (by omega) (by omega) μ11 hI (m_CY.start k.toNatClampNeg hgp hwd) (by rw [← hμ11]; first | rfl | exact if_pos ⟨rfl, rfl⟩) _ _ hW ls (lv_sub hl [3, 4, 0] rfl)
  · refine lv_istore_n (lv' := [(2, .int 0), (0, .ref (b + 81)), (1, .int k)]) hx hb dX12_way_23 rfl hl (by decide) rfl (fun ls hl => ?_)
    refine lv_iload_n hx hb dX12_way_24 rfl (lv_at hl 0 rfl) ?_
    refine lv_if_eq (tgt := 39) hx hb dX12_way_25 (by decide) (fun _ => ?_) (fun c => False.elim (by revert c; decide))
    refine lv_iconst (v := 0) hx hb dX12_way_39 (by decide) ?_
    refine lv_istore_n (lv' := [(3, .int 0), (2, .int 0), (0, .ref (b + 81)), (1, .int k)]) hx hb dX12_way_40 rfl hl (by decide) rfl (fun ls hl => ?_)
    refine lv_aload_n hx hb dX12_way_41 rfl (lv_at hl 2 rfl) ?_
    refine lv_iconst (v := 0) hx hb dX12_way_42 (by decide) ?_
    refine m_puti hx hb hts hown hW (81) 35 rfl rfl cw_12 tyX12_ok nmX12 rfl (by decide) k_X12_239 rfl rfl rfl dX12_way_43 (fun H locs hW _ => ?_)
    generalize hμ12 : m_si μ3 (81) 35 0 = μ12 at hW
    have hgp : m_GP μ12 := hgp.si hμ12 (by decide) (by decide) (by decide)
    have hI := hI.si1 hμ12 rfl (by decide) hS23
    refine lv_iload_n hx hb dX12_way_46 rfl (lv_at hl 1 rfl) ?_
    refine lv_if_ne (tgt := 52) hx hb dX12_way_47 (by decide) (fun c => False.elim (by revert c; decide)) (fun _ => ?_)
    refine lv_iconst (v := 0) hx hb dX12_way_50 (by decide) ?_
    exact m_iret hx hb hr hlocks hW (by decide) (⟨hI, ⟨⟨Or.inr rfl, by rw [show μ12.1 81 35 = 0 from by rw [← hμ12]; first | rfl | exact if_pos ⟨rfl, rfl⟩]⟩, hgp⟩⟩) dX12_way_51
theorem m_cp_lt {μ : mM} {q0 q1 n i : Nat} (h : i < n) : (m_cp μ q0 q1 (0 : Int32).toNatClampNeg (0 : Int32).toNatClampNeg n).1 q1 i = μ.1 q0 i := by
  show (if q1 = q1 then va_cpy (μ.1 q0) (μ.1 q1) 0 0 n i else μ.1 q1 i) = _
  rw [if_pos rfl]
  unfold va_cpy
  rw [if_pos ⟨Nat.zero_le i, by omega⟩, Nat.zero_add, Nat.sub_zero]
theorem m_cp_ne {μ : mM} {q0 q1 sp dp n a : Nat} (h : a ≠ q1) : (m_cp μ q0 q1 sp dp n).1 a = μ.1 a := funext fun i => if_neg h
set_option maxHeartbeats 4000000 in
set_option maxRecDepth 100000 in
theorem g_X5_copyFrom_f (l : Launch) (D : va_G) (cy : Nat → ClassId) (b : Nat) (S : Nat → Bool) (μ0 : mM) (hS4 : S 4 = true) (t : Int32) (h_t : 0 ≤ t.toInt ∧ t.toInt ≤ 400) (μ : mM) (hI : IY S μ0 μ) (ht : μ.1 23 1 = t) : m_Cv l yX5_copyFrom cX5_copyFrom 2 (none) 1 D cy b LAY μ [.ref (b + 25), .ref (b + 23)] (fun ν => IY S μ0 ν ∧ (ν.1 25 1 = t ∧ ∀ i : Nat, (i : Int) < t.toInt → ν.1 26 i = μ.1 24 i)) := by
  unfold m_Cv
  refine m_of (by decide) (Nat.le_of_ble_eq_true rfl) ?_
  intro p e s m below meth c hx hb hr hml hown hts hlocks _ hW ls hl
  have hown : s.vm.findClass RX5 = some m.cls := hown
  have hl : lv_has ls 2 [(0, .ref (b + 25)), (1, .ref (b + 23))] := hl
  refine lv_aload_n hx hb dX5_copyFrom_0 rfl (lv_at hl 0 rfl) ?_
  refine lv_aload_n hx hb dX5_copyFrom_1 rfl (lv_at hl 1 rfl) ?_
  refine m_geti hx hb hts hown hW (23) 1 rfl rfl cw_5 rfl (by decide) k_X5_9 dX5_copyFrom_2 ?_
  refine lv_topi (fun x1 ex1 => ?_)
  have ex1 : x1 = t := by rw [ex1]; exact ht
  have ex1 := ex1.symm
  subst ex1
  refine lv_aload_n hx hb dX5_copyFrom_5 rfl (lv_at hl 0 rfl) ?_
  refine m_getr hx hb hts hown hW (25) 0 (26) rfl rfl cw_5 rfl (by decide) k_X5_21 dX5_copyFrom_6 ?_
  refine m_alen hx hb hW (26) rfl dX5_copyFrom_9 ?_
  refine lv_topi (fun x2 ex2 => ?_)
  have ex2 : x2 = 400 := by rw [ex2]; rfl
  have ex2 := ex2.symm
  subst ex2
  refine va_mmin hx hb (hml.trans hl.1.symm) hown (hts _ k_X5_29) (hts _ kM_min_s) (hts _ kM_n) (hts _ kM_min_c) (Nat.le_of_ble_eq_true rfl) (Nat.le_of_ble_eq_true rfl) (Nat.le_of_ble_eq_true rfl) (Nat.le_of_ble_eq_true rfl) dX5_copyFrom_10 ?_
  refine lv_topi (fun x3 ex3 => ?_)
  have tx3 : x3.toInt = min (t.toInt) (400) := m_min ex3 (rfl : t.toInt = _) (by decide : (400 : Int32).toInt = 400)
  refine m_puti hx hb hts hown hW (25) 1 rfl rfl cw_5 tyX5_ok nmX5 rfl (by decide) k_X5_9 rfl rfl rfl dX5_copyFrom_13 (fun H locs hW _ => ?_)
  generalize hμ4 : m_si μ (25) 1 x3 = μ4 at hW
  have hI := hI.si1 hμ4 rfl (by omega) hS4
  refine lv_aload_n hx hb dX5_copyFrom_16 rfl (lv_at hl 1 rfl) ?_
  refine m_getr hx hb hts hown hW (23) 0 (24) rfl rfl cw_5 rfl (by decide) k_X5_21 dX5_copyFrom_17 ?_
  refine lv_iconst (v := 0) hx hb dX5_copyFrom_20 (by decide) ?_
  refine lv_aload_n hx hb dX5_copyFrom_21 rfl (lv_at hl 0 rfl) ?_
  refine m_getr hx hb hts hown hW (25) 0 (26) rfl rfl cw_5 rfl (by decide) k_X5_21 dX5_copyFrom_22 ?_
  refine lv_iconst (v := 0) hx hb dX5_copyFrom_25 (by decide) ?_
  refine lv_aload_n hx hb dX5_copyFrom_26 rfl (lv_at hl 0 rfl) ?_
  refine m_geti hx hb hts hown hW (25) 1 rfl rfl cw_5 rfl (by decide) k_X5_9 dX5_copyFrom_27 ?_
  refine lv_topi (fun x5 ex5 => ?_)
  have ex5 : x5 = x3 := by rw [ex5, ← hμ4]; first | rfl | exact if_pos ⟨rfl, rfl⟩
  have ex5 := ex5.symm
  subst ex5
  refine m_copy hx hb (hml.trans hl.1.symm) hts hown k_X5_32 hW 24 26 rfl rfl (by decide) (by decide) (m_nn (rfl : x3.toInt = _) (by omega)) (m_cl (rfl : x3.toInt = _) (by omega)) (m_cl (rfl : x3.toInt = _) (by omega)) (Nat.le_of_ble_eq_true rfl) (Nat.le_of_ble_eq_true rfl) dX5_copyFrom_30 (fun H locs hW => ?_)
  generalize hμ6 : m_cp μ4 24 26 (0 : Int32).toNatClampNeg (0 : Int32).toNatClampNeg (x3 : Int32).toNatClampNeg = μ6 at hW
  have hI := hI.cp hμ6 (fun _ => rfl) (fun _ => hS4)
  exact m_vret hx hb hr hlocks hW (⟨hI, ⟨by rw [← hμ6, m_cp_ne (by decide), ← hμ4, m_si_at]; exact m_eqI (by omega), fun i hi => by rw [← hμ6, m_cp_lt (by have := m_ckI (x := x3) (by omega); omega), ← hμ4, m_si_ne (by decide)]⟩⟩) dX5_copyFrom_33
set_option maxHeartbeats 4000000 in
set_option maxRecDepth 100000 in
theorem g_X11_sparks_f (l : Launch) (D : va_G) (cy : Nat → ClassId) (b : Nat) (S : Nat → Bool) (μ0 : mM) (hS3 : S 3 = true) (hS4 : S 4 = true) (t : Int32) (h_t : 0 ≤ t.toInt ∧ t.toInt ≤ 400) (μ : mM) (hI : IY S μ0 μ) (ht : μ.1 23 1 = t) : m_Ci l yX11_sparks cX11_sparks 1 ((some .int)) 2 D cy b LAY μ [.ref (b + 0)] (fun r ν => IY S μ0 ν ∧ (r = t ∧ ν.1 23 1 = 0 ∧ ν.1 25 1 = t ∧ ∀ i : Nat, (i : Int) < t.toInt → ν.1 26 i = μ.1 24 i)) := by
  unfold m_Ci
  refine m_of (by decide) (Nat.le_of_ble_eq_true rfl) ?_
  intro p e s m below meth c hx hb hr hml hown hts hlocks _ hW ls hl
  have hown : s.vm.findClass RX11 = some m.cls := hown
  have hl : lv_has ls 1 [(0, .ref (b + 0))] := hl
  refine lv_aload_n hx hb dX11_sparks_0 rfl (lv_at hl 0 rfl) ?_
  refine m_getr hx hb hts hown hW (0) 2 (25) rfl rfl cw_11 rfl (by decide) k_X11_25 dX11_sparks_1 ?_
  refine lv_aload_n hx hb dX11_sparks_4 rfl (lv_at hl 0 rfl) ?_
  refine m_getr hx hb hts hown hW (0) 1 (23) rfl rfl cw_11 rfl (by decide) k_X11_21 dX11_sparks_5 ?_
  refine m_aV hW (m_runV (As := [.ref (b + 23)]) (rest := []) hx hb hml hown hts hW (25) (g_X5_copyFrom_f l D cy b (fun g => [4].contains g) μ rfl t (by omega) μ (IY.rf hI.1) (by exact ht)) mi_X5_copyFrom k_X11_120 rfl rfl rfl hl.1 rfl (Nat.le_of_ble_eq_true rfl) dX11_sparks_8 ⟨Nat.le_of_ble_eq_true rfl, Nat.le_of_ble_eq_true rfl⟩ ⟨Nat.le_of_ble_eq_true rfl, Nat.le_of_ble_eq_true rfl⟩) (fun μ1 H locs q1 hW => ?_)
  obtain ⟨hJ1, q1⟩ := q1
  have hI := hI.tr hJ1 (m_subL (by simp [hS4]))
  obtain ⟨q1, q1r⟩ := q1
  refine lv_aload_n hx hb dX11_sparks_11 rfl (lv_at hl 0 rfl) ?_
  refine m_getr hx hb hts hown hW (0) 1 (23) rfl rfl cw_11 rfl (by decide) k_X11_21 dX11_sparks_12 ?_
  refine lv_iconst (v := 0) hx hb dX11_sparks_15 (by decide) ?_
  refine m_puti hx hb hts hown hW (23) 1 rfl rfl cw_5 tyX5_ok nmX5 rfl (by decide) k_X11_99 rfl rfl rfl dX11_sparks_16 (fun H locs hW _ => ?_)
  generalize hμ2 : m_si μ1 (23) 1 0 = μ2 at hW
  have hI := hI.si1 hμ2 rfl (by decide) hS3
  refine lv_aload_n hx hb dX11_sparks_19 rfl (lv_at hl 0 rfl) ?_
  refine m_getr hx hb hts hown hW (0) 2 (25) rfl rfl cw_11 rfl (by decide) k_X11_25 dX11_sparks_20 ?_
  refine m_geti hx hb hts hown hW (25) 1 rfl rfl cw_5 rfl (by decide) k_X11_99 dX11_sparks_23 ?_
  refine lv_topi (fun x3 ex3 => ?_)
  have ex3 : x3 = t := by rw [ex3, ← hμ2]; exact q1
  have ex3 := ex3.symm
  subst ex3
  exact m_iret hx hb hr hlocks hW rfl (⟨hI, ⟨rfl, by rw [show μ2.1 23 1 = 0 from by rw [← hμ2]; first | rfl | exact if_pos ⟨rfl, rfl⟩], by rw [show μ2.1 25 1 = t from by rw [← hμ2]; exact q1], fun i hi => by rw [show μ2.1 26 = μ1.1 26 from by rw [← hμ2]; exact m_si_row (by decide)]; exact q1r i hi⟩⟩) dX11_sparks_26
set_option maxHeartbeats 4000000 in
set_option maxRecDepth 100000 in
theorem L_X12_sparks_f_7 {p : Program} {l : Launch} {e : Env} {s : State} {m : MethodId} {args : Array Value} {below : List Frame} {meth : Method} {c : Code} {D : va_G} {cy : Nat → ClassId} {b : Nat} (hx : p.tables.exec = Jvm.exec) (hb : c.code = cX12_sparks) (hr : meth.sig.returnType = ((some .int))) (hml : c.maxLocals = 2) (hown : s.vm.findClass RX12 = some m.cls) (hts : ∀ w ∈ TB, w.before args s = true) (hlocks : meth.locks = false) (S : Nat → Bool) (μ0 : mM) (hS20 : S 20 = true) (hS23 : S 23 = true) (hS30 : S 30 = true) (t : Int32) (h_t : 0 ≤ t.toInt ∧ t.toInt ≤ 400) (fT : Nat → Int32) : ∀ (f : Nat), ∀ (y1 : Int32) (hy : 0 ≤ y1.toInt ∧ y1.toInt ≤ 400) (hf : 400 - y1.toInt < (f : Int)) (μ : mM) (hI : IY S μ0 μ) (ht : μ.1 81 35 = t) (hfT : μ.1 106 = fT) (hcp : ∀ i : Nat, (i : Int) < y1.toInt → μ.1 128 i = fT i) (H : Heap) (locs : List Loc), m_WA (m_A b LAY) D cy s b LAY μ H locs → ∀ ls : Array Slot, lv_has ls 2 [(0, .ref (b + 81)), (1, .int y1)] → W p l e (m_R 0 0 0) s m args below meth c H locs 0 0 (MQ below (m_Qi D cy b LAY (fun r ν => IY S μ0 ν ∧ (r = t ∧ ν.1 81 35 = 0 ∧ ν.1 81 73 = t ∧ ∀ i : Nat, (i : Int) < t.toInt → ν.1 128 i = fT i))) args s 0 0 (m_A b LAY)) (F0 m 7 ls []) := by
  intro f
  induction f with
  | zero => intro y1 hy hf; exfalso; omega
  | succ f ih =>
    intro y1 hy hf μ hI ht hfT hcp H locs hW ls hl
    refine lv_iload_n hx hb dX12_sparks_7 rfl (lv_at hl 1 rfl) ?_
    refine lv_aload_n hx hb dX12_sparks_8 rfl (lv_at hl 0 rfl) ?_
    refine m_geti hx hb hts hown hW (81) 35 rfl rfl cw_12 rfl (by decide) k_X12_239 dX12_sparks_9 ?_
    refine lv_topi (fun x1 ex1 => ?_)
    have ex1 : x1 = t := by rw [ex1]; exact ht
    have ex1 := ex1.symm
    subst ex1
    refine lv_icmp_ge (tgt := 33) hx hb dX12_sparks_12 (by decide) (fun c2 => ?_) (fun c2 => ?_)
    · have i2 := m_c3 (rfl : t.toInt = _) (rfl : y1.toInt = _) c2
      refine lv_aload_n hx hb dX12_sparks_33 rfl (lv_at hl 0 rfl) ?_
      refine lv_aload_n hx hb dX12_sparks_34 rfl (lv_at hl 0 rfl) ?_
      refine m_geti hx hb hts hown hW (81) 35 rfl rfl cw_12 rfl (by decide) k_X12_239 dX12_sparks_35 ?_
      refine lv_topi (fun x3 ex3 => ?_)
      have ex3 : x3 = t := by rw [ex3]; exact ht
      have ex3 := ex3.symm
      subst ex3
      refine m_puti hx hb hts hown hW (81) 73 rfl rfl cw_12 tyX12_ok nmX12 rfl (by decide) k_X12_404 rfl rfl rfl dX12_sparks_38 (fun H locs hW _ => ?_)
      generalize hμ4 : m_si μ (81) 73 t = μ4 at hW
      have hI := hI.si1 hμ4 rfl (by omega) hS30
      refine lv_aload_n hx hb dX12_sparks_41 rfl (lv_at hl 0 rfl) ?_
      refine lv_iconst (v := 0) hx hb dX12_sparks_42 (by decide) ?_
      refine m_puti hx hb hts hown hW (81) 35 rfl rfl cw_12 tyX12_ok nmX12 rfl (by decide) k_X12_239 rfl rfl rfl dX12_sparks_43 (fun H locs hW _ => ?_)
      generalize hμ5 : m_si μ4 (81) 35 0 = μ5 at hW
      have hI := hI.si1 hμ5 rfl (by decide) hS23
      refine lv_aload_n hx hb dX12_sparks_46 rfl (lv_at hl 0 rfl) ?_
      refine m_geti hx hb hts hown hW (81) 73 rfl rfl cw_12 rfl (by decide) k_X12_404 dX12_sparks_47 ?_
      refine lv_topi (fun x6 ex6 => ?_)
      have ex6 : x6 = t := by rw [ex6, ← hμ5, ← hμ4]; first | rfl | exact if_pos ⟨rfl, rfl⟩
      have ex6 := ex6.symm
      subst ex6
      exact m_iret hx hb hr hlocks hW rfl (⟨hI, ⟨rfl, by rw [show μ5.1 81 35 = 0 from by rw [← hμ5]; first | rfl | exact if_pos ⟨rfl, rfl⟩], by rw [show μ5.1 81 73 = t from by rw [← hμ5, ← hμ4]; first | rfl | exact if_pos ⟨rfl, rfl⟩], fun i hi => by rw [show μ5.1 128 = μ4.1 128 from by rw [← hμ5]; exact m_si_row (by decide), show μ4.1 128 = μ.1 128 from by rw [← hμ4]; exact m_si_row (by decide)]; exact hcp i (by omega)⟩⟩) dX12_sparks_50
    · have i2 := m_c4 (rfl : t.toInt = _) (rfl : y1.toInt = _) c2
      refine lv_aload_n hx hb dX12_sparks_15 rfl (lv_at hl 0 rfl) ?_
      refine m_getr hx hb hts hown hW (81) 72 (128) rfl rfl cw_12 rfl (by decide) k_X12_164 dX12_sparks_16 ?_
      refine lv_iload_n hx hb dX12_sparks_19 rfl (lv_at hl 1 rfl) ?_
      refine lv_aload_n hx hb dX12_sparks_20 rfl (lv_at hl 0 rfl) ?_
      refine m_getr hx hb hts hown hW (81) 34 (106) rfl rfl cw_12 rfl (by decide) k_X12_95 dX12_sparks_21 ?_
      refine lv_iload_n hx hb dX12_sparks_24 rfl (lv_at hl 1 rfl) ?_
      refine m_iald hx hb hW (106) rfl (m_ixI (rfl : y1.toInt = _) (by omega) (by omega)) dX12_sparks_25 ?_
      refine lv_topi (fun x7 ex7 => ?_)
      have bx7 : 0 ≤ x7.toInt ∧ x7.toInt ≤ 255 := by rw [ex7]; exact hI.1 _ _ _ _ rfl
      refine m_iast hx hb hW (128) rfl (m_ixI (rfl : y1.toInt = _) (by omega) (by omega)) dX12_sparks_26 (fun H locs hW _ => ?_)
      generalize hμ8 : m_si μ (128) (y1 : Int32).toNatClampNeg x7 = μ8 at hW
      have hI := hI.si0 hμ8 rfl hS30
      obtain ⟨x9, ex9⟩ : ∃ z : Int32, z = y1 + 1 := ⟨_, rfl⟩
      refine lv_iinc (v := x9) (lv' := [(1, .int x9), (0, .ref (b + 81))]) hx hb dX12_sparks_27 hl (k := 1) rfl (by rw [ex9]; rfl) (by decide) rfl (fun ls hl => ?_)
      have tx9 : x9.toInt = y1.toInt + 1 := m_addI ex9 (rfl : y1.toInt = _) (by decide : (1 : Int32).toInt = 1) (by omega) (by omega)
      refine lv_goto (tgt := 7) hx hb dX12_sparks_30 (by decide) ?_
      exact ih x9 (by omega) (by omega) μ8 hI (by rw [← hμ8]; exact ht) (by rw [show μ8.1 106 = μ.1 106 from by rw [← hμ8]; exact m_si_row (by decide)]; exact hfT) (fun i hi => (Classical.em (i = y1.toNatClampNeg)).elim (fun q => by rw [q, ← hμ8, m_si_at, ex7, hfT]) (fun q => by rw [← hμ8, m_si_el q]; exact hcp i (by have := m_ckI (x := y1) (by omega); omega))) _ _ hW ls (lv_sub hl [1, 0] rfl)
set_option maxHeartbeats 4000000 in
set_option maxRecDepth 100000 in
theorem g_X12_sparks_f (l : Launch) (D : va_G) (cy : Nat → ClassId) (b : Nat) (S : Nat → Bool) (μ0 : mM) (hS20 : S 20 = true) (hS23 : S 23 = true) (hS30 : S 30 = true) (t : Int32) (h_t : 0 ≤ t.toInt ∧ t.toInt ≤ 400) (fT : Nat → Int32) (μ : mM) (hI : IY S μ0 μ) (ht : μ.1 81 35 = t) (hfT : μ.1 106 = fT) : m_Ci l yX12_sparks cX12_sparks 2 ((some .int)) 0 D cy b LAY μ [.ref (b + 81)] (fun r ν => IY S μ0 ν ∧ (r = t ∧ ν.1 81 35 = 0 ∧ ν.1 81 73 = t ∧ ∀ i : Nat, (i : Int) < t.toInt → ν.1 128 i = fT i)) := by
  unfold m_Ci
  refine m_of (by decide) (Nat.le_of_ble_eq_true rfl) ?_
  intro p e s m below meth c hx hb hr hml hown hts hlocks _ hW ls hl
  have hown : s.vm.findClass RX12 = some m.cls := hown
  have hl : lv_has ls 2 [(0, .ref (b + 81))] := hl
  refine lv_aload_n hx hb dX12_sparks_0 rfl (lv_at hl 0 rfl) ?_
  refine lv_iconst (v := 0) hx hb dX12_sparks_1 (by decide) ?_
  refine m_puti hx hb hts hown hW (81) 0 rfl rfl cw_12 tyX12_ok nmX12 rfl (by decide) k_X12_167 rfl rfl rfl dX12_sparks_2 (fun H locs hW _ => ?_)
  generalize hμ1 : m_si μ (81) 0 0 = μ1 at hW
  have hI := hI.si0 hμ1 rfl hS20
  refine lv_iconst (v := 0) hx hb dX12_sparks_5 (by decide) ?_
  refine lv_istore_n (lv' := [(1, .int 0), (0, .ref (b + 81))]) hx hb dX12_sparks_6 rfl hl (by decide) rfl (fun ls hl => ?_)
  have l_0 : (0 : Int32).toInt = 0 := by decide
  exact L_X12_sparks_f_7 hx hb hr hml hown hts hlocks S μ0 hS20 hS23 hS30 t h_t fT  401 0 (by omega) (by omega) μ1 hI (by rw [← hμ1]; exact ht) (by rw [show μ1.1 106 = μ.1 106 from by rw [← hμ1]; exact m_si_row (by decide)]; exact hfT) (fun i hi => absurd hi (by show ¬ (i : Int) < 0; omega)) _ _ hW ls (lv_sub hl [1, 0] rfl)
set_option maxHeartbeats 4000000 in
set_option maxRecDepth 100000 in
theorem g_X7_tell_f (l : Launch) (D : va_G) (cy : Nat → ClassId) (b : Nat) (S : Nat → Bool) (μ0 : mM) (hS10 : S 10 = true) (t : Int32) (h_t : 0 ≤ t.toInt ∧ t.toInt ≤ 200) (ld : Int32) (k u v w : Int32) (h_v : 0 ≤ v.toInt ∧ v.toInt ≤ 1) (μ : mM) (hI : IY S μ0 μ) (ht : μ.1 76 4 = t) (hld : μ.1 76 5 = ld) : m_Ci l yX7_tell cX7_tell 5 ((some .boolean)) 1 D cy b LAY μ [.ref (b + 76), .int k, .int u, .int v, .int w] (fun r ν => IY S μ0 ν ∧ ((r = 1 ∧ (0 ≤ k.toInt ∧ k.toInt ≤ 3 ∧ 1 ≤ u.toInt ∧ u.toInt ≤ 9999 ∧ ld.toInt ≤ w.toInt ∧ w.toInt ≤ 999 ∧ t.toInt < 200) ∧ (ν.1 76 4).toInt = t.toInt + 1 ∧ ν.1 76 5 = w ∧ ν.1 77 = m_up (μ.1 77) t.toNatClampNeg k ∧ ν.1 78 = m_up (μ.1 78) t.toNatClampNeg u ∧ ν.1 79 = m_up (μ.1 79) t.toNatClampNeg w ∧ ν.1 80 = m_up (μ.1 80) t.toNatClampNeg v) ∨ (r = 0 ∧ ¬ (0 ≤ k.toInt ∧ k.toInt ≤ 3 ∧ 1 ≤ u.toInt ∧ u.toInt ≤ 9999 ∧ ld.toInt ≤ w.toInt ∧ w.toInt ≤ 999 ∧ t.toInt < 200) ∧ ν.1 76 4 = t ∧ ν.1 76 5 = ld ∧ ν.1 77 = μ.1 77 ∧ ν.1 78 = μ.1 78 ∧ ν.1 79 = μ.1 79 ∧ ν.1 80 = μ.1 80))) := by
  unfold m_Ci
  refine m_of (by decide) (Nat.le_of_ble_eq_true rfl) ?_
  intro p e s m below meth c hx hb hr hml hown hts hlocks _ hW ls hl
  have hown : s.vm.findClass RX7 = some m.cls := hown
  have hl : lv_has ls 5 [(0, .ref (b + 76)), (1, .int k), (2, .int u), (3, .int v), (4, .int w)] := hl
  refine lv_iload_n hx hb dX7_tell_0 rfl (lv_at hl 1 rfl) ?_
  refine lv_iconst (v := 0) hx hb dX7_tell_1 (by decide) ?_
  refine lv_iconst (v := 3) hx hb dX7_tell_2 (by decide) ?_
  have l_0 : (0 : Int32).toInt = 0 := by decide
  have l_3 : (3 : Int32).toInt = 3 := by decide
  refine m_aI hW (m_runSN (As := [.int k, .int 0, .int 3]) (rest := []) hx hb hml hown hts hW (g_X11_within l D cy b k 0 3 μ hI.1) ms_X11_within n_X7_32 rfl hl.1 rfl (Nat.le_of_ble_eq_true rfl) dX7_tell_3 ⟨Nat.le_of_ble_eq_true rfl, Nat.le_of_ble_eq_true rfl⟩ ⟨Nat.le_of_ble_eq_true rfl, Nat.le_of_ble_eq_true rfl⟩) (fun x1 μ1 H locs q1 hW => ?_)
  obtain ⟨q1_m, q1⟩ := q1
  subst q1_m
  rcases q1 with ⟨rfl, q1⟩ | ⟨rfl, q1⟩
  · refine lv_if_eq (tgt := 45) hx hb dX7_tell_6 (by decide) (fun c => False.elim (by revert c; decide)) (fun _ => ?_)
    refine lv_iload_n hx hb dX7_tell_9 rfl (lv_at hl 2 rfl) ?_
    refine lv_iconst (v := 1) hx hb dX7_tell_10 (by decide) ?_
    refine lv_sipush (v := 9999) hx hb dX7_tell_11 (by decide) ?_
    have l_1 : (1 : Int32).toInt = 1 := by decide
    have l_9999 : (9999 : Int32).toInt = 9999 := by decide
    refine m_aI hW (m_runSN (As := [.int u, .int 1, .int 9999]) (rest := []) hx hb hml hown hts hW (g_X11_within l D cy b u 1 9999 μ hI.1) ms_X11_within n_X7_32 rfl hl.1 rfl (Nat.le_of_ble_eq_true rfl) dX7_tell_14 ⟨Nat.le_of_ble_eq_true rfl, Nat.le_of_ble_eq_true rfl⟩ ⟨Nat.le_of_ble_eq_true rfl, Nat.le_of_ble_eq_true rfl⟩) (fun x2 μ2 H locs q2 hW => ?_)
    obtain ⟨q2_m, q2⟩ := q2
    subst q2_m
    rcases q2 with ⟨rfl, q2⟩ | ⟨rfl, q2⟩
    · refine lv_if_eq (tgt := 45) hx hb dX7_tell_17 (by decide) (fun c => False.elim (by revert c; decide)) (fun _ => ?_)
      refine lv_iload hx hb dX7_tell_20 (lv_at hl 4 rfl) ?_
      refine lv_aload_n hx hb dX7_tell_22 rfl (lv_at hl 0 rfl) ?_
      refine m_geti hx hb hts hown hW (76) 5 rfl rfl cw_7 rfl (by decide) k_X7_29 dX7_tell_23 ?_
      refine lv_topi (fun x3 ex3 => ?_)
      have ex3 : x3 = ld := by rw [ex3]; exact hld
      have ex3 := ex3.symm
      subst ex3
      refine lv_sipush (v := 999) hx hb dX7_tell_26 (by decide) ?_
      have l_999 : (999 : Int32).toInt = 999 := by decide
      refine m_aI hW (m_runSN (As := [.int w, .int ld, .int 999]) (rest := []) hx hb hml hown hts hW (g_X11_within l D cy b w ld 999 μ hI.1) ms_X11_within n_X7_32 rfl hl.1 rfl (Nat.le_of_ble_eq_true rfl) dX7_tell_29 ⟨Nat.le_of_ble_eq_true rfl, Nat.le_of_ble_eq_true rfl⟩ ⟨Nat.le_of_ble_eq_true rfl, Nat.le_of_ble_eq_true rfl⟩) (fun x4 μ4 H locs q4 hW => ?_)
      obtain ⟨q4_m, q4⟩ := q4
      subst q4_m
      rcases q4 with ⟨rfl, q4⟩ | ⟨rfl, q4⟩
      · refine lv_if_eq (tgt := 45) hx hb dX7_tell_32 (by decide) (fun c => False.elim (by revert c; decide)) (fun _ => ?_)
        refine lv_aload_n hx hb dX7_tell_35 rfl (lv_at hl 0 rfl) ?_
        refine m_geti hx hb hts hown hW (76) 4 rfl rfl cw_7 rfl (by decide) k_X7_25 dX7_tell_36 ?_
        refine lv_topi (fun x5 ex5 => ?_)
        have ex5 : x5 = t := by rw [ex5]; exact ht
        have ex5 := ex5.symm
        subst ex5
        refine lv_sipush (v := 200) hx hb dX7_tell_39 (by decide) ?_
        refine lv_icmp_lt (tgt := 47) hx hb dX7_tell_42 (by decide) (fun c6 => ?_) (fun c6 => ?_)
        · have i6 := m_c1 (rfl : t.toInt = _) (by decide : (200 : Int32).toInt = 200) c6
          refine lv_aload_n hx hb dX7_tell_47 rfl (lv_at hl 0 rfl) ?_
          refine m_getr hx hb hts hown hW (76) 0 (77) rfl rfl cw_7 rfl (by decide) k_X7_11 dX7_tell_48 ?_
          refine lv_aload_n hx hb dX7_tell_51 rfl (lv_at hl 0 rfl) ?_
          refine m_geti hx hb hts hown hW (76) 4 rfl rfl cw_7 rfl (by decide) k_X7_25 dX7_tell_52 ?_
          refine lv_topi (fun x7 ex7 => ?_)
          have ex7 : x7 = t := by rw [ex7]; exact ht
          have ex7 := ex7.symm
          subst ex7
          refine lv_iload_n hx hb dX7_tell_55 rfl (lv_at hl 1 rfl) ?_
          refine m_iast hx hb hW (77) rfl (m_ixI (rfl : t.toInt = _) (by omega) (by omega)) dX7_tell_56 (fun H locs hW _ => ?_)
          generalize hμ8 : m_si μ (77) (t : Int32).toNatClampNeg k = μ8 at hW
          have hI := hI.si0 hμ8 rfl hS10
          refine lv_aload_n hx hb dX7_tell_57 rfl (lv_at hl 0 rfl) ?_
          refine m_getr hx hb hts hown hW (76) 1 (78) rfl rfl cw_7 rfl (by decide) k_X7_15 dX7_tell_58 ?_
          refine lv_aload_n hx hb dX7_tell_61 rfl (lv_at hl 0 rfl) ?_
          refine m_geti hx hb hts hown hW (76) 4 rfl rfl cw_7 rfl (by decide) k_X7_25 dX7_tell_62 ?_
          refine lv_topi (fun x9 ex9 => ?_)
          have ex9 : x9 = t := by rw [ex9, ← hμ8]; exact ht
          have ex9 := ex9.symm
          subst ex9
          refine lv_iload_n hx hb dX7_tell_65 rfl (lv_at hl 2 rfl) ?_
          refine m_iast hx hb hW (78) rfl (m_ixI (rfl : t.toInt = _) (by omega) (by omega)) dX7_tell_66 (fun H locs hW _ => ?_)
          generalize hμ10 : m_si μ8 (78) (t : Int32).toNatClampNeg u = μ10 at hW
          have hI := hI.si0 hμ10 rfl hS10
          refine lv_aload_n hx hb dX7_tell_67 rfl (lv_at hl 0 rfl) ?_
          refine m_getr hx hb hts hown hW (76) 3 (80) rfl rfl cw_7 rfl (by decide) k_X7_21 dX7_tell_68 ?_
          refine lv_aload_n hx hb dX7_tell_71 rfl (lv_at hl 0 rfl) ?_
          refine m_geti hx hb hts hown hW (76) 4 rfl rfl cw_7 rfl (by decide) k_X7_25 dX7_tell_72 ?_
          refine lv_topi (fun x11 ex11 => ?_)
          have ex11 : x11 = t := by rw [ex11, ← hμ10, ← hμ8]; exact ht
          have ex11 := ex11.symm
          subst ex11
          refine lv_iload_n hx hb dX7_tell_75 rfl (lv_at hl 3 rfl) ?_
          refine m_zast hx hb hW (80) rfl (m_ixI (rfl : t.toInt = _) (by omega) (by omega)) (m_nb (m_b01 (by omega))) dX7_tell_76 (fun H locs hW _ => ?_)
          generalize hμ12 : m_si μ10 (80) (t : Int32).toNatClampNeg v = μ12 at hW
          have hI := hI.si1 hμ12 rfl (by omega) hS10
          refine lv_aload_n hx hb dX7_tell_77 rfl (lv_at hl 0 rfl) ?_
          refine m_getr hx hb hts hown hW (76) 2 (79) rfl rfl cw_7 rfl (by decide) k_X7_18 dX7_tell_78 ?_
          refine lv_aload_n hx hb dX7_tell_81 rfl (lv_at hl 0 rfl) ?_
          refine m_geti hx hb hts hown hW (76) 4 rfl rfl cw_7 rfl (by decide) k_X7_25 dX7_tell_82 ?_
          refine lv_topi (fun x13 ex13 => ?_)
          have ex13 : x13 = t := by rw [ex13, ← hμ12, ← hμ10, ← hμ8]; exact ht
          have ex13 := ex13.symm
          subst ex13
          refine lv_iload hx hb dX7_tell_85 (lv_at hl 4 rfl) ?_
          refine m_iast hx hb hW (79) rfl (m_ixI (rfl : t.toInt = _) (by omega) (by omega)) dX7_tell_87 (fun H locs hW _ => ?_)
          generalize hμ14 : m_si μ12 (79) (t : Int32).toNatClampNeg w = μ14 at hW
          have hI := hI.si0 hμ14 rfl hS10
          refine lv_aload_n hx hb dX7_tell_88 rfl (lv_at hl 0 rfl) ?_
          refine lv_dup hx hb dX7_tell_89 rfl ?_
          refine m_geti hx hb hts hown hW (76) 4 rfl rfl cw_7 rfl (by decide) k_X7_25 dX7_tell_90 ?_
          refine lv_topi (fun x15 ex15 => ?_)
          have ex15 : x15 = t := by rw [ex15, ← hμ14, ← hμ12, ← hμ10, ← hμ8]; exact ht
          have ex15 := ex15.symm
          subst ex15
          refine lv_iconst (v := 1) hx hb dX7_tell_93 (by decide) ?_
          refine lv_iadd hx hb dX7_tell_94 ?_
          refine lv_topi (fun x16 ex16 => ?_)
          have tx16 : x16.toInt = t.toInt + 1 := m_addI ex16 (rfl : t.toInt = _) (by decide : (1 : Int32).toInt = 1) (by omega) (by omega)
          refine m_puti hx hb hts hown hW (76) 4 rfl rfl cw_7 tyX7_ok nmX7 rfl (by decide) k_X7_25 rfl rfl rfl dX7_tell_95 (fun H locs hW _ => ?_)
          generalize hμ17 : m_si μ14 (76) 4 x16 = μ17 at hW
          have hI := hI.si1 hμ17 rfl (by omega) hS10
          refine lv_aload_n hx hb dX7_tell_98 rfl (lv_at hl 0 rfl) ?_
          refine lv_iload hx hb dX7_tell_99 (lv_at hl 4 rfl) ?_
          refine m_puti hx hb hts hown hW (76) 5 rfl rfl cw_7 tyX7_ok nmX7 rfl (by decide) k_X7_29 rfl rfl rfl dX7_tell_101 (fun H locs hW _ => ?_)
          generalize hμ18 : m_si μ17 (76) 5 w = μ18 at hW
          have hI := hI.si0 hμ18 rfl hS10
          refine lv_iconst (v := 1) hx hb dX7_tell_104 (by decide) ?_
          exact m_iret hx hb hr hlocks hW (by decide) (⟨hI, Or.inl ⟨rfl, by omega, by rw [show μ18.1 76 4 = x16 from by rw [← hμ18, ← hμ17]; first | rfl | exact if_pos ⟨rfl, rfl⟩]; omega, by rw [show μ18.1 76 5 = w from by rw [← hμ18]; first | rfl | exact if_pos ⟨rfl, rfl⟩], by rw [show μ18.1 77 = μ17.1 77 from by rw [← hμ18]; exact m_si_row (by decide), show μ17.1 77 = μ14.1 77 from by rw [← hμ17]; exact m_si_row (by decide), show μ14.1 77 = μ12.1 77 from by rw [← hμ14]; exact m_si_row (by decide), show μ12.1 77 = μ10.1 77 from by rw [← hμ12]; exact m_si_row (by decide), show μ10.1 77 = μ8.1 77 from by rw [← hμ10]; exact m_si_row (by decide), show μ8.1 77 = m_up (μ.1 77) (t : Int32).toNatClampNeg k from by rw [← hμ8]; exact m_si_up], by rw [show μ18.1 78 = μ17.1 78 from by rw [← hμ18]; exact m_si_row (by decide), show μ17.1 78 = μ14.1 78 from by rw [← hμ17]; exact m_si_row (by decide), show μ14.1 78 = μ12.1 78 from by rw [← hμ14]; exact m_si_row (by decide), show μ12.1 78 = μ10.1 78 from by rw [← hμ12]; exact m_si_row (by decide), show μ10.1 78 = m_up (μ8.1 78) (t : Int32).toNatClampNeg u from by rw [← hμ10]; exact m_si_up, show μ8.1 78 = μ.1 78 from by rw [← hμ8]; exact m_si_row (by decide)], by rw [show μ18.1 79 = μ17.1 79 from by rw [← hμ18]; exact m_si_row (by decide), show μ17.1 79 = μ14.1 79 from by rw [← hμ17]; exact m_si_row (by decide), show μ14.1 79 = m_up (μ12.1 79) (t : Int32).toNatClampNeg w from by rw [← hμ14]; exact m_si_up, show μ12.1 79 = μ10.1 79 from by rw [← hμ12]; exact m_si_row (by decide), show μ10.1 79 = μ8.1 79 from by rw [← hμ10]; exact m_si_row (by decide), show μ8.1 79 = μ.1 79 from by rw [← hμ8]; exact m_si_row (by decide)], by rw [show μ18.1 80 = μ17.1 80 from by rw [← hμ18]; exact m_si_row (by decide), show μ17.1 80 = μ14.1 80 from by rw [← hμ17]; exact m_si_row (by decide), show μ14.1 80 = μ12.1 80 from by rw [← hμ14]; exact m_si_row (by decide), show μ12.1 80 = m_up (μ10.1 80) (t : Int32).toNatClampNeg v from by rw [← hμ12]; exact m_si_up, show μ10.1 80 = μ8.1 80 from by rw [← hμ10]; exact m_si_row (by decide), show μ8.1 80 = μ.1 80 from by rw [← hμ8]; exact m_si_row (by decide)]⟩⟩) dX7_tell_105
        · have i6 := m_c2 (rfl : t.toInt = _) (by decide : (200 : Int32).toInt = 200) c6
          refine lv_iconst (v := 0) hx hb dX7_tell_45 (by decide) ?_
          exact m_iret hx hb hr hlocks hW (by decide) (⟨hI, Or.inr ⟨rfl, by omega, by rw [show μ.1 76 4 = t from by exact ht], by rw [show μ.1 76 5 = ld from by exact hld], rfl, rfl, rfl, rfl⟩⟩) dX7_tell_46
      · refine lv_if_eq (tgt := 45) hx hb dX7_tell_32 (by decide) (fun _ => ?_) (fun c => False.elim (by revert c; decide))
        refine lv_iconst (v := 0) hx hb dX7_tell_45 (by decide) ?_
        exact m_iret hx hb hr hlocks hW (by decide) (⟨hI, Or.inr ⟨rfl, by omega, by rw [show μ.1 76 4 = t from by exact ht], by rw [show μ.1 76 5 = ld from by exact hld], rfl, rfl, rfl, rfl⟩⟩) dX7_tell_46
    · refine lv_if_eq (tgt := 45) hx hb dX7_tell_17 (by decide) (fun _ => ?_) (fun c => False.elim (by revert c; decide))
      refine lv_iconst (v := 0) hx hb dX7_tell_45 (by decide) ?_
      exact m_iret hx hb hr hlocks hW (by decide) (⟨hI, Or.inr ⟨rfl, by omega, by rw [show μ.1 76 4 = t from by exact ht], by rw [show μ.1 76 5 = ld from by exact hld], rfl, rfl, rfl, rfl⟩⟩) dX7_tell_46
  · refine lv_if_eq (tgt := 45) hx hb dX7_tell_6 (by decide) (fun _ => ?_) (fun c => False.elim (by revert c; decide))
    refine lv_iconst (v := 0) hx hb dX7_tell_45 (by decide) ?_
    exact m_iret hx hb hr hlocks hW (by decide) (⟨hI, Or.inr ⟨rfl, by omega, by rw [show μ.1 76 4 = t from by exact ht], by rw [show μ.1 76 5 = ld from by exact hld], rfl, rfl, rfl, rfl⟩⟩) dX7_tell_46
set_option maxHeartbeats 4000000 in
set_option maxRecDepth 100000 in
theorem g_X11_test_f (l : Launch) (D : va_G) (cy : Nat → ClassId) (b : Nat) (S : Nat → Bool) (μ0 : mM) (hS10 : S 10 = true) (t : Int32) (h_t : 0 ≤ t.toInt ∧ t.toInt ≤ 200) (ld : Int32) (k u v w : Int32) (h_v : 0 ≤ v.toInt ∧ v.toInt ≤ 1) (μ : mM) (hI : IY S μ0 μ) (ht : μ.1 76 4 = t) (hld : μ.1 76 5 = ld) : m_Ci l yX11_test cX11_test 5 ((some .boolean)) 2 D cy b LAY μ [.ref (b + 0), .int k, .int u, .int v, .int w] (fun r ν => IY S μ0 ν ∧ ((r = 1 ∧ (0 ≤ k.toInt ∧ k.toInt ≤ 3 ∧ 1 ≤ u.toInt ∧ u.toInt ≤ 9999 ∧ ld.toInt ≤ w.toInt ∧ w.toInt ≤ 999 ∧ t.toInt < 200) ∧ (ν.1 76 4).toInt = t.toInt + 1 ∧ ν.1 76 5 = w ∧ ν.1 77 = m_up (μ.1 77) t.toNatClampNeg k ∧ ν.1 78 = m_up (μ.1 78) t.toNatClampNeg u ∧ ν.1 79 = m_up (μ.1 79) t.toNatClampNeg w ∧ ν.1 80 = m_up (μ.1 80) t.toNatClampNeg v) ∨ (r = 0 ∧ ¬ (0 ≤ k.toInt ∧ k.toInt ≤ 3 ∧ 1 ≤ u.toInt ∧ u.toInt ≤ 9999 ∧ ld.toInt ≤ w.toInt ∧ w.toInt ≤ 999 ∧ t.toInt < 200) ∧ ν.1 76 4 = t ∧ ν.1 76 5 = ld ∧ ν.1 77 = μ.1 77 ∧ ν.1 78 = μ.1 78 ∧ ν.1 79 = μ.1 79 ∧ ν.1 80 = μ.1 80))) := by
  unfold m_Ci
  refine m_of (by decide) (Nat.le_of_ble_eq_true rfl) ?_
  intro p e s m below meth c hx hb hr hml hown hts hlocks _ hW ls hl
  have hown : s.vm.findClass RX11 = some m.cls := hown
  have hl : lv_has ls 5 [(0, .ref (b + 0)), (1, .int k), (2, .int u), (3, .int v), (4, .int w)] := hl
  refine lv_aload_n hx hb dX11_test_0 rfl (lv_at hl 0 rfl) ?_
  refine m_getr hx hb hts hown hW (0) 8 (76) rfl rfl cw_11 rfl (by decide) k_X11_66 dX11_test_1 ?_
  refine lv_iload_n hx hb dX11_test_4 rfl (lv_at hl 1 rfl) ?_
  refine lv_iload_n hx hb dX11_test_5 rfl (lv_at hl 2 rfl) ?_
  refine lv_iload_n hx hb dX11_test_6 rfl (lv_at hl 3 rfl) ?_
  refine lv_iload hx hb dX11_test_7 (lv_at hl 4 rfl) ?_
  refine m_aI hW (m_runV (As := [.int k, .int u, .int v, .int w]) (rest := []) hx hb hml hown hts hW (76) (g_X7_tell_f l D cy b S μ0 hS10 t (by omega) ld k u v w (by omega) μ hI (by exact ht) (by exact hld)) mi_X7_tell k_X11_254 rfl rfl rfl hl.1 rfl (Nat.le_of_ble_eq_true rfl) dX11_test_9 ⟨Nat.le_of_ble_eq_true rfl, Nat.le_of_ble_eq_true rfl⟩ ⟨Nat.le_of_ble_eq_true rfl, Nat.le_of_ble_eq_true rfl⟩) (fun x1 μ1 H locs q1 hW => ?_)
  obtain ⟨hI, q1⟩ := q1
  have bx1 : 0 ≤ x1.toInt ∧ x1.toInt ≤ 1 := m_10 (q1.elim (fun h => Or.inl h.1) (fun h => Or.inr h.1))
  exact m_iret hx hb hr hlocks hW (m_nb (m_b01 (by omega))) (⟨hI, q1⟩) dX11_test_12
set_option maxHeartbeats 4000000 in
set_option maxRecDepth 100000 in
theorem g_X12_test_f (l : Launch) (D : va_G) (cy : Nat → ClassId) (b : Nat) (S : Nat → Bool) (μ0 : mM) (hS20 : S 20 = true) (hS29 : S 29 = true) (t : Int32) (h_t : 0 ≤ t.toInt ∧ t.toInt ≤ 200) (ld : Int32) (k u v w : Int32) (h_v : 0 ≤ v.toInt ∧ v.toInt ≤ 1) (μ : mM) (hI : IY S μ0 μ) (ht : μ.1 81 67 = t) (hld : ld = if t = 0 then 0 else μ.1 127 (t.toNatClampNeg - 1)) : m_Ci l yX12_test cX12_test 5 ((some .boolean)) 1 D cy b LAY μ [.ref (b + 81), .int k, .int u, .int v, .int w] (fun r ν => IY S μ0 ν ∧ ((r = 1 ∧ (0 ≤ k.toInt ∧ k.toInt ≤ 3 ∧ 1 ≤ u.toInt ∧ u.toInt ≤ 9999 ∧ ld.toInt ≤ w.toInt ∧ w.toInt ≤ 999 ∧ t.toInt < 200) ∧ (ν.1 81 67).toInt = t.toInt + 1 ∧ ν.1 124 = m_up (μ.1 124) t.toNatClampNeg k ∧ ν.1 125 = m_up (μ.1 125) t.toNatClampNeg u ∧ ν.1 127 = m_up (μ.1 127) t.toNatClampNeg w ∧ ν.1 126 = m_up (μ.1 126) t.toNatClampNeg v) ∨ (r = 0 ∧ ¬ (0 ≤ k.toInt ∧ k.toInt ≤ 3 ∧ 1 ≤ u.toInt ∧ u.toInt ≤ 9999 ∧ ld.toInt ≤ w.toInt ∧ w.toInt ≤ 999 ∧ t.toInt < 200) ∧ ν.1 81 67 = t ∧ ν.1 124 = μ.1 124 ∧ ν.1 125 = μ.1 125 ∧ ν.1 127 = μ.1 127 ∧ ν.1 126 = μ.1 126))) := by
  unfold m_Ci
  refine m_of (by decide) (Nat.le_of_ble_eq_true rfl) ?_
  intro p e s m below meth c hx hb hr hml hown hts hlocks _ hW ls hl
  have hown : s.vm.findClass RX12 = some m.cls := hown
  have hl : lv_has ls 5 [(0, .ref (b + 81)), (1, .int k), (2, .int u), (3, .int v), (4, .int w)] := hl
  refine lv_aload_n hx hb dX12_test_0 rfl (lv_at hl 0 rfl) ?_
  refine lv_iconst (v := 0) hx hb dX12_test_1 (by decide) ?_
  refine m_puti hx hb hts hown hW (81) 0 rfl rfl cw_12 tyX12_ok nmX12 rfl (by decide) k_X12_167 rfl rfl rfl dX12_test_2 (fun H locs hW _ => ?_)
  generalize hμ1 : m_si μ (81) 0 0 = μ1 at hW
  have hI := hI.si0 hμ1 rfl hS20
  refine lv_aload_n hx hb dX12_test_5 rfl (lv_at hl 0 rfl) ?_
  refine lv_iload_n hx hb dX12_test_6 rfl (lv_at hl 1 rfl) ?_
  refine lv_iconst (v := 0) hx hb dX12_test_7 (by decide) ?_
  refine lv_iconst (v := 3) hx hb dX12_test_8 (by decide) ?_
  have l_0 : (0 : Int32).toInt = 0 := by decide
  have l_3 : (3 : Int32).toInt = 3 := by decide
  refine m_aI hW (m_runV (As := [.int k, .int 0, .int 3]) (rest := []) hx hb hml hown hts hW (81) (g_X12_isIn l D cy b k 0 3 μ1 hI.1) mi_X12_isIn k_X12_170 rfl rfl rfl hl.1 rfl (Nat.le_of_ble_eq_true rfl) dX12_test_9 ⟨Nat.le_of_ble_eq_true rfl, Nat.le_of_ble_eq_true rfl⟩ ⟨Nat.le_of_ble_eq_true rfl, Nat.le_of_ble_eq_true rfl⟩) (fun x2 μ2 H locs q2 hW => ?_)
  obtain ⟨q2_m, q2⟩ := q2
  subst q2_m
  rcases q2 with ⟨rfl, q2⟩ | ⟨rfl, q2⟩
  · refine lv_if_eq (tgt := 71) hx hb dX12_test_12 (by decide) (fun c => False.elim (by revert c; decide)) (fun _ => ?_)
    refine lv_aload_n hx hb dX12_test_15 rfl (lv_at hl 0 rfl) ?_
    refine lv_iload_n hx hb dX12_test_16 rfl (lv_at hl 2 rfl) ?_
    refine lv_iconst (v := 1) hx hb dX12_test_17 (by decide) ?_
    refine lv_sipush (v := 9999) hx hb dX12_test_18 (by decide) ?_
    have l_1 : (1 : Int32).toInt = 1 := by decide
    have l_9999 : (9999 : Int32).toInt = 9999 := by decide
    refine m_aI hW (m_runV (As := [.int u, .int 1, .int 9999]) (rest := []) hx hb hml hown hts hW (81) (g_X12_isIn l D cy b u 1 9999 μ1 hI.1) mi_X12_isIn k_X12_170 rfl rfl rfl hl.1 rfl (Nat.le_of_ble_eq_true rfl) dX12_test_21 ⟨Nat.le_of_ble_eq_true rfl, Nat.le_of_ble_eq_true rfl⟩ ⟨Nat.le_of_ble_eq_true rfl, Nat.le_of_ble_eq_true rfl⟩) (fun x3 μ3 H locs q3 hW => ?_)
    obtain ⟨q3_m, q3⟩ := q3
    subst q3_m
    rcases q3 with ⟨rfl, q3⟩ | ⟨rfl, q3⟩
    · refine lv_if_eq (tgt := 71) hx hb dX12_test_24 (by decide) (fun c => False.elim (by revert c; decide)) (fun _ => ?_)
      refine lv_aload_n hx hb dX12_test_27 rfl (lv_at hl 0 rfl) ?_
      refine lv_iload hx hb dX12_test_28 (lv_at hl 4 rfl) ?_
      refine lv_aload_n hx hb dX12_test_30 rfl (lv_at hl 0 rfl) ?_
      refine m_geti hx hb hts hown hW (81) 67 rfl rfl cw_12 rfl (by decide) k_X12_401 dX12_test_31 ?_
      refine lv_topi (fun x4 ex4 => ?_)
      have ex4 : x4 = t := by rw [ex4, ← hμ1]; exact ht
      have ex4 := ex4.symm
      subst ex4
      refine lv_if_ne (tgt := 41) hx hb dX12_test_34 (by decide) (fun c5 => ?_) (fun c5 => ?_)
      · have i5 := m_c6 (rfl : t.toInt = _) (by decide : (0 : Int32).toInt = 0) c5
        refine lv_aload_n hx hb dX12_test_41 rfl (lv_at hl 0 rfl) ?_
        refine m_getr hx hb hts hown hW (81) 71 (127) rfl rfl cw_12 rfl (by decide) k_X12_161 dX12_test_42 ?_
        refine lv_aload_n hx hb dX12_test_45 rfl (lv_at hl 0 rfl) ?_
        refine m_geti hx hb hts hown hW (81) 67 rfl rfl cw_12 rfl (by decide) k_X12_401 dX12_test_46 ?_
        refine lv_topi (fun x6 ex6 => ?_)
        have ex6 : x6 = t := by rw [ex6, ← hμ1]; exact ht
        have ex6 := ex6.symm
        subst ex6
        refine lv_iconst (v := 1) hx hb dX12_test_49 (by decide) ?_
        refine lv_isub hx hb dX12_test_50 ?_
        refine lv_topi (fun x7 ex7 => ?_)
        have tx7 : x7.toInt = t.toInt - 1 := m_subI ex7 (rfl : t.toInt = _) (by decide : (1 : Int32).toInt = 1) (by omega) (by omega)
        refine m_iald hx hb hW (127) rfl (m_ixI (rfl : x7.toInt = _) (by omega) (by omega)) dX12_test_51 ?_
        refine lv_topi (fun x8 ex8 => ?_)
        have dld : ld = x8 := by rw [hld, if_neg (m_neI (by show t.toInt ≠ 0; omega)), ex8, show μ1.1 127 = μ.1 127 from by rw [show μ1.1 127 = μ.1 127 from by rw [← hμ1]; exact m_si_row (by decide)], show x7.toNatClampNeg = t.toNatClampNeg - 1 from by have := m_ckI (x := t) (by omega); have := m_ckI (x := x7) (by omega); omega]
        have dld := congrArg Int32.toInt dld
        refine lv_sipush (v := 999) hx hb dX12_test_52 (by decide) ?_
        have l_999 : (999 : Int32).toInt = 999 := by decide
        refine m_aI hW (m_runV (As := [.int w, .int x8, .int 999]) (rest := []) hx hb hml hown hts hW (81) (g_X12_isIn l D cy b w x8 999 μ1 hI.1) mi_X12_isIn k_X12_170 rfl rfl rfl hl.1 rfl (Nat.le_of_ble_eq_true rfl) dX12_test_55 ⟨Nat.le_of_ble_eq_true rfl, Nat.le_of_ble_eq_true rfl⟩ ⟨Nat.le_of_ble_eq_true rfl, Nat.le_of_ble_eq_true rfl⟩) (fun x9 μ9 H locs q9 hW => ?_)
        obtain ⟨q9_m, q9⟩ := q9
        subst q9_m
        rcases q9 with ⟨rfl, q9⟩ | ⟨rfl, q9⟩
        · refine lv_if_eq (tgt := 71) hx hb dX12_test_58 (by decide) (fun c => False.elim (by revert c; decide)) (fun _ => ?_)
          refine lv_aload_n hx hb dX12_test_61 rfl (lv_at hl 0 rfl) ?_
          refine m_geti hx hb hts hown hW (81) 67 rfl rfl cw_12 rfl (by decide) k_X12_401 dX12_test_62 ?_
          refine lv_topi (fun x10 ex10 => ?_)
          have ex10 : x10 = t := by rw [ex10, ← hμ1]; exact ht
          have ex10 := ex10.symm
          subst ex10
          refine lv_sipush (v := 200) hx hb dX12_test_65 (by decide) ?_
          refine lv_icmp_ne (tgt := 73) hx hb dX12_test_68 (by decide) (fun c11 => ?_) (fun c11 => ?_)
          · have i11 := m_c6 (rfl : t.toInt = _) (by decide : (200 : Int32).toInt = 200) c11
            refine lv_aload_n hx hb dX12_test_73 rfl (lv_at hl 0 rfl) ?_
            refine m_getr hx hb hts hown hW (81) 68 (124) rfl rfl cw_12 rfl (by decide) k_X12_152 dX12_test_74 ?_
            refine lv_aload_n hx hb dX12_test_77 rfl (lv_at hl 0 rfl) ?_
            refine m_geti hx hb hts hown hW (81) 67 rfl rfl cw_12 rfl (by decide) k_X12_401 dX12_test_78 ?_
            refine lv_topi (fun x12 ex12 => ?_)
            have ex12 : x12 = t := by rw [ex12, ← hμ1]; exact ht
            have ex12 := ex12.symm
            subst ex12
            refine lv_iload_n hx hb dX12_test_81 rfl (lv_at hl 1 rfl) ?_
            refine m_iast hx hb hW (124) rfl (m_ixI (rfl : t.toInt = _) (by omega) (by omega)) dX12_test_82 (fun H locs hW _ => ?_)
            generalize hμ13 : m_si μ1 (124) (t : Int32).toNatClampNeg k = μ13 at hW
            have hI := hI.si0 hμ13 rfl hS29
            refine lv_aload_n hx hb dX12_test_83 rfl (lv_at hl 0 rfl) ?_
            refine m_getr hx hb hts hown hW (81) 69 (125) rfl rfl cw_12 rfl (by decide) k_X12_155 dX12_test_84 ?_
            refine lv_aload_n hx hb dX12_test_87 rfl (lv_at hl 0 rfl) ?_
            refine m_geti hx hb hts hown hW (81) 67 rfl rfl cw_12 rfl (by decide) k_X12_401 dX12_test_88 ?_
            refine lv_topi (fun x14 ex14 => ?_)
            have ex14 : x14 = t := by rw [ex14, ← hμ13, ← hμ1]; exact ht
            have ex14 := ex14.symm
            subst ex14
            refine lv_iload_n hx hb dX12_test_91 rfl (lv_at hl 2 rfl) ?_
            refine m_iast hx hb hW (125) rfl (m_ixI (rfl : t.toInt = _) (by omega) (by omega)) dX12_test_92 (fun H locs hW _ => ?_)
            generalize hμ15 : m_si μ13 (125) (t : Int32).toNatClampNeg u = μ15 at hW
            have hI := hI.si0 hμ15 rfl hS29
            refine lv_aload_n hx hb dX12_test_93 rfl (lv_at hl 0 rfl) ?_
            refine m_getr hx hb hts hown hW (81) 70 (126) rfl rfl cw_12 rfl (by decide) k_X12_158 dX12_test_94 ?_
            refine lv_aload_n hx hb dX12_test_97 rfl (lv_at hl 0 rfl) ?_
            refine m_geti hx hb hts hown hW (81) 67 rfl rfl cw_12 rfl (by decide) k_X12_401 dX12_test_98 ?_
            refine lv_topi (fun x16 ex16 => ?_)
            have ex16 : x16 = t := by rw [ex16, ← hμ15, ← hμ13, ← hμ1]; exact ht
            have ex16 := ex16.symm
            subst ex16
            refine lv_iload_n hx hb dX12_test_101 rfl (lv_at hl 3 rfl) ?_
            refine m_zast hx hb hW (126) rfl (m_ixI (rfl : t.toInt = _) (by omega) (by omega)) (m_nb (m_b01 (by omega))) dX12_test_102 (fun H locs hW _ => ?_)
            generalize hμ17 : m_si μ15 (126) (t : Int32).toNatClampNeg v = μ17 at hW
            have hI := hI.si1 hμ17 rfl (by omega) hS29
            refine lv_aload_n hx hb dX12_test_103 rfl (lv_at hl 0 rfl) ?_
            refine m_getr hx hb hts hown hW (81) 71 (127) rfl rfl cw_12 rfl (by decide) k_X12_161 dX12_test_104 ?_
            refine lv_aload_n hx hb dX12_test_107 rfl (lv_at hl 0 rfl) ?_
            refine m_geti hx hb hts hown hW (81) 67 rfl rfl cw_12 rfl (by decide) k_X12_401 dX12_test_108 ?_
            refine lv_topi (fun x18 ex18 => ?_)
            have ex18 : x18 = t := by rw [ex18, ← hμ17, ← hμ15, ← hμ13, ← hμ1]; exact ht
            have ex18 := ex18.symm
            subst ex18
            refine lv_iload hx hb dX12_test_111 (lv_at hl 4 rfl) ?_
            refine m_iast hx hb hW (127) rfl (m_ixI (rfl : t.toInt = _) (by omega) (by omega)) dX12_test_113 (fun H locs hW _ => ?_)
            generalize hμ19 : m_si μ17 (127) (t : Int32).toNatClampNeg w = μ19 at hW
            have hI := hI.si0 hμ19 rfl hS29
            refine lv_aload_n hx hb dX12_test_114 rfl (lv_at hl 0 rfl) ?_
            refine lv_aload_n hx hb dX12_test_115 rfl (lv_at hl 0 rfl) ?_
            refine m_geti hx hb hts hown hW (81) 67 rfl rfl cw_12 rfl (by decide) k_X12_401 dX12_test_116 ?_
            refine lv_topi (fun x20 ex20 => ?_)
            have ex20 : x20 = t := by rw [ex20, ← hμ19, ← hμ17, ← hμ15, ← hμ13, ← hμ1]; exact ht
            have ex20 := ex20.symm
            subst ex20
            refine lv_iconst (v := 1) hx hb dX12_test_119 (by decide) ?_
            refine lv_iadd hx hb dX12_test_120 ?_
            refine lv_topi (fun x21 ex21 => ?_)
            have tx21 : x21.toInt = t.toInt + 1 := m_addI ex21 (rfl : t.toInt = _) (by decide : (1 : Int32).toInt = 1) (by omega) (by omega)
            refine m_puti hx hb hts hown hW (81) 67 rfl rfl cw_12 tyX12_ok nmX12 rfl (by decide) k_X12_401 rfl rfl rfl dX12_test_121 (fun H locs hW _ => ?_)
            generalize hμ22 : m_si μ19 (81) 67 x21 = μ22 at hW
            have hI := hI.si1 hμ22 rfl (by omega) hS29
            refine lv_iconst (v := 1) hx hb dX12_test_124 (by decide) ?_
            exact m_iret hx hb hr hlocks hW (by decide) (⟨hI, Or.inl ⟨rfl, by omega, by rw [show μ22.1 81 67 = x21 from by rw [← hμ22]; first | rfl | exact if_pos ⟨rfl, rfl⟩]; omega, by rw [show μ22.1 124 = μ19.1 124 from by rw [← hμ22]; exact m_si_row (by decide), show μ19.1 124 = μ17.1 124 from by rw [← hμ19]; exact m_si_row (by decide), show μ17.1 124 = μ15.1 124 from by rw [← hμ17]; exact m_si_row (by decide), show μ15.1 124 = μ13.1 124 from by rw [← hμ15]; exact m_si_row (by decide), show μ13.1 124 = m_up (μ1.1 124) (t : Int32).toNatClampNeg k from by rw [← hμ13]; exact m_si_up, show μ1.1 124 = μ.1 124 from by rw [← hμ1]; exact m_si_row (by decide)], by rw [show μ22.1 125 = μ19.1 125 from by rw [← hμ22]; exact m_si_row (by decide), show μ19.1 125 = μ17.1 125 from by rw [← hμ19]; exact m_si_row (by decide), show μ17.1 125 = μ15.1 125 from by rw [← hμ17]; exact m_si_row (by decide), show μ15.1 125 = m_up (μ13.1 125) (t : Int32).toNatClampNeg u from by rw [← hμ15]; exact m_si_up, show μ13.1 125 = μ1.1 125 from by rw [← hμ13]; exact m_si_row (by decide), show μ1.1 125 = μ.1 125 from by rw [← hμ1]; exact m_si_row (by decide)], by rw [show μ22.1 127 = μ19.1 127 from by rw [← hμ22]; exact m_si_row (by decide), show μ19.1 127 = m_up (μ17.1 127) (t : Int32).toNatClampNeg w from by rw [← hμ19]; exact m_si_up, show μ17.1 127 = μ15.1 127 from by rw [← hμ17]; exact m_si_row (by decide), show μ15.1 127 = μ13.1 127 from by rw [← hμ15]; exact m_si_row (by decide), show μ13.1 127 = μ1.1 127 from by rw [← hμ13]; exact m_si_row (by decide), show μ1.1 127 = μ.1 127 from by rw [← hμ1]; exact m_si_row (by decide)], by rw [show μ22.1 126 = μ19.1 126 from by rw [← hμ22]; exact m_si_row (by decide), show μ19.1 126 = μ17.1 126 from by rw [← hμ19]; exact m_si_row (by decide), show μ17.1 126 = m_up (μ15.1 126) (t : Int32).toNatClampNeg v from by rw [← hμ17]; exact m_si_up, show μ15.1 126 = μ13.1 126 from by rw [← hμ15]; exact m_si_row (by decide), show μ13.1 126 = μ1.1 126 from by rw [← hμ13]; exact m_si_row (by decide), show μ1.1 126 = μ.1 126 from by rw [← hμ1]; exact m_si_row (by decide)]⟩⟩) dX12_test_125
          · have i11 := m_c5 (rfl : t.toInt = _) (by decide : (200 : Int32).toInt = 200) c11
            refine lv_iconst (v := 0) hx hb dX12_test_71 (by decide) ?_
            exact m_iret hx hb hr hlocks hW (by decide) (⟨hI, Or.inr ⟨rfl, by omega, by rw [show μ1.1 81 67 = t from by rw [← hμ1]; exact ht], by rw [show μ1.1 124 = μ.1 124 from by rw [← hμ1]; exact m_si_row (by decide)], by rw [show μ1.1 125 = μ.1 125 from by rw [← hμ1]; exact m_si_row (by decide)], by rw [show μ1.1 127 = μ.1 127 from by rw [← hμ1]; exact m_si_row (by decide)], by rw [show μ1.1 126 = μ.1 126 from by rw [← hμ1]; exact m_si_row (by decide)]⟩⟩) dX12_test_72
        · refine lv_if_eq (tgt := 71) hx hb dX12_test_58 (by decide) (fun _ => ?_) (fun c => False.elim (by revert c; decide))
          refine lv_iconst (v := 0) hx hb dX12_test_71 (by decide) ?_
          exact m_iret hx hb hr hlocks hW (by decide) (⟨hI, Or.inr ⟨rfl, by omega, by rw [show μ1.1 81 67 = t from by rw [← hμ1]; exact ht], by rw [show μ1.1 124 = μ.1 124 from by rw [← hμ1]; exact m_si_row (by decide)], by rw [show μ1.1 125 = μ.1 125 from by rw [← hμ1]; exact m_si_row (by decide)], by rw [show μ1.1 127 = μ.1 127 from by rw [← hμ1]; exact m_si_row (by decide)], by rw [show μ1.1 126 = μ.1 126 from by rw [← hμ1]; exact m_si_row (by decide)]⟩⟩) dX12_test_72
      · have i5 := m_c5 (rfl : t.toInt = _) (by decide : (0 : Int32).toInt = 0) c5
        refine lv_iconst (v := 0) hx hb dX12_test_37 (by decide) ?_
        have dld : ld.toInt = 0 := by rw [hld, if_pos (m_eqI (by show t.toInt = 0; omega))]; rfl
        refine lv_goto (tgt := 52) hx hb dX12_test_38 (by decide) ?_
        refine lv_sipush (v := 999) hx hb dX12_test_52 (by decide) ?_
        have l_999 : (999 : Int32).toInt = 999 := by decide
        refine m_aI hW (m_runV (As := [.int w, .int 0, .int 999]) (rest := []) hx hb hml hown hts hW (81) (g_X12_isIn l D cy b w 0 999 μ1 hI.1) mi_X12_isIn k_X12_170 rfl rfl rfl hl.1 rfl (Nat.le_of_ble_eq_true rfl) dX12_test_55 ⟨Nat.le_of_ble_eq_true rfl, Nat.le_of_ble_eq_true rfl⟩ ⟨Nat.le_of_ble_eq_true rfl, Nat.le_of_ble_eq_true rfl⟩) (fun x23 μ23 H locs q23 hW => ?_)
        obtain ⟨q23_m, q23⟩ := q23
        subst q23_m
        rcases q23 with ⟨rfl, q23⟩ | ⟨rfl, q23⟩
        · refine lv_if_eq (tgt := 71) hx hb dX12_test_58 (by decide) (fun c => False.elim (by revert c; decide)) (fun _ => ?_)
          refine lv_aload_n hx hb dX12_test_61 rfl (lv_at hl 0 rfl) ?_
          refine m_geti hx hb hts hown hW (81) 67 rfl rfl cw_12 rfl (by decide) k_X12_401 dX12_test_62 ?_
          refine lv_topi (fun x24 ex24 => ?_)
          have ex24 : x24 = t := by rw [ex24, ← hμ1]; exact ht
          have ex24 := ex24.symm
          subst ex24
          refine lv_sipush (v := 200) hx hb dX12_test_65 (by decide) ?_
          refine lv_icmp_ne (tgt := 73) hx hb dX12_test_68 (by decide) (fun c25 => ?_) (fun c25 => ?_)
          · have i25 := m_c6 (rfl : t.toInt = _) (by decide : (200 : Int32).toInt = 200) c25
            refine lv_aload_n hx hb dX12_test_73 rfl (lv_at hl 0 rfl) ?_
            refine m_getr hx hb hts hown hW (81) 68 (124) rfl rfl cw_12 rfl (by decide) k_X12_152 dX12_test_74 ?_
            refine lv_aload_n hx hb dX12_test_77 rfl (lv_at hl 0 rfl) ?_
            refine m_geti hx hb hts hown hW (81) 67 rfl rfl cw_12 rfl (by decide) k_X12_401 dX12_test_78 ?_
            refine lv_topi (fun x26 ex26 => ?_)
            have ex26 : x26 = t := by rw [ex26, ← hμ1]; exact ht
            have ex26 := ex26.symm
            subst ex26
            refine lv_iload_n hx hb dX12_test_81 rfl (lv_at hl 1 rfl) ?_
            refine m_iast hx hb hW (124) rfl (m_ixI (rfl : t.toInt = _) (by omega) (by omega)) dX12_test_82 (fun H locs hW _ => ?_)
            generalize hμ27 : m_si μ1 (124) (t : Int32).toNatClampNeg k = μ27 at hW
            have hI := hI.si0 hμ27 rfl hS29
            refine lv_aload_n hx hb dX12_test_83 rfl (lv_at hl 0 rfl) ?_
            refine m_getr hx hb hts hown hW (81) 69 (125) rfl rfl cw_12 rfl (by decide) k_X12_155 dX12_test_84 ?_
            refine lv_aload_n hx hb dX12_test_87 rfl (lv_at hl 0 rfl) ?_
            refine m_geti hx hb hts hown hW (81) 67 rfl rfl cw_12 rfl (by decide) k_X12_401 dX12_test_88 ?_
            refine lv_topi (fun x28 ex28 => ?_)
            have ex28 : x28 = t := by rw [ex28, ← hμ27, ← hμ1]; exact ht
            have ex28 := ex28.symm
            subst ex28
            refine lv_iload_n hx hb dX12_test_91 rfl (lv_at hl 2 rfl) ?_
            refine m_iast hx hb hW (125) rfl (m_ixI (rfl : t.toInt = _) (by omega) (by omega)) dX12_test_92 (fun H locs hW _ => ?_)
            generalize hμ29 : m_si μ27 (125) (t : Int32).toNatClampNeg u = μ29 at hW
            have hI := hI.si0 hμ29 rfl hS29
            refine lv_aload_n hx hb dX12_test_93 rfl (lv_at hl 0 rfl) ?_
            refine m_getr hx hb hts hown hW (81) 70 (126) rfl rfl cw_12 rfl (by decide) k_X12_158 dX12_test_94 ?_
            refine lv_aload_n hx hb dX12_test_97 rfl (lv_at hl 0 rfl) ?_
            refine m_geti hx hb hts hown hW (81) 67 rfl rfl cw_12 rfl (by decide) k_X12_401 dX12_test_98 ?_
            refine lv_topi (fun x30 ex30 => ?_)
            have ex30 : x30 = t := by rw [ex30, ← hμ29, ← hμ27, ← hμ1]; exact ht
            have ex30 := ex30.symm
            subst ex30
            refine lv_iload_n hx hb dX12_test_101 rfl (lv_at hl 3 rfl) ?_
            refine m_zast hx hb hW (126) rfl (m_ixI (rfl : t.toInt = _) (by omega) (by omega)) (m_nb (m_b01 (by omega))) dX12_test_102 (fun H locs hW _ => ?_)
            generalize hμ31 : m_si μ29 (126) (t : Int32).toNatClampNeg v = μ31 at hW
            have hI := hI.si1 hμ31 rfl (by omega) hS29
            refine lv_aload_n hx hb dX12_test_103 rfl (lv_at hl 0 rfl) ?_
            refine m_getr hx hb hts hown hW (81) 71 (127) rfl rfl cw_12 rfl (by decide) k_X12_161 dX12_test_104 ?_
            refine lv_aload_n hx hb dX12_test_107 rfl (lv_at hl 0 rfl) ?_
            refine m_geti hx hb hts hown hW (81) 67 rfl rfl cw_12 rfl (by decide) k_X12_401 dX12_test_108 ?_
            refine lv_topi (fun x32 ex32 => ?_)
            have ex32 : x32 = t := by rw [ex32, ← hμ31, ← hμ29, ← hμ27, ← hμ1]; exact ht
            have ex32 := ex32.symm
            subst ex32
            refine lv_iload hx hb dX12_test_111 (lv_at hl 4 rfl) ?_
            refine m_iast hx hb hW (127) rfl (m_ixI (rfl : t.toInt = _) (by omega) (by omega)) dX12_test_113 (fun H locs hW _ => ?_)
            generalize hμ33 : m_si μ31 (127) (t : Int32).toNatClampNeg w = μ33 at hW
            have hI := hI.si0 hμ33 rfl hS29
            refine lv_aload_n hx hb dX12_test_114 rfl (lv_at hl 0 rfl) ?_
            refine lv_aload_n hx hb dX12_test_115 rfl (lv_at hl 0 rfl) ?_
            refine m_geti hx hb hts hown hW (81) 67 rfl rfl cw_12 rfl (by decide) k_X12_401 dX12_test_116 ?_
            refine lv_topi (fun x34 ex34 => ?_)
            have ex34 : x34 = t := by rw [ex34, ← hμ33, ← hμ31, ← hμ29, ← hμ27, ← hμ1]; exact ht
            have ex34 := ex34.symm
            subst ex34
            refine lv_iconst (v := 1) hx hb dX12_test_119 (by decide) ?_
            refine lv_iadd hx hb dX12_test_120 ?_
            refine lv_topi (fun x35 ex35 => ?_)
            have tx35 : x35.toInt = t.toInt + 1 := m_addI ex35 (rfl : t.toInt = _) (by decide : (1 : Int32).toInt = 1) (by omega) (by omega)
            refine m_puti hx hb hts hown hW (81) 67 rfl rfl cw_12 tyX12_ok nmX12 rfl (by decide) k_X12_401 rfl rfl rfl dX12_test_121 (fun H locs hW _ => ?_)
            generalize hμ36 : m_si μ33 (81) 67 x35 = μ36 at hW
            have hI := hI.si1 hμ36 rfl (by omega) hS29
            refine lv_iconst (v := 1) hx hb dX12_test_124 (by decide) ?_
            exact m_iret hx hb hr hlocks hW (by decide) (⟨hI, Or.inl ⟨rfl, by omega, by rw [show μ36.1 81 67 = x35 from by rw [← hμ36]; first | rfl | exact if_pos ⟨rfl, rfl⟩]; omega, by rw [show μ36.1 124 = μ33.1 124 from by rw [← hμ36]; exact m_si_row (by decide), show μ33.1 124 = μ31.1 124 from by rw [← hμ33]; exact m_si_row (by decide), show μ31.1 124 = μ29.1 124 from by rw [← hμ31]; exact m_si_row (by decide), show μ29.1 124 = μ27.1 124 from by rw [← hμ29]; exact m_si_row (by decide), show μ27.1 124 = m_up (μ1.1 124) (t : Int32).toNatClampNeg k from by rw [← hμ27]; exact m_si_up, show μ1.1 124 = μ.1 124 from by rw [← hμ1]; exact m_si_row (by decide)], by rw [show μ36.1 125 = μ33.1 125 from by rw [← hμ36]; exact m_si_row (by decide), show μ33.1 125 = μ31.1 125 from by rw [← hμ33]; exact m_si_row (by decide), show μ31.1 125 = μ29.1 125 from by rw [← hμ31]; exact m_si_row (by decide), show μ29.1 125 = m_up (μ27.1 125) (t : Int32).toNatClampNeg u from by rw [← hμ29]; exact m_si_up, show μ27.1 125 = μ1.1 125 from by rw [← hμ27]; exact m_si_row (by decide), show μ1.1 125 = μ.1 125 from by rw [← hμ1]; exact m_si_row (by decide)], by rw [show μ36.1 127 = μ33.1 127 from by rw [← hμ36]; exact m_si_row (by decide), show μ33.1 127 = m_up (μ31.1 127) (t : Int32).toNatClampNeg w from by rw [← hμ33]; exact m_si_up, show μ31.1 127 = μ29.1 127 from by rw [← hμ31]; exact m_si_row (by decide), show μ29.1 127 = μ27.1 127 from by rw [← hμ29]; exact m_si_row (by decide), show μ27.1 127 = μ1.1 127 from by rw [← hμ27]; exact m_si_row (by decide), show μ1.1 127 = μ.1 127 from by rw [← hμ1]; exact m_si_row (by decide)], by rw [show μ36.1 126 = μ33.1 126 from by rw [← hμ36]; exact m_si_row (by decide), show μ33.1 126 = μ31.1 126 from by rw [← hμ33]; exact m_si_row (by decide), show μ31.1 126 = m_up (μ29.1 126) (t : Int32).toNatClampNeg v from by rw [← hμ31]; exact m_si_up, show μ29.1 126 = μ27.1 126 from by rw [← hμ29]; exact m_si_row (by decide), show μ27.1 126 = μ1.1 126 from by rw [← hμ27]; exact m_si_row (by decide), show μ1.1 126 = μ.1 126 from by rw [← hμ1]; exact m_si_row (by decide)]⟩⟩) dX12_test_125
          · have i25 := m_c5 (rfl : t.toInt = _) (by decide : (200 : Int32).toInt = 200) c25
            exfalso; omega
        · refine lv_if_eq (tgt := 71) hx hb dX12_test_58 (by decide) (fun _ => ?_) (fun c => False.elim (by revert c; decide))
          refine lv_iconst (v := 0) hx hb dX12_test_71 (by decide) ?_
          exact m_iret hx hb hr hlocks hW (by decide) (⟨hI, Or.inr ⟨rfl, by omega, by rw [show μ1.1 81 67 = t from by rw [← hμ1]; exact ht], by rw [show μ1.1 124 = μ.1 124 from by rw [← hμ1]; exact m_si_row (by decide)], by rw [show μ1.1 125 = μ.1 125 from by rw [← hμ1]; exact m_si_row (by decide)], by rw [show μ1.1 127 = μ.1 127 from by rw [← hμ1]; exact m_si_row (by decide)], by rw [show μ1.1 126 = μ.1 126 from by rw [← hμ1]; exact m_si_row (by decide)]⟩⟩) dX12_test_72
    · refine lv_if_eq (tgt := 71) hx hb dX12_test_24 (by decide) (fun _ => ?_) (fun c => False.elim (by revert c; decide))
      refine lv_iconst (v := 0) hx hb dX12_test_71 (by decide) ?_
      exact m_iret hx hb hr hlocks hW (by decide) (⟨hI, Or.inr ⟨rfl, by omega, by rw [show μ1.1 81 67 = t from by rw [← hμ1]; exact ht], by rw [show μ1.1 124 = μ.1 124 from by rw [← hμ1]; exact m_si_row (by decide)], by rw [show μ1.1 125 = μ.1 125 from by rw [← hμ1]; exact m_si_row (by decide)], by rw [show μ1.1 127 = μ.1 127 from by rw [← hμ1]; exact m_si_row (by decide)], by rw [show μ1.1 126 = μ.1 126 from by rw [← hμ1]; exact m_si_row (by decide)]⟩⟩) dX12_test_72
  · refine lv_if_eq (tgt := 71) hx hb dX12_test_12 (by decide) (fun _ => ?_) (fun c => False.elim (by revert c; decide))
    refine lv_iconst (v := 0) hx hb dX12_test_71 (by decide) ?_
    exact m_iret hx hb hr hlocks hW (by decide) (⟨hI, Or.inr ⟨rfl, by omega, by rw [show μ1.1 81 67 = t from by rw [← hμ1]; exact ht], by rw [show μ1.1 124 = μ.1 124 from by rw [← hμ1]; exact m_si_row (by decide)], by rw [show μ1.1 125 = μ.1 125 from by rw [← hμ1]; exact m_si_row (by decide)], by rw [show μ1.1 127 = μ.1 127 from by rw [← hμ1]; exact m_si_row (by decide)], by rw [show μ1.1 126 = μ.1 126 from by rw [← hμ1]; exact m_si_row (by decide)]⟩⟩) dX12_test_72
set_option maxHeartbeats 4000000 in
set_option maxRecDepth 100000 in
theorem L_X0_fillAll_f_10 {p : Program} {l : Launch} {e : Env} {s : State} {m : MethodId} {args : Array Value} {below : List Frame} {meth : Method} {c : Code} {D : va_G} {cy : Nat → ClassId} {b : Nat} (hx : p.tables.exec = Jvm.exec) (hb : c.code = cX0_fillAll) (hr : meth.sig.returnType = (none)) (hml : c.maxLocals = 3) (hown : s.vm.findClass RX0 = some m.cls) (hts : ∀ w ∈ TB, w.before args s = true) (hlocks : meth.locks = false) (S : Nat → Bool) (μ0 : mM) (hS9 : S 9 = true) (t : Int32) (h_t : 0 ≤ t.toInt ∧ t.toInt ≤ 6) (fk72 fk73 fk74 : Nat → Int32) (F2 : Nat) (O2 : ∀ (y1 : Int32) (hy : 1 ≤ y1.toInt ∧ y1.toInt ≤ 41) (hf : 41 - y1.toInt < (F2 : Int)) (μ : mM) (hI : IY S μ0 μ) (ht : μ.1 71 4 = t) (hk72 : μ.1 72 = fk72) (hk73 : μ.1 73 = fk73) (hk74 : μ.1 74 = fk74) (H : Heap) (locs : List Loc), m_WA (m_A b LAY) D cy s b LAY μ H locs → ∀ ls : Array Slot, lv_has ls 3 [(0, .ref (b + 71)), (1, .int y1)] → W p l e (m_R 2 0 0) s m args below meth c H locs 0 0 (MQ below (m_Qv D cy b LAY (fun ν => IY S μ0 ν ∧ (ν.1 71 4 = t ∧ ν.1 72 = fk72 ∧ ν.1 73 = fk73 ∧ ν.1 74 = fk74))) args s 0 0 (m_A b LAY)) (F0 m 2 ls [])) : ∀ (f : Nat), ∀ (y1 y2 : Int32) (hy : 41 - y1.toInt < (F2 : Int) + 1 ∧ 1 ≤ y1.toInt ∧ y1.toInt ≤ 40 ∧ 1 ≤ y2.toInt ∧ y2.toInt ≤ 41 ∧ 1 ≤ y1.toInt ∧ y1.toInt ≤ 41) (hf : 41 - y2.toInt < (f : Int)) (μ : mM) (hI : IY S μ0 μ) (ht : μ.1 71 4 = t) (hk72 : μ.1 72 = fk72) (hk73 : μ.1 73 = fk73) (hk74 : μ.1 74 = fk74) (H : Heap) (locs : List Loc), m_WA (m_A b LAY) D cy s b LAY μ H locs → ∀ ls : Array Slot, lv_has ls 3 [(0, .ref (b + 71)), (1, .int y1), (2, .int y2)] → W p l e (m_R 2 0 0) s m args below meth c H locs 0 0 (MQ below (m_Qv D cy b LAY (fun ν => IY S μ0 ν ∧ (ν.1 71 4 = t ∧ ν.1 72 = fk72 ∧ ν.1 73 = fk73 ∧ ν.1 74 = fk74))) args s 0 0 (m_A b LAY)) (F0 m 10 ls []) := by
  intro f
  induction f with
  | zero => intro y1 y2 hy hf; exfalso; omega
  | succ f ih =>
    intro y1 y2 hy hf μ hI ht hk72 hk73 hk74 H locs hW ls hl
    refine lv_iload_n hx hb dX0_fillAll_10 rfl (lv_at hl 2 rfl) ?_
    refine lv_bipush (v := 40) hx hb dX0_fillAll_11 (by decide) ?_
    refine lv_icmp_gt (tgt := 48) hx hb dX0_fillAll_13 (by decide) (fun c1 => ?_) (fun c1 => ?_)
    · have i1 := m_c1 (by decide : (40 : Int32).toInt = 40) (rfl : y2.toInt = _) c1
      obtain ⟨x2, ex2⟩ : ∃ z : Int32, z = y1 + 1 := ⟨_, rfl⟩
      refine lv_iinc (v := x2) (lv' := [(1, .int x2), (0, .ref (b + 71)), (2, .int y2)]) hx hb dX0_fillAll_48 hl (k := 1) rfl (by rw [ex2]; rfl) (by decide) rfl (fun ls hl => ?_)
      have tx2 : x2.toInt = y1.toInt + 1 := m_addI ex2 (rfl : y1.toInt = _) (by decide : (1 : Int32).toInt = 1) (by omega) (by omega)
      refine lv_goto (tgt := 2) hx hb dX0_fillAll_51 (by decide) ?_
      exact O2 x2 (by omega) (by omega) μ hI (by exact ht) (hk72) (hk73) (hk74) _ _ hW ls (lv_sub hl [1, 0] rfl)
    · have i1 := m_c2 (by decide : (40 : Int32).toInt = 40) (rfl : y2.toInt = _) c1
      refine lv_aload_n hx hb dX0_fillAll_16 rfl (lv_at hl 0 rfl) ?_
      refine m_getr hx hb hts hown hW (71) 3 (75) rfl rfl cw_0 rfl (by decide) k_X0_21 dX0_fillAll_17 ?_
      refine lv_iload_n hx hb dX0_fillAll_20 rfl (lv_at hl 1 rfl) ?_
      refine lv_bipush (v := 41) hx hb dX0_fillAll_21 (by decide) ?_
      refine lv_imul hx hb dX0_fillAll_23 ?_
      refine lv_topi (fun x3 ex3 => ?_)
      have tx3 : x3.toInt = y1.toInt * 41 := m_mulI ex3 (rfl : y1.toInt = _) (by decide : (41 : Int32).toInt = 41) (by omega) (by omega)
      refine lv_iload_n hx hb dX0_fillAll_24 rfl (lv_at hl 2 rfl) ?_
      refine lv_iadd hx hb dX0_fillAll_25 ?_
      refine lv_topi (fun x4 ex4 => ?_)
      have tx4 : x4.toInt = x3.toInt + y2.toInt := m_addI ex4 (rfl : x3.toInt = _) (rfl : y2.toInt = _) (by omega) (by omega)
      refine lv_aload_n hx hb dX0_fillAll_26 rfl (lv_at hl 0 rfl) ?_
      refine lv_iload_n hx hb dX0_fillAll_27 rfl (lv_at hl 1 rfl) ?_
      refine lv_iload_n hx hb dX0_fillAll_28 rfl (lv_at hl 2 rfl) ?_
      refine m_aI hW (m_runV (As := [.int y1, .int y2]) (rest := [.int x4, .ref (b + 75)]) hx hb hml hown hts hW (71) (g_X0_bestKind l D cy b y1 y2 μ hI.1) mi_X0_bestKind k_X0_35 rfl rfl rfl hl.1 rfl (Nat.le_of_ble_eq_true rfl) dX0_fillAll_29 ⟨Nat.le_of_ble_eq_true rfl, Nat.le_of_ble_eq_true rfl⟩ ⟨Nat.le_of_ble_eq_true rfl, Nat.le_of_ble_eq_true rfl⟩) (fun x5 μ5 H locs q5 hW => ?_)
      obtain ⟨q5_m, q5⟩ := q5
      subst q5_m
      refine lv_aload_n hx hb dX0_fillAll_32 rfl (lv_at hl 0 rfl) ?_
      refine lv_iload_n hx hb dX0_fillAll_33 rfl (lv_at hl 1 rfl) ?_
      refine lv_iload_n hx hb dX0_fillAll_34 rfl (lv_at hl 2 rfl) ?_
      refine m_aI hW (m_runV (As := [.int y1, .int y2]) (rest := [.int x5, .int x4, .ref (b + 75)]) hx hb hml hown hts hW (71) (g_X0_bestCut l D cy b y1 y2 (by omega) (by omega) μ hI.1) mi_X0_bestCut k_X0_39 rfl rfl rfl hl.1 rfl (Nat.le_of_ble_eq_true rfl) dX0_fillAll_35 ⟨Nat.le_of_ble_eq_true rfl, Nat.le_of_ble_eq_true rfl⟩ ⟨Nat.le_of_ble_eq_true rfl, Nat.le_of_ble_eq_true rfl⟩) (fun x6 μ6 H locs q6 hW => ?_)
      obtain ⟨q6_m, q6⟩ := q6
      subst q6_m
      refine va_mmax hx hb (hml.trans hl.1.symm) hown (hts _ k_X0_42) (hts _ kM_max_s) (hts _ kM_n) (hts _ kM_max_c) (Nat.le_of_ble_eq_true rfl) (Nat.le_of_ble_eq_true rfl) (Nat.le_of_ble_eq_true rfl) (Nat.le_of_ble_eq_true rfl) dX0_fillAll_38 ?_
      refine lv_topi (fun x7 ex7 => ?_)
      have tx7 : x7.toInt = max (x5.toInt) (x6.toInt) := m_max ex7 (rfl : x5.toInt = _) (rfl : x6.toInt = _)
      refine m_iast hx hb hW (75) rfl (m_ixI (rfl : x4.toInt = _) (by omega) (by omega)) dX0_fillAll_41 (fun H locs hW _ => ?_)
      generalize hμ8 : m_si μ (75) (x4 : Int32).toNatClampNeg x7 = μ8 at hW
      have hI := hI.si0 hμ8 rfl hS9
      obtain ⟨x9, ex9⟩ : ∃ z : Int32, z = y2 + 1 := ⟨_, rfl⟩
      refine lv_iinc (v := x9) (lv' := [(2, .int x9), (0, .ref (b + 71)), (1, .int y1)]) hx hb dX0_fillAll_42 hl (k := 2) rfl (by rw [ex9]; rfl) (by decide) rfl (fun ls hl => ?_)
      have tx9 : x9.toInt = y2.toInt + 1 := m_addI ex9 (rfl : y2.toInt = _) (by decide : (1 : Int32).toInt = 1) (by omega) (by omega)
      refine lv_goto (tgt := 10) hx hb dX0_fillAll_45 (by decide) ?_
      exact ih y1 x9 (by omega) (by omega) μ8 hI (by rw [← hμ8]; exact ht) (by rw [show μ8.1 72 = μ.1 72 from by rw [← hμ8]; exact m_si_row (by decide)]; exact hk72) (by rw [show μ8.1 73 = μ.1 73 from by rw [← hμ8]; exact m_si_row (by decide)]; exact hk73) (by rw [show μ8.1 74 = μ.1 74 from by rw [← hμ8]; exact m_si_row (by decide)]; exact hk74) _ _ hW ls (lv_sub hl [1, 2, 0] rfl)
set_option maxHeartbeats 4000000 in
set_option maxRecDepth 100000 in
theorem L_X0_fillAll_f_2 {p : Program} {l : Launch} {e : Env} {s : State} {m : MethodId} {args : Array Value} {below : List Frame} {meth : Method} {c : Code} {D : va_G} {cy : Nat → ClassId} {b : Nat} (hx : p.tables.exec = Jvm.exec) (hb : c.code = cX0_fillAll) (hr : meth.sig.returnType = (none)) (hml : c.maxLocals = 3) (hown : s.vm.findClass RX0 = some m.cls) (hts : ∀ w ∈ TB, w.before args s = true) (hlocks : meth.locks = false) (S : Nat → Bool) (μ0 : mM) (hS9 : S 9 = true) (t : Int32) (h_t : 0 ≤ t.toInt ∧ t.toInt ≤ 6) (fk72 fk73 fk74 : Nat → Int32) : ∀ (f : Nat), ∀ (y1 : Int32) (hy : 1 ≤ y1.toInt ∧ y1.toInt ≤ 41) (hf : 41 - y1.toInt < (f : Int)) (μ : mM) (hI : IY S μ0 μ) (ht : μ.1 71 4 = t) (hk72 : μ.1 72 = fk72) (hk73 : μ.1 73 = fk73) (hk74 : μ.1 74 = fk74) (H : Heap) (locs : List Loc), m_WA (m_A b LAY) D cy s b LAY μ H locs → ∀ ls : Array Slot, lv_has ls 3 [(0, .ref (b + 71)), (1, .int y1)] → W p l e (m_R 2 0 0) s m args below meth c H locs 0 0 (MQ below (m_Qv D cy b LAY (fun ν => IY S μ0 ν ∧ (ν.1 71 4 = t ∧ ν.1 72 = fk72 ∧ ν.1 73 = fk73 ∧ ν.1 74 = fk74))) args s 0 0 (m_A b LAY)) (F0 m 2 ls []) := by
  intro f
  induction f with
  | zero => intro y1 hy hf; exfalso; omega
  | succ f ih =>
    intro y1 hy hf μ hI ht hk72 hk73 hk74 H locs hW ls hl
    refine lv_iload_n hx hb dX0_fillAll_2 rfl (lv_at hl 1 rfl) ?_
    refine lv_bipush (v := 40) hx hb dX0_fillAll_3 (by decide) ?_
    refine lv_icmp_gt (tgt := 54) hx hb dX0_fillAll_5 (by decide) (fun c1 => ?_) (fun c1 => ?_)
    · have i1 := m_c1 (by decide : (40 : Int32).toInt = 40) (rfl : y1.toInt = _) c1
      exact m_vret hx hb hr hlocks hW (⟨hI, ⟨by rw [show μ.1 71 4 = t from by exact ht], hk72, hk73, hk74⟩⟩) dX0_fillAll_54
    · have i1 := m_c2 (by decide : (40 : Int32).toInt = 40) (rfl : y1.toInt = _) c1
      refine lv_iconst (v := 1) hx hb dX0_fillAll_8 (by decide) ?_
      refine lv_istore_n (lv' := [(2, .int 1), (0, .ref (b + 71)), (1, .int y1)]) hx hb dX0_fillAll_9 rfl hl (by decide) rfl (fun ls hl => ?_)
      have l_1 : (1 : Int32).toInt = 1 := by decide
      exact L_X0_fillAll_f_10 hx hb hr hml hown hts hlocks S μ0 hS9 t h_t fk72 fk73 fk74 f ih 42 y1 1 (by omega) (by omega) μ hI (by exact ht) (hk72) (hk73) (hk74) _ _ hW ls (lv_sub hl [1, 2, 0] rfl)
set_option maxHeartbeats 4000000 in
set_option maxRecDepth 100000 in
theorem g_X0_fillAll_f (l : Launch) (D : va_G) (cy : Nat → ClassId) (b : Nat) (S : Nat → Bool) (μ0 : mM) (hS9 : S 9 = true) (t : Int32) (h_t : 0 ≤ t.toInt ∧ t.toInt ≤ 6) (fk72 fk73 fk74 : Nat → Int32) (μ : mM) (hI : IY S μ0 μ) (ht : μ.1 71 4 = t) (hk72 : μ.1 72 = fk72) (hk73 : μ.1 73 = fk73) (hk74 : μ.1 74 = fk74) : m_Cv l yX0_fillAll cX0_fillAll 3 (none) 2 D cy b LAY μ [.ref (b + 71)] (fun ν => IY S μ0 ν ∧ (ν.1 71 4 = t ∧ ν.1 72 = fk72 ∧ ν.1 73 = fk73 ∧ ν.1 74 = fk74)) := by
  unfold m_Cv
  refine m_of (by decide) (Nat.le_of_ble_eq_true rfl) ?_
  intro p e s m below meth c hx hb hr hml hown hts hlocks _ hW ls hl
  have hown : s.vm.findClass RX0 = some m.cls := hown
  have hl : lv_has ls 3 [(0, .ref (b + 71))] := hl
  refine lv_iconst (v := 1) hx hb dX0_fillAll_0 (by decide) ?_
  refine lv_istore_n (lv' := [(1, .int 1), (0, .ref (b + 71))]) hx hb dX0_fillAll_1 rfl hl (by decide) rfl (fun ls hl => ?_)
  have l_1 : (1 : Int32).toInt = 1 := by decide
  exact L_X0_fillAll_f_2 hx hb hr hml hown hts hlocks S μ0 hS9 t h_t fk72 fk73 fk74  42 1 (by omega) (by omega) μ hI (by exact ht) (hk72) (hk73) (hk74) _ _ hW ls (lv_sub hl [1, 0] rfl)
set_option maxHeartbeats 4000000 in
set_option maxRecDepth 100000 in
theorem g_X0_addKind_f (l : Launch) (D : va_G) (cy : Nat → ClassId) (b : Nat) (S : Nat → Bool) (μ0 : mM) (hS9 : S 9 = true) (t : Int32) (h_t : 0 ≤ t.toInt ∧ t.toInt ≤ 6) (k u v : Int32) (μ : mM) (hI : IY S μ0 μ) (ht : μ.1 71 4 = t) : m_Ci l yX0_addKind cX0_addKind 4 ((some .int)) 3 D cy b LAY μ [.ref (b + 71), .int k, .int u, .int v] (fun r ν => IY S μ0 ν ∧ (((1 ≤ k.toInt ∧ k.toInt ≤ 40 ∧ 1 ≤ u.toInt ∧ u.toInt ≤ 40 ∧ 0 ≤ v.toInt ∧ v.toInt ≤ 999 ∧ t.toInt < 6) ∧ r = t ∧ (ν.1 71 4).toInt = t.toInt + 1 ∧ ν.1 72 = m_up (μ.1 72) t.toNatClampNeg k ∧ ν.1 73 = m_up (μ.1 73) t.toNatClampNeg u ∧ ν.1 74 = m_up (μ.1 74) t.toNatClampNeg v) ∨ (¬ (1 ≤ k.toInt ∧ k.toInt ≤ 40 ∧ 1 ≤ u.toInt ∧ u.toInt ≤ 40 ∧ 0 ≤ v.toInt ∧ v.toInt ≤ 999 ∧ t.toInt < 6) ∧ r = -1 ∧ ν.1 71 4 = t ∧ ν.1 72 = μ.1 72 ∧ ν.1 73 = μ.1 73 ∧ ν.1 74 = μ.1 74))) := by
  unfold m_Ci
  refine m_of (by decide) (Nat.le_of_ble_eq_true rfl) ?_
  intro p e s m below meth c hx hb hr hml hown hts hlocks _ hW ls hl
  have hown : s.vm.findClass RX0 = some m.cls := hown
  have hl : lv_has ls 4 [(0, .ref (b + 71)), (1, .int k), (2, .int u), (3, .int v)] := hl
  refine lv_iload_n hx hb dX0_addKind_0 rfl (lv_at hl 1 rfl) ?_
  refine lv_iconst (v := 1) hx hb dX0_addKind_1 (by decide) ?_
  refine lv_bipush (v := 40) hx hb dX0_addKind_2 (by decide) ?_
  have l_1 : (1 : Int32).toInt = 1 := by decide
  have l_40 : (40 : Int32).toInt = 40 := by decide
  refine m_aI hW (m_runSN (As := [.int k, .int 1, .int 40]) (rest := []) hx hb hml hown hts hW (g_X11_within l D cy b k 1 40 μ hI.1) ms_X11_within n_X0_28 rfl hl.1 rfl (Nat.le_of_ble_eq_true rfl) dX0_addKind_4 ⟨Nat.le_of_ble_eq_true rfl, Nat.le_of_ble_eq_true rfl⟩ ⟨Nat.le_of_ble_eq_true rfl, Nat.le_of_ble_eq_true rfl⟩) (fun x1 μ1 H locs q1 hW => ?_)
  obtain ⟨q1_m, q1⟩ := q1
  subst q1_m
  rcases q1 with ⟨rfl, q1⟩ | ⟨rfl, q1⟩
  · refine lv_if_eq (tgt := 40) hx hb dX0_addKind_7 (by decide) (fun c => False.elim (by revert c; decide)) (fun _ => ?_)
    refine lv_iload_n hx hb dX0_addKind_10 rfl (lv_at hl 2 rfl) ?_
    refine lv_iconst (v := 1) hx hb dX0_addKind_11 (by decide) ?_
    refine lv_bipush (v := 40) hx hb dX0_addKind_12 (by decide) ?_
    refine m_aI hW (m_runSN (As := [.int u, .int 1, .int 40]) (rest := []) hx hb hml hown hts hW (g_X11_within l D cy b u 1 40 μ hI.1) ms_X11_within n_X0_28 rfl hl.1 rfl (Nat.le_of_ble_eq_true rfl) dX0_addKind_14 ⟨Nat.le_of_ble_eq_true rfl, Nat.le_of_ble_eq_true rfl⟩ ⟨Nat.le_of_ble_eq_true rfl, Nat.le_of_ble_eq_true rfl⟩) (fun x2 μ2 H locs q2 hW => ?_)
    obtain ⟨q2_m, q2⟩ := q2
    subst q2_m
    rcases q2 with ⟨rfl, q2⟩ | ⟨rfl, q2⟩
    · refine lv_if_eq (tgt := 40) hx hb dX0_addKind_17 (by decide) (fun c => False.elim (by revert c; decide)) (fun _ => ?_)
      refine lv_iload_n hx hb dX0_addKind_20 rfl (lv_at hl 3 rfl) ?_
      refine lv_iconst (v := 0) hx hb dX0_addKind_21 (by decide) ?_
      refine lv_sipush (v := 999) hx hb dX0_addKind_22 (by decide) ?_
      have l_0 : (0 : Int32).toInt = 0 := by decide
      have l_999 : (999 : Int32).toInt = 999 := by decide
      refine m_aI hW (m_runSN (As := [.int v, .int 0, .int 999]) (rest := []) hx hb hml hown hts hW (g_X11_within l D cy b v 0 999 μ hI.1) ms_X11_within n_X0_28 rfl hl.1 rfl (Nat.le_of_ble_eq_true rfl) dX0_addKind_25 ⟨Nat.le_of_ble_eq_true rfl, Nat.le_of_ble_eq_true rfl⟩ ⟨Nat.le_of_ble_eq_true rfl, Nat.le_of_ble_eq_true rfl⟩) (fun x3 μ3 H locs q3 hW => ?_)
      obtain ⟨q3_m, q3⟩ := q3
      subst q3_m
      rcases q3 with ⟨rfl, q3⟩ | ⟨rfl, q3⟩
      · refine lv_if_eq (tgt := 40) hx hb dX0_addKind_28 (by decide) (fun c => False.elim (by revert c; decide)) (fun _ => ?_)
        refine lv_aload_n hx hb dX0_addKind_31 rfl (lv_at hl 0 rfl) ?_
        refine m_geti hx hb hts hown hW (71) 4 rfl rfl cw_0 rfl (by decide) k_X0_24 dX0_addKind_32 ?_
        refine lv_topi (fun x4 ex4 => ?_)
        have ex4 : x4 = t := by rw [ex4]; exact ht
        have ex4 := ex4.symm
        subst ex4
        refine lv_bipush (v := 6) hx hb dX0_addKind_35 (by decide) ?_
        refine lv_icmp_lt (tgt := 42) hx hb dX0_addKind_37 (by decide) (fun c5 => ?_) (fun c5 => ?_)
        · have i5 := m_c1 (rfl : t.toInt = _) (by decide : (6 : Int32).toInt = 6) c5
          refine lv_aload_n hx hb dX0_addKind_42 rfl (lv_at hl 0 rfl) ?_
          refine m_getr hx hb hts hown hW (71) 0 (72) rfl rfl cw_0 rfl (by decide) k_X0_11 dX0_addKind_43 ?_
          refine lv_aload_n hx hb dX0_addKind_46 rfl (lv_at hl 0 rfl) ?_
          refine m_geti hx hb hts hown hW (71) 4 rfl rfl cw_0 rfl (by decide) k_X0_24 dX0_addKind_47 ?_
          refine lv_topi (fun x6 ex6 => ?_)
          have ex6 : x6 = t := by rw [ex6]; exact ht
          have ex6 := ex6.symm
          subst ex6
          refine lv_iload_n hx hb dX0_addKind_50 rfl (lv_at hl 1 rfl) ?_
          refine m_iast hx hb hW (72) rfl (m_ixI (rfl : t.toInt = _) (by omega) (by omega)) dX0_addKind_51 (fun H locs hW _ => ?_)
          generalize hμ7 : m_si μ (72) (t : Int32).toNatClampNeg k = μ7 at hW
          have hI := hI.si0 hμ7 rfl hS9
          refine lv_aload_n hx hb dX0_addKind_52 rfl (lv_at hl 0 rfl) ?_
          refine m_getr hx hb hts hown hW (71) 1 (73) rfl rfl cw_0 rfl (by decide) k_X0_15 dX0_addKind_53 ?_
          refine lv_aload_n hx hb dX0_addKind_56 rfl (lv_at hl 0 rfl) ?_
          refine m_geti hx hb hts hown hW (71) 4 rfl rfl cw_0 rfl (by decide) k_X0_24 dX0_addKind_57 ?_
          refine lv_topi (fun x8 ex8 => ?_)
          have ex8 : x8 = t := by rw [ex8, ← hμ7]; exact ht
          have ex8 := ex8.symm
          subst ex8
          refine lv_iload_n hx hb dX0_addKind_60 rfl (lv_at hl 2 rfl) ?_
          refine m_iast hx hb hW (73) rfl (m_ixI (rfl : t.toInt = _) (by omega) (by omega)) dX0_addKind_61 (fun H locs hW _ => ?_)
          generalize hμ9 : m_si μ7 (73) (t : Int32).toNatClampNeg u = μ9 at hW
          have hI := hI.si0 hμ9 rfl hS9
          refine lv_aload_n hx hb dX0_addKind_62 rfl (lv_at hl 0 rfl) ?_
          refine m_getr hx hb hts hown hW (71) 2 (74) rfl rfl cw_0 rfl (by decide) k_X0_18 dX0_addKind_63 ?_
          refine lv_aload_n hx hb dX0_addKind_66 rfl (lv_at hl 0 rfl) ?_
          refine m_geti hx hb hts hown hW (71) 4 rfl rfl cw_0 rfl (by decide) k_X0_24 dX0_addKind_67 ?_
          refine lv_topi (fun x10 ex10 => ?_)
          have ex10 : x10 = t := by rw [ex10, ← hμ9, ← hμ7]; exact ht
          have ex10 := ex10.symm
          subst ex10
          refine lv_iload_n hx hb dX0_addKind_70 rfl (lv_at hl 3 rfl) ?_
          refine m_iast hx hb hW (74) rfl (m_ixI (rfl : t.toInt = _) (by omega) (by omega)) dX0_addKind_71 (fun H locs hW _ => ?_)
          generalize hμ11 : m_si μ9 (74) (t : Int32).toNatClampNeg v = μ11 at hW
          have hI := hI.si0 hμ11 rfl hS9
          refine lv_aload_n hx hb dX0_addKind_72 rfl (lv_at hl 0 rfl) ?_
          refine lv_dup hx hb dX0_addKind_73 rfl ?_
          refine m_geti hx hb hts hown hW (71) 4 rfl rfl cw_0 rfl (by decide) k_X0_24 dX0_addKind_74 ?_
          refine lv_topi (fun x12 ex12 => ?_)
          have ex12 : x12 = t := by rw [ex12, ← hμ11, ← hμ9, ← hμ7]; exact ht
          have ex12 := ex12.symm
          subst ex12
          refine lv_iconst (v := 1) hx hb dX0_addKind_77 (by decide) ?_
          refine lv_iadd hx hb dX0_addKind_78 ?_
          refine lv_topi (fun x13 ex13 => ?_)
          have tx13 : x13.toInt = t.toInt + 1 := m_addI ex13 (rfl : t.toInt = _) (by decide : (1 : Int32).toInt = 1) (by omega) (by omega)
          refine m_puti hx hb hts hown hW (71) 4 rfl rfl cw_0 tyX0_ok nmX0 rfl (by decide) k_X0_24 rfl rfl rfl dX0_addKind_79 (fun H locs hW _ => ?_)
          generalize hμ14 : m_si μ11 (71) 4 x13 = μ14 at hW
          have hI := hI.si1 hμ14 rfl (by omega) hS9
          refine lv_aload_n hx hb dX0_addKind_82 rfl (lv_at hl 0 rfl) ?_
          refine m_aV hW (m_runV (As := []) (rest := []) hx hb hml hown hts hW (71) (g_X0_fillAll_f l D cy b S μ0 hS9 x13 (by omega) (μ14.1 72) (μ14.1 73) (μ14.1 74) μ14 hI (by rw [← hμ14]; first | rfl | exact if_pos ⟨rfl, rfl⟩) rfl rfl rfl) mi_X0_fillAll k_X0_32 rfl rfl rfl hl.1 rfl (Nat.le_of_ble_eq_true rfl) dX0_addKind_83 ⟨Nat.le_of_ble_eq_true rfl, Nat.le_of_ble_eq_true rfl⟩ ⟨Nat.le_of_ble_eq_true rfl, Nat.le_of_ble_eq_true rfl⟩) (fun μ15 H locs q15 hW => ?_)
          obtain ⟨hI, q15⟩ := q15
          obtain ⟨q15, q1572, q1573, q1574⟩ := q15
          refine lv_aload_n hx hb dX0_addKind_86 rfl (lv_at hl 0 rfl) ?_
          refine m_geti hx hb hts hown hW (71) 4 rfl rfl cw_0 rfl (by decide) k_X0_24 dX0_addKind_87 ?_
          refine lv_topi (fun x16 ex16 => ?_)
          have ex16 : x16 = x13 := by rw [ex16]; exact q15
          have ex16 := ex16.symm
          subst ex16
          refine lv_iconst (v := 1) hx hb dX0_addKind_90 (by decide) ?_
          refine lv_isub hx hb dX0_addKind_91 ?_
          refine lv_topi (fun x17 ex17 => ?_)
          have tx17 : x17.toInt = x13.toInt - 1 := m_subI ex17 (rfl : x13.toInt = _) (by decide : (1 : Int32).toInt = 1) (by omega) (by omega)
          exact m_iret hx hb hr hlocks hW rfl (⟨hI, Or.inl ⟨by omega, m_eqI (by omega), by rw [show μ15.1 71 4 = x13 from by exact q15]; omega, by rw [show μ15.1 72 = μ14.1 72 from q1572, show μ14.1 72 = μ11.1 72 from by rw [← hμ14]; exact m_si_row (by decide), show μ11.1 72 = μ9.1 72 from by rw [← hμ11]; exact m_si_row (by decide), show μ9.1 72 = μ7.1 72 from by rw [← hμ9]; exact m_si_row (by decide), show μ7.1 72 = m_up (μ.1 72) (t : Int32).toNatClampNeg k from by rw [← hμ7]; exact m_si_up], by rw [show μ15.1 73 = μ14.1 73 from q1573, show μ14.1 73 = μ11.1 73 from by rw [← hμ14]; exact m_si_row (by decide), show μ11.1 73 = μ9.1 73 from by rw [← hμ11]; exact m_si_row (by decide), show μ9.1 73 = m_up (μ7.1 73) (t : Int32).toNatClampNeg u from by rw [← hμ9]; exact m_si_up, show μ7.1 73 = μ.1 73 from by rw [← hμ7]; exact m_si_row (by decide)], by rw [show μ15.1 74 = μ14.1 74 from q1574, show μ14.1 74 = μ11.1 74 from by rw [← hμ14]; exact m_si_row (by decide), show μ11.1 74 = m_up (μ9.1 74) (t : Int32).toNatClampNeg v from by rw [← hμ11]; exact m_si_up, show μ9.1 74 = μ7.1 74 from by rw [← hμ9]; exact m_si_row (by decide), show μ7.1 74 = μ.1 74 from by rw [← hμ7]; exact m_si_row (by decide)]⟩⟩) dX0_addKind_92
        · have i5 := m_c2 (rfl : t.toInt = _) (by decide : (6 : Int32).toInt = 6) c5
          refine lv_iconst (v := (-1)) hx hb dX0_addKind_40 (by decide) ?_
          exact m_iret hx hb hr hlocks hW rfl (⟨hI, Or.inr ⟨by omega, rfl, by rw [show μ.1 71 4 = t from by exact ht], rfl, rfl, rfl⟩⟩) dX0_addKind_41
      · refine lv_if_eq (tgt := 40) hx hb dX0_addKind_28 (by decide) (fun _ => ?_) (fun c => False.elim (by revert c; decide))
        refine lv_iconst (v := (-1)) hx hb dX0_addKind_40 (by decide) ?_
        exact m_iret hx hb hr hlocks hW rfl (⟨hI, Or.inr ⟨by omega, rfl, by rw [show μ.1 71 4 = t from by exact ht], rfl, rfl, rfl⟩⟩) dX0_addKind_41
    · refine lv_if_eq (tgt := 40) hx hb dX0_addKind_17 (by decide) (fun _ => ?_) (fun c => False.elim (by revert c; decide))
      refine lv_iconst (v := (-1)) hx hb dX0_addKind_40 (by decide) ?_
      exact m_iret hx hb hr hlocks hW rfl (⟨hI, Or.inr ⟨by omega, rfl, by rw [show μ.1 71 4 = t from by exact ht], rfl, rfl, rfl⟩⟩) dX0_addKind_41
  · refine lv_if_eq (tgt := 40) hx hb dX0_addKind_7 (by decide) (fun _ => ?_) (fun c => False.elim (by revert c; decide))
    refine lv_iconst (v := (-1)) hx hb dX0_addKind_40 (by decide) ?_
    exact m_iret hx hb hr hlocks hW rfl (⟨hI, Or.inr ⟨by omega, rfl, by rw [show μ.1 71 4 = t from by exact ht], rfl, rfl, rfl⟩⟩) dX0_addKind_41
set_option maxHeartbeats 4000000 in
set_option maxRecDepth 100000 in
theorem g_X11_kind_f (l : Launch) (D : va_G) (cy : Nat → ClassId) (b : Nat) (S : Nat → Bool) (μ0 : mM) (hS9 : S 9 = true) (t : Int32) (h_t : 0 ≤ t.toInt ∧ t.toInt ≤ 6) (k u v : Int32) (μ : mM) (hI : IY S μ0 μ) (ht : μ.1 71 4 = t) : m_Ci l yX11_kind cX11_kind 4 ((some .int)) 4 D cy b LAY μ [.ref (b + 0), .int k, .int u, .int v] (fun r ν => IY S μ0 ν ∧ (((1 ≤ k.toInt ∧ k.toInt ≤ 40 ∧ 1 ≤ u.toInt ∧ u.toInt ≤ 40 ∧ 0 ≤ v.toInt ∧ v.toInt ≤ 999 ∧ t.toInt < 6) ∧ r = t ∧ (ν.1 71 4).toInt = t.toInt + 1 ∧ ν.1 72 = m_up (μ.1 72) t.toNatClampNeg k ∧ ν.1 73 = m_up (μ.1 73) t.toNatClampNeg u ∧ ν.1 74 = m_up (μ.1 74) t.toNatClampNeg v) ∨ (¬ (1 ≤ k.toInt ∧ k.toInt ≤ 40 ∧ 1 ≤ u.toInt ∧ u.toInt ≤ 40 ∧ 0 ≤ v.toInt ∧ v.toInt ≤ 999 ∧ t.toInt < 6) ∧ r = -1 ∧ ν.1 71 4 = t ∧ ν.1 72 = μ.1 72 ∧ ν.1 73 = μ.1 73 ∧ ν.1 74 = μ.1 74))) := by
  unfold m_Ci
  refine m_of (by decide) (Nat.le_of_ble_eq_true rfl) ?_
  intro p e s m below meth c hx hb hr hml hown hts hlocks _ hW ls hl
  have hown : s.vm.findClass RX11 = some m.cls := hown
  have hl : lv_has ls 4 [(0, .ref (b + 0)), (1, .int k), (2, .int u), (3, .int v)] := hl
  refine lv_aload_n hx hb dX11_kind_0 rfl (lv_at hl 0 rfl) ?_
  refine m_getr hx hb hts hown hW (0) 7 (71) rfl rfl cw_11 rfl (by decide) k_X11_59 dX11_kind_1 ?_
  refine lv_iload_n hx hb dX11_kind_4 rfl (lv_at hl 1 rfl) ?_
  refine lv_iload_n hx hb dX11_kind_5 rfl (lv_at hl 2 rfl) ?_
  refine lv_iload_n hx hb dX11_kind_6 rfl (lv_at hl 3 rfl) ?_
  refine m_aI hW (m_runV (As := [.int k, .int u, .int v]) (rest := []) hx hb hml hown hts hW (71) (g_X0_addKind_f l D cy b S μ0 hS9 t (by omega) k u v μ hI (by exact ht)) mi_X0_addKind k_X11_247 rfl rfl rfl hl.1 rfl (Nat.le_of_ble_eq_true rfl) dX11_kind_7 ⟨Nat.le_of_ble_eq_true rfl, Nat.le_of_ble_eq_true rfl⟩ ⟨Nat.le_of_ble_eq_true rfl, Nat.le_of_ble_eq_true rfl⟩) (fun x1 μ1 H locs q1 hW => ?_)
  obtain ⟨hI, q1⟩ := q1
  exact m_iret hx hb hr hlocks hW rfl (⟨hI, q1⟩) dX11_kind_10
set_option maxHeartbeats 4000000 in
set_option maxRecDepth 100000 in
theorem g_X12_kind_f (l : Launch) (D : va_G) (cy : Nat → ClassId) (b : Nat) (S : Nat → Bool) (μ0 : mM) (hS20 : S 20 = true) (hS28 : S 28 = true) (t : Int32) (h_t : 0 ≤ t.toInt ∧ t.toInt ≤ 6) (k u v : Int32) (μ : mM) (hI : IY S μ0 μ) (ht : μ.1 81 62 = t) : m_Ci l yX12_kind cX12_kind 4 ((some .int)) 1 D cy b LAY μ [.ref (b + 81), .int k, .int u, .int v] (fun r ν => IY S μ0 ν ∧ (((1 ≤ k.toInt ∧ k.toInt ≤ 40 ∧ 1 ≤ u.toInt ∧ u.toInt ≤ 40 ∧ 0 ≤ v.toInt ∧ v.toInt ≤ 999 ∧ t.toInt < 6) ∧ r = t ∧ (ν.1 81 62).toInt = t.toInt + 1 ∧ ν.1 120 = m_up (μ.1 120) t.toNatClampNeg k ∧ ν.1 121 = m_up (μ.1 121) t.toNatClampNeg u ∧ ν.1 122 = m_up (μ.1 122) t.toNatClampNeg v) ∨ (¬ (1 ≤ k.toInt ∧ k.toInt ≤ 40 ∧ 1 ≤ u.toInt ∧ u.toInt ≤ 40 ∧ 0 ≤ v.toInt ∧ v.toInt ≤ 999 ∧ t.toInt < 6) ∧ r = -1 ∧ ν.1 81 62 = t ∧ ν.1 120 = μ.1 120 ∧ ν.1 121 = μ.1 121 ∧ ν.1 122 = μ.1 122))) := by
  unfold m_Ci
  refine m_of (by decide) (Nat.le_of_ble_eq_true rfl) ?_
  intro p e s m below meth c hx hb hr hml hown hts hlocks _ hW ls hl
  have hown : s.vm.findClass RX12 = some m.cls := hown
  have hl : lv_has ls 4 [(0, .ref (b + 81)), (1, .int k), (2, .int u), (3, .int v)] := hl
  refine lv_aload_n hx hb dX12_kind_0 rfl (lv_at hl 0 rfl) ?_
  refine lv_iconst (v := 0) hx hb dX12_kind_1 (by decide) ?_
  refine m_puti hx hb hts hown hW (81) 0 rfl rfl cw_12 tyX12_ok nmX12 rfl (by decide) k_X12_167 rfl rfl rfl dX12_kind_2 (fun H locs hW _ => ?_)
  generalize hμ1 : m_si μ (81) 0 0 = μ1 at hW
  have hI := hI.si0 hμ1 rfl hS20
  refine lv_aload_n hx hb dX12_kind_5 rfl (lv_at hl 0 rfl) ?_
  refine lv_iload_n hx hb dX12_kind_6 rfl (lv_at hl 1 rfl) ?_
  refine lv_iconst (v := 1) hx hb dX12_kind_7 (by decide) ?_
  refine lv_bipush (v := 40) hx hb dX12_kind_8 (by decide) ?_
  have l_1 : (1 : Int32).toInt = 1 := by decide
  have l_40 : (40 : Int32).toInt = 40 := by decide
  refine m_aI hW (m_runV (As := [.int k, .int 1, .int 40]) (rest := []) hx hb hml hown hts hW (81) (g_X12_isIn l D cy b k 1 40 μ1 hI.1) mi_X12_isIn k_X12_170 rfl rfl rfl hl.1 rfl (Nat.le_of_ble_eq_true rfl) dX12_kind_10 ⟨Nat.le_of_ble_eq_true rfl, Nat.le_of_ble_eq_true rfl⟩ ⟨Nat.le_of_ble_eq_true rfl, Nat.le_of_ble_eq_true rfl⟩) (fun x2 μ2 H locs q2 hW => ?_)
  obtain ⟨q2_m, q2⟩ := q2
  subst q2_m
  rcases q2 with ⟨rfl, q2⟩ | ⟨rfl, q2⟩
  · refine lv_if_eq (tgt := 48) hx hb dX12_kind_13 (by decide) (fun c => False.elim (by revert c; decide)) (fun _ => ?_)
    refine lv_aload_n hx hb dX12_kind_16 rfl (lv_at hl 0 rfl) ?_
    refine lv_iload_n hx hb dX12_kind_17 rfl (lv_at hl 2 rfl) ?_
    refine lv_iconst (v := 1) hx hb dX12_kind_18 (by decide) ?_
    refine lv_bipush (v := 40) hx hb dX12_kind_19 (by decide) ?_
    refine m_aI hW (m_runV (As := [.int u, .int 1, .int 40]) (rest := []) hx hb hml hown hts hW (81) (g_X12_isIn l D cy b u 1 40 μ1 hI.1) mi_X12_isIn k_X12_170 rfl rfl rfl hl.1 rfl (Nat.le_of_ble_eq_true rfl) dX12_kind_21 ⟨Nat.le_of_ble_eq_true rfl, Nat.le_of_ble_eq_true rfl⟩ ⟨Nat.le_of_ble_eq_true rfl, Nat.le_of_ble_eq_true rfl⟩) (fun x3 μ3 H locs q3 hW => ?_)
    obtain ⟨q3_m, q3⟩ := q3
    subst q3_m
    rcases q3 with ⟨rfl, q3⟩ | ⟨rfl, q3⟩
    · refine lv_if_eq (tgt := 48) hx hb dX12_kind_24 (by decide) (fun c => False.elim (by revert c; decide)) (fun _ => ?_)
      refine lv_aload_n hx hb dX12_kind_27 rfl (lv_at hl 0 rfl) ?_
      refine lv_iload_n hx hb dX12_kind_28 rfl (lv_at hl 3 rfl) ?_
      refine lv_iconst (v := 0) hx hb dX12_kind_29 (by decide) ?_
      refine lv_sipush (v := 999) hx hb dX12_kind_30 (by decide) ?_
      have l_0 : (0 : Int32).toInt = 0 := by decide
      have l_999 : (999 : Int32).toInt = 999 := by decide
      refine m_aI hW (m_runV (As := [.int v, .int 0, .int 999]) (rest := []) hx hb hml hown hts hW (81) (g_X12_isIn l D cy b v 0 999 μ1 hI.1) mi_X12_isIn k_X12_170 rfl rfl rfl hl.1 rfl (Nat.le_of_ble_eq_true rfl) dX12_kind_33 ⟨Nat.le_of_ble_eq_true rfl, Nat.le_of_ble_eq_true rfl⟩ ⟨Nat.le_of_ble_eq_true rfl, Nat.le_of_ble_eq_true rfl⟩) (fun x4 μ4 H locs q4 hW => ?_)
      obtain ⟨q4_m, q4⟩ := q4
      subst q4_m
      rcases q4 with ⟨rfl, q4⟩ | ⟨rfl, q4⟩
      · refine lv_if_eq (tgt := 48) hx hb dX12_kind_36 (by decide) (fun c => False.elim (by revert c; decide)) (fun _ => ?_)
        refine lv_aload_n hx hb dX12_kind_39 rfl (lv_at hl 0 rfl) ?_
        refine m_geti hx hb hts hown hW (81) 62 rfl rfl cw_12 rfl (by decide) k_X12_395 dX12_kind_40 ?_
        refine lv_topi (fun x5 ex5 => ?_)
        have ex5 : x5 = t := by rw [ex5, ← hμ1]; exact ht
        have ex5 := ex5.symm
        subst ex5
        refine lv_bipush (v := 6) hx hb dX12_kind_43 (by decide) ?_
        refine lv_icmp_ne (tgt := 50) hx hb dX12_kind_45 (by decide) (fun c6 => ?_) (fun c6 => ?_)
        · have i6 := m_c6 (rfl : t.toInt = _) (by decide : (6 : Int32).toInt = 6) c6
          refine lv_aload_n hx hb dX12_kind_50 rfl (lv_at hl 0 rfl) ?_
          refine m_getr hx hb hts hown hW (81) 63 (120) rfl rfl cw_12 rfl (by decide) k_X12_140 dX12_kind_51 ?_
          refine lv_aload_n hx hb dX12_kind_54 rfl (lv_at hl 0 rfl) ?_
          refine m_geti hx hb hts hown hW (81) 62 rfl rfl cw_12 rfl (by decide) k_X12_395 dX12_kind_55 ?_
          refine lv_topi (fun x7 ex7 => ?_)
          have ex7 : x7 = t := by rw [ex7, ← hμ1]; exact ht
          have ex7 := ex7.symm
          subst ex7
          refine lv_iload_n hx hb dX12_kind_58 rfl (lv_at hl 1 rfl) ?_
          refine m_iast hx hb hW (120) rfl (m_ixI (rfl : t.toInt = _) (by omega) (by omega)) dX12_kind_59 (fun H locs hW _ => ?_)
          generalize hμ8 : m_si μ1 (120) (t : Int32).toNatClampNeg k = μ8 at hW
          have hI := hI.si0 hμ8 rfl hS28
          refine lv_aload_n hx hb dX12_kind_60 rfl (lv_at hl 0 rfl) ?_
          refine m_getr hx hb hts hown hW (81) 64 (121) rfl rfl cw_12 rfl (by decide) k_X12_143 dX12_kind_61 ?_
          refine lv_aload_n hx hb dX12_kind_64 rfl (lv_at hl 0 rfl) ?_
          refine m_geti hx hb hts hown hW (81) 62 rfl rfl cw_12 rfl (by decide) k_X12_395 dX12_kind_65 ?_
          refine lv_topi (fun x9 ex9 => ?_)
          have ex9 : x9 = t := by rw [ex9, ← hμ8, ← hμ1]; exact ht
          have ex9 := ex9.symm
          subst ex9
          refine lv_iload_n hx hb dX12_kind_68 rfl (lv_at hl 2 rfl) ?_
          refine m_iast hx hb hW (121) rfl (m_ixI (rfl : t.toInt = _) (by omega) (by omega)) dX12_kind_69 (fun H locs hW _ => ?_)
          generalize hμ10 : m_si μ8 (121) (t : Int32).toNatClampNeg u = μ10 at hW
          have hI := hI.si0 hμ10 rfl hS28
          refine lv_aload_n hx hb dX12_kind_70 rfl (lv_at hl 0 rfl) ?_
          refine m_getr hx hb hts hown hW (81) 65 (122) rfl rfl cw_12 rfl (by decide) k_X12_146 dX12_kind_71 ?_
          refine lv_aload_n hx hb dX12_kind_74 rfl (lv_at hl 0 rfl) ?_
          refine m_geti hx hb hts hown hW (81) 62 rfl rfl cw_12 rfl (by decide) k_X12_395 dX12_kind_75 ?_
          refine lv_topi (fun x11 ex11 => ?_)
          have ex11 : x11 = t := by rw [ex11, ← hμ10, ← hμ8, ← hμ1]; exact ht
          have ex11 := ex11.symm
          subst ex11
          refine lv_iload_n hx hb dX12_kind_78 rfl (lv_at hl 3 rfl) ?_
          refine m_iast hx hb hW (122) rfl (m_ixI (rfl : t.toInt = _) (by omega) (by omega)) dX12_kind_79 (fun H locs hW _ => ?_)
          generalize hμ12 : m_si μ10 (122) (t : Int32).toNatClampNeg v = μ12 at hW
          have hI := hI.si0 hμ12 rfl hS28
          refine lv_aload_n hx hb dX12_kind_80 rfl (lv_at hl 0 rfl) ?_
          refine lv_aload_n hx hb dX12_kind_81 rfl (lv_at hl 0 rfl) ?_
          refine m_geti hx hb hts hown hW (81) 62 rfl rfl cw_12 rfl (by decide) k_X12_395 dX12_kind_82 ?_
          refine lv_topi (fun x13 ex13 => ?_)
          have ex13 : x13 = t := by rw [ex13, ← hμ12, ← hμ10, ← hμ8, ← hμ1]; exact ht
          have ex13 := ex13.symm
          subst ex13
          refine lv_iconst (v := 1) hx hb dX12_kind_85 (by decide) ?_
          refine lv_iadd hx hb dX12_kind_86 ?_
          refine lv_topi (fun x14 ex14 => ?_)
          have tx14 : x14.toInt = t.toInt + 1 := m_addI ex14 (rfl : t.toInt = _) (by decide : (1 : Int32).toInt = 1) (by omega) (by omega)
          refine m_puti hx hb hts hown hW (81) 62 rfl rfl cw_12 tyX12_ok nmX12 rfl (by decide) k_X12_395 rfl rfl rfl dX12_kind_87 (fun H locs hW _ => ?_)
          generalize hμ15 : m_si μ12 (81) 62 x14 = μ15 at hW
          have hI := hI.si1 hμ15 rfl (by omega) hS28
          refine lv_aload_n hx hb dX12_kind_90 rfl (lv_at hl 0 rfl) ?_
          refine m_geti hx hb hts hown hW (81) 62 rfl rfl cw_12 rfl (by decide) k_X12_395 dX12_kind_91 ?_
          refine lv_topi (fun x16 ex16 => ?_)
          have ex16 : x16 = x14 := by rw [ex16, ← hμ15]; first | rfl | exact if_pos ⟨rfl, rfl⟩
          have ex16 := ex16.symm
          subst ex16
          refine lv_iconst (v := 1) hx hb dX12_kind_94 (by decide) ?_
          refine lv_isub hx hb dX12_kind_95 ?_
          refine lv_topi (fun x17 ex17 => ?_)
          have tx17 : x17.toInt = x14.toInt - 1 := m_subI ex17 (rfl : x14.toInt = _) (by decide : (1 : Int32).toInt = 1) (by omega) (by omega)
          exact m_iret hx hb hr hlocks hW rfl (⟨hI, Or.inl ⟨by omega, m_eqI (by omega), by rw [show μ15.1 81 62 = x14 from by rw [← hμ15]; first | rfl | exact if_pos ⟨rfl, rfl⟩]; omega, by rw [show μ15.1 120 = μ12.1 120 from by rw [← hμ15]; exact m_si_row (by decide), show μ12.1 120 = μ10.1 120 from by rw [← hμ12]; exact m_si_row (by decide), show μ10.1 120 = μ8.1 120 from by rw [← hμ10]; exact m_si_row (by decide), show μ8.1 120 = m_up (μ1.1 120) (t : Int32).toNatClampNeg k from by rw [← hμ8]; exact m_si_up, show μ1.1 120 = μ.1 120 from by rw [← hμ1]; exact m_si_row (by decide)], by rw [show μ15.1 121 = μ12.1 121 from by rw [← hμ15]; exact m_si_row (by decide), show μ12.1 121 = μ10.1 121 from by rw [← hμ12]; exact m_si_row (by decide), show μ10.1 121 = m_up (μ8.1 121) (t : Int32).toNatClampNeg u from by rw [← hμ10]; exact m_si_up, show μ8.1 121 = μ1.1 121 from by rw [← hμ8]; exact m_si_row (by decide), show μ1.1 121 = μ.1 121 from by rw [← hμ1]; exact m_si_row (by decide)], by rw [show μ15.1 122 = μ12.1 122 from by rw [← hμ15]; exact m_si_row (by decide), show μ12.1 122 = m_up (μ10.1 122) (t : Int32).toNatClampNeg v from by rw [← hμ12]; exact m_si_up, show μ10.1 122 = μ8.1 122 from by rw [← hμ10]; exact m_si_row (by decide), show μ8.1 122 = μ1.1 122 from by rw [← hμ8]; exact m_si_row (by decide), show μ1.1 122 = μ.1 122 from by rw [← hμ1]; exact m_si_row (by decide)]⟩⟩) dX12_kind_96
        · have i6 := m_c5 (rfl : t.toInt = _) (by decide : (6 : Int32).toInt = 6) c6
          refine lv_iconst (v := (-1)) hx hb dX12_kind_48 (by decide) ?_
          exact m_iret hx hb hr hlocks hW rfl (⟨hI, Or.inr ⟨by omega, rfl, by rw [show μ1.1 81 62 = t from by rw [← hμ1]; exact ht], by rw [show μ1.1 120 = μ.1 120 from by rw [← hμ1]; exact m_si_row (by decide)], by rw [show μ1.1 121 = μ.1 121 from by rw [← hμ1]; exact m_si_row (by decide)], by rw [show μ1.1 122 = μ.1 122 from by rw [← hμ1]; exact m_si_row (by decide)]⟩⟩) dX12_kind_49
      · refine lv_if_eq (tgt := 48) hx hb dX12_kind_36 (by decide) (fun _ => ?_) (fun c => False.elim (by revert c; decide))
        refine lv_iconst (v := (-1)) hx hb dX12_kind_48 (by decide) ?_
        exact m_iret hx hb hr hlocks hW rfl (⟨hI, Or.inr ⟨by omega, rfl, by rw [show μ1.1 81 62 = t from by rw [← hμ1]; exact ht], by rw [show μ1.1 120 = μ.1 120 from by rw [← hμ1]; exact m_si_row (by decide)], by rw [show μ1.1 121 = μ.1 121 from by rw [← hμ1]; exact m_si_row (by decide)], by rw [show μ1.1 122 = μ.1 122 from by rw [← hμ1]; exact m_si_row (by decide)]⟩⟩) dX12_kind_49
    · refine lv_if_eq (tgt := 48) hx hb dX12_kind_24 (by decide) (fun _ => ?_) (fun c => False.elim (by revert c; decide))
      refine lv_iconst (v := (-1)) hx hb dX12_kind_48 (by decide) ?_
      exact m_iret hx hb hr hlocks hW rfl (⟨hI, Or.inr ⟨by omega, rfl, by rw [show μ1.1 81 62 = t from by rw [← hμ1]; exact ht], by rw [show μ1.1 120 = μ.1 120 from by rw [← hμ1]; exact m_si_row (by decide)], by rw [show μ1.1 121 = μ.1 121 from by rw [← hμ1]; exact m_si_row (by decide)], by rw [show μ1.1 122 = μ.1 122 from by rw [← hμ1]; exact m_si_row (by decide)]⟩⟩) dX12_kind_49
  · refine lv_if_eq (tgt := 48) hx hb dX12_kind_13 (by decide) (fun _ => ?_) (fun c => False.elim (by revert c; decide))
    refine lv_iconst (v := (-1)) hx hb dX12_kind_48 (by decide) ?_
    exact m_iret hx hb hr hlocks hW rfl (⟨hI, Or.inr ⟨by omega, rfl, by rw [show μ1.1 81 62 = t from by rw [← hμ1]; exact ht], by rw [show μ1.1 120 = μ.1 120 from by rw [← hμ1]; exact m_si_row (by decide)], by rw [show μ1.1 121 = μ.1 121 from by rw [← hμ1]; exact m_si_row (by decide)], by rw [show μ1.1 122 = μ.1 122 from by rw [← hμ1]; exact m_si_row (by decide)]⟩⟩) dX12_kind_49
