set_option maxHeartbeats 4000000 in
set_option maxRecDepth 100000 in
theorem g_X12_readIf (l : Launch) (D : va_G) (cy : Nat → ClassId) (b : Nat) (S : Nat → Bool) (μ0 : mM) (hS24 : S 24 = true) (hS25 : S 25 = true) (hS33 : S 33 = true) (hS34 : S 34 = true) (hS35 : S 35 = true) (hS36 : S 36 = true) (hS41 : S 41 = true) (av fv tk uv ov : Int32) (h_g : 0 ≤ av.toInt ∧ av.toInt ≤ 400 ∧ 0 ≤ fv.toInt ∧ fv.toInt ≤ 400 ∧ 0 ≤ tk.toInt ∧ tk.toInt ≤ 4 ∧ 0 ≤ uv.toInt ∧ uv.toInt ≤ 400 ∧ 0 ≤ ov.toInt ∧ ov.toInt ≤ 400 ∧ uv.toInt ≤ fv.toInt ∧ fv.toInt ≤ av.toInt ∧ (tk.toInt = 0 ∨ fv.toInt + 1 ≤ av.toInt) ∧ ov.toInt ≤ fv.toInt ∧ tk.toInt = 2) (μ : mM) (hI : IY S μ0 μ) (h_av : μ.1 81 36 = av) (h_fv : μ.1 81 37 = fv) (h_tk : μ.1 81 38 = tk) (h_uv : μ.1 81 51 = uv) (h_ov : μ.1 111 8 = ov) (hps : m_PS μ) (hgp : m_GP μ) : m_Ci l yX12_readIf cX12_readIf 3 ((some .int)) 5 D cy b LAY μ [.ref (b + 81)] (fun r ν => IY S μ0 ν ∧ (m_GP ν ∧ (r = -1 ∨ (r = 0 ∧ ((ν.1 81 51).toInt ≤ (ν.1 81 37).toInt ∧ fv.toInt + 1 ≤ (ν.1 81 37).toInt ∧ (ν.1 81 37).toInt ≤ (ν.1 81 36).toInt ∧ ((ν.1 81 38).toInt = 0 ∨ (ν.1 81 37).toInt + 1 ≤ (ν.1 81 36).toInt) ∧ (ν.1 111 8).toInt ≤ (ν.1 81 37).toInt) ∧ m_PS ν)))) := by
  unfold m_Ci
  refine m_of (by decide) (Nat.le_of_ble_eq_true rfl) ?_
  intro p e s m below meth c hx hb hr hml hown hts hlocks _ hW ls hl
  have hown : s.vm.findClass RX12 = some m.cls := hown
  have hl : lv_has ls 3 [(0, .ref (b + 81))] := hl
  refine lv_aload_n hx hb dX12_readIf_0 rfl (lv_at hl 0 rfl) ?_
  refine m_geti hx hb hts hown hW (81) 53 rfl rfl cw_12 rfl (by decide) k_X12_294 dX12_readIf_1 ?_
  refine lv_topi (fun x1 ex1 => ?_)
  have bx1 : 0 ≤ x1.toInt ∧ x1.toInt ≤ 4 := by rw [ex1]; exact hI.1 _ _ _ _ rfl
  refine lv_iconst (v := 4) hx hb dX12_readIf_4 (by decide) ?_
  refine lv_icmp_ne (tgt := 14) hx hb dX12_readIf_5 (by decide) (fun c2 => ?_) (fun c2 => ?_)
  · have i2 := m_c6 (rfl : x1.toInt = _) (by decide : (4 : Int32).toInt = 4) c2
    refine lv_aload_n hx hb dX12_readIf_14 rfl (lv_at hl 0 rfl) ?_
    refine m_aV hW (m_runV (As := []) (rest := []) hx hb hml hown hts hW (81) (g_X12_reads l D cy b (fun g => [24].contains g) μ rfl av (by omega) μ (IY.rf hI.1) (by exact h_av)) mi_X12_reads k_X12_279 rfl rfl rfl hl.1 rfl (Nat.le_of_ble_eq_true rfl) dX12_readIf_15 ⟨Nat.le_of_ble_eq_true rfl, Nat.le_of_ble_eq_true rfl⟩ ⟨Nat.le_of_ble_eq_true rfl, Nat.le_of_ble_eq_true rfl⟩) (fun μ3 H locs q3 hW => ?_)
    obtain ⟨hJ3, q3⟩ := q3
    have hI := hI.tr hJ3 (m_subL (by simp [hS24]))
    have hps : m_PS μ3 := hps.fr hJ3 rfl rfl rfl
    have hgp : m_GP μ3 := hgp.fr hJ3 rfl rfl
    obtain ⟨x4, hx4⟩ : ∃ z, μ3.1 81 36 = z := ⟨_, rfl⟩
    have bx4 : 0 ≤ x4.toInt ∧ x4.toInt ≤ 400 := by rw [← hx4]; exact hI.1 _ _ _ _ rfl
    rw [show μ3.1 81 36 = x4 from by exact hx4] at q3
    obtain ⟨x5, hx5⟩ : ∃ z, μ3.1 81 37 = z := ⟨_, rfl⟩
    have bx5 : 0 ≤ x5.toInt ∧ x5.toInt ≤ 400 := by rw [← hx5]; exact hI.1 _ _ _ _ rfl
    rw [show μ3.1 81 37 = x5 from by exact hx5] at q3
    obtain ⟨x6, hx6⟩ : ∃ z, μ3.1 81 38 = z := ⟨_, rfl⟩
    have bx6 : 0 ≤ x6.toInt ∧ x6.toInt ≤ 4 := by rw [← hx6]; exact hI.1 _ _ _ _ rfl
    rw [show μ3.1 81 38 = x6 from by exact hx6] at q3
    obtain ⟨x7, hx7⟩ : ∃ z, μ3.1 81 39 = z := ⟨_, rfl⟩
    have bx7 : -1 ≤ x7.toInt ∧ x7.toInt ≤ 99999 := by rw [← hx7]; exact hI.1 _ _ _ _ rfl
    rw [show μ3.1 81 39 = x7 from by exact hx7] at q3
    refine lv_sipush (v := 3200) hx hb dX12_readIf_18 (by decide) ?_
    refine lv_aload_n hx hb dX12_readIf_21 rfl (lv_at hl 0 rfl) ?_
    refine m_getr hx hb hts hown hW (81) 44 (111) rfl rfl cw_12 rfl (by decide) k_X12_110 dX12_readIf_22 ?_
    refine lv_bipush (v := 8) hx hb dX12_readIf_25 (by decide) ?_
    refine m_iald hx hb hW (111) rfl (vp_in_iff.mpr ⟨by decide, by decide⟩) dX12_readIf_27 ?_
    refine lv_topi (fun x8 ex8 => ?_)
    have ex8 : x8 = ov := by rw [ex8]; exact ((hJ3.2.1 111 8 rfl).trans (by exact h_ov))
    have ex8 := ex8.symm
    subst ex8
    refine lv_iadd hx hb dX12_readIf_28 ?_
    refine lv_topi (fun x9 ex9 => ?_)
    have tx9 : x9.toInt = 3200 + ov.toInt := m_addI ex9 (by decide : (3200 : Int32).toInt = 3200) (rfl : ov.toInt = _) (by omega) (by omega)
    refine lv_istore_n (lv' := [(1, .int x9), (0, .ref (b + 81))]) hx hb dX12_readIf_29 rfl hl (by decide) rfl (fun ls hl => ?_)
    refine lv_aload_n hx hb dX12_readIf_30 rfl (lv_at hl 1 rfl) ?_
    refine m_getr hx hb hts hown hW (81) 45 (112) rfl rfl cw_12 rfl (by decide) k_X12_113 dX12_readIf_31 ?_
    refine lv_iload_n hx hb dX12_readIf_34 rfl (lv_at hl 0 rfl) ?_
    refine lv_aload_n hx hb dX12_readIf_35 rfl (lv_at hl 1 rfl) ?_
    refine m_geti hx hb hts hown hW (81) 51 rfl rfl cw_12 rfl (by decide) k_X12_285 dX12_readIf_36 ?_
    refine lv_topi (fun x10 ex10 => ?_)
    have ex10 : x10 = uv := by rw [ex10]; exact ((hJ3.2.1 81 51 rfl).trans (by exact h_uv))
    have ex10 := ex10.symm
    subst ex10
    refine m_iast hx hb hW (112) rfl (m_ixI (rfl : x9.toInt = _) (by omega) (by omega)) dX12_readIf_39 (fun H locs hW _ => ?_)
    generalize hμ11 : m_si μ3 (112) (x9 : Int32).toNatClampNeg uv = μ11 at hW
    have hps : m_PS μ11 := hps.si hμ11 (by decide) (by decide) (by decide) (by decide) (fun q => absurd q (by decide))
    have hgp : m_GP μ11 := hgp.si hμ11 (by decide) (by decide) (by decide)
    have hI := hI.si1 hμ11 rfl (by omega) hS25
    refine lv_aload_n hx hb dX12_readIf_40 rfl (lv_at hl 1 rfl) ?_
    refine m_aI hW (m_runV (As := []) (rest := []) hx hb hml hown hts hW (81) (g_X12_readSum l D cy b (fun g => [24, 25, 34, 36].contains g) μ11 rfl rfl rfl rfl x4 x5 x6 uv (by omega) μ11 (IY.rf hI.1) (by rw [← hμ11]; exact hx4) (by rw [← hμ11]; exact hx5) (by rw [← hμ11]; exact hx6) (by rw [← hμ11]; exact ((hJ3.2.1 81 51 rfl).trans (by exact h_uv)))) mi_X12_readSum k_X12_297 rfl rfl rfl hl.1 rfl (Nat.le_of_ble_eq_true rfl) dX12_readIf_41 ⟨Nat.le_of_ble_eq_true rfl, Nat.le_of_ble_eq_true rfl⟩ ⟨Nat.le_of_ble_eq_true rfl, Nat.le_of_ble_eq_true rfl⟩) (fun x12 μ12 H locs q12 hW => ?_)
    obtain ⟨hJ12, q12⟩ := q12
    have hI := hI.tr hJ12 (m_subL (by simp [hS24, hS25, hS34, hS36]))
    have hps : m_PS μ12 := hps.fr hJ12 rfl rfl rfl
    have hgp : m_GP μ12 := hgp.fr hJ12 rfl rfl
    rcases q12 with rfl | ⟨rfl, q12⟩
    · refine lv_iconst (v := (-1)) hx hb dX12_readIf_44 (by decide) ?_
      refine lv_icmp_ne (tgt := 50) hx hb dX12_readIf_45 (by decide) (fun c => False.elim (by revert c; decide)) (fun _ => ?_)
      refine lv_iconst (v := (-1)) hx hb dX12_readIf_48 (by decide) ?_
      exact m_iret hx hb hr hlocks hW rfl (⟨hI, ⟨hgp, Or.inl rfl⟩⟩) dX12_readIf_49
    · obtain ⟨x13, hx13⟩ : ∃ z, μ12.1 81 51 = z := ⟨_, rfl⟩
      have bx13 : 0 ≤ x13.toInt ∧ x13.toInt ≤ 400 := by rw [← hx13]; exact hI.1 _ _ _ _ rfl
      rw [show μ12.1 81 51 = x13 from by exact hx13] at q12
      obtain ⟨x14, hx14⟩ : ∃ z, μ12.1 81 37 = z := ⟨_, rfl⟩
      have bx14 : 0 ≤ x14.toInt ∧ x14.toInt ≤ 400 := by rw [← hx14]; exact hI.1 _ _ _ _ rfl
      rw [show μ12.1 81 37 = x14 from by exact hx14] at q12
      obtain ⟨x15, hx15⟩ : ∃ z, μ12.1 81 36 = z := ⟨_, rfl⟩
      have bx15 : 0 ≤ x15.toInt ∧ x15.toInt ≤ 400 := by rw [← hx15]; exact hI.1 _ _ _ _ rfl
      rw [show μ12.1 81 36 = x15 from by exact hx15] at q12
      obtain ⟨x16, hx16⟩ : ∃ z, μ12.1 81 38 = z := ⟨_, rfl⟩
      have bx16 : 0 ≤ x16.toInt ∧ x16.toInt ≤ 4 := by rw [← hx16]; exact hI.1 _ _ _ _ rfl
      rw [show μ12.1 81 38 = x16 from by exact hx16] at q12
      refine lv_iconst (v := (-1)) hx hb dX12_readIf_44 (by decide) ?_
      refine lv_icmp_ne (tgt := 50) hx hb dX12_readIf_45 (by decide) (fun _ => ?_) (fun c => False.elim (by revert c; decide))
      refine lv_aload_n hx hb dX12_readIf_50 rfl (lv_at hl 1 rfl) ?_
      refine m_getr hx hb hts hown hW (81) 46 (113) rfl rfl cw_12 rfl (by decide) k_X12_116 dX12_readIf_51 ?_
      refine lv_iload_n hx hb dX12_readIf_54 rfl (lv_at hl 0 rfl) ?_
      refine lv_aload_n hx hb dX12_readIf_55 rfl (lv_at hl 1 rfl) ?_
      refine m_geti hx hb hts hown hW (81) 51 rfl rfl cw_12 rfl (by decide) k_X12_285 dX12_readIf_56 ?_
      refine lv_topi (fun x17 ex17 => ?_)
      have ex17 : x17 = x13 := by rw [ex17]; exact hx13
      have ex17 := ex17.symm
      subst ex17
      refine m_iast hx hb hW (113) rfl (m_ixI (rfl : x9.toInt = _) (by omega) (by omega)) dX12_readIf_59 (fun H locs hW _ => ?_)
      generalize hμ18 : m_si μ12 (113) (x9 : Int32).toNatClampNeg x13 = μ18 at hW
      have hps : m_PS μ18 := hps.si hμ18 (by decide) (by decide) (by decide) (by decide) (fun q => absurd q (by decide))
      have hgp : m_GP μ18 := hgp.si hμ18 (by decide) (by decide) (by decide)
      have hI := hI.si1 hμ18 rfl (by omega) hS25
      refine lv_aload_n hx hb dX12_readIf_60 rfl (lv_at hl 1 rfl) ?_
      refine lv_bipush (v := 60) hx hb dX12_readIf_61 (by decide) ?_
      have l_60 : (60 : Int32).toInt = 60 := by decide
      refine m_aI hW (m_runV (As := [.int 60]) (rest := []) hx hb hml hown hts hW (81) (g_X12_isSign l D cy b 60 μ18 hI.1) mi_X12_isSign k_X12_291 rfl rfl rfl hl.1 rfl (Nat.le_of_ble_eq_true rfl) dX12_readIf_63 ⟨Nat.le_of_ble_eq_true rfl, Nat.le_of_ble_eq_true rfl⟩ ⟨Nat.le_of_ble_eq_true rfl, Nat.le_of_ble_eq_true rfl⟩) (fun x19 μ19 H locs q19 hW => ?_)
      obtain ⟨q19_m, q19⟩ := q19
      subst q19_m
      rcases q19 with ⟨rfl, q19⟩ | rfl
      · rw [show μ18.1 81 38 = x16 from by rw [← hμ18]; exact hx16] at q19
        refine lv_if_ne (tgt := 93) hx hb dX12_readIf_66 (by decide) (fun _ => ?_) (fun c => False.elim (by revert c; decide))
        refine lv_aload_n hx hb dX12_readIf_93 rfl (lv_at hl 1 rfl) ?_
        refine m_geti hx hb hts hown hW (81) 39 rfl rfl cw_12 rfl (by decide) k_X12_257 dX12_readIf_94 ?_
        refine lv_topi (fun x20 ex20 => ?_)
        have bx20 : -1 ≤ x20.toInt ∧ x20.toInt ≤ 99999 := by rw [ex20]; exact hI.1 _ _ _ _ rfl
        refine lv_istore_n (lv' := [(2, .int x20), (1, .int x9), (0, .ref (b + 81))]) hx hb dX12_readIf_97 rfl hl (by decide) rfl (fun ls hl => ?_)
        refine lv_aload_n hx hb dX12_readIf_98 rfl (lv_at hl 2 rfl) ?_
        refine m_aV hW (m_runV (As := []) (rest := []) hx hb hml hown hts hW (81) (g_X12_reads l D cy b (fun g => [24].contains g) μ18 rfl x15 (by omega) μ18 (IY.rf hI.1) (by rw [← hμ18]; exact hx15)) mi_X12_reads k_X12_279 rfl rfl rfl hl.1 rfl (Nat.le_of_ble_eq_true rfl) dX12_readIf_99 ⟨Nat.le_of_ble_eq_true rfl, Nat.le_of_ble_eq_true rfl⟩ ⟨Nat.le_of_ble_eq_true rfl, Nat.le_of_ble_eq_true rfl⟩) (fun μ21 H locs q21 hW => ?_)
        obtain ⟨hJ21, q21⟩ := q21
        have hI := hI.tr hJ21 (m_subL (by simp [hS24]))
        have hps : m_PS μ21 := hps.fr hJ21 rfl rfl rfl
        have hgp : m_GP μ21 := hgp.fr hJ21 rfl rfl
        obtain ⟨x22, hx22⟩ : ∃ z, μ21.1 81 36 = z := ⟨_, rfl⟩
        have bx22 : 0 ≤ x22.toInt ∧ x22.toInt ≤ 400 := by rw [← hx22]; exact hI.1 _ _ _ _ rfl
        rw [show μ21.1 81 36 = x22 from by exact hx22] at q21
        obtain ⟨x23, hx23⟩ : ∃ z, μ21.1 81 37 = z := ⟨_, rfl⟩
        have bx23 : 0 ≤ x23.toInt ∧ x23.toInt ≤ 400 := by rw [← hx23]; exact hI.1 _ _ _ _ rfl
        rw [show μ21.1 81 37 = x23 from by exact hx23] at q21
        obtain ⟨x24, hx24⟩ : ∃ z, μ21.1 81 38 = z := ⟨_, rfl⟩
        have bx24 : 0 ≤ x24.toInt ∧ x24.toInt ≤ 4 := by rw [← hx24]; exact hI.1 _ _ _ _ rfl
        rw [show μ21.1 81 38 = x24 from by exact hx24] at q21
        obtain ⟨x25, hx25⟩ : ∃ z, μ21.1 81 39 = z := ⟨_, rfl⟩
        have bx25 : -1 ≤ x25.toInt ∧ x25.toInt ≤ 99999 := by rw [← hx25]; exact hI.1 _ _ _ _ rfl
        rw [show μ21.1 81 39 = x25 from by exact hx25] at q21
        refine lv_aload_n hx hb dX12_readIf_102 rfl (lv_at hl 2 rfl) ?_
        refine m_aI hW (m_runV (As := []) (rest := []) hx hb hml hown hts hW (81) (g_X12_readSum l D cy b (fun g => [24, 25, 34, 36].contains g) μ21 rfl rfl rfl rfl x22 x23 x24 x13 (by omega) μ21 (IY.rf hI.1) (by exact hx22) (by exact hx23) (by exact hx24) (by exact ((hJ21.2.1 81 51 rfl).trans (by rw [← hμ18]; exact hx13)))) mi_X12_readSum k_X12_297 rfl rfl rfl hl.1 rfl (Nat.le_of_ble_eq_true rfl) dX12_readIf_103 ⟨Nat.le_of_ble_eq_true rfl, Nat.le_of_ble_eq_true rfl⟩ ⟨Nat.le_of_ble_eq_true rfl, Nat.le_of_ble_eq_true rfl⟩) (fun x26 μ26 H locs q26 hW => ?_)
        obtain ⟨hJ26, q26⟩ := q26
        have hI := hI.tr hJ26 (m_subL (by simp [hS24, hS25, hS34, hS36]))
        have hps : m_PS μ26 := hps.fr hJ26 rfl rfl rfl
        have hgp : m_GP μ26 := hgp.fr hJ26 rfl rfl
        rcases q26 with rfl | ⟨rfl, q26⟩
        · refine lv_iconst (v := (-1)) hx hb dX12_readIf_106 (by decide) ?_
          refine lv_icmp_ne (tgt := 112) hx hb dX12_readIf_107 (by decide) (fun c => False.elim (by revert c; decide)) (fun _ => ?_)
          refine lv_iconst (v := (-1)) hx hb dX12_readIf_110 (by decide) ?_
          exact m_iret hx hb hr hlocks hW rfl (⟨hI, ⟨hgp, Or.inl rfl⟩⟩) dX12_readIf_111
        · obtain ⟨x27, hx27⟩ : ∃ z, μ26.1 81 51 = z := ⟨_, rfl⟩
          have bx27 : 0 ≤ x27.toInt ∧ x27.toInt ≤ 400 := by rw [← hx27]; exact hI.1 _ _ _ _ rfl
          rw [show μ26.1 81 51 = x27 from by exact hx27] at q26
          obtain ⟨x28, hx28⟩ : ∃ z, μ26.1 81 37 = z := ⟨_, rfl⟩
          have bx28 : 0 ≤ x28.toInt ∧ x28.toInt ≤ 400 := by rw [← hx28]; exact hI.1 _ _ _ _ rfl
          rw [show μ26.1 81 37 = x28 from by exact hx28] at q26
          obtain ⟨x29, hx29⟩ : ∃ z, μ26.1 81 36 = z := ⟨_, rfl⟩
          have bx29 : 0 ≤ x29.toInt ∧ x29.toInt ≤ 400 := by rw [← hx29]; exact hI.1 _ _ _ _ rfl
          rw [show μ26.1 81 36 = x29 from by exact hx29] at q26
          obtain ⟨x30, hx30⟩ : ∃ z, μ26.1 81 38 = z := ⟨_, rfl⟩
          have bx30 : 0 ≤ x30.toInt ∧ x30.toInt ≤ 4 := by rw [← hx30]; exact hI.1 _ _ _ _ rfl
          rw [show μ26.1 81 38 = x30 from by exact hx30] at q26
          refine lv_iconst (v := (-1)) hx hb dX12_readIf_106 (by decide) ?_
          refine lv_icmp_ne (tgt := 112) hx hb dX12_readIf_107 (by decide) (fun _ => ?_) (fun c => False.elim (by revert c; decide))
          refine lv_aload_n hx hb dX12_readIf_112 rfl (lv_at hl 2 rfl) ?_
          refine m_getr hx hb hts hown hW (81) 47 (114) rfl rfl cw_12 rfl (by decide) k_X12_119 dX12_readIf_113 ?_
          refine lv_iload_n hx hb dX12_readIf_116 rfl (lv_at hl 1 rfl) ?_
          refine lv_aload_n hx hb dX12_readIf_117 rfl (lv_at hl 2 rfl) ?_
          refine m_geti hx hb hts hown hW (81) 51 rfl rfl cw_12 rfl (by decide) k_X12_285 dX12_readIf_118 ?_
          refine lv_topi (fun x31 ex31 => ?_)
          have ex31 : x31 = x27 := by rw [ex31]; exact hx27
          have ex31 := ex31.symm
          subst ex31
          refine m_iast hx hb hW (114) rfl (m_ixI (rfl : x9.toInt = _) (by omega) (by omega)) dX12_readIf_121 (fun H locs hW _ => ?_)
          generalize hμ32 : m_si μ26 (114) (x9 : Int32).toNatClampNeg x27 = μ32 at hW
          have hps : m_PS μ32 := hps.si hμ32 (by decide) (by decide) (by decide) (by decide) (fun q => absurd q (by decide))
          have hgp : m_GP μ32 := hgp.si hμ32 (by decide) (by decide) (by decide)
          have hI := hI.si1 hμ32 rfl (by omega) hS25
          refine lv_aload_n hx hb dX12_readIf_122 rfl (lv_at hl 2 rfl) ?_
          refine m_getr hx hb hts hown hW (81) 52 (118) rfl rfl cw_12 rfl (by decide) k_X12_131 dX12_readIf_123 ?_
          refine lv_aload_n hx hb dX12_readIf_126 rfl (lv_at hl 2 rfl) ?_
          refine m_geti hx hb hts hown hW (81) 53 rfl rfl cw_12 rfl (by decide) k_X12_294 dX12_readIf_127 ?_
          refine lv_topi (fun x33 ex33 => ?_)
          have ex33 : x33 = x1 := by rw [ex33, ← hμ32]; exact ((hJ26.2.1 81 53 rfl).trans (by exact ((hJ21.2.1 81 53 rfl).trans (by rw [← hμ18]; exact ((hJ12.2.1 81 53 rfl).trans (by rw [← hμ11]; exact ((hJ3.2.1 81 53 rfl).trans (by exact ex1.symm))))))))
          have ex33 := ex33.symm
          subst ex33
          refine lv_aload_n hx hb dX12_readIf_130 rfl (lv_at hl 2 rfl) ?_
          refine m_getr hx hb hts hown hW (81) 44 (111) rfl rfl cw_12 rfl (by decide) k_X12_110 dX12_readIf_131 ?_
          refine lv_bipush (v := 8) hx hb dX12_readIf_134 (by decide) ?_
          refine m_iald hx hb hW (111) rfl (vp_in_iff.mpr ⟨by decide, by decide⟩) dX12_readIf_136 ?_
          refine lv_topi (fun x34 ex34 => ?_)
          have ex34 : x34 = ov := by rw [ex34, ← hμ32]; exact ((hJ26.2.1 111 8 rfl).trans (by exact ((hJ21.2.1 111 8 rfl).trans (by rw [← hμ18]; exact ((hJ12.2.1 111 8 rfl).trans (by rw [← hμ11]; exact ((hJ3.2.1 111 8 rfl).trans (by exact h_ov))))))))
          have ex34 := ex34.symm
          subst ex34
          refine lv_sipush (v := 1000) hx hb dX12_readIf_137 (by decide) ?_
          refine lv_isub hx hb dX12_readIf_140 ?_
          refine lv_topi (fun x35 ex35 => ?_)
          have tx35 : x35.toInt = ov.toInt - 1000 := m_subI ex35 (rfl : ov.toInt = _) (by decide : (1000 : Int32).toInt = 1000) (by omega) (by omega)
          refine m_iast hx hb hW (118) rfl (m_ixI (rfl : x1.toInt = _) (by omega) (by omega)) dX12_readIf_141 (fun H locs hW _ => ?_)
          generalize hμ36 : m_si μ32 (118) (x1 : Int32).toNatClampNeg x35 = μ36 at hW
          have hgp : m_GP μ36 := hgp.si hμ36 (by decide) (by decide) (by decide)
          have hI := hI.si1 hμ36 rfl (by omega) hS35
          refine lv_aload_n hx hb dX12_readIf_142 rfl (lv_at hl 2 rfl) ?_
          refine lv_aload_n hx hb dX12_readIf_143 rfl (lv_at hl 2 rfl) ?_
          refine m_geti hx hb hts hown hW (81) 53 rfl rfl cw_12 rfl (by decide) k_X12_294 dX12_readIf_144 ?_
          refine lv_topi (fun x37 ex37 => ?_)
          have ex37 : x37 = x1 := by rw [ex37, ← hμ36, ← hμ32]; exact ((hJ26.2.1 81 53 rfl).trans (by exact ((hJ21.2.1 81 53 rfl).trans (by rw [← hμ18]; exact ((hJ12.2.1 81 53 rfl).trans (by rw [← hμ11]; exact ((hJ3.2.1 81 53 rfl).trans (by exact ex1.symm))))))))
          have ex37 := ex37.symm
          subst ex37
          refine lv_iconst (v := 1) hx hb dX12_readIf_147 (by decide) ?_
          refine lv_iadd hx hb dX12_readIf_148 ?_
          refine lv_topi (fun x38 ex38 => ?_)
          have tx38 : x38.toInt = x1.toInt + 1 := m_addI ex38 (rfl : x1.toInt = _) (by decide : (1 : Int32).toInt = 1) (by omega) (by omega)
          refine m_puti hx hb hts hown hW (81) 53 rfl rfl cw_12 tyX12_ok nmX12 rfl (by decide) k_X12_294 rfl rfl rfl dX12_readIf_149 (fun H locs hW _ => ?_)
          generalize hμ39 : m_si μ36 (81) 53 x38 = μ39 at hW
          have hgp : m_GP μ39 := hgp.si hμ39 (by decide) (by decide) (by decide)
          have hI := hI.si1 hμ39 rfl (by omega) hS35
          refine lv_aload_n hx hb dX12_readIf_152 rfl (lv_at hl 2 rfl) ?_
          refine lv_bipush (v := 8) hx hb dX12_readIf_153 (by decide) ?_
          refine lv_iconst (v := 0) hx hb dX12_readIf_155 (by decide) ?_
          refine lv_iload_n hx hb dX12_readIf_156 rfl (lv_at hl 0 rfl) ?_
          have l_8 : (8 : Int32).toInt = 8 := by decide
          have l_0 : (0 : Int32).toInt = 0 := by decide
          refine m_aV hW (m_runV (As := [.int 8, .int 0, .int x20]) (rest := []) hx hb hml hown hts hW (81) (g_X12_emits l D cy b (fun g => [25, 33, 41].contains g) μ39 rfl rfl rfl ov (by omega) 8 0 x20 (by omega) μ39 (IY.rf hI.1) (by rw [← hμ39, ← hμ36, ← hμ32]; exact ((hJ26.2.1 111 8 rfl).trans (by exact ((hJ21.2.1 111 8 rfl).trans (by rw [← hμ18]; exact ((hJ12.2.1 111 8 rfl).trans (by rw [← hμ11]; exact ((hJ3.2.1 111 8 rfl).trans (by exact h_ov)))))))))) mi_X12_emits k_X12_301 rfl rfl rfl hl.1 rfl (Nat.le_of_ble_eq_true rfl) dX12_readIf_157 ⟨Nat.le_of_ble_eq_true rfl, Nat.le_of_ble_eq_true rfl⟩ ⟨Nat.le_of_ble_eq_true rfl, Nat.le_of_ble_eq_true rfl⟩) (fun μ40 H locs q40 hW => ?_)
          obtain ⟨hJ40, q40⟩ := q40
          have hI := hI.tr hJ40 (m_subL (by simp [hS25, hS33, hS41]))
          obtain ⟨q40, q40l⟩ := q40
          obtain ⟨x41, hx41⟩ : ∃ z, μ40.1 111 8 = z := ⟨_, rfl⟩
          have tx41 : x41.toInt = ov.toInt + 1 := by rw [← hx41]; exact q40.2.2.2.2
          have hgp : m_GP μ40 := hgp.lo q40l
          have hps : m_PS μ40 := hps.iff (ov := ov) (nv := x1) (x := x35) (y := x38) (by rw [← hμ32]; exact ((hJ26.2.1 111 8 rfl).trans (by exact ((hJ21.2.1 111 8 rfl).trans (by rw [← hμ18]; exact ((hJ12.2.1 111 8 rfl).trans (by rw [← hμ11]; exact ((hJ3.2.1 111 8 rfl).trans (by exact h_ov))))))))) (by omega) (by rw [← hμ32]; exact ((hJ26.2.1 81 53 rfl).trans (by exact ((hJ21.2.1 81 53 rfl).trans (by rw [← hμ18]; exact ((hJ12.2.1 81 53 rfl).trans (by rw [← hμ11]; exact ((hJ3.2.1 81 53 rfl).trans (by exact ex1.symm))))))))) (by omega) (by rw [hμ36]; exact hμ39) (by omega) (by omega) q40 (funext fun j => hJ40.2.1 118 j rfl) (hJ40.2.1 81 53 rfl)
          refine lv_iconst (v := 0) hx hb dX12_readIf_160 (by decide) ?_
          exact m_iret hx hb hr hlocks hW rfl (⟨hI, ⟨hgp, Or.inr ⟨rfl, ⟨by rw [show μ40.1 81 51 = x27 from by exact ((hJ40.2.1 81 51 rfl).trans (by rw [← hμ39, ← hμ36, ← hμ32]; exact hx27)), show μ40.1 81 37 = x28 from by exact ((hJ40.2.1 81 37 rfl).trans (by rw [← hμ39, ← hμ36, ← hμ32]; exact hx28)), show μ40.1 81 36 = x29 from by exact ((hJ40.2.1 81 36 rfl).trans (by rw [← hμ39, ← hμ36, ← hμ32]; exact hx29)), show μ40.1 81 38 = x30 from by exact ((hJ40.2.1 81 38 rfl).trans (by rw [← hμ39, ← hμ36, ← hμ32]; exact hx30)), show μ40.1 111 8 = x41 from by exact hx41]; omega, hps⟩⟩⟩⟩) dX12_readIf_161
      · refine lv_if_ne (tgt := 93) hx hb dX12_readIf_66 (by decide) (fun c => False.elim (by revert c; decide)) (fun _ => ?_)
        refine lv_aload_n hx hb dX12_readIf_69 rfl (lv_at hl 1 rfl) ?_
        refine lv_bipush (v := 61) hx hb dX12_readIf_70 (by decide) ?_
        have l_61 : (61 : Int32).toInt = 61 := by decide
        refine m_aI hW (m_runV (As := [.int 61]) (rest := []) hx hb hml hown hts hW (81) (g_X12_isSign l D cy b 61 μ18 hI.1) mi_X12_isSign k_X12_291 rfl rfl rfl hl.1 rfl (Nat.le_of_ble_eq_true rfl) dX12_readIf_72 ⟨Nat.le_of_ble_eq_true rfl, Nat.le_of_ble_eq_true rfl⟩ ⟨Nat.le_of_ble_eq_true rfl, Nat.le_of_ble_eq_true rfl⟩) (fun x42 μ42 H locs q42 hW => ?_)
        obtain ⟨q42_m, q42⟩ := q42
        subst q42_m
        rcases q42 with ⟨rfl, q42⟩ | rfl
        · rw [show μ18.1 81 38 = x16 from by rw [← hμ18]; exact hx16] at q42
          refine lv_if_ne (tgt := 93) hx hb dX12_readIf_75 (by decide) (fun _ => ?_) (fun c => False.elim (by revert c; decide))
          refine lv_aload_n hx hb dX12_readIf_93 rfl (lv_at hl 1 rfl) ?_
          refine m_geti hx hb hts hown hW (81) 39 rfl rfl cw_12 rfl (by decide) k_X12_257 dX12_readIf_94 ?_
          refine lv_topi (fun x43 ex43 => ?_)
          have bx43 : -1 ≤ x43.toInt ∧ x43.toInt ≤ 99999 := by rw [ex43]; exact hI.1 _ _ _ _ rfl
          refine lv_istore_n (lv' := [(2, .int x43), (1, .int x9), (0, .ref (b + 81))]) hx hb dX12_readIf_97 rfl hl (by decide) rfl (fun ls hl => ?_)
          refine lv_aload_n hx hb dX12_readIf_98 rfl (lv_at hl 2 rfl) ?_
          refine m_aV hW (m_runV (As := []) (rest := []) hx hb hml hown hts hW (81) (g_X12_reads l D cy b (fun g => [24].contains g) μ18 rfl x15 (by omega) μ18 (IY.rf hI.1) (by rw [← hμ18]; exact hx15)) mi_X12_reads k_X12_279 rfl rfl rfl hl.1 rfl (Nat.le_of_ble_eq_true rfl) dX12_readIf_99 ⟨Nat.le_of_ble_eq_true rfl, Nat.le_of_ble_eq_true rfl⟩ ⟨Nat.le_of_ble_eq_true rfl, Nat.le_of_ble_eq_true rfl⟩) (fun μ44 H locs q44 hW => ?_)
          obtain ⟨hJ44, q44⟩ := q44
          have hI := hI.tr hJ44 (m_subL (by simp [hS24]))
          have hps : m_PS μ44 := hps.fr hJ44 rfl rfl rfl
          have hgp : m_GP μ44 := hgp.fr hJ44 rfl rfl
          obtain ⟨x45, hx45⟩ : ∃ z, μ44.1 81 36 = z := ⟨_, rfl⟩
          have bx45 : 0 ≤ x45.toInt ∧ x45.toInt ≤ 400 := by rw [← hx45]; exact hI.1 _ _ _ _ rfl
          rw [show μ44.1 81 36 = x45 from by exact hx45] at q44
          obtain ⟨x46, hx46⟩ : ∃ z, μ44.1 81 37 = z := ⟨_, rfl⟩
          have bx46 : 0 ≤ x46.toInt ∧ x46.toInt ≤ 400 := by rw [← hx46]; exact hI.1 _ _ _ _ rfl
          rw [show μ44.1 81 37 = x46 from by exact hx46] at q44
          obtain ⟨x47, hx47⟩ : ∃ z, μ44.1 81 38 = z := ⟨_, rfl⟩
          have bx47 : 0 ≤ x47.toInt ∧ x47.toInt ≤ 4 := by rw [← hx47]; exact hI.1 _ _ _ _ rfl
          rw [show μ44.1 81 38 = x47 from by exact hx47] at q44
          obtain ⟨x48, hx48⟩ : ∃ z, μ44.1 81 39 = z := ⟨_, rfl⟩
          have bx48 : -1 ≤ x48.toInt ∧ x48.toInt ≤ 99999 := by rw [← hx48]; exact hI.1 _ _ _ _ rfl
          rw [show μ44.1 81 39 = x48 from by exact hx48] at q44
          refine lv_aload_n hx hb dX12_readIf_102 rfl (lv_at hl 2 rfl) ?_
          refine m_aI hW (m_runV (As := []) (rest := []) hx hb hml hown hts hW (81) (g_X12_readSum l D cy b (fun g => [24, 25, 34, 36].contains g) μ44 rfl rfl rfl rfl x45 x46 x47 x13 (by omega) μ44 (IY.rf hI.1) (by exact hx45) (by exact hx46) (by exact hx47) (by exact ((hJ44.2.1 81 51 rfl).trans (by rw [← hμ18]; exact hx13)))) mi_X12_readSum k_X12_297 rfl rfl rfl hl.1 rfl (Nat.le_of_ble_eq_true rfl) dX12_readIf_103 ⟨Nat.le_of_ble_eq_true rfl, Nat.le_of_ble_eq_true rfl⟩ ⟨Nat.le_of_ble_eq_true rfl, Nat.le_of_ble_eq_true rfl⟩) (fun x49 μ49 H locs q49 hW => ?_)
          obtain ⟨hJ49, q49⟩ := q49
          have hI := hI.tr hJ49 (m_subL (by simp [hS24, hS25, hS34, hS36]))
          have hps : m_PS μ49 := hps.fr hJ49 rfl rfl rfl
          have hgp : m_GP μ49 := hgp.fr hJ49 rfl rfl
          rcases q49 with rfl | ⟨rfl, q49⟩
          · refine lv_iconst (v := (-1)) hx hb dX12_readIf_106 (by decide) ?_
            refine lv_icmp_ne (tgt := 112) hx hb dX12_readIf_107 (by decide) (fun c => False.elim (by revert c; decide)) (fun _ => ?_)
            refine lv_iconst (v := (-1)) hx hb dX12_readIf_110 (by decide) ?_
            exact m_iret hx hb hr hlocks hW rfl (⟨hI, ⟨hgp, Or.inl rfl⟩⟩) dX12_readIf_111
          · obtain ⟨x50, hx50⟩ : ∃ z, μ49.1 81 51 = z := ⟨_, rfl⟩
            have bx50 : 0 ≤ x50.toInt ∧ x50.toInt ≤ 400 := by rw [← hx50]; exact hI.1 _ _ _ _ rfl
            rw [show μ49.1 81 51 = x50 from by exact hx50] at q49
            obtain ⟨x51, hx51⟩ : ∃ z, μ49.1 81 37 = z := ⟨_, rfl⟩
            have bx51 : 0 ≤ x51.toInt ∧ x51.toInt ≤ 400 := by rw [← hx51]; exact hI.1 _ _ _ _ rfl
            rw [show μ49.1 81 37 = x51 from by exact hx51] at q49
            obtain ⟨x52, hx52⟩ : ∃ z, μ49.1 81 36 = z := ⟨_, rfl⟩
            have bx52 : 0 ≤ x52.toInt ∧ x52.toInt ≤ 400 := by rw [← hx52]; exact hI.1 _ _ _ _ rfl
            rw [show μ49.1 81 36 = x52 from by exact hx52] at q49
            obtain ⟨x53, hx53⟩ : ∃ z, μ49.1 81 38 = z := ⟨_, rfl⟩
            have bx53 : 0 ≤ x53.toInt ∧ x53.toInt ≤ 4 := by rw [← hx53]; exact hI.1 _ _ _ _ rfl
            rw [show μ49.1 81 38 = x53 from by exact hx53] at q49
            refine lv_iconst (v := (-1)) hx hb dX12_readIf_106 (by decide) ?_
            refine lv_icmp_ne (tgt := 112) hx hb dX12_readIf_107 (by decide) (fun _ => ?_) (fun c => False.elim (by revert c; decide))
            refine lv_aload_n hx hb dX12_readIf_112 rfl (lv_at hl 2 rfl) ?_
            refine m_getr hx hb hts hown hW (81) 47 (114) rfl rfl cw_12 rfl (by decide) k_X12_119 dX12_readIf_113 ?_
            refine lv_iload_n hx hb dX12_readIf_116 rfl (lv_at hl 1 rfl) ?_
            refine lv_aload_n hx hb dX12_readIf_117 rfl (lv_at hl 2 rfl) ?_
            refine m_geti hx hb hts hown hW (81) 51 rfl rfl cw_12 rfl (by decide) k_X12_285 dX12_readIf_118 ?_
            refine lv_topi (fun x54 ex54 => ?_)
            have ex54 : x54 = x50 := by rw [ex54]; exact hx50
            have ex54 := ex54.symm
            subst ex54
            refine m_iast hx hb hW (114) rfl (m_ixI (rfl : x9.toInt = _) (by omega) (by omega)) dX12_readIf_121 (fun H locs hW _ => ?_)
            generalize hμ55 : m_si μ49 (114) (x9 : Int32).toNatClampNeg x50 = μ55 at hW
            have hps : m_PS μ55 := hps.si hμ55 (by decide) (by decide) (by decide) (by decide) (fun q => absurd q (by decide))
            have hgp : m_GP μ55 := hgp.si hμ55 (by decide) (by decide) (by decide)
            have hI := hI.si1 hμ55 rfl (by omega) hS25
            refine lv_aload_n hx hb dX12_readIf_122 rfl (lv_at hl 2 rfl) ?_
            refine m_getr hx hb hts hown hW (81) 52 (118) rfl rfl cw_12 rfl (by decide) k_X12_131 dX12_readIf_123 ?_
            refine lv_aload_n hx hb dX12_readIf_126 rfl (lv_at hl 2 rfl) ?_
            refine m_geti hx hb hts hown hW (81) 53 rfl rfl cw_12 rfl (by decide) k_X12_294 dX12_readIf_127 ?_
            refine lv_topi (fun x56 ex56 => ?_)
            have ex56 : x56 = x1 := by rw [ex56, ← hμ55]; exact ((hJ49.2.1 81 53 rfl).trans (by exact ((hJ44.2.1 81 53 rfl).trans (by rw [← hμ18]; exact ((hJ12.2.1 81 53 rfl).trans (by rw [← hμ11]; exact ((hJ3.2.1 81 53 rfl).trans (by exact ex1.symm))))))))
            have ex56 := ex56.symm
            subst ex56
            refine lv_aload_n hx hb dX12_readIf_130 rfl (lv_at hl 2 rfl) ?_
            refine m_getr hx hb hts hown hW (81) 44 (111) rfl rfl cw_12 rfl (by decide) k_X12_110 dX12_readIf_131 ?_
            refine lv_bipush (v := 8) hx hb dX12_readIf_134 (by decide) ?_
            refine m_iald hx hb hW (111) rfl (vp_in_iff.mpr ⟨by decide, by decide⟩) dX12_readIf_136 ?_
            refine lv_topi (fun x57 ex57 => ?_)
            have ex57 : x57 = ov := by rw [ex57, ← hμ55]; exact ((hJ49.2.1 111 8 rfl).trans (by exact ((hJ44.2.1 111 8 rfl).trans (by rw [← hμ18]; exact ((hJ12.2.1 111 8 rfl).trans (by rw [← hμ11]; exact ((hJ3.2.1 111 8 rfl).trans (by exact h_ov))))))))
            have ex57 := ex57.symm
            subst ex57
            refine lv_sipush (v := 1000) hx hb dX12_readIf_137 (by decide) ?_
            refine lv_isub hx hb dX12_readIf_140 ?_
            refine lv_topi (fun x58 ex58 => ?_)
            have tx58 : x58.toInt = ov.toInt - 1000 := m_subI ex58 (rfl : ov.toInt = _) (by decide : (1000 : Int32).toInt = 1000) (by omega) (by omega)
            refine m_iast hx hb hW (118) rfl (m_ixI (rfl : x1.toInt = _) (by omega) (by omega)) dX12_readIf_141 (fun H locs hW _ => ?_)
            generalize hμ59 : m_si μ55 (118) (x1 : Int32).toNatClampNeg x58 = μ59 at hW
            have hgp : m_GP μ59 := hgp.si hμ59 (by decide) (by decide) (by decide)
            have hI := hI.si1 hμ59 rfl (by omega) hS35
            refine lv_aload_n hx hb dX12_readIf_142 rfl (lv_at hl 2 rfl) ?_
            refine lv_aload_n hx hb dX12_readIf_143 rfl (lv_at hl 2 rfl) ?_
            refine m_geti hx hb hts hown hW (81) 53 rfl rfl cw_12 rfl (by decide) k_X12_294 dX12_readIf_144 ?_
            refine lv_topi (fun x60 ex60 => ?_)
            have ex60 : x60 = x1 := by rw [ex60, ← hμ59, ← hμ55]; exact ((hJ49.2.1 81 53 rfl).trans (by exact ((hJ44.2.1 81 53 rfl).trans (by rw [← hμ18]; exact ((hJ12.2.1 81 53 rfl).trans (by rw [← hμ11]; exact ((hJ3.2.1 81 53 rfl).trans (by exact ex1.symm))))))))
            have ex60 := ex60.symm
            subst ex60
            refine lv_iconst (v := 1) hx hb dX12_readIf_147 (by decide) ?_
            refine lv_iadd hx hb dX12_readIf_148 ?_
            refine lv_topi (fun x61 ex61 => ?_)
            have tx61 : x61.toInt = x1.toInt + 1 := m_addI ex61 (rfl : x1.toInt = _) (by decide : (1 : Int32).toInt = 1) (by omega) (by omega)
            refine m_puti hx hb hts hown hW (81) 53 rfl rfl cw_12 tyX12_ok nmX12 rfl (by decide) k_X12_294 rfl rfl rfl dX12_readIf_149 (fun H locs hW _ => ?_)
            generalize hμ62 : m_si μ59 (81) 53 x61 = μ62 at hW
            have hgp : m_GP μ62 := hgp.si hμ62 (by decide) (by decide) (by decide)
            have hI := hI.si1 hμ62 rfl (by omega) hS35
            refine lv_aload_n hx hb dX12_readIf_152 rfl (lv_at hl 2 rfl) ?_
            refine lv_bipush (v := 8) hx hb dX12_readIf_153 (by decide) ?_
            refine lv_iconst (v := 0) hx hb dX12_readIf_155 (by decide) ?_
            refine lv_iload_n hx hb dX12_readIf_156 rfl (lv_at hl 0 rfl) ?_
            have l_8 : (8 : Int32).toInt = 8 := by decide
            have l_0 : (0 : Int32).toInt = 0 := by decide
            refine m_aV hW (m_runV (As := [.int 8, .int 0, .int x43]) (rest := []) hx hb hml hown hts hW (81) (g_X12_emits l D cy b (fun g => [25, 33, 41].contains g) μ62 rfl rfl rfl ov (by omega) 8 0 x43 (by omega) μ62 (IY.rf hI.1) (by rw [← hμ62, ← hμ59, ← hμ55]; exact ((hJ49.2.1 111 8 rfl).trans (by exact ((hJ44.2.1 111 8 rfl).trans (by rw [← hμ18]; exact ((hJ12.2.1 111 8 rfl).trans (by rw [← hμ11]; exact ((hJ3.2.1 111 8 rfl).trans (by exact h_ov)))))))))) mi_X12_emits k_X12_301 rfl rfl rfl hl.1 rfl (Nat.le_of_ble_eq_true rfl) dX12_readIf_157 ⟨Nat.le_of_ble_eq_true rfl, Nat.le_of_ble_eq_true rfl⟩ ⟨Nat.le_of_ble_eq_true rfl, Nat.le_of_ble_eq_true rfl⟩) (fun μ63 H locs q63 hW => ?_)
            obtain ⟨hJ63, q63⟩ := q63
            have hI := hI.tr hJ63 (m_subL (by simp [hS25, hS33, hS41]))
            obtain ⟨q63, q63l⟩ := q63
            obtain ⟨x64, hx64⟩ : ∃ z, μ63.1 111 8 = z := ⟨_, rfl⟩
            have tx64 : x64.toInt = ov.toInt + 1 := by rw [← hx64]; exact q63.2.2.2.2
            have hgp : m_GP μ63 := hgp.lo q63l
            have hps : m_PS μ63 := hps.iff (ov := ov) (nv := x1) (x := x58) (y := x61) (by rw [← hμ55]; exact ((hJ49.2.1 111 8 rfl).trans (by exact ((hJ44.2.1 111 8 rfl).trans (by rw [← hμ18]; exact ((hJ12.2.1 111 8 rfl).trans (by rw [← hμ11]; exact ((hJ3.2.1 111 8 rfl).trans (by exact h_ov))))))))) (by omega) (by rw [← hμ55]; exact ((hJ49.2.1 81 53 rfl).trans (by exact ((hJ44.2.1 81 53 rfl).trans (by rw [← hμ18]; exact ((hJ12.2.1 81 53 rfl).trans (by rw [← hμ11]; exact ((hJ3.2.1 81 53 rfl).trans (by exact ex1.symm))))))))) (by omega) (by rw [hμ59]; exact hμ62) (by omega) (by omega) q63 (funext fun j => hJ63.2.1 118 j rfl) (hJ63.2.1 81 53 rfl)
            refine lv_iconst (v := 0) hx hb dX12_readIf_160 (by decide) ?_
            exact m_iret hx hb hr hlocks hW rfl (⟨hI, ⟨hgp, Or.inr ⟨rfl, ⟨by rw [show μ63.1 81 51 = x50 from by exact ((hJ63.2.1 81 51 rfl).trans (by rw [← hμ62, ← hμ59, ← hμ55]; exact hx50)), show μ63.1 81 37 = x51 from by exact ((hJ63.2.1 81 37 rfl).trans (by rw [← hμ62, ← hμ59, ← hμ55]; exact hx51)), show μ63.1 81 36 = x52 from by exact ((hJ63.2.1 81 36 rfl).trans (by rw [← hμ62, ← hμ59, ← hμ55]; exact hx52)), show μ63.1 81 38 = x53 from by exact ((hJ63.2.1 81 38 rfl).trans (by rw [← hμ62, ← hμ59, ← hμ55]; exact hx53)), show μ63.1 111 8 = x64 from by exact hx64]; omega, hps⟩⟩⟩⟩) dX12_readIf_161
        · refine lv_if_ne (tgt := 93) hx hb dX12_readIf_75 (by decide) (fun c => False.elim (by revert c; decide)) (fun _ => ?_)
          refine lv_aload_n hx hb dX12_readIf_78 rfl (lv_at hl 1 rfl) ?_
          refine lv_bipush (v := 62) hx hb dX12_readIf_79 (by decide) ?_
          have l_62 : (62 : Int32).toInt = 62 := by decide
          refine m_aI hW (m_runV (As := [.int 62]) (rest := []) hx hb hml hown hts hW (81) (g_X12_isSign l D cy b 62 μ18 hI.1) mi_X12_isSign k_X12_291 rfl rfl rfl hl.1 rfl (Nat.le_of_ble_eq_true rfl) dX12_readIf_81 ⟨Nat.le_of_ble_eq_true rfl, Nat.le_of_ble_eq_true rfl⟩ ⟨Nat.le_of_ble_eq_true rfl, Nat.le_of_ble_eq_true rfl⟩) (fun x65 μ65 H locs q65 hW => ?_)
          obtain ⟨q65_m, q65⟩ := q65
          subst q65_m
          rcases q65 with ⟨rfl, q65⟩ | rfl
          · rw [show μ18.1 81 38 = x16 from by rw [← hμ18]; exact hx16] at q65
            refine lv_if_ne (tgt := 93) hx hb dX12_readIf_84 (by decide) (fun _ => ?_) (fun c => False.elim (by revert c; decide))
            refine lv_aload_n hx hb dX12_readIf_93 rfl (lv_at hl 1 rfl) ?_
            refine m_geti hx hb hts hown hW (81) 39 rfl rfl cw_12 rfl (by decide) k_X12_257 dX12_readIf_94 ?_
            refine lv_topi (fun x66 ex66 => ?_)
            have bx66 : -1 ≤ x66.toInt ∧ x66.toInt ≤ 99999 := by rw [ex66]; exact hI.1 _ _ _ _ rfl
            refine lv_istore_n (lv' := [(2, .int x66), (1, .int x9), (0, .ref (b + 81))]) hx hb dX12_readIf_97 rfl hl (by decide) rfl (fun ls hl => ?_)
            refine lv_aload_n hx hb dX12_readIf_98 rfl (lv_at hl 2 rfl) ?_
            refine m_aV hW (m_runV (As := []) (rest := []) hx hb hml hown hts hW (81) (g_X12_reads l D cy b (fun g => [24].contains g) μ18 rfl x15 (by omega) μ18 (IY.rf hI.1) (by rw [← hμ18]; exact hx15)) mi_X12_reads k_X12_279 rfl rfl rfl hl.1 rfl (Nat.le_of_ble_eq_true rfl) dX12_readIf_99 ⟨Nat.le_of_ble_eq_true rfl, Nat.le_of_ble_eq_true rfl⟩ ⟨Nat.le_of_ble_eq_true rfl, Nat.le_of_ble_eq_true rfl⟩) (fun μ67 H locs q67 hW => ?_)
            obtain ⟨hJ67, q67⟩ := q67
            have hI := hI.tr hJ67 (m_subL (by simp [hS24]))
            have hps : m_PS μ67 := hps.fr hJ67 rfl rfl rfl
            have hgp : m_GP μ67 := hgp.fr hJ67 rfl rfl
            obtain ⟨x68, hx68⟩ : ∃ z, μ67.1 81 36 = z := ⟨_, rfl⟩
            have bx68 : 0 ≤ x68.toInt ∧ x68.toInt ≤ 400 := by rw [← hx68]; exact hI.1 _ _ _ _ rfl
            rw [show μ67.1 81 36 = x68 from by exact hx68] at q67
            obtain ⟨x69, hx69⟩ : ∃ z, μ67.1 81 37 = z := ⟨_, rfl⟩
            have bx69 : 0 ≤ x69.toInt ∧ x69.toInt ≤ 400 := by rw [← hx69]; exact hI.1 _ _ _ _ rfl
            rw [show μ67.1 81 37 = x69 from by exact hx69] at q67
            obtain ⟨x70, hx70⟩ : ∃ z, μ67.1 81 38 = z := ⟨_, rfl⟩
            have bx70 : 0 ≤ x70.toInt ∧ x70.toInt ≤ 4 := by rw [← hx70]; exact hI.1 _ _ _ _ rfl
            rw [show μ67.1 81 38 = x70 from by exact hx70] at q67
            obtain ⟨x71, hx71⟩ : ∃ z, μ67.1 81 39 = z := ⟨_, rfl⟩
            have bx71 : -1 ≤ x71.toInt ∧ x71.toInt ≤ 99999 := by rw [← hx71]; exact hI.1 _ _ _ _ rfl
            rw [show μ67.1 81 39 = x71 from by exact hx71] at q67
            refine lv_aload_n hx hb dX12_readIf_102 rfl (lv_at hl 2 rfl) ?_
            refine m_aI hW (m_runV (As := []) (rest := []) hx hb hml hown hts hW (81) (g_X12_readSum l D cy b (fun g => [24, 25, 34, 36].contains g) μ67 rfl rfl rfl rfl x68 x69 x70 x13 (by omega) μ67 (IY.rf hI.1) (by exact hx68) (by exact hx69) (by exact hx70) (by exact ((hJ67.2.1 81 51 rfl).trans (by rw [← hμ18]; exact hx13)))) mi_X12_readSum k_X12_297 rfl rfl rfl hl.1 rfl (Nat.le_of_ble_eq_true rfl) dX12_readIf_103 ⟨Nat.le_of_ble_eq_true rfl, Nat.le_of_ble_eq_true rfl⟩ ⟨Nat.le_of_ble_eq_true rfl, Nat.le_of_ble_eq_true rfl⟩) (fun x72 μ72 H locs q72 hW => ?_)
            obtain ⟨hJ72, q72⟩ := q72
            have hI := hI.tr hJ72 (m_subL (by simp [hS24, hS25, hS34, hS36]))
            have hps : m_PS μ72 := hps.fr hJ72 rfl rfl rfl
            have hgp : m_GP μ72 := hgp.fr hJ72 rfl rfl
            rcases q72 with rfl | ⟨rfl, q72⟩
            · refine lv_iconst (v := (-1)) hx hb dX12_readIf_106 (by decide) ?_
              refine lv_icmp_ne (tgt := 112) hx hb dX12_readIf_107 (by decide) (fun c => False.elim (by revert c; decide)) (fun _ => ?_)
              refine lv_iconst (v := (-1)) hx hb dX12_readIf_110 (by decide) ?_
              exact m_iret hx hb hr hlocks hW rfl (⟨hI, ⟨hgp, Or.inl rfl⟩⟩) dX12_readIf_111
            · obtain ⟨x73, hx73⟩ : ∃ z, μ72.1 81 51 = z := ⟨_, rfl⟩
              have bx73 : 0 ≤ x73.toInt ∧ x73.toInt ≤ 400 := by rw [← hx73]; exact hI.1 _ _ _ _ rfl
              rw [show μ72.1 81 51 = x73 from by exact hx73] at q72
              obtain ⟨x74, hx74⟩ : ∃ z, μ72.1 81 37 = z := ⟨_, rfl⟩
              have bx74 : 0 ≤ x74.toInt ∧ x74.toInt ≤ 400 := by rw [← hx74]; exact hI.1 _ _ _ _ rfl
              rw [show μ72.1 81 37 = x74 from by exact hx74] at q72
              obtain ⟨x75, hx75⟩ : ∃ z, μ72.1 81 36 = z := ⟨_, rfl⟩
              have bx75 : 0 ≤ x75.toInt ∧ x75.toInt ≤ 400 := by rw [← hx75]; exact hI.1 _ _ _ _ rfl
              rw [show μ72.1 81 36 = x75 from by exact hx75] at q72
              obtain ⟨x76, hx76⟩ : ∃ z, μ72.1 81 38 = z := ⟨_, rfl⟩
              have bx76 : 0 ≤ x76.toInt ∧ x76.toInt ≤ 4 := by rw [← hx76]; exact hI.1 _ _ _ _ rfl
              rw [show μ72.1 81 38 = x76 from by exact hx76] at q72
              refine lv_iconst (v := (-1)) hx hb dX12_readIf_106 (by decide) ?_
              refine lv_icmp_ne (tgt := 112) hx hb dX12_readIf_107 (by decide) (fun _ => ?_) (fun c => False.elim (by revert c; decide))
              refine lv_aload_n hx hb dX12_readIf_112 rfl (lv_at hl 2 rfl) ?_
              refine m_getr hx hb hts hown hW (81) 47 (114) rfl rfl cw_12 rfl (by decide) k_X12_119 dX12_readIf_113 ?_
              refine lv_iload_n hx hb dX12_readIf_116 rfl (lv_at hl 1 rfl) ?_
              refine lv_aload_n hx hb dX12_readIf_117 rfl (lv_at hl 2 rfl) ?_
              refine m_geti hx hb hts hown hW (81) 51 rfl rfl cw_12 rfl (by decide) k_X12_285 dX12_readIf_118 ?_
              refine lv_topi (fun x77 ex77 => ?_)
              have ex77 : x77 = x73 := by rw [ex77]; exact hx73
              have ex77 := ex77.symm
              subst ex77
              refine m_iast hx hb hW (114) rfl (m_ixI (rfl : x9.toInt = _) (by omega) (by omega)) dX12_readIf_121 (fun H locs hW _ => ?_)
              generalize hμ78 : m_si μ72 (114) (x9 : Int32).toNatClampNeg x73 = μ78 at hW
              have hps : m_PS μ78 := hps.si hμ78 (by decide) (by decide) (by decide) (by decide) (fun q => absurd q (by decide))
              have hgp : m_GP μ78 := hgp.si hμ78 (by decide) (by decide) (by decide)
              have hI := hI.si1 hμ78 rfl (by omega) hS25
              refine lv_aload_n hx hb dX12_readIf_122 rfl (lv_at hl 2 rfl) ?_
              refine m_getr hx hb hts hown hW (81) 52 (118) rfl rfl cw_12 rfl (by decide) k_X12_131 dX12_readIf_123 ?_
              refine lv_aload_n hx hb dX12_readIf_126 rfl (lv_at hl 2 rfl) ?_
              refine m_geti hx hb hts hown hW (81) 53 rfl rfl cw_12 rfl (by decide) k_X12_294 dX12_readIf_127 ?_
              refine lv_topi (fun x79 ex79 => ?_)
              have ex79 : x79 = x1 := by rw [ex79, ← hμ78]; exact ((hJ72.2.1 81 53 rfl).trans (by exact ((hJ67.2.1 81 53 rfl).trans (by rw [← hμ18]; exact ((hJ12.2.1 81 53 rfl).trans (by rw [← hμ11]; exact ((hJ3.2.1 81 53 rfl).trans (by exact ex1.symm))))))))
              have ex79 := ex79.symm
              subst ex79
              refine lv_aload_n hx hb dX12_readIf_130 rfl (lv_at hl 2 rfl) ?_
              refine m_getr hx hb hts hown hW (81) 44 (111) rfl rfl cw_12 rfl (by decide) k_X12_110 dX12_readIf_131 ?_
              refine lv_bipush (v := 8) hx hb dX12_readIf_134 (by decide) ?_
              refine m_iald hx hb hW (111) rfl (vp_in_iff.mpr ⟨by decide, by decide⟩) dX12_readIf_136 ?_
              refine lv_topi (fun x80 ex80 => ?_)
              have ex80 : x80 = ov := by rw [ex80, ← hμ78]; exact ((hJ72.2.1 111 8 rfl).trans (by exact ((hJ67.2.1 111 8 rfl).trans (by rw [← hμ18]; exact ((hJ12.2.1 111 8 rfl).trans (by rw [← hμ11]; exact ((hJ3.2.1 111 8 rfl).trans (by exact h_ov))))))))
              have ex80 := ex80.symm
              subst ex80
              refine lv_sipush (v := 1000) hx hb dX12_readIf_137 (by decide) ?_
              refine lv_isub hx hb dX12_readIf_140 ?_
              refine lv_topi (fun x81 ex81 => ?_)
              have tx81 : x81.toInt = ov.toInt - 1000 := m_subI ex81 (rfl : ov.toInt = _) (by decide : (1000 : Int32).toInt = 1000) (by omega) (by omega)
              refine m_iast hx hb hW (118) rfl (m_ixI (rfl : x1.toInt = _) (by omega) (by omega)) dX12_readIf_141 (fun H locs hW _ => ?_)
              generalize hμ82 : m_si μ78 (118) (x1 : Int32).toNatClampNeg x81 = μ82 at hW
              have hgp : m_GP μ82 := hgp.si hμ82 (by decide) (by decide) (by decide)
              have hI := hI.si1 hμ82 rfl (by omega) hS35
              refine lv_aload_n hx hb dX12_readIf_142 rfl (lv_at hl 2 rfl) ?_
              refine lv_aload_n hx hb dX12_readIf_143 rfl (lv_at hl 2 rfl) ?_
              refine m_geti hx hb hts hown hW (81) 53 rfl rfl cw_12 rfl (by decide) k_X12_294 dX12_readIf_144 ?_
              refine lv_topi (fun x83 ex83 => ?_)
              have ex83 : x83 = x1 := by rw [ex83, ← hμ82, ← hμ78]; exact ((hJ72.2.1 81 53 rfl).trans (by exact ((hJ67.2.1 81 53 rfl).trans (by rw [← hμ18]; exact ((hJ12.2.1 81 53 rfl).trans (by rw [← hμ11]; exact ((hJ3.2.1 81 53 rfl).trans (by exact ex1.symm))))))))
              have ex83 := ex83.symm
              subst ex83
              refine lv_iconst (v := 1) hx hb dX12_readIf_147 (by decide) ?_
              refine lv_iadd hx hb dX12_readIf_148 ?_
              refine lv_topi (fun x84 ex84 => ?_)
              have tx84 : x84.toInt = x1.toInt + 1 := m_addI ex84 (rfl : x1.toInt = _) (by decide : (1 : Int32).toInt = 1) (by omega) (by omega)
              refine m_puti hx hb hts hown hW (81) 53 rfl rfl cw_12 tyX12_ok nmX12 rfl (by decide) k_X12_294 rfl rfl rfl dX12_readIf_149 (fun H locs hW _ => ?_)
              generalize hμ85 : m_si μ82 (81) 53 x84 = μ85 at hW
              have hgp : m_GP μ85 := hgp.si hμ85 (by decide) (by decide) (by decide)
              have hI := hI.si1 hμ85 rfl (by omega) hS35
              refine lv_aload_n hx hb dX12_readIf_152 rfl (lv_at hl 2 rfl) ?_
              refine lv_bipush (v := 8) hx hb dX12_readIf_153 (by decide) ?_
              refine lv_iconst (v := 0) hx hb dX12_readIf_155 (by decide) ?_
              refine lv_iload_n hx hb dX12_readIf_156 rfl (lv_at hl 0 rfl) ?_
              have l_8 : (8 : Int32).toInt = 8 := by decide
              have l_0 : (0 : Int32).toInt = 0 := by decide
              refine m_aV hW (m_runV (As := [.int 8, .int 0, .int x66]) (rest := []) hx hb hml hown hts hW (81) (g_X12_emits l D cy b (fun g => [25, 33, 41].contains g) μ85 rfl rfl rfl ov (by omega) 8 0 x66 (by omega) μ85 (IY.rf hI.1) (by rw [← hμ85, ← hμ82, ← hμ78]; exact ((hJ72.2.1 111 8 rfl).trans (by exact ((hJ67.2.1 111 8 rfl).trans (by rw [← hμ18]; exact ((hJ12.2.1 111 8 rfl).trans (by rw [← hμ11]; exact ((hJ3.2.1 111 8 rfl).trans (by exact h_ov)))))))))) mi_X12_emits k_X12_301 rfl rfl rfl hl.1 rfl (Nat.le_of_ble_eq_true rfl) dX12_readIf_157 ⟨Nat.le_of_ble_eq_true rfl, Nat.le_of_ble_eq_true rfl⟩ ⟨Nat.le_of_ble_eq_true rfl, Nat.le_of_ble_eq_true rfl⟩) (fun μ86 H locs q86 hW => ?_)
              obtain ⟨hJ86, q86⟩ := q86
              have hI := hI.tr hJ86 (m_subL (by simp [hS25, hS33, hS41]))
              obtain ⟨q86, q86l⟩ := q86
              obtain ⟨x87, hx87⟩ : ∃ z, μ86.1 111 8 = z := ⟨_, rfl⟩
              have tx87 : x87.toInt = ov.toInt + 1 := by rw [← hx87]; exact q86.2.2.2.2
              have hgp : m_GP μ86 := hgp.lo q86l
              have hps : m_PS μ86 := hps.iff (ov := ov) (nv := x1) (x := x81) (y := x84) (by rw [← hμ78]; exact ((hJ72.2.1 111 8 rfl).trans (by exact ((hJ67.2.1 111 8 rfl).trans (by rw [← hμ18]; exact ((hJ12.2.1 111 8 rfl).trans (by rw [← hμ11]; exact ((hJ3.2.1 111 8 rfl).trans (by exact h_ov))))))))) (by omega) (by rw [← hμ78]; exact ((hJ72.2.1 81 53 rfl).trans (by exact ((hJ67.2.1 81 53 rfl).trans (by rw [← hμ18]; exact ((hJ12.2.1 81 53 rfl).trans (by rw [← hμ11]; exact ((hJ3.2.1 81 53 rfl).trans (by exact ex1.symm))))))))) (by omega) (by rw [hμ82]; exact hμ85) (by omega) (by omega) q86 (funext fun j => hJ86.2.1 118 j rfl) (hJ86.2.1 81 53 rfl)
              refine lv_iconst (v := 0) hx hb dX12_readIf_160 (by decide) ?_
              exact m_iret hx hb hr hlocks hW rfl (⟨hI, ⟨hgp, Or.inr ⟨rfl, ⟨by rw [show μ86.1 81 51 = x73 from by exact ((hJ86.2.1 81 51 rfl).trans (by rw [← hμ85, ← hμ82, ← hμ78]; exact hx73)), show μ86.1 81 37 = x74 from by exact ((hJ86.2.1 81 37 rfl).trans (by rw [← hμ85, ← hμ82, ← hμ78]; exact hx74)), show μ86.1 81 36 = x75 from by exact ((hJ86.2.1 81 36 rfl).trans (by rw [← hμ85, ← hμ82, ← hμ78]; exact hx75)), show μ86.1 81 38 = x76 from by exact ((hJ86.2.1 81 38 rfl).trans (by rw [← hμ85, ← hμ82, ← hμ78]; exact hx76)), show μ86.1 111 8 = x87 from by exact hx87]; omega, hps⟩⟩⟩⟩) dX12_readIf_161
          · refine lv_if_ne (tgt := 93) hx hb dX12_readIf_84 (by decide) (fun c => False.elim (by revert c; decide)) (fun _ => ?_)
            refine lv_aload_n hx hb dX12_readIf_87 rfl (lv_at hl 1 rfl) ?_
            refine lv_iconst (v := 1) hx hb dX12_readIf_88 (by decide) ?_
            have l_1 : (1 : Int32).toInt = 1 := by decide
            refine m_aI hW (m_runV (As := [.int 1]) (rest := []) hx hb hml hown hts hW (81) (g_X12_fails l D cy b (fun g => [36].contains g) μ18 rfl 1 μ18 (IY.rf hI.1)) mi_X12_fails k_X12_282 rfl rfl rfl hl.1 rfl (Nat.le_of_ble_eq_true rfl) dX12_readIf_89 ⟨Nat.le_of_ble_eq_true rfl, Nat.le_of_ble_eq_true rfl⟩ ⟨Nat.le_of_ble_eq_true rfl, Nat.le_of_ble_eq_true rfl⟩) (fun x88 μ88 H locs q88 hW => ?_)
            obtain ⟨hJ88, q88⟩ := q88
            have hI := hI.tr hJ88 (m_subL (by simp [hS36]))
            have hps : m_PS μ88 := hps.fr hJ88 rfl rfl rfl
            have hgp : m_GP μ88 := hgp.fr hJ88 rfl rfl
            have q88 := q88.symm
            subst q88
            exact m_iret hx hb hr hlocks hW rfl (⟨hI, ⟨hgp, Or.inl rfl⟩⟩) dX12_readIf_92
  · have i2 := m_c5 (rfl : x1.toInt = _) (by decide : (4 : Int32).toInt = 4) c2
    refine lv_aload_n hx hb dX12_readIf_8 rfl (lv_at hl 0 rfl) ?_
    refine lv_iconst (v := 3) hx hb dX12_readIf_9 (by decide) ?_
    have l_3 : (3 : Int32).toInt = 3 := by decide
    refine m_aI hW (m_runV (As := [.int 3]) (rest := []) hx hb hml hown hts hW (81) (g_X12_fails l D cy b (fun g => [36].contains g) μ rfl 3 μ (IY.rf hI.1)) mi_X12_fails k_X12_282 rfl rfl rfl hl.1 rfl (Nat.le_of_ble_eq_true rfl) dX12_readIf_10 ⟨Nat.le_of_ble_eq_true rfl, Nat.le_of_ble_eq_true rfl⟩ ⟨Nat.le_of_ble_eq_true rfl, Nat.le_of_ble_eq_true rfl⟩) (fun x89 μ89 H locs q89 hW => ?_)
    obtain ⟨hJ89, q89⟩ := q89
    have hI := hI.tr hJ89 (m_subL (by simp [hS36]))
    have hps : m_PS μ89 := hps.fr hJ89 rfl rfl rfl
    have hgp : m_GP μ89 := hgp.fr hJ89 rfl rfl
    have q89 := q89.symm
    subst q89
    exact m_iret hx hb hr hlocks hW rfl (⟨hI, ⟨hgp, Or.inl rfl⟩⟩) dX12_readIf_13
set_option maxHeartbeats 4000000 in
set_option maxRecDepth 100000 in
theorem g_X12_readAgain (l : Launch) (D : va_G) (cy : Nat → ClassId) (b : Nat) (S : Nat → Bool) (μ0 : mM) (hS24 : S 24 = true) (hS25 : S 25 = true) (hS33 : S 33 = true) (hS34 : S 34 = true) (hS35 : S 35 = true) (hS36 : S 36 = true) (hS41 : S 41 = true) (av fv tk uv ov : Int32) (h_g : 0 ≤ av.toInt ∧ av.toInt ≤ 400 ∧ 0 ≤ fv.toInt ∧ fv.toInt ≤ 400 ∧ 0 ≤ tk.toInt ∧ tk.toInt ≤ 4 ∧ 0 ≤ uv.toInt ∧ uv.toInt ≤ 400 ∧ 0 ≤ ov.toInt ∧ ov.toInt ≤ 400 ∧ uv.toInt ≤ fv.toInt ∧ fv.toInt ≤ av.toInt ∧ (tk.toInt = 0 ∨ fv.toInt + 1 ≤ av.toInt) ∧ ov.toInt ≤ fv.toInt ∧ tk.toInt = 2) (μ : mM) (hI : IY S μ0 μ) (h_av : μ.1 81 36 = av) (h_fv : μ.1 81 37 = fv) (h_tk : μ.1 81 38 = tk) (h_uv : μ.1 81 51 = uv) (h_ov : μ.1 111 8 = ov) (hps : m_PS μ) (hgp : m_GP μ) : m_Ci l yX12_readAgain cX12_readAgain 2 ((some .int)) 4 D cy b LAY μ [.ref (b + 81)] (fun r ν => IY S μ0 ν ∧ (m_GP ν ∧ (r = -1 ∨ (r = 0 ∧ ((ν.1 81 51).toInt ≤ (ν.1 81 37).toInt ∧ fv.toInt + 1 ≤ (ν.1 81 37).toInt ∧ (ν.1 81 37).toInt ≤ (ν.1 81 36).toInt ∧ ((ν.1 81 38).toInt = 0 ∨ (ν.1 81 37).toInt + 1 ≤ (ν.1 81 36).toInt) ∧ (ν.1 111 8).toInt ≤ (ν.1 81 37).toInt) ∧ m_PS ν)))) := by
  unfold m_Ci
  refine m_of (by decide) (Nat.le_of_ble_eq_true rfl) ?_
  intro p e s m below meth c hx hb hr hml hown hts hlocks _ hW ls hl
  have hown : s.vm.findClass RX12 = some m.cls := hown
  have hl : lv_has ls 2 [(0, .ref (b + 81))] := hl
  refine lv_aload_n hx hb dX12_readAgain_0 rfl (lv_at hl 0 rfl) ?_
  refine m_geti hx hb hts hown hW (81) 53 rfl rfl cw_12 rfl (by decide) k_X12_294 dX12_readAgain_1 ?_
  refine lv_topi (fun x1 ex1 => ?_)
  have bx1 : 0 ≤ x1.toInt ∧ x1.toInt ≤ 4 := by rw [ex1]; exact hI.1 _ _ _ _ rfl
  refine lv_iconst (v := 4) hx hb dX12_readAgain_4 (by decide) ?_
  refine lv_icmp_ne (tgt := 14) hx hb dX12_readAgain_5 (by decide) (fun c2 => ?_) (fun c2 => ?_)
  · have i2 := m_c6 (rfl : x1.toInt = _) (by decide : (4 : Int32).toInt = 4) c2
    refine lv_aload_n hx hb dX12_readAgain_14 rfl (lv_at hl 0 rfl) ?_
    refine m_aI hW (m_runV (As := []) (rest := []) hx hb hml hown hts hW (81) (g_X12_readNumber l D cy b (fun g => [24, 36].contains g) μ rfl rfl av (by omega) μ (IY.rf hI.1) (by exact h_av)) mi_X12_readNumber k_X12_304 rfl rfl rfl hl.1 rfl (Nat.le_of_ble_eq_true rfl) dX12_readAgain_15 ⟨Nat.le_of_ble_eq_true rfl, Nat.le_of_ble_eq_true rfl⟩ ⟨Nat.le_of_ble_eq_true rfl, Nat.le_of_ble_eq_true rfl⟩) (fun x3 μ3 H locs q3 hW => ?_)
    obtain ⟨hJ3, q3⟩ := q3
    have hI := hI.tr hJ3 (m_subL (by simp [hS24, hS36]))
    have hps : m_PS μ3 := hps.fr hJ3 rfl rfl rfl
    have hgp : m_GP μ3 := hgp.fr hJ3 rfl rfl
    rcases q3 with rfl | q3
    · refine lv_istore_n (lv' := [(1, .int (-1)), (0, .ref (b + 81))]) hx hb dX12_readAgain_18 rfl hl (by decide) rfl (fun ls hl => ?_)
      refine lv_iload_n hx hb dX12_readAgain_19 rfl (lv_at hl 0 rfl) ?_
      refine lv_iconst (v := (-1)) hx hb dX12_readAgain_20 (by decide) ?_
      refine lv_icmp_ne (tgt := 26) hx hb dX12_readAgain_21 (by decide) (fun c => False.elim (by revert c; decide)) (fun _ => ?_)
      refine lv_iconst (v := (-1)) hx hb dX12_readAgain_24 (by decide) ?_
      exact m_iret hx hb hr hlocks hW rfl (⟨hI, ⟨hgp, Or.inl rfl⟩⟩) dX12_readAgain_25
    · obtain ⟨x4, hx4⟩ : ∃ z, μ3.1 81 37 = z := ⟨_, rfl⟩
      have bx4 : 0 ≤ x4.toInt ∧ x4.toInt ≤ 400 := by rw [← hx4]; exact hI.1 _ _ _ _ rfl
      rw [show μ3.1 81 37 = x4 from by exact hx4] at q3
      obtain ⟨x5, hx5⟩ : ∃ z, μ3.1 81 36 = z := ⟨_, rfl⟩
      have bx5 : 0 ≤ x5.toInt ∧ x5.toInt ≤ 400 := by rw [← hx5]; exact hI.1 _ _ _ _ rfl
      rw [show μ3.1 81 36 = x5 from by exact hx5] at q3
      refine lv_istore_n (lv' := [(1, .int x3), (0, .ref (b + 81))]) hx hb dX12_readAgain_18 rfl hl (by decide) rfl (fun ls hl => ?_)
      refine lv_iload_n hx hb dX12_readAgain_19 rfl (lv_at hl 0 rfl) ?_
      refine lv_iconst (v := (-1)) hx hb dX12_readAgain_20 (by decide) ?_
      refine lv_icmp_ne (tgt := 26) hx hb dX12_readAgain_21 (by decide) (fun c6 => ?_) (fun c6 => ?_)
      · have i6 := m_c6 (rfl : x3.toInt = _) (by decide : ((-1) : Int32).toInt = (-1)) c6
        refine lv_aload_n hx hb dX12_readAgain_26 rfl (lv_at hl 1 rfl) ?_
        refine lv_iload_n hx hb dX12_readAgain_27 rfl (lv_at hl 0 rfl) ?_
        refine lv_iconst (v := 1) hx hb dX12_readAgain_28 (by decide) ?_
        refine lv_bipush (v := 99) hx hb dX12_readAgain_29 (by decide) ?_
        have l_1 : (1 : Int32).toInt = 1 := by decide
        have l_99 : (99 : Int32).toInt = 99 := by decide
        refine m_aI hW (m_runV (As := [.int x3, .int 1, .int 99]) (rest := []) hx hb hml hown hts hW (81) (g_X12_isIn l D cy b x3 1 99 μ3 hI.1) mi_X12_isIn k_X12_170 rfl rfl rfl hl.1 rfl (Nat.le_of_ble_eq_true rfl) dX12_readAgain_31 ⟨Nat.le_of_ble_eq_true rfl, Nat.le_of_ble_eq_true rfl⟩ ⟨Nat.le_of_ble_eq_true rfl, Nat.le_of_ble_eq_true rfl⟩) (fun x7 μ7 H locs q7 hW => ?_)
        obtain ⟨q7_m, q7⟩ := q7
        subst q7_m
        rcases q7 with ⟨rfl, q7⟩ | ⟨rfl, q7⟩
        · refine lv_if_ne (tgt := 43) hx hb dX12_readAgain_34 (by decide) (fun _ => ?_) (fun c => False.elim (by revert c; decide))
          refine lv_aload_n hx hb dX12_readAgain_43 rfl (lv_at hl 1 rfl) ?_
          refine m_aV hW (m_runV (As := []) (rest := []) hx hb hml hown hts hW (81) (g_X12_reads l D cy b (fun g => [24].contains g) μ3 rfl x5 (by omega) μ3 (IY.rf hI.1) (by exact hx5)) mi_X12_reads k_X12_279 rfl rfl rfl hl.1 rfl (Nat.le_of_ble_eq_true rfl) dX12_readAgain_44 ⟨Nat.le_of_ble_eq_true rfl, Nat.le_of_ble_eq_true rfl⟩ ⟨Nat.le_of_ble_eq_true rfl, Nat.le_of_ble_eq_true rfl⟩) (fun μ8 H locs q8 hW => ?_)
          obtain ⟨hJ8, q8⟩ := q8
          have hI := hI.tr hJ8 (m_subL (by simp [hS24]))
          have hps : m_PS μ8 := hps.fr hJ8 rfl rfl rfl
          have hgp : m_GP μ8 := hgp.fr hJ8 rfl rfl
          obtain ⟨x9, hx9⟩ : ∃ z, μ8.1 81 36 = z := ⟨_, rfl⟩
          have bx9 : 0 ≤ x9.toInt ∧ x9.toInt ≤ 400 := by rw [← hx9]; exact hI.1 _ _ _ _ rfl
          rw [show μ8.1 81 36 = x9 from by exact hx9] at q8
          obtain ⟨x10, hx10⟩ : ∃ z, μ8.1 81 37 = z := ⟨_, rfl⟩
          have bx10 : 0 ≤ x10.toInt ∧ x10.toInt ≤ 400 := by rw [← hx10]; exact hI.1 _ _ _ _ rfl
          rw [show μ8.1 81 37 = x10 from by exact hx10] at q8
          obtain ⟨x11, hx11⟩ : ∃ z, μ8.1 81 38 = z := ⟨_, rfl⟩
          have bx11 : 0 ≤ x11.toInt ∧ x11.toInt ≤ 4 := by rw [← hx11]; exact hI.1 _ _ _ _ rfl
          rw [show μ8.1 81 38 = x11 from by exact hx11] at q8
          obtain ⟨x12, hx12⟩ : ∃ z, μ8.1 81 39 = z := ⟨_, rfl⟩
          have bx12 : -1 ≤ x12.toInt ∧ x12.toInt ≤ 99999 := by rw [← hx12]; exact hI.1 _ _ _ _ rfl
          rw [show μ8.1 81 39 = x12 from by exact hx12] at q8
          refine lv_aload_n hx hb dX12_readAgain_47 rfl (lv_at hl 1 rfl) ?_
          refine lv_bipush (v := 7) hx hb dX12_readAgain_48 (by decide) ?_
          have l_7 : (7 : Int32).toInt = 7 := by decide
          refine m_aI hW (m_runV (As := [.int 7]) (rest := []) hx hb hml hown hts hW (81) (g_X12_isWord l D cy b 7 μ8 hI.1) mi_X12_isWord k_X12_307 rfl rfl rfl hl.1 rfl (Nat.le_of_ble_eq_true rfl) dX12_readAgain_50 ⟨Nat.le_of_ble_eq_true rfl, Nat.le_of_ble_eq_true rfl⟩ ⟨Nat.le_of_ble_eq_true rfl, Nat.le_of_ble_eq_true rfl⟩) (fun x13 μ13 H locs q13 hW => ?_)
          obtain ⟨q13_m, q13⟩ := q13
          subst q13_m
          rcases q13 with ⟨rfl, q13⟩ | rfl
          · rw [show μ8.1 81 38 = x11 from by exact hx11] at q13
            refine lv_if_ne (tgt := 62) hx hb dX12_readAgain_53 (by decide) (fun _ => ?_) (fun c => False.elim (by revert c; decide))
            refine lv_aload_n hx hb dX12_readAgain_62 rfl (lv_at hl 1 rfl) ?_
            refine m_aV hW (m_runV (As := []) (rest := []) hx hb hml hown hts hW (81) (g_X12_reads l D cy b (fun g => [24].contains g) μ8 rfl x9 (by omega) μ8 (IY.rf hI.1) (by exact hx9)) mi_X12_reads k_X12_279 rfl rfl rfl hl.1 rfl (Nat.le_of_ble_eq_true rfl) dX12_readAgain_63 ⟨Nat.le_of_ble_eq_true rfl, Nat.le_of_ble_eq_true rfl⟩ ⟨Nat.le_of_ble_eq_true rfl, Nat.le_of_ble_eq_true rfl⟩) (fun μ14 H locs q14 hW => ?_)
            obtain ⟨hJ14, q14⟩ := q14
            have hI := hI.tr hJ14 (m_subL (by simp [hS24]))
            have hps : m_PS μ14 := hps.fr hJ14 rfl rfl rfl
            have hgp : m_GP μ14 := hgp.fr hJ14 rfl rfl
            obtain ⟨x15, hx15⟩ : ∃ z, μ14.1 81 36 = z := ⟨_, rfl⟩
            have bx15 : 0 ≤ x15.toInt ∧ x15.toInt ≤ 400 := by rw [← hx15]; exact hI.1 _ _ _ _ rfl
            rw [show μ14.1 81 36 = x15 from by exact hx15] at q14
            obtain ⟨x16, hx16⟩ : ∃ z, μ14.1 81 37 = z := ⟨_, rfl⟩
            have bx16 : 0 ≤ x16.toInt ∧ x16.toInt ≤ 400 := by rw [← hx16]; exact hI.1 _ _ _ _ rfl
            rw [show μ14.1 81 37 = x16 from by exact hx16] at q14
            obtain ⟨x17, hx17⟩ : ∃ z, μ14.1 81 38 = z := ⟨_, rfl⟩
            have bx17 : 0 ≤ x17.toInt ∧ x17.toInt ≤ 4 := by rw [← hx17]; exact hI.1 _ _ _ _ rfl
            rw [show μ14.1 81 38 = x17 from by exact hx17] at q14
            obtain ⟨x18, hx18⟩ : ∃ z, μ14.1 81 39 = z := ⟨_, rfl⟩
            have bx18 : -1 ≤ x18.toInt ∧ x18.toInt ≤ 99999 := by rw [← hx18]; exact hI.1 _ _ _ _ rfl
            rw [show μ14.1 81 39 = x18 from by exact hx18] at q14
            refine lv_aload_n hx hb dX12_readAgain_66 rfl (lv_at hl 1 rfl) ?_
            refine m_getr hx hb hts hown hW (81) 52 (118) rfl rfl cw_12 rfl (by decide) k_X12_131 dX12_readAgain_67 ?_
            refine lv_aload_n hx hb dX12_readAgain_70 rfl (lv_at hl 1 rfl) ?_
            refine m_geti hx hb hts hown hW (81) 53 rfl rfl cw_12 rfl (by decide) k_X12_294 dX12_readAgain_71 ?_
            refine lv_topi (fun x19 ex19 => ?_)
            have ex19 : x19 = x1 := by rw [ex19]; exact ((hJ14.2.1 81 53 rfl).trans (by exact ((hJ8.2.1 81 53 rfl).trans (by exact ((hJ3.2.1 81 53 rfl).trans (by exact ex1.symm))))))
            have ex19 := ex19.symm
            subst ex19
            refine lv_aload_n hx hb dX12_readAgain_74 rfl (lv_at hl 1 rfl) ?_
            refine m_getr hx hb hts hown hW (81) 44 (111) rfl rfl cw_12 rfl (by decide) k_X12_110 dX12_readAgain_75 ?_
            refine lv_bipush (v := 8) hx hb dX12_readAgain_78 (by decide) ?_
            refine m_iald hx hb hW (111) rfl (vp_in_iff.mpr ⟨by decide, by decide⟩) dX12_readAgain_80 ?_
            refine lv_topi (fun x20 ex20 => ?_)
            have ex20 : x20 = ov := by rw [ex20]; exact ((hJ14.2.1 111 8 rfl).trans (by exact ((hJ8.2.1 111 8 rfl).trans (by exact ((hJ3.2.1 111 8 rfl).trans (by exact h_ov))))))
            have ex20 := ex20.symm
            subst ex20
            refine m_iast hx hb hW (118) rfl (m_ixI (rfl : x1.toInt = _) (by omega) (by omega)) dX12_readAgain_81 (fun H locs hW _ => ?_)
            generalize hμ21 : m_si μ14 (118) (x1 : Int32).toNatClampNeg ov = μ21 at hW
            have hgp : m_GP μ21 := hgp.si hμ21 (by decide) (by decide) (by decide)
            have hI := hI.si1 hμ21 rfl (by omega) hS35
            refine lv_aload_n hx hb dX12_readAgain_82 rfl (lv_at hl 1 rfl) ?_
            refine lv_aload_n hx hb dX12_readAgain_83 rfl (lv_at hl 1 rfl) ?_
            refine m_geti hx hb hts hown hW (81) 53 rfl rfl cw_12 rfl (by decide) k_X12_294 dX12_readAgain_84 ?_
            refine lv_topi (fun x22 ex22 => ?_)
            have ex22 : x22 = x1 := by rw [ex22, ← hμ21]; exact ((hJ14.2.1 81 53 rfl).trans (by exact ((hJ8.2.1 81 53 rfl).trans (by exact ((hJ3.2.1 81 53 rfl).trans (by exact ex1.symm))))))
            have ex22 := ex22.symm
            subst ex22
            refine lv_iconst (v := 1) hx hb dX12_readAgain_87 (by decide) ?_
            refine lv_iadd hx hb dX12_readAgain_88 ?_
            refine lv_topi (fun x23 ex23 => ?_)
            have tx23 : x23.toInt = x1.toInt + 1 := m_addI ex23 (rfl : x1.toInt = _) (by decide : (1 : Int32).toInt = 1) (by omega) (by omega)
            refine m_puti hx hb hts hown hW (81) 53 rfl rfl cw_12 tyX12_ok nmX12 rfl (by decide) k_X12_294 rfl rfl rfl dX12_readAgain_89 (fun H locs hW _ => ?_)
            generalize hμ24 : m_si μ21 (81) 53 x23 = μ24 at hW
            have hgp : m_GP μ24 := hgp.si hμ24 (by decide) (by decide) (by decide)
            have hI := hI.si1 hμ24 rfl (by omega) hS35
            refine lv_aload_n hx hb dX12_readAgain_92 rfl (lv_at hl 1 rfl) ?_
            refine lv_bipush (v := 6) hx hb dX12_readAgain_93 (by decide) ?_
            refine lv_iload_n hx hb dX12_readAgain_95 rfl (lv_at hl 0 rfl) ?_
            refine lv_iconst (v := 0) hx hb dX12_readAgain_96 (by decide) ?_
            have l_6 : (6 : Int32).toInt = 6 := by decide
            have l_0 : (0 : Int32).toInt = 0 := by decide
            refine m_aV hW (m_runV (As := [.int 6, .int x3, .int 0]) (rest := []) hx hb hml hown hts hW (81) (g_X12_emits l D cy b (fun g => [25, 33, 41].contains g) μ24 rfl rfl rfl ov (by omega) 6 x3 0 (by omega) μ24 (IY.rf hI.1) (by rw [← hμ24, ← hμ21]; exact ((hJ14.2.1 111 8 rfl).trans (by exact ((hJ8.2.1 111 8 rfl).trans (by exact ((hJ3.2.1 111 8 rfl).trans (by exact h_ov)))))))) mi_X12_emits k_X12_301 rfl rfl rfl hl.1 rfl (Nat.le_of_ble_eq_true rfl) dX12_readAgain_97 ⟨Nat.le_of_ble_eq_true rfl, Nat.le_of_ble_eq_true rfl⟩ ⟨Nat.le_of_ble_eq_true rfl, Nat.le_of_ble_eq_true rfl⟩) (fun μ25 H locs q25 hW => ?_)
            obtain ⟨hJ25, q25⟩ := q25
            have hI := hI.tr hJ25 (m_subL (by simp [hS25, hS33, hS41]))
            obtain ⟨q25, q25l⟩ := q25
            obtain ⟨x26, hx26⟩ : ∃ z, μ25.1 111 8 = z := ⟨_, rfl⟩
            have tx26 : x26.toInt = ov.toInt + 1 := by rw [← hx26]; exact q25.2.2.2.2
            have hgp : m_GP μ25 := hgp.lo q25l
            have hps : m_PS μ25 := hps.again (ov := ov) (nv := x1) (y := x23) (by exact ((hJ14.2.1 111 8 rfl).trans (by exact ((hJ8.2.1 111 8 rfl).trans (by exact ((hJ3.2.1 111 8 rfl).trans (by exact h_ov))))))) (by omega) (by exact ((hJ14.2.1 81 53 rfl).trans (by exact ((hJ8.2.1 81 53 rfl).trans (by exact ((hJ3.2.1 81 53 rfl).trans (by exact ex1.symm))))))) (by omega) (by rw [hμ21]; exact hμ24) (by omega) (by omega) q25 (funext fun j => hJ25.2.1 118 j rfl) (hJ25.2.1 81 53 rfl)
            refine lv_iconst (v := 0) hx hb dX12_readAgain_100 (by decide) ?_
            exact m_iret hx hb hr hlocks hW rfl (⟨hI, ⟨hgp, Or.inr ⟨rfl, ⟨by rw [show μ25.1 81 51 = uv from by exact ((hJ25.2.1 81 51 rfl).trans (by rw [← hμ24, ← hμ21]; exact ((hJ14.2.1 81 51 rfl).trans (by exact ((hJ8.2.1 81 51 rfl).trans (by exact ((hJ3.2.1 81 51 rfl).trans (by exact h_uv)))))))), show μ25.1 81 37 = x16 from by exact ((hJ25.2.1 81 37 rfl).trans (by rw [← hμ24, ← hμ21]; exact hx16)), show μ25.1 81 36 = x15 from by exact ((hJ25.2.1 81 36 rfl).trans (by rw [← hμ24, ← hμ21]; exact hx15)), show μ25.1 81 38 = x17 from by exact ((hJ25.2.1 81 38 rfl).trans (by rw [← hμ24, ← hμ21]; exact hx17)), show μ25.1 111 8 = x26 from by exact hx26]; omega, hps⟩⟩⟩⟩) dX12_readAgain_101
          · refine lv_if_ne (tgt := 62) hx hb dX12_readAgain_53 (by decide) (fun c => False.elim (by revert c; decide)) (fun _ => ?_)
            refine lv_aload_n hx hb dX12_readAgain_56 rfl (lv_at hl 1 rfl) ?_
            refine lv_iconst (v := 1) hx hb dX12_readAgain_57 (by decide) ?_
            refine m_aI hW (m_runV (As := [.int 1]) (rest := []) hx hb hml hown hts hW (81) (g_X12_fails l D cy b (fun g => [36].contains g) μ8 rfl 1 μ8 (IY.rf hI.1)) mi_X12_fails k_X12_282 rfl rfl rfl hl.1 rfl (Nat.le_of_ble_eq_true rfl) dX12_readAgain_58 ⟨Nat.le_of_ble_eq_true rfl, Nat.le_of_ble_eq_true rfl⟩ ⟨Nat.le_of_ble_eq_true rfl, Nat.le_of_ble_eq_true rfl⟩) (fun x27 μ27 H locs q27 hW => ?_)
            obtain ⟨hJ27, q27⟩ := q27
            have hI := hI.tr hJ27 (m_subL (by simp [hS36]))
            have hps : m_PS μ27 := hps.fr hJ27 rfl rfl rfl
            have hgp : m_GP μ27 := hgp.fr hJ27 rfl rfl
            have q27 := q27.symm
            subst q27
            exact m_iret hx hb hr hlocks hW rfl (⟨hI, ⟨hgp, Or.inl rfl⟩⟩) dX12_readAgain_61
        · refine lv_if_ne (tgt := 43) hx hb dX12_readAgain_34 (by decide) (fun c => False.elim (by revert c; decide)) (fun _ => ?_)
          refine lv_aload_n hx hb dX12_readAgain_37 rfl (lv_at hl 1 rfl) ?_
          refine lv_iconst (v := 2) hx hb dX12_readAgain_38 (by decide) ?_
          have l_2 : (2 : Int32).toInt = 2 := by decide
          refine m_aI hW (m_runV (As := [.int 2]) (rest := []) hx hb hml hown hts hW (81) (g_X12_fails l D cy b (fun g => [36].contains g) μ3 rfl 2 μ3 (IY.rf hI.1)) mi_X12_fails k_X12_282 rfl rfl rfl hl.1 rfl (Nat.le_of_ble_eq_true rfl) dX12_readAgain_39 ⟨Nat.le_of_ble_eq_true rfl, Nat.le_of_ble_eq_true rfl⟩ ⟨Nat.le_of_ble_eq_true rfl, Nat.le_of_ble_eq_true rfl⟩) (fun x28 μ28 H locs q28 hW => ?_)
          obtain ⟨hJ28, q28⟩ := q28
          have hI := hI.tr hJ28 (m_subL (by simp [hS36]))
          have hps : m_PS μ28 := hps.fr hJ28 rfl rfl rfl
          have hgp : m_GP μ28 := hgp.fr hJ28 rfl rfl
          have q28 := q28.symm
          subst q28
          exact m_iret hx hb hr hlocks hW rfl (⟨hI, ⟨hgp, Or.inl rfl⟩⟩) dX12_readAgain_42
      · have i6 := m_c5 (rfl : x3.toInt = _) (by decide : ((-1) : Int32).toInt = (-1)) c6
        exfalso; omega
  · have i2 := m_c5 (rfl : x1.toInt = _) (by decide : (4 : Int32).toInt = 4) c2
    refine lv_aload_n hx hb dX12_readAgain_8 rfl (lv_at hl 0 rfl) ?_
    refine lv_iconst (v := 3) hx hb dX12_readAgain_9 (by decide) ?_
    have l_3 : (3 : Int32).toInt = 3 := by decide
    refine m_aI hW (m_runV (As := [.int 3]) (rest := []) hx hb hml hown hts hW (81) (g_X12_fails l D cy b (fun g => [36].contains g) μ rfl 3 μ (IY.rf hI.1)) mi_X12_fails k_X12_282 rfl rfl rfl hl.1 rfl (Nat.le_of_ble_eq_true rfl) dX12_readAgain_10 ⟨Nat.le_of_ble_eq_true rfl, Nat.le_of_ble_eq_true rfl⟩ ⟨Nat.le_of_ble_eq_true rfl, Nat.le_of_ble_eq_true rfl⟩) (fun x29 μ29 H locs q29 hW => ?_)
    obtain ⟨hJ29, q29⟩ := q29
    have hI := hI.tr hJ29 (m_subL (by simp [hS36]))
    have hps : m_PS μ29 := hps.fr hJ29 rfl rfl rfl
    have hgp : m_GP μ29 := hgp.fr hJ29 rfl rfl
    have q29 := q29.symm
    subst q29
    exact m_iret hx hb hr hlocks hW rfl (⟨hI, ⟨hgp, Or.inl rfl⟩⟩) dX12_readAgain_13
set_option maxHeartbeats 4000000 in
set_option maxRecDepth 100000 in
theorem g_X12_readPlain (l : Launch) (D : va_G) (cy : Nat → ClassId) (b : Nat) (S : Nat → Bool) (μ0 : mM) (hS24 : S 24 = true) (hS25 : S 25 = true) (hS33 : S 33 = true) (hS34 : S 34 = true) (hS35 : S 35 = true) (hS36 : S 36 = true) (hS41 : S 41 = true) (av fv tk uv ov vv : Int32) (h_g : 0 ≤ av.toInt ∧ av.toInt ≤ 400 ∧ 0 ≤ fv.toInt ∧ fv.toInt ≤ 400 ∧ 0 ≤ tk.toInt ∧ tk.toInt ≤ 4 ∧ 0 ≤ uv.toInt ∧ uv.toInt ≤ 400 ∧ 0 ≤ ov.toInt ∧ ov.toInt ≤ 400 ∧ -1 ≤ vv.toInt ∧ vv.toInt ≤ 99999 ∧ uv.toInt ≤ fv.toInt ∧ fv.toInt ≤ av.toInt ∧ (tk.toInt = 0 ∨ fv.toInt + 1 ≤ av.toInt) ∧ ov.toInt ≤ fv.toInt ∧ tk.toInt = 2 ∧ vv.toInt ≤ 5) (μ : mM) (hI : IY S μ0 μ) (h_av : μ.1 81 36 = av) (h_fv : μ.1 81 37 = fv) (h_tk : μ.1 81 38 = tk) (h_uv : μ.1 81 51 = uv) (h_ov : μ.1 111 8 = ov) (h_vv : μ.1 81 39 = vv) (hps : m_PS μ) (hgp : m_GP μ) : m_Ci l yX12_readPlain cX12_readPlain 4 ((some .int)) 4 D cy b LAY μ [.ref (b + 81)] (fun r ν => IY S μ0 ν ∧ (m_GP ν ∧ (r = -1 ∨ (r = 0 ∧ ((ν.1 81 51).toInt ≤ (ν.1 81 37).toInt ∧ fv.toInt + 1 ≤ (ν.1 81 37).toInt ∧ (ν.1 81 37).toInt ≤ (ν.1 81 36).toInt ∧ ((ν.1 81 38).toInt = 0 ∨ (ν.1 81 37).toInt + 1 ≤ (ν.1 81 36).toInt) ∧ (ν.1 111 8).toInt ≤ (ν.1 81 37).toInt) ∧ m_PS ν)))) := by
  unfold m_Ci
  refine m_of (by decide) (Nat.le_of_ble_eq_true rfl) ?_
  intro p e s m below meth c hx hb hr hml hown hts hlocks _ hW ls hl
  have hown : s.vm.findClass RX12 = some m.cls := hown
  have hl : lv_has ls 4 [(0, .ref (b + 81))] := hl
  refine lv_aload_n hx hb dX12_readPlain_0 rfl (lv_at hl 0 rfl) ?_
  refine m_geti hx hb hts hown hW (81) 39 rfl rfl cw_12 rfl (by decide) k_X12_257 dX12_readPlain_1 ?_
  refine lv_topi (fun x1 ex1 => ?_)
  have ex1 : x1 = vv := by rw [ex1]; exact h_vv
  have ex1 := ex1.symm
  subst ex1
  refine lv_istore_n (lv' := [(1, .int vv), (0, .ref (b + 81))]) hx hb dX12_readPlain_4 rfl hl (by decide) rfl (fun ls hl => ?_)
  refine lv_iload_n hx hb dX12_readPlain_5 rfl (lv_at hl 0 rfl) ?_
  refine lv_if_eq (tgt := 14) hx hb dX12_readPlain_6 (by decide) (fun c2 => ?_) (fun c2 => ?_)
  · have i2 := m_c5 (rfl : vv.toInt = _) (by decide : (0 : Int32).toInt = 0) c2
    refine lv_aload_n hx hb dX12_readPlain_14 rfl (lv_at hl 1 rfl) ?_
    refine lv_iload_n hx hb dX12_readPlain_15 rfl (lv_at hl 0 rfl) ?_
    refine lv_iconst (v := 0) hx hb dX12_readPlain_16 (by decide) ?_
    refine lv_iconst (v := 0) hx hb dX12_readPlain_17 (by decide) ?_
    have l_0 : (0 : Int32).toInt = 0 := by decide
    refine m_aV hW (m_runV (As := [.int vv, .int 0, .int 0]) (rest := []) hx hb hml hown hts hW (81) (g_X12_emits l D cy b (fun g => [25, 33, 41].contains g) μ rfl rfl rfl ov (by omega) vv 0 0 (by omega) μ (IY.rf hI.1) (by exact h_ov)) mi_X12_emits k_X12_301 rfl rfl rfl hl.1 rfl (Nat.le_of_ble_eq_true rfl) dX12_readPlain_18 ⟨Nat.le_of_ble_eq_true rfl, Nat.le_of_ble_eq_true rfl⟩ ⟨Nat.le_of_ble_eq_true rfl, Nat.le_of_ble_eq_true rfl⟩) (fun μ3 H locs q3 hW => ?_)
    obtain ⟨hJ3, q3⟩ := q3
    have hI := hI.tr hJ3 (m_subL (by simp [hS25, hS33, hS41]))
    obtain ⟨q3, q3l⟩ := q3
    obtain ⟨x4, hx4⟩ : ∃ z, μ3.1 111 8 = z := ⟨_, rfl⟩
    have tx4 : x4.toInt = ov.toInt + 1 := by rw [← hx4]; exact q3.2.2.2.2
    have hgp : m_GP μ3 := hgp.lo q3l
    have hps : m_PS μ3 := hps.plain (by exact h_ov) (by omega) q3 (funext fun j => hJ3.2.1 118 j rfl) (hJ3.2.1 81 53 rfl) (m_neI (by show vv.toInt ≠ (6 : Int); omega)) (m_neI (by show vv.toInt ≠ (7 : Int); omega)) (m_neI (by show vv.toInt ≠ (8 : Int); omega))
    refine lv_goto (tgt := 174) hx hb dX12_readPlain_21 (by decide) ?_
    refine lv_aload_n hx hb dX12_readPlain_174 rfl (lv_at hl 1 rfl) ?_
    refine m_aV hW (m_runV (As := []) (rest := []) hx hb hml hown hts hW (81) (g_X12_reads l D cy b (fun g => [24].contains g) μ3 rfl av (by omega) μ3 (IY.rf hI.1) (by exact ((hJ3.2.1 81 36 rfl).trans (by exact h_av)))) mi_X12_reads k_X12_279 rfl rfl rfl hl.1 rfl (Nat.le_of_ble_eq_true rfl) dX12_readPlain_175 ⟨Nat.le_of_ble_eq_true rfl, Nat.le_of_ble_eq_true rfl⟩ ⟨Nat.le_of_ble_eq_true rfl, Nat.le_of_ble_eq_true rfl⟩) (fun μ5 H locs q5 hW => ?_)
    obtain ⟨hJ5, q5⟩ := q5
    have hI := hI.tr hJ5 (m_subL (by simp [hS24]))
    have hps : m_PS μ5 := hps.fr hJ5 rfl rfl rfl
    have hgp : m_GP μ5 := hgp.fr hJ5 rfl rfl
    obtain ⟨x6, hx6⟩ : ∃ z, μ5.1 81 36 = z := ⟨_, rfl⟩
    have bx6 : 0 ≤ x6.toInt ∧ x6.toInt ≤ 400 := by rw [← hx6]; exact hI.1 _ _ _ _ rfl
    rw [show μ5.1 81 36 = x6 from by exact hx6] at q5
    obtain ⟨x7, hx7⟩ : ∃ z, μ5.1 81 37 = z := ⟨_, rfl⟩
    have bx7 : 0 ≤ x7.toInt ∧ x7.toInt ≤ 400 := by rw [← hx7]; exact hI.1 _ _ _ _ rfl
    rw [show μ5.1 81 37 = x7 from by exact hx7] at q5
    obtain ⟨x8, hx8⟩ : ∃ z, μ5.1 81 38 = z := ⟨_, rfl⟩
    have bx8 : 0 ≤ x8.toInt ∧ x8.toInt ≤ 4 := by rw [← hx8]; exact hI.1 _ _ _ _ rfl
    rw [show μ5.1 81 38 = x8 from by exact hx8] at q5
    obtain ⟨x9, hx9⟩ : ∃ z, μ5.1 81 39 = z := ⟨_, rfl⟩
    have bx9 : -1 ≤ x9.toInt ∧ x9.toInt ≤ 99999 := by rw [← hx9]; exact hI.1 _ _ _ _ rfl
    rw [show μ5.1 81 39 = x9 from by exact hx9] at q5
    refine lv_iconst (v := 0) hx hb dX12_readPlain_178 (by decide) ?_
    exact m_iret hx hb hr hlocks hW rfl (⟨hI, ⟨hgp, Or.inr ⟨rfl, ⟨by rw [show μ5.1 81 51 = uv from by exact ((hJ5.2.1 81 51 rfl).trans (by exact ((hJ3.2.1 81 51 rfl).trans (by exact h_uv)))), show μ5.1 81 37 = x7 from by exact hx7, show μ5.1 81 36 = x6 from by exact hx6, show μ5.1 81 38 = x8 from by exact hx8, show μ5.1 111 8 = x4 from by exact ((hJ5.2.1 111 8 rfl).trans (by exact hx4))]; omega, hps⟩⟩⟩⟩) dX12_readPlain_179
  · have i2 := m_c6 (rfl : vv.toInt = _) (by decide : (0 : Int32).toInt = 0) c2
    refine lv_iload_n hx hb dX12_readPlain_9 rfl (lv_at hl 0 rfl) ?_
    refine lv_iconst (v := 1) hx hb dX12_readPlain_10 (by decide) ?_
    refine lv_icmp_ne (tgt := 24) hx hb dX12_readPlain_11 (by decide) (fun c10 => ?_) (fun c10 => ?_)
    · have i10 := m_c6 (rfl : vv.toInt = _) (by decide : (1 : Int32).toInt = 1) c10
      refine lv_iload_n hx hb dX12_readPlain_24 rfl (lv_at hl 0 rfl) ?_
      refine lv_iconst (v := 2) hx hb dX12_readPlain_25 (by decide) ?_
      refine lv_icmp_ne (tgt := 65) hx hb dX12_readPlain_26 (by decide) (fun c11 => ?_) (fun c11 => ?_)
      · have i11 := m_c6 (rfl : vv.toInt = _) (by decide : (2 : Int32).toInt = 2) c11
        refine lv_iload_n hx hb dX12_readPlain_65 rfl (lv_at hl 0 rfl) ?_
        refine lv_iconst (v := 3) hx hb dX12_readPlain_66 (by decide) ?_
        refine lv_icmp_ne (tgt := 133) hx hb dX12_readPlain_67 (by decide) (fun c12 => ?_) (fun c12 => ?_)
        · have i12 := m_c6 (rfl : vv.toInt = _) (by decide : (3 : Int32).toInt = 3) c12
          refine lv_aload_n hx hb dX12_readPlain_133 rfl (lv_at hl 1 rfl) ?_
          refine m_aI hW (m_runV (As := []) (rest := []) hx hb hml hown hts hW (81) (g_X12_readNumber l D cy b (fun g => [24, 36].contains g) μ rfl rfl av (by omega) μ (IY.rf hI.1) (by exact h_av)) mi_X12_readNumber k_X12_304 rfl rfl rfl hl.1 rfl (Nat.le_of_ble_eq_true rfl) dX12_readPlain_134 ⟨Nat.le_of_ble_eq_true rfl, Nat.le_of_ble_eq_true rfl⟩ ⟨Nat.le_of_ble_eq_true rfl, Nat.le_of_ble_eq_true rfl⟩) (fun x13 μ13 H locs q13 hW => ?_)
          obtain ⟨hJ13, q13⟩ := q13
          have hI := hI.tr hJ13 (m_subL (by simp [hS24, hS36]))
          have hps : m_PS μ13 := hps.fr hJ13 rfl rfl rfl
          have hgp : m_GP μ13 := hgp.fr hJ13 rfl rfl
          rcases q13 with rfl | q13
          · refine lv_istore_n (lv' := [(2, .int (-1)), (1, .int vv), (0, .ref (b + 81))]) hx hb dX12_readPlain_137 rfl hl (by decide) rfl (fun ls hl => ?_)
            refine lv_iload_n hx hb dX12_readPlain_138 rfl (lv_at hl 0 rfl) ?_
            refine lv_iconst (v := (-1)) hx hb dX12_readPlain_139 (by decide) ?_
            refine lv_icmp_ne (tgt := 145) hx hb dX12_readPlain_140 (by decide) (fun c => False.elim (by revert c; decide)) (fun _ => ?_)
            refine lv_iconst (v := (-1)) hx hb dX12_readPlain_143 (by decide) ?_
            exact m_iret hx hb hr hlocks hW rfl (⟨hI, ⟨hgp, Or.inl rfl⟩⟩) dX12_readPlain_144
          · obtain ⟨x14, hx14⟩ : ∃ z, μ13.1 81 37 = z := ⟨_, rfl⟩
            have bx14 : 0 ≤ x14.toInt ∧ x14.toInt ≤ 400 := by rw [← hx14]; exact hI.1 _ _ _ _ rfl
            rw [show μ13.1 81 37 = x14 from by exact hx14] at q13
            obtain ⟨x15, hx15⟩ : ∃ z, μ13.1 81 36 = z := ⟨_, rfl⟩
            have bx15 : 0 ≤ x15.toInt ∧ x15.toInt ≤ 400 := by rw [← hx15]; exact hI.1 _ _ _ _ rfl
            rw [show μ13.1 81 36 = x15 from by exact hx15] at q13
            refine lv_istore_n (lv' := [(2, .int x13), (1, .int vv), (0, .ref (b + 81))]) hx hb dX12_readPlain_137 rfl hl (by decide) rfl (fun ls hl => ?_)
            refine lv_iload_n hx hb dX12_readPlain_138 rfl (lv_at hl 0 rfl) ?_
            refine lv_iconst (v := (-1)) hx hb dX12_readPlain_139 (by decide) ?_
            refine lv_icmp_ne (tgt := 145) hx hb dX12_readPlain_140 (by decide) (fun c16 => ?_) (fun c16 => ?_)
            · have i16 := m_c6 (rfl : x13.toInt = _) (by decide : ((-1) : Int32).toInt = (-1)) c16
              refine lv_iload_n hx hb dX12_readPlain_145 rfl (lv_at hl 1 rfl) ?_
              refine lv_iconst (v := 5) hx hb dX12_readPlain_146 (by decide) ?_
              refine lv_icmp_ne (tgt := 167) hx hb dX12_readPlain_147 (by decide) (fun c17 => ?_) (fun c17 => ?_)
              · have i17 := m_c6 (rfl : vv.toInt = _) (by decide : (5 : Int32).toInt = 5) c17
                refine lv_aload_n hx hb dX12_readPlain_167 rfl (lv_at hl 2 rfl) ?_
                refine lv_iload_n hx hb dX12_readPlain_168 rfl (lv_at hl 1 rfl) ?_
                refine lv_iload_n hx hb dX12_readPlain_169 rfl (lv_at hl 0 rfl) ?_
                refine lv_iconst (v := 0) hx hb dX12_readPlain_170 (by decide) ?_
                have l_0 : (0 : Int32).toInt = 0 := by decide
                refine m_aV hW (m_runV (As := [.int vv, .int x13, .int 0]) (rest := []) hx hb hml hown hts hW (81) (g_X12_emits l D cy b (fun g => [25, 33, 41].contains g) μ13 rfl rfl rfl ov (by omega) vv x13 0 (by omega) μ13 (IY.rf hI.1) (by exact ((hJ13.2.1 111 8 rfl).trans (by exact h_ov)))) mi_X12_emits k_X12_301 rfl rfl rfl hl.1 rfl (Nat.le_of_ble_eq_true rfl) dX12_readPlain_171 ⟨Nat.le_of_ble_eq_true rfl, Nat.le_of_ble_eq_true rfl⟩ ⟨Nat.le_of_ble_eq_true rfl, Nat.le_of_ble_eq_true rfl⟩) (fun μ18 H locs q18 hW => ?_)
                obtain ⟨hJ18, q18⟩ := q18
                have hI := hI.tr hJ18 (m_subL (by simp [hS25, hS33, hS41]))
                obtain ⟨q18, q18l⟩ := q18
                obtain ⟨x19, hx19⟩ : ∃ z, μ18.1 111 8 = z := ⟨_, rfl⟩
                have tx19 : x19.toInt = ov.toInt + 1 := by rw [← hx19]; exact q18.2.2.2.2
                have hgp : m_GP μ18 := hgp.lo q18l
                have hps : m_PS μ18 := hps.plain (by exact ((hJ13.2.1 111 8 rfl).trans (by exact h_ov))) (by omega) q18 (funext fun j => hJ18.2.1 118 j rfl) (hJ18.2.1 81 53 rfl) (m_neI (by show vv.toInt ≠ (6 : Int); omega)) (m_neI (by show vv.toInt ≠ (7 : Int); omega)) (m_neI (by show vv.toInt ≠ (8 : Int); omega))
                refine lv_aload_n hx hb dX12_readPlain_174 rfl (lv_at hl 2 rfl) ?_
                refine m_aV hW (m_runV (As := []) (rest := []) hx hb hml hown hts hW (81) (g_X12_reads l D cy b (fun g => [24].contains g) μ18 rfl x15 (by omega) μ18 (IY.rf hI.1) (by exact ((hJ18.2.1 81 36 rfl).trans (by exact hx15)))) mi_X12_reads k_X12_279 rfl rfl rfl hl.1 rfl (Nat.le_of_ble_eq_true rfl) dX12_readPlain_175 ⟨Nat.le_of_ble_eq_true rfl, Nat.le_of_ble_eq_true rfl⟩ ⟨Nat.le_of_ble_eq_true rfl, Nat.le_of_ble_eq_true rfl⟩) (fun μ20 H locs q20 hW => ?_)
                obtain ⟨hJ20, q20⟩ := q20
                have hI := hI.tr hJ20 (m_subL (by simp [hS24]))
                have hps : m_PS μ20 := hps.fr hJ20 rfl rfl rfl
                have hgp : m_GP μ20 := hgp.fr hJ20 rfl rfl
                obtain ⟨x21, hx21⟩ : ∃ z, μ20.1 81 36 = z := ⟨_, rfl⟩
                have bx21 : 0 ≤ x21.toInt ∧ x21.toInt ≤ 400 := by rw [← hx21]; exact hI.1 _ _ _ _ rfl
                rw [show μ20.1 81 36 = x21 from by exact hx21] at q20
                obtain ⟨x22, hx22⟩ : ∃ z, μ20.1 81 37 = z := ⟨_, rfl⟩
                have bx22 : 0 ≤ x22.toInt ∧ x22.toInt ≤ 400 := by rw [← hx22]; exact hI.1 _ _ _ _ rfl
                rw [show μ20.1 81 37 = x22 from by exact hx22] at q20
                obtain ⟨x23, hx23⟩ : ∃ z, μ20.1 81 38 = z := ⟨_, rfl⟩
                have bx23 : 0 ≤ x23.toInt ∧ x23.toInt ≤ 4 := by rw [← hx23]; exact hI.1 _ _ _ _ rfl
                rw [show μ20.1 81 38 = x23 from by exact hx23] at q20
                obtain ⟨x24, hx24⟩ : ∃ z, μ20.1 81 39 = z := ⟨_, rfl⟩
                have bx24 : -1 ≤ x24.toInt ∧ x24.toInt ≤ 99999 := by rw [← hx24]; exact hI.1 _ _ _ _ rfl
                rw [show μ20.1 81 39 = x24 from by exact hx24] at q20
                refine lv_iconst (v := 0) hx hb dX12_readPlain_178 (by decide) ?_
                exact m_iret hx hb hr hlocks hW rfl (⟨hI, ⟨hgp, Or.inr ⟨rfl, ⟨by rw [show μ20.1 81 51 = uv from by exact ((hJ20.2.1 81 51 rfl).trans (by exact ((hJ18.2.1 81 51 rfl).trans (by exact ((hJ13.2.1 81 51 rfl).trans (by exact h_uv)))))), show μ20.1 81 37 = x22 from by exact hx22, show μ20.1 81 36 = x21 from by exact hx21, show μ20.1 81 38 = x23 from by exact hx23, show μ20.1 111 8 = x19 from by exact ((hJ20.2.1 111 8 rfl).trans (by exact hx19))]; omega, hps⟩⟩⟩⟩) dX12_readPlain_179
              · have i17 := m_c5 (rfl : vv.toInt = _) (by decide : (5 : Int32).toInt = 5) c17
                refine lv_aload_n hx hb dX12_readPlain_150 rfl (lv_at hl 2 rfl) ?_
                refine lv_iload_n hx hb dX12_readPlain_151 rfl (lv_at hl 0 rfl) ?_
                refine lv_iconst (v := 1) hx hb dX12_readPlain_152 (by decide) ?_
                refine lv_bipush (v := 20) hx hb dX12_readPlain_153 (by decide) ?_
                have l_1 : (1 : Int32).toInt = 1 := by decide
                have l_20 : (20 : Int32).toInt = 20 := by decide
                refine m_aI hW (m_runV (As := [.int x13, .int 1, .int 20]) (rest := []) hx hb hml hown hts hW (81) (g_X12_isIn l D cy b x13 1 20 μ13 hI.1) mi_X12_isIn k_X12_170 rfl rfl rfl hl.1 rfl (Nat.le_of_ble_eq_true rfl) dX12_readPlain_155 ⟨Nat.le_of_ble_eq_true rfl, Nat.le_of_ble_eq_true rfl⟩ ⟨Nat.le_of_ble_eq_true rfl, Nat.le_of_ble_eq_true rfl⟩) (fun x25 μ25 H locs q25 hW => ?_)
                obtain ⟨q25_m, q25⟩ := q25
                subst q25_m
                rcases q25 with ⟨rfl, q25⟩ | ⟨rfl, q25⟩
                · refine lv_if_ne (tgt := 167) hx hb dX12_readPlain_158 (by decide) (fun _ => ?_) (fun c => False.elim (by revert c; decide))
                  refine lv_aload_n hx hb dX12_readPlain_167 rfl (lv_at hl 2 rfl) ?_
                  refine lv_iload_n hx hb dX12_readPlain_168 rfl (lv_at hl 1 rfl) ?_
                  refine lv_iload_n hx hb dX12_readPlain_169 rfl (lv_at hl 0 rfl) ?_
                  refine lv_iconst (v := 0) hx hb dX12_readPlain_170 (by decide) ?_
                  have l_0 : (0 : Int32).toInt = 0 := by decide
                  refine m_aV hW (m_runV (As := [.int vv, .int x13, .int 0]) (rest := []) hx hb hml hown hts hW (81) (g_X12_emits l D cy b (fun g => [25, 33, 41].contains g) μ13 rfl rfl rfl ov (by omega) vv x13 0 (by omega) μ13 (IY.rf hI.1) (by exact ((hJ13.2.1 111 8 rfl).trans (by exact h_ov)))) mi_X12_emits k_X12_301 rfl rfl rfl hl.1 rfl (Nat.le_of_ble_eq_true rfl) dX12_readPlain_171 ⟨Nat.le_of_ble_eq_true rfl, Nat.le_of_ble_eq_true rfl⟩ ⟨Nat.le_of_ble_eq_true rfl, Nat.le_of_ble_eq_true rfl⟩) (fun μ26 H locs q26 hW => ?_)
                  obtain ⟨hJ26, q26⟩ := q26
                  have hI := hI.tr hJ26 (m_subL (by simp [hS25, hS33, hS41]))
                  obtain ⟨q26, q26l⟩ := q26
                  obtain ⟨x27, hx27⟩ : ∃ z, μ26.1 111 8 = z := ⟨_, rfl⟩
                  have tx27 : x27.toInt = ov.toInt + 1 := by rw [← hx27]; exact q26.2.2.2.2
                  have hgp : m_GP μ26 := hgp.lo q26l
                  have hps : m_PS μ26 := hps.plain (by exact ((hJ13.2.1 111 8 rfl).trans (by exact h_ov))) (by omega) q26 (funext fun j => hJ26.2.1 118 j rfl) (hJ26.2.1 81 53 rfl) (m_neI (by show vv.toInt ≠ (6 : Int); omega)) (m_neI (by show vv.toInt ≠ (7 : Int); omega)) (m_neI (by show vv.toInt ≠ (8 : Int); omega))
                  refine lv_aload_n hx hb dX12_readPlain_174 rfl (lv_at hl 2 rfl) ?_
                  refine m_aV hW (m_runV (As := []) (rest := []) hx hb hml hown hts hW (81) (g_X12_reads l D cy b (fun g => [24].contains g) μ26 rfl x15 (by omega) μ26 (IY.rf hI.1) (by exact ((hJ26.2.1 81 36 rfl).trans (by exact hx15)))) mi_X12_reads k_X12_279 rfl rfl rfl hl.1 rfl (Nat.le_of_ble_eq_true rfl) dX12_readPlain_175 ⟨Nat.le_of_ble_eq_true rfl, Nat.le_of_ble_eq_true rfl⟩ ⟨Nat.le_of_ble_eq_true rfl, Nat.le_of_ble_eq_true rfl⟩) (fun μ28 H locs q28 hW => ?_)
                  obtain ⟨hJ28, q28⟩ := q28
                  have hI := hI.tr hJ28 (m_subL (by simp [hS24]))
                  have hps : m_PS μ28 := hps.fr hJ28 rfl rfl rfl
                  have hgp : m_GP μ28 := hgp.fr hJ28 rfl rfl
                  obtain ⟨x29, hx29⟩ : ∃ z, μ28.1 81 36 = z := ⟨_, rfl⟩
                  have bx29 : 0 ≤ x29.toInt ∧ x29.toInt ≤ 400 := by rw [← hx29]; exact hI.1 _ _ _ _ rfl
                  rw [show μ28.1 81 36 = x29 from by exact hx29] at q28
                  obtain ⟨x30, hx30⟩ : ∃ z, μ28.1 81 37 = z := ⟨_, rfl⟩
                  have bx30 : 0 ≤ x30.toInt ∧ x30.toInt ≤ 400 := by rw [← hx30]; exact hI.1 _ _ _ _ rfl
                  rw [show μ28.1 81 37 = x30 from by exact hx30] at q28
                  obtain ⟨x31, hx31⟩ : ∃ z, μ28.1 81 38 = z := ⟨_, rfl⟩
                  have bx31 : 0 ≤ x31.toInt ∧ x31.toInt ≤ 4 := by rw [← hx31]; exact hI.1 _ _ _ _ rfl
                  rw [show μ28.1 81 38 = x31 from by exact hx31] at q28
                  obtain ⟨x32, hx32⟩ : ∃ z, μ28.1 81 39 = z := ⟨_, rfl⟩
                  have bx32 : -1 ≤ x32.toInt ∧ x32.toInt ≤ 99999 := by rw [← hx32]; exact hI.1 _ _ _ _ rfl
                  rw [show μ28.1 81 39 = x32 from by exact hx32] at q28
                  refine lv_iconst (v := 0) hx hb dX12_readPlain_178 (by decide) ?_
                  exact m_iret hx hb hr hlocks hW rfl (⟨hI, ⟨hgp, Or.inr ⟨rfl, ⟨by rw [show μ28.1 81 51 = uv from by exact ((hJ28.2.1 81 51 rfl).trans (by exact ((hJ26.2.1 81 51 rfl).trans (by exact ((hJ13.2.1 81 51 rfl).trans (by exact h_uv)))))), show μ28.1 81 37 = x30 from by exact hx30, show μ28.1 81 36 = x29 from by exact hx29, show μ28.1 81 38 = x31 from by exact hx31, show μ28.1 111 8 = x27 from by exact ((hJ28.2.1 111 8 rfl).trans (by exact hx27))]; omega, hps⟩⟩⟩⟩) dX12_readPlain_179
                · refine lv_if_ne (tgt := 167) hx hb dX12_readPlain_158 (by decide) (fun c => False.elim (by revert c; decide)) (fun _ => ?_)
                  refine lv_aload_n hx hb dX12_readPlain_161 rfl (lv_at hl 2 rfl) ?_
                  refine lv_iconst (v := 2) hx hb dX12_readPlain_162 (by decide) ?_
                  have l_2 : (2 : Int32).toInt = 2 := by decide
                  refine m_aI hW (m_runV (As := [.int 2]) (rest := []) hx hb hml hown hts hW (81) (g_X12_fails l D cy b (fun g => [36].contains g) μ13 rfl 2 μ13 (IY.rf hI.1)) mi_X12_fails k_X12_282 rfl rfl rfl hl.1 rfl (Nat.le_of_ble_eq_true rfl) dX12_readPlain_163 ⟨Nat.le_of_ble_eq_true rfl, Nat.le_of_ble_eq_true rfl⟩ ⟨Nat.le_of_ble_eq_true rfl, Nat.le_of_ble_eq_true rfl⟩) (fun x33 μ33 H locs q33 hW => ?_)
                  obtain ⟨hJ33, q33⟩ := q33
                  have hI := hI.tr hJ33 (m_subL (by simp [hS36]))
                  have hps : m_PS μ33 := hps.fr hJ33 rfl rfl rfl
                  have hgp : m_GP μ33 := hgp.fr hJ33 rfl rfl
                  have q33 := q33.symm
                  subst q33
                  exact m_iret hx hb hr hlocks hW rfl (⟨hI, ⟨hgp, Or.inl rfl⟩⟩) dX12_readPlain_166
            · have i16 := m_c5 (rfl : x13.toInt = _) (by decide : ((-1) : Int32).toInt = (-1)) c16
              exfalso; omega
        · have i12 := m_c5 (rfl : vv.toInt = _) (by decide : (3 : Int32).toInt = 3) c12
          refine lv_aload_n hx hb dX12_readPlain_70 rfl (lv_at hl 1 rfl) ?_
          refine m_aV hW (m_runV (As := []) (rest := []) hx hb hml hown hts hW (81) (g_X12_reads l D cy b (fun g => [24].contains g) μ rfl av (by omega) μ (IY.rf hI.1) (by exact h_av)) mi_X12_reads k_X12_279 rfl rfl rfl hl.1 rfl (Nat.le_of_ble_eq_true rfl) dX12_readPlain_71 ⟨Nat.le_of_ble_eq_true rfl, Nat.le_of_ble_eq_true rfl⟩ ⟨Nat.le_of_ble_eq_true rfl, Nat.le_of_ble_eq_true rfl⟩) (fun μ34 H locs q34 hW => ?_)
          obtain ⟨hJ34, q34⟩ := q34
          have hI := hI.tr hJ34 (m_subL (by simp [hS24]))
          have hps : m_PS μ34 := hps.fr hJ34 rfl rfl rfl
          have hgp : m_GP μ34 := hgp.fr hJ34 rfl rfl
          obtain ⟨x35, hx35⟩ : ∃ z, μ34.1 81 36 = z := ⟨_, rfl⟩
          have bx35 : 0 ≤ x35.toInt ∧ x35.toInt ≤ 400 := by rw [← hx35]; exact hI.1 _ _ _ _ rfl
          rw [show μ34.1 81 36 = x35 from by exact hx35] at q34
          obtain ⟨x36, hx36⟩ : ∃ z, μ34.1 81 37 = z := ⟨_, rfl⟩
          have bx36 : 0 ≤ x36.toInt ∧ x36.toInt ≤ 400 := by rw [← hx36]; exact hI.1 _ _ _ _ rfl
          rw [show μ34.1 81 37 = x36 from by exact hx36] at q34
          obtain ⟨x37, hx37⟩ : ∃ z, μ34.1 81 38 = z := ⟨_, rfl⟩
          have bx37 : 0 ≤ x37.toInt ∧ x37.toInt ≤ 4 := by rw [← hx37]; exact hI.1 _ _ _ _ rfl
          rw [show μ34.1 81 38 = x37 from by exact hx37] at q34
          obtain ⟨x38, hx38⟩ : ∃ z, μ34.1 81 39 = z := ⟨_, rfl⟩
          have bx38 : -1 ≤ x38.toInt ∧ x38.toInt ≤ 99999 := by rw [← hx38]; exact hI.1 _ _ _ _ rfl
          rw [show μ34.1 81 39 = x38 from by exact hx38] at q34
          refine lv_aload_n hx hb dX12_readPlain_74 rfl (lv_at hl 1 rfl) ?_
          refine m_geti hx hb hts hown hW (81) 38 rfl rfl cw_12 rfl (by decide) k_X12_254 dX12_readPlain_75 ?_
          refine lv_topi (fun x39 ex39 => ?_)
          have ex39 : x39 = x37 := by rw [ex39]; exact hx37
          have ex39 := ex39.symm
          subst ex39
          refine lv_iconst (v := 2) hx hb dX12_readPlain_78 (by decide) ?_
          refine lv_icmp_ne (tgt := 97) hx hb dX12_readPlain_79 (by decide) (fun c40 => ?_) (fun c40 => ?_)
          · have i40 := m_c6 (rfl : x37.toInt = _) (by decide : (2 : Int32).toInt = 2) c40
            refine lv_aload_n hx hb dX12_readPlain_97 rfl (lv_at hl 1 rfl) ?_
            refine lv_iconst (v := 1) hx hb dX12_readPlain_98 (by decide) ?_
            have l_1 : (1 : Int32).toInt = 1 := by decide
            refine m_aI hW (m_runV (As := [.int 1]) (rest := []) hx hb hml hown hts hW (81) (g_X12_fails l D cy b (fun g => [36].contains g) μ34 rfl 1 μ34 (IY.rf hI.1)) mi_X12_fails k_X12_282 rfl rfl rfl hl.1 rfl (Nat.le_of_ble_eq_true rfl) dX12_readPlain_99 ⟨Nat.le_of_ble_eq_true rfl, Nat.le_of_ble_eq_true rfl⟩ ⟨Nat.le_of_ble_eq_true rfl, Nat.le_of_ble_eq_true rfl⟩) (fun x41 μ41 H locs q41 hW => ?_)
            obtain ⟨hJ41, q41⟩ := q41
            have hI := hI.tr hJ41 (m_subL (by simp [hS36]))
            have hps : m_PS μ41 := hps.fr hJ41 rfl rfl rfl
            have hgp : m_GP μ41 := hgp.fr hJ41 rfl rfl
            have q41 := q41.symm
            subst q41
            exact m_iret hx hb hr hlocks hW rfl (⟨hI, ⟨hgp, Or.inl rfl⟩⟩) dX12_readPlain_102
          · have i40 := m_c5 (rfl : x37.toInt = _) (by decide : (2 : Int32).toInt = 2) c40
            refine lv_aload_n hx hb dX12_readPlain_82 rfl (lv_at hl 1 rfl) ?_
            refine lv_aload_n hx hb dX12_readPlain_83 rfl (lv_at hl 1 rfl) ?_
            refine m_geti hx hb hts hown hW (81) 39 rfl rfl cw_12 rfl (by decide) k_X12_257 dX12_readPlain_84 ?_
            refine lv_topi (fun x42 ex42 => ?_)
            have ex42 : x42 = x38 := by rw [ex42]; exact hx38
            have ex42 := ex42.symm
            subst ex42
            refine lv_bipush (v := 10) hx hb dX12_readPlain_87 (by decide) ?_
            refine lv_bipush (v := 13) hx hb dX12_readPlain_89 (by decide) ?_
            have l_10 : (10 : Int32).toInt = 10 := by decide
            have l_13 : (13 : Int32).toInt = 13 := by decide
            refine m_aI hW (m_runV (As := [.int x38, .int 10, .int 13]) (rest := []) hx hb hml hown hts hW (81) (g_X12_isIn l D cy b x38 10 13 μ34 hI.1) mi_X12_isIn k_X12_170 rfl rfl rfl hl.1 rfl (Nat.le_of_ble_eq_true rfl) dX12_readPlain_91 ⟨Nat.le_of_ble_eq_true rfl, Nat.le_of_ble_eq_true rfl⟩ ⟨Nat.le_of_ble_eq_true rfl, Nat.le_of_ble_eq_true rfl⟩) (fun x43 μ43 H locs q43 hW => ?_)
            obtain ⟨q43_m, q43⟩ := q43
            subst q43_m
            rcases q43 with ⟨rfl, q43⟩ | ⟨rfl, q43⟩
            · refine lv_if_ne (tgt := 103) hx hb dX12_readPlain_94 (by decide) (fun _ => ?_) (fun c => False.elim (by revert c; decide))
              refine lv_aload_n hx hb dX12_readPlain_103 rfl (lv_at hl 1 rfl) ?_
              refine m_geti hx hb hts hown hW (81) 39 rfl rfl cw_12 rfl (by decide) k_X12_257 dX12_readPlain_104 ?_
              refine lv_topi (fun x44 ex44 => ?_)
              have ex44 : x44 = x38 := by rw [ex44]; exact hx38
              have ex44 := ex44.symm
              subst ex44
              refine lv_bipush (v := 10) hx hb dX12_readPlain_107 (by decide) ?_
              refine lv_isub hx hb dX12_readPlain_109 ?_
              refine lv_topi (fun x45 ex45 => ?_)
              have tx45 : x45.toInt = x38.toInt - 10 := m_subI ex45 (rfl : x38.toInt = _) (by decide : (10 : Int32).toInt = 10) (by omega) (by omega)
              refine lv_istore_n (lv' := [(2, .int x45), (1, .int vv), (0, .ref (b + 81))]) hx hb dX12_readPlain_110 rfl hl (by decide) rfl (fun ls hl => ?_)
              refine lv_aload_n hx hb dX12_readPlain_111 rfl (lv_at hl 2 rfl) ?_
              refine m_aI hW (m_runV (As := []) (rest := []) hx hb hml hown hts hW (81) (g_X12_readNumber l D cy b (fun g => [24, 36].contains g) μ34 rfl rfl x35 (by omega) μ34 (IY.rf hI.1) (by exact hx35)) mi_X12_readNumber k_X12_304 rfl rfl rfl hl.1 rfl (Nat.le_of_ble_eq_true rfl) dX12_readPlain_112 ⟨Nat.le_of_ble_eq_true rfl, Nat.le_of_ble_eq_true rfl⟩ ⟨Nat.le_of_ble_eq_true rfl, Nat.le_of_ble_eq_true rfl⟩) (fun x46 μ46 H locs q46 hW => ?_)
              obtain ⟨hJ46, q46⟩ := q46
              have hI := hI.tr hJ46 (m_subL (by simp [hS24, hS36]))
              have hps : m_PS μ46 := hps.fr hJ46 rfl rfl rfl
              have hgp : m_GP μ46 := hgp.fr hJ46 rfl rfl
              rcases q46 with rfl | q46
              · refine lv_istore_n (lv' := [(3, .int (-1)), (2, .int x45), (1, .int vv), (0, .ref (b + 81))]) hx hb dX12_readPlain_115 rfl hl (by decide) rfl (fun ls hl => ?_)
                refine lv_iload_n hx hb dX12_readPlain_116 rfl (lv_at hl 0 rfl) ?_
                refine lv_iconst (v := (-1)) hx hb dX12_readPlain_117 (by decide) ?_
                refine lv_icmp_ne (tgt := 123) hx hb dX12_readPlain_118 (by decide) (fun c => False.elim (by revert c; decide)) (fun _ => ?_)
                refine lv_iconst (v := (-1)) hx hb dX12_readPlain_121 (by decide) ?_
                exact m_iret hx hb hr hlocks hW rfl (⟨hI, ⟨hgp, Or.inl rfl⟩⟩) dX12_readPlain_122
              · obtain ⟨x47, hx47⟩ : ∃ z, μ46.1 81 37 = z := ⟨_, rfl⟩
                have bx47 : 0 ≤ x47.toInt ∧ x47.toInt ≤ 400 := by rw [← hx47]; exact hI.1 _ _ _ _ rfl
                rw [show μ46.1 81 37 = x47 from by exact hx47] at q46
                obtain ⟨x48, hx48⟩ : ∃ z, μ46.1 81 36 = z := ⟨_, rfl⟩
                have bx48 : 0 ≤ x48.toInt ∧ x48.toInt ≤ 400 := by rw [← hx48]; exact hI.1 _ _ _ _ rfl
                rw [show μ46.1 81 36 = x48 from by exact hx48] at q46
                refine lv_istore_n (lv' := [(3, .int x46), (2, .int x45), (1, .int vv), (0, .ref (b + 81))]) hx hb dX12_readPlain_115 rfl hl (by decide) rfl (fun ls hl => ?_)
                refine lv_iload_n hx hb dX12_readPlain_116 rfl (lv_at hl 0 rfl) ?_
                refine lv_iconst (v := (-1)) hx hb dX12_readPlain_117 (by decide) ?_
                refine lv_icmp_ne (tgt := 123) hx hb dX12_readPlain_118 (by decide) (fun c49 => ?_) (fun c49 => ?_)
                · have i49 := m_c6 (rfl : x46.toInt = _) (by decide : ((-1) : Int32).toInt = (-1)) c49
                  refine lv_aload_n hx hb dX12_readPlain_123 rfl (lv_at hl 3 rfl) ?_
                  refine lv_iconst (v := 3) hx hb dX12_readPlain_124 (by decide) ?_
                  refine lv_iload_n hx hb dX12_readPlain_125 rfl (lv_at hl 1 rfl) ?_
                  refine lv_iload_n hx hb dX12_readPlain_126 rfl (lv_at hl 0 rfl) ?_
                  have l_3 : (3 : Int32).toInt = 3 := by decide
                  refine m_aV hW (m_runV (As := [.int 3, .int x45, .int x46]) (rest := []) hx hb hml hown hts hW (81) (g_X12_emits l D cy b (fun g => [25, 33, 41].contains g) μ46 rfl rfl rfl ov (by omega) 3 x45 x46 (by omega) μ46 (IY.rf hI.1) (by exact ((hJ46.2.1 111 8 rfl).trans (by exact ((hJ34.2.1 111 8 rfl).trans (by exact h_ov)))))) mi_X12_emits k_X12_301 rfl rfl rfl hl.1 rfl (Nat.le_of_ble_eq_true rfl) dX12_readPlain_127 ⟨Nat.le_of_ble_eq_true rfl, Nat.le_of_ble_eq_true rfl⟩ ⟨Nat.le_of_ble_eq_true rfl, Nat.le_of_ble_eq_true rfl⟩) (fun μ50 H locs q50 hW => ?_)
                  obtain ⟨hJ50, q50⟩ := q50
                  have hI := hI.tr hJ50 (m_subL (by simp [hS25, hS33, hS41]))
                  obtain ⟨q50, q50l⟩ := q50
                  obtain ⟨x51, hx51⟩ : ∃ z, μ50.1 111 8 = z := ⟨_, rfl⟩
                  have tx51 : x51.toInt = ov.toInt + 1 := by rw [← hx51]; exact q50.2.2.2.2
                  have hgp : m_GP μ50 := hgp.lo q50l
                  have hps : m_PS μ50 := hps.plain (by exact ((hJ46.2.1 111 8 rfl).trans (by exact ((hJ34.2.1 111 8 rfl).trans (by exact h_ov))))) (by omega) q50 (funext fun j => hJ50.2.1 118 j rfl) (hJ50.2.1 81 53 rfl) (by decide) (by decide) (by decide)
                  refine lv_goto (tgt := 174) hx hb dX12_readPlain_130 (by decide) ?_
                  refine lv_aload_n hx hb dX12_readPlain_174 rfl (lv_at hl 3 rfl) ?_
                  refine m_aV hW (m_runV (As := []) (rest := []) hx hb hml hown hts hW (81) (g_X12_reads l D cy b (fun g => [24].contains g) μ50 rfl x48 (by omega) μ50 (IY.rf hI.1) (by exact ((hJ50.2.1 81 36 rfl).trans (by exact hx48)))) mi_X12_reads k_X12_279 rfl rfl rfl hl.1 rfl (Nat.le_of_ble_eq_true rfl) dX12_readPlain_175 ⟨Nat.le_of_ble_eq_true rfl, Nat.le_of_ble_eq_true rfl⟩ ⟨Nat.le_of_ble_eq_true rfl, Nat.le_of_ble_eq_true rfl⟩) (fun μ52 H locs q52 hW => ?_)
                  obtain ⟨hJ52, q52⟩ := q52
                  have hI := hI.tr hJ52 (m_subL (by simp [hS24]))
                  have hps : m_PS μ52 := hps.fr hJ52 rfl rfl rfl
                  have hgp : m_GP μ52 := hgp.fr hJ52 rfl rfl
                  obtain ⟨x53, hx53⟩ : ∃ z, μ52.1 81 36 = z := ⟨_, rfl⟩
                  have bx53 : 0 ≤ x53.toInt ∧ x53.toInt ≤ 400 := by rw [← hx53]; exact hI.1 _ _ _ _ rfl
                  rw [show μ52.1 81 36 = x53 from by exact hx53] at q52
                  obtain ⟨x54, hx54⟩ : ∃ z, μ52.1 81 37 = z := ⟨_, rfl⟩
                  have bx54 : 0 ≤ x54.toInt ∧ x54.toInt ≤ 400 := by rw [← hx54]; exact hI.1 _ _ _ _ rfl
                  rw [show μ52.1 81 37 = x54 from by exact hx54] at q52
                  obtain ⟨x55, hx55⟩ : ∃ z, μ52.1 81 38 = z := ⟨_, rfl⟩
                  have bx55 : 0 ≤ x55.toInt ∧ x55.toInt ≤ 4 := by rw [← hx55]; exact hI.1 _ _ _ _ rfl
                  rw [show μ52.1 81 38 = x55 from by exact hx55] at q52
                  obtain ⟨x56, hx56⟩ : ∃ z, μ52.1 81 39 = z := ⟨_, rfl⟩
                  have bx56 : -1 ≤ x56.toInt ∧ x56.toInt ≤ 99999 := by rw [← hx56]; exact hI.1 _ _ _ _ rfl
                  rw [show μ52.1 81 39 = x56 from by exact hx56] at q52
                  refine lv_iconst (v := 0) hx hb dX12_readPlain_178 (by decide) ?_
                  exact m_iret hx hb hr hlocks hW rfl (⟨hI, ⟨hgp, Or.inr ⟨rfl, ⟨by rw [show μ52.1 81 51 = uv from by exact ((hJ52.2.1 81 51 rfl).trans (by exact ((hJ50.2.1 81 51 rfl).trans (by exact ((hJ46.2.1 81 51 rfl).trans (by exact ((hJ34.2.1 81 51 rfl).trans (by exact h_uv)))))))), show μ52.1 81 37 = x54 from by exact hx54, show μ52.1 81 36 = x53 from by exact hx53, show μ52.1 81 38 = x55 from by exact hx55, show μ52.1 111 8 = x51 from by exact ((hJ52.2.1 111 8 rfl).trans (by exact hx51))]; omega, hps⟩⟩⟩⟩) dX12_readPlain_179
                · have i49 := m_c5 (rfl : x46.toInt = _) (by decide : ((-1) : Int32).toInt = (-1)) c49
                  exfalso; omega
            · refine lv_if_ne (tgt := 103) hx hb dX12_readPlain_94 (by decide) (fun c => False.elim (by revert c; decide)) (fun _ => ?_)
              refine lv_aload_n hx hb dX12_readPlain_97 rfl (lv_at hl 1 rfl) ?_
              refine lv_iconst (v := 1) hx hb dX12_readPlain_98 (by decide) ?_
              have l_1 : (1 : Int32).toInt = 1 := by decide
              refine m_aI hW (m_runV (As := [.int 1]) (rest := []) hx hb hml hown hts hW (81) (g_X12_fails l D cy b (fun g => [36].contains g) μ34 rfl 1 μ34 (IY.rf hI.1)) mi_X12_fails k_X12_282 rfl rfl rfl hl.1 rfl (Nat.le_of_ble_eq_true rfl) dX12_readPlain_99 ⟨Nat.le_of_ble_eq_true rfl, Nat.le_of_ble_eq_true rfl⟩ ⟨Nat.le_of_ble_eq_true rfl, Nat.le_of_ble_eq_true rfl⟩) (fun x57 μ57 H locs q57 hW => ?_)
              obtain ⟨hJ57, q57⟩ := q57
              have hI := hI.tr hJ57 (m_subL (by simp [hS36]))
              have hps : m_PS μ57 := hps.fr hJ57 rfl rfl rfl
              have hgp : m_GP μ57 := hgp.fr hJ57 rfl rfl
              have q57 := q57.symm
              subst q57
              exact m_iret hx hb hr hlocks hW rfl (⟨hI, ⟨hgp, Or.inl rfl⟩⟩) dX12_readPlain_102
      · have i11 := m_c5 (rfl : vv.toInt = _) (by decide : (2 : Int32).toInt = 2) c11
        refine lv_aload_n hx hb dX12_readPlain_29 rfl (lv_at hl 1 rfl) ?_
        refine m_aI hW (m_runV (As := []) (rest := []) hx hb hml hown hts hW (81) (g_X12_readNumber l D cy b (fun g => [24, 36].contains g) μ rfl rfl av (by omega) μ (IY.rf hI.1) (by exact h_av)) mi_X12_readNumber k_X12_304 rfl rfl rfl hl.1 rfl (Nat.le_of_ble_eq_true rfl) dX12_readPlain_30 ⟨Nat.le_of_ble_eq_true rfl, Nat.le_of_ble_eq_true rfl⟩ ⟨Nat.le_of_ble_eq_true rfl, Nat.le_of_ble_eq_true rfl⟩) (fun x58 μ58 H locs q58 hW => ?_)
        obtain ⟨hJ58, q58⟩ := q58
        have hI := hI.tr hJ58 (m_subL (by simp [hS24, hS36]))
        have hps : m_PS μ58 := hps.fr hJ58 rfl rfl rfl
        have hgp : m_GP μ58 := hgp.fr hJ58 rfl rfl
        rcases q58 with rfl | q58
        · refine lv_istore_n (lv' := [(2, .int (-1)), (1, .int vv), (0, .ref (b + 81))]) hx hb dX12_readPlain_33 rfl hl (by decide) rfl (fun ls hl => ?_)
          refine lv_iload_n hx hb dX12_readPlain_34 rfl (lv_at hl 0 rfl) ?_
          refine lv_iconst (v := (-1)) hx hb dX12_readPlain_35 (by decide) ?_
          refine lv_icmp_ne (tgt := 43) hx hb dX12_readPlain_36 (by decide) (fun c => False.elim (by revert c; decide)) (fun _ => ?_)
          refine lv_iconst (v := (-1)) hx hb dX12_readPlain_39 (by decide) ?_
          refine lv_goto (tgt := 47) hx hb dX12_readPlain_40 (by decide) ?_
          refine lv_istore_n (lv' := [(3, .int (-1)), (2, .int (-1)), (1, .int vv), (0, .ref (b + 81))]) hx hb dX12_readPlain_47 rfl hl (by decide) rfl (fun ls hl => ?_)
          refine lv_iload_n hx hb dX12_readPlain_48 rfl (lv_at hl 0 rfl) ?_
          refine lv_iconst (v := (-1)) hx hb dX12_readPlain_49 (by decide) ?_
          refine lv_icmp_ne (tgt := 55) hx hb dX12_readPlain_50 (by decide) (fun c => False.elim (by revert c; decide)) (fun _ => ?_)
          refine lv_iconst (v := (-1)) hx hb dX12_readPlain_53 (by decide) ?_
          exact m_iret hx hb hr hlocks hW rfl (⟨hI, ⟨hgp, Or.inl rfl⟩⟩) dX12_readPlain_54
        · obtain ⟨x59, hx59⟩ : ∃ z, μ58.1 81 37 = z := ⟨_, rfl⟩
          have bx59 : 0 ≤ x59.toInt ∧ x59.toInt ≤ 400 := by rw [← hx59]; exact hI.1 _ _ _ _ rfl
          rw [show μ58.1 81 37 = x59 from by exact hx59] at q58
          obtain ⟨x60, hx60⟩ : ∃ z, μ58.1 81 36 = z := ⟨_, rfl⟩
          have bx60 : 0 ≤ x60.toInt ∧ x60.toInt ≤ 400 := by rw [← hx60]; exact hI.1 _ _ _ _ rfl
          rw [show μ58.1 81 36 = x60 from by exact hx60] at q58
          refine lv_istore_n (lv' := [(2, .int x58), (1, .int vv), (0, .ref (b + 81))]) hx hb dX12_readPlain_33 rfl hl (by decide) rfl (fun ls hl => ?_)
          refine lv_iload_n hx hb dX12_readPlain_34 rfl (lv_at hl 0 rfl) ?_
          refine lv_iconst (v := (-1)) hx hb dX12_readPlain_35 (by decide) ?_
          refine lv_icmp_ne (tgt := 43) hx hb dX12_readPlain_36 (by decide) (fun c61 => ?_) (fun c61 => ?_)
          · have i61 := m_c6 (rfl : x58.toInt = _) (by decide : ((-1) : Int32).toInt = (-1)) c61
            refine lv_aload_n hx hb dX12_readPlain_43 rfl (lv_at hl 2 rfl) ?_
            refine m_aI hW (m_runV (As := []) (rest := []) hx hb hml hown hts hW (81) (g_X12_readNumber l D cy b (fun g => [24, 36].contains g) μ58 rfl rfl x60 (by omega) μ58 (IY.rf hI.1) (by exact hx60)) mi_X12_readNumber k_X12_304 rfl rfl rfl hl.1 rfl (Nat.le_of_ble_eq_true rfl) dX12_readPlain_44 ⟨Nat.le_of_ble_eq_true rfl, Nat.le_of_ble_eq_true rfl⟩ ⟨Nat.le_of_ble_eq_true rfl, Nat.le_of_ble_eq_true rfl⟩) (fun x62 μ62 H locs q62 hW => ?_)
            obtain ⟨hJ62, q62⟩ := q62
            have hI := hI.tr hJ62 (m_subL (by simp [hS24, hS36]))
            have hps : m_PS μ62 := hps.fr hJ62 rfl rfl rfl
            have hgp : m_GP μ62 := hgp.fr hJ62 rfl rfl
            rcases q62 with rfl | q62
            · refine lv_istore_n (lv' := [(3, .int (-1)), (2, .int x58), (1, .int vv), (0, .ref (b + 81))]) hx hb dX12_readPlain_47 rfl hl (by decide) rfl (fun ls hl => ?_)
              refine lv_iload_n hx hb dX12_readPlain_48 rfl (lv_at hl 0 rfl) ?_
              refine lv_iconst (v := (-1)) hx hb dX12_readPlain_49 (by decide) ?_
              refine lv_icmp_ne (tgt := 55) hx hb dX12_readPlain_50 (by decide) (fun c => False.elim (by revert c; decide)) (fun _ => ?_)
              refine lv_iconst (v := (-1)) hx hb dX12_readPlain_53 (by decide) ?_
              exact m_iret hx hb hr hlocks hW rfl (⟨hI, ⟨hgp, Or.inl rfl⟩⟩) dX12_readPlain_54
            · obtain ⟨x63, hx63⟩ : ∃ z, μ62.1 81 37 = z := ⟨_, rfl⟩
              have bx63 : 0 ≤ x63.toInt ∧ x63.toInt ≤ 400 := by rw [← hx63]; exact hI.1 _ _ _ _ rfl
              rw [show μ62.1 81 37 = x63 from by exact hx63] at q62
              obtain ⟨x64, hx64⟩ : ∃ z, μ62.1 81 36 = z := ⟨_, rfl⟩
              have bx64 : 0 ≤ x64.toInt ∧ x64.toInt ≤ 400 := by rw [← hx64]; exact hI.1 _ _ _ _ rfl
              rw [show μ62.1 81 36 = x64 from by exact hx64] at q62
              refine lv_istore_n (lv' := [(3, .int x62), (2, .int x58), (1, .int vv), (0, .ref (b + 81))]) hx hb dX12_readPlain_47 rfl hl (by decide) rfl (fun ls hl => ?_)
              refine lv_iload_n hx hb dX12_readPlain_48 rfl (lv_at hl 0 rfl) ?_
              refine lv_iconst (v := (-1)) hx hb dX12_readPlain_49 (by decide) ?_
              refine lv_icmp_ne (tgt := 55) hx hb dX12_readPlain_50 (by decide) (fun c65 => ?_) (fun c65 => ?_)
              · have i65 := m_c6 (rfl : x62.toInt = _) (by decide : ((-1) : Int32).toInt = (-1)) c65
                refine lv_aload_n hx hb dX12_readPlain_55 rfl (lv_at hl 3 rfl) ?_
                refine lv_iconst (v := 2) hx hb dX12_readPlain_56 (by decide) ?_
                refine lv_iload_n hx hb dX12_readPlain_57 rfl (lv_at hl 1 rfl) ?_
                refine lv_iload_n hx hb dX12_readPlain_58 rfl (lv_at hl 0 rfl) ?_
                have l_2 : (2 : Int32).toInt = 2 := by decide
                refine m_aV hW (m_runV (As := [.int 2, .int x58, .int x62]) (rest := []) hx hb hml hown hts hW (81) (g_X12_emits l D cy b (fun g => [25, 33, 41].contains g) μ62 rfl rfl rfl ov (by omega) 2 x58 x62 (by omega) μ62 (IY.rf hI.1) (by exact ((hJ62.2.1 111 8 rfl).trans (by exact ((hJ58.2.1 111 8 rfl).trans (by exact h_ov)))))) mi_X12_emits k_X12_301 rfl rfl rfl hl.1 rfl (Nat.le_of_ble_eq_true rfl) dX12_readPlain_59 ⟨Nat.le_of_ble_eq_true rfl, Nat.le_of_ble_eq_true rfl⟩ ⟨Nat.le_of_ble_eq_true rfl, Nat.le_of_ble_eq_true rfl⟩) (fun μ66 H locs q66 hW => ?_)
                obtain ⟨hJ66, q66⟩ := q66
                have hI := hI.tr hJ66 (m_subL (by simp [hS25, hS33, hS41]))
                obtain ⟨q66, q66l⟩ := q66
                obtain ⟨x67, hx67⟩ : ∃ z, μ66.1 111 8 = z := ⟨_, rfl⟩
                have tx67 : x67.toInt = ov.toInt + 1 := by rw [← hx67]; exact q66.2.2.2.2
                have hgp : m_GP μ66 := hgp.lo q66l
                have hps : m_PS μ66 := hps.plain (by exact ((hJ62.2.1 111 8 rfl).trans (by exact ((hJ58.2.1 111 8 rfl).trans (by exact h_ov))))) (by omega) q66 (funext fun j => hJ66.2.1 118 j rfl) (hJ66.2.1 81 53 rfl) (by decide) (by decide) (by decide)
                refine lv_goto (tgt := 174) hx hb dX12_readPlain_62 (by decide) ?_
                refine lv_aload_n hx hb dX12_readPlain_174 rfl (lv_at hl 3 rfl) ?_
                refine m_aV hW (m_runV (As := []) (rest := []) hx hb hml hown hts hW (81) (g_X12_reads l D cy b (fun g => [24].contains g) μ66 rfl x64 (by omega) μ66 (IY.rf hI.1) (by exact ((hJ66.2.1 81 36 rfl).trans (by exact hx64)))) mi_X12_reads k_X12_279 rfl rfl rfl hl.1 rfl (Nat.le_of_ble_eq_true rfl) dX12_readPlain_175 ⟨Nat.le_of_ble_eq_true rfl, Nat.le_of_ble_eq_true rfl⟩ ⟨Nat.le_of_ble_eq_true rfl, Nat.le_of_ble_eq_true rfl⟩) (fun μ68 H locs q68 hW => ?_)
                obtain ⟨hJ68, q68⟩ := q68
                have hI := hI.tr hJ68 (m_subL (by simp [hS24]))
                have hps : m_PS μ68 := hps.fr hJ68 rfl rfl rfl
                have hgp : m_GP μ68 := hgp.fr hJ68 rfl rfl
                obtain ⟨x69, hx69⟩ : ∃ z, μ68.1 81 36 = z := ⟨_, rfl⟩
                have bx69 : 0 ≤ x69.toInt ∧ x69.toInt ≤ 400 := by rw [← hx69]; exact hI.1 _ _ _ _ rfl
                rw [show μ68.1 81 36 = x69 from by exact hx69] at q68
                obtain ⟨x70, hx70⟩ : ∃ z, μ68.1 81 37 = z := ⟨_, rfl⟩
                have bx70 : 0 ≤ x70.toInt ∧ x70.toInt ≤ 400 := by rw [← hx70]; exact hI.1 _ _ _ _ rfl
                rw [show μ68.1 81 37 = x70 from by exact hx70] at q68
                obtain ⟨x71, hx71⟩ : ∃ z, μ68.1 81 38 = z := ⟨_, rfl⟩
                have bx71 : 0 ≤ x71.toInt ∧ x71.toInt ≤ 4 := by rw [← hx71]; exact hI.1 _ _ _ _ rfl
                rw [show μ68.1 81 38 = x71 from by exact hx71] at q68
                obtain ⟨x72, hx72⟩ : ∃ z, μ68.1 81 39 = z := ⟨_, rfl⟩
                have bx72 : -1 ≤ x72.toInt ∧ x72.toInt ≤ 99999 := by rw [← hx72]; exact hI.1 _ _ _ _ rfl
                rw [show μ68.1 81 39 = x72 from by exact hx72] at q68
                refine lv_iconst (v := 0) hx hb dX12_readPlain_178 (by decide) ?_
                exact m_iret hx hb hr hlocks hW rfl (⟨hI, ⟨hgp, Or.inr ⟨rfl, ⟨by rw [show μ68.1 81 51 = uv from by exact ((hJ68.2.1 81 51 rfl).trans (by exact ((hJ66.2.1 81 51 rfl).trans (by exact ((hJ62.2.1 81 51 rfl).trans (by exact ((hJ58.2.1 81 51 rfl).trans (by exact h_uv)))))))), show μ68.1 81 37 = x70 from by exact hx70, show μ68.1 81 36 = x69 from by exact hx69, show μ68.1 81 38 = x71 from by exact hx71, show μ68.1 111 8 = x67 from by exact ((hJ68.2.1 111 8 rfl).trans (by exact hx67))]; omega, hps⟩⟩⟩⟩) dX12_readPlain_179
              · have i65 := m_c5 (rfl : x62.toInt = _) (by decide : ((-1) : Int32).toInt = (-1)) c65
                exfalso; omega
          · have i61 := m_c5 (rfl : x58.toInt = _) (by decide : ((-1) : Int32).toInt = (-1)) c61
            exfalso; omega
    · have i10 := m_c5 (rfl : vv.toInt = _) (by decide : (1 : Int32).toInt = 1) c10
      refine lv_aload_n hx hb dX12_readPlain_14 rfl (lv_at hl 1 rfl) ?_
      refine lv_iload_n hx hb dX12_readPlain_15 rfl (lv_at hl 0 rfl) ?_
      refine lv_iconst (v := 0) hx hb dX12_readPlain_16 (by decide) ?_
      refine lv_iconst (v := 0) hx hb dX12_readPlain_17 (by decide) ?_
      have l_0 : (0 : Int32).toInt = 0 := by decide
      refine m_aV hW (m_runV (As := [.int vv, .int 0, .int 0]) (rest := []) hx hb hml hown hts hW (81) (g_X12_emits l D cy b (fun g => [25, 33, 41].contains g) μ rfl rfl rfl ov (by omega) vv 0 0 (by omega) μ (IY.rf hI.1) (by exact h_ov)) mi_X12_emits k_X12_301 rfl rfl rfl hl.1 rfl (Nat.le_of_ble_eq_true rfl) dX12_readPlain_18 ⟨Nat.le_of_ble_eq_true rfl, Nat.le_of_ble_eq_true rfl⟩ ⟨Nat.le_of_ble_eq_true rfl, Nat.le_of_ble_eq_true rfl⟩) (fun μ73 H locs q73 hW => ?_)
      obtain ⟨hJ73, q73⟩ := q73
      have hI := hI.tr hJ73 (m_subL (by simp [hS25, hS33, hS41]))
      obtain ⟨q73, q73l⟩ := q73
      obtain ⟨x74, hx74⟩ : ∃ z, μ73.1 111 8 = z := ⟨_, rfl⟩
      have tx74 : x74.toInt = ov.toInt + 1 := by rw [← hx74]; exact q73.2.2.2.2
      have hgp : m_GP μ73 := hgp.lo q73l
      have hps : m_PS μ73 := hps.plain (by exact h_ov) (by omega) q73 (funext fun j => hJ73.2.1 118 j rfl) (hJ73.2.1 81 53 rfl) (m_neI (by show vv.toInt ≠ (6 : Int); omega)) (m_neI (by show vv.toInt ≠ (7 : Int); omega)) (m_neI (by show vv.toInt ≠ (8 : Int); omega))
      refine lv_goto (tgt := 174) hx hb dX12_readPlain_21 (by decide) ?_
      refine lv_aload_n hx hb dX12_readPlain_174 rfl (lv_at hl 1 rfl) ?_
      refine m_aV hW (m_runV (As := []) (rest := []) hx hb hml hown hts hW (81) (g_X12_reads l D cy b (fun g => [24].contains g) μ73 rfl av (by omega) μ73 (IY.rf hI.1) (by exact ((hJ73.2.1 81 36 rfl).trans (by exact h_av)))) mi_X12_reads k_X12_279 rfl rfl rfl hl.1 rfl (Nat.le_of_ble_eq_true rfl) dX12_readPlain_175 ⟨Nat.le_of_ble_eq_true rfl, Nat.le_of_ble_eq_true rfl⟩ ⟨Nat.le_of_ble_eq_true rfl, Nat.le_of_ble_eq_true rfl⟩) (fun μ75 H locs q75 hW => ?_)
      obtain ⟨hJ75, q75⟩ := q75
      have hI := hI.tr hJ75 (m_subL (by simp [hS24]))
      have hps : m_PS μ75 := hps.fr hJ75 rfl rfl rfl
      have hgp : m_GP μ75 := hgp.fr hJ75 rfl rfl
      obtain ⟨x76, hx76⟩ : ∃ z, μ75.1 81 36 = z := ⟨_, rfl⟩
      have bx76 : 0 ≤ x76.toInt ∧ x76.toInt ≤ 400 := by rw [← hx76]; exact hI.1 _ _ _ _ rfl
      rw [show μ75.1 81 36 = x76 from by exact hx76] at q75
      obtain ⟨x77, hx77⟩ : ∃ z, μ75.1 81 37 = z := ⟨_, rfl⟩
      have bx77 : 0 ≤ x77.toInt ∧ x77.toInt ≤ 400 := by rw [← hx77]; exact hI.1 _ _ _ _ rfl
      rw [show μ75.1 81 37 = x77 from by exact hx77] at q75
      obtain ⟨x78, hx78⟩ : ∃ z, μ75.1 81 38 = z := ⟨_, rfl⟩
      have bx78 : 0 ≤ x78.toInt ∧ x78.toInt ≤ 4 := by rw [← hx78]; exact hI.1 _ _ _ _ rfl
      rw [show μ75.1 81 38 = x78 from by exact hx78] at q75
      obtain ⟨x79, hx79⟩ : ∃ z, μ75.1 81 39 = z := ⟨_, rfl⟩
      have bx79 : -1 ≤ x79.toInt ∧ x79.toInt ≤ 99999 := by rw [← hx79]; exact hI.1 _ _ _ _ rfl
      rw [show μ75.1 81 39 = x79 from by exact hx79] at q75
      refine lv_iconst (v := 0) hx hb dX12_readPlain_178 (by decide) ?_
      exact m_iret hx hb hr hlocks hW rfl (⟨hI, ⟨hgp, Or.inr ⟨rfl, ⟨by rw [show μ75.1 81 51 = uv from by exact ((hJ75.2.1 81 51 rfl).trans (by exact ((hJ73.2.1 81 51 rfl).trans (by exact h_uv)))), show μ75.1 81 37 = x77 from by exact hx77, show μ75.1 81 36 = x76 from by exact hx76, show μ75.1 81 38 = x78 from by exact hx78, show μ75.1 111 8 = x74 from by exact ((hJ75.2.1 111 8 rfl).trans (by exact hx74))]; omega, hps⟩⟩⟩⟩) dX12_readPlain_179
set_option maxHeartbeats 4000000 in
set_option maxRecDepth 100000 in
theorem g_X12_isInAgain (l : Launch) (D : va_G) (cy : Nat → ClassId) (b : Nat) (nv : Int32) (h_g : 0 ≤ nv.toInt ∧ nv.toInt ≤ 4) (μ : mM) (hI : IX μ) (h_nv : μ.1 81 53 = nv) : m_Ci l yX12_isInAgain cX12_isInAgain 1 ((some .boolean)) 0 D cy b LAY μ [.ref (b + 81)] (fun r ν => μ = ν ∧ ((r = 1 ∧ 1 ≤ nv.toInt ∧ 0 ≤ (μ.1 118 (nv.toNatClampNeg - 1)).toInt) ∨ r = 0)) := by
  unfold m_Ci
  refine m_of (by decide) (Nat.le_of_ble_eq_true rfl) ?_
  intro p e s m below meth c hx hb hr hml hown hts hlocks _ hW ls hl
  have hown : s.vm.findClass RX12 = some m.cls := hown
  have hl : lv_has ls 1 [(0, .ref (b + 81))] := hl
  refine lv_aload_n hx hb dX12_isInAgain_0 rfl (lv_at hl 0 rfl) ?_
  refine m_geti hx hb hts hown hW (81) 53 rfl rfl cw_12 rfl (by decide) k_X12_294 dX12_isInAgain_1 ?_
  refine lv_topi (fun x1 ex1 => ?_)
  have ex1 : x1 = nv := by rw [ex1]; exact h_nv
  have ex1 := ex1.symm
  subst ex1
  refine lv_if_le (tgt := 25) hx hb dX12_isInAgain_4 (by decide) (fun c2 => ?_) (fun c2 => ?_)
  · have i2 := m_c3 (rfl : nv.toInt = _) (by decide : (0 : Int32).toInt = 0) c2
    refine lv_iconst (v := 0) hx hb dX12_isInAgain_25 (by decide) ?_
    exact m_iret hx hb hr hlocks hW (by decide) (⟨rfl, Or.inr rfl⟩) dX12_isInAgain_26
  · have i2 := m_c4 (rfl : nv.toInt = _) (by decide : (0 : Int32).toInt = 0) c2
    refine lv_aload_n hx hb dX12_isInAgain_7 rfl (lv_at hl 0 rfl) ?_
    refine m_getr hx hb hts hown hW (81) 52 (118) rfl rfl cw_12 rfl (by decide) k_X12_131 dX12_isInAgain_8 ?_
    refine lv_aload_n hx hb dX12_isInAgain_11 rfl (lv_at hl 0 rfl) ?_
    refine m_geti hx hb hts hown hW (81) 53 rfl rfl cw_12 rfl (by decide) k_X12_294 dX12_isInAgain_12 ?_
    refine lv_topi (fun x3 ex3 => ?_)
    have ex3 : x3 = nv := by rw [ex3]; exact h_nv
    have ex3 := ex3.symm
    subst ex3
    refine lv_iconst (v := 1) hx hb dX12_isInAgain_15 (by decide) ?_
    refine lv_isub hx hb dX12_isInAgain_16 ?_
    refine lv_topi (fun x4 ex4 => ?_)
    have tx4 : x4.toInt = nv.toInt - 1 := m_subI ex4 (rfl : nv.toInt = _) (by decide : (1 : Int32).toInt = 1) (by omega) (by omega)
    refine m_iald hx hb hW (118) rfl (m_ixI (rfl : x4.toInt = _) (by omega) (by omega)) dX12_isInAgain_17 ?_
    refine lv_topi (fun x5 ex5 => ?_)
    have bx5 : -1000 ≤ x5.toInt ∧ x5.toInt ≤ 399 := by rw [ex5]; exact hI _ _ _ _ rfl
    refine lv_if_lt (tgt := 25) hx hb dX12_isInAgain_18 (by decide) (fun c6 => ?_) (fun c6 => ?_)
    · have i6 := m_c1 (rfl : x5.toInt = _) (by decide : (0 : Int32).toInt = 0) c6
      refine lv_iconst (v := 0) hx hb dX12_isInAgain_25 (by decide) ?_
      exact m_iret hx hb hr hlocks hW (by decide) (⟨rfl, Or.inr rfl⟩) dX12_isInAgain_26
    · have i6 := m_c2 (rfl : x5.toInt = _) (by decide : (0 : Int32).toInt = 0) c6
      refine lv_iconst (v := 1) hx hb dX12_isInAgain_21 (by decide) ?_
      refine lv_goto (tgt := 26) hx hb dX12_isInAgain_22 (by decide) ?_
      exact m_iret hx hb hr hlocks hW (by decide) (⟨rfl, Or.inl ⟨rfl, by omega, by rw [show nv.toNatClampNeg - 1 = x4.toNatClampNeg from by have := m_ckI (x := nv) (by omega); have := m_ckI (x := x4) (by omega); omega, ← ex5]; omega⟩⟩) dX12_isInAgain_26
set_option maxHeartbeats 4000000 in
set_option maxRecDepth 100000 in
theorem g_X12_closes (l : Launch) (D : va_G) (cy : Nat → ClassId) (b : Nat) (S : Nat → Bool) (μ0 : mM) (hS24 : S 24 = true) (hS25 : S 25 = true) (hS33 : S 33 = true) (hS34 : S 34 = true) (hS35 : S 35 = true) (hS36 : S 36 = true) (hS41 : S 41 = true) (av fv tk uv ov nv : Int32) (h_g : 0 ≤ av.toInt ∧ av.toInt ≤ 400 ∧ 0 ≤ fv.toInt ∧ fv.toInt ≤ 400 ∧ 0 ≤ tk.toInt ∧ tk.toInt ≤ 4 ∧ 0 ≤ uv.toInt ∧ uv.toInt ≤ 400 ∧ 0 ≤ ov.toInt ∧ ov.toInt ≤ 400 ∧ 0 ≤ nv.toInt ∧ nv.toInt ≤ 4 ∧ uv.toInt ≤ fv.toInt ∧ fv.toInt ≤ av.toInt ∧ (tk.toInt = 0 ∨ fv.toInt + 1 ≤ av.toInt) ∧ ov.toInt ≤ fv.toInt ∧ tk.toInt = 2 ∧ 1 ≤ nv.toInt) (μ : mM) (hI : IY S μ0 μ) (h_av : μ.1 81 36 = av) (h_fv : μ.1 81 37 = fv) (h_tk : μ.1 81 38 = tk) (h_uv : μ.1 81 51 = uv) (h_ov : μ.1 111 8 = ov) (h_nv : μ.1 81 53 = nv) (hps : m_PS μ) (hgp : m_GP μ) (hbt : 0 ≤ (μ.1 118 (nv.toNatClampNeg - 1)).toInt) : m_Cv l yX12_closes cX12_closes 2 (none) 3 D cy b LAY μ [.ref (b + 81)] (fun ν => IY S μ0 ν ∧ (m_GP ν ∧ ((ν.1 81 51).toInt ≤ (ν.1 81 37).toInt ∧ fv.toInt + 1 ≤ (ν.1 81 37).toInt ∧ (ν.1 81 37).toInt ≤ (ν.1 81 36).toInt ∧ ((ν.1 81 38).toInt = 0 ∨ (ν.1 81 37).toInt + 1 ≤ (ν.1 81 36).toInt) ∧ (ν.1 111 8).toInt ≤ (ν.1 81 37).toInt) ∧ m_PS ν)) := by
  unfold m_Cv
  refine m_of (by decide) (Nat.le_of_ble_eq_true rfl) ?_
  intro p e s m below meth c hx hb hr hml hown hts hlocks _ hW ls hl
  have hown : s.vm.findClass RX12 = some m.cls := hown
  have hl : lv_has ls 2 [(0, .ref (b + 81))] := hl
  refine lv_aload_n hx hb dX12_closes_0 rfl (lv_at hl 0 rfl) ?_
  refine lv_aload_n hx hb dX12_closes_1 rfl (lv_at hl 0 rfl) ?_
  refine m_geti hx hb hts hown hW (81) 53 rfl rfl cw_12 rfl (by decide) k_X12_294 dX12_closes_2 ?_
  refine lv_topi (fun x1 ex1 => ?_)
  have ex1 : x1 = nv := by rw [ex1]; exact h_nv
  have ex1 := ex1.symm
  subst ex1
  refine lv_iconst (v := 1) hx hb dX12_closes_5 (by decide) ?_
  refine lv_isub hx hb dX12_closes_6 ?_
  refine lv_topi (fun x2 ex2 => ?_)
  have tx2 : x2.toInt = nv.toInt - 1 := m_subI ex2 (rfl : nv.toInt = _) (by decide : (1 : Int32).toInt = 1) (by omega) (by omega)
  refine m_puti hx hb hts hown hW (81) 53 rfl rfl cw_12 tyX12_ok nmX12 rfl (by decide) k_X12_294 rfl rfl rfl dX12_closes_7 (fun H locs hW _ => ?_)
  generalize hμ3 : m_si μ (81) 53 x2 = μ3 at hW
  have hgp : m_GP μ3 := hgp.si hμ3 (by decide) (by decide) (by decide)
  have hI := hI.si1 hμ3 rfl (by omega) hS35
  refine lv_aload_n hx hb dX12_closes_10 rfl (lv_at hl 0 rfl) ?_
  refine m_getr hx hb hts hown hW (81) 52 (118) rfl rfl cw_12 rfl (by decide) k_X12_131 dX12_closes_11 ?_
  refine lv_aload_n hx hb dX12_closes_14 rfl (lv_at hl 0 rfl) ?_
  refine m_geti hx hb hts hown hW (81) 53 rfl rfl cw_12 rfl (by decide) k_X12_294 dX12_closes_15 ?_
  refine lv_topi (fun x4 ex4 => ?_)
  have ex4 : x4 = x2 := by rw [ex4, ← hμ3]; first | rfl | exact if_pos ⟨rfl, rfl⟩
  have ex4 := ex4.symm
  subst ex4
  refine m_iald hx hb hW (118) rfl (m_ixI (rfl : x2.toInt = _) (by omega) (by omega)) dX12_closes_18 ?_
  refine lv_topi (fun x5 ex5 => ?_)
  have bx5 : -1000 ≤ x5.toInt ∧ x5.toInt ≤ 399 := by rw [ex5]; exact hI.1 _ _ _ _ rfl
  have hzx5 : 0 ≤ x5.toInt := by rw [ex5, ← hμ3, m_si_ne (by decide), show x2.toNatClampNeg = nv.toNatClampNeg - 1 from by have := m_ckI (x := nv) (by omega); have := m_ckI (x := x2) (by omega); omega]; exact hbt
  refine lv_istore_n (lv' := [(1, .int x5), (0, .ref (b + 81))]) hx hb dX12_closes_19 rfl hl (by decide) rfl (fun ls hl => ?_)
  refine lv_aload_n hx hb dX12_closes_20 rfl (lv_at hl 1 rfl) ?_
  refine lv_bipush (v := 7) hx hb dX12_closes_21 (by decide) ?_
  refine lv_iload_n hx hb dX12_closes_23 rfl (lv_at hl 0 rfl) ?_
  refine lv_iconst (v := 1) hx hb dX12_closes_24 (by decide) ?_
  refine lv_iadd hx hb dX12_closes_25 ?_
  refine lv_topi (fun x6 ex6 => ?_)
  have tx6 : x6.toInt = x5.toInt + 1 := m_addI ex6 (rfl : x5.toInt = _) (by decide : (1 : Int32).toInt = 1) (by omega) (by omega)
  refine lv_iconst (v := 0) hx hb dX12_closes_26 (by decide) ?_
  have l_7 : (7 : Int32).toInt = 7 := by decide
  have l_0 : (0 : Int32).toInt = 0 := by decide
  refine m_aV hW (m_runV (As := [.int 7, .int x6, .int 0]) (rest := []) hx hb hml hown hts hW (81) (g_X12_emits l D cy b (fun g => [25, 33, 41].contains g) μ3 rfl rfl rfl ov (by omega) 7 x6 0 (by omega) μ3 (IY.rf hI.1) (by rw [← hμ3]; exact h_ov)) mi_X12_emits k_X12_301 rfl rfl rfl hl.1 rfl (Nat.le_of_ble_eq_true rfl) dX12_closes_27 ⟨Nat.le_of_ble_eq_true rfl, Nat.le_of_ble_eq_true rfl⟩ ⟨Nat.le_of_ble_eq_true rfl, Nat.le_of_ble_eq_true rfl⟩) (fun μ7 H locs q7 hW => ?_)
  obtain ⟨hJ7, q7⟩ := q7
  have hI := hI.tr hJ7 (m_subL (by simp [hS25, hS33, hS41]))
  obtain ⟨q7, q7l⟩ := q7
  obtain ⟨x8, hx8⟩ : ∃ z, μ7.1 111 8 = z := ⟨_, rfl⟩
  have tx8 : x8.toInt = ov.toInt + 1 := by rw [← hx8]; exact q7.2.2.2.2
  have hgp : m_GP μ7 := hgp.lo q7l
  have hps : m_PS μ7 := hps.close (ov := ov) (nv := nv) (y := x2) (bv := x5) (a := x6) (by exact h_ov) (by omega) (by omega) (by exact h_nv) (by omega) hμ3 (by omega) (by exact ex5.symm) (by omega) (by omega) q7 (funext fun j => hJ7.2.1 118 j rfl) (hJ7.2.1 81 53 rfl)
  refine lv_aload_n hx hb dX12_closes_30 rfl (lv_at hl 1 rfl) ?_
  refine m_aV hW (m_runV (As := []) (rest := []) hx hb hml hown hts hW (81) (g_X12_reads l D cy b (fun g => [24].contains g) μ7 rfl av (by omega) μ7 (IY.rf hI.1) (by exact ((hJ7.2.1 81 36 rfl).trans (by rw [← hμ3]; exact h_av)))) mi_X12_reads k_X12_279 rfl rfl rfl hl.1 rfl (Nat.le_of_ble_eq_true rfl) dX12_closes_31 ⟨Nat.le_of_ble_eq_true rfl, Nat.le_of_ble_eq_true rfl⟩ ⟨Nat.le_of_ble_eq_true rfl, Nat.le_of_ble_eq_true rfl⟩) (fun μ9 H locs q9 hW => ?_)
  obtain ⟨hJ9, q9⟩ := q9
  have hI := hI.tr hJ9 (m_subL (by simp [hS24]))
  have hps : m_PS μ9 := hps.fr hJ9 rfl rfl rfl
  have hgp : m_GP μ9 := hgp.fr hJ9 rfl rfl
  obtain ⟨x10, hx10⟩ : ∃ z, μ9.1 81 36 = z := ⟨_, rfl⟩
  have bx10 : 0 ≤ x10.toInt ∧ x10.toInt ≤ 400 := by rw [← hx10]; exact hI.1 _ _ _ _ rfl
  rw [show μ9.1 81 36 = x10 from by exact hx10] at q9
  obtain ⟨x11, hx11⟩ : ∃ z, μ9.1 81 37 = z := ⟨_, rfl⟩
  have bx11 : 0 ≤ x11.toInt ∧ x11.toInt ≤ 400 := by rw [← hx11]; exact hI.1 _ _ _ _ rfl
  rw [show μ9.1 81 37 = x11 from by exact hx11] at q9
  obtain ⟨x12, hx12⟩ : ∃ z, μ9.1 81 38 = z := ⟨_, rfl⟩
  have bx12 : 0 ≤ x12.toInt ∧ x12.toInt ≤ 4 := by rw [← hx12]; exact hI.1 _ _ _ _ rfl
  rw [show μ9.1 81 38 = x12 from by exact hx12] at q9
  obtain ⟨x13, hx13⟩ : ∃ z, μ9.1 81 39 = z := ⟨_, rfl⟩
  have bx13 : -1 ≤ x13.toInt ∧ x13.toInt ≤ 99999 := by rw [← hx13]; exact hI.1 _ _ _ _ rfl
  rw [show μ9.1 81 39 = x13 from by exact hx13] at q9
  exact m_vret hx hb hr hlocks hW (⟨hI, ⟨hgp, by rw [show μ9.1 81 51 = uv from by exact ((hJ9.2.1 81 51 rfl).trans (by exact ((hJ7.2.1 81 51 rfl).trans (by rw [← hμ3]; exact h_uv)))), show μ9.1 81 37 = x11 from by exact hx11, show μ9.1 81 36 = x10 from by exact hx10, show μ9.1 81 38 = x12 from by exact hx12, show μ9.1 111 8 = x8 from by exact ((hJ9.2.1 111 8 rfl).trans (by exact hx8))]; omega, hps⟩⟩) dX12_closes_34
set_option maxHeartbeats 4000000 in
set_option maxRecDepth 100000 in
theorem L_X12_ends_0 {p : Program} {l : Launch} {e : Env} {s : State} {m : MethodId} {args : Array Value} {below : List Frame} {meth : Method} {c : Code} {D : va_G} {cy : Nat → ClassId} {b : Nat} (hx : p.tables.exec = Jvm.exec) (hb : c.code = cX12_ends) (hr : meth.sig.returnType = ((some .int))) (hml : c.maxLocals = 1) (hown : s.vm.findClass RX12 = some m.cls) (hts : ∀ w ∈ TB, w.before args s = true) (hlocks : meth.locks = false) (S : Nat → Bool) (μ0 : mM) (hS24 : S 24 = true) (hS25 : S 25 = true) (hS33 : S 33 = true) (hS34 : S 34 = true) (hS35 : S 35 = true) (hS36 : S 36 = true) (hS41 : S 41 = true) (av fv tk uv ov : Int32) (h_g : 0 ≤ av.toInt ∧ av.toInt ≤ 400 ∧ 0 ≤ fv.toInt ∧ fv.toInt ≤ 400 ∧ 0 ≤ tk.toInt ∧ tk.toInt ≤ 4 ∧ 0 ≤ uv.toInt ∧ uv.toInt ≤ 400 ∧ 0 ≤ ov.toInt ∧ ov.toInt ≤ 400 ∧ uv.toInt ≤ fv.toInt ∧ fv.toInt ≤ av.toInt ∧ (tk.toInt = 0 ∨ fv.toInt + 1 ≤ av.toInt) ∧ ov.toInt ≤ fv.toInt) : ∀ (f : Nat), ∀ (nv2 : Int32) (hy : 0 ≤ nv2.toInt ∧ nv2.toInt ≤ 4) (hf : nv2.toInt < (f : Int)) (μ : mM) (hI : IY S μ0 μ) (h_av : μ.1 81 36 = av) (h_fv : μ.1 81 37 = fv) (h_tk : μ.1 81 38 = tk) (h_uv : μ.1 81 51 = uv) (h_ov : μ.1 111 8 = ov) (h_nv : μ.1 81 53 = nv2) (hps : m_PS μ) (hgp : m_GP μ) (H : Heap) (locs : List Loc), m_WA (m_A b LAY) D cy s b LAY μ H locs → ∀ ls : Array Slot, lv_has ls 1 [(0, .ref (b + 81))] → W p l e (m_R 3 0 0) s m args below meth c H locs 0 0 (MQ below (m_Qi D cy b LAY (fun r ν => IY S μ0 ν ∧ (m_GP ν ∧ (r = -1 ∨ (r = 0 ∧ ((ν.1 81 51).toInt ≤ (ν.1 81 37).toInt ∧ fv.toInt ≤ (ν.1 81 37).toInt ∧ (ν.1 81 37).toInt ≤ (ν.1 81 36).toInt ∧ ((ν.1 81 38).toInt = 0 ∨ (ν.1 81 37).toInt + 1 ≤ (ν.1 81 36).toInt) ∧ (ν.1 111 8).toInt ≤ (ν.1 81 37).toInt) ∧ m_PS ν))))) args s 0 0 (m_A b LAY)) (F0 m 0 ls []) := by
  intro f
  induction f with
  | zero => intro  nv2 hy hf; exfalso; omega
  | succ f ih =>
    intro  nv2 hy hf μ hI h_av h_fv h_tk h_uv h_ov h_nv hps hgp H locs hW ls hl
    refine lv_aload_n hx hb dX12_ends_0 rfl (lv_at hl 0 rfl) ?_
    refine m_geti hx hb hts hown hW (81) 53 rfl rfl cw_12 rfl (by decide) k_X12_294 dX12_ends_1 ?_
    refine lv_topi (fun x1 ex1 => ?_)
    have ex1 : x1 = nv2 := by rw [ex1]; exact h_nv
    have ex1 := ex1.symm
    subst ex1
    refine lv_if_le (tgt := 63) hx hb dX12_ends_4 (by decide) (fun c2 => ?_) (fun c2 => ?_)
    · have i2 := m_c3 (rfl : nv2.toInt = _) (by decide : (0 : Int32).toInt = 0) c2
      refine lv_aload_n hx hb dX12_ends_63 rfl (lv_at hl 0 rfl) ?_
      refine lv_bipush (v := 59) hx hb dX12_ends_64 (by decide) ?_
      have l_59 : (59 : Int32).toInt = 59 := by decide
      refine m_aI hW (m_runV (As := [.int 59]) (rest := []) hx hb hml hown hts hW (81) (g_X12_isSign l D cy b 59 μ hI.1) mi_X12_isSign k_X12_291 rfl rfl rfl hl.1 rfl (Nat.le_of_ble_eq_true rfl) dX12_ends_66 ⟨Nat.le_of_ble_eq_true rfl, Nat.le_of_ble_eq_true rfl⟩ ⟨Nat.le_of_ble_eq_true rfl, Nat.le_of_ble_eq_true rfl⟩) (fun x3 μ3 H locs q3 hW => ?_)
      obtain ⟨q3_m, q3⟩ := q3
      subst q3_m
      rcases q3 with ⟨rfl, q3⟩ | rfl
      · rw [show μ.1 81 38 = tk from by exact h_tk] at q3
        refine lv_if_ne (tgt := 78) hx hb dX12_ends_69 (by decide) (fun _ => ?_) (fun c => False.elim (by revert c; decide))
        refine lv_aload_n hx hb dX12_ends_78 rfl (lv_at hl 0 rfl) ?_
        refine m_aV hW (m_runV (As := []) (rest := []) hx hb hml hown hts hW (81) (g_X12_reads l D cy b (fun g => [24].contains g) μ rfl av (by omega) μ (IY.rf hI.1) (by exact h_av)) mi_X12_reads k_X12_279 rfl rfl rfl hl.1 rfl (Nat.le_of_ble_eq_true rfl) dX12_ends_79 ⟨Nat.le_of_ble_eq_true rfl, Nat.le_of_ble_eq_true rfl⟩ ⟨Nat.le_of_ble_eq_true rfl, Nat.le_of_ble_eq_true rfl⟩) (fun μ4 H locs q4 hW => ?_)
        obtain ⟨hJ4, q4⟩ := q4
        have hI := hI.tr hJ4 (m_subL (by simp [hS24]))
        have hps : m_PS μ4 := hps.fr hJ4 rfl rfl rfl
        have hgp : m_GP μ4 := hgp.fr hJ4 rfl rfl
        obtain ⟨x5, hx5⟩ : ∃ z, μ4.1 81 36 = z := ⟨_, rfl⟩
        have bx5 : 0 ≤ x5.toInt ∧ x5.toInt ≤ 400 := by rw [← hx5]; exact hI.1 _ _ _ _ rfl
        rw [show μ4.1 81 36 = x5 from by exact hx5] at q4
        obtain ⟨x6, hx6⟩ : ∃ z, μ4.1 81 37 = z := ⟨_, rfl⟩
        have bx6 : 0 ≤ x6.toInt ∧ x6.toInt ≤ 400 := by rw [← hx6]; exact hI.1 _ _ _ _ rfl
        rw [show μ4.1 81 37 = x6 from by exact hx6] at q4
        obtain ⟨x7, hx7⟩ : ∃ z, μ4.1 81 38 = z := ⟨_, rfl⟩
        have bx7 : 0 ≤ x7.toInt ∧ x7.toInt ≤ 4 := by rw [← hx7]; exact hI.1 _ _ _ _ rfl
        rw [show μ4.1 81 38 = x7 from by exact hx7] at q4
        obtain ⟨x8, hx8⟩ : ∃ z, μ4.1 81 39 = z := ⟨_, rfl⟩
        have bx8 : -1 ≤ x8.toInt ∧ x8.toInt ≤ 99999 := by rw [← hx8]; exact hI.1 _ _ _ _ rfl
        rw [show μ4.1 81 39 = x8 from by exact hx8] at q4
        refine lv_iconst (v := 0) hx hb dX12_ends_82 (by decide) ?_
        exact m_iret hx hb hr hlocks hW rfl (⟨hI, ⟨hgp, Or.inr ⟨rfl, ⟨by rw [show μ4.1 81 51 = uv from by exact ((hJ4.2.1 81 51 rfl).trans (by exact h_uv)), show μ4.1 81 37 = x6 from by exact hx6, show μ4.1 81 36 = x5 from by exact hx5, show μ4.1 81 38 = x7 from by exact hx7, show μ4.1 111 8 = ov from by exact ((hJ4.2.1 111 8 rfl).trans (by exact h_ov))]; omega, hps⟩⟩⟩⟩) dX12_ends_83
      · refine lv_if_ne (tgt := 78) hx hb dX12_ends_69 (by decide) (fun c => False.elim (by revert c; decide)) (fun _ => ?_)
        refine lv_aload_n hx hb dX12_ends_72 rfl (lv_at hl 0 rfl) ?_
        refine lv_iconst (v := 1) hx hb dX12_ends_73 (by decide) ?_
        have l_1 : (1 : Int32).toInt = 1 := by decide
        refine m_aI hW (m_runV (As := [.int 1]) (rest := []) hx hb hml hown hts hW (81) (g_X12_fails l D cy b (fun g => [36].contains g) μ rfl 1 μ (IY.rf hI.1)) mi_X12_fails k_X12_282 rfl rfl rfl hl.1 rfl (Nat.le_of_ble_eq_true rfl) dX12_ends_74 ⟨Nat.le_of_ble_eq_true rfl, Nat.le_of_ble_eq_true rfl⟩ ⟨Nat.le_of_ble_eq_true rfl, Nat.le_of_ble_eq_true rfl⟩) (fun x9 μ9 H locs q9 hW => ?_)
        obtain ⟨hJ9, q9⟩ := q9
        have hI := hI.tr hJ9 (m_subL (by simp [hS36]))
        have hps : m_PS μ9 := hps.fr hJ9 rfl rfl rfl
        have hgp : m_GP μ9 := hgp.fr hJ9 rfl rfl
        have q9 := q9.symm
        subst q9
        exact m_iret hx hb hr hlocks hW rfl (⟨hI, ⟨hgp, Or.inl rfl⟩⟩) dX12_ends_77
    · have i2 := m_c4 (rfl : nv2.toInt = _) (by decide : (0 : Int32).toInt = 0) c2
      refine lv_aload_n hx hb dX12_ends_7 rfl (lv_at hl 0 rfl) ?_
      refine m_getr hx hb hts hown hW (81) 52 (118) rfl rfl cw_12 rfl (by decide) k_X12_131 dX12_ends_8 ?_
      refine lv_aload_n hx hb dX12_ends_11 rfl (lv_at hl 0 rfl) ?_
      refine m_geti hx hb hts hown hW (81) 53 rfl rfl cw_12 rfl (by decide) k_X12_294 dX12_ends_12 ?_
      refine lv_topi (fun x10 ex10 => ?_)
      have ex10 : x10 = nv2 := by rw [ex10]; exact h_nv
      have ex10 := ex10.symm
      subst ex10
      refine lv_iconst (v := 1) hx hb dX12_ends_15 (by decide) ?_
      refine lv_isub hx hb dX12_ends_16 ?_
      refine lv_topi (fun x11 ex11 => ?_)
      have tx11 : x11.toInt = nv2.toInt - 1 := m_subI ex11 (rfl : nv2.toInt = _) (by decide : (1 : Int32).toInt = 1) (by omega) (by omega)
      refine m_iald hx hb hW (118) rfl (m_ixI (rfl : x11.toInt = _) (by omega) (by omega)) dX12_ends_17 ?_
      refine lv_topi (fun x12 ex12 => ?_)
      have bx12 : -1000 ≤ x12.toInt ∧ x12.toInt ≤ 399 := by rw [ex12]; exact hI.1 _ _ _ _ rfl
      have tpx12 : x12.toInt < 0 → -1000 ≤ x12.toInt ∧ x12.toInt ≤ -601 := fun h0 => hps.top (nv := nv2) (y := x11) (by exact h_nv) (by omega) (by omega) ex12.symm h0
      refine lv_if_ge (tgt := 63) hx hb dX12_ends_18 (by decide) (fun c13 => ?_) (fun c13 => ?_)
      · have i13 := m_c3 (by decide : (0 : Int32).toInt = 0) (rfl : x12.toInt = _) c13
        refine lv_aload_n hx hb dX12_ends_63 rfl (lv_at hl 0 rfl) ?_
        refine lv_bipush (v := 59) hx hb dX12_ends_64 (by decide) ?_
        have l_59 : (59 : Int32).toInt = 59 := by decide
        refine m_aI hW (m_runV (As := [.int 59]) (rest := []) hx hb hml hown hts hW (81) (g_X12_isSign l D cy b 59 μ hI.1) mi_X12_isSign k_X12_291 rfl rfl rfl hl.1 rfl (Nat.le_of_ble_eq_true rfl) dX12_ends_66 ⟨Nat.le_of_ble_eq_true rfl, Nat.le_of_ble_eq_true rfl⟩ ⟨Nat.le_of_ble_eq_true rfl, Nat.le_of_ble_eq_true rfl⟩) (fun x14 μ14 H locs q14 hW => ?_)
        obtain ⟨q14_m, q14⟩ := q14
        subst q14_m
        rcases q14 with ⟨rfl, q14⟩ | rfl
        · rw [show μ.1 81 38 = tk from by exact h_tk] at q14
          refine lv_if_ne (tgt := 78) hx hb dX12_ends_69 (by decide) (fun _ => ?_) (fun c => False.elim (by revert c; decide))
          refine lv_aload_n hx hb dX12_ends_78 rfl (lv_at hl 0 rfl) ?_
          refine m_aV hW (m_runV (As := []) (rest := []) hx hb hml hown hts hW (81) (g_X12_reads l D cy b (fun g => [24].contains g) μ rfl av (by omega) μ (IY.rf hI.1) (by exact h_av)) mi_X12_reads k_X12_279 rfl rfl rfl hl.1 rfl (Nat.le_of_ble_eq_true rfl) dX12_ends_79 ⟨Nat.le_of_ble_eq_true rfl, Nat.le_of_ble_eq_true rfl⟩ ⟨Nat.le_of_ble_eq_true rfl, Nat.le_of_ble_eq_true rfl⟩) (fun μ15 H locs q15 hW => ?_)
          obtain ⟨hJ15, q15⟩ := q15
          have hI := hI.tr hJ15 (m_subL (by simp [hS24]))
          have hps : m_PS μ15 := hps.fr hJ15 rfl rfl rfl
          have hgp : m_GP μ15 := hgp.fr hJ15 rfl rfl
          obtain ⟨x16, hx16⟩ : ∃ z, μ15.1 81 36 = z := ⟨_, rfl⟩
          have bx16 : 0 ≤ x16.toInt ∧ x16.toInt ≤ 400 := by rw [← hx16]; exact hI.1 _ _ _ _ rfl
          rw [show μ15.1 81 36 = x16 from by exact hx16] at q15
          obtain ⟨x17, hx17⟩ : ∃ z, μ15.1 81 37 = z := ⟨_, rfl⟩
          have bx17 : 0 ≤ x17.toInt ∧ x17.toInt ≤ 400 := by rw [← hx17]; exact hI.1 _ _ _ _ rfl
          rw [show μ15.1 81 37 = x17 from by exact hx17] at q15
          obtain ⟨x18, hx18⟩ : ∃ z, μ15.1 81 38 = z := ⟨_, rfl⟩
          have bx18 : 0 ≤ x18.toInt ∧ x18.toInt ≤ 4 := by rw [← hx18]; exact hI.1 _ _ _ _ rfl
          rw [show μ15.1 81 38 = x18 from by exact hx18] at q15
          obtain ⟨x19, hx19⟩ : ∃ z, μ15.1 81 39 = z := ⟨_, rfl⟩
          have bx19 : -1 ≤ x19.toInt ∧ x19.toInt ≤ 99999 := by rw [← hx19]; exact hI.1 _ _ _ _ rfl
          rw [show μ15.1 81 39 = x19 from by exact hx19] at q15
          refine lv_iconst (v := 0) hx hb dX12_ends_82 (by decide) ?_
          exact m_iret hx hb hr hlocks hW rfl (⟨hI, ⟨hgp, Or.inr ⟨rfl, ⟨by rw [show μ15.1 81 51 = uv from by exact ((hJ15.2.1 81 51 rfl).trans (by exact h_uv)), show μ15.1 81 37 = x17 from by exact hx17, show μ15.1 81 36 = x16 from by exact hx16, show μ15.1 81 38 = x18 from by exact hx18, show μ15.1 111 8 = ov from by exact ((hJ15.2.1 111 8 rfl).trans (by exact h_ov))]; omega, hps⟩⟩⟩⟩) dX12_ends_83
        · refine lv_if_ne (tgt := 78) hx hb dX12_ends_69 (by decide) (fun c => False.elim (by revert c; decide)) (fun _ => ?_)
          refine lv_aload_n hx hb dX12_ends_72 rfl (lv_at hl 0 rfl) ?_
          refine lv_iconst (v := 1) hx hb dX12_ends_73 (by decide) ?_
          have l_1 : (1 : Int32).toInt = 1 := by decide
          refine m_aI hW (m_runV (As := [.int 1]) (rest := []) hx hb hml hown hts hW (81) (g_X12_fails l D cy b (fun g => [36].contains g) μ rfl 1 μ (IY.rf hI.1)) mi_X12_fails k_X12_282 rfl rfl rfl hl.1 rfl (Nat.le_of_ble_eq_true rfl) dX12_ends_74 ⟨Nat.le_of_ble_eq_true rfl, Nat.le_of_ble_eq_true rfl⟩ ⟨Nat.le_of_ble_eq_true rfl, Nat.le_of_ble_eq_true rfl⟩) (fun x20 μ20 H locs q20 hW => ?_)
          obtain ⟨hJ20, q20⟩ := q20
          have hI := hI.tr hJ20 (m_subL (by simp [hS36]))
          have hps : m_PS μ20 := hps.fr hJ20 rfl rfl rfl
          have hgp : m_GP μ20 := hgp.fr hJ20 rfl rfl
          have q20 := q20.symm
          subst q20
          exact m_iret hx hb hr hlocks hW rfl (⟨hI, ⟨hgp, Or.inl rfl⟩⟩) dX12_ends_77
      · have i13 := m_c4 (by decide : (0 : Int32).toInt = 0) (rfl : x12.toInt = _) c13
        refine lv_aload_n hx hb dX12_ends_21 rfl (lv_at hl 0 rfl) ?_
        refine lv_aload_n hx hb dX12_ends_22 rfl (lv_at hl 0 rfl) ?_
        refine m_geti hx hb hts hown hW (81) 53 rfl rfl cw_12 rfl (by decide) k_X12_294 dX12_ends_23 ?_
        refine lv_topi (fun x21 ex21 => ?_)
        have ex21 : x21 = nv2 := by rw [ex21]; exact h_nv
        have ex21 := ex21.symm
        subst ex21
        refine lv_iconst (v := 1) hx hb dX12_ends_26 (by decide) ?_
        refine lv_isub hx hb dX12_ends_27 ?_
        refine lv_topi (fun x22 ex22 => ?_)
        have ex22 : x22 = x11 := ex22.trans ex11.symm
        have ex22 := ex22.symm
        subst ex22
        refine m_puti hx hb hts hown hW (81) 53 rfl rfl cw_12 tyX12_ok nmX12 rfl (by decide) k_X12_294 rfl rfl rfl dX12_ends_28 (fun H locs hW _ => ?_)
        generalize hμ23 : m_si μ (81) 53 x11 = μ23 at hW
        have hgp : m_GP μ23 := hgp.si hμ23 (by decide) (by decide) (by decide)
        have hI := hI.si1 hμ23 rfl (by omega) hS35
        refine lv_aload_n hx hb dX12_ends_31 rfl (lv_at hl 0 rfl) ?_
        refine m_getr hx hb hts hown hW (81) 42 (109) rfl rfl cw_12 rfl (by decide) k_X12_104 dX12_ends_32 ?_
        refine lv_sipush (v := 3200) hx hb dX12_ends_35 (by decide) ?_
        refine lv_aload_n hx hb dX12_ends_38 rfl (lv_at hl 0 rfl) ?_
        refine m_getr hx hb hts hown hW (81) 52 (118) rfl rfl cw_12 rfl (by decide) k_X12_131 dX12_ends_39 ?_
        refine lv_aload_n hx hb dX12_ends_42 rfl (lv_at hl 0 rfl) ?_
        refine m_geti hx hb hts hown hW (81) 53 rfl rfl cw_12 rfl (by decide) k_X12_294 dX12_ends_43 ?_
        refine lv_topi (fun x24 ex24 => ?_)
        have ex24 : x24 = x11 := by rw [ex24, ← hμ23]; first | rfl | exact if_pos ⟨rfl, rfl⟩
        have ex24 := ex24.symm
        subst ex24
        refine m_iald hx hb hW (118) rfl (m_ixI (rfl : x11.toInt = _) (by omega) (by omega)) dX12_ends_46 ?_
        refine lv_topi (fun x25 ex25 => ?_)
        have ex25 : x25 = x12 := by rw [ex25, ← hμ23]; exact ex12.symm
        have ex25 := ex25.symm
        subst ex25
        refine lv_iadd hx hb dX12_ends_47 ?_
        refine lv_topi (fun x26 ex26 => ?_)
        have tx26 : x26.toInt = 3200 + x12.toInt := m_addI ex26 (by decide : (3200 : Int32).toInt = 3200) (rfl : x12.toInt = _) (by omega) (by omega)
        refine lv_sipush (v := 1000) hx hb dX12_ends_48 (by decide) ?_
        refine lv_iadd hx hb dX12_ends_51 ?_
        refine lv_topi (fun x27 ex27 => ?_)
        have tx27 : x27.toInt = x26.toInt + 1000 := m_addI ex27 (rfl : x26.toInt = _) (by decide : (1000 : Int32).toInt = 1000) (by omega) (by omega)
        refine lv_aload_n hx hb dX12_ends_52 rfl (lv_at hl 0 rfl) ?_
        refine m_getr hx hb hts hown hW (81) 44 (111) rfl rfl cw_12 rfl (by decide) k_X12_110 dX12_ends_53 ?_
        refine lv_bipush (v := 8) hx hb dX12_ends_56 (by decide) ?_
        refine m_iald hx hb hW (111) rfl (vp_in_iff.mpr ⟨by decide, by decide⟩) dX12_ends_58 ?_
        refine lv_topi (fun x28 ex28 => ?_)
        have ex28 : x28 = ov := by rw [ex28, ← hμ23]; exact h_ov
        have ex28 := ex28.symm
        subst ex28
        refine m_iast hx hb hW (109) rfl (m_ixI (rfl : x27.toInt = _) (by omega) (by omega)) dX12_ends_59 (fun H locs hW _ => ?_)
        generalize hμ29 : m_si μ23 (109) (x27 : Int32).toNatClampNeg ov = μ29 at hW
        have hps : m_PS μ29 := hps.ends (ov := ov) (nv := nv2) (y := x11) (bv := x12) (k := x27) (by exact h_ov) (by omega) (by exact h_nv) (by omega) hμ23 (by omega) (by rw [← hμ23]; exact ex12.symm) (by omega) (by omega) (by omega) hμ29
        have hgp : m_GP μ29 := hgp.pa hμ29 (by have := m_ckI (x := x27) (by omega); omega)
        have hI := hI.si1 hμ29 rfl (by omega) hS41
        refine lv_goto (tgt := 0) hx hb dX12_ends_60 (by decide) ?_
        exact ih  x11 (by omega) (by omega) μ29 hI (by rw [← hμ29, ← hμ23]; exact h_av) (by rw [← hμ29, ← hμ23]; exact h_fv) (by rw [← hμ29, ← hμ23]; exact h_tk) (by rw [← hμ29, ← hμ23]; exact h_uv) (by rw [← hμ29, ← hμ23]; exact h_ov) (by rw [← hμ29, ← hμ23]; first | rfl | exact if_pos ⟨rfl, rfl⟩) (hps) (hgp) _ _ hW ls (lv_sub hl [0] rfl)
set_option maxHeartbeats 4000000 in
set_option maxRecDepth 100000 in
theorem g_X12_ends (l : Launch) (D : va_G) (cy : Nat → ClassId) (b : Nat) (S : Nat → Bool) (μ0 : mM) (hS24 : S 24 = true) (hS25 : S 25 = true) (hS33 : S 33 = true) (hS34 : S 34 = true) (hS35 : S 35 = true) (hS36 : S 36 = true) (hS41 : S 41 = true) (av fv tk uv ov : Int32) (h_g : 0 ≤ av.toInt ∧ av.toInt ≤ 400 ∧ 0 ≤ fv.toInt ∧ fv.toInt ≤ 400 ∧ 0 ≤ tk.toInt ∧ tk.toInt ≤ 4 ∧ 0 ≤ uv.toInt ∧ uv.toInt ≤ 400 ∧ 0 ≤ ov.toInt ∧ ov.toInt ≤ 400 ∧ uv.toInt ≤ fv.toInt ∧ fv.toInt ≤ av.toInt ∧ (tk.toInt = 0 ∨ fv.toInt + 1 ≤ av.toInt) ∧ ov.toInt ≤ fv.toInt) (μ : mM) (hI : IY S μ0 μ) (h_av : μ.1 81 36 = av) (h_fv : μ.1 81 37 = fv) (h_tk : μ.1 81 38 = tk) (h_uv : μ.1 81 51 = uv) (h_ov : μ.1 111 8 = ov) (hps : m_PS μ) (hgp : m_GP μ) : m_Ci l yX12_ends cX12_ends 1 ((some .int)) 3 D cy b LAY μ [.ref (b + 81)] (fun r ν => IY S μ0 ν ∧ (m_GP ν ∧ (r = -1 ∨ (r = 0 ∧ ((ν.1 81 51).toInt ≤ (ν.1 81 37).toInt ∧ fv.toInt ≤ (ν.1 81 37).toInt ∧ (ν.1 81 37).toInt ≤ (ν.1 81 36).toInt ∧ ((ν.1 81 38).toInt = 0 ∨ (ν.1 81 37).toInt + 1 ≤ (ν.1 81 36).toInt) ∧ (ν.1 111 8).toInt ≤ (ν.1 81 37).toInt) ∧ m_PS ν)))) := by
  unfold m_Ci
  refine m_of (by decide) (Nat.le_of_ble_eq_true rfl) ?_
  intro p e s m below meth c hx hb hr hml hown hts hlocks _ hW ls hl
  have hown : s.vm.findClass RX12 = some m.cls := hown
  have hl : lv_has ls 1 [(0, .ref (b + 81))] := hl
  obtain ⟨x1, hx1⟩ : ∃ z, μ.1 81 53 = z := ⟨_, rfl⟩
  have bx1 : 0 ≤ x1.toInt ∧ x1.toInt ≤ 4 := by rw [← hx1]; exact hI.1 _ _ _ _ rfl
  exact L_X12_ends_0 hx hb hr hml hown hts hlocks S μ0 hS24 hS25 hS33 hS34 hS35 hS36 hS41 av fv tk uv ov h_g  5  x1 (by omega) (by omega) μ hI (by exact h_av) (by exact h_fv) (by exact h_tk) (by exact h_uv) (by exact h_ov) (by exact hx1) (hps) (hgp) _ _ hW ls (lv_sub hl [0] rfl)
set_option maxHeartbeats 4000000 in
set_option maxRecDepth 100000 in
theorem L_X12_readAll_29 {p : Program} {l : Launch} {e : Env} {s : State} {m : MethodId} {args : Array Value} {below : List Frame} {meth : Method} {c : Code} {D : va_G} {cy : Nat → ClassId} {b : Nat} (hx : p.tables.exec = Jvm.exec) (hb : c.code = cX12_readAll) (hr : meth.sig.returnType = ((some .int))) (hml : c.maxLocals = 2) (hown : s.vm.findClass RX12 = some m.cls) (hts : ∀ w ∈ TB, w.before args s = true) (hlocks : meth.locks = false) (S : Nat → Bool) (μ0 : mM) (hS24 : S 24 = true) (hS25 : S 25 = true) (hS33 : S 33 = true) (hS34 : S 34 = true) (hS35 : S 35 = true) (hS36 : S 36 = true) (hS41 : S 41 = true) : ∀ (f : Nat), ∀ (y1 : Int32) (av2 : Int32) (fv2 : Int32) (tk2 : Int32) (uv2 : Int32) (ov2 : Int32) (hy : 0 ≤ y1.toInt ∧ y1.toInt ≤ 1 ∧ 0 ≤ av2.toInt ∧ av2.toInt ≤ 400 ∧ 0 ≤ fv2.toInt ∧ fv2.toInt ≤ 400 ∧ 0 ≤ tk2.toInt ∧ tk2.toInt ≤ 4 ∧ 0 ≤ uv2.toInt ∧ uv2.toInt ≤ 400 ∧ 0 ≤ ov2.toInt ∧ ov2.toInt ≤ 400 ∧ uv2.toInt ≤ fv2.toInt ∧ fv2.toInt ≤ av2.toInt ∧ (tk2.toInt = 0 ∨ fv2.toInt + 1 ≤ av2.toInt) ∧ ov2.toInt ≤ fv2.toInt) (hf : 400 - fv2.toInt < (f : Int)) (μ : mM) (hI : IY S μ0 μ) (h_av2 : μ.1 81 36 = av2) (h_fv2 : μ.1 81 37 = fv2) (h_tk2 : μ.1 81 38 = tk2) (h_uv2 : μ.1 81 51 = uv2) (h_ov2 : μ.1 111 8 = ov2) (hps : m_PS μ) (hgp : m_GP μ) (H : Heap) (locs : List Loc), m_WA (m_A b LAY) D cy s b LAY μ H locs → ∀ ls : Array Slot, lv_has ls 2 [(0, .ref (b + 81)), (1, .int y1)] → W p l e (m_R 6 0 0) s m args below meth c H locs 0 0 (MQ below (m_Qi D cy b LAY (fun r ν => IY S μ0 ν ∧ (m_GP ν ∧ (r = -1 ∨ (r = 0 ∧ m_WD ν))))) args s 0 0 (m_A b LAY)) (F0 m 29 ls []) := by
  intro f
  induction f with
  | zero => intro y1 av2 fv2 tk2 uv2 ov2 hy hf; exfalso; omega
  | succ f ih =>
    intro y1 av2 fv2 tk2 uv2 ov2 hy hf μ hI h_av2 h_fv2 h_tk2 h_uv2 h_ov2 hps hgp H locs hW ls hl
    refine lv_aload_n hx hb dX12_readAll_29 rfl (lv_at hl 0 rfl) ?_
    refine m_geti hx hb hts hown hW (81) 38 rfl rfl cw_12 rfl (by decide) k_X12_254 dX12_readAll_30 ?_
    refine lv_topi (fun x1 ex1 => ?_)
    have ex1 : x1 = tk2 := by rw [ex1]; exact h_tk2
    have ex1 := ex1.symm
    subst ex1
    refine lv_if_ne (tgt := 47) hx hb dX12_readAll_33 (by decide) (fun c2 => ?_) (fun c2 => ?_)
    · have i2 := m_c6 (rfl : tk2.toInt = _) (by decide : (0 : Int32).toInt = 0) c2
      refine lv_iload_n hx hb dX12_readAll_47 rfl (lv_at hl 1 rfl) ?_
      refine lv_if_ne (tgt := 81) hx hb dX12_readAll_48 (by decide) (fun c3 => ?_) (fun c3 => ?_)
      · have i3 := m_c6 (rfl : y1.toInt = _) (by decide : (0 : Int32).toInt = 0) c3
        refine lv_aload_n hx hb dX12_readAll_81 rfl (lv_at hl 0 rfl) ?_
        refine m_geti hx hb hts hown hW (81) 38 rfl rfl cw_12 rfl (by decide) k_X12_254 dX12_readAll_82 ?_
        refine lv_topi (fun x4 ex4 => ?_)
        have ex4 : x4 = tk2 := by rw [ex4]; exact h_tk2
        have ex4 := ex4.symm
        subst ex4
        refine lv_iconst (v := 2) hx hb dX12_readAll_85 (by decide) ?_
        refine lv_icmp_eq (tgt := 95) hx hb dX12_readAll_86 (by decide) (fun c5 => ?_) (fun c5 => ?_)
        · have i5 := m_c5 (rfl : tk2.toInt = _) (by decide : (2 : Int32).toInt = 2) c5
          refine lv_aload_n hx hb dX12_readAll_95 rfl (lv_at hl 0 rfl) ?_
          refine m_geti hx hb hts hown hW (81) 39 rfl rfl cw_12 rfl (by decide) k_X12_257 dX12_readAll_96 ?_
          refine lv_topi (fun x6 ex6 => ?_)
          have bx6 : -1 ≤ x6.toInt ∧ x6.toInt ≤ 99999 := by rw [ex6]; exact hI.1 _ _ _ _ rfl
          refine lv_bipush (v := 9) hx hb dX12_readAll_99 (by decide) ?_
          refine lv_icmp_ne (tgt := 119) hx hb dX12_readAll_101 (by decide) (fun c7 => ?_) (fun c7 => ?_)
          · have i7 := m_c6 (rfl : x6.toInt = _) (by decide : (9 : Int32).toInt = 9) c7
            refine lv_aload_n hx hb dX12_readAll_119 rfl (lv_at hl 0 rfl) ?_
            refine m_geti hx hb hts hown hW (81) 39 rfl rfl cw_12 rfl (by decide) k_X12_257 dX12_readAll_120 ?_
            refine lv_topi (fun x8 ex8 => ?_)
            have ex8 : x8 = x6 := by rw [ex8]; exact ex6.symm
            have ex8 := ex8.symm
            subst ex8
            refine lv_bipush (v := 6) hx hb dX12_readAll_123 (by decide) ?_
            refine lv_icmp_ne (tgt := 143) hx hb dX12_readAll_125 (by decide) (fun c9 => ?_) (fun c9 => ?_)
            · have i9 := m_c6 (rfl : x6.toInt = _) (by decide : (6 : Int32).toInt = 6) c9
              refine lv_aload_n hx hb dX12_readAll_143 rfl (lv_at hl 0 rfl) ?_
              refine m_geti hx hb hts hown hW (81) 39 rfl rfl cw_12 rfl (by decide) k_X12_257 dX12_readAll_144 ?_
              refine lv_topi (fun x10 ex10 => ?_)
              have ex10 : x10 = x6 := by rw [ex10]; exact ex6.symm
              have ex10 := ex10.symm
              subst ex10
              refine lv_iconst (v := 5) hx hb dX12_readAll_147 (by decide) ?_
              refine lv_icmp_gt (tgt := 174) hx hb dX12_readAll_148 (by decide) (fun c11 => ?_) (fun c11 => ?_)
              · have i11 := m_c1 (by decide : (5 : Int32).toInt = 5) (rfl : x6.toInt = _) c11
                refine lv_aload_n hx hb dX12_readAll_174 rfl (lv_at hl 0 rfl) ?_
                refine lv_iconst (v := 1) hx hb dX12_readAll_175 (by decide) ?_
                have l_1 : (1 : Int32).toInt = 1 := by decide
                refine m_aI hW (m_runV (As := [.int 1]) (rest := []) hx hb hml hown hts hW (81) (g_X12_fails l D cy b (fun g => [36].contains g) μ rfl 1 μ (IY.rf hI.1)) mi_X12_fails k_X12_282 rfl rfl rfl hl.1 rfl (Nat.le_of_ble_eq_true rfl) dX12_readAll_176 ⟨Nat.le_of_ble_eq_true rfl, Nat.le_of_ble_eq_true rfl⟩ ⟨Nat.le_of_ble_eq_true rfl, Nat.le_of_ble_eq_true rfl⟩) (fun x12 μ12 H locs q12 hW => ?_)
                obtain ⟨hJ12, q12⟩ := q12
                have hI := hI.tr hJ12 (m_subL (by simp [hS36]))
                have hps : m_PS μ12 := hps.fr hJ12 rfl rfl rfl
                have hgp : m_GP μ12 := hgp.fr hJ12 rfl rfl
                have q12 := q12.symm
                subst q12
                exact m_iret hx hb hr hlocks hW rfl (⟨hI, ⟨hgp, Or.inl rfl⟩⟩) dX12_readAll_179
              · have i11 := m_c2 (by decide : (5 : Int32).toInt = 5) (rfl : x6.toInt = _) c11
                refine lv_aload_n hx hb dX12_readAll_151 rfl (lv_at hl 0 rfl) ?_
                refine m_aI hW (m_runV (As := []) (rest := []) hx hb hml hown hts hW (81) (g_X12_readPlain l D cy b S μ0 hS24 hS25 hS33 hS34 hS35 hS36 hS41 av2 fv2 tk2 uv2 ov2 x6 (by omega) μ hI (by exact h_av2) (by exact h_fv2) (by exact h_tk2) (by exact h_uv2) (by exact h_ov2) (by exact ex6.symm) hps hgp) mi_X12_readPlain k_X12_326 rfl rfl rfl hl.1 rfl (Nat.le_of_ble_eq_true rfl) dX12_readAll_152 ⟨Nat.le_of_ble_eq_true rfl, Nat.le_of_ble_eq_true rfl⟩ ⟨Nat.le_of_ble_eq_true rfl, Nat.le_of_ble_eq_true rfl⟩) (fun x13 μ13 H locs q13 hW => ?_)
                obtain ⟨hI, q13⟩ := q13
                obtain ⟨hgp, q13⟩ := q13
                rcases q13 with rfl | ⟨rfl, q13, hps⟩
                · refine lv_iconst (v := (-1)) hx hb dX12_readAll_155 (by decide) ?_
                  refine lv_icmp_eq (tgt := 167) hx hb dX12_readAll_156 (by decide) (fun _ => ?_) (fun c => False.elim (by revert c; decide))
                  refine lv_iconst (v := (-1)) hx hb dX12_readAll_167 (by decide) ?_
                  exact m_iret hx hb hr hlocks hW rfl (⟨hI, ⟨hgp, Or.inl rfl⟩⟩) dX12_readAll_168
                · obtain ⟨x14, hx14⟩ : ∃ z, μ13.1 81 51 = z := ⟨_, rfl⟩
                  have bx14 : 0 ≤ x14.toInt ∧ x14.toInt ≤ 400 := by rw [← hx14]; exact hI.1 _ _ _ _ rfl
                  rw [show μ13.1 81 51 = x14 from by exact hx14] at q13
                  obtain ⟨x15, hx15⟩ : ∃ z, μ13.1 81 37 = z := ⟨_, rfl⟩
                  have bx15 : 0 ≤ x15.toInt ∧ x15.toInt ≤ 400 := by rw [← hx15]; exact hI.1 _ _ _ _ rfl
                  rw [show μ13.1 81 37 = x15 from by exact hx15] at q13
                  obtain ⟨x16, hx16⟩ : ∃ z, μ13.1 81 36 = z := ⟨_, rfl⟩
                  have bx16 : 0 ≤ x16.toInt ∧ x16.toInt ≤ 400 := by rw [← hx16]; exact hI.1 _ _ _ _ rfl
                  rw [show μ13.1 81 36 = x16 from by exact hx16] at q13
                  obtain ⟨x17, hx17⟩ : ∃ z, μ13.1 81 38 = z := ⟨_, rfl⟩
                  have bx17 : 0 ≤ x17.toInt ∧ x17.toInt ≤ 4 := by rw [← hx17]; exact hI.1 _ _ _ _ rfl
                  rw [show μ13.1 81 38 = x17 from by exact hx17] at q13
                  obtain ⟨x18, hx18⟩ : ∃ z, μ13.1 111 8 = z := ⟨_, rfl⟩
                  have bx18 : 0 ≤ x18.toInt ∧ x18.toInt ≤ 400 := by rw [← hx18]; exact hI.1 _ _ _ _ rfl
                  rw [show μ13.1 111 8 = x18 from by exact hx18] at q13
                  refine lv_iconst (v := (-1)) hx hb dX12_readAll_155 (by decide) ?_
                  refine lv_icmp_eq (tgt := 167) hx hb dX12_readAll_156 (by decide) (fun c => False.elim (by revert c; decide)) (fun _ => ?_)
                  refine lv_aload_n hx hb dX12_readAll_159 rfl (lv_at hl 0 rfl) ?_
                  refine m_aI hW (m_runV (As := []) (rest := []) hx hb hml hown hts hW (81) (g_X12_ends l D cy b S μ0 hS24 hS25 hS33 hS34 hS35 hS36 hS41 x16 x15 x17 x14 x18 (by omega) μ13 hI (by exact hx16) (by exact hx15) (by exact hx17) (by exact hx14) (by exact hx18) hps hgp) mi_X12_ends k_X12_317 rfl rfl rfl hl.1 rfl (Nat.le_of_ble_eq_true rfl) dX12_readAll_160 ⟨Nat.le_of_ble_eq_true rfl, Nat.le_of_ble_eq_true rfl⟩ ⟨Nat.le_of_ble_eq_true rfl, Nat.le_of_ble_eq_true rfl⟩) (fun x19 μ19 H locs q19 hW => ?_)
                  obtain ⟨hI, q19⟩ := q19
                  obtain ⟨hgp, q19⟩ := q19
                  rcases q19 with rfl | ⟨rfl, q19, hps⟩
                  · refine lv_iconst (v := (-1)) hx hb dX12_readAll_163 (by decide) ?_
                    refine lv_icmp_ne (tgt := 169) hx hb dX12_readAll_164 (by decide) (fun c => False.elim (by revert c; decide)) (fun _ => ?_)
                    refine lv_iconst (v := (-1)) hx hb dX12_readAll_167 (by decide) ?_
                    exact m_iret hx hb hr hlocks hW rfl (⟨hI, ⟨hgp, Or.inl rfl⟩⟩) dX12_readAll_168
                  · obtain ⟨x20, hx20⟩ : ∃ z, μ19.1 81 51 = z := ⟨_, rfl⟩
                    have bx20 : 0 ≤ x20.toInt ∧ x20.toInt ≤ 400 := by rw [← hx20]; exact hI.1 _ _ _ _ rfl
                    rw [show μ19.1 81 51 = x20 from by exact hx20] at q19
                    obtain ⟨x21, hx21⟩ : ∃ z, μ19.1 81 37 = z := ⟨_, rfl⟩
                    have bx21 : 0 ≤ x21.toInt ∧ x21.toInt ≤ 400 := by rw [← hx21]; exact hI.1 _ _ _ _ rfl
                    rw [show μ19.1 81 37 = x21 from by exact hx21] at q19
                    obtain ⟨x22, hx22⟩ : ∃ z, μ19.1 81 36 = z := ⟨_, rfl⟩
                    have bx22 : 0 ≤ x22.toInt ∧ x22.toInt ≤ 400 := by rw [← hx22]; exact hI.1 _ _ _ _ rfl
                    rw [show μ19.1 81 36 = x22 from by exact hx22] at q19
                    obtain ⟨x23, hx23⟩ : ∃ z, μ19.1 81 38 = z := ⟨_, rfl⟩
                    have bx23 : 0 ≤ x23.toInt ∧ x23.toInt ≤ 4 := by rw [← hx23]; exact hI.1 _ _ _ _ rfl
                    rw [show μ19.1 81 38 = x23 from by exact hx23] at q19
                    obtain ⟨x24, hx24⟩ : ∃ z, μ19.1 111 8 = z := ⟨_, rfl⟩
                    have bx24 : 0 ≤ x24.toInt ∧ x24.toInt ≤ 400 := by rw [← hx24]; exact hI.1 _ _ _ _ rfl
                    rw [show μ19.1 111 8 = x24 from by exact hx24] at q19
                    refine lv_iconst (v := (-1)) hx hb dX12_readAll_163 (by decide) ?_
                    refine lv_icmp_ne (tgt := 169) hx hb dX12_readAll_164 (by decide) (fun _ => ?_) (fun c => False.elim (by revert c; decide))
                    refine lv_iconst (v := 0) hx hb dX12_readAll_169 (by decide) ?_
                    refine lv_istore_n (lv' := [(1, .int 0), (0, .ref (b + 81))]) hx hb dX12_readAll_170 rfl hl (by decide) rfl (fun ls hl => ?_)
                    refine lv_goto (tgt := 29) hx hb dX12_readAll_171 (by decide) ?_
                    have l_0 : (0 : Int32).toInt = 0 := by decide
                    exact ih 0 x22 x21 x23 x20 x24 (by omega) (by omega) μ19 hI (by exact hx22) (by exact hx21) (by exact hx23) (by exact hx20) (by exact hx24) (hps) (hgp) _ _ hW ls (lv_sub hl [1, 0] rfl)
            · have i9 := m_c5 (rfl : x6.toInt = _) (by decide : (6 : Int32).toInt = 6) c9
              refine lv_aload_n hx hb dX12_readAll_128 rfl (lv_at hl 0 rfl) ?_
              refine m_aI hW (m_runV (As := []) (rest := []) hx hb hml hown hts hW (81) (g_X12_readAgain l D cy b S μ0 hS24 hS25 hS33 hS34 hS35 hS36 hS41 av2 fv2 tk2 uv2 ov2 (by omega) μ hI (by exact h_av2) (by exact h_fv2) (by exact h_tk2) (by exact h_uv2) (by exact h_ov2) hps hgp) mi_X12_readAgain k_X12_323 rfl rfl rfl hl.1 rfl (Nat.le_of_ble_eq_true rfl) dX12_readAll_129 ⟨Nat.le_of_ble_eq_true rfl, Nat.le_of_ble_eq_true rfl⟩ ⟨Nat.le_of_ble_eq_true rfl, Nat.le_of_ble_eq_true rfl⟩) (fun x25 μ25 H locs q25 hW => ?_)
              obtain ⟨hI, q25⟩ := q25
              obtain ⟨hgp, q25⟩ := q25
              rcases q25 with rfl | ⟨rfl, q25, hps⟩
              · refine lv_iconst (v := (-1)) hx hb dX12_readAll_132 (by decide) ?_
                refine lv_icmp_ne (tgt := 138) hx hb dX12_readAll_133 (by decide) (fun c => False.elim (by revert c; decide)) (fun _ => ?_)
                refine lv_iconst (v := (-1)) hx hb dX12_readAll_136 (by decide) ?_
                exact m_iret hx hb hr hlocks hW rfl (⟨hI, ⟨hgp, Or.inl rfl⟩⟩) dX12_readAll_137
              · obtain ⟨x26, hx26⟩ : ∃ z, μ25.1 81 51 = z := ⟨_, rfl⟩
                have bx26 : 0 ≤ x26.toInt ∧ x26.toInt ≤ 400 := by rw [← hx26]; exact hI.1 _ _ _ _ rfl
                rw [show μ25.1 81 51 = x26 from by exact hx26] at q25
                obtain ⟨x27, hx27⟩ : ∃ z, μ25.1 81 37 = z := ⟨_, rfl⟩
                have bx27 : 0 ≤ x27.toInt ∧ x27.toInt ≤ 400 := by rw [← hx27]; exact hI.1 _ _ _ _ rfl
                rw [show μ25.1 81 37 = x27 from by exact hx27] at q25
                obtain ⟨x28, hx28⟩ : ∃ z, μ25.1 81 36 = z := ⟨_, rfl⟩
                have bx28 : 0 ≤ x28.toInt ∧ x28.toInt ≤ 400 := by rw [← hx28]; exact hI.1 _ _ _ _ rfl
                rw [show μ25.1 81 36 = x28 from by exact hx28] at q25
                obtain ⟨x29, hx29⟩ : ∃ z, μ25.1 81 38 = z := ⟨_, rfl⟩
                have bx29 : 0 ≤ x29.toInt ∧ x29.toInt ≤ 4 := by rw [← hx29]; exact hI.1 _ _ _ _ rfl
                rw [show μ25.1 81 38 = x29 from by exact hx29] at q25
                obtain ⟨x30, hx30⟩ : ∃ z, μ25.1 111 8 = z := ⟨_, rfl⟩
                have bx30 : 0 ≤ x30.toInt ∧ x30.toInt ≤ 400 := by rw [← hx30]; exact hI.1 _ _ _ _ rfl
                rw [show μ25.1 111 8 = x30 from by exact hx30] at q25
                refine lv_iconst (v := (-1)) hx hb dX12_readAll_132 (by decide) ?_
                refine lv_icmp_ne (tgt := 138) hx hb dX12_readAll_133 (by decide) (fun _ => ?_) (fun c => False.elim (by revert c; decide))
                refine lv_iconst (v := 0) hx hb dX12_readAll_138 (by decide) ?_
                refine lv_istore_n (lv' := [(1, .int 0), (0, .ref (b + 81))]) hx hb dX12_readAll_139 rfl hl (by decide) rfl (fun ls hl => ?_)
                refine lv_goto (tgt := 29) hx hb dX12_readAll_140 (by decide) ?_
                have l_0 : (0 : Int32).toInt = 0 := by decide
                exact ih 0 x28 x27 x29 x26 x30 (by omega) (by omega) μ25 hI (by exact hx28) (by exact hx27) (by exact hx29) (by exact hx26) (by exact hx30) (hps) (hgp) _ _ hW ls (lv_sub hl [1, 0] rfl)
          · have i7 := m_c5 (rfl : x6.toInt = _) (by decide : (9 : Int32).toInt = 9) c7
            refine lv_aload_n hx hb dX12_readAll_104 rfl (lv_at hl 0 rfl) ?_
            refine m_aI hW (m_runV (As := []) (rest := []) hx hb hml hown hts hW (81) (g_X12_readIf l D cy b S μ0 hS24 hS25 hS33 hS34 hS35 hS36 hS41 av2 fv2 tk2 uv2 ov2 (by omega) μ hI (by exact h_av2) (by exact h_fv2) (by exact h_tk2) (by exact h_uv2) (by exact h_ov2) hps hgp) mi_X12_readIf k_X12_320 rfl rfl rfl hl.1 rfl (Nat.le_of_ble_eq_true rfl) dX12_readAll_105 ⟨Nat.le_of_ble_eq_true rfl, Nat.le_of_ble_eq_true rfl⟩ ⟨Nat.le_of_ble_eq_true rfl, Nat.le_of_ble_eq_true rfl⟩) (fun x31 μ31 H locs q31 hW => ?_)
            obtain ⟨hI, q31⟩ := q31
            obtain ⟨hgp, q31⟩ := q31
            rcases q31 with rfl | ⟨rfl, q31, hps⟩
            · refine lv_iconst (v := (-1)) hx hb dX12_readAll_108 (by decide) ?_
              refine lv_icmp_ne (tgt := 114) hx hb dX12_readAll_109 (by decide) (fun c => False.elim (by revert c; decide)) (fun _ => ?_)
              refine lv_iconst (v := (-1)) hx hb dX12_readAll_112 (by decide) ?_
              exact m_iret hx hb hr hlocks hW rfl (⟨hI, ⟨hgp, Or.inl rfl⟩⟩) dX12_readAll_113
            · obtain ⟨x32, hx32⟩ : ∃ z, μ31.1 81 51 = z := ⟨_, rfl⟩
              have bx32 : 0 ≤ x32.toInt ∧ x32.toInt ≤ 400 := by rw [← hx32]; exact hI.1 _ _ _ _ rfl
              rw [show μ31.1 81 51 = x32 from by exact hx32] at q31
              obtain ⟨x33, hx33⟩ : ∃ z, μ31.1 81 37 = z := ⟨_, rfl⟩
              have bx33 : 0 ≤ x33.toInt ∧ x33.toInt ≤ 400 := by rw [← hx33]; exact hI.1 _ _ _ _ rfl
              rw [show μ31.1 81 37 = x33 from by exact hx33] at q31
              obtain ⟨x34, hx34⟩ : ∃ z, μ31.1 81 36 = z := ⟨_, rfl⟩
              have bx34 : 0 ≤ x34.toInt ∧ x34.toInt ≤ 400 := by rw [← hx34]; exact hI.1 _ _ _ _ rfl
              rw [show μ31.1 81 36 = x34 from by exact hx34] at q31
              obtain ⟨x35, hx35⟩ : ∃ z, μ31.1 81 38 = z := ⟨_, rfl⟩
              have bx35 : 0 ≤ x35.toInt ∧ x35.toInt ≤ 4 := by rw [← hx35]; exact hI.1 _ _ _ _ rfl
              rw [show μ31.1 81 38 = x35 from by exact hx35] at q31
              obtain ⟨x36, hx36⟩ : ∃ z, μ31.1 111 8 = z := ⟨_, rfl⟩
              have bx36 : 0 ≤ x36.toInt ∧ x36.toInt ≤ 400 := by rw [← hx36]; exact hI.1 _ _ _ _ rfl
              rw [show μ31.1 111 8 = x36 from by exact hx36] at q31
              refine lv_iconst (v := (-1)) hx hb dX12_readAll_108 (by decide) ?_
              refine lv_icmp_ne (tgt := 114) hx hb dX12_readAll_109 (by decide) (fun _ => ?_) (fun c => False.elim (by revert c; decide))
              refine lv_iconst (v := 1) hx hb dX12_readAll_114 (by decide) ?_
              refine lv_istore_n (lv' := [(1, .int 1), (0, .ref (b + 81))]) hx hb dX12_readAll_115 rfl hl (by decide) rfl (fun ls hl => ?_)
              refine lv_goto (tgt := 29) hx hb dX12_readAll_116 (by decide) ?_
              have l_1 : (1 : Int32).toInt = 1 := by decide
              exact ih 1 x34 x33 x35 x32 x36 (by omega) (by omega) μ31 hI (by exact hx34) (by exact hx33) (by exact hx35) (by exact hx32) (by exact hx36) (hps) (hgp) _ _ hW ls (lv_sub hl [1, 0] rfl)
        · have i5 := m_c6 (rfl : tk2.toInt = _) (by decide : (2 : Int32).toInt = 2) c5
          refine lv_aload_n hx hb dX12_readAll_89 rfl (lv_at hl 0 rfl) ?_
          refine lv_iconst (v := 1) hx hb dX12_readAll_90 (by decide) ?_
          have l_1 : (1 : Int32).toInt = 1 := by decide
          refine m_aI hW (m_runV (As := [.int 1]) (rest := []) hx hb hml hown hts hW (81) (g_X12_fails l D cy b (fun g => [36].contains g) μ rfl 1 μ (IY.rf hI.1)) mi_X12_fails k_X12_282 rfl rfl rfl hl.1 rfl (Nat.le_of_ble_eq_true rfl) dX12_readAll_91 ⟨Nat.le_of_ble_eq_true rfl, Nat.le_of_ble_eq_true rfl⟩ ⟨Nat.le_of_ble_eq_true rfl, Nat.le_of_ble_eq_true rfl⟩) (fun x37 μ37 H locs q37 hW => ?_)
          obtain ⟨hJ37, q37⟩ := q37
          have hI := hI.tr hJ37 (m_subL (by simp [hS36]))
          have hps : m_PS μ37 := hps.fr hJ37 rfl rfl rfl
          have hgp : m_GP μ37 := hgp.fr hJ37 rfl rfl
          have q37 := q37.symm
          subst q37
          exact m_iret hx hb hr hlocks hW rfl (⟨hI, ⟨hgp, Or.inl rfl⟩⟩) dX12_readAll_94
      · have i3 := m_c5 (rfl : y1.toInt = _) (by decide : (0 : Int32).toInt = 0) c3
        refine lv_aload_n hx hb dX12_readAll_51 rfl (lv_at hl 0 rfl) ?_
        refine lv_bipush (v := 8) hx hb dX12_readAll_52 (by decide) ?_
        have l_8 : (8 : Int32).toInt = 8 := by decide
        refine m_aI hW (m_runV (As := [.int 8]) (rest := []) hx hb hml hown hts hW (81) (g_X12_isWord l D cy b 8 μ hI.1) mi_X12_isWord k_X12_307 rfl rfl rfl hl.1 rfl (Nat.le_of_ble_eq_true rfl) dX12_readAll_54 ⟨Nat.le_of_ble_eq_true rfl, Nat.le_of_ble_eq_true rfl⟩ ⟨Nat.le_of_ble_eq_true rfl, Nat.le_of_ble_eq_true rfl⟩) (fun x38 μ38 H locs q38 hW => ?_)
        obtain ⟨q38_m, q38⟩ := q38
        subst q38_m
        rcases q38 with ⟨rfl, q38⟩ | rfl
        · rw [show μ.1 81 38 = tk2 from by exact h_tk2] at q38
          refine lv_if_eq (tgt := 81) hx hb dX12_readAll_57 (by decide) (fun c => False.elim (by revert c; decide)) (fun _ => ?_)
          refine lv_aload_n hx hb dX12_readAll_60 rfl (lv_at hl 0 rfl) ?_
          obtain ⟨x39, hx39⟩ : ∃ z, μ.1 81 53 = z := ⟨_, rfl⟩
          have bx39 : 0 ≤ x39.toInt ∧ x39.toInt ≤ 4 := by rw [← hx39]; exact hI.1 _ _ _ _ rfl
          refine m_aI hW (m_runV (As := []) (rest := []) hx hb hml hown hts hW (81) (g_X12_isInAgain l D cy b x39 (by omega) μ hI.1 (by exact hx39)) mi_X12_isInAgain k_X12_310 rfl rfl rfl hl.1 rfl (Nat.le_of_ble_eq_true rfl) dX12_readAll_61 ⟨Nat.le_of_ble_eq_true rfl, Nat.le_of_ble_eq_true rfl⟩ ⟨Nat.le_of_ble_eq_true rfl, Nat.le_of_ble_eq_true rfl⟩) (fun x40 μ40 H locs q40 hW => ?_)
          obtain ⟨q40_m, q40⟩ := q40
          subst q40_m
          rcases q40 with ⟨rfl, q40, hbt⟩ | rfl
          · refine lv_if_eq (tgt := 81) hx hb dX12_readAll_64 (by decide) (fun c => False.elim (by revert c; decide)) (fun _ => ?_)
            refine lv_aload_n hx hb dX12_readAll_67 rfl (lv_at hl 0 rfl) ?_
            refine m_aV hW (m_runV (As := []) (rest := []) hx hb hml hown hts hW (81) (g_X12_closes l D cy b S μ0 hS24 hS25 hS33 hS34 hS35 hS36 hS41 av2 fv2 tk2 uv2 ov2 x39 (by omega) μ hI (by exact h_av2) (by exact h_fv2) (by exact h_tk2) (by exact h_uv2) (by exact h_ov2) (by exact hx39) hps hgp hbt) mi_X12_closes k_X12_314 rfl rfl rfl hl.1 rfl (Nat.le_of_ble_eq_true rfl) dX12_readAll_68 ⟨Nat.le_of_ble_eq_true rfl, Nat.le_of_ble_eq_true rfl⟩ ⟨Nat.le_of_ble_eq_true rfl, Nat.le_of_ble_eq_true rfl⟩) (fun μ41 H locs q41 hW => ?_)
            obtain ⟨hI, q41⟩ := q41
            obtain ⟨hgp, q41, hps⟩ := q41
            obtain ⟨x42, hx42⟩ : ∃ z, μ41.1 81 51 = z := ⟨_, rfl⟩
            have bx42 : 0 ≤ x42.toInt ∧ x42.toInt ≤ 400 := by rw [← hx42]; exact hI.1 _ _ _ _ rfl
            rw [show μ41.1 81 51 = x42 from by exact hx42] at q41
            obtain ⟨x43, hx43⟩ : ∃ z, μ41.1 81 37 = z := ⟨_, rfl⟩
            have bx43 : 0 ≤ x43.toInt ∧ x43.toInt ≤ 400 := by rw [← hx43]; exact hI.1 _ _ _ _ rfl
            rw [show μ41.1 81 37 = x43 from by exact hx43] at q41
            obtain ⟨x44, hx44⟩ : ∃ z, μ41.1 81 36 = z := ⟨_, rfl⟩
            have bx44 : 0 ≤ x44.toInt ∧ x44.toInt ≤ 400 := by rw [← hx44]; exact hI.1 _ _ _ _ rfl
            rw [show μ41.1 81 36 = x44 from by exact hx44] at q41
            obtain ⟨x45, hx45⟩ : ∃ z, μ41.1 81 38 = z := ⟨_, rfl⟩
            have bx45 : 0 ≤ x45.toInt ∧ x45.toInt ≤ 4 := by rw [← hx45]; exact hI.1 _ _ _ _ rfl
            rw [show μ41.1 81 38 = x45 from by exact hx45] at q41
            obtain ⟨x46, hx46⟩ : ∃ z, μ41.1 111 8 = z := ⟨_, rfl⟩
            have bx46 : 0 ≤ x46.toInt ∧ x46.toInt ≤ 400 := by rw [← hx46]; exact hI.1 _ _ _ _ rfl
            rw [show μ41.1 111 8 = x46 from by exact hx46] at q41
            refine lv_aload_n hx hb dX12_readAll_71 rfl (lv_at hl 0 rfl) ?_
            refine m_aI hW (m_runV (As := []) (rest := []) hx hb hml hown hts hW (81) (g_X12_ends l D cy b S μ0 hS24 hS25 hS33 hS34 hS35 hS36 hS41 x44 x43 x45 x42 x46 (by omega) μ41 hI (by exact hx44) (by exact hx43) (by exact hx45) (by exact hx42) (by exact hx46) hps hgp) mi_X12_ends k_X12_317 rfl rfl rfl hl.1 rfl (Nat.le_of_ble_eq_true rfl) dX12_readAll_72 ⟨Nat.le_of_ble_eq_true rfl, Nat.le_of_ble_eq_true rfl⟩ ⟨Nat.le_of_ble_eq_true rfl, Nat.le_of_ble_eq_true rfl⟩) (fun x47 μ47 H locs q47 hW => ?_)
            obtain ⟨hI, q47⟩ := q47
            obtain ⟨hgp, q47⟩ := q47
            rcases q47 with rfl | ⟨rfl, q47, hps⟩
            · refine lv_iconst (v := (-1)) hx hb dX12_readAll_75 (by decide) ?_
              refine lv_icmp_ne (tgt := 29) hx hb dX12_readAll_76 (by decide) (fun c => False.elim (by revert c; decide)) (fun _ => ?_)
              refine lv_iconst (v := (-1)) hx hb dX12_readAll_79 (by decide) ?_
              exact m_iret hx hb hr hlocks hW rfl (⟨hI, ⟨hgp, Or.inl rfl⟩⟩) dX12_readAll_80
            · obtain ⟨x48, hx48⟩ : ∃ z, μ47.1 81 51 = z := ⟨_, rfl⟩
              have bx48 : 0 ≤ x48.toInt ∧ x48.toInt ≤ 400 := by rw [← hx48]; exact hI.1 _ _ _ _ rfl
              rw [show μ47.1 81 51 = x48 from by exact hx48] at q47
              obtain ⟨x49, hx49⟩ : ∃ z, μ47.1 81 37 = z := ⟨_, rfl⟩
              have bx49 : 0 ≤ x49.toInt ∧ x49.toInt ≤ 400 := by rw [← hx49]; exact hI.1 _ _ _ _ rfl
              rw [show μ47.1 81 37 = x49 from by exact hx49] at q47
              obtain ⟨x50, hx50⟩ : ∃ z, μ47.1 81 36 = z := ⟨_, rfl⟩
              have bx50 : 0 ≤ x50.toInt ∧ x50.toInt ≤ 400 := by rw [← hx50]; exact hI.1 _ _ _ _ rfl
              rw [show μ47.1 81 36 = x50 from by exact hx50] at q47
              obtain ⟨x51, hx51⟩ : ∃ z, μ47.1 81 38 = z := ⟨_, rfl⟩
              have bx51 : 0 ≤ x51.toInt ∧ x51.toInt ≤ 4 := by rw [← hx51]; exact hI.1 _ _ _ _ rfl
              rw [show μ47.1 81 38 = x51 from by exact hx51] at q47
              obtain ⟨x52, hx52⟩ : ∃ z, μ47.1 111 8 = z := ⟨_, rfl⟩
              have bx52 : 0 ≤ x52.toInt ∧ x52.toInt ≤ 400 := by rw [← hx52]; exact hI.1 _ _ _ _ rfl
              rw [show μ47.1 111 8 = x52 from by exact hx52] at q47
              refine lv_iconst (v := (-1)) hx hb dX12_readAll_75 (by decide) ?_
              refine lv_icmp_ne (tgt := 29) hx hb dX12_readAll_76 (by decide) (fun _ => ?_) (fun c => False.elim (by revert c; decide))
              exact ih y1 x50 x49 x51 x48 x52 (by omega) (by omega) μ47 hI (by exact hx50) (by exact hx49) (by exact hx51) (by exact hx48) (by exact hx52) (hps) (hgp) _ _ hW ls (lv_sub hl [0, 1] rfl)
          · refine lv_if_eq (tgt := 81) hx hb dX12_readAll_64 (by decide) (fun _ => ?_) (fun c => False.elim (by revert c; decide))
            refine lv_aload_n hx hb dX12_readAll_81 rfl (lv_at hl 0 rfl) ?_
            refine m_geti hx hb hts hown hW (81) 38 rfl rfl cw_12 rfl (by decide) k_X12_254 dX12_readAll_82 ?_
            refine lv_topi (fun x53 ex53 => ?_)
            have ex53 : x53 = tk2 := by rw [ex53]; exact h_tk2
            have ex53 := ex53.symm
            subst ex53
            refine lv_iconst (v := 2) hx hb dX12_readAll_85 (by decide) ?_
            refine lv_icmp_eq (tgt := 95) hx hb dX12_readAll_86 (by decide) (fun c54 => ?_) (fun c54 => ?_)
            · have i54 := m_c5 (rfl : tk2.toInt = _) (by decide : (2 : Int32).toInt = 2) c54
              refine lv_aload_n hx hb dX12_readAll_95 rfl (lv_at hl 0 rfl) ?_
              refine m_geti hx hb hts hown hW (81) 39 rfl rfl cw_12 rfl (by decide) k_X12_257 dX12_readAll_96 ?_
              refine lv_topi (fun x55 ex55 => ?_)
              have bx55 : -1 ≤ x55.toInt ∧ x55.toInt ≤ 99999 := by rw [ex55]; exact hI.1 _ _ _ _ rfl
              refine lv_bipush (v := 9) hx hb dX12_readAll_99 (by decide) ?_
              refine lv_icmp_ne (tgt := 119) hx hb dX12_readAll_101 (by decide) (fun c56 => ?_) (fun c56 => ?_)
              · have i56 := m_c6 (rfl : x55.toInt = _) (by decide : (9 : Int32).toInt = 9) c56
                refine lv_aload_n hx hb dX12_readAll_119 rfl (lv_at hl 0 rfl) ?_
                refine m_geti hx hb hts hown hW (81) 39 rfl rfl cw_12 rfl (by decide) k_X12_257 dX12_readAll_120 ?_
                refine lv_topi (fun x57 ex57 => ?_)
                have ex57 : x57 = x55 := by rw [ex57]; exact ex55.symm
                have ex57 := ex57.symm
                subst ex57
                refine lv_bipush (v := 6) hx hb dX12_readAll_123 (by decide) ?_
                refine lv_icmp_ne (tgt := 143) hx hb dX12_readAll_125 (by decide) (fun c58 => ?_) (fun c58 => ?_)
                · have i58 := m_c6 (rfl : x55.toInt = _) (by decide : (6 : Int32).toInt = 6) c58
                  refine lv_aload_n hx hb dX12_readAll_143 rfl (lv_at hl 0 rfl) ?_
                  refine m_geti hx hb hts hown hW (81) 39 rfl rfl cw_12 rfl (by decide) k_X12_257 dX12_readAll_144 ?_
                  refine lv_topi (fun x59 ex59 => ?_)
                  have ex59 : x59 = x55 := by rw [ex59]; exact ex55.symm
                  have ex59 := ex59.symm
                  subst ex59
                  refine lv_iconst (v := 5) hx hb dX12_readAll_147 (by decide) ?_
                  refine lv_icmp_gt (tgt := 174) hx hb dX12_readAll_148 (by decide) (fun c60 => ?_) (fun c60 => ?_)
                  · have i60 := m_c1 (by decide : (5 : Int32).toInt = 5) (rfl : x55.toInt = _) c60
                    refine lv_aload_n hx hb dX12_readAll_174 rfl (lv_at hl 0 rfl) ?_
                    refine lv_iconst (v := 1) hx hb dX12_readAll_175 (by decide) ?_
                    have l_1 : (1 : Int32).toInt = 1 := by decide
                    refine m_aI hW (m_runV (As := [.int 1]) (rest := []) hx hb hml hown hts hW (81) (g_X12_fails l D cy b (fun g => [36].contains g) μ rfl 1 μ (IY.rf hI.1)) mi_X12_fails k_X12_282 rfl rfl rfl hl.1 rfl (Nat.le_of_ble_eq_true rfl) dX12_readAll_176 ⟨Nat.le_of_ble_eq_true rfl, Nat.le_of_ble_eq_true rfl⟩ ⟨Nat.le_of_ble_eq_true rfl, Nat.le_of_ble_eq_true rfl⟩) (fun x61 μ61 H locs q61 hW => ?_)
                    obtain ⟨hJ61, q61⟩ := q61
                    have hI := hI.tr hJ61 (m_subL (by simp [hS36]))
                    have hps : m_PS μ61 := hps.fr hJ61 rfl rfl rfl
                    have hgp : m_GP μ61 := hgp.fr hJ61 rfl rfl
                    have q61 := q61.symm
                    subst q61
                    exact m_iret hx hb hr hlocks hW rfl (⟨hI, ⟨hgp, Or.inl rfl⟩⟩) dX12_readAll_179
                  · have i60 := m_c2 (by decide : (5 : Int32).toInt = 5) (rfl : x55.toInt = _) c60
                    refine lv_aload_n hx hb dX12_readAll_151 rfl (lv_at hl 0 rfl) ?_
                    refine m_aI hW (m_runV (As := []) (rest := []) hx hb hml hown hts hW (81) (g_X12_readPlain l D cy b S μ0 hS24 hS25 hS33 hS34 hS35 hS36 hS41 av2 fv2 tk2 uv2 ov2 x55 (by omega) μ hI (by exact h_av2) (by exact h_fv2) (by exact h_tk2) (by exact h_uv2) (by exact h_ov2) (by exact ex55.symm) hps hgp) mi_X12_readPlain k_X12_326 rfl rfl rfl hl.1 rfl (Nat.le_of_ble_eq_true rfl) dX12_readAll_152 ⟨Nat.le_of_ble_eq_true rfl, Nat.le_of_ble_eq_true rfl⟩ ⟨Nat.le_of_ble_eq_true rfl, Nat.le_of_ble_eq_true rfl⟩) (fun x62 μ62 H locs q62 hW => ?_)
                    obtain ⟨hI, q62⟩ := q62
                    obtain ⟨hgp, q62⟩ := q62
                    rcases q62 with rfl | ⟨rfl, q62, hps⟩
                    · refine lv_iconst (v := (-1)) hx hb dX12_readAll_155 (by decide) ?_
                      refine lv_icmp_eq (tgt := 167) hx hb dX12_readAll_156 (by decide) (fun _ => ?_) (fun c => False.elim (by revert c; decide))
                      refine lv_iconst (v := (-1)) hx hb dX12_readAll_167 (by decide) ?_
                      exact m_iret hx hb hr hlocks hW rfl (⟨hI, ⟨hgp, Or.inl rfl⟩⟩) dX12_readAll_168
                    · obtain ⟨x63, hx63⟩ : ∃ z, μ62.1 81 51 = z := ⟨_, rfl⟩
                      have bx63 : 0 ≤ x63.toInt ∧ x63.toInt ≤ 400 := by rw [← hx63]; exact hI.1 _ _ _ _ rfl
                      rw [show μ62.1 81 51 = x63 from by exact hx63] at q62
                      obtain ⟨x64, hx64⟩ : ∃ z, μ62.1 81 37 = z := ⟨_, rfl⟩
                      have bx64 : 0 ≤ x64.toInt ∧ x64.toInt ≤ 400 := by rw [← hx64]; exact hI.1 _ _ _ _ rfl
                      rw [show μ62.1 81 37 = x64 from by exact hx64] at q62
                      obtain ⟨x65, hx65⟩ : ∃ z, μ62.1 81 36 = z := ⟨_, rfl⟩
                      have bx65 : 0 ≤ x65.toInt ∧ x65.toInt ≤ 400 := by rw [← hx65]; exact hI.1 _ _ _ _ rfl
                      rw [show μ62.1 81 36 = x65 from by exact hx65] at q62
                      obtain ⟨x66, hx66⟩ : ∃ z, μ62.1 81 38 = z := ⟨_, rfl⟩
                      have bx66 : 0 ≤ x66.toInt ∧ x66.toInt ≤ 4 := by rw [← hx66]; exact hI.1 _ _ _ _ rfl
                      rw [show μ62.1 81 38 = x66 from by exact hx66] at q62
                      obtain ⟨x67, hx67⟩ : ∃ z, μ62.1 111 8 = z := ⟨_, rfl⟩
                      have bx67 : 0 ≤ x67.toInt ∧ x67.toInt ≤ 400 := by rw [← hx67]; exact hI.1 _ _ _ _ rfl
                      rw [show μ62.1 111 8 = x67 from by exact hx67] at q62
                      refine lv_iconst (v := (-1)) hx hb dX12_readAll_155 (by decide) ?_
                      refine lv_icmp_eq (tgt := 167) hx hb dX12_readAll_156 (by decide) (fun c => False.elim (by revert c; decide)) (fun _ => ?_)
                      refine lv_aload_n hx hb dX12_readAll_159 rfl (lv_at hl 0 rfl) ?_
                      refine m_aI hW (m_runV (As := []) (rest := []) hx hb hml hown hts hW (81) (g_X12_ends l D cy b S μ0 hS24 hS25 hS33 hS34 hS35 hS36 hS41 x65 x64 x66 x63 x67 (by omega) μ62 hI (by exact hx65) (by exact hx64) (by exact hx66) (by exact hx63) (by exact hx67) hps hgp) mi_X12_ends k_X12_317 rfl rfl rfl hl.1 rfl (Nat.le_of_ble_eq_true rfl) dX12_readAll_160 ⟨Nat.le_of_ble_eq_true rfl, Nat.le_of_ble_eq_true rfl⟩ ⟨Nat.le_of_ble_eq_true rfl, Nat.le_of_ble_eq_true rfl⟩) (fun x68 μ68 H locs q68 hW => ?_)
                      obtain ⟨hI, q68⟩ := q68
                      obtain ⟨hgp, q68⟩ := q68
                      rcases q68 with rfl | ⟨rfl, q68, hps⟩
                      · refine lv_iconst (v := (-1)) hx hb dX12_readAll_163 (by decide) ?_
                        refine lv_icmp_ne (tgt := 169) hx hb dX12_readAll_164 (by decide) (fun c => False.elim (by revert c; decide)) (fun _ => ?_)
                        refine lv_iconst (v := (-1)) hx hb dX12_readAll_167 (by decide) ?_
                        exact m_iret hx hb hr hlocks hW rfl (⟨hI, ⟨hgp, Or.inl rfl⟩⟩) dX12_readAll_168
                      · obtain ⟨x69, hx69⟩ : ∃ z, μ68.1 81 51 = z := ⟨_, rfl⟩
                        have bx69 : 0 ≤ x69.toInt ∧ x69.toInt ≤ 400 := by rw [← hx69]; exact hI.1 _ _ _ _ rfl
                        rw [show μ68.1 81 51 = x69 from by exact hx69] at q68
                        obtain ⟨x70, hx70⟩ : ∃ z, μ68.1 81 37 = z := ⟨_, rfl⟩
                        have bx70 : 0 ≤ x70.toInt ∧ x70.toInt ≤ 400 := by rw [← hx70]; exact hI.1 _ _ _ _ rfl
                        rw [show μ68.1 81 37 = x70 from by exact hx70] at q68
                        obtain ⟨x71, hx71⟩ : ∃ z, μ68.1 81 36 = z := ⟨_, rfl⟩
                        have bx71 : 0 ≤ x71.toInt ∧ x71.toInt ≤ 400 := by rw [← hx71]; exact hI.1 _ _ _ _ rfl
                        rw [show μ68.1 81 36 = x71 from by exact hx71] at q68
                        obtain ⟨x72, hx72⟩ : ∃ z, μ68.1 81 38 = z := ⟨_, rfl⟩
                        have bx72 : 0 ≤ x72.toInt ∧ x72.toInt ≤ 4 := by rw [← hx72]; exact hI.1 _ _ _ _ rfl
                        rw [show μ68.1 81 38 = x72 from by exact hx72] at q68
                        obtain ⟨x73, hx73⟩ : ∃ z, μ68.1 111 8 = z := ⟨_, rfl⟩
                        have bx73 : 0 ≤ x73.toInt ∧ x73.toInt ≤ 400 := by rw [← hx73]; exact hI.1 _ _ _ _ rfl
                        rw [show μ68.1 111 8 = x73 from by exact hx73] at q68
                        refine lv_iconst (v := (-1)) hx hb dX12_readAll_163 (by decide) ?_
                        refine lv_icmp_ne (tgt := 169) hx hb dX12_readAll_164 (by decide) (fun _ => ?_) (fun c => False.elim (by revert c; decide))
                        refine lv_iconst (v := 0) hx hb dX12_readAll_169 (by decide) ?_
                        refine lv_istore_n (lv' := [(1, .int 0), (0, .ref (b + 81))]) hx hb dX12_readAll_170 rfl hl (by decide) rfl (fun ls hl => ?_)
                        refine lv_goto (tgt := 29) hx hb dX12_readAll_171 (by decide) ?_
                        have l_0 : (0 : Int32).toInt = 0 := by decide
                        exact ih 0 x71 x70 x72 x69 x73 (by omega) (by omega) μ68 hI (by exact hx71) (by exact hx70) (by exact hx72) (by exact hx69) (by exact hx73) (hps) (hgp) _ _ hW ls (lv_sub hl [1, 0] rfl)
                · have i58 := m_c5 (rfl : x55.toInt = _) (by decide : (6 : Int32).toInt = 6) c58
                  refine lv_aload_n hx hb dX12_readAll_128 rfl (lv_at hl 0 rfl) ?_
                  refine m_aI hW (m_runV (As := []) (rest := []) hx hb hml hown hts hW (81) (g_X12_readAgain l D cy b S μ0 hS24 hS25 hS33 hS34 hS35 hS36 hS41 av2 fv2 tk2 uv2 ov2 (by omega) μ hI (by exact h_av2) (by exact h_fv2) (by exact h_tk2) (by exact h_uv2) (by exact h_ov2) hps hgp) mi_X12_readAgain k_X12_323 rfl rfl rfl hl.1 rfl (Nat.le_of_ble_eq_true rfl) dX12_readAll_129 ⟨Nat.le_of_ble_eq_true rfl, Nat.le_of_ble_eq_true rfl⟩ ⟨Nat.le_of_ble_eq_true rfl, Nat.le_of_ble_eq_true rfl⟩) (fun x74 μ74 H locs q74 hW => ?_)
                  obtain ⟨hI, q74⟩ := q74
                  obtain ⟨hgp, q74⟩ := q74
                  rcases q74 with rfl | ⟨rfl, q74, hps⟩
                  · refine lv_iconst (v := (-1)) hx hb dX12_readAll_132 (by decide) ?_
                    refine lv_icmp_ne (tgt := 138) hx hb dX12_readAll_133 (by decide) (fun c => False.elim (by revert c; decide)) (fun _ => ?_)
                    refine lv_iconst (v := (-1)) hx hb dX12_readAll_136 (by decide) ?_
                    exact m_iret hx hb hr hlocks hW rfl (⟨hI, ⟨hgp, Or.inl rfl⟩⟩) dX12_readAll_137
                  · obtain ⟨x75, hx75⟩ : ∃ z, μ74.1 81 51 = z := ⟨_, rfl⟩
                    have bx75 : 0 ≤ x75.toInt ∧ x75.toInt ≤ 400 := by rw [← hx75]; exact hI.1 _ _ _ _ rfl
                    rw [show μ74.1 81 51 = x75 from by exact hx75] at q74
                    obtain ⟨x76, hx76⟩ : ∃ z, μ74.1 81 37 = z := ⟨_, rfl⟩
                    have bx76 : 0 ≤ x76.toInt ∧ x76.toInt ≤ 400 := by rw [← hx76]; exact hI.1 _ _ _ _ rfl
                    rw [show μ74.1 81 37 = x76 from by exact hx76] at q74
                    obtain ⟨x77, hx77⟩ : ∃ z, μ74.1 81 36 = z := ⟨_, rfl⟩
                    have bx77 : 0 ≤ x77.toInt ∧ x77.toInt ≤ 400 := by rw [← hx77]; exact hI.1 _ _ _ _ rfl
                    rw [show μ74.1 81 36 = x77 from by exact hx77] at q74
                    obtain ⟨x78, hx78⟩ : ∃ z, μ74.1 81 38 = z := ⟨_, rfl⟩
                    have bx78 : 0 ≤ x78.toInt ∧ x78.toInt ≤ 4 := by rw [← hx78]; exact hI.1 _ _ _ _ rfl
                    rw [show μ74.1 81 38 = x78 from by exact hx78] at q74
                    obtain ⟨x79, hx79⟩ : ∃ z, μ74.1 111 8 = z := ⟨_, rfl⟩
                    have bx79 : 0 ≤ x79.toInt ∧ x79.toInt ≤ 400 := by rw [← hx79]; exact hI.1 _ _ _ _ rfl
                    rw [show μ74.1 111 8 = x79 from by exact hx79] at q74
                    refine lv_iconst (v := (-1)) hx hb dX12_readAll_132 (by decide) ?_
                    refine lv_icmp_ne (tgt := 138) hx hb dX12_readAll_133 (by decide) (fun _ => ?_) (fun c => False.elim (by revert c; decide))
                    refine lv_iconst (v := 0) hx hb dX12_readAll_138 (by decide) ?_
                    refine lv_istore_n (lv' := [(1, .int 0), (0, .ref (b + 81))]) hx hb dX12_readAll_139 rfl hl (by decide) rfl (fun ls hl => ?_)
                    refine lv_goto (tgt := 29) hx hb dX12_readAll_140 (by decide) ?_
                    have l_0 : (0 : Int32).toInt = 0 := by decide
                    exact ih 0 x77 x76 x78 x75 x79 (by omega) (by omega) μ74 hI (by exact hx77) (by exact hx76) (by exact hx78) (by exact hx75) (by exact hx79) (hps) (hgp) _ _ hW ls (lv_sub hl [1, 0] rfl)
              · have i56 := m_c5 (rfl : x55.toInt = _) (by decide : (9 : Int32).toInt = 9) c56
                refine lv_aload_n hx hb dX12_readAll_104 rfl (lv_at hl 0 rfl) ?_
                refine m_aI hW (m_runV (As := []) (rest := []) hx hb hml hown hts hW (81) (g_X12_readIf l D cy b S μ0 hS24 hS25 hS33 hS34 hS35 hS36 hS41 av2 fv2 tk2 uv2 ov2 (by omega) μ hI (by exact h_av2) (by exact h_fv2) (by exact h_tk2) (by exact h_uv2) (by exact h_ov2) hps hgp) mi_X12_readIf k_X12_320 rfl rfl rfl hl.1 rfl (Nat.le_of_ble_eq_true rfl) dX12_readAll_105 ⟨Nat.le_of_ble_eq_true rfl, Nat.le_of_ble_eq_true rfl⟩ ⟨Nat.le_of_ble_eq_true rfl, Nat.le_of_ble_eq_true rfl⟩) (fun x80 μ80 H locs q80 hW => ?_)
                obtain ⟨hI, q80⟩ := q80
                obtain ⟨hgp, q80⟩ := q80
                rcases q80 with rfl | ⟨rfl, q80, hps⟩
                · refine lv_iconst (v := (-1)) hx hb dX12_readAll_108 (by decide) ?_
                  refine lv_icmp_ne (tgt := 114) hx hb dX12_readAll_109 (by decide) (fun c => False.elim (by revert c; decide)) (fun _ => ?_)
                  refine lv_iconst (v := (-1)) hx hb dX12_readAll_112 (by decide) ?_
                  exact m_iret hx hb hr hlocks hW rfl (⟨hI, ⟨hgp, Or.inl rfl⟩⟩) dX12_readAll_113
                · obtain ⟨x81, hx81⟩ : ∃ z, μ80.1 81 51 = z := ⟨_, rfl⟩
                  have bx81 : 0 ≤ x81.toInt ∧ x81.toInt ≤ 400 := by rw [← hx81]; exact hI.1 _ _ _ _ rfl
                  rw [show μ80.1 81 51 = x81 from by exact hx81] at q80
                  obtain ⟨x82, hx82⟩ : ∃ z, μ80.1 81 37 = z := ⟨_, rfl⟩
                  have bx82 : 0 ≤ x82.toInt ∧ x82.toInt ≤ 400 := by rw [← hx82]; exact hI.1 _ _ _ _ rfl
                  rw [show μ80.1 81 37 = x82 from by exact hx82] at q80
                  obtain ⟨x83, hx83⟩ : ∃ z, μ80.1 81 36 = z := ⟨_, rfl⟩
                  have bx83 : 0 ≤ x83.toInt ∧ x83.toInt ≤ 400 := by rw [← hx83]; exact hI.1 _ _ _ _ rfl
                  rw [show μ80.1 81 36 = x83 from by exact hx83] at q80
                  obtain ⟨x84, hx84⟩ : ∃ z, μ80.1 81 38 = z := ⟨_, rfl⟩
                  have bx84 : 0 ≤ x84.toInt ∧ x84.toInt ≤ 4 := by rw [← hx84]; exact hI.1 _ _ _ _ rfl
                  rw [show μ80.1 81 38 = x84 from by exact hx84] at q80
                  obtain ⟨x85, hx85⟩ : ∃ z, μ80.1 111 8 = z := ⟨_, rfl⟩
                  have bx85 : 0 ≤ x85.toInt ∧ x85.toInt ≤ 400 := by rw [← hx85]; exact hI.1 _ _ _ _ rfl
                  rw [show μ80.1 111 8 = x85 from by exact hx85] at q80
                  refine lv_iconst (v := (-1)) hx hb dX12_readAll_108 (by decide) ?_
                  refine lv_icmp_ne (tgt := 114) hx hb dX12_readAll_109 (by decide) (fun _ => ?_) (fun c => False.elim (by revert c; decide))
                  refine lv_iconst (v := 1) hx hb dX12_readAll_114 (by decide) ?_
                  refine lv_istore_n (lv' := [(1, .int 1), (0, .ref (b + 81))]) hx hb dX12_readAll_115 rfl hl (by decide) rfl (fun ls hl => ?_)
                  refine lv_goto (tgt := 29) hx hb dX12_readAll_116 (by decide) ?_
                  have l_1 : (1 : Int32).toInt = 1 := by decide
                  exact ih 1 x83 x82 x84 x81 x85 (by omega) (by omega) μ80 hI (by exact hx83) (by exact hx82) (by exact hx84) (by exact hx81) (by exact hx85) (hps) (hgp) _ _ hW ls (lv_sub hl [1, 0] rfl)
            · have i54 := m_c6 (rfl : tk2.toInt = _) (by decide : (2 : Int32).toInt = 2) c54
              refine lv_aload_n hx hb dX12_readAll_89 rfl (lv_at hl 0 rfl) ?_
              refine lv_iconst (v := 1) hx hb dX12_readAll_90 (by decide) ?_
              have l_1 : (1 : Int32).toInt = 1 := by decide
              refine m_aI hW (m_runV (As := [.int 1]) (rest := []) hx hb hml hown hts hW (81) (g_X12_fails l D cy b (fun g => [36].contains g) μ rfl 1 μ (IY.rf hI.1)) mi_X12_fails k_X12_282 rfl rfl rfl hl.1 rfl (Nat.le_of_ble_eq_true rfl) dX12_readAll_91 ⟨Nat.le_of_ble_eq_true rfl, Nat.le_of_ble_eq_true rfl⟩ ⟨Nat.le_of_ble_eq_true rfl, Nat.le_of_ble_eq_true rfl⟩) (fun x86 μ86 H locs q86 hW => ?_)
              obtain ⟨hJ86, q86⟩ := q86
              have hI := hI.tr hJ86 (m_subL (by simp [hS36]))
              have hps : m_PS μ86 := hps.fr hJ86 rfl rfl rfl
              have hgp : m_GP μ86 := hgp.fr hJ86 rfl rfl
              have q86 := q86.symm
              subst q86
              exact m_iret hx hb hr hlocks hW rfl (⟨hI, ⟨hgp, Or.inl rfl⟩⟩) dX12_readAll_94
        · refine lv_if_eq (tgt := 81) hx hb dX12_readAll_57 (by decide) (fun _ => ?_) (fun c => False.elim (by revert c; decide))
          refine lv_aload_n hx hb dX12_readAll_81 rfl (lv_at hl 0 rfl) ?_
          refine m_geti hx hb hts hown hW (81) 38 rfl rfl cw_12 rfl (by decide) k_X12_254 dX12_readAll_82 ?_
          refine lv_topi (fun x87 ex87 => ?_)
          have ex87 : x87 = tk2 := by rw [ex87]; exact h_tk2
          have ex87 := ex87.symm
          subst ex87
          refine lv_iconst (v := 2) hx hb dX12_readAll_85 (by decide) ?_
          refine lv_icmp_eq (tgt := 95) hx hb dX12_readAll_86 (by decide) (fun c88 => ?_) (fun c88 => ?_)
          · have i88 := m_c5 (rfl : tk2.toInt = _) (by decide : (2 : Int32).toInt = 2) c88
            refine lv_aload_n hx hb dX12_readAll_95 rfl (lv_at hl 0 rfl) ?_
            refine m_geti hx hb hts hown hW (81) 39 rfl rfl cw_12 rfl (by decide) k_X12_257 dX12_readAll_96 ?_
            refine lv_topi (fun x89 ex89 => ?_)
            have bx89 : -1 ≤ x89.toInt ∧ x89.toInt ≤ 99999 := by rw [ex89]; exact hI.1 _ _ _ _ rfl
            refine lv_bipush (v := 9) hx hb dX12_readAll_99 (by decide) ?_
            refine lv_icmp_ne (tgt := 119) hx hb dX12_readAll_101 (by decide) (fun c90 => ?_) (fun c90 => ?_)
            · have i90 := m_c6 (rfl : x89.toInt = _) (by decide : (9 : Int32).toInt = 9) c90
              refine lv_aload_n hx hb dX12_readAll_119 rfl (lv_at hl 0 rfl) ?_
              refine m_geti hx hb hts hown hW (81) 39 rfl rfl cw_12 rfl (by decide) k_X12_257 dX12_readAll_120 ?_
              refine lv_topi (fun x91 ex91 => ?_)
              have ex91 : x91 = x89 := by rw [ex91]; exact ex89.symm
              have ex91 := ex91.symm
              subst ex91
              refine lv_bipush (v := 6) hx hb dX12_readAll_123 (by decide) ?_
              refine lv_icmp_ne (tgt := 143) hx hb dX12_readAll_125 (by decide) (fun c92 => ?_) (fun c92 => ?_)
              · have i92 := m_c6 (rfl : x89.toInt = _) (by decide : (6 : Int32).toInt = 6) c92
                refine lv_aload_n hx hb dX12_readAll_143 rfl (lv_at hl 0 rfl) ?_
                refine m_geti hx hb hts hown hW (81) 39 rfl rfl cw_12 rfl (by decide) k_X12_257 dX12_readAll_144 ?_
                refine lv_topi (fun x93 ex93 => ?_)
                have ex93 : x93 = x89 := by rw [ex93]; exact ex89.symm
                have ex93 := ex93.symm
                subst ex93
                refine lv_iconst (v := 5) hx hb dX12_readAll_147 (by decide) ?_
                refine lv_icmp_gt (tgt := 174) hx hb dX12_readAll_148 (by decide) (fun c94 => ?_) (fun c94 => ?_)
                · have i94 := m_c1 (by decide : (5 : Int32).toInt = 5) (rfl : x89.toInt = _) c94
                  refine lv_aload_n hx hb dX12_readAll_174 rfl (lv_at hl 0 rfl) ?_
                  refine lv_iconst (v := 1) hx hb dX12_readAll_175 (by decide) ?_
                  have l_1 : (1 : Int32).toInt = 1 := by decide
                  refine m_aI hW (m_runV (As := [.int 1]) (rest := []) hx hb hml hown hts hW (81) (g_X12_fails l D cy b (fun g => [36].contains g) μ rfl 1 μ (IY.rf hI.1)) mi_X12_fails k_X12_282 rfl rfl rfl hl.1 rfl (Nat.le_of_ble_eq_true rfl) dX12_readAll_176 ⟨Nat.le_of_ble_eq_true rfl, Nat.le_of_ble_eq_true rfl⟩ ⟨Nat.le_of_ble_eq_true rfl, Nat.le_of_ble_eq_true rfl⟩) (fun x95 μ95 H locs q95 hW => ?_)
                  obtain ⟨hJ95, q95⟩ := q95
                  have hI := hI.tr hJ95 (m_subL (by simp [hS36]))
                  have hps : m_PS μ95 := hps.fr hJ95 rfl rfl rfl
                  have hgp : m_GP μ95 := hgp.fr hJ95 rfl rfl
                  have q95 := q95.symm
                  subst q95
                  exact m_iret hx hb hr hlocks hW rfl (⟨hI, ⟨hgp, Or.inl rfl⟩⟩) dX12_readAll_179
                · have i94 := m_c2 (by decide : (5 : Int32).toInt = 5) (rfl : x89.toInt = _) c94
                  refine lv_aload_n hx hb dX12_readAll_151 rfl (lv_at hl 0 rfl) ?_
                  refine m_aI hW (m_runV (As := []) (rest := []) hx hb hml hown hts hW (81) (g_X12_readPlain l D cy b S μ0 hS24 hS25 hS33 hS34 hS35 hS36 hS41 av2 fv2 tk2 uv2 ov2 x89 (by omega) μ hI (by exact h_av2) (by exact h_fv2) (by exact h_tk2) (by exact h_uv2) (by exact h_ov2) (by exact ex89.symm) hps hgp) mi_X12_readPlain k_X12_326 rfl rfl rfl hl.1 rfl (Nat.le_of_ble_eq_true rfl) dX12_readAll_152 ⟨Nat.le_of_ble_eq_true rfl, Nat.le_of_ble_eq_true rfl⟩ ⟨Nat.le_of_ble_eq_true rfl, Nat.le_of_ble_eq_true rfl⟩) (fun x96 μ96 H locs q96 hW => ?_)
                  obtain ⟨hI, q96⟩ := q96
                  obtain ⟨hgp, q96⟩ := q96
                  rcases q96 with rfl | ⟨rfl, q96, hps⟩
                  · refine lv_iconst (v := (-1)) hx hb dX12_readAll_155 (by decide) ?_
                    refine lv_icmp_eq (tgt := 167) hx hb dX12_readAll_156 (by decide) (fun _ => ?_) (fun c => False.elim (by revert c; decide))
                    refine lv_iconst (v := (-1)) hx hb dX12_readAll_167 (by decide) ?_
                    exact m_iret hx hb hr hlocks hW rfl (⟨hI, ⟨hgp, Or.inl rfl⟩⟩) dX12_readAll_168
                  · obtain ⟨x97, hx97⟩ : ∃ z, μ96.1 81 51 = z := ⟨_, rfl⟩
                    have bx97 : 0 ≤ x97.toInt ∧ x97.toInt ≤ 400 := by rw [← hx97]; exact hI.1 _ _ _ _ rfl
                    rw [show μ96.1 81 51 = x97 from by exact hx97] at q96
                    obtain ⟨x98, hx98⟩ : ∃ z, μ96.1 81 37 = z := ⟨_, rfl⟩
                    have bx98 : 0 ≤ x98.toInt ∧ x98.toInt ≤ 400 := by rw [← hx98]; exact hI.1 _ _ _ _ rfl
                    rw [show μ96.1 81 37 = x98 from by exact hx98] at q96
                    obtain ⟨x99, hx99⟩ : ∃ z, μ96.1 81 36 = z := ⟨_, rfl⟩
                    have bx99 : 0 ≤ x99.toInt ∧ x99.toInt ≤ 400 := by rw [← hx99]; exact hI.1 _ _ _ _ rfl
                    rw [show μ96.1 81 36 = x99 from by exact hx99] at q96
                    obtain ⟨x100, hx100⟩ : ∃ z, μ96.1 81 38 = z := ⟨_, rfl⟩
                    have bx100 : 0 ≤ x100.toInt ∧ x100.toInt ≤ 4 := by rw [← hx100]; exact hI.1 _ _ _ _ rfl
                    rw [show μ96.1 81 38 = x100 from by exact hx100] at q96
                    obtain ⟨x101, hx101⟩ : ∃ z, μ96.1 111 8 = z := ⟨_, rfl⟩
                    have bx101 : 0 ≤ x101.toInt ∧ x101.toInt ≤ 400 := by rw [← hx101]; exact hI.1 _ _ _ _ rfl
                    rw [show μ96.1 111 8 = x101 from by exact hx101] at q96
                    refine lv_iconst (v := (-1)) hx hb dX12_readAll_155 (by decide) ?_
                    refine lv_icmp_eq (tgt := 167) hx hb dX12_readAll_156 (by decide) (fun c => False.elim (by revert c; decide)) (fun _ => ?_)
                    refine lv_aload_n hx hb dX12_readAll_159 rfl (lv_at hl 0 rfl) ?_
                    refine m_aI hW (m_runV (As := []) (rest := []) hx hb hml hown hts hW (81) (g_X12_ends l D cy b S μ0 hS24 hS25 hS33 hS34 hS35 hS36 hS41 x99 x98 x100 x97 x101 (by omega) μ96 hI (by exact hx99) (by exact hx98) (by exact hx100) (by exact hx97) (by exact hx101) hps hgp) mi_X12_ends k_X12_317 rfl rfl rfl hl.1 rfl (Nat.le_of_ble_eq_true rfl) dX12_readAll_160 ⟨Nat.le_of_ble_eq_true rfl, Nat.le_of_ble_eq_true rfl⟩ ⟨Nat.le_of_ble_eq_true rfl, Nat.le_of_ble_eq_true rfl⟩) (fun x102 μ102 H locs q102 hW => ?_)
                    obtain ⟨hI, q102⟩ := q102
                    obtain ⟨hgp, q102⟩ := q102
                    rcases q102 with rfl | ⟨rfl, q102, hps⟩
                    · refine lv_iconst (v := (-1)) hx hb dX12_readAll_163 (by decide) ?_
                      refine lv_icmp_ne (tgt := 169) hx hb dX12_readAll_164 (by decide) (fun c => False.elim (by revert c; decide)) (fun _ => ?_)
                      refine lv_iconst (v := (-1)) hx hb dX12_readAll_167 (by decide) ?_
                      exact m_iret hx hb hr hlocks hW rfl (⟨hI, ⟨hgp, Or.inl rfl⟩⟩) dX12_readAll_168
                    · obtain ⟨x103, hx103⟩ : ∃ z, μ102.1 81 51 = z := ⟨_, rfl⟩
                      have bx103 : 0 ≤ x103.toInt ∧ x103.toInt ≤ 400 := by rw [← hx103]; exact hI.1 _ _ _ _ rfl
                      rw [show μ102.1 81 51 = x103 from by exact hx103] at q102
                      obtain ⟨x104, hx104⟩ : ∃ z, μ102.1 81 37 = z := ⟨_, rfl⟩
                      have bx104 : 0 ≤ x104.toInt ∧ x104.toInt ≤ 400 := by rw [← hx104]; exact hI.1 _ _ _ _ rfl
                      rw [show μ102.1 81 37 = x104 from by exact hx104] at q102
                      obtain ⟨x105, hx105⟩ : ∃ z, μ102.1 81 36 = z := ⟨_, rfl⟩
                      have bx105 : 0 ≤ x105.toInt ∧ x105.toInt ≤ 400 := by rw [← hx105]; exact hI.1 _ _ _ _ rfl
                      rw [show μ102.1 81 36 = x105 from by exact hx105] at q102
                      obtain ⟨x106, hx106⟩ : ∃ z, μ102.1 81 38 = z := ⟨_, rfl⟩
                      have bx106 : 0 ≤ x106.toInt ∧ x106.toInt ≤ 4 := by rw [← hx106]; exact hI.1 _ _ _ _ rfl
                      rw [show μ102.1 81 38 = x106 from by exact hx106] at q102
                      obtain ⟨x107, hx107⟩ : ∃ z, μ102.1 111 8 = z := ⟨_, rfl⟩
                      have bx107 : 0 ≤ x107.toInt ∧ x107.toInt ≤ 400 := by rw [← hx107]; exact hI.1 _ _ _ _ rfl
                      rw [show μ102.1 111 8 = x107 from by exact hx107] at q102
                      refine lv_iconst (v := (-1)) hx hb dX12_readAll_163 (by decide) ?_
                      refine lv_icmp_ne (tgt := 169) hx hb dX12_readAll_164 (by decide) (fun _ => ?_) (fun c => False.elim (by revert c; decide))
                      refine lv_iconst (v := 0) hx hb dX12_readAll_169 (by decide) ?_
                      refine lv_istore_n (lv' := [(1, .int 0), (0, .ref (b + 81))]) hx hb dX12_readAll_170 rfl hl (by decide) rfl (fun ls hl => ?_)
                      refine lv_goto (tgt := 29) hx hb dX12_readAll_171 (by decide) ?_
                      have l_0 : (0 : Int32).toInt = 0 := by decide
                      exact ih 0 x105 x104 x106 x103 x107 (by omega) (by omega) μ102 hI (by exact hx105) (by exact hx104) (by exact hx106) (by exact hx103) (by exact hx107) (hps) (hgp) _ _ hW ls (lv_sub hl [1, 0] rfl)
              · have i92 := m_c5 (rfl : x89.toInt = _) (by decide : (6 : Int32).toInt = 6) c92
                refine lv_aload_n hx hb dX12_readAll_128 rfl (lv_at hl 0 rfl) ?_
                refine m_aI hW (m_runV (As := []) (rest := []) hx hb hml hown hts hW (81) (g_X12_readAgain l D cy b S μ0 hS24 hS25 hS33 hS34 hS35 hS36 hS41 av2 fv2 tk2 uv2 ov2 (by omega) μ hI (by exact h_av2) (by exact h_fv2) (by exact h_tk2) (by exact h_uv2) (by exact h_ov2) hps hgp) mi_X12_readAgain k_X12_323 rfl rfl rfl hl.1 rfl (Nat.le_of_ble_eq_true rfl) dX12_readAll_129 ⟨Nat.le_of_ble_eq_true rfl, Nat.le_of_ble_eq_true rfl⟩ ⟨Nat.le_of_ble_eq_true rfl, Nat.le_of_ble_eq_true rfl⟩) (fun x108 μ108 H locs q108 hW => ?_)
                obtain ⟨hI, q108⟩ := q108
                obtain ⟨hgp, q108⟩ := q108
                rcases q108 with rfl | ⟨rfl, q108, hps⟩
                · refine lv_iconst (v := (-1)) hx hb dX12_readAll_132 (by decide) ?_
                  refine lv_icmp_ne (tgt := 138) hx hb dX12_readAll_133 (by decide) (fun c => False.elim (by revert c; decide)) (fun _ => ?_)
                  refine lv_iconst (v := (-1)) hx hb dX12_readAll_136 (by decide) ?_
                  exact m_iret hx hb hr hlocks hW rfl (⟨hI, ⟨hgp, Or.inl rfl⟩⟩) dX12_readAll_137
                · obtain ⟨x109, hx109⟩ : ∃ z, μ108.1 81 51 = z := ⟨_, rfl⟩
                  have bx109 : 0 ≤ x109.toInt ∧ x109.toInt ≤ 400 := by rw [← hx109]; exact hI.1 _ _ _ _ rfl
                  rw [show μ108.1 81 51 = x109 from by exact hx109] at q108
                  obtain ⟨x110, hx110⟩ : ∃ z, μ108.1 81 37 = z := ⟨_, rfl⟩
                  have bx110 : 0 ≤ x110.toInt ∧ x110.toInt ≤ 400 := by rw [← hx110]; exact hI.1 _ _ _ _ rfl
                  rw [show μ108.1 81 37 = x110 from by exact hx110] at q108
                  obtain ⟨x111, hx111⟩ : ∃ z, μ108.1 81 36 = z := ⟨_, rfl⟩
                  have bx111 : 0 ≤ x111.toInt ∧ x111.toInt ≤ 400 := by rw [← hx111]; exact hI.1 _ _ _ _ rfl
                  rw [show μ108.1 81 36 = x111 from by exact hx111] at q108
                  obtain ⟨x112, hx112⟩ : ∃ z, μ108.1 81 38 = z := ⟨_, rfl⟩
                  have bx112 : 0 ≤ x112.toInt ∧ x112.toInt ≤ 4 := by rw [← hx112]; exact hI.1 _ _ _ _ rfl
                  rw [show μ108.1 81 38 = x112 from by exact hx112] at q108
                  obtain ⟨x113, hx113⟩ : ∃ z, μ108.1 111 8 = z := ⟨_, rfl⟩
                  have bx113 : 0 ≤ x113.toInt ∧ x113.toInt ≤ 400 := by rw [← hx113]; exact hI.1 _ _ _ _ rfl
                  rw [show μ108.1 111 8 = x113 from by exact hx113] at q108
                  refine lv_iconst (v := (-1)) hx hb dX12_readAll_132 (by decide) ?_
                  refine lv_icmp_ne (tgt := 138) hx hb dX12_readAll_133 (by decide) (fun _ => ?_) (fun c => False.elim (by revert c; decide))
                  refine lv_iconst (v := 0) hx hb dX12_readAll_138 (by decide) ?_
                  refine lv_istore_n (lv' := [(1, .int 0), (0, .ref (b + 81))]) hx hb dX12_readAll_139 rfl hl (by decide) rfl (fun ls hl => ?_)
                  refine lv_goto (tgt := 29) hx hb dX12_readAll_140 (by decide) ?_
                  have l_0 : (0 : Int32).toInt = 0 := by decide
                  exact ih 0 x111 x110 x112 x109 x113 (by omega) (by omega) μ108 hI (by exact hx111) (by exact hx110) (by exact hx112) (by exact hx109) (by exact hx113) (hps) (hgp) _ _ hW ls (lv_sub hl [1, 0] rfl)
            · have i90 := m_c5 (rfl : x89.toInt = _) (by decide : (9 : Int32).toInt = 9) c90
              refine lv_aload_n hx hb dX12_readAll_104 rfl (lv_at hl 0 rfl) ?_
              refine m_aI hW (m_runV (As := []) (rest := []) hx hb hml hown hts hW (81) (g_X12_readIf l D cy b S μ0 hS24 hS25 hS33 hS34 hS35 hS36 hS41 av2 fv2 tk2 uv2 ov2 (by omega) μ hI (by exact h_av2) (by exact h_fv2) (by exact h_tk2) (by exact h_uv2) (by exact h_ov2) hps hgp) mi_X12_readIf k_X12_320 rfl rfl rfl hl.1 rfl (Nat.le_of_ble_eq_true rfl) dX12_readAll_105 ⟨Nat.le_of_ble_eq_true rfl, Nat.le_of_ble_eq_true rfl⟩ ⟨Nat.le_of_ble_eq_true rfl, Nat.le_of_ble_eq_true rfl⟩) (fun x114 μ114 H locs q114 hW => ?_)
              obtain ⟨hI, q114⟩ := q114
              obtain ⟨hgp, q114⟩ := q114
              rcases q114 with rfl | ⟨rfl, q114, hps⟩
              · refine lv_iconst (v := (-1)) hx hb dX12_readAll_108 (by decide) ?_
                refine lv_icmp_ne (tgt := 114) hx hb dX12_readAll_109 (by decide) (fun c => False.elim (by revert c; decide)) (fun _ => ?_)
                refine lv_iconst (v := (-1)) hx hb dX12_readAll_112 (by decide) ?_
                exact m_iret hx hb hr hlocks hW rfl (⟨hI, ⟨hgp, Or.inl rfl⟩⟩) dX12_readAll_113
              · obtain ⟨x115, hx115⟩ : ∃ z, μ114.1 81 51 = z := ⟨_, rfl⟩
                have bx115 : 0 ≤ x115.toInt ∧ x115.toInt ≤ 400 := by rw [← hx115]; exact hI.1 _ _ _ _ rfl
                rw [show μ114.1 81 51 = x115 from by exact hx115] at q114
                obtain ⟨x116, hx116⟩ : ∃ z, μ114.1 81 37 = z := ⟨_, rfl⟩
                have bx116 : 0 ≤ x116.toInt ∧ x116.toInt ≤ 400 := by rw [← hx116]; exact hI.1 _ _ _ _ rfl
                rw [show μ114.1 81 37 = x116 from by exact hx116] at q114
                obtain ⟨x117, hx117⟩ : ∃ z, μ114.1 81 36 = z := ⟨_, rfl⟩
                have bx117 : 0 ≤ x117.toInt ∧ x117.toInt ≤ 400 := by rw [← hx117]; exact hI.1 _ _ _ _ rfl
                rw [show μ114.1 81 36 = x117 from by exact hx117] at q114
                obtain ⟨x118, hx118⟩ : ∃ z, μ114.1 81 38 = z := ⟨_, rfl⟩
                have bx118 : 0 ≤ x118.toInt ∧ x118.toInt ≤ 4 := by rw [← hx118]; exact hI.1 _ _ _ _ rfl
                rw [show μ114.1 81 38 = x118 from by exact hx118] at q114
                obtain ⟨x119, hx119⟩ : ∃ z, μ114.1 111 8 = z := ⟨_, rfl⟩
                have bx119 : 0 ≤ x119.toInt ∧ x119.toInt ≤ 400 := by rw [← hx119]; exact hI.1 _ _ _ _ rfl
                rw [show μ114.1 111 8 = x119 from by exact hx119] at q114
                refine lv_iconst (v := (-1)) hx hb dX12_readAll_108 (by decide) ?_
                refine lv_icmp_ne (tgt := 114) hx hb dX12_readAll_109 (by decide) (fun _ => ?_) (fun c => False.elim (by revert c; decide))
                refine lv_iconst (v := 1) hx hb dX12_readAll_114 (by decide) ?_
                refine lv_istore_n (lv' := [(1, .int 1), (0, .ref (b + 81))]) hx hb dX12_readAll_115 rfl hl (by decide) rfl (fun ls hl => ?_)
                refine lv_goto (tgt := 29) hx hb dX12_readAll_116 (by decide) ?_
                have l_1 : (1 : Int32).toInt = 1 := by decide
                exact ih 1 x117 x116 x118 x115 x119 (by omega) (by omega) μ114 hI (by exact hx117) (by exact hx116) (by exact hx118) (by exact hx115) (by exact hx119) (hps) (hgp) _ _ hW ls (lv_sub hl [1, 0] rfl)
          · have i88 := m_c6 (rfl : tk2.toInt = _) (by decide : (2 : Int32).toInt = 2) c88
            refine lv_aload_n hx hb dX12_readAll_89 rfl (lv_at hl 0 rfl) ?_
            refine lv_iconst (v := 1) hx hb dX12_readAll_90 (by decide) ?_
            have l_1 : (1 : Int32).toInt = 1 := by decide
            refine m_aI hW (m_runV (As := [.int 1]) (rest := []) hx hb hml hown hts hW (81) (g_X12_fails l D cy b (fun g => [36].contains g) μ rfl 1 μ (IY.rf hI.1)) mi_X12_fails k_X12_282 rfl rfl rfl hl.1 rfl (Nat.le_of_ble_eq_true rfl) dX12_readAll_91 ⟨Nat.le_of_ble_eq_true rfl, Nat.le_of_ble_eq_true rfl⟩ ⟨Nat.le_of_ble_eq_true rfl, Nat.le_of_ble_eq_true rfl⟩) (fun x120 μ120 H locs q120 hW => ?_)
            obtain ⟨hJ120, q120⟩ := q120
            have hI := hI.tr hJ120 (m_subL (by simp [hS36]))
            have hps : m_PS μ120 := hps.fr hJ120 rfl rfl rfl
            have hgp : m_GP μ120 := hgp.fr hJ120 rfl rfl
            have q120 := q120.symm
            subst q120
            exact m_iret hx hb hr hlocks hW rfl (⟨hI, ⟨hgp, Or.inl rfl⟩⟩) dX12_readAll_94
    · have i2 := m_c5 (rfl : tk2.toInt = _) (by decide : (0 : Int32).toInt = 0) c2
      refine lv_iload_n hx hb dX12_readAll_36 rfl (lv_at hl 1 rfl) ?_
      refine lv_if_ne (tgt := 47) hx hb dX12_readAll_37 (by decide) (fun c121 => ?_) (fun c121 => ?_)
      · have i121 := m_c6 (rfl : y1.toInt = _) (by decide : (0 : Int32).toInt = 0) c121
        refine lv_iload_n hx hb dX12_readAll_47 rfl (lv_at hl 1 rfl) ?_
        refine lv_if_ne (tgt := 81) hx hb dX12_readAll_48 (by decide) (fun c122 => ?_) (fun c122 => ?_)
        · have i122 := m_c6 (rfl : y1.toInt = _) (by decide : (0 : Int32).toInt = 0) c122
          refine lv_aload_n hx hb dX12_readAll_81 rfl (lv_at hl 0 rfl) ?_
          refine m_geti hx hb hts hown hW (81) 38 rfl rfl cw_12 rfl (by decide) k_X12_254 dX12_readAll_82 ?_
          refine lv_topi (fun x123 ex123 => ?_)
          have ex123 : x123 = tk2 := by rw [ex123]; exact h_tk2
          have ex123 := ex123.symm
          subst ex123
          refine lv_iconst (v := 2) hx hb dX12_readAll_85 (by decide) ?_
          refine lv_icmp_eq (tgt := 95) hx hb dX12_readAll_86 (by decide) (fun c124 => ?_) (fun c124 => ?_)
          · have i124 := m_c5 (rfl : tk2.toInt = _) (by decide : (2 : Int32).toInt = 2) c124
            exfalso; omega
          · have i124 := m_c6 (rfl : tk2.toInt = _) (by decide : (2 : Int32).toInt = 2) c124
            refine lv_aload_n hx hb dX12_readAll_89 rfl (lv_at hl 0 rfl) ?_
            refine lv_iconst (v := 1) hx hb dX12_readAll_90 (by decide) ?_
            have l_1 : (1 : Int32).toInt = 1 := by decide
            refine m_aI hW (m_runV (As := [.int 1]) (rest := []) hx hb hml hown hts hW (81) (g_X12_fails l D cy b (fun g => [36].contains g) μ rfl 1 μ (IY.rf hI.1)) mi_X12_fails k_X12_282 rfl rfl rfl hl.1 rfl (Nat.le_of_ble_eq_true rfl) dX12_readAll_91 ⟨Nat.le_of_ble_eq_true rfl, Nat.le_of_ble_eq_true rfl⟩ ⟨Nat.le_of_ble_eq_true rfl, Nat.le_of_ble_eq_true rfl⟩) (fun x125 μ125 H locs q125 hW => ?_)
            obtain ⟨hJ125, q125⟩ := q125
            have hI := hI.tr hJ125 (m_subL (by simp [hS36]))
            have hps : m_PS μ125 := hps.fr hJ125 rfl rfl rfl
            have hgp : m_GP μ125 := hgp.fr hJ125 rfl rfl
            have q125 := q125.symm
            subst q125
            exact m_iret hx hb hr hlocks hW rfl (⟨hI, ⟨hgp, Or.inl rfl⟩⟩) dX12_readAll_94
        · have i122 := m_c5 (rfl : y1.toInt = _) (by decide : (0 : Int32).toInt = 0) c122
          exfalso; omega
      · have i121 := m_c5 (rfl : y1.toInt = _) (by decide : (0 : Int32).toInt = 0) c121
        refine lv_aload_n hx hb dX12_readAll_40 rfl (lv_at hl 0 rfl) ?_
        refine m_geti hx hb hts hown hW (81) 53 rfl rfl cw_12 rfl (by decide) k_X12_294 dX12_readAll_41 ?_
        refine lv_topi (fun x126 ex126 => ?_)
        have bx126 : 0 ≤ x126.toInt ∧ x126.toInt ≤ 4 := by rw [ex126]; exact hI.1 _ _ _ _ rfl
        refine lv_if_le (tgt := 180) hx hb dX12_readAll_44 (by decide) (fun c127 => ?_) (fun c127 => ?_)
        · have i127 := m_c3 (rfl : x126.toInt = _) (by decide : (0 : Int32).toInt = 0) c127
          refine lv_iconst (v := 0) hx hb dX12_readAll_180 (by decide) ?_
          exact m_iret hx hb hr hlocks hW rfl (⟨hI, ⟨hgp, Or.inr ⟨rfl, hps.wd (nv := x126) (by exact ex126.symm) (by omega)⟩⟩⟩) dX12_readAll_181
        · have i127 := m_c4 (rfl : x126.toInt = _) (by decide : (0 : Int32).toInt = 0) c127
          refine lv_iload_n hx hb dX12_readAll_47 rfl (lv_at hl 1 rfl) ?_
          refine lv_if_ne (tgt := 81) hx hb dX12_readAll_48 (by decide) (fun c128 => ?_) (fun c128 => ?_)
          · have i128 := m_c6 (rfl : y1.toInt = _) (by decide : (0 : Int32).toInt = 0) c128
            exfalso; omega
          · have i128 := m_c5 (rfl : y1.toInt = _) (by decide : (0 : Int32).toInt = 0) c128
            refine lv_aload_n hx hb dX12_readAll_51 rfl (lv_at hl 0 rfl) ?_
            refine lv_bipush (v := 8) hx hb dX12_readAll_52 (by decide) ?_
            have l_8 : (8 : Int32).toInt = 8 := by decide
            refine m_aI hW (m_runV (As := [.int 8]) (rest := []) hx hb hml hown hts hW (81) (g_X12_isWord l D cy b 8 μ hI.1) mi_X12_isWord k_X12_307 rfl rfl rfl hl.1 rfl (Nat.le_of_ble_eq_true rfl) dX12_readAll_54 ⟨Nat.le_of_ble_eq_true rfl, Nat.le_of_ble_eq_true rfl⟩ ⟨Nat.le_of_ble_eq_true rfl, Nat.le_of_ble_eq_true rfl⟩) (fun x129 μ129 H locs q129 hW => ?_)
            obtain ⟨q129_m, q129⟩ := q129
            subst q129_m
            rcases q129 with ⟨rfl, q129⟩ | rfl
            · rw [show μ.1 81 38 = tk2 from by exact h_tk2] at q129
              refine lv_if_eq (tgt := 81) hx hb dX12_readAll_57 (by decide) (fun c => False.elim (by revert c; decide)) (fun _ => ?_)
              refine lv_aload_n hx hb dX12_readAll_60 rfl (lv_at hl 0 rfl) ?_
              refine m_aI hW (m_runV (As := []) (rest := []) hx hb hml hown hts hW (81) (g_X12_isInAgain l D cy b x126 (by omega) μ hI.1 (by exact ex126.symm)) mi_X12_isInAgain k_X12_310 rfl rfl rfl hl.1 rfl (Nat.le_of_ble_eq_true rfl) dX12_readAll_61 ⟨Nat.le_of_ble_eq_true rfl, Nat.le_of_ble_eq_true rfl⟩ ⟨Nat.le_of_ble_eq_true rfl, Nat.le_of_ble_eq_true rfl⟩) (fun x130 μ130 H locs q130 hW => ?_)
              obtain ⟨q130_m, q130⟩ := q130
              subst q130_m
              rcases q130 with ⟨rfl, q130, hbt⟩ | rfl
              · refine lv_if_eq (tgt := 81) hx hb dX12_readAll_64 (by decide) (fun c => False.elim (by revert c; decide)) (fun _ => ?_)
                refine lv_aload_n hx hb dX12_readAll_67 rfl (lv_at hl 0 rfl) ?_
                refine m_aV hW (m_runV (As := []) (rest := []) hx hb hml hown hts hW (81) (g_X12_closes l D cy b S μ0 hS24 hS25 hS33 hS34 hS35 hS36 hS41 av2 fv2 tk2 uv2 ov2 x126 (by omega) μ hI (by exact h_av2) (by exact h_fv2) (by exact h_tk2) (by exact h_uv2) (by exact h_ov2) (by exact ex126.symm) hps hgp hbt) mi_X12_closes k_X12_314 rfl rfl rfl hl.1 rfl (Nat.le_of_ble_eq_true rfl) dX12_readAll_68 ⟨Nat.le_of_ble_eq_true rfl, Nat.le_of_ble_eq_true rfl⟩ ⟨Nat.le_of_ble_eq_true rfl, Nat.le_of_ble_eq_true rfl⟩) (fun μ131 H locs q131 hW => ?_)
                obtain ⟨hI, q131⟩ := q131
                obtain ⟨hgp, q131, hps⟩ := q131
                obtain ⟨x132, hx132⟩ : ∃ z, μ131.1 81 51 = z := ⟨_, rfl⟩
                have bx132 : 0 ≤ x132.toInt ∧ x132.toInt ≤ 400 := by rw [← hx132]; exact hI.1 _ _ _ _ rfl
                rw [show μ131.1 81 51 = x132 from by exact hx132] at q131
                obtain ⟨x133, hx133⟩ : ∃ z, μ131.1 81 37 = z := ⟨_, rfl⟩
                have bx133 : 0 ≤ x133.toInt ∧ x133.toInt ≤ 400 := by rw [← hx133]; exact hI.1 _ _ _ _ rfl
                rw [show μ131.1 81 37 = x133 from by exact hx133] at q131
                obtain ⟨x134, hx134⟩ : ∃ z, μ131.1 81 36 = z := ⟨_, rfl⟩
                have bx134 : 0 ≤ x134.toInt ∧ x134.toInt ≤ 400 := by rw [← hx134]; exact hI.1 _ _ _ _ rfl
                rw [show μ131.1 81 36 = x134 from by exact hx134] at q131
                obtain ⟨x135, hx135⟩ : ∃ z, μ131.1 81 38 = z := ⟨_, rfl⟩
                have bx135 : 0 ≤ x135.toInt ∧ x135.toInt ≤ 4 := by rw [← hx135]; exact hI.1 _ _ _ _ rfl
                rw [show μ131.1 81 38 = x135 from by exact hx135] at q131
                obtain ⟨x136, hx136⟩ : ∃ z, μ131.1 111 8 = z := ⟨_, rfl⟩
                have bx136 : 0 ≤ x136.toInt ∧ x136.toInt ≤ 400 := by rw [← hx136]; exact hI.1 _ _ _ _ rfl
                rw [show μ131.1 111 8 = x136 from by exact hx136] at q131
                refine lv_aload_n hx hb dX12_readAll_71 rfl (lv_at hl 0 rfl) ?_
                refine m_aI hW (m_runV (As := []) (rest := []) hx hb hml hown hts hW (81) (g_X12_ends l D cy b S μ0 hS24 hS25 hS33 hS34 hS35 hS36 hS41 x134 x133 x135 x132 x136 (by omega) μ131 hI (by exact hx134) (by exact hx133) (by exact hx135) (by exact hx132) (by exact hx136) hps hgp) mi_X12_ends k_X12_317 rfl rfl rfl hl.1 rfl (Nat.le_of_ble_eq_true rfl) dX12_readAll_72 ⟨Nat.le_of_ble_eq_true rfl, Nat.le_of_ble_eq_true rfl⟩ ⟨Nat.le_of_ble_eq_true rfl, Nat.le_of_ble_eq_true rfl⟩) (fun x137 μ137 H locs q137 hW => ?_)
                obtain ⟨hI, q137⟩ := q137
                obtain ⟨hgp, q137⟩ := q137
                rcases q137 with rfl | ⟨rfl, q137, hps⟩
                · refine lv_iconst (v := (-1)) hx hb dX12_readAll_75 (by decide) ?_
                  refine lv_icmp_ne (tgt := 29) hx hb dX12_readAll_76 (by decide) (fun c => False.elim (by revert c; decide)) (fun _ => ?_)
                  refine lv_iconst (v := (-1)) hx hb dX12_readAll_79 (by decide) ?_
                  exact m_iret hx hb hr hlocks hW rfl (⟨hI, ⟨hgp, Or.inl rfl⟩⟩) dX12_readAll_80
                · obtain ⟨x138, hx138⟩ : ∃ z, μ137.1 81 51 = z := ⟨_, rfl⟩
                  have bx138 : 0 ≤ x138.toInt ∧ x138.toInt ≤ 400 := by rw [← hx138]; exact hI.1 _ _ _ _ rfl
                  rw [show μ137.1 81 51 = x138 from by exact hx138] at q137
                  obtain ⟨x139, hx139⟩ : ∃ z, μ137.1 81 37 = z := ⟨_, rfl⟩
                  have bx139 : 0 ≤ x139.toInt ∧ x139.toInt ≤ 400 := by rw [← hx139]; exact hI.1 _ _ _ _ rfl
                  rw [show μ137.1 81 37 = x139 from by exact hx139] at q137
                  obtain ⟨x140, hx140⟩ : ∃ z, μ137.1 81 36 = z := ⟨_, rfl⟩
                  have bx140 : 0 ≤ x140.toInt ∧ x140.toInt ≤ 400 := by rw [← hx140]; exact hI.1 _ _ _ _ rfl
                  rw [show μ137.1 81 36 = x140 from by exact hx140] at q137
                  obtain ⟨x141, hx141⟩ : ∃ z, μ137.1 81 38 = z := ⟨_, rfl⟩
                  have bx141 : 0 ≤ x141.toInt ∧ x141.toInt ≤ 4 := by rw [← hx141]; exact hI.1 _ _ _ _ rfl
                  rw [show μ137.1 81 38 = x141 from by exact hx141] at q137
                  obtain ⟨x142, hx142⟩ : ∃ z, μ137.1 111 8 = z := ⟨_, rfl⟩
                  have bx142 : 0 ≤ x142.toInt ∧ x142.toInt ≤ 400 := by rw [← hx142]; exact hI.1 _ _ _ _ rfl
                  rw [show μ137.1 111 8 = x142 from by exact hx142] at q137
                  refine lv_iconst (v := (-1)) hx hb dX12_readAll_75 (by decide) ?_
                  refine lv_icmp_ne (tgt := 29) hx hb dX12_readAll_76 (by decide) (fun _ => ?_) (fun c => False.elim (by revert c; decide))
                  exact ih y1 x140 x139 x141 x138 x142 (by omega) (by omega) μ137 hI (by exact hx140) (by exact hx139) (by exact hx141) (by exact hx138) (by exact hx142) (hps) (hgp) _ _ hW ls (lv_sub hl [0, 1] rfl)
              · refine lv_if_eq (tgt := 81) hx hb dX12_readAll_64 (by decide) (fun _ => ?_) (fun c => False.elim (by revert c; decide))
                refine lv_aload_n hx hb dX12_readAll_81 rfl (lv_at hl 0 rfl) ?_
                refine m_geti hx hb hts hown hW (81) 38 rfl rfl cw_12 rfl (by decide) k_X12_254 dX12_readAll_82 ?_
                refine lv_topi (fun x143 ex143 => ?_)
                have ex143 : x143 = tk2 := by rw [ex143]; exact h_tk2
                have ex143 := ex143.symm
                subst ex143
                refine lv_iconst (v := 2) hx hb dX12_readAll_85 (by decide) ?_
                refine lv_icmp_eq (tgt := 95) hx hb dX12_readAll_86 (by decide) (fun c144 => ?_) (fun c144 => ?_)
                · have i144 := m_c5 (rfl : tk2.toInt = _) (by decide : (2 : Int32).toInt = 2) c144
                  exfalso; omega
                · have i144 := m_c6 (rfl : tk2.toInt = _) (by decide : (2 : Int32).toInt = 2) c144
                  refine lv_aload_n hx hb dX12_readAll_89 rfl (lv_at hl 0 rfl) ?_
                  refine lv_iconst (v := 1) hx hb dX12_readAll_90 (by decide) ?_
                  have l_1 : (1 : Int32).toInt = 1 := by decide
                  refine m_aI hW (m_runV (As := [.int 1]) (rest := []) hx hb hml hown hts hW (81) (g_X12_fails l D cy b (fun g => [36].contains g) μ rfl 1 μ (IY.rf hI.1)) mi_X12_fails k_X12_282 rfl rfl rfl hl.1 rfl (Nat.le_of_ble_eq_true rfl) dX12_readAll_91 ⟨Nat.le_of_ble_eq_true rfl, Nat.le_of_ble_eq_true rfl⟩ ⟨Nat.le_of_ble_eq_true rfl, Nat.le_of_ble_eq_true rfl⟩) (fun x145 μ145 H locs q145 hW => ?_)
                  obtain ⟨hJ145, q145⟩ := q145
                  have hI := hI.tr hJ145 (m_subL (by simp [hS36]))
                  have hps : m_PS μ145 := hps.fr hJ145 rfl rfl rfl
                  have hgp : m_GP μ145 := hgp.fr hJ145 rfl rfl
                  have q145 := q145.symm
                  subst q145
                  exact m_iret hx hb hr hlocks hW rfl (⟨hI, ⟨hgp, Or.inl rfl⟩⟩) dX12_readAll_94
            · refine lv_if_eq (tgt := 81) hx hb dX12_readAll_57 (by decide) (fun _ => ?_) (fun c => False.elim (by revert c; decide))
              refine lv_aload_n hx hb dX12_readAll_81 rfl (lv_at hl 0 rfl) ?_
              refine m_geti hx hb hts hown hW (81) 38 rfl rfl cw_12 rfl (by decide) k_X12_254 dX12_readAll_82 ?_
              refine lv_topi (fun x146 ex146 => ?_)
              have ex146 : x146 = tk2 := by rw [ex146]; exact h_tk2
              have ex146 := ex146.symm
              subst ex146
              refine lv_iconst (v := 2) hx hb dX12_readAll_85 (by decide) ?_
              refine lv_icmp_eq (tgt := 95) hx hb dX12_readAll_86 (by decide) (fun c147 => ?_) (fun c147 => ?_)
              · have i147 := m_c5 (rfl : tk2.toInt = _) (by decide : (2 : Int32).toInt = 2) c147
                exfalso; omega
              · have i147 := m_c6 (rfl : tk2.toInt = _) (by decide : (2 : Int32).toInt = 2) c147
                refine lv_aload_n hx hb dX12_readAll_89 rfl (lv_at hl 0 rfl) ?_
                refine lv_iconst (v := 1) hx hb dX12_readAll_90 (by decide) ?_
                have l_1 : (1 : Int32).toInt = 1 := by decide
                refine m_aI hW (m_runV (As := [.int 1]) (rest := []) hx hb hml hown hts hW (81) (g_X12_fails l D cy b (fun g => [36].contains g) μ rfl 1 μ (IY.rf hI.1)) mi_X12_fails k_X12_282 rfl rfl rfl hl.1 rfl (Nat.le_of_ble_eq_true rfl) dX12_readAll_91 ⟨Nat.le_of_ble_eq_true rfl, Nat.le_of_ble_eq_true rfl⟩ ⟨Nat.le_of_ble_eq_true rfl, Nat.le_of_ble_eq_true rfl⟩) (fun x148 μ148 H locs q148 hW => ?_)
                obtain ⟨hJ148, q148⟩ := q148
                have hI := hI.tr hJ148 (m_subL (by simp [hS36]))
                have hps : m_PS μ148 := hps.fr hJ148 rfl rfl rfl
                have hgp : m_GP μ148 := hgp.fr hJ148 rfl rfl
                have q148 := q148.symm
                subst q148
                exact m_iret hx hb hr hlocks hW rfl (⟨hI, ⟨hgp, Or.inl rfl⟩⟩) dX12_readAll_94
set_option maxHeartbeats 4000000 in
set_option maxRecDepth 100000 in
theorem g_X12_readAll (l : Launch) (D : va_G) (cy : Nat → ClassId) (b : Nat) (S : Nat → Bool) (μ0 : mM) (hS24 : S 24 = true) (hS25 : S 25 = true) (hS33 : S 33 = true) (hS34 : S 34 = true) (hS35 : S 35 = true) (hS36 : S 36 = true) (hS41 : S 41 = true) (μ : mM) (hI : IY S μ0 μ) (hgp : m_GP μ) : m_Ci l yX12_readAll cX12_readAll 2 ((some .int)) 6 D cy b LAY μ [.ref (b + 81)] (fun r ν => IY S μ0 ν ∧ (m_GP ν ∧ (r = -1 ∨ (r = 0 ∧ m_WD ν)))) := by
  unfold m_Ci
  refine m_of (by decide) (Nat.le_of_ble_eq_true rfl) ?_
  intro p e s m below meth c hx hb hr hml hown hts hlocks _ hW ls hl
  have hown : s.vm.findClass RX12 = some m.cls := hown
  have hl : lv_has ls 2 [(0, .ref (b + 81))] := hl
  refine lv_aload_n hx hb dX12_readAll_0 rfl (lv_at hl 0 rfl) ?_
  refine lv_iconst (v := 0) hx hb dX12_readAll_1 (by decide) ?_
  refine m_puti hx hb hts hown hW (81) 36 rfl rfl cw_12 tyX12_ok nmX12 rfl (by decide) k_X12_245 rfl rfl rfl dX12_readAll_2 (fun H locs hW _ => ?_)
  generalize hμ1 : m_si μ (81) 36 0 = μ1 at hW
  have hgp : m_GP μ1 := hgp.si hμ1 (by decide) (by decide) (by decide)
  have hI := hI.si1 hμ1 rfl (by decide) hS24
  refine lv_aload_n hx hb dX12_readAll_5 rfl (lv_at hl 0 rfl) ?_
  refine m_getr hx hb hts hown hW (81) 44 (111) rfl rfl cw_12 rfl (by decide) k_X12_110 dX12_readAll_6 ?_
  refine lv_bipush (v := 8) hx hb dX12_readAll_9 (by decide) ?_
  refine lv_iconst (v := 0) hx hb dX12_readAll_11 (by decide) ?_
  refine m_iast hx hb hW (111) rfl (vp_in_iff.mpr ⟨by decide, by decide⟩) dX12_readAll_12 (fun H locs hW _ => ?_)
  generalize hμ2 : m_si μ1 (111) (8 : Int32).toNatClampNeg 0 = μ2 at hW
  have hgp : m_GP μ2 := hgp.pm hμ2
  have hI := hI.si1 hμ2 rfl (by decide) hS33
  refine lv_aload_n hx hb dX12_readAll_13 rfl (lv_at hl 0 rfl) ?_
  refine lv_iconst (v := 0) hx hb dX12_readAll_14 (by decide) ?_
  refine m_puti hx hb hts hown hW (81) 51 rfl rfl cw_12 tyX12_ok nmX12 rfl (by decide) k_X12_285 rfl rfl rfl dX12_readAll_15 (fun H locs hW _ => ?_)
  generalize hμ3 : m_si μ2 (81) 51 0 = μ3 at hW
  have hgp : m_GP μ3 := hgp.si hμ3 (by decide) (by decide) (by decide)
  have hI := hI.si1 hμ3 rfl (by decide) hS34
  refine lv_aload_n hx hb dX12_readAll_18 rfl (lv_at hl 0 rfl) ?_
  refine lv_iconst (v := 0) hx hb dX12_readAll_19 (by decide) ?_
  refine m_puti hx hb hts hown hW (81) 53 rfl rfl cw_12 tyX12_ok nmX12 rfl (by decide) k_X12_294 rfl rfl rfl dX12_readAll_20 (fun H locs hW _ => ?_)
  generalize hμ4 : m_si μ3 (81) 53 0 = μ4 at hW
  have hgp : m_GP μ4 := hgp.si hμ4 (by decide) (by decide) (by decide)
  have hI := hI.si1 hμ4 rfl (by decide) hS35
  have hps : m_PS μ4 := m_PS_z (by rw [← hμ4, ← hμ3, ← hμ2]; first | rfl | exact if_pos ⟨rfl, rfl⟩) (by rw [← hμ4]; first | rfl | exact if_pos ⟨rfl, rfl⟩)
  refine lv_aload_n hx hb dX12_readAll_23 rfl (lv_at hl 0 rfl) ?_
  have l_0 : (0 : Int32).toInt = 0 := by decide
  refine m_aV hW (m_runV (As := []) (rest := []) hx hb hml hown hts hW (81) (g_X12_reads l D cy b (fun g => [24].contains g) μ4 rfl 0 (by omega) μ4 (IY.rf hI.1) (by rw [← hμ4, ← hμ3, ← hμ2, ← hμ1]; first | rfl | exact if_pos ⟨rfl, rfl⟩)) mi_X12_reads k_X12_279 rfl rfl rfl hl.1 rfl (Nat.le_of_ble_eq_true rfl) dX12_readAll_24 ⟨Nat.le_of_ble_eq_true rfl, Nat.le_of_ble_eq_true rfl⟩ ⟨Nat.le_of_ble_eq_true rfl, Nat.le_of_ble_eq_true rfl⟩) (fun μ5 H locs q5 hW => ?_)
  obtain ⟨hJ5, q5⟩ := q5
  have hI := hI.tr hJ5 (m_subL (by simp [hS24]))
  have hps : m_PS μ5 := hps.fr hJ5 rfl rfl rfl
  have hgp : m_GP μ5 := hgp.fr hJ5 rfl rfl
  obtain ⟨x6, hx6⟩ : ∃ z, μ5.1 81 36 = z := ⟨_, rfl⟩
  have bx6 : 0 ≤ x6.toInt ∧ x6.toInt ≤ 400 := by rw [← hx6]; exact hI.1 _ _ _ _ rfl
  rw [show μ5.1 81 36 = x6 from by exact hx6] at q5
  obtain ⟨x7, hx7⟩ : ∃ z, μ5.1 81 37 = z := ⟨_, rfl⟩
  have bx7 : 0 ≤ x7.toInt ∧ x7.toInt ≤ 400 := by rw [← hx7]; exact hI.1 _ _ _ _ rfl
  rw [show μ5.1 81 37 = x7 from by exact hx7] at q5
  obtain ⟨x8, hx8⟩ : ∃ z, μ5.1 81 38 = z := ⟨_, rfl⟩
  have bx8 : 0 ≤ x8.toInt ∧ x8.toInt ≤ 4 := by rw [← hx8]; exact hI.1 _ _ _ _ rfl
  rw [show μ5.1 81 38 = x8 from by exact hx8] at q5
  obtain ⟨x9, hx9⟩ : ∃ z, μ5.1 81 39 = z := ⟨_, rfl⟩
  have bx9 : -1 ≤ x9.toInt ∧ x9.toInt ≤ 99999 := by rw [← hx9]; exact hI.1 _ _ _ _ rfl
  rw [show μ5.1 81 39 = x9 from by exact hx9] at q5
  refine lv_iconst (v := 0) hx hb dX12_readAll_27 (by decide) ?_
  refine lv_istore_n (lv' := [(1, .int 0), (0, .ref (b + 81))]) hx hb dX12_readAll_28 rfl hl (by decide) rfl (fun ls hl => ?_)
  exact L_X12_readAll_29 hx hb hr hml hown hts hlocks S μ0 hS24 hS25 hS33 hS34 hS35 hS36 hS41  401 0 x6 x7 x8 0 0 (by omega) (by omega) μ5 hI (by exact hx6) (by exact hx7) (by exact hx8) (by exact ((hJ5.2.1 81 51 rfl).trans (by rw [← hμ4, ← hμ3]; first | rfl | exact if_pos ⟨rfl, rfl⟩))) (by exact ((hJ5.2.1 111 8 rfl).trans (by rw [← hμ4, ← hμ3, ← hμ2]; first | rfl | exact if_pos ⟨rfl, rfl⟩))) (hps) (hgp) _ _ hW ls (lv_sub hl [1, 0] rfl)
