set_option maxHeartbeats 4000000 in
set_option maxRecDepth 100000 in
theorem g_X12_isInAgain_f (l : Launch) (D : va_G) (cy : Nat → ClassId) (b : Nat) (nv : Int32) (h_g : 0 ≤ nv.toInt ∧ nv.toInt ≤ 4) (μ : mM) (hI : IX μ) (h_nv : μ.1 81 53 = nv) : m_Ci l yX12_isInAgain cX12_isInAgain 1 ((some .boolean)) 0 D cy b LAY μ [.ref (b + 81)] (fun r ν => μ = ν ∧ ((r = 1 ∧ 1 ≤ nv.toInt ∧ 0 ≤ (μ.1 118 (nv.toNatClampNeg - 1)).toInt) ∨ (r = 0 ∧ (nv.toInt ≤ 0 ∨ (μ.1 118 (nv.toNatClampNeg - 1)).toInt < 0)))) := by
  unfold m_Ci
  refine m_of (by decide) (Nat.le_of_ble_eq_true rfl) ?_
  intro p e s m below meth c hx hb hr hml hown hts hlocks _ hW ls hl
  have hown : s.vm.findClass RX12 = some m.cls := hown
  have hl : lv_has ls 1 [(0, .ref (b + 81))] := hl
  refine lv_aload_n hx hb dX12_isInAgain_0 rfl (lv_at hl 0 rfl) ?_
  refine m_geti hx hb hts hown hW (81) 53 rfl rfl cw_12 rfl (by decide) k_X12_294 dX12_isInAgain_1 ?_
  refine lv_topi (fun x1 ex1 => ?_)
  have ex1 : x1 = nv := by rw [ex1]; exact h_nv
  have ex1 := ex1.symm
  subst ex1
  refine lv_if_le (tgt := 25) hx hb dX12_isInAgain_4 (by decide) (fun c2 => ?_) (fun c2 => ?_)
  · have i2 := m_c3 (rfl : nv.toInt = _) (by decide : (0 : Int32).toInt = 0) c2
    refine lv_iconst (v := 0) hx hb dX12_isInAgain_25 (by decide) ?_
    exact m_iret hx hb hr hlocks hW (by decide) (⟨rfl, Or.inr ⟨rfl, Or.inl (by omega)⟩⟩) dX12_isInAgain_26
  · have i2 := m_c4 (rfl : nv.toInt = _) (by decide : (0 : Int32).toInt = 0) c2
    refine lv_aload_n hx hb dX12_isInAgain_7 rfl (lv_at hl 0 rfl) ?_
    refine m_getr hx hb hts hown hW (81) 52 (118) rfl rfl cw_12 rfl (by decide) k_X12_131 dX12_isInAgain_8 ?_
    refine lv_aload_n hx hb dX12_isInAgain_11 rfl (lv_at hl 0 rfl) ?_
    refine m_geti hx hb hts hown hW (81) 53 rfl rfl cw_12 rfl (by decide) k_X12_294 dX12_isInAgain_12 ?_
    refine lv_topi (fun x3 ex3 => ?_)
    have ex3 : x3 = nv := by rw [ex3]; exact h_nv
    have ex3 := ex3.symm
    subst ex3
    refine lv_iconst (v := 1) hx hb dX12_isInAgain_15 (by decide) ?_
    refine lv_isub hx hb dX12_isInAgain_16 ?_
    refine lv_topi (fun x4 ex4 => ?_)
    have tx4 : x4.toInt = nv.toInt - 1 := m_subI ex4 (rfl : nv.toInt = _) (by decide : (1 : Int32).toInt = 1) (by omega) (by omega)
    refine m_iald hx hb hW (118) rfl (m_ixI (rfl : x4.toInt = _) (by omega) (by omega)) dX12_isInAgain_17 ?_
    refine lv_topi (fun x5 ex5 => ?_)
    have bx5 : -1000 ≤ x5.toInt ∧ x5.toInt ≤ 399 := by rw [ex5]; exact hI _ _ _ _ rfl
    refine lv_if_lt (tgt := 25) hx hb dX12_isInAgain_18 (by decide) (fun c6 => ?_) (fun c6 => ?_)
    · have i6 := m_c1 (rfl : x5.toInt = _) (by decide : (0 : Int32).toInt = 0) c6
      refine lv_iconst (v := 0) hx hb dX12_isInAgain_25 (by decide) ?_
      exact m_iret hx hb hr hlocks hW (by decide) (⟨rfl, Or.inr ⟨rfl, Or.inr (by rw [show nv.toNatClampNeg - 1 = x4.toNatClampNeg from by have := m_ckI (x := nv) (by omega); have := m_ckI (x := x4) (by omega); omega, ← ex5]; omega)⟩⟩) dX12_isInAgain_26
    · have i6 := m_c2 (rfl : x5.toInt = _) (by decide : (0 : Int32).toInt = 0) c6
      refine lv_iconst (v := 1) hx hb dX12_isInAgain_21 (by decide) ?_
      refine lv_goto (tgt := 26) hx hb dX12_isInAgain_22 (by decide) ?_
      exact m_iret hx hb hr hlocks hW (by decide) (⟨rfl, Or.inl ⟨rfl, by omega, by rw [show nv.toNatClampNeg - 1 = x4.toNatClampNeg from by have := m_ckI (x := nv) (by omega); have := m_ckI (x := x4) (by omega); omega, ← ex5]; omega⟩⟩) dX12_isInAgain_26
set_option maxHeartbeats 4000000 in
set_option maxRecDepth 100000 in
theorem g_X12_closes_g (l : Launch) (D : va_G) (cy : Nat → ClassId) (b : Nat) (S : Nat → Bool) (μ0 : mM) (hS24 : S 24 = true) (hS25 : S 25 = true) (hS33 : S 33 = true) (hS34 : S 34 = true) (hS35 : S 35 = true) (hS36 : S 36 = true) (hS41 : S 41 = true) (av fv tk vv uv ov nv : Int32) (h_g : 0 ≤ av.toInt ∧ av.toInt ≤ 400 ∧ 0 ≤ fv.toInt ∧ fv.toInt ≤ 400 ∧ 0 ≤ tk.toInt ∧ tk.toInt ≤ 4 ∧ -1 ≤ vv.toInt ∧ vv.toInt ≤ 99999 ∧ 0 ≤ uv.toInt ∧ uv.toInt ≤ 400 ∧ 0 ≤ ov.toInt ∧ ov.toInt ≤ 400 ∧ 0 ≤ nv.toInt ∧ nv.toInt ≤ 4 ∧ uv.toInt ≤ fv.toInt ∧ fv.toInt ≤ av.toInt ∧ (tk.toInt = 0 ∨ fv.toInt + 1 ≤ av.toInt) ∧ ov.toInt ≤ fv.toInt ∧ tk.toInt = 2 ∧ 1 ≤ nv.toInt) (t : Int32) (h_tt : 0 ≤ t.toInt ∧ t.toInt ≤ 400) (fT : Nat → Int32) (gi : Nat) (sl : List Bool) (μ : mM) (hI : IY S μ0 μ) (h_av : μ.1 81 36 = av) (h_fv : μ.1 81 37 = fv) (h_tk : μ.1 81 38 = tk) (h_vv : μ.1 81 39 = vv) (h_uv : μ.1 81 51 = uv) (h_ov : μ.1 111 8 = ov) (h_nv : μ.1 81 53 = nv) (htp : μ.1 81 35 = t) (hfT : μ.1 106 = fT) (hRW : m_RW μ) (hms : m_MS μ fT t.toNatClampNeg gi) (hps : m_PS μ) (hgp : m_GP μ) (hfm : m_FM μ sl) (hbt : 0 ≤ (μ.1 118 (nv.toNatClampNeg - 1)).toInt) : m_Cv l yX12_closes cX12_closes 2 (none) 3 D cy b LAY μ [.ref (b + 81)] (fun ν => IY S μ0 ν ∧ (m_GP ν ∧ ((ν.1 81 51).toInt ≤ (ν.1 81 37).toInt ∧ fv.toInt + 1 ≤ (ν.1 81 37).toInt ∧ (ν.1 81 37).toInt ≤ (ν.1 81 36).toInt ∧ ((ν.1 81 38).toInt = 0 ∨ (ν.1 81 37).toInt + 1 ≤ (ν.1 81 36).toInt) ∧ (ν.1 111 8).toInt ≤ (ν.1 81 37).toInt) ∧ m_PS ν ∧ m_MS ν fT t.toNatClampNeg (gi + 1) ∧ ∃ s1, sl = true :: s1 ∧ m_FM ν s1)) := by
  unfold m_Cv
  refine m_of (by decide) (Nat.le_of_ble_eq_true rfl) ?_
  intro p e s m below meth c hx hb hr hml hown hts hlocks _ hW ls hl
  have hown : s.vm.findClass RX12 = some m.cls := hown
  have hl : lv_has ls 2 [(0, .ref (b + 81))] := hl
  have hkk : m_TQ ((t_K fT t.toNatClampNeg) gi) (m_VV fT t.toNatClampNeg gi) tk vv := by have z := hms.2.2; rw [h_tk, h_vv] at z; exact z
  have hlen := hfm.len h_nv (by omega)
  refine lv_aload_n hx hb dX12_closes_0 rfl (lv_at hl 0 rfl) ?_
  refine lv_aload_n hx hb dX12_closes_1 rfl (lv_at hl 0 rfl) ?_
  refine m_geti hx hb hts hown hW (81) 53 rfl rfl cw_12 rfl (by decide) k_X12_294 dX12_closes_2 ?_
  refine lv_topi (fun x1 ex1 => ?_)
  have ex1 : x1 = nv := by rw [ex1]; exact h_nv
  have ex1 := ex1.symm
  subst ex1
  refine lv_iconst (v := 1) hx hb dX12_closes_5 (by decide) ?_
  refine lv_isub hx hb dX12_closes_6 ?_
  refine lv_topi (fun x2 ex2 => ?_)
  have tx2 : x2.toInt = nv.toInt - 1 := m_subI ex2 (rfl : nv.toInt = _) (by decide : (1 : Int32).toInt = 1) (by omega) (by omega)
  refine m_puti hx hb hts hown hW (81) 53 rfl rfl cw_12 tyX12_ok nmX12 rfl (by decide) k_X12_294 rfl rfl rfl dX12_closes_7 (fun H locs hW _ => ?_)
  generalize hμ3 : m_si μ (81) 53 x2 = μ3 at hW
  have hfT : μ3.1 106 = fT := by rw [← hμ3, m_si_row (by decide)]; exact hfT
  have hRW : m_RW μ3 := fun i hi => by rw [← hμ3, m_si_ne (by decide)]; exact hRW i hi
  have hms : m_MS μ3 fT t.toNatClampNeg gi := hms.si hμ3 (fun _ => by decide)
  have hgp : m_GP μ3 := hgp.si hμ3 (by decide) (by decide) (by decide)
  obtain ⟨b4, sl4, hs4, hb4, hfm⟩ := hfm.pop (nv := nv) (y := x2) (by exact h_nv) (by omega) hμ3 (by omega)
  have hI := hI.si1 hμ3 rfl (by omega) hS35
  refine lv_aload_n hx hb dX12_closes_10 rfl (lv_at hl 0 rfl) ?_
  refine m_getr hx hb hts hown hW (81) 52 (118) rfl rfl cw_12 rfl (by decide) k_X12_131 dX12_closes_11 ?_
  refine lv_aload_n hx hb dX12_closes_14 rfl (lv_at hl 0 rfl) ?_
  refine m_geti hx hb hts hown hW (81) 53 rfl rfl cw_12 rfl (by decide) k_X12_294 dX12_closes_15 ?_
  refine lv_topi (fun x5 ex5 => ?_)
  have ex5 : x5 = x2 := by rw [ex5, ← hμ3]; first | rfl | exact if_pos ⟨rfl, rfl⟩
  have ex5 := ex5.symm
  subst ex5
  refine m_iald hx hb hW (118) rfl (m_ixI (rfl : x2.toInt = _) (by omega) (by omega)) dX12_closes_18 ?_
  refine lv_topi (fun x6 ex6 => ?_)
  have bx6 : -1000 ≤ x6.toInt ∧ x6.toInt ≤ 399 := by rw [ex6]; exact hI.1 _ _ _ _ rfl
  have hzx6 : 0 ≤ x6.toInt := by rw [ex6, ← hμ3, m_si_ne (by decide), show x2.toNatClampNeg = nv.toNatClampNeg - 1 from by have := m_ckI (x := nv) (by omega); have := m_ckI (x := x2) (by omega); omega]; exact hbt
  refine lv_istore_n (lv' := [(1, .int x6), (0, .ref (b + 81))]) hx hb dX12_closes_19 rfl hl (by decide) rfl (fun ls hl => ?_)
  refine lv_aload_n hx hb dX12_closes_20 rfl (lv_at hl 1 rfl) ?_
  refine lv_bipush (v := 7) hx hb dX12_closes_21 (by decide) ?_
  refine lv_iload_n hx hb dX12_closes_23 rfl (lv_at hl 0 rfl) ?_
  refine lv_iconst (v := 1) hx hb dX12_closes_24 (by decide) ?_
  refine lv_iadd hx hb dX12_closes_25 ?_
  refine lv_topi (fun x7 ex7 => ?_)
  have tx7 : x7.toInt = x6.toInt + 1 := m_addI ex7 (rfl : x6.toInt = _) (by decide : (1 : Int32).toInt = 1) (by omega) (by omega)
  refine lv_iconst (v := 0) hx hb dX12_closes_26 (by decide) ?_
  have l_7 : (7 : Int32).toInt = 7 := by decide
  have l_0 : (0 : Int32).toInt = 0 := by decide
  refine m_aV hW (m_runV (As := [.int 7, .int x7, .int 0]) (rest := []) hx hb hml hown hts hW (81) (g_X12_emits l D cy b (fun g => [25, 33, 41].contains g) μ3 rfl rfl rfl ov (by omega) 7 x7 0 (by omega) μ3 (IY.rf hI.1) (by rw [← hμ3]; exact h_ov)) mi_X12_emits k_X12_301 rfl rfl rfl hl.1 rfl (Nat.le_of_ble_eq_true rfl) dX12_closes_27 ⟨Nat.le_of_ble_eq_true rfl, Nat.le_of_ble_eq_true rfl⟩ ⟨Nat.le_of_ble_eq_true rfl, Nat.le_of_ble_eq_true rfl⟩) (fun μ8 H locs q8 hW => ?_)
  obtain ⟨hJ8, q8⟩ := q8
  have hI := hI.tr hJ8 (m_subL (by simp [hS25, hS33, hS41]))
  have hfT : μ8.1 106 = fT := by rw [show μ8.1 106 = μ3.1 106 from funext fun j => hJ8.2.1 106 j rfl]; exact hfT
  have hRW : m_RW μ8 := hRW.fr hJ8 rfl
  have hms : m_MS μ8 fT t.toNatClampNeg gi := hms.fr hJ8 rfl
  have hfm : m_FM μ8 sl4 := hfm.fr hJ8 rfl
  obtain ⟨q8, q8l⟩ := q8
  obtain ⟨x9, hx9⟩ : ∃ z, μ8.1 111 8 = z := ⟨_, rfl⟩
  have tx9 : x9.toInt = ov.toInt + 1 := by rw [← hx9]; exact q8.2.2.2.2
  have hgp : m_GP μ8 := hgp.lo q8l
  have hps : m_PS μ8 := hps.close (ov := ov) (nv := nv) (y := x2) (bv := x6) (a := x7) (by exact h_ov) (by omega) (by omega) (by exact h_nv) (by omega) hμ3 (by omega) (by exact ex6.symm) (by omega) (by omega) q8 (funext fun j => hJ8.2.1 118 j rfl) (hJ8.2.1 81 53 rfl)
  refine lv_aload_n hx hb dX12_closes_30 rfl (lv_at hl 1 rfl) ?_
  have hal10 := hms.at_le
  rw [show μ8.1 81 36 = av from by exact ((hJ8.2.1 81 36 rfl).trans (by rw [← hμ3]; exact h_av))] at hal10
  have ckt := m_ckI (x := t) (by omega)
  refine m_aV hW (m_runV (As := []) (rest := []) hx hb hml hown hts hW (81) (g_X12_reads_f l D cy b (fun g => [24].contains g) μ8 rfl av t (by omega) fT μ8 (IY.rf hI.1) (by exact ((hJ8.2.1 81 36 rfl).trans (by rw [← hμ3]; exact h_av))) (by exact ((hJ8.2.1 81 35 rfl).trans (by rw [← hμ3]; exact htp))) hfT hRW) mi_X12_reads k_X12_279 rfl rfl rfl hl.1 rfl (Nat.le_of_ble_eq_true rfl) dX12_closes_31 ⟨Nat.le_of_ble_eq_true rfl, Nat.le_of_ble_eq_true rfl⟩ ⟨Nat.le_of_ble_eq_true rfl, Nat.le_of_ble_eq_true rfl⟩) (fun μ11 H locs q11 hW => ?_)
  obtain ⟨hJ11, q11⟩ := q11
  have hI := hI.tr hJ11 (m_subL (by simp [hS24]))
  have hfT : μ11.1 106 = fT := by rw [show μ11.1 106 = μ8.1 106 from funext fun j => hJ11.2.1 106 j rfl]; exact hfT
  have hRW : m_RW μ11 := hRW.fr hJ11 rfl
  have hfm : m_FM μ11 sl4 := hfm.fr hJ11 rfl
  have hps : m_PS μ11 := hps.fr hJ11 rfl rfl rfl
  have hgp : m_GP μ11 := hgp.fr hJ11 rfl rfl
  obtain ⟨q11, q11f⟩ := q11
  have hms : m_MS μ11 fT t.toNatClampNeg (gi + 1) := hms.next (a := av) (by exact ((hJ8.2.1 81 36 rfl).trans (by rw [← hμ3]; exact h_av))) q11f
  obtain ⟨x12, hx12⟩ : ∃ z, μ11.1 81 36 = z := ⟨_, rfl⟩
  have bx12 : 0 ≤ x12.toInt ∧ x12.toInt ≤ 400 := by rw [← hx12]; exact hI.1 _ _ _ _ rfl
  rw [show μ11.1 81 36 = x12 from by exact hx12] at q11
  obtain ⟨x13, hx13⟩ : ∃ z, μ11.1 81 37 = z := ⟨_, rfl⟩
  have bx13 : 0 ≤ x13.toInt ∧ x13.toInt ≤ 400 := by rw [← hx13]; exact hI.1 _ _ _ _ rfl
  rw [show μ11.1 81 37 = x13 from by exact hx13] at q11
  obtain ⟨x14, hx14⟩ : ∃ z, μ11.1 81 38 = z := ⟨_, rfl⟩
  have bx14 : 0 ≤ x14.toInt ∧ x14.toInt ≤ 4 := by rw [← hx14]; exact hI.1 _ _ _ _ rfl
  rw [show μ11.1 81 38 = x14 from by exact hx14] at q11
  obtain ⟨x15, hx15⟩ : ∃ z, μ11.1 81 39 = z := ⟨_, rfl⟩
  have bx15 : -1 ≤ x15.toInt ∧ x15.toInt ≤ 99999 := by rw [← hx15]; exact hI.1 _ _ _ _ rfl
  rw [show μ11.1 81 39 = x15 from by exact hx15] at q11
  have hk16 : m_TQ ((t_K fT t.toNatClampNeg) (gi + 1)) (m_VV fT t.toNatClampNeg (gi + 1)) x14 x15 := by
    have z := hms.2.2
    rw [show μ11.1 81 38 = x14 from by exact hx14, show μ11.1 81 39 = x15 from by exact hx15] at z
    exact z
  exact m_vret hx hb hr hlocks hW (⟨hI, ⟨hgp, by rw [show μ11.1 81 51 = uv from by exact ((hJ11.2.1 81 51 rfl).trans (by exact ((hJ8.2.1 81 51 rfl).trans (by rw [← hμ3]; exact h_uv)))), show μ11.1 81 37 = x13 from by exact hx13, show μ11.1 81 36 = x12 from by exact hx12, show μ11.1 81 38 = x14 from by exact hx14, show μ11.1 111 8 = x9 from by exact ((hJ11.2.1 111 8 rfl).trans (by exact hx9))]; omega, hps, hms, sl4, by rw [hs4, hb4.mpr (by rw [show x2.toNatClampNeg = nv.toNatClampNeg - 1 from by have := m_ckI (x := nv) (by omega); have := m_ckI (x := x2) (by omega); omega]; exact hbt)], hfm⟩⟩) dX12_closes_34
set_option maxHeartbeats 4000000 in
set_option maxRecDepth 100000 in
theorem L_X12_ends_g_0 {p : Program} {l : Launch} {e : Env} {s : State} {m : MethodId} {args : Array Value} {below : List Frame} {meth : Method} {c : Code} {D : va_G} {cy : Nat → ClassId} {b : Nat} (hx : p.tables.exec = Jvm.exec) (hb : c.code = cX12_ends) (hr : meth.sig.returnType = ((some .int))) (hml : c.maxLocals = 1) (hown : s.vm.findClass RX12 = some m.cls) (hts : ∀ w ∈ TB, w.before args s = true) (hlocks : meth.locks = false) (S : Nat → Bool) (μ0 : mM) (hS24 : S 24 = true) (hS25 : S 25 = true) (hS33 : S 33 = true) (hS34 : S 34 = true) (hS35 : S 35 = true) (hS36 : S 36 = true) (hS41 : S 41 = true) (av fv tk vv uv ov : Int32) (h_g : 0 ≤ av.toInt ∧ av.toInt ≤ 400 ∧ 0 ≤ fv.toInt ∧ fv.toInt ≤ 400 ∧ 0 ≤ tk.toInt ∧ tk.toInt ≤ 4 ∧ -1 ≤ vv.toInt ∧ vv.toInt ≤ 99999 ∧ 0 ≤ uv.toInt ∧ uv.toInt ≤ 400 ∧ 0 ≤ ov.toInt ∧ ov.toInt ≤ 400 ∧ uv.toInt ≤ fv.toInt ∧ fv.toInt ≤ av.toInt ∧ (tk.toInt = 0 ∨ fv.toInt + 1 ≤ av.toInt) ∧ ov.toInt ≤ fv.toInt) (t : Int32) (h_tt : 0 ≤ t.toInt ∧ t.toInt ≤ 400) (fT : Nat → Int32) (gi : Nat) (sl : List Bool) : ∀ (f : Nat), ∀ (nv2 : Int32) (gs : List Bool) (hy : 0 ≤ nv2.toInt ∧ nv2.toInt ≤ 4) (hf : nv2.toInt < (f : Int)) (μ : mM) (hI : IY S μ0 μ) (h_av : μ.1 81 36 = av) (h_fv : μ.1 81 37 = fv) (h_tk : μ.1 81 38 = tk) (h_vv : μ.1 81 39 = vv) (h_uv : μ.1 81 51 = uv) (h_ov : μ.1 111 8 = ov) (h_nv : μ.1 81 53 = nv2) (hps : m_PS μ) (hgp : m_GP μ) (htp : μ.1 81 35 = t) (hfT : μ.1 106 = fT) (hRW : m_RW μ) (hms : m_MS μ fT t.toNatClampNeg gi) (hfm : m_FM μ gs) (hpp : a_pop gs = a_pop sl) (H : Heap) (locs : List Loc), m_WA (m_A b LAY) D cy s b LAY μ H locs → ∀ ls : Array Slot, lv_has ls 1 [(0, .ref (b + 81))] → W p l e (m_R 3 0 0) s m args below meth c H locs 0 0 (MQ below (m_Qi D cy b LAY (fun r ν => IY S μ0 ν ∧ (m_GP ν ∧ ((r = -1 ∧ ∃ e, a_close (t_K fT t.toNatClampNeg) (t_L fT t.toNatClampNeg) sl gi = .inl e ∧ m_FT ν e) ∨ (r = 0 ∧ ((ν.1 81 51).toInt ≤ (ν.1 81 37).toInt ∧ fv.toInt ≤ (ν.1 81 37).toInt ∧ (ν.1 81 37).toInt ≤ (ν.1 81 36).toInt ∧ ((ν.1 81 38).toInt = 0 ∨ (ν.1 81 37).toInt + 1 ≤ (ν.1 81 36).toInt) ∧ (ν.1 111 8).toInt ≤ (ν.1 81 37).toInt) ∧ m_PS ν ∧ ∃ j, a_close (t_K fT t.toNatClampNeg) (t_L fT t.toNatClampNeg) sl gi = .inr (j, a_pop sl) ∧ m_MS ν fT t.toNatClampNeg j ∧ m_FM ν (a_pop sl)))))) args s 0 0 (m_A b LAY)) (F0 m 0 ls []) := by
  intro f
  induction f with
  | zero => intro  nv2 gs hy hf; exfalso; omega
  | succ f ih =>
    intro  nv2 gs hy hf μ hI h_av h_fv h_tk h_vv h_uv h_ov h_nv hps hgp htp hfT hRW hms hfm hpp H locs hW ls hl
    have hkk : m_TQ ((t_K fT t.toNatClampNeg) gi) (m_VV fT t.toNatClampNeg gi) tk vv := by have z := hms.2.2; rw [h_tk, h_vv] at z; exact z
    refine lv_aload_n hx hb dX12_ends_0 rfl (lv_at hl 0 rfl) ?_
    refine m_geti hx hb hts hown hW (81) 53 rfl rfl cw_12 rfl (by decide) k_X12_294 dX12_ends_1 ?_
    refine lv_topi (fun x1 ex1 => ?_)
    have ex1 : x1 = nv2 := by rw [ex1]; exact h_nv
    have ex1 := ex1.symm
    subst ex1
    refine lv_if_le (tgt := 63) hx hb dX12_ends_4 (by decide) (fun c2 => ?_) (fun c2 => ?_)
    · have i2 := m_c3 (rfl : nv2.toInt = _) (by decide : (0 : Int32).toInt = 0) c2
      have hpo : a_pop gs = gs := by
        cases hgs : gs with
        | nil => rfl
        | cons b s1 =>
          rw [hgs] at hfm
          have := hfm.len (nv := nv2) (by exact h_nv) (by omega)
          simp only [List.length_cons] at this
          omega
      have hfm : m_FM μ (a_pop sl) := by rw [← hpp, hpo]; exact hfm
      refine lv_aload_n hx hb dX12_ends_63 rfl (lv_at hl 0 rfl) ?_
      refine lv_bipush (v := 59) hx hb dX12_ends_64 (by decide) ?_
      have l_59 : (59 : Int32).toInt = 59 := by decide
      refine m_aI hW (m_runV (As := [.int 59]) (rest := []) hx hb hml hown hts hW (81) (g_X12_isSign_f l D cy b 59 μ hI.1) mi_X12_isSign k_X12_291 rfl rfl rfl hl.1 rfl (Nat.le_of_ble_eq_true rfl) dX12_ends_66 ⟨Nat.le_of_ble_eq_true rfl, Nat.le_of_ble_eq_true rfl⟩ ⟨Nat.le_of_ble_eq_true rfl, Nat.le_of_ble_eq_true rfl⟩) (fun x3 μ3 H locs q3 hW => ?_)
      obtain ⟨q3_m, q3⟩ := q3
      subst q3_m
      rw [show μ.1 81 38 = tk from by exact h_tk, show μ.1 81 39 = vv from by exact h_vv] at q3
      rcases q3 with ⟨rfl, q3⟩ | ⟨rfl, q3⟩
      · refine lv_if_ne (tgt := 78) hx hb dX12_ends_69 (by decide) (fun _ => ?_) (fun c => False.elim (by revert c; decide))
        refine lv_aload_n hx hb dX12_ends_78 rfl (lv_at hl 0 rfl) ?_
        have hal4 := hms.at_le
        rw [show μ.1 81 36 = av from by exact h_av] at hal4
        have ckt := m_ckI (x := t) (by omega)
        refine m_aV hW (m_runV (As := []) (rest := []) hx hb hml hown hts hW (81) (g_X12_reads_f l D cy b (fun g => [24].contains g) μ rfl av t (by omega) fT μ (IY.rf hI.1) (by exact h_av) (by exact htp) hfT hRW) mi_X12_reads k_X12_279 rfl rfl rfl hl.1 rfl (Nat.le_of_ble_eq_true rfl) dX12_ends_79 ⟨Nat.le_of_ble_eq_true rfl, Nat.le_of_ble_eq_true rfl⟩ ⟨Nat.le_of_ble_eq_true rfl, Nat.le_of_ble_eq_true rfl⟩) (fun μ5 H locs q5 hW => ?_)
        obtain ⟨hJ5, q5⟩ := q5
        have hI := hI.tr hJ5 (m_subL (by simp [hS24]))
        have hfT : μ5.1 106 = fT := by rw [show μ5.1 106 = μ.1 106 from funext fun j => hJ5.2.1 106 j rfl]; exact hfT
        have hRW : m_RW μ5 := hRW.fr hJ5 rfl
        have hps : m_PS μ5 := hps.fr hJ5 rfl rfl rfl
        have hgp : m_GP μ5 := hgp.fr hJ5 rfl rfl
        have hfm : m_FM μ5 (a_pop sl) := hfm.fr hJ5 rfl
        obtain ⟨q5, q5f⟩ := q5
        have hms : m_MS μ5 fT t.toNatClampNeg (gi + 1) := hms.next (a := av) (by exact h_av) q5f
        obtain ⟨x6, hx6⟩ : ∃ z, μ5.1 81 36 = z := ⟨_, rfl⟩
        have bx6 : 0 ≤ x6.toInt ∧ x6.toInt ≤ 400 := by rw [← hx6]; exact hI.1 _ _ _ _ rfl
        rw [show μ5.1 81 36 = x6 from by exact hx6] at q5
        obtain ⟨x7, hx7⟩ : ∃ z, μ5.1 81 37 = z := ⟨_, rfl⟩
        have bx7 : 0 ≤ x7.toInt ∧ x7.toInt ≤ 400 := by rw [← hx7]; exact hI.1 _ _ _ _ rfl
        rw [show μ5.1 81 37 = x7 from by exact hx7] at q5
        obtain ⟨x8, hx8⟩ : ∃ z, μ5.1 81 38 = z := ⟨_, rfl⟩
        have bx8 : 0 ≤ x8.toInt ∧ x8.toInt ≤ 4 := by rw [← hx8]; exact hI.1 _ _ _ _ rfl
        rw [show μ5.1 81 38 = x8 from by exact hx8] at q5
        obtain ⟨x9, hx9⟩ : ∃ z, μ5.1 81 39 = z := ⟨_, rfl⟩
        have bx9 : -1 ≤ x9.toInt ∧ x9.toInt ≤ 99999 := by rw [← hx9]; exact hI.1 _ _ _ _ rfl
        rw [show μ5.1 81 39 = x9 from by exact hx9] at q5
        have hk10 : m_TQ ((t_K fT t.toNatClampNeg) (gi + 1)) (m_VV fT t.toNatClampNeg (gi + 1)) x8 x9 := by
          have z := hms.2.2
          rw [show μ5.1 81 38 = x8 from by exact hx8, show μ5.1 81 39 = x9 from by exact hx9] at z
          exact z
        refine lv_iconst (v := 0) hx hb dX12_ends_82 (by decide) ?_
        exact m_iret hx hb hr hlocks hW rfl (⟨hI, ⟨hgp, Or.inr ⟨rfl, by rw [show μ5.1 81 51 = uv from by exact ((hJ5.2.1 81 51 rfl).trans (by exact h_uv)), show μ5.1 81 37 = x7 from by exact hx7, show μ5.1 81 36 = x6 from by exact hx6, show μ5.1 81 38 = x8 from by exact hx8, show μ5.1 111 8 = ov from by exact ((hJ5.2.1 111 8 rfl).trans (by exact h_ov))]; omega, hps, _, (by unfold a_close; rw [a_k1 (by have hz := hkk.all; omega)]; rfl), hms, hfm⟩⟩⟩) dX12_ends_83
      · refine lv_if_ne (tgt := 78) hx hb dX12_ends_69 (by decide) (fun c => False.elim (by revert c; decide)) (fun _ => ?_)
        refine lv_aload_n hx hb dX12_ends_72 rfl (lv_at hl 0 rfl) ?_
        refine lv_iconst (v := 1) hx hb dX12_ends_73 (by decide) ?_
        have l_1 : (1 : Int32).toInt = 1 := by decide
        refine m_aI hW (m_runV (As := [.int 1]) (rest := []) hx hb hml hown hts hW (81) (g_X12_fails_f l D cy b (fun g => [36].contains g) μ rfl 1 μ (IY.rf hI.1)) mi_X12_fails k_X12_282 rfl rfl rfl hl.1 rfl (Nat.le_of_ble_eq_true rfl) dX12_ends_74 ⟨Nat.le_of_ble_eq_true rfl, Nat.le_of_ble_eq_true rfl⟩ ⟨Nat.le_of_ble_eq_true rfl, Nat.le_of_ble_eq_true rfl⟩) (fun x11 μ11 H locs q11 hW => ?_)
        obtain ⟨hJ11, q11⟩ := q11
        have hI := hI.tr hJ11 (m_subL (by simp [hS36]))
        have hfT : μ11.1 106 = fT := by rw [show μ11.1 106 = μ.1 106 from funext fun j => hJ11.2.1 106 j rfl]; exact hfT
        have hRW : m_RW μ11 := hRW.fr hJ11 rfl
        have hms : m_MS μ11 fT t.toNatClampNeg gi := hms.fr hJ11 rfl
        have hps : m_PS μ11 := hps.fr hJ11 rfl rfl rfl
        have hgp : m_GP μ11 := hgp.fr hJ11 rfl rfl
        have hfm : m_FM μ11 (a_pop sl) := hfm.fr hJ11 rfl
        obtain ⟨rfl, q111, q112⟩ := q11
        have hft : m_FT μ11 (1, (t_L fT t.toNatClampNeg) gi) := ⟨by rw [q111]; rfl, by rw [q112]; exact hms.2.1⟩
        exact m_iret hx hb hr hlocks hW rfl (⟨hI, ⟨hgp, Or.inl ⟨rfl, (1, (t_L fT t.toNatClampNeg) gi), (by unfold a_close; rw [a_k0 (by have hz := hkk.all; omega)]; rfl), hft⟩⟩⟩) dX12_ends_77
    · have i2 := m_c4 (rfl : nv2.toInt = _) (by decide : (0 : Int32).toInt = 0) c2
      refine lv_aload_n hx hb dX12_ends_7 rfl (lv_at hl 0 rfl) ?_
      refine m_getr hx hb hts hown hW (81) 52 (118) rfl rfl cw_12 rfl (by decide) k_X12_131 dX12_ends_8 ?_
      refine lv_aload_n hx hb dX12_ends_11 rfl (lv_at hl 0 rfl) ?_
      refine m_geti hx hb hts hown hW (81) 53 rfl rfl cw_12 rfl (by decide) k_X12_294 dX12_ends_12 ?_
      refine lv_topi (fun x12 ex12 => ?_)
      have ex12 : x12 = nv2 := by rw [ex12]; exact h_nv
      have ex12 := ex12.symm
      subst ex12
      refine lv_iconst (v := 1) hx hb dX12_ends_15 (by decide) ?_
      refine lv_isub hx hb dX12_ends_16 ?_
      refine lv_topi (fun x13 ex13 => ?_)
      have tx13 : x13.toInt = nv2.toInt - 1 := m_subI ex13 (rfl : nv2.toInt = _) (by decide : (1 : Int32).toInt = 1) (by omega) (by omega)
      refine m_iald hx hb hW (118) rfl (m_ixI (rfl : x13.toInt = _) (by omega) (by omega)) dX12_ends_17 ?_
      refine lv_topi (fun x14 ex14 => ?_)
      have bx14 : -1000 ≤ x14.toInt ∧ x14.toInt ≤ 399 := by rw [ex14]; exact hI.1 _ _ _ _ rfl
      have tpx14 : x14.toInt < 0 → -1000 ≤ x14.toInt ∧ x14.toInt ≤ -601 := fun h0 => hps.top (nv := nv2) (y := x13) (by exact h_nv) (by omega) (by omega) ex14.symm h0
      refine lv_if_ge (tgt := 63) hx hb dX12_ends_18 (by decide) (fun c15 => ?_) (fun c15 => ?_)
      · have i15 := m_c3 (by decide : (0 : Int32).toInt = 0) (rfl : x14.toInt = _) c15
        have hpo : a_pop gs = gs := by
          cases hgs : gs with
          | nil => rfl
          | cons b s1 =>
            rw [hgs] at hfm
            obtain ⟨b2, s2, e2, hb2⟩ := hfm.top (nv := nv2) (y := x13) (by exact h_nv) (by omega) (by omega)
            cases e2
            rw [hb2.mpr (by rw [← ex14]; omega)]
            rfl
        have hfm : m_FM μ (a_pop sl) := by rw [← hpp, hpo]; exact hfm
        refine lv_aload_n hx hb dX12_ends_63 rfl (lv_at hl 0 rfl) ?_
        refine lv_bipush (v := 59) hx hb dX12_ends_64 (by decide) ?_
        have l_59 : (59 : Int32).toInt = 59 := by decide
        refine m_aI hW (m_runV (As := [.int 59]) (rest := []) hx hb hml hown hts hW (81) (g_X12_isSign_f l D cy b 59 μ hI.1) mi_X12_isSign k_X12_291 rfl rfl rfl hl.1 rfl (Nat.le_of_ble_eq_true rfl) dX12_ends_66 ⟨Nat.le_of_ble_eq_true rfl, Nat.le_of_ble_eq_true rfl⟩ ⟨Nat.le_of_ble_eq_true rfl, Nat.le_of_ble_eq_true rfl⟩) (fun x16 μ16 H locs q16 hW => ?_)
        obtain ⟨q16_m, q16⟩ := q16
        subst q16_m
        rw [show μ.1 81 38 = tk from by exact h_tk, show μ.1 81 39 = vv from by exact h_vv] at q16
        rcases q16 with ⟨rfl, q16⟩ | ⟨rfl, q16⟩
        · refine lv_if_ne (tgt := 78) hx hb dX12_ends_69 (by decide) (fun _ => ?_) (fun c => False.elim (by revert c; decide))
          refine lv_aload_n hx hb dX12_ends_78 rfl (lv_at hl 0 rfl) ?_
          have hal17 := hms.at_le
          rw [show μ.1 81 36 = av from by exact h_av] at hal17
          have ckt := m_ckI (x := t) (by omega)
          refine m_aV hW (m_runV (As := []) (rest := []) hx hb hml hown hts hW (81) (g_X12_reads_f l D cy b (fun g => [24].contains g) μ rfl av t (by omega) fT μ (IY.rf hI.1) (by exact h_av) (by exact htp) hfT hRW) mi_X12_reads k_X12_279 rfl rfl rfl hl.1 rfl (Nat.le_of_ble_eq_true rfl) dX12_ends_79 ⟨Nat.le_of_ble_eq_true rfl, Nat.le_of_ble_eq_true rfl⟩ ⟨Nat.le_of_ble_eq_true rfl, Nat.le_of_ble_eq_true rfl⟩) (fun μ18 H locs q18 hW => ?_)
          obtain ⟨hJ18, q18⟩ := q18
          have hI := hI.tr hJ18 (m_subL (by simp [hS24]))
          have hfT : μ18.1 106 = fT := by rw [show μ18.1 106 = μ.1 106 from funext fun j => hJ18.2.1 106 j rfl]; exact hfT
          have hRW : m_RW μ18 := hRW.fr hJ18 rfl
          have hps : m_PS μ18 := hps.fr hJ18 rfl rfl rfl
          have hgp : m_GP μ18 := hgp.fr hJ18 rfl rfl
          have hfm : m_FM μ18 (a_pop sl) := hfm.fr hJ18 rfl
          obtain ⟨q18, q18f⟩ := q18
          have hms : m_MS μ18 fT t.toNatClampNeg (gi + 1) := hms.next (a := av) (by exact h_av) q18f
          obtain ⟨x19, hx19⟩ : ∃ z, μ18.1 81 36 = z := ⟨_, rfl⟩
          have bx19 : 0 ≤ x19.toInt ∧ x19.toInt ≤ 400 := by rw [← hx19]; exact hI.1 _ _ _ _ rfl
          rw [show μ18.1 81 36 = x19 from by exact hx19] at q18
          obtain ⟨x20, hx20⟩ : ∃ z, μ18.1 81 37 = z := ⟨_, rfl⟩
          have bx20 : 0 ≤ x20.toInt ∧ x20.toInt ≤ 400 := by rw [← hx20]; exact hI.1 _ _ _ _ rfl
          rw [show μ18.1 81 37 = x20 from by exact hx20] at q18
          obtain ⟨x21, hx21⟩ : ∃ z, μ18.1 81 38 = z := ⟨_, rfl⟩
          have bx21 : 0 ≤ x21.toInt ∧ x21.toInt ≤ 4 := by rw [← hx21]; exact hI.1 _ _ _ _ rfl
          rw [show μ18.1 81 38 = x21 from by exact hx21] at q18
          obtain ⟨x22, hx22⟩ : ∃ z, μ18.1 81 39 = z := ⟨_, rfl⟩
          have bx22 : -1 ≤ x22.toInt ∧ x22.toInt ≤ 99999 := by rw [← hx22]; exact hI.1 _ _ _ _ rfl
          rw [show μ18.1 81 39 = x22 from by exact hx22] at q18
          have hk23 : m_TQ ((t_K fT t.toNatClampNeg) (gi + 1)) (m_VV fT t.toNatClampNeg (gi + 1)) x21 x22 := by
            have z := hms.2.2
            rw [show μ18.1 81 38 = x21 from by exact hx21, show μ18.1 81 39 = x22 from by exact hx22] at z
            exact z
          refine lv_iconst (v := 0) hx hb dX12_ends_82 (by decide) ?_
          exact m_iret hx hb hr hlocks hW rfl (⟨hI, ⟨hgp, Or.inr ⟨rfl, by rw [show μ18.1 81 51 = uv from by exact ((hJ18.2.1 81 51 rfl).trans (by exact h_uv)), show μ18.1 81 37 = x20 from by exact hx20, show μ18.1 81 36 = x19 from by exact hx19, show μ18.1 81 38 = x21 from by exact hx21, show μ18.1 111 8 = ov from by exact ((hJ18.2.1 111 8 rfl).trans (by exact h_ov))]; omega, hps, _, (by unfold a_close; rw [a_k1 (by have hz := hkk.all; omega)]; rfl), hms, hfm⟩⟩⟩) dX12_ends_83
        · refine lv_if_ne (tgt := 78) hx hb dX12_ends_69 (by decide) (fun c => False.elim (by revert c; decide)) (fun _ => ?_)
          refine lv_aload_n hx hb dX12_ends_72 rfl (lv_at hl 0 rfl) ?_
          refine lv_iconst (v := 1) hx hb dX12_ends_73 (by decide) ?_
          have l_1 : (1 : Int32).toInt = 1 := by decide
          refine m_aI hW (m_runV (As := [.int 1]) (rest := []) hx hb hml hown hts hW (81) (g_X12_fails_f l D cy b (fun g => [36].contains g) μ rfl 1 μ (IY.rf hI.1)) mi_X12_fails k_X12_282 rfl rfl rfl hl.1 rfl (Nat.le_of_ble_eq_true rfl) dX12_ends_74 ⟨Nat.le_of_ble_eq_true rfl, Nat.le_of_ble_eq_true rfl⟩ ⟨Nat.le_of_ble_eq_true rfl, Nat.le_of_ble_eq_true rfl⟩) (fun x24 μ24 H locs q24 hW => ?_)
          obtain ⟨hJ24, q24⟩ := q24
          have hI := hI.tr hJ24 (m_subL (by simp [hS36]))
          have hfT : μ24.1 106 = fT := by rw [show μ24.1 106 = μ.1 106 from funext fun j => hJ24.2.1 106 j rfl]; exact hfT
          have hRW : m_RW μ24 := hRW.fr hJ24 rfl
          have hms : m_MS μ24 fT t.toNatClampNeg gi := hms.fr hJ24 rfl
          have hps : m_PS μ24 := hps.fr hJ24 rfl rfl rfl
          have hgp : m_GP μ24 := hgp.fr hJ24 rfl rfl
          have hfm : m_FM μ24 (a_pop sl) := hfm.fr hJ24 rfl
          obtain ⟨rfl, q241, q242⟩ := q24
          have hft : m_FT μ24 (1, (t_L fT t.toNatClampNeg) gi) := ⟨by rw [q241]; rfl, by rw [q242]; exact hms.2.1⟩
          exact m_iret hx hb hr hlocks hW rfl (⟨hI, ⟨hgp, Or.inl ⟨rfl, (1, (t_L fT t.toNatClampNeg) gi), (by unfold a_close; rw [a_k0 (by have hz := hkk.all; omega)]; rfl), hft⟩⟩⟩) dX12_ends_77
      · have i15 := m_c4 (by decide : (0 : Int32).toInt = 0) (rfl : x14.toInt = _) c15
        refine lv_aload_n hx hb dX12_ends_21 rfl (lv_at hl 0 rfl) ?_
        refine lv_aload_n hx hb dX12_ends_22 rfl (lv_at hl 0 rfl) ?_
        refine m_geti hx hb hts hown hW (81) 53 rfl rfl cw_12 rfl (by decide) k_X12_294 dX12_ends_23 ?_
        refine lv_topi (fun x25 ex25 => ?_)
        have ex25 : x25 = nv2 := by rw [ex25]; exact h_nv
        have ex25 := ex25.symm
        subst ex25
        refine lv_iconst (v := 1) hx hb dX12_ends_26 (by decide) ?_
        refine lv_isub hx hb dX12_ends_27 ?_
        refine lv_topi (fun x26 ex26 => ?_)
        have ex26 : x26 = x13 := ex26.trans ex13.symm
        have ex26 := ex26.symm
        subst ex26
        refine m_puti hx hb hts hown hW (81) 53 rfl rfl cw_12 tyX12_ok nmX12 rfl (by decide) k_X12_294 rfl rfl rfl dX12_ends_28 (fun H locs hW _ => ?_)
        generalize hμ27 : m_si μ (81) 53 x13 = μ27 at hW
        have hfT : μ27.1 106 = fT := by rw [← hμ27, m_si_row (by decide)]; exact hfT
        have hRW : m_RW μ27 := fun i hi => by rw [← hμ27, m_si_ne (by decide)]; exact hRW i hi
        have hms : m_MS μ27 fT t.toNatClampNeg gi := hms.si hμ27 (fun _ => by decide)
        have hgp : m_GP μ27 := hgp.si hμ27 (by decide) (by decide) (by decide)
        obtain ⟨b28, sl28, hs28, hb28, hfm⟩ := hfm.pop (nv := nv2) (y := x13) (by exact h_nv) (by omega) hμ27 (by omega)
        have hI := hI.si1 hμ27 rfl (by omega) hS35
        refine lv_aload_n hx hb dX12_ends_31 rfl (lv_at hl 0 rfl) ?_
        refine m_getr hx hb hts hown hW (81) 42 (109) rfl rfl cw_12 rfl (by decide) k_X12_104 dX12_ends_32 ?_
        refine lv_sipush (v := 3200) hx hb dX12_ends_35 (by decide) ?_
        refine lv_aload_n hx hb dX12_ends_38 rfl (lv_at hl 0 rfl) ?_
        refine m_getr hx hb hts hown hW (81) 52 (118) rfl rfl cw_12 rfl (by decide) k_X12_131 dX12_ends_39 ?_
        refine lv_aload_n hx hb dX12_ends_42 rfl (lv_at hl 0 rfl) ?_
        refine m_geti hx hb hts hown hW (81) 53 rfl rfl cw_12 rfl (by decide) k_X12_294 dX12_ends_43 ?_
        refine lv_topi (fun x29 ex29 => ?_)
        have ex29 : x29 = x13 := by rw [ex29, ← hμ27]; first | rfl | exact if_pos ⟨rfl, rfl⟩
        have ex29 := ex29.symm
        subst ex29
        refine m_iald hx hb hW (118) rfl (m_ixI (rfl : x13.toInt = _) (by omega) (by omega)) dX12_ends_46 ?_
        refine lv_topi (fun x30 ex30 => ?_)
        have ex30 : x30 = x14 := by rw [ex30, ← hμ27]; exact ex14.symm
        have ex30 := ex30.symm
        subst ex30
        refine lv_iadd hx hb dX12_ends_47 ?_
        refine lv_topi (fun x31 ex31 => ?_)
        have tx31 : x31.toInt = 3200 + x14.toInt := m_addI ex31 (by decide : (3200 : Int32).toInt = 3200) (rfl : x14.toInt = _) (by omega) (by omega)
        refine lv_sipush (v := 1000) hx hb dX12_ends_48 (by decide) ?_
        refine lv_iadd hx hb dX12_ends_51 ?_
        refine lv_topi (fun x32 ex32 => ?_)
        have tx32 : x32.toInt = x31.toInt + 1000 := m_addI ex32 (rfl : x31.toInt = _) (by decide : (1000 : Int32).toInt = 1000) (by omega) (by omega)
        refine lv_aload_n hx hb dX12_ends_52 rfl (lv_at hl 0 rfl) ?_
        refine m_getr hx hb hts hown hW (81) 44 (111) rfl rfl cw_12 rfl (by decide) k_X12_110 dX12_ends_53 ?_
        refine lv_bipush (v := 8) hx hb dX12_ends_56 (by decide) ?_
        refine m_iald hx hb hW (111) rfl (vp_in_iff.mpr ⟨by decide, by decide⟩) dX12_ends_58 ?_
        refine lv_topi (fun x33 ex33 => ?_)
        have ex33 : x33 = ov := by rw [ex33, ← hμ27]; exact h_ov
        have ex33 := ex33.symm
        subst ex33
        refine m_iast hx hb hW (109) rfl (m_ixI (rfl : x32.toInt = _) (by omega) (by omega)) dX12_ends_59 (fun H locs hW _ => ?_)
        generalize hμ34 : m_si μ27 (109) (x32 : Int32).toNatClampNeg ov = μ34 at hW
        have hfT : μ34.1 106 = fT := by rw [← hμ34, m_si_row (by decide)]; exact hfT
        have hRW : m_RW μ34 := fun i hi => by rw [← hμ34, m_si_ne (by decide)]; exact hRW i hi
        have hms : m_MS μ34 fT t.toNatClampNeg gi := hms.si hμ34 (fun q => absurd q (by decide))
        have hps : m_PS μ34 := hps.ends (ov := ov) (nv := nv2) (y := x13) (bv := x14) (k := x32) (by exact h_ov) (by omega) (by exact h_nv) (by omega) hμ27 (by omega) (by rw [← hμ27]; exact ex14.symm) (by omega) (by omega) (by omega) hμ34
        have hgp : m_GP μ34 := hgp.pa hμ34 (by have := m_ckI (x := x32) (by omega); omega)
        have hfm : m_FM μ34 sl28 := hfm.si hμ34 (by decide) (fun q => absurd q (by decide))
        have hI := hI.si1 hμ34 rfl (by omega) hS41
        refine lv_goto (tgt := 0) hx hb dX12_ends_60 (by decide) ?_
        exact ih  x13 sl28 (by omega) (by omega) μ34 hI (by rw [← hμ34, ← hμ27]; exact h_av) (by rw [← hμ34, ← hμ27]; exact h_fv) (by rw [← hμ34, ← hμ27]; exact h_tk) (by rw [← hμ34, ← hμ27]; exact h_vv) (by rw [← hμ34, ← hμ27]; exact h_uv) (by rw [← hμ34, ← hμ27]; exact h_ov) (by rw [← hμ34, ← hμ27]; first | rfl | exact if_pos ⟨rfl, rfl⟩) (hps) (hgp) (by rw [← hμ34, ← hμ27]; exact htp) (hfT) (hRW) (hms) (hfm) ((by rw [← hpp, hs28, show b28 = false from Bool.eq_false_iff.mpr (fun hbc => absurd (hb28.mp hbc) (by rw [← ex14]; omega))]; rfl)) _ _ hW ls (lv_sub hl [0] rfl)
set_option maxHeartbeats 4000000 in
set_option maxRecDepth 100000 in
theorem g_X12_ends_g (l : Launch) (D : va_G) (cy : Nat → ClassId) (b : Nat) (S : Nat → Bool) (μ0 : mM) (hS24 : S 24 = true) (hS25 : S 25 = true) (hS33 : S 33 = true) (hS34 : S 34 = true) (hS35 : S 35 = true) (hS36 : S 36 = true) (hS41 : S 41 = true) (av fv tk vv uv ov : Int32) (h_g : 0 ≤ av.toInt ∧ av.toInt ≤ 400 ∧ 0 ≤ fv.toInt ∧ fv.toInt ≤ 400 ∧ 0 ≤ tk.toInt ∧ tk.toInt ≤ 4 ∧ -1 ≤ vv.toInt ∧ vv.toInt ≤ 99999 ∧ 0 ≤ uv.toInt ∧ uv.toInt ≤ 400 ∧ 0 ≤ ov.toInt ∧ ov.toInt ≤ 400 ∧ uv.toInt ≤ fv.toInt ∧ fv.toInt ≤ av.toInt ∧ (tk.toInt = 0 ∨ fv.toInt + 1 ≤ av.toInt) ∧ ov.toInt ≤ fv.toInt) (t : Int32) (h_tt : 0 ≤ t.toInt ∧ t.toInt ≤ 400) (fT : Nat → Int32) (gi : Nat) (sl : List Bool) (μ : mM) (hI : IY S μ0 μ) (h_av : μ.1 81 36 = av) (h_fv : μ.1 81 37 = fv) (h_tk : μ.1 81 38 = tk) (h_vv : μ.1 81 39 = vv) (h_uv : μ.1 81 51 = uv) (h_ov : μ.1 111 8 = ov) (htp : μ.1 81 35 = t) (hfT : μ.1 106 = fT) (hRW : m_RW μ) (hms : m_MS μ fT t.toNatClampNeg gi) (hps : m_PS μ) (hgp : m_GP μ) (hfm : m_FM μ sl) : m_Ci l yX12_ends cX12_ends 1 ((some .int)) 3 D cy b LAY μ [.ref (b + 81)] (fun r ν => IY S μ0 ν ∧ (m_GP ν ∧ ((r = -1 ∧ ∃ e, a_close (t_K fT t.toNatClampNeg) (t_L fT t.toNatClampNeg) sl gi = .inl e ∧ m_FT ν e) ∨ (r = 0 ∧ ((ν.1 81 51).toInt ≤ (ν.1 81 37).toInt ∧ fv.toInt ≤ (ν.1 81 37).toInt ∧ (ν.1 81 37).toInt ≤ (ν.1 81 36).toInt ∧ ((ν.1 81 38).toInt = 0 ∨ (ν.1 81 37).toInt + 1 ≤ (ν.1 81 36).toInt) ∧ (ν.1 111 8).toInt ≤ (ν.1 81 37).toInt) ∧ m_PS ν ∧ ∃ j, a_close (t_K fT t.toNatClampNeg) (t_L fT t.toNatClampNeg) sl gi = .inr (j, a_pop sl) ∧ m_MS ν fT t.toNatClampNeg j ∧ m_FM ν (a_pop sl))))) := by
  unfold m_Ci
  refine m_of (by decide) (Nat.le_of_ble_eq_true rfl) ?_
  intro p e s m below meth c hx hb hr hml hown hts hlocks _ hW ls hl
  have hown : s.vm.findClass RX12 = some m.cls := hown
  have hl : lv_has ls 1 [(0, .ref (b + 81))] := hl
  obtain ⟨x1, hx1⟩ : ∃ z, μ.1 81 53 = z := ⟨_, rfl⟩
  have bx1 : 0 ≤ x1.toInt ∧ x1.toInt ≤ 4 := by rw [← hx1]; exact hI.1 _ _ _ _ rfl
  exact L_X12_ends_g_0 hx hb hr hml hown hts hlocks S μ0 hS24 hS25 hS33 hS34 hS35 hS36 hS41 av fv tk vv uv ov h_g t h_tt fT gi sl  5  x1 sl (by omega) (by omega) μ hI (by exact h_av) (by exact h_fv) (by exact h_tk) (by exact h_vv) (by exact h_uv) (by exact h_ov) (by exact hx1) (hps) (hgp) (by exact htp) (hfT) (hRW) (hms) (hfm) (rfl) _ _ hW ls (lv_sub hl [0] rfl)
