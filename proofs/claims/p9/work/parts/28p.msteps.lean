-- OPEN WORDS of the reference
def m_FS (fr : Nat → Int32) : Nat → List Bool → Prop
  | N, [] => N = 0
  | N, b :: sl => ∃ k, N = k + 1 ∧ (b = true ↔ 0 ≤ (fr k).toInt) ∧ m_FS fr k sl
theorem m_FS.cg {fr gr : Nat → Int32} : ∀ {N : Nat} {sl : List Bool}, m_FS fr N sl → (∀ e, e < N → gr e = fr e) → m_FS gr N sl
  | _, [], h, _ => h
  | _, _ :: _, ⟨k, h1, h2, h3⟩, hg => ⟨k, h1, by rw [hg k (by omega)]; exact h2, h3.cg (fun e he => hg e (by omega))⟩
theorem m_FS.len {fr : Nat → Int32} : ∀ {N : Nat} {sl : List Bool}, m_FS fr N sl → sl.length = N
  | _, [], h => h.symm
  | _, _ :: sl, ⟨k, h1, _, h3⟩ => by
    have := h3.len
    show sl.length + 1 = _
    omega
def m_FM (μ : mM) (sl : List Bool) : Prop := m_FS (μ.1 118) (μ.1 81 53).toNatClampNeg sl
theorem m_FM.cg {μ ν : mM} {sl : List Bool} (h : m_FM μ sl) (h1 : ν.1 118 = μ.1 118) (h2 : ν.1 81 53 = μ.1 81 53) : m_FM ν sl := by
  unfold m_FM
  rw [h1, h2]
  exact h
theorem m_FM.fr {S : Nat → Bool} {μ ν : mM} {sl : List Bool} (h : m_FM μ sl) (hJ : IY S μ ν) (h1 : S 35 = false) : m_FM ν sl := h.cg (funext fun j => hJ.2.1 118 j h1) (hJ.2.1 81 53 h1)
theorem m_FM.si {μ ν : mM} {sl : List Bool} (h : m_FM μ sl) {k j : Nat} {v : Int32} (e : m_si μ k j v = ν) (h1 : 118 ≠ k) (h2 : k = 81 → 53 ≠ j) : m_FM ν sl := by
  subst e
  refine h.cg (m_si_row h1) ?_
  by_cases q : k = 81
  · subst q
    exact m_si_el (h2 rfl)
  · exact m_si_ne (Ne.symm q)
theorem m_FM.push {μ μ1 ν : mM} {sl : List Bool} {nv x y : Int32} {b : Bool} (h : m_FM μ sl) (hn : μ.1 81 53 = nv) (h0 : 0 ≤ nv.toInt) (e1 : m_si μ 118 nv.toNatClampNeg x = μ1) (e2 : m_si μ1 81 53 y = ν) (hy : y.toInt = nv.toInt + 1) (hb : b = true ↔ 0 ≤ x.toInt) : m_FM ν (b :: sl) := by
  subst e1
  subst e2
  unfold m_FM at h ⊢
  rw [hn] at h
  rw [m_si_at, m_si_row (P := 118) (k := 81) (by decide), m_cl1 hy h0]
  exact ⟨_, rfl, by rw [m_si_at]; exact hb, h.cg (fun e he => m_si_el (by omega))⟩
theorem m_FM.pop {μ ν : mM} {sl : List Bool} {nv y : Int32} (h : m_FM μ sl) (hn : μ.1 81 53 = nv) (h1 : 1 ≤ nv.toInt) (e : m_si μ 81 53 y = ν) (hy : y.toInt = nv.toInt - 1) : ∃ b sl', sl = b :: sl' ∧ (b = true ↔ 0 ≤ (μ.1 118 y.toNatClampNeg).toInt) ∧ m_FM ν sl' := by
  subst e
  have cn : nv.toNatClampNeg = y.toNatClampNeg + 1 := m_cl1 (by omega) (by omega)
  unfold m_FM at h
  rw [hn, cn] at h
  cases sl with
  | nil => exact absurd h (by show ¬ _ = 0; omega)
  | cons b sl =>
    obtain ⟨k, h2, h3, h4⟩ := h
    have : k = y.toNatClampNeg := by omega
    subst this
    refine ⟨b, sl, rfl, h3, ?_⟩
    unfold m_FM
    rw [m_si_at, m_si_row (P := 118) (k := 81) (by decide)]
    exact h4
theorem m_FM.len {μ : mM} {sl : List Bool} {nv : Int32} (h : m_FM μ sl) (hn : μ.1 81 53 = nv) (h0 : 0 ≤ nv.toInt) : (sl.length : Int) = nv.toInt := by
  unfold m_FM at h
  have := h.len
  rw [hn] at this
  have := m_ckI h0
  omega
theorem m_FM.top {μ : mM} {sl : List Bool} {nv y : Int32} (h : m_FM μ sl) (hn : μ.1 81 53 = nv) (h1 : 1 ≤ nv.toInt) (hy : y.toInt = nv.toInt - 1) : ∃ b sl', sl = b :: sl' ∧ (b = true ↔ 0 ≤ (μ.1 118 y.toNatClampNeg).toInt) := by
  obtain ⟨b, sl', h2, h3, _⟩ := h.pop hn h1 rfl hy
  exact ⟨b, sl', h2, h3⟩
theorem m_FM.z {μ : mM} (h : μ.1 81 53 = 0) : m_FM μ [] := by
  unfold m_FM
  rw [h]
  rfl
theorem a_pop_f {sl : List Bool} : a_pop (false :: sl) = a_pop sl := rfl
theorem a_pop_t {sl : List Bool} : a_pop (true :: sl) = true :: sl := rfl
theorem a_pop_n : a_pop [] = [] := rfl
set_option maxHeartbeats 4000000 in
set_option maxRecDepth 100000 in
theorem g_X12_readIf_g (l : Launch) (D : va_G) (cy : Nat → ClassId) (b : Nat) (S : Nat → Bool) (μ0 : mM) (hS24 : S 24 = true) (hS25 : S 25 = true) (hS33 : S 33 = true) (hS34 : S 34 = true) (hS35 : S 35 = true) (hS36 : S 36 = true) (hS41 : S 41 = true) (av fv tk vv uv ov nv : Int32) (h_g : 0 ≤ av.toInt ∧ av.toInt ≤ 400 ∧ 0 ≤ fv.toInt ∧ fv.toInt ≤ 400 ∧ 0 ≤ tk.toInt ∧ tk.toInt ≤ 4 ∧ -1 ≤ vv.toInt ∧ vv.toInt ≤ 99999 ∧ 0 ≤ uv.toInt ∧ uv.toInt ≤ 400 ∧ 0 ≤ ov.toInt ∧ ov.toInt ≤ 400 ∧ 0 ≤ nv.toInt ∧ nv.toInt ≤ 4 ∧ uv.toInt ≤ fv.toInt ∧ fv.toInt ≤ av.toInt ∧ (tk.toInt = 0 ∨ fv.toInt + 1 ≤ av.toInt) ∧ ov.toInt ≤ fv.toInt ∧ tk.toInt = 2) (t : Int32) (h_tt : 0 ≤ t.toInt ∧ t.toInt ≤ 400) (fT : Nat → Int32) (gi : Nat) (sl : List Bool) (μ : mM) (hI : IY S μ0 μ) (h_av : μ.1 81 36 = av) (h_fv : μ.1 81 37 = fv) (h_tk : μ.1 81 38 = tk) (h_vv : μ.1 81 39 = vv) (h_uv : μ.1 81 51 = uv) (h_ov : μ.1 111 8 = ov) (h_nv : μ.1 81 53 = nv) (htp : μ.1 81 35 = t) (hfT : μ.1 106 = fT) (hRW : m_RW μ) (hms : m_MS μ fT t.toNatClampNeg gi) (hps : m_PS μ) (hgp : m_GP μ) (hfm : m_FM μ sl) : m_Ci l yX12_readIf cX12_readIf 3 ((some .int)) 5 D cy b LAY μ [.ref (b + 81)] (fun r ν => IY S μ0 ν ∧ (m_GP ν ∧ ((r = -1 ∧ ∃ e, (if 4 ≤ sl.length then (.inl (3, (t_L fT t.toNatClampNeg) gi) : Sum (Int × Int) (Nat × List Bool)) else a_b (a_if (t_K fT t.toNatClampNeg) (t_L fT t.toNatClampNeg) gi) (fun j => .inr (j, false :: sl))) = .inl e ∧ m_FT ν e) ∨ (r = 0 ∧ ((ν.1 81 51).toInt ≤ (ν.1 81 37).toInt ∧ fv.toInt + 1 ≤ (ν.1 81 37).toInt ∧ (ν.1 81 37).toInt ≤ (ν.1 81 36).toInt ∧ ((ν.1 81 38).toInt = 0 ∨ (ν.1 81 37).toInt + 1 ≤ (ν.1 81 36).toInt) ∧ (ν.1 111 8).toInt ≤ (ν.1 81 37).toInt) ∧ m_PS ν ∧ ∃ j, (if 4 ≤ sl.length then (.inl (3, (t_L fT t.toNatClampNeg) gi) : Sum (Int × Int) (Nat × List Bool)) else a_b (a_if (t_K fT t.toNatClampNeg) (t_L fT t.toNatClampNeg) gi) (fun j => .inr (j, false :: sl))) = .inr (j, false :: sl) ∧ m_MS ν fT t.toNatClampNeg j ∧ m_FM ν (false :: sl))))) := by
  unfold m_Ci
  refine m_of (by decide) (Nat.le_of_ble_eq_true rfl) ?_
  intro p e s m below meth c hx hb hr hml hown hts hlocks _ hW ls hl
  have hown : s.vm.findClass RX12 = some m.cls := hown
  have hl : lv_has ls 3 [(0, .ref (b + 81))] := hl
  have hkk : m_TQ ((t_K fT t.toNatClampNeg) gi) (m_VV fT t.toNatClampNeg gi) tk vv := by have z := hms.2.2; rw [h_tk, h_vv] at z; exact z
  have hlen := hfm.len h_nv (by omega)
  refine lv_aload_n hx hb dX12_readIf_0 rfl (lv_at hl 0 rfl) ?_
  refine m_geti hx hb hts hown hW (81) 53 rfl rfl cw_12 rfl (by decide) k_X12_294 dX12_readIf_1 ?_
  refine lv_topi (fun x1 ex1 => ?_)
  have ex1 : x1 = nv := by rw [ex1]; exact h_nv
  have ex1 := ex1.symm
  subst ex1
  refine lv_iconst (v := 4) hx hb dX12_readIf_4 (by decide) ?_
  refine lv_icmp_ne (tgt := 14) hx hb dX12_readIf_5 (by decide) (fun c2 => ?_) (fun c2 => ?_)
  · have i2 := m_c6 (rfl : nv.toInt = _) (by decide : (4 : Int32).toInt = 4) c2
    refine lv_aload_n hx hb dX12_readIf_14 rfl (lv_at hl 0 rfl) ?_
    have hal3 := hms.at_le
    rw [show μ.1 81 36 = av from by exact h_av] at hal3
    have ckt := m_ckI (x := t) (by omega)
    refine m_aV hW (m_runV (As := []) (rest := []) hx hb hml hown hts hW (81) (g_X12_reads_f l D cy b (fun g => [24].contains g) μ rfl av t (by omega) fT μ (IY.rf hI.1) (by exact h_av) (by exact htp) hfT hRW) mi_X12_reads k_X12_279 rfl rfl rfl hl.1 rfl (Nat.le_of_ble_eq_true rfl) dX12_readIf_15 ⟨Nat.le_of_ble_eq_true rfl, Nat.le_of_ble_eq_true rfl⟩ ⟨Nat.le_of_ble_eq_true rfl, Nat.le_of_ble_eq_true rfl⟩) (fun μ4 H locs q4 hW => ?_)
    obtain ⟨hJ4, q4⟩ := q4
    have hI := hI.tr hJ4 (m_subL (by simp [hS24]))
    have hfT : μ4.1 106 = fT := by rw [show μ4.1 106 = μ.1 106 from funext fun j => hJ4.2.1 106 j rfl]; exact hfT
    have hRW : m_RW μ4 := hRW.fr hJ4 rfl
    have hps : m_PS μ4 := hps.fr hJ4 rfl rfl rfl
    have hgp : m_GP μ4 := hgp.fr hJ4 rfl rfl
    have hfm : m_FM μ4 sl := hfm.fr hJ4 rfl
    obtain ⟨q4, q4f⟩ := q4
    have hms : m_MS μ4 fT t.toNatClampNeg (gi + 1) := hms.next (a := av) (by exact h_av) q4f
    obtain ⟨x5, hx5⟩ : ∃ z, μ4.1 81 36 = z := ⟨_, rfl⟩
    have bx5 : 0 ≤ x5.toInt ∧ x5.toInt ≤ 400 := by rw [← hx5]; exact hI.1 _ _ _ _ rfl
    rw [show μ4.1 81 36 = x5 from by exact hx5] at q4
    obtain ⟨x6, hx6⟩ : ∃ z, μ4.1 81 37 = z := ⟨_, rfl⟩
    have bx6 : 0 ≤ x6.toInt ∧ x6.toInt ≤ 400 := by rw [← hx6]; exact hI.1 _ _ _ _ rfl
    rw [show μ4.1 81 37 = x6 from by exact hx6] at q4
    obtain ⟨x7, hx7⟩ : ∃ z, μ4.1 81 38 = z := ⟨_, rfl⟩
    have bx7 : 0 ≤ x7.toInt ∧ x7.toInt ≤ 4 := by rw [← hx7]; exact hI.1 _ _ _ _ rfl
    rw [show μ4.1 81 38 = x7 from by exact hx7] at q4
    obtain ⟨x8, hx8⟩ : ∃ z, μ4.1 81 39 = z := ⟨_, rfl⟩
    have bx8 : -1 ≤ x8.toInt ∧ x8.toInt ≤ 99999 := by rw [← hx8]; exact hI.1 _ _ _ _ rfl
    rw [show μ4.1 81 39 = x8 from by exact hx8] at q4
    have hk9 : m_TQ ((t_K fT t.toNatClampNeg) (gi + 1)) (m_VV fT t.toNatClampNeg (gi + 1)) x7 x8 := by
      have z := hms.2.2
      rw [show μ4.1 81 38 = x7 from by exact hx7, show μ4.1 81 39 = x8 from by exact hx8] at z
      exact z
    refine lv_sipush (v := 3200) hx hb dX12_readIf_18 (by decide) ?_
    refine lv_aload_n hx hb dX12_readIf_21 rfl (lv_at hl 0 rfl) ?_
    refine m_getr hx hb hts hown hW (81) 44 (111) rfl rfl cw_12 rfl (by decide) k_X12_110 dX12_readIf_22 ?_
    refine lv_bipush (v := 8) hx hb dX12_readIf_25 (by decide) ?_
    refine m_iald hx hb hW (111) rfl (vp_in_iff.mpr ⟨by decide, by decide⟩) dX12_readIf_27 ?_
    refine lv_topi (fun x10 ex10 => ?_)
    have ex10 : x10 = ov := by rw [ex10]; exact ((hJ4.2.1 111 8 rfl).trans (by exact h_ov))
    have ex10 := ex10.symm
    subst ex10
    refine lv_iadd hx hb dX12_readIf_28 ?_
    refine lv_topi (fun x11 ex11 => ?_)
    have tx11 : x11.toInt = 3200 + ov.toInt := m_addI ex11 (by decide : (3200 : Int32).toInt = 3200) (rfl : ov.toInt = _) (by omega) (by omega)
    refine lv_istore_n (lv' := [(1, .int x11), (0, .ref (b + 81))]) hx hb dX12_readIf_29 rfl hl (by decide) rfl (fun ls hl => ?_)
    refine lv_aload_n hx hb dX12_readIf_30 rfl (lv_at hl 1 rfl) ?_
    refine m_getr hx hb hts hown hW (81) 45 (112) rfl rfl cw_12 rfl (by decide) k_X12_113 dX12_readIf_31 ?_
    refine lv_iload_n hx hb dX12_readIf_34 rfl (lv_at hl 0 rfl) ?_
    refine lv_aload_n hx hb dX12_readIf_35 rfl (lv_at hl 1 rfl) ?_
    refine m_geti hx hb hts hown hW (81) 51 rfl rfl cw_12 rfl (by decide) k_X12_285 dX12_readIf_36 ?_
    refine lv_topi (fun x12 ex12 => ?_)
    have ex12 : x12 = uv := by rw [ex12]; exact ((hJ4.2.1 81 51 rfl).trans (by exact h_uv))
    have ex12 := ex12.symm
    subst ex12
    refine m_iast hx hb hW (112) rfl (m_ixI (rfl : x11.toInt = _) (by omega) (by omega)) dX12_readIf_39 (fun H locs hW _ => ?_)
    generalize hμ13 : m_si μ4 (112) (x11 : Int32).toNatClampNeg uv = μ13 at hW
    have hfT : μ13.1 106 = fT := by rw [← hμ13, m_si_row (by decide)]; exact hfT
    have hRW : m_RW μ13 := fun i hi => by rw [← hμ13, m_si_ne (by decide)]; exact hRW i hi
    have hps : m_PS μ13 := hps.si hμ13 (by decide) (by decide) (by decide) (by decide) (fun q => absurd q (by decide))
    have hgp : m_GP μ13 := hgp.si hμ13 (by decide) (by decide) (by decide)
    have hfm : m_FM μ13 sl := hfm.si hμ13 (by decide) (fun q => absurd q (by decide))
    have hms : m_MS μ13 fT t.toNatClampNeg (gi + 1) := hms.si hμ13 (fun q => absurd q (by decide))
    have hI := hI.si1 hμ13 rfl (by omega) hS25
    refine lv_aload_n hx hb dX12_readIf_40 rfl (lv_at hl 1 rfl) ?_
    refine m_aI hW (m_runV (As := []) (rest := []) hx hb hml hown hts hW (81) (g_X12_readSum_g l D cy b (fun g => [24, 25, 34, 36].contains g) μ13 rfl rfl rfl rfl x5 x6 x7 x8 uv (by omega) t (by omega) fT (gi + 1) μ13 (IY.rf hI.1) (by rw [← hμ13]; exact hx5) (by rw [← hμ13]; exact hx6) (by rw [← hμ13]; exact hx7) (by rw [← hμ13]; exact hx8) (by rw [← hμ13]; exact ((hJ4.2.1 81 51 rfl).trans (by exact h_uv))) (by rw [← hμ13]; exact ((hJ4.2.1 81 35 rfl).trans (by exact htp))) hfT hRW hms) mi_X12_readSum k_X12_297 rfl rfl rfl hl.1 rfl (Nat.le_of_ble_eq_true rfl) dX12_readIf_41 ⟨Nat.le_of_ble_eq_true rfl, Nat.le_of_ble_eq_true rfl⟩ ⟨Nat.le_of_ble_eq_true rfl, Nat.le_of_ble_eq_true rfl⟩) (fun x14 μ14 H locs q14 hW => ?_)
    obtain ⟨hJ14, q14⟩ := q14
    have hI := hI.tr hJ14 (m_subL (by simp [hS24, hS25, hS34, hS36]))
    have hfT : μ14.1 106 = fT := by rw [show μ14.1 106 = μ13.1 106 from funext fun j => hJ14.2.1 106 j rfl]; exact hfT
    have hRW : m_RW μ14 := hRW.fr hJ14 rfl
    have hps : m_PS μ14 := hps.fr hJ14 rfl rfl rfl
    have hgp : m_GP μ14 := hgp.fr hJ14 rfl rfl
    have hfm : m_FM μ14 sl := hfm.fr hJ14 rfl
    rcases q14 with ⟨rfl, e15, ha15, hft⟩ | ⟨rfl, q14, j15, ha15, hms⟩
    · refine lv_iconst (v := (-1)) hx hb dX12_readIf_44 (by decide) ?_
      refine lv_icmp_ne (tgt := 50) hx hb dX12_readIf_45 (by decide) (fun c => False.elim (by revert c; decide)) (fun _ => ?_)
      refine lv_iconst (v := (-1)) hx hb dX12_readIf_48 (by decide) ?_
      exact m_iret hx hb hr hlocks hW rfl (⟨hI, ⟨hgp, Or.inl ⟨rfl, e15, (by rw [if_neg (by omega)]; simp only [a_if, a_b, ha15]), hft⟩⟩⟩) dX12_readIf_49
    · obtain ⟨x16, hx16⟩ : ∃ z, μ14.1 81 51 = z := ⟨_, rfl⟩
      have bx16 : 0 ≤ x16.toInt ∧ x16.toInt ≤ 400 := by rw [← hx16]; exact hI.1 _ _ _ _ rfl
      rw [show μ14.1 81 51 = x16 from by exact hx16] at q14
      obtain ⟨x17, hx17⟩ : ∃ z, μ14.1 81 37 = z := ⟨_, rfl⟩
      have bx17 : 0 ≤ x17.toInt ∧ x17.toInt ≤ 400 := by rw [← hx17]; exact hI.1 _ _ _ _ rfl
      rw [show μ14.1 81 37 = x17 from by exact hx17] at q14
      obtain ⟨x18, hx18⟩ : ∃ z, μ14.1 81 36 = z := ⟨_, rfl⟩
      have bx18 : 0 ≤ x18.toInt ∧ x18.toInt ≤ 400 := by rw [← hx18]; exact hI.1 _ _ _ _ rfl
      rw [show μ14.1 81 36 = x18 from by exact hx18] at q14
      obtain ⟨x19, hx19⟩ : ∃ z, μ14.1 81 38 = z := ⟨_, rfl⟩
      have bx19 : 0 ≤ x19.toInt ∧ x19.toInt ≤ 4 := by rw [← hx19]; exact hI.1 _ _ _ _ rfl
      rw [show μ14.1 81 38 = x19 from by exact hx19] at q14
      obtain ⟨x21, hx21⟩ : ∃ z, μ14.1 81 39 = z := ⟨_, rfl⟩
      have bx21 : -1 ≤ x21.toInt ∧ x21.toInt ≤ 99999 := by rw [← hx21]; exact hI.1 _ _ _ _ rfl
      have hk20 : m_TQ ((t_K fT t.toNatClampNeg) j15) (m_VV fT t.toNatClampNeg j15) x19 x21 := by
        have z := hms.2.2
        rw [show μ14.1 81 38 = x19 from by exact hx19, show μ14.1 81 39 = x21 from by exact hx21] at z
        exact z
      refine lv_iconst (v := (-1)) hx hb dX12_readIf_44 (by decide) ?_
      refine lv_icmp_ne (tgt := 50) hx hb dX12_readIf_45 (by decide) (fun _ => ?_) (fun c => False.elim (by revert c; decide))
      refine lv_aload_n hx hb dX12_readIf_50 rfl (lv_at hl 1 rfl) ?_
      refine m_getr hx hb hts hown hW (81) 46 (113) rfl rfl cw_12 rfl (by decide) k_X12_116 dX12_readIf_51 ?_
      refine lv_iload_n hx hb dX12_readIf_54 rfl (lv_at hl 0 rfl) ?_
      refine lv_aload_n hx hb dX12_readIf_55 rfl (lv_at hl 1 rfl) ?_
      refine m_geti hx hb hts hown hW (81) 51 rfl rfl cw_12 rfl (by decide) k_X12_285 dX12_readIf_56 ?_
      refine lv_topi (fun x22 ex22 => ?_)
      have ex22 : x22 = x16 := by rw [ex22]; exact hx16
      have ex22 := ex22.symm
      subst ex22
      refine m_iast hx hb hW (113) rfl (m_ixI (rfl : x11.toInt = _) (by omega) (by omega)) dX12_readIf_59 (fun H locs hW _ => ?_)
      generalize hμ23 : m_si μ14 (113) (x11 : Int32).toNatClampNeg x16 = μ23 at hW
      have hfT : μ23.1 106 = fT := by rw [← hμ23, m_si_row (by decide)]; exact hfT
      have hRW : m_RW μ23 := fun i hi => by rw [← hμ23, m_si_ne (by decide)]; exact hRW i hi
      have hps : m_PS μ23 := hps.si hμ23 (by decide) (by decide) (by decide) (by decide) (fun q => absurd q (by decide))
      have hgp : m_GP μ23 := hgp.si hμ23 (by decide) (by decide) (by decide)
      have hfm : m_FM μ23 sl := hfm.si hμ23 (by decide) (fun q => absurd q (by decide))
      have hms : m_MS μ23 fT t.toNatClampNeg j15 := hms.si hμ23 (fun q => absurd q (by decide))
      have hI := hI.si1 hμ23 rfl (by omega) hS25
      refine lv_aload_n hx hb dX12_readIf_60 rfl (lv_at hl 1 rfl) ?_
      refine lv_bipush (v := 60) hx hb dX12_readIf_61 (by decide) ?_
      have l_60 : (60 : Int32).toInt = 60 := by decide
      refine m_aI hW (m_runV (As := [.int 60]) (rest := []) hx hb hml hown hts hW (81) (g_X12_isSign_f l D cy b 60 μ23 hI.1) mi_X12_isSign k_X12_291 rfl rfl rfl hl.1 rfl (Nat.le_of_ble_eq_true rfl) dX12_readIf_63 ⟨Nat.le_of_ble_eq_true rfl, Nat.le_of_ble_eq_true rfl⟩ ⟨Nat.le_of_ble_eq_true rfl, Nat.le_of_ble_eq_true rfl⟩) (fun x24 μ24 H locs q24 hW => ?_)
      obtain ⟨q24_m, q24⟩ := q24
      subst q24_m
      rw [show μ23.1 81 38 = x19 from by rw [← hμ23]; exact hx19, show μ23.1 81 39 = x21 from by rw [← hμ23]; exact hx21] at q24
      rcases q24 with ⟨rfl, q24⟩ | ⟨rfl, q24⟩
      · refine lv_if_ne (tgt := 93) hx hb dX12_readIf_66 (by decide) (fun _ => ?_) (fun c => False.elim (by revert c; decide))
        have hs25 : a_k (t_K fT t.toNatClampNeg) (t_L fT t.toNatClampNeg) 6 8 j15 = .inr (j15 + 1) := a_k1 (by have hz := hk20.all; omega)
        refine lv_aload_n hx hb dX12_readIf_93 rfl (lv_at hl 1 rfl) ?_
        refine m_geti hx hb hts hown hW (81) 39 rfl rfl cw_12 rfl (by decide) k_X12_257 dX12_readIf_94 ?_
        refine lv_topi (fun x26 ex26 => ?_)
        have ex26 : x26 = x21 := by rw [ex26, ← hμ23]; exact hx21
        have ex26 := ex26.symm
        subst ex26
        refine lv_istore_n (lv' := [(2, .int x21), (1, .int x11), (0, .ref (b + 81))]) hx hb dX12_readIf_97 rfl hl (by decide) rfl (fun ls hl => ?_)
        refine lv_aload_n hx hb dX12_readIf_98 rfl (lv_at hl 2 rfl) ?_
        have hal27 := hms.at_le
        rw [show μ23.1 81 36 = x18 from by rw [← hμ23]; exact hx18] at hal27
        have ckt := m_ckI (x := t) (by omega)
        refine m_aV hW (m_runV (As := []) (rest := []) hx hb hml hown hts hW (81) (g_X12_reads_f l D cy b (fun g => [24].contains g) μ23 rfl x18 t (by omega) fT μ23 (IY.rf hI.1) (by rw [← hμ23]; exact hx18) (by rw [← hμ23]; exact ((hJ14.2.1 81 35 rfl).trans (by rw [← hμ13]; exact ((hJ4.2.1 81 35 rfl).trans (by exact htp))))) hfT hRW) mi_X12_reads k_X12_279 rfl rfl rfl hl.1 rfl (Nat.le_of_ble_eq_true rfl) dX12_readIf_99 ⟨Nat.le_of_ble_eq_true rfl, Nat.le_of_ble_eq_true rfl⟩ ⟨Nat.le_of_ble_eq_true rfl, Nat.le_of_ble_eq_true rfl⟩) (fun μ28 H locs q28 hW => ?_)
        obtain ⟨hJ28, q28⟩ := q28
        have hI := hI.tr hJ28 (m_subL (by simp [hS24]))
        have hfT : μ28.1 106 = fT := by rw [show μ28.1 106 = μ23.1 106 from funext fun j => hJ28.2.1 106 j rfl]; exact hfT
        have hRW : m_RW μ28 := hRW.fr hJ28 rfl
        have hps : m_PS μ28 := hps.fr hJ28 rfl rfl rfl
        have hgp : m_GP μ28 := hgp.fr hJ28 rfl rfl
        have hfm : m_FM μ28 sl := hfm.fr hJ28 rfl
        obtain ⟨q28, q28f⟩ := q28
        have hms : m_MS μ28 fT t.toNatClampNeg (j15 + 1) := hms.next (a := x18) (by rw [← hμ23]; exact hx18) q28f
        obtain ⟨x29, hx29⟩ : ∃ z, μ28.1 81 36 = z := ⟨_, rfl⟩
        have bx29 : 0 ≤ x29.toInt ∧ x29.toInt ≤ 400 := by rw [← hx29]; exact hI.1 _ _ _ _ rfl
        rw [show μ28.1 81 36 = x29 from by exact hx29] at q28
        obtain ⟨x30, hx30⟩ : ∃ z, μ28.1 81 37 = z := ⟨_, rfl⟩
        have bx30 : 0 ≤ x30.toInt ∧ x30.toInt ≤ 400 := by rw [← hx30]; exact hI.1 _ _ _ _ rfl
        rw [show μ28.1 81 37 = x30 from by exact hx30] at q28
        obtain ⟨x31, hx31⟩ : ∃ z, μ28.1 81 38 = z := ⟨_, rfl⟩
        have bx31 : 0 ≤ x31.toInt ∧ x31.toInt ≤ 4 := by rw [← hx31]; exact hI.1 _ _ _ _ rfl
        rw [show μ28.1 81 38 = x31 from by exact hx31] at q28
        obtain ⟨x32, hx32⟩ : ∃ z, μ28.1 81 39 = z := ⟨_, rfl⟩
        have bx32 : -1 ≤ x32.toInt ∧ x32.toInt ≤ 99999 := by rw [← hx32]; exact hI.1 _ _ _ _ rfl
        rw [show μ28.1 81 39 = x32 from by exact hx32] at q28
        have hk33 : m_TQ ((t_K fT t.toNatClampNeg) (j15 + 1)) (m_VV fT t.toNatClampNeg (j15 + 1)) x31 x32 := by
          have z := hms.2.2
          rw [show μ28.1 81 38 = x31 from by exact hx31, show μ28.1 81 39 = x32 from by exact hx32] at z
          exact z
        refine lv_aload_n hx hb dX12_readIf_102 rfl (lv_at hl 2 rfl) ?_
        refine m_aI hW (m_runV (As := []) (rest := []) hx hb hml hown hts hW (81) (g_X12_readSum_g l D cy b (fun g => [24, 25, 34, 36].contains g) μ28 rfl rfl rfl rfl x29 x30 x31 x32 x16 (by omega) t (by omega) fT (j15 + 1) μ28 (IY.rf hI.1) (by exact hx29) (by exact hx30) (by exact hx31) (by exact hx32) (by exact ((hJ28.2.1 81 51 rfl).trans (by rw [← hμ23]; exact hx16))) (by exact ((hJ28.2.1 81 35 rfl).trans (by rw [← hμ23]; exact ((hJ14.2.1 81 35 rfl).trans (by rw [← hμ13]; exact ((hJ4.2.1 81 35 rfl).trans (by exact htp))))))) hfT hRW hms) mi_X12_readSum k_X12_297 rfl rfl rfl hl.1 rfl (Nat.le_of_ble_eq_true rfl) dX12_readIf_103 ⟨Nat.le_of_ble_eq_true rfl, Nat.le_of_ble_eq_true rfl⟩ ⟨Nat.le_of_ble_eq_true rfl, Nat.le_of_ble_eq_true rfl⟩) (fun x34 μ34 H locs q34 hW => ?_)
        obtain ⟨hJ34, q34⟩ := q34
        have hI := hI.tr hJ34 (m_subL (by simp [hS24, hS25, hS34, hS36]))
        have hfT : μ34.1 106 = fT := by rw [show μ34.1 106 = μ28.1 106 from funext fun j => hJ34.2.1 106 j rfl]; exact hfT
        have hRW : m_RW μ34 := hRW.fr hJ34 rfl
        have hps : m_PS μ34 := hps.fr hJ34 rfl rfl rfl
        have hgp : m_GP μ34 := hgp.fr hJ34 rfl rfl
        have hfm : m_FM μ34 sl := hfm.fr hJ34 rfl
        rcases q34 with ⟨rfl, e35, ha35, hft⟩ | ⟨rfl, q34, j35, ha35, hms⟩
        · refine lv_iconst (v := (-1)) hx hb dX12_readIf_106 (by decide) ?_
          refine lv_icmp_ne (tgt := 112) hx hb dX12_readIf_107 (by decide) (fun c => False.elim (by revert c; decide)) (fun _ => ?_)
          refine lv_iconst (v := (-1)) hx hb dX12_readIf_110 (by decide) ?_
          exact m_iret hx hb hr hlocks hW rfl (⟨hI, ⟨hgp, Or.inl ⟨rfl, e35, (by rw [if_neg (by omega)]; simp only [a_if, a_b, ha15, hs25, ha35]), hft⟩⟩⟩) dX12_readIf_111
        · obtain ⟨x36, hx36⟩ : ∃ z, μ34.1 81 51 = z := ⟨_, rfl⟩
          have bx36 : 0 ≤ x36.toInt ∧ x36.toInt ≤ 400 := by rw [← hx36]; exact hI.1 _ _ _ _ rfl
          rw [show μ34.1 81 51 = x36 from by exact hx36] at q34
          obtain ⟨x37, hx37⟩ : ∃ z, μ34.1 81 37 = z := ⟨_, rfl⟩
          have bx37 : 0 ≤ x37.toInt ∧ x37.toInt ≤ 400 := by rw [← hx37]; exact hI.1 _ _ _ _ rfl
          rw [show μ34.1 81 37 = x37 from by exact hx37] at q34
          obtain ⟨x38, hx38⟩ : ∃ z, μ34.1 81 36 = z := ⟨_, rfl⟩
          have bx38 : 0 ≤ x38.toInt ∧ x38.toInt ≤ 400 := by rw [← hx38]; exact hI.1 _ _ _ _ rfl
          rw [show μ34.1 81 36 = x38 from by exact hx38] at q34
          obtain ⟨x39, hx39⟩ : ∃ z, μ34.1 81 38 = z := ⟨_, rfl⟩
          have bx39 : 0 ≤ x39.toInt ∧ x39.toInt ≤ 4 := by rw [← hx39]; exact hI.1 _ _ _ _ rfl
          rw [show μ34.1 81 38 = x39 from by exact hx39] at q34
          obtain ⟨x41, hx41⟩ : ∃ z, μ34.1 81 39 = z := ⟨_, rfl⟩
          have bx41 : -1 ≤ x41.toInt ∧ x41.toInt ≤ 99999 := by rw [← hx41]; exact hI.1 _ _ _ _ rfl
          have hk40 : m_TQ ((t_K fT t.toNatClampNeg) j35) (m_VV fT t.toNatClampNeg j35) x39 x41 := by
            have z := hms.2.2
            rw [show μ34.1 81 38 = x39 from by exact hx39, show μ34.1 81 39 = x41 from by exact hx41] at z
            exact z
          refine lv_iconst (v := (-1)) hx hb dX12_readIf_106 (by decide) ?_
          refine lv_icmp_ne (tgt := 112) hx hb dX12_readIf_107 (by decide) (fun _ => ?_) (fun c => False.elim (by revert c; decide))
          refine lv_aload_n hx hb dX12_readIf_112 rfl (lv_at hl 2 rfl) ?_
          refine m_getr hx hb hts hown hW (81) 47 (114) rfl rfl cw_12 rfl (by decide) k_X12_119 dX12_readIf_113 ?_
          refine lv_iload_n hx hb dX12_readIf_116 rfl (lv_at hl 1 rfl) ?_
          refine lv_aload_n hx hb dX12_readIf_117 rfl (lv_at hl 2 rfl) ?_
          refine m_geti hx hb hts hown hW (81) 51 rfl rfl cw_12 rfl (by decide) k_X12_285 dX12_readIf_118 ?_
          refine lv_topi (fun x42 ex42 => ?_)
          have ex42 : x42 = x36 := by rw [ex42]; exact hx36
          have ex42 := ex42.symm
          subst ex42
          refine m_iast hx hb hW (114) rfl (m_ixI (rfl : x11.toInt = _) (by omega) (by omega)) dX12_readIf_121 (fun H locs hW _ => ?_)
          generalize hμ43 : m_si μ34 (114) (x11 : Int32).toNatClampNeg x36 = μ43 at hW
          have hfT : μ43.1 106 = fT := by rw [← hμ43, m_si_row (by decide)]; exact hfT
          have hRW : m_RW μ43 := fun i hi => by rw [← hμ43, m_si_ne (by decide)]; exact hRW i hi
          have hps : m_PS μ43 := hps.si hμ43 (by decide) (by decide) (by decide) (by decide) (fun q => absurd q (by decide))
          have hgp : m_GP μ43 := hgp.si hμ43 (by decide) (by decide) (by decide)
          have hfm : m_FM μ43 sl := hfm.si hμ43 (by decide) (fun q => absurd q (by decide))
          have hms : m_MS μ43 fT t.toNatClampNeg j35 := hms.si hμ43 (fun q => absurd q (by decide))
          have hI := hI.si1 hμ43 rfl (by omega) hS25
          refine lv_aload_n hx hb dX12_readIf_122 rfl (lv_at hl 2 rfl) ?_
          refine m_getr hx hb hts hown hW (81) 52 (118) rfl rfl cw_12 rfl (by decide) k_X12_131 dX12_readIf_123 ?_
          refine lv_aload_n hx hb dX12_readIf_126 rfl (lv_at hl 2 rfl) ?_
          refine m_geti hx hb hts hown hW (81) 53 rfl rfl cw_12 rfl (by decide) k_X12_294 dX12_readIf_127 ?_
          refine lv_topi (fun x44 ex44 => ?_)
          have ex44 : x44 = nv := by rw [ex44, ← hμ43]; exact ((hJ34.2.1 81 53 rfl).trans (by exact ((hJ28.2.1 81 53 rfl).trans (by rw [← hμ23]; exact ((hJ14.2.1 81 53 rfl).trans (by rw [← hμ13]; exact ((hJ4.2.1 81 53 rfl).trans (by exact h_nv))))))))
          have ex44 := ex44.symm
          subst ex44
          refine lv_aload_n hx hb dX12_readIf_130 rfl (lv_at hl 2 rfl) ?_
          refine m_getr hx hb hts hown hW (81) 44 (111) rfl rfl cw_12 rfl (by decide) k_X12_110 dX12_readIf_131 ?_
          refine lv_bipush (v := 8) hx hb dX12_readIf_134 (by decide) ?_
          refine m_iald hx hb hW (111) rfl (vp_in_iff.mpr ⟨by decide, by decide⟩) dX12_readIf_136 ?_
          refine lv_topi (fun x45 ex45 => ?_)
          have ex45 : x45 = ov := by rw [ex45, ← hμ43]; exact ((hJ34.2.1 111 8 rfl).trans (by exact ((hJ28.2.1 111 8 rfl).trans (by rw [← hμ23]; exact ((hJ14.2.1 111 8 rfl).trans (by rw [← hμ13]; exact ((hJ4.2.1 111 8 rfl).trans (by exact h_ov))))))))
          have ex45 := ex45.symm
          subst ex45
          refine lv_sipush (v := 1000) hx hb dX12_readIf_137 (by decide) ?_
          refine lv_isub hx hb dX12_readIf_140 ?_
          refine lv_topi (fun x46 ex46 => ?_)
          have tx46 : x46.toInt = ov.toInt - 1000 := m_subI ex46 (rfl : ov.toInt = _) (by decide : (1000 : Int32).toInt = 1000) (by omega) (by omega)
          refine m_iast hx hb hW (118) rfl (m_ixI (rfl : nv.toInt = _) (by omega) (by omega)) dX12_readIf_141 (fun H locs hW _ => ?_)
          generalize hμ47 : m_si μ43 (118) (nv : Int32).toNatClampNeg x46 = μ47 at hW
          have hfT : μ47.1 106 = fT := by rw [← hμ47, m_si_row (by decide)]; exact hfT
          have hRW : m_RW μ47 := fun i hi => by rw [← hμ47, m_si_ne (by decide)]; exact hRW i hi
          have hgp : m_GP μ47 := hgp.si hμ47 (by decide) (by decide) (by decide)
          have hms : m_MS μ47 fT t.toNatClampNeg j35 := hms.si hμ47 (fun q => absurd q (by decide))
          have hI := hI.si1 hμ47 rfl (by omega) hS35
          refine lv_aload_n hx hb dX12_readIf_142 rfl (lv_at hl 2 rfl) ?_
          refine lv_aload_n hx hb dX12_readIf_143 rfl (lv_at hl 2 rfl) ?_
          refine m_geti hx hb hts hown hW (81) 53 rfl rfl cw_12 rfl (by decide) k_X12_294 dX12_readIf_144 ?_
          refine lv_topi (fun x48 ex48 => ?_)
          have ex48 : x48 = nv := by rw [ex48, ← hμ47, ← hμ43]; exact ((hJ34.2.1 81 53 rfl).trans (by exact ((hJ28.2.1 81 53 rfl).trans (by rw [← hμ23]; exact ((hJ14.2.1 81 53 rfl).trans (by rw [← hμ13]; exact ((hJ4.2.1 81 53 rfl).trans (by exact h_nv))))))))
          have ex48 := ex48.symm
          subst ex48
          refine lv_iconst (v := 1) hx hb dX12_readIf_147 (by decide) ?_
          refine lv_iadd hx hb dX12_readIf_148 ?_
          refine lv_topi (fun x49 ex49 => ?_)
          have tx49 : x49.toInt = nv.toInt + 1 := m_addI ex49 (rfl : nv.toInt = _) (by decide : (1 : Int32).toInt = 1) (by omega) (by omega)
          refine m_puti hx hb hts hown hW (81) 53 rfl rfl cw_12 tyX12_ok nmX12 rfl (by decide) k_X12_294 rfl rfl rfl dX12_readIf_149 (fun H locs hW _ => ?_)
          generalize hμ50 : m_si μ47 (81) 53 x49 = μ50 at hW
          have hfT : μ50.1 106 = fT := by rw [← hμ50, m_si_row (by decide)]; exact hfT
          have hRW : m_RW μ50 := fun i hi => by rw [← hμ50, m_si_ne (by decide)]; exact hRW i hi
          have hgp : m_GP μ50 := hgp.si hμ50 (by decide) (by decide) (by decide)
          have hfm : m_FM μ50 (false :: sl) := hfm.push (nv := nv) (x := x46) (y := x49) (b := false) (by rw [← hμ43]; exact ((hJ34.2.1 81 53 rfl).trans (by exact ((hJ28.2.1 81 53 rfl).trans (by rw [← hμ23]; exact ((hJ14.2.1 81 53 rfl).trans (by rw [← hμ13]; exact ((hJ4.2.1 81 53 rfl).trans (by exact h_nv))))))))) (by omega) hμ47 hμ50 (by omega) ⟨fun z => (by cases z), fun z => (by exfalso; omega)⟩
          have hms : m_MS μ50 fT t.toNatClampNeg j35 := hms.si hμ50 (fun _ => by decide)
          have hI := hI.si1 hμ50 rfl (by omega) hS35
          refine lv_aload_n hx hb dX12_readIf_152 rfl (lv_at hl 2 rfl) ?_
          refine lv_bipush (v := 8) hx hb dX12_readIf_153 (by decide) ?_
          refine lv_iconst (v := 0) hx hb dX12_readIf_155 (by decide) ?_
          refine lv_iload_n hx hb dX12_readIf_156 rfl (lv_at hl 0 rfl) ?_
          have l_8 : (8 : Int32).toInt = 8 := by decide
          have l_0 : (0 : Int32).toInt = 0 := by decide
          refine m_aV hW (m_runV (As := [.int 8, .int 0, .int x21]) (rest := []) hx hb hml hown hts hW (81) (g_X12_emits l D cy b (fun g => [25, 33, 41].contains g) μ50 rfl rfl rfl ov (by omega) 8 0 x21 (by omega) μ50 (IY.rf hI.1) (by rw [← hμ50, ← hμ47, ← hμ43]; exact ((hJ34.2.1 111 8 rfl).trans (by exact ((hJ28.2.1 111 8 rfl).trans (by rw [← hμ23]; exact ((hJ14.2.1 111 8 rfl).trans (by rw [← hμ13]; exact ((hJ4.2.1 111 8 rfl).trans (by exact h_ov)))))))))) mi_X12_emits k_X12_301 rfl rfl rfl hl.1 rfl (Nat.le_of_ble_eq_true rfl) dX12_readIf_157 ⟨Nat.le_of_ble_eq_true rfl, Nat.le_of_ble_eq_true rfl⟩ ⟨Nat.le_of_ble_eq_true rfl, Nat.le_of_ble_eq_true rfl⟩) (fun μ51 H locs q51 hW => ?_)
          obtain ⟨hJ51, q51⟩ := q51
          have hI := hI.tr hJ51 (m_subL (by simp [hS25, hS33, hS41]))
          have hfT : μ51.1 106 = fT := by rw [show μ51.1 106 = μ50.1 106 from funext fun j => hJ51.2.1 106 j rfl]; exact hfT
          have hRW : m_RW μ51 := hRW.fr hJ51 rfl
          have hfm : m_FM μ51 (false :: sl) := hfm.fr hJ51 rfl
          have hms : m_MS μ51 fT t.toNatClampNeg j35 := hms.fr hJ51 rfl
          obtain ⟨q51, q51l⟩ := q51
          obtain ⟨x52, hx52⟩ : ∃ z, μ51.1 111 8 = z := ⟨_, rfl⟩
          have tx52 : x52.toInt = ov.toInt + 1 := by rw [← hx52]; exact q51.2.2.2.2
          have hgp : m_GP μ51 := hgp.lo q51l
          have hps : m_PS μ51 := hps.iff (ov := ov) (nv := nv) (x := x46) (y := x49) (by rw [← hμ43]; exact ((hJ34.2.1 111 8 rfl).trans (by exact ((hJ28.2.1 111 8 rfl).trans (by rw [← hμ23]; exact ((hJ14.2.1 111 8 rfl).trans (by rw [← hμ13]; exact ((hJ4.2.1 111 8 rfl).trans (by exact h_ov))))))))) (by omega) (by rw [← hμ43]; exact ((hJ34.2.1 81 53 rfl).trans (by exact ((hJ28.2.1 81 53 rfl).trans (by rw [← hμ23]; exact ((hJ14.2.1 81 53 rfl).trans (by rw [← hμ13]; exact ((hJ4.2.1 81 53 rfl).trans (by exact h_nv))))))))) (by omega) (by rw [hμ47]; exact hμ50) (by omega) (by omega) q51 (funext fun j => hJ51.2.1 118 j rfl) (hJ51.2.1 81 53 rfl)
          refine lv_iconst (v := 0) hx hb dX12_readIf_160 (by decide) ?_
          exact m_iret hx hb hr hlocks hW rfl (⟨hI, ⟨hgp, Or.inr ⟨rfl, by rw [show μ51.1 81 51 = x36 from by exact ((hJ51.2.1 81 51 rfl).trans (by rw [← hμ50, ← hμ47, ← hμ43]; exact hx36)), show μ51.1 81 37 = x37 from by exact ((hJ51.2.1 81 37 rfl).trans (by rw [← hμ50, ← hμ47, ← hμ43]; exact hx37)), show μ51.1 81 36 = x38 from by exact ((hJ51.2.1 81 36 rfl).trans (by rw [← hμ50, ← hμ47, ← hμ43]; exact hx38)), show μ51.1 81 38 = x39 from by exact ((hJ51.2.1 81 38 rfl).trans (by rw [← hμ50, ← hμ47, ← hμ43]; exact hx39)), show μ51.1 111 8 = x52 from by exact hx52]; omega, hps, _, (by rw [if_neg (by omega)]; simp only [a_if, a_b, ha15, hs25, ha35]), hms, hfm⟩⟩⟩) dX12_readIf_161
      · refine lv_if_ne (tgt := 93) hx hb dX12_readIf_66 (by decide) (fun c => False.elim (by revert c; decide)) (fun _ => ?_)
        refine lv_aload_n hx hb dX12_readIf_69 rfl (lv_at hl 1 rfl) ?_
        refine lv_bipush (v := 61) hx hb dX12_readIf_70 (by decide) ?_
        have l_61 : (61 : Int32).toInt = 61 := by decide
        refine m_aI hW (m_runV (As := [.int 61]) (rest := []) hx hb hml hown hts hW (81) (g_X12_isSign_f l D cy b 61 μ23 hI.1) mi_X12_isSign k_X12_291 rfl rfl rfl hl.1 rfl (Nat.le_of_ble_eq_true rfl) dX12_readIf_72 ⟨Nat.le_of_ble_eq_true rfl, Nat.le_of_ble_eq_true rfl⟩ ⟨Nat.le_of_ble_eq_true rfl, Nat.le_of_ble_eq_true rfl⟩) (fun x53 μ53 H locs q53 hW => ?_)
        obtain ⟨q53_m, q53⟩ := q53
        subst q53_m
        rw [show μ23.1 81 38 = x19 from by rw [← hμ23]; exact hx19, show μ23.1 81 39 = x21 from by rw [← hμ23]; exact hx21] at q53
        rcases q53 with ⟨rfl, q53⟩ | ⟨rfl, q53⟩
        · refine lv_if_ne (tgt := 93) hx hb dX12_readIf_75 (by decide) (fun _ => ?_) (fun c => False.elim (by revert c; decide))
          have hs54 : a_k (t_K fT t.toNatClampNeg) (t_L fT t.toNatClampNeg) 6 8 j15 = .inr (j15 + 1) := a_k1 (by have hz := hk20.all; omega)
          refine lv_aload_n hx hb dX12_readIf_93 rfl (lv_at hl 1 rfl) ?_
          refine m_geti hx hb hts hown hW (81) 39 rfl rfl cw_12 rfl (by decide) k_X12_257 dX12_readIf_94 ?_
          refine lv_topi (fun x55 ex55 => ?_)
          have ex55 : x55 = x21 := by rw [ex55, ← hμ23]; exact hx21
          have ex55 := ex55.symm
          subst ex55
          refine lv_istore_n (lv' := [(2, .int x21), (1, .int x11), (0, .ref (b + 81))]) hx hb dX12_readIf_97 rfl hl (by decide) rfl (fun ls hl => ?_)
          refine lv_aload_n hx hb dX12_readIf_98 rfl (lv_at hl 2 rfl) ?_
          have hal56 := hms.at_le
          rw [show μ23.1 81 36 = x18 from by rw [← hμ23]; exact hx18] at hal56
          have ckt := m_ckI (x := t) (by omega)
          refine m_aV hW (m_runV (As := []) (rest := []) hx hb hml hown hts hW (81) (g_X12_reads_f l D cy b (fun g => [24].contains g) μ23 rfl x18 t (by omega) fT μ23 (IY.rf hI.1) (by rw [← hμ23]; exact hx18) (by rw [← hμ23]; exact ((hJ14.2.1 81 35 rfl).trans (by rw [← hμ13]; exact ((hJ4.2.1 81 35 rfl).trans (by exact htp))))) hfT hRW) mi_X12_reads k_X12_279 rfl rfl rfl hl.1 rfl (Nat.le_of_ble_eq_true rfl) dX12_readIf_99 ⟨Nat.le_of_ble_eq_true rfl, Nat.le_of_ble_eq_true rfl⟩ ⟨Nat.le_of_ble_eq_true rfl, Nat.le_of_ble_eq_true rfl⟩) (fun μ57 H locs q57 hW => ?_)
          obtain ⟨hJ57, q57⟩ := q57
          have hI := hI.tr hJ57 (m_subL (by simp [hS24]))
          have hfT : μ57.1 106 = fT := by rw [show μ57.1 106 = μ23.1 106 from funext fun j => hJ57.2.1 106 j rfl]; exact hfT
          have hRW : m_RW μ57 := hRW.fr hJ57 rfl
          have hps : m_PS μ57 := hps.fr hJ57 rfl rfl rfl
          have hgp : m_GP μ57 := hgp.fr hJ57 rfl rfl
          have hfm : m_FM μ57 sl := hfm.fr hJ57 rfl
          obtain ⟨q57, q57f⟩ := q57
          have hms : m_MS μ57 fT t.toNatClampNeg (j15 + 1) := hms.next (a := x18) (by rw [← hμ23]; exact hx18) q57f
          obtain ⟨x58, hx58⟩ : ∃ z, μ57.1 81 36 = z := ⟨_, rfl⟩
          have bx58 : 0 ≤ x58.toInt ∧ x58.toInt ≤ 400 := by rw [← hx58]; exact hI.1 _ _ _ _ rfl
          rw [show μ57.1 81 36 = x58 from by exact hx58] at q57
          obtain ⟨x59, hx59⟩ : ∃ z, μ57.1 81 37 = z := ⟨_, rfl⟩
          have bx59 : 0 ≤ x59.toInt ∧ x59.toInt ≤ 400 := by rw [← hx59]; exact hI.1 _ _ _ _ rfl
          rw [show μ57.1 81 37 = x59 from by exact hx59] at q57
          obtain ⟨x60, hx60⟩ : ∃ z, μ57.1 81 38 = z := ⟨_, rfl⟩
          have bx60 : 0 ≤ x60.toInt ∧ x60.toInt ≤ 4 := by rw [← hx60]; exact hI.1 _ _ _ _ rfl
          rw [show μ57.1 81 38 = x60 from by exact hx60] at q57
          obtain ⟨x61, hx61⟩ : ∃ z, μ57.1 81 39 = z := ⟨_, rfl⟩
          have bx61 : -1 ≤ x61.toInt ∧ x61.toInt ≤ 99999 := by rw [← hx61]; exact hI.1 _ _ _ _ rfl
          rw [show μ57.1 81 39 = x61 from by exact hx61] at q57
          have hk62 : m_TQ ((t_K fT t.toNatClampNeg) (j15 + 1)) (m_VV fT t.toNatClampNeg (j15 + 1)) x60 x61 := by
            have z := hms.2.2
            rw [show μ57.1 81 38 = x60 from by exact hx60, show μ57.1 81 39 = x61 from by exact hx61] at z
            exact z
          refine lv_aload_n hx hb dX12_readIf_102 rfl (lv_at hl 2 rfl) ?_
          refine m_aI hW (m_runV (As := []) (rest := []) hx hb hml hown hts hW (81) (g_X12_readSum_g l D cy b (fun g => [24, 25, 34, 36].contains g) μ57 rfl rfl rfl rfl x58 x59 x60 x61 x16 (by omega) t (by omega) fT (j15 + 1) μ57 (IY.rf hI.1) (by exact hx58) (by exact hx59) (by exact hx60) (by exact hx61) (by exact ((hJ57.2.1 81 51 rfl).trans (by rw [← hμ23]; exact hx16))) (by exact ((hJ57.2.1 81 35 rfl).trans (by rw [← hμ23]; exact ((hJ14.2.1 81 35 rfl).trans (by rw [← hμ13]; exact ((hJ4.2.1 81 35 rfl).trans (by exact htp))))))) hfT hRW hms) mi_X12_readSum k_X12_297 rfl rfl rfl hl.1 rfl (Nat.le_of_ble_eq_true rfl) dX12_readIf_103 ⟨Nat.le_of_ble_eq_true rfl, Nat.le_of_ble_eq_true rfl⟩ ⟨Nat.le_of_ble_eq_true rfl, Nat.le_of_ble_eq_true rfl⟩) (fun x63 μ63 H locs q63 hW => ?_)
          obtain ⟨hJ63, q63⟩ := q63
          have hI := hI.tr hJ63 (m_subL (by simp [hS24, hS25, hS34, hS36]))
          have hfT : μ63.1 106 = fT := by rw [show μ63.1 106 = μ57.1 106 from funext fun j => hJ63.2.1 106 j rfl]; exact hfT
          have hRW : m_RW μ63 := hRW.fr hJ63 rfl
          have hps : m_PS μ63 := hps.fr hJ63 rfl rfl rfl
          have hgp : m_GP μ63 := hgp.fr hJ63 rfl rfl
          have hfm : m_FM μ63 sl := hfm.fr hJ63 rfl
          rcases q63 with ⟨rfl, e64, ha64, hft⟩ | ⟨rfl, q63, j64, ha64, hms⟩
          · refine lv_iconst (v := (-1)) hx hb dX12_readIf_106 (by decide) ?_
            refine lv_icmp_ne (tgt := 112) hx hb dX12_readIf_107 (by decide) (fun c => False.elim (by revert c; decide)) (fun _ => ?_)
            refine lv_iconst (v := (-1)) hx hb dX12_readIf_110 (by decide) ?_
            exact m_iret hx hb hr hlocks hW rfl (⟨hI, ⟨hgp, Or.inl ⟨rfl, e64, (by rw [if_neg (by omega)]; simp only [a_if, a_b, ha15, hs54, ha64]), hft⟩⟩⟩) dX12_readIf_111
          · obtain ⟨x65, hx65⟩ : ∃ z, μ63.1 81 51 = z := ⟨_, rfl⟩
            have bx65 : 0 ≤ x65.toInt ∧ x65.toInt ≤ 400 := by rw [← hx65]; exact hI.1 _ _ _ _ rfl
            rw [show μ63.1 81 51 = x65 from by exact hx65] at q63
            obtain ⟨x66, hx66⟩ : ∃ z, μ63.1 81 37 = z := ⟨_, rfl⟩
            have bx66 : 0 ≤ x66.toInt ∧ x66.toInt ≤ 400 := by rw [← hx66]; exact hI.1 _ _ _ _ rfl
            rw [show μ63.1 81 37 = x66 from by exact hx66] at q63
            obtain ⟨x67, hx67⟩ : ∃ z, μ63.1 81 36 = z := ⟨_, rfl⟩
            have bx67 : 0 ≤ x67.toInt ∧ x67.toInt ≤ 400 := by rw [← hx67]; exact hI.1 _ _ _ _ rfl
            rw [show μ63.1 81 36 = x67 from by exact hx67] at q63
            obtain ⟨x68, hx68⟩ : ∃ z, μ63.1 81 38 = z := ⟨_, rfl⟩
            have bx68 : 0 ≤ x68.toInt ∧ x68.toInt ≤ 4 := by rw [← hx68]; exact hI.1 _ _ _ _ rfl
            rw [show μ63.1 81 38 = x68 from by exact hx68] at q63
            obtain ⟨x70, hx70⟩ : ∃ z, μ63.1 81 39 = z := ⟨_, rfl⟩
            have bx70 : -1 ≤ x70.toInt ∧ x70.toInt ≤ 99999 := by rw [← hx70]; exact hI.1 _ _ _ _ rfl
            have hk69 : m_TQ ((t_K fT t.toNatClampNeg) j64) (m_VV fT t.toNatClampNeg j64) x68 x70 := by
              have z := hms.2.2
              rw [show μ63.1 81 38 = x68 from by exact hx68, show μ63.1 81 39 = x70 from by exact hx70] at z
              exact z
            refine lv_iconst (v := (-1)) hx hb dX12_readIf_106 (by decide) ?_
            refine lv_icmp_ne (tgt := 112) hx hb dX12_readIf_107 (by decide) (fun _ => ?_) (fun c => False.elim (by revert c; decide))
            refine lv_aload_n hx hb dX12_readIf_112 rfl (lv_at hl 2 rfl) ?_
            refine m_getr hx hb hts hown hW (81) 47 (114) rfl rfl cw_12 rfl (by decide) k_X12_119 dX12_readIf_113 ?_
            refine lv_iload_n hx hb dX12_readIf_116 rfl (lv_at hl 1 rfl) ?_
            refine lv_aload_n hx hb dX12_readIf_117 rfl (lv_at hl 2 rfl) ?_
            refine m_geti hx hb hts hown hW (81) 51 rfl rfl cw_12 rfl (by decide) k_X12_285 dX12_readIf_118 ?_
            refine lv_topi (fun x71 ex71 => ?_)
            have ex71 : x71 = x65 := by rw [ex71]; exact hx65
            have ex71 := ex71.symm
            subst ex71
            refine m_iast hx hb hW (114) rfl (m_ixI (rfl : x11.toInt = _) (by omega) (by omega)) dX12_readIf_121 (fun H locs hW _ => ?_)
            generalize hμ72 : m_si μ63 (114) (x11 : Int32).toNatClampNeg x65 = μ72 at hW
            have hfT : μ72.1 106 = fT := by rw [← hμ72, m_si_row (by decide)]; exact hfT
            have hRW : m_RW μ72 := fun i hi => by rw [← hμ72, m_si_ne (by decide)]; exact hRW i hi
            have hps : m_PS μ72 := hps.si hμ72 (by decide) (by decide) (by decide) (by decide) (fun q => absurd q (by decide))
            have hgp : m_GP μ72 := hgp.si hμ72 (by decide) (by decide) (by decide)
            have hfm : m_FM μ72 sl := hfm.si hμ72 (by decide) (fun q => absurd q (by decide))
            have hms : m_MS μ72 fT t.toNatClampNeg j64 := hms.si hμ72 (fun q => absurd q (by decide))
            have hI := hI.si1 hμ72 rfl (by omega) hS25
            refine lv_aload_n hx hb dX12_readIf_122 rfl (lv_at hl 2 rfl) ?_
            refine m_getr hx hb hts hown hW (81) 52 (118) rfl rfl cw_12 rfl (by decide) k_X12_131 dX12_readIf_123 ?_
            refine lv_aload_n hx hb dX12_readIf_126 rfl (lv_at hl 2 rfl) ?_
            refine m_geti hx hb hts hown hW (81) 53 rfl rfl cw_12 rfl (by decide) k_X12_294 dX12_readIf_127 ?_
            refine lv_topi (fun x73 ex73 => ?_)
            have ex73 : x73 = nv := by rw [ex73, ← hμ72]; exact ((hJ63.2.1 81 53 rfl).trans (by exact ((hJ57.2.1 81 53 rfl).trans (by rw [← hμ23]; exact ((hJ14.2.1 81 53 rfl).trans (by rw [← hμ13]; exact ((hJ4.2.1 81 53 rfl).trans (by exact h_nv))))))))
            have ex73 := ex73.symm
            subst ex73
            refine lv_aload_n hx hb dX12_readIf_130 rfl (lv_at hl 2 rfl) ?_
            refine m_getr hx hb hts hown hW (81) 44 (111) rfl rfl cw_12 rfl (by decide) k_X12_110 dX12_readIf_131 ?_
            refine lv_bipush (v := 8) hx hb dX12_readIf_134 (by decide) ?_
            refine m_iald hx hb hW (111) rfl (vp_in_iff.mpr ⟨by decide, by decide⟩) dX12_readIf_136 ?_
            refine lv_topi (fun x74 ex74 => ?_)
            have ex74 : x74 = ov := by rw [ex74, ← hμ72]; exact ((hJ63.2.1 111 8 rfl).trans (by exact ((hJ57.2.1 111 8 rfl).trans (by rw [← hμ23]; exact ((hJ14.2.1 111 8 rfl).trans (by rw [← hμ13]; exact ((hJ4.2.1 111 8 rfl).trans (by exact h_ov))))))))
            have ex74 := ex74.symm
            subst ex74
            refine lv_sipush (v := 1000) hx hb dX12_readIf_137 (by decide) ?_
            refine lv_isub hx hb dX12_readIf_140 ?_
            refine lv_topi (fun x75 ex75 => ?_)
            have tx75 : x75.toInt = ov.toInt - 1000 := m_subI ex75 (rfl : ov.toInt = _) (by decide : (1000 : Int32).toInt = 1000) (by omega) (by omega)
            refine m_iast hx hb hW (118) rfl (m_ixI (rfl : nv.toInt = _) (by omega) (by omega)) dX12_readIf_141 (fun H locs hW _ => ?_)
            generalize hμ76 : m_si μ72 (118) (nv : Int32).toNatClampNeg x75 = μ76 at hW
            have hfT : μ76.1 106 = fT := by rw [← hμ76, m_si_row (by decide)]; exact hfT
            have hRW : m_RW μ76 := fun i hi => by rw [← hμ76, m_si_ne (by decide)]; exact hRW i hi
            have hgp : m_GP μ76 := hgp.si hμ76 (by decide) (by decide) (by decide)
            have hms : m_MS μ76 fT t.toNatClampNeg j64 := hms.si hμ76 (fun q => absurd q (by decide))
            have hI := hI.si1 hμ76 rfl (by omega) hS35
            refine lv_aload_n hx hb dX12_readIf_142 rfl (lv_at hl 2 rfl) ?_
            refine lv_aload_n hx hb dX12_readIf_143 rfl (lv_at hl 2 rfl) ?_
            refine m_geti hx hb hts hown hW (81) 53 rfl rfl cw_12 rfl (by decide) k_X12_294 dX12_readIf_144 ?_
            refine lv_topi (fun x77 ex77 => ?_)
            have ex77 : x77 = nv := by rw [ex77, ← hμ76, ← hμ72]; exact ((hJ63.2.1 81 53 rfl).trans (by exact ((hJ57.2.1 81 53 rfl).trans (by rw [← hμ23]; exact ((hJ14.2.1 81 53 rfl).trans (by rw [← hμ13]; exact ((hJ4.2.1 81 53 rfl).trans (by exact h_nv))))))))
            have ex77 := ex77.symm
            subst ex77
            refine lv_iconst (v := 1) hx hb dX12_readIf_147 (by decide) ?_
            refine lv_iadd hx hb dX12_readIf_148 ?_
            refine lv_topi (fun x78 ex78 => ?_)
            have tx78 : x78.toInt = nv.toInt + 1 := m_addI ex78 (rfl : nv.toInt = _) (by decide : (1 : Int32).toInt = 1) (by omega) (by omega)
            refine m_puti hx hb hts hown hW (81) 53 rfl rfl cw_12 tyX12_ok nmX12 rfl (by decide) k_X12_294 rfl rfl rfl dX12_readIf_149 (fun H locs hW _ => ?_)
            generalize hμ79 : m_si μ76 (81) 53 x78 = μ79 at hW
            have hfT : μ79.1 106 = fT := by rw [← hμ79, m_si_row (by decide)]; exact hfT
            have hRW : m_RW μ79 := fun i hi => by rw [← hμ79, m_si_ne (by decide)]; exact hRW i hi
            have hgp : m_GP μ79 := hgp.si hμ79 (by decide) (by decide) (by decide)
            have hfm : m_FM μ79 (false :: sl) := hfm.push (nv := nv) (x := x75) (y := x78) (b := false) (by rw [← hμ72]; exact ((hJ63.2.1 81 53 rfl).trans (by exact ((hJ57.2.1 81 53 rfl).trans (by rw [← hμ23]; exact ((hJ14.2.1 81 53 rfl).trans (by rw [← hμ13]; exact ((hJ4.2.1 81 53 rfl).trans (by exact h_nv))))))))) (by omega) hμ76 hμ79 (by omega) ⟨fun z => (by cases z), fun z => (by exfalso; omega)⟩
            have hms : m_MS μ79 fT t.toNatClampNeg j64 := hms.si hμ79 (fun _ => by decide)
            have hI := hI.si1 hμ79 rfl (by omega) hS35
            refine lv_aload_n hx hb dX12_readIf_152 rfl (lv_at hl 2 rfl) ?_
            refine lv_bipush (v := 8) hx hb dX12_readIf_153 (by decide) ?_
            refine lv_iconst (v := 0) hx hb dX12_readIf_155 (by decide) ?_
            refine lv_iload_n hx hb dX12_readIf_156 rfl (lv_at hl 0 rfl) ?_
            have l_8 : (8 : Int32).toInt = 8 := by decide
            have l_0 : (0 : Int32).toInt = 0 := by decide
            refine m_aV hW (m_runV (As := [.int 8, .int 0, .int x21]) (rest := []) hx hb hml hown hts hW (81) (g_X12_emits l D cy b (fun g => [25, 33, 41].contains g) μ79 rfl rfl rfl ov (by omega) 8 0 x21 (by omega) μ79 (IY.rf hI.1) (by rw [← hμ79, ← hμ76, ← hμ72]; exact ((hJ63.2.1 111 8 rfl).trans (by exact ((hJ57.2.1 111 8 rfl).trans (by rw [← hμ23]; exact ((hJ14.2.1 111 8 rfl).trans (by rw [← hμ13]; exact ((hJ4.2.1 111 8 rfl).trans (by exact h_ov)))))))))) mi_X12_emits k_X12_301 rfl rfl rfl hl.1 rfl (Nat.le_of_ble_eq_true rfl) dX12_readIf_157 ⟨Nat.le_of_ble_eq_true rfl, Nat.le_of_ble_eq_true rfl⟩ ⟨Nat.le_of_ble_eq_true rfl, Nat.le_of_ble_eq_true rfl⟩) (fun μ80 H locs q80 hW => ?_)
            obtain ⟨hJ80, q80⟩ := q80
            have hI := hI.tr hJ80 (m_subL (by simp [hS25, hS33, hS41]))
            have hfT : μ80.1 106 = fT := by rw [show μ80.1 106 = μ79.1 106 from funext fun j => hJ80.2.1 106 j rfl]; exact hfT
            have hRW : m_RW μ80 := hRW.fr hJ80 rfl
            have hfm : m_FM μ80 (false :: sl) := hfm.fr hJ80 rfl
            have hms : m_MS μ80 fT t.toNatClampNeg j64 := hms.fr hJ80 rfl
            obtain ⟨q80, q80l⟩ := q80
            obtain ⟨x81, hx81⟩ : ∃ z, μ80.1 111 8 = z := ⟨_, rfl⟩
            have tx81 : x81.toInt = ov.toInt + 1 := by rw [← hx81]; exact q80.2.2.2.2
            have hgp : m_GP μ80 := hgp.lo q80l
            have hps : m_PS μ80 := hps.iff (ov := ov) (nv := nv) (x := x75) (y := x78) (by rw [← hμ72]; exact ((hJ63.2.1 111 8 rfl).trans (by exact ((hJ57.2.1 111 8 rfl).trans (by rw [← hμ23]; exact ((hJ14.2.1 111 8 rfl).trans (by rw [← hμ13]; exact ((hJ4.2.1 111 8 rfl).trans (by exact h_ov))))))))) (by omega) (by rw [← hμ72]; exact ((hJ63.2.1 81 53 rfl).trans (by exact ((hJ57.2.1 81 53 rfl).trans (by rw [← hμ23]; exact ((hJ14.2.1 81 53 rfl).trans (by rw [← hμ13]; exact ((hJ4.2.1 81 53 rfl).trans (by exact h_nv))))))))) (by omega) (by rw [hμ76]; exact hμ79) (by omega) (by omega) q80 (funext fun j => hJ80.2.1 118 j rfl) (hJ80.2.1 81 53 rfl)
            refine lv_iconst (v := 0) hx hb dX12_readIf_160 (by decide) ?_
            exact m_iret hx hb hr hlocks hW rfl (⟨hI, ⟨hgp, Or.inr ⟨rfl, by rw [show μ80.1 81 51 = x65 from by exact ((hJ80.2.1 81 51 rfl).trans (by rw [← hμ79, ← hμ76, ← hμ72]; exact hx65)), show μ80.1 81 37 = x66 from by exact ((hJ80.2.1 81 37 rfl).trans (by rw [← hμ79, ← hμ76, ← hμ72]; exact hx66)), show μ80.1 81 36 = x67 from by exact ((hJ80.2.1 81 36 rfl).trans (by rw [← hμ79, ← hμ76, ← hμ72]; exact hx67)), show μ80.1 81 38 = x68 from by exact ((hJ80.2.1 81 38 rfl).trans (by rw [← hμ79, ← hμ76, ← hμ72]; exact hx68)), show μ80.1 111 8 = x81 from by exact hx81]; omega, hps, _, (by rw [if_neg (by omega)]; simp only [a_if, a_b, ha15, hs54, ha64]), hms, hfm⟩⟩⟩) dX12_readIf_161
        · refine lv_if_ne (tgt := 93) hx hb dX12_readIf_75 (by decide) (fun c => False.elim (by revert c; decide)) (fun _ => ?_)
          refine lv_aload_n hx hb dX12_readIf_78 rfl (lv_at hl 1 rfl) ?_
          refine lv_bipush (v := 62) hx hb dX12_readIf_79 (by decide) ?_
          have l_62 : (62 : Int32).toInt = 62 := by decide
          refine m_aI hW (m_runV (As := [.int 62]) (rest := []) hx hb hml hown hts hW (81) (g_X12_isSign_f l D cy b 62 μ23 hI.1) mi_X12_isSign k_X12_291 rfl rfl rfl hl.1 rfl (Nat.le_of_ble_eq_true rfl) dX12_readIf_81 ⟨Nat.le_of_ble_eq_true rfl, Nat.le_of_ble_eq_true rfl⟩ ⟨Nat.le_of_ble_eq_true rfl, Nat.le_of_ble_eq_true rfl⟩) (fun x82 μ82 H locs q82 hW => ?_)
          obtain ⟨q82_m, q82⟩ := q82
          subst q82_m
          rw [show μ23.1 81 38 = x19 from by rw [← hμ23]; exact hx19, show μ23.1 81 39 = x21 from by rw [← hμ23]; exact hx21] at q82
          rcases q82 with ⟨rfl, q82⟩ | ⟨rfl, q82⟩
          · refine lv_if_ne (tgt := 93) hx hb dX12_readIf_84 (by decide) (fun _ => ?_) (fun c => False.elim (by revert c; decide))
            have hs83 : a_k (t_K fT t.toNatClampNeg) (t_L fT t.toNatClampNeg) 6 8 j15 = .inr (j15 + 1) := a_k1 (by have hz := hk20.all; omega)
            refine lv_aload_n hx hb dX12_readIf_93 rfl (lv_at hl 1 rfl) ?_
            refine m_geti hx hb hts hown hW (81) 39 rfl rfl cw_12 rfl (by decide) k_X12_257 dX12_readIf_94 ?_
            refine lv_topi (fun x84 ex84 => ?_)
            have ex84 : x84 = x21 := by rw [ex84, ← hμ23]; exact hx21
            have ex84 := ex84.symm
            subst ex84
            refine lv_istore_n (lv' := [(2, .int x21), (1, .int x11), (0, .ref (b + 81))]) hx hb dX12_readIf_97 rfl hl (by decide) rfl (fun ls hl => ?_)
            refine lv_aload_n hx hb dX12_readIf_98 rfl (lv_at hl 2 rfl) ?_
            have hal85 := hms.at_le
            rw [show μ23.1 81 36 = x18 from by rw [← hμ23]; exact hx18] at hal85
            have ckt := m_ckI (x := t) (by omega)
            refine m_aV hW (m_runV (As := []) (rest := []) hx hb hml hown hts hW (81) (g_X12_reads_f l D cy b (fun g => [24].contains g) μ23 rfl x18 t (by omega) fT μ23 (IY.rf hI.1) (by rw [← hμ23]; exact hx18) (by rw [← hμ23]; exact ((hJ14.2.1 81 35 rfl).trans (by rw [← hμ13]; exact ((hJ4.2.1 81 35 rfl).trans (by exact htp))))) hfT hRW) mi_X12_reads k_X12_279 rfl rfl rfl hl.1 rfl (Nat.le_of_ble_eq_true rfl) dX12_readIf_99 ⟨Nat.le_of_ble_eq_true rfl, Nat.le_of_ble_eq_true rfl⟩ ⟨Nat.le_of_ble_eq_true rfl, Nat.le_of_ble_eq_true rfl⟩) (fun μ86 H locs q86 hW => ?_)
            obtain ⟨hJ86, q86⟩ := q86
            have hI := hI.tr hJ86 (m_subL (by simp [hS24]))
            have hfT : μ86.1 106 = fT := by rw [show μ86.1 106 = μ23.1 106 from funext fun j => hJ86.2.1 106 j rfl]; exact hfT
            have hRW : m_RW μ86 := hRW.fr hJ86 rfl
            have hps : m_PS μ86 := hps.fr hJ86 rfl rfl rfl
            have hgp : m_GP μ86 := hgp.fr hJ86 rfl rfl
            have hfm : m_FM μ86 sl := hfm.fr hJ86 rfl
            obtain ⟨q86, q86f⟩ := q86
            have hms : m_MS μ86 fT t.toNatClampNeg (j15 + 1) := hms.next (a := x18) (by rw [← hμ23]; exact hx18) q86f
            obtain ⟨x87, hx87⟩ : ∃ z, μ86.1 81 36 = z := ⟨_, rfl⟩
            have bx87 : 0 ≤ x87.toInt ∧ x87.toInt ≤ 400 := by rw [← hx87]; exact hI.1 _ _ _ _ rfl
            rw [show μ86.1 81 36 = x87 from by exact hx87] at q86
            obtain ⟨x88, hx88⟩ : ∃ z, μ86.1 81 37 = z := ⟨_, rfl⟩
            have bx88 : 0 ≤ x88.toInt ∧ x88.toInt ≤ 400 := by rw [← hx88]; exact hI.1 _ _ _ _ rfl
            rw [show μ86.1 81 37 = x88 from by exact hx88] at q86
            obtain ⟨x89, hx89⟩ : ∃ z, μ86.1 81 38 = z := ⟨_, rfl⟩
            have bx89 : 0 ≤ x89.toInt ∧ x89.toInt ≤ 4 := by rw [← hx89]; exact hI.1 _ _ _ _ rfl
            rw [show μ86.1 81 38 = x89 from by exact hx89] at q86
            obtain ⟨x90, hx90⟩ : ∃ z, μ86.1 81 39 = z := ⟨_, rfl⟩
            have bx90 : -1 ≤ x90.toInt ∧ x90.toInt ≤ 99999 := by rw [← hx90]; exact hI.1 _ _ _ _ rfl
            rw [show μ86.1 81 39 = x90 from by exact hx90] at q86
            have hk91 : m_TQ ((t_K fT t.toNatClampNeg) (j15 + 1)) (m_VV fT t.toNatClampNeg (j15 + 1)) x89 x90 := by
              have z := hms.2.2
              rw [show μ86.1 81 38 = x89 from by exact hx89, show μ86.1 81 39 = x90 from by exact hx90] at z
              exact z
            refine lv_aload_n hx hb dX12_readIf_102 rfl (lv_at hl 2 rfl) ?_
            refine m_aI hW (m_runV (As := []) (rest := []) hx hb hml hown hts hW (81) (g_X12_readSum_g l D cy b (fun g => [24, 25, 34, 36].contains g) μ86 rfl rfl rfl rfl x87 x88 x89 x90 x16 (by omega) t (by omega) fT (j15 + 1) μ86 (IY.rf hI.1) (by exact hx87) (by exact hx88) (by exact hx89) (by exact hx90) (by exact ((hJ86.2.1 81 51 rfl).trans (by rw [← hμ23]; exact hx16))) (by exact ((hJ86.2.1 81 35 rfl).trans (by rw [← hμ23]; exact ((hJ14.2.1 81 35 rfl).trans (by rw [← hμ13]; exact ((hJ4.2.1 81 35 rfl).trans (by exact htp))))))) hfT hRW hms) mi_X12_readSum k_X12_297 rfl rfl rfl hl.1 rfl (Nat.le_of_ble_eq_true rfl) dX12_readIf_103 ⟨Nat.le_of_ble_eq_true rfl, Nat.le_of_ble_eq_true rfl⟩ ⟨Nat.le_of_ble_eq_true rfl, Nat.le_of_ble_eq_true rfl⟩) (fun x92 μ92 H locs q92 hW => ?_)
            obtain ⟨hJ92, q92⟩ := q92
            have hI := hI.tr hJ92 (m_subL (by simp [hS24, hS25, hS34, hS36]))
            have hfT : μ92.1 106 = fT := by rw [show μ92.1 106 = μ86.1 106 from funext fun j => hJ92.2.1 106 j rfl]; exact hfT
            have hRW : m_RW μ92 := hRW.fr hJ92 rfl
            have hps : m_PS μ92 := hps.fr hJ92 rfl rfl rfl
            have hgp : m_GP μ92 := hgp.fr hJ92 rfl rfl
            have hfm : m_FM μ92 sl := hfm.fr hJ92 rfl
            rcases q92 with ⟨rfl, e93, ha93, hft⟩ | ⟨rfl, q92, j93, ha93, hms⟩
            · refine lv_iconst (v := (-1)) hx hb dX12_readIf_106 (by decide) ?_
              refine lv_icmp_ne (tgt := 112) hx hb dX12_readIf_107 (by decide) (fun c => False.elim (by revert c; decide)) (fun _ => ?_)
              refine lv_iconst (v := (-1)) hx hb dX12_readIf_110 (by decide) ?_
              exact m_iret hx hb hr hlocks hW rfl (⟨hI, ⟨hgp, Or.inl ⟨rfl, e93, (by rw [if_neg (by omega)]; simp only [a_if, a_b, ha15, hs83, ha93]), hft⟩⟩⟩) dX12_readIf_111
            · obtain ⟨x94, hx94⟩ : ∃ z, μ92.1 81 51 = z := ⟨_, rfl⟩
              have bx94 : 0 ≤ x94.toInt ∧ x94.toInt ≤ 400 := by rw [← hx94]; exact hI.1 _ _ _ _ rfl
              rw [show μ92.1 81 51 = x94 from by exact hx94] at q92
              obtain ⟨x95, hx95⟩ : ∃ z, μ92.1 81 37 = z := ⟨_, rfl⟩
              have bx95 : 0 ≤ x95.toInt ∧ x95.toInt ≤ 400 := by rw [← hx95]; exact hI.1 _ _ _ _ rfl
              rw [show μ92.1 81 37 = x95 from by exact hx95] at q92
              obtain ⟨x96, hx96⟩ : ∃ z, μ92.1 81 36 = z := ⟨_, rfl⟩
              have bx96 : 0 ≤ x96.toInt ∧ x96.toInt ≤ 400 := by rw [← hx96]; exact hI.1 _ _ _ _ rfl
              rw [show μ92.1 81 36 = x96 from by exact hx96] at q92
              obtain ⟨x97, hx97⟩ : ∃ z, μ92.1 81 38 = z := ⟨_, rfl⟩
              have bx97 : 0 ≤ x97.toInt ∧ x97.toInt ≤ 4 := by rw [← hx97]; exact hI.1 _ _ _ _ rfl
              rw [show μ92.1 81 38 = x97 from by exact hx97] at q92
              obtain ⟨x99, hx99⟩ : ∃ z, μ92.1 81 39 = z := ⟨_, rfl⟩
              have bx99 : -1 ≤ x99.toInt ∧ x99.toInt ≤ 99999 := by rw [← hx99]; exact hI.1 _ _ _ _ rfl
              have hk98 : m_TQ ((t_K fT t.toNatClampNeg) j93) (m_VV fT t.toNatClampNeg j93) x97 x99 := by
                have z := hms.2.2
                rw [show μ92.1 81 38 = x97 from by exact hx97, show μ92.1 81 39 = x99 from by exact hx99] at z
                exact z
              refine lv_iconst (v := (-1)) hx hb dX12_readIf_106 (by decide) ?_
              refine lv_icmp_ne (tgt := 112) hx hb dX12_readIf_107 (by decide) (fun _ => ?_) (fun c => False.elim (by revert c; decide))
              refine lv_aload_n hx hb dX12_readIf_112 rfl (lv_at hl 2 rfl) ?_
              refine m_getr hx hb hts hown hW (81) 47 (114) rfl rfl cw_12 rfl (by decide) k_X12_119 dX12_readIf_113 ?_
              refine lv_iload_n hx hb dX12_readIf_116 rfl (lv_at hl 1 rfl) ?_
              refine lv_aload_n hx hb dX12_readIf_117 rfl (lv_at hl 2 rfl) ?_
              refine m_geti hx hb hts hown hW (81) 51 rfl rfl cw_12 rfl (by decide) k_X12_285 dX12_readIf_118 ?_
              refine lv_topi (fun x100 ex100 => ?_)
              have ex100 : x100 = x94 := by rw [ex100]; exact hx94
              have ex100 := ex100.symm
              subst ex100
              refine m_iast hx hb hW (114) rfl (m_ixI (rfl : x11.toInt = _) (by omega) (by omega)) dX12_readIf_121 (fun H locs hW _ => ?_)
              generalize hμ101 : m_si μ92 (114) (x11 : Int32).toNatClampNeg x94 = μ101 at hW
              have hfT : μ101.1 106 = fT := by rw [← hμ101, m_si_row (by decide)]; exact hfT
              have hRW : m_RW μ101 := fun i hi => by rw [← hμ101, m_si_ne (by decide)]; exact hRW i hi
              have hps : m_PS μ101 := hps.si hμ101 (by decide) (by decide) (by decide) (by decide) (fun q => absurd q (by decide))
              have hgp : m_GP μ101 := hgp.si hμ101 (by decide) (by decide) (by decide)
              have hfm : m_FM μ101 sl := hfm.si hμ101 (by decide) (fun q => absurd q (by decide))
              have hms : m_MS μ101 fT t.toNatClampNeg j93 := hms.si hμ101 (fun q => absurd q (by decide))
              have hI := hI.si1 hμ101 rfl (by omega) hS25
              refine lv_aload_n hx hb dX12_readIf_122 rfl (lv_at hl 2 rfl) ?_
              refine m_getr hx hb hts hown hW (81) 52 (118) rfl rfl cw_12 rfl (by decide) k_X12_131 dX12_readIf_123 ?_
              refine lv_aload_n hx hb dX12_readIf_126 rfl (lv_at hl 2 rfl) ?_
              refine m_geti hx hb hts hown hW (81) 53 rfl rfl cw_12 rfl (by decide) k_X12_294 dX12_readIf_127 ?_
              refine lv_topi (fun x102 ex102 => ?_)
              have ex102 : x102 = nv := by rw [ex102, ← hμ101]; exact ((hJ92.2.1 81 53 rfl).trans (by exact ((hJ86.2.1 81 53 rfl).trans (by rw [← hμ23]; exact ((hJ14.2.1 81 53 rfl).trans (by rw [← hμ13]; exact ((hJ4.2.1 81 53 rfl).trans (by exact h_nv))))))))
              have ex102 := ex102.symm
              subst ex102
              refine lv_aload_n hx hb dX12_readIf_130 rfl (lv_at hl 2 rfl) ?_
              refine m_getr hx hb hts hown hW (81) 44 (111) rfl rfl cw_12 rfl (by decide) k_X12_110 dX12_readIf_131 ?_
              refine lv_bipush (v := 8) hx hb dX12_readIf_134 (by decide) ?_
              refine m_iald hx hb hW (111) rfl (vp_in_iff.mpr ⟨by decide, by decide⟩) dX12_readIf_136 ?_
              refine lv_topi (fun x103 ex103 => ?_)
              have ex103 : x103 = ov := by rw [ex103, ← hμ101]; exact ((hJ92.2.1 111 8 rfl).trans (by exact ((hJ86.2.1 111 8 rfl).trans (by rw [← hμ23]; exact ((hJ14.2.1 111 8 rfl).trans (by rw [← hμ13]; exact ((hJ4.2.1 111 8 rfl).trans (by exact h_ov))))))))
              have ex103 := ex103.symm
              subst ex103
              refine lv_sipush (v := 1000) hx hb dX12_readIf_137 (by decide) ?_
              refine lv_isub hx hb dX12_readIf_140 ?_
              refine lv_topi (fun x104 ex104 => ?_)
              have tx104 : x104.toInt = ov.toInt - 1000 := m_subI ex104 (rfl : ov.toInt = _) (by decide : (1000 : Int32).toInt = 1000) (by omega) (by omega)
              refine m_iast hx hb hW (118) rfl (m_ixI (rfl : nv.toInt = _) (by omega) (by omega)) dX12_readIf_141 (fun H locs hW _ => ?_)
              generalize hμ105 : m_si μ101 (118) (nv : Int32).toNatClampNeg x104 = μ105 at hW
              have hfT : μ105.1 106 = fT := by rw [← hμ105, m_si_row (by decide)]; exact hfT
              have hRW : m_RW μ105 := fun i hi => by rw [← hμ105, m_si_ne (by decide)]; exact hRW i hi
              have hgp : m_GP μ105 := hgp.si hμ105 (by decide) (by decide) (by decide)
              have hms : m_MS μ105 fT t.toNatClampNeg j93 := hms.si hμ105 (fun q => absurd q (by decide))
              have hI := hI.si1 hμ105 rfl (by omega) hS35
              refine lv_aload_n hx hb dX12_readIf_142 rfl (lv_at hl 2 rfl) ?_
              refine lv_aload_n hx hb dX12_readIf_143 rfl (lv_at hl 2 rfl) ?_
              refine m_geti hx hb hts hown hW (81) 53 rfl rfl cw_12 rfl (by decide) k_X12_294 dX12_readIf_144 ?_
              refine lv_topi (fun x106 ex106 => ?_)
              have ex106 : x106 = nv := by rw [ex106, ← hμ105, ← hμ101]; exact ((hJ92.2.1 81 53 rfl).trans (by exact ((hJ86.2.1 81 53 rfl).trans (by rw [← hμ23]; exact ((hJ14.2.1 81 53 rfl).trans (by rw [← hμ13]; exact ((hJ4.2.1 81 53 rfl).trans (by exact h_nv))))))))
              have ex106 := ex106.symm
              subst ex106
              refine lv_iconst (v := 1) hx hb dX12_readIf_147 (by decide) ?_
              refine lv_iadd hx hb dX12_readIf_148 ?_
              refine lv_topi (fun x107 ex107 => ?_)
              have tx107 : x107.toInt = nv.toInt + 1 := m_addI ex107 (rfl : nv.toInt = _) (by decide : (1 : Int32).toInt = 1) (by omega) (by omega)
              refine m_puti hx hb hts hown hW (81) 53 rfl rfl cw_12 tyX12_ok nmX12 rfl (by decide) k_X12_294 rfl rfl rfl dX12_readIf_149 (fun H locs hW _ => ?_)
              generalize hμ108 : m_si μ105 (81) 53 x107 = μ108 at hW
              have hfT : μ108.1 106 = fT := by rw [← hμ108, m_si_row (by decide)]; exact hfT
              have hRW : m_RW μ108 := fun i hi => by rw [← hμ108, m_si_ne (by decide)]; exact hRW i hi
              have hgp : m_GP μ108 := hgp.si hμ108 (by decide) (by decide) (by decide)
              have hfm : m_FM μ108 (false :: sl) := hfm.push (nv := nv) (x := x104) (y := x107) (b := false) (by rw [← hμ101]; exact ((hJ92.2.1 81 53 rfl).trans (by exact ((hJ86.2.1 81 53 rfl).trans (by rw [← hμ23]; exact ((hJ14.2.1 81 53 rfl).trans (by rw [← hμ13]; exact ((hJ4.2.1 81 53 rfl).trans (by exact h_nv))))))))) (by omega) hμ105 hμ108 (by omega) ⟨fun z => (by cases z), fun z => (by exfalso; omega)⟩
              have hms : m_MS μ108 fT t.toNatClampNeg j93 := hms.si hμ108 (fun _ => by decide)
              have hI := hI.si1 hμ108 rfl (by omega) hS35
              refine lv_aload_n hx hb dX12_readIf_152 rfl (lv_at hl 2 rfl) ?_
              refine lv_bipush (v := 8) hx hb dX12_readIf_153 (by decide) ?_
              refine lv_iconst (v := 0) hx hb dX12_readIf_155 (by decide) ?_
              refine lv_iload_n hx hb dX12_readIf_156 rfl (lv_at hl 0 rfl) ?_
              have l_8 : (8 : Int32).toInt = 8 := by decide
              have l_0 : (0 : Int32).toInt = 0 := by decide
              refine m_aV hW (m_runV (As := [.int 8, .int 0, .int x21]) (rest := []) hx hb hml hown hts hW (81) (g_X12_emits l D cy b (fun g => [25, 33, 41].contains g) μ108 rfl rfl rfl ov (by omega) 8 0 x21 (by omega) μ108 (IY.rf hI.1) (by rw [← hμ108, ← hμ105, ← hμ101]; exact ((hJ92.2.1 111 8 rfl).trans (by exact ((hJ86.2.1 111 8 rfl).trans (by rw [← hμ23]; exact ((hJ14.2.1 111 8 rfl).trans (by rw [← hμ13]; exact ((hJ4.2.1 111 8 rfl).trans (by exact h_ov)))))))))) mi_X12_emits k_X12_301 rfl rfl rfl hl.1 rfl (Nat.le_of_ble_eq_true rfl) dX12_readIf_157 ⟨Nat.le_of_ble_eq_true rfl, Nat.le_of_ble_eq_true rfl⟩ ⟨Nat.le_of_ble_eq_true rfl, Nat.le_of_ble_eq_true rfl⟩) (fun μ109 H locs q109 hW => ?_)
              obtain ⟨hJ109, q109⟩ := q109
              have hI := hI.tr hJ109 (m_subL (by simp [hS25, hS33, hS41]))
              have hfT : μ109.1 106 = fT := by rw [show μ109.1 106 = μ108.1 106 from funext fun j => hJ109.2.1 106 j rfl]; exact hfT
              have hRW : m_RW μ109 := hRW.fr hJ109 rfl
              have hfm : m_FM μ109 (false :: sl) := hfm.fr hJ109 rfl
              have hms : m_MS μ109 fT t.toNatClampNeg j93 := hms.fr hJ109 rfl
              obtain ⟨q109, q109l⟩ := q109
              obtain ⟨x110, hx110⟩ : ∃ z, μ109.1 111 8 = z := ⟨_, rfl⟩
              have tx110 : x110.toInt = ov.toInt + 1 := by rw [← hx110]; exact q109.2.2.2.2
              have hgp : m_GP μ109 := hgp.lo q109l
              have hps : m_PS μ109 := hps.iff (ov := ov) (nv := nv) (x := x104) (y := x107) (by rw [← hμ101]; exact ((hJ92.2.1 111 8 rfl).trans (by exact ((hJ86.2.1 111 8 rfl).trans (by rw [← hμ23]; exact ((hJ14.2.1 111 8 rfl).trans (by rw [← hμ13]; exact ((hJ4.2.1 111 8 rfl).trans (by exact h_ov))))))))) (by omega) (by rw [← hμ101]; exact ((hJ92.2.1 81 53 rfl).trans (by exact ((hJ86.2.1 81 53 rfl).trans (by rw [← hμ23]; exact ((hJ14.2.1 81 53 rfl).trans (by rw [← hμ13]; exact ((hJ4.2.1 81 53 rfl).trans (by exact h_nv))))))))) (by omega) (by rw [hμ105]; exact hμ108) (by omega) (by omega) q109 (funext fun j => hJ109.2.1 118 j rfl) (hJ109.2.1 81 53 rfl)
              refine lv_iconst (v := 0) hx hb dX12_readIf_160 (by decide) ?_
              exact m_iret hx hb hr hlocks hW rfl (⟨hI, ⟨hgp, Or.inr ⟨rfl, by rw [show μ109.1 81 51 = x94 from by exact ((hJ109.2.1 81 51 rfl).trans (by rw [← hμ108, ← hμ105, ← hμ101]; exact hx94)), show μ109.1 81 37 = x95 from by exact ((hJ109.2.1 81 37 rfl).trans (by rw [← hμ108, ← hμ105, ← hμ101]; exact hx95)), show μ109.1 81 36 = x96 from by exact ((hJ109.2.1 81 36 rfl).trans (by rw [← hμ108, ← hμ105, ← hμ101]; exact hx96)), show μ109.1 81 38 = x97 from by exact ((hJ109.2.1 81 38 rfl).trans (by rw [← hμ108, ← hμ105, ← hμ101]; exact hx97)), show μ109.1 111 8 = x110 from by exact hx110]; omega, hps, _, (by rw [if_neg (by omega)]; simp only [a_if, a_b, ha15, hs83, ha93]), hms, hfm⟩⟩⟩) dX12_readIf_161
          · refine lv_if_ne (tgt := 93) hx hb dX12_readIf_84 (by decide) (fun c => False.elim (by revert c; decide)) (fun _ => ?_)
            have hs111 : a_k (t_K fT t.toNatClampNeg) (t_L fT t.toNatClampNeg) 6 8 j15 = .inl (1, (t_L fT t.toNatClampNeg) j15) := a_k0 (by have hz := hk20.all; omega)
            refine lv_aload_n hx hb dX12_readIf_87 rfl (lv_at hl 1 rfl) ?_
            refine lv_iconst (v := 1) hx hb dX12_readIf_88 (by decide) ?_
            have l_1 : (1 : Int32).toInt = 1 := by decide
            refine m_aI hW (m_runV (As := [.int 1]) (rest := []) hx hb hml hown hts hW (81) (g_X12_fails_f l D cy b (fun g => [36].contains g) μ23 rfl 1 μ23 (IY.rf hI.1)) mi_X12_fails k_X12_282 rfl rfl rfl hl.1 rfl (Nat.le_of_ble_eq_true rfl) dX12_readIf_89 ⟨Nat.le_of_ble_eq_true rfl, Nat.le_of_ble_eq_true rfl⟩ ⟨Nat.le_of_ble_eq_true rfl, Nat.le_of_ble_eq_true rfl⟩) (fun x112 μ112 H locs q112 hW => ?_)
            obtain ⟨hJ112, q112⟩ := q112
            have hI := hI.tr hJ112 (m_subL (by simp [hS36]))
            have hfT : μ112.1 106 = fT := by rw [show μ112.1 106 = μ23.1 106 from funext fun j => hJ112.2.1 106 j rfl]; exact hfT
            have hRW : m_RW μ112 := hRW.fr hJ112 rfl
            have hps : m_PS μ112 := hps.fr hJ112 rfl rfl rfl
            have hgp : m_GP μ112 := hgp.fr hJ112 rfl rfl
            have hfm : m_FM μ112 sl := hfm.fr hJ112 rfl
            have hms : m_MS μ112 fT t.toNatClampNeg j15 := hms.fr hJ112 rfl
            obtain ⟨rfl, q1121, q1122⟩ := q112
            have hft : m_FT μ112 (1, (t_L fT t.toNatClampNeg) j15) := ⟨by rw [q1121]; rfl, by rw [q1122]; exact hms.2.1⟩
            exact m_iret hx hb hr hlocks hW rfl (⟨hI, ⟨hgp, Or.inl ⟨rfl, (1, (t_L fT t.toNatClampNeg) j15), (by rw [if_neg (by omega)]; simp only [a_if, a_b, ha15, hs111]), hft⟩⟩⟩) dX12_readIf_92
  · have i2 := m_c5 (rfl : nv.toInt = _) (by decide : (4 : Int32).toInt = 4) c2
    refine lv_aload_n hx hb dX12_readIf_8 rfl (lv_at hl 0 rfl) ?_
    refine lv_iconst (v := 3) hx hb dX12_readIf_9 (by decide) ?_
    have l_3 : (3 : Int32).toInt = 3 := by decide
    refine m_aI hW (m_runV (As := [.int 3]) (rest := []) hx hb hml hown hts hW (81) (g_X12_fails_f l D cy b (fun g => [36].contains g) μ rfl 3 μ (IY.rf hI.1)) mi_X12_fails k_X12_282 rfl rfl rfl hl.1 rfl (Nat.le_of_ble_eq_true rfl) dX12_readIf_10 ⟨Nat.le_of_ble_eq_true rfl, Nat.le_of_ble_eq_true rfl⟩ ⟨Nat.le_of_ble_eq_true rfl, Nat.le_of_ble_eq_true rfl⟩) (fun x113 μ113 H locs q113 hW => ?_)
    obtain ⟨hJ113, q113⟩ := q113
    have hI := hI.tr hJ113 (m_subL (by simp [hS36]))
    have hfT : μ113.1 106 = fT := by rw [show μ113.1 106 = μ.1 106 from funext fun j => hJ113.2.1 106 j rfl]; exact hfT
    have hRW : m_RW μ113 := hRW.fr hJ113 rfl
    have hms : m_MS μ113 fT t.toNatClampNeg gi := hms.fr hJ113 rfl
    have hps : m_PS μ113 := hps.fr hJ113 rfl rfl rfl
    have hgp : m_GP μ113 := hgp.fr hJ113 rfl rfl
    have hfm : m_FM μ113 sl := hfm.fr hJ113 rfl
    obtain ⟨rfl, q1131, q1132⟩ := q113
    have hft : m_FT μ113 (3, (t_L fT t.toNatClampNeg) gi) := ⟨by rw [q1131]; rfl, by rw [q1132]; exact hms.2.1⟩
    exact m_iret hx hb hr hlocks hW rfl (⟨hI, ⟨hgp, Or.inl ⟨rfl, (3, (t_L fT t.toNatClampNeg) gi), (by rw [if_pos (by omega)]), hft⟩⟩⟩) dX12_readIf_13
set_option maxHeartbeats 4000000 in
set_option maxRecDepth 100000 in
theorem g_X12_readAgain_g (l : Launch) (D : va_G) (cy : Nat → ClassId) (b : Nat) (S : Nat → Bool) (μ0 : mM) (hS24 : S 24 = true) (hS25 : S 25 = true) (hS33 : S 33 = true) (hS34 : S 34 = true) (hS35 : S 35 = true) (hS36 : S 36 = true) (hS41 : S 41 = true) (av fv tk vv uv ov nv : Int32) (h_g : 0 ≤ av.toInt ∧ av.toInt ≤ 400 ∧ 0 ≤ fv.toInt ∧ fv.toInt ≤ 400 ∧ 0 ≤ tk.toInt ∧ tk.toInt ≤ 4 ∧ -1 ≤ vv.toInt ∧ vv.toInt ≤ 99999 ∧ 0 ≤ uv.toInt ∧ uv.toInt ≤ 400 ∧ 0 ≤ ov.toInt ∧ ov.toInt ≤ 400 ∧ 0 ≤ nv.toInt ∧ nv.toInt ≤ 4 ∧ uv.toInt ≤ fv.toInt ∧ fv.toInt ≤ av.toInt ∧ (tk.toInt = 0 ∨ fv.toInt + 1 ≤ av.toInt) ∧ ov.toInt ≤ fv.toInt ∧ tk.toInt = 2) (t : Int32) (h_tt : 0 ≤ t.toInt ∧ t.toInt ≤ 400) (fT : Nat → Int32) (gi : Nat) (sl : List Bool) (μ : mM) (hI : IY S μ0 μ) (h_av : μ.1 81 36 = av) (h_fv : μ.1 81 37 = fv) (h_tk : μ.1 81 38 = tk) (h_vv : μ.1 81 39 = vv) (h_uv : μ.1 81 51 = uv) (h_ov : μ.1 111 8 = ov) (h_nv : μ.1 81 53 = nv) (htp : μ.1 81 35 = t) (hfT : μ.1 106 = fT) (hRW : m_RW μ) (hms : m_MS μ fT t.toNatClampNeg gi) (hps : m_PS μ) (hgp : m_GP μ) (hfm : m_FM μ sl) : m_Ci l yX12_readAgain cX12_readAgain 2 ((some .int)) 4 D cy b LAY μ [.ref (b + 81)] (fun r ν => IY S μ0 ν ∧ (m_GP ν ∧ ((r = -1 ∧ ∃ e, (if 4 ≤ sl.length then (.inl (3, (t_L fT t.toNatClampNeg) gi) : Sum (Int × Int) (Nat × List Bool)) else a_b (a_again (t_K fT t.toNatClampNeg) (t_L fT t.toNatClampNeg) (t_V fT t.toNatClampNeg) gi) (fun j => .inr (j, true :: sl))) = .inl e ∧ m_FT ν e) ∨ (r = 0 ∧ ((ν.1 81 51).toInt ≤ (ν.1 81 37).toInt ∧ fv.toInt + 1 ≤ (ν.1 81 37).toInt ∧ (ν.1 81 37).toInt ≤ (ν.1 81 36).toInt ∧ ((ν.1 81 38).toInt = 0 ∨ (ν.1 81 37).toInt + 1 ≤ (ν.1 81 36).toInt) ∧ (ν.1 111 8).toInt ≤ (ν.1 81 37).toInt) ∧ m_PS ν ∧ ∃ j, (if 4 ≤ sl.length then (.inl (3, (t_L fT t.toNatClampNeg) gi) : Sum (Int × Int) (Nat × List Bool)) else a_b (a_again (t_K fT t.toNatClampNeg) (t_L fT t.toNatClampNeg) (t_V fT t.toNatClampNeg) gi) (fun j => .inr (j, true :: sl))) = .inr (j, true :: sl) ∧ m_MS ν fT t.toNatClampNeg j ∧ m_FM ν (true :: sl))))) := by
  unfold m_Ci
  refine m_of (by decide) (Nat.le_of_ble_eq_true rfl) ?_
  intro p e s m below meth c hx hb hr hml hown hts hlocks _ hW ls hl
  have hown : s.vm.findClass RX12 = some m.cls := hown
  have hl : lv_has ls 2 [(0, .ref (b + 81))] := hl
  have hkk : m_TQ ((t_K fT t.toNatClampNeg) gi) (m_VV fT t.toNatClampNeg gi) tk vv := by have z := hms.2.2; rw [h_tk, h_vv] at z; exact z
  have hlen := hfm.len h_nv (by omega)
  refine lv_aload_n hx hb dX12_readAgain_0 rfl (lv_at hl 0 rfl) ?_
  refine m_geti hx hb hts hown hW (81) 53 rfl rfl cw_12 rfl (by decide) k_X12_294 dX12_readAgain_1 ?_
  refine lv_topi (fun x1 ex1 => ?_)
  have ex1 : x1 = nv := by rw [ex1]; exact h_nv
  have ex1 := ex1.symm
  subst ex1
  refine lv_iconst (v := 4) hx hb dX12_readAgain_4 (by decide) ?_
  refine lv_icmp_ne (tgt := 14) hx hb dX12_readAgain_5 (by decide) (fun c2 => ?_) (fun c2 => ?_)
  · have i2 := m_c6 (rfl : nv.toInt = _) (by decide : (4 : Int32).toInt = 4) c2
    refine lv_aload_n hx hb dX12_readAgain_14 rfl (lv_at hl 0 rfl) ?_
    refine m_aI hW (m_runV (As := []) (rest := []) hx hb hml hown hts hW (81) (g_X12_readNumber_g l D cy b (fun g => [24, 36].contains g) μ rfl rfl av (by omega) t (by omega) fT gi μ (IY.rf hI.1) (by exact h_av) (by exact htp) hfT hRW hms) mi_X12_readNumber k_X12_304 rfl rfl rfl hl.1 rfl (Nat.le_of_ble_eq_true rfl) dX12_readAgain_15 ⟨Nat.le_of_ble_eq_true rfl, Nat.le_of_ble_eq_true rfl⟩ ⟨Nat.le_of_ble_eq_true rfl, Nat.le_of_ble_eq_true rfl⟩) (fun x3 μ3 H locs q3 hW => ?_)
    obtain ⟨hJ3, q3⟩ := q3
    have hI := hI.tr hJ3 (m_subL (by simp [hS24, hS36]))
    have hfT : μ3.1 106 = fT := by rw [show μ3.1 106 = μ.1 106 from funext fun j => hJ3.2.1 106 j rfl]; exact hfT
    have hRW : m_RW μ3 := hRW.fr hJ3 rfl
    have hps : m_PS μ3 := hps.fr hJ3 rfl rfl rfl
    have hgp : m_GP μ3 := hgp.fr hJ3 rfl rfl
    have hfm : m_FM μ3 sl := hfm.fr hJ3 rfl
    rcases q3 with ⟨rfl, q3k, hft⟩ | ⟨q3, q3k, q3v, hms⟩
    · refine lv_istore_n (lv' := [(1, .int (-1)), (0, .ref (b + 81))]) hx hb dX12_readAgain_18 rfl hl (by decide) rfl (fun ls hl => ?_)
      refine lv_iload_n hx hb dX12_readAgain_19 rfl (lv_at hl 0 rfl) ?_
      refine lv_iconst (v := (-1)) hx hb dX12_readAgain_20 (by decide) ?_
      refine lv_icmp_ne (tgt := 26) hx hb dX12_readAgain_21 (by decide) (fun c => False.elim (by revert c; decide)) (fun _ => ?_)
      refine lv_iconst (v := (-1)) hx hb dX12_readAgain_24 (by decide) ?_
      exact m_iret hx hb hr hlocks hW rfl (⟨hI, ⟨hgp, Or.inl ⟨rfl, (1, (t_L fT t.toNatClampNeg) (gi + 1)), (by rw [if_neg (by omega)]; unfold a_again; rw [a_N0 (V := (t_V fT t.toNatClampNeg)) (lo := 1) (hi := 99) q3k]; rfl), hft⟩⟩⟩) dX12_readAgain_25
    · obtain ⟨x4, hx4⟩ : ∃ z, μ3.1 81 37 = z := ⟨_, rfl⟩
      have bx4 : 0 ≤ x4.toInt ∧ x4.toInt ≤ 400 := by rw [← hx4]; exact hI.1 _ _ _ _ rfl
      rw [show μ3.1 81 37 = x4 from by exact hx4] at q3
      obtain ⟨x5, hx5⟩ : ∃ z, μ3.1 81 36 = z := ⟨_, rfl⟩
      have bx5 : 0 ≤ x5.toInt ∧ x5.toInt ≤ 400 := by rw [← hx5]; exact hI.1 _ _ _ _ rfl
      rw [show μ3.1 81 36 = x5 from by exact hx5] at q3
      refine lv_istore_n (lv' := [(1, .int x3), (0, .ref (b + 81))]) hx hb dX12_readAgain_18 rfl hl (by decide) rfl (fun ls hl => ?_)
      refine lv_iload_n hx hb dX12_readAgain_19 rfl (lv_at hl 0 rfl) ?_
      refine lv_iconst (v := (-1)) hx hb dX12_readAgain_20 (by decide) ?_
      refine lv_icmp_ne (tgt := 26) hx hb dX12_readAgain_21 (by decide) (fun c6 => ?_) (fun c6 => ?_)
      · have i6 := m_c6 (rfl : x3.toInt = _) (by decide : ((-1) : Int32).toInt = (-1)) c6
        refine lv_aload_n hx hb dX12_readAgain_26 rfl (lv_at hl 1 rfl) ?_
        refine lv_iload_n hx hb dX12_readAgain_27 rfl (lv_at hl 0 rfl) ?_
        refine lv_iconst (v := 1) hx hb dX12_readAgain_28 (by decide) ?_
        refine lv_bipush (v := 99) hx hb dX12_readAgain_29 (by decide) ?_
        have l_1 : (1 : Int32).toInt = 1 := by decide
        have l_99 : (99 : Int32).toInt = 99 := by decide
        refine m_aI hW (m_runV (As := [.int x3, .int 1, .int 99]) (rest := []) hx hb hml hown hts hW (81) (g_X12_isIn l D cy b x3 1 99 μ3 hI.1) mi_X12_isIn k_X12_170 rfl rfl rfl hl.1 rfl (Nat.le_of_ble_eq_true rfl) dX12_readAgain_31 ⟨Nat.le_of_ble_eq_true rfl, Nat.le_of_ble_eq_true rfl⟩ ⟨Nat.le_of_ble_eq_true rfl, Nat.le_of_ble_eq_true rfl⟩) (fun x7 μ7 H locs q7 hW => ?_)
        obtain ⟨q7_m, q7⟩ := q7
        subst q7_m
        rcases q7 with ⟨rfl, q7⟩ | ⟨rfl, q7⟩
        · refine lv_if_ne (tgt := 43) hx hb dX12_readAgain_34 (by decide) (fun _ => ?_) (fun c => False.elim (by revert c; decide))
          have hs8 : a_N (t_K fT t.toNatClampNeg) (t_L fT t.toNatClampNeg) (t_V fT t.toNatClampNeg) 1 99 (gi + 1) = .inr ((gi + 1) + 1) := a_N1 q3k (by omega)
          refine lv_aload_n hx hb dX12_readAgain_43 rfl (lv_at hl 1 rfl) ?_
          have hal9 := hms.at_le
          rw [show μ3.1 81 36 = x5 from by exact hx5] at hal9
          have ckt := m_ckI (x := t) (by omega)
          refine m_aV hW (m_runV (As := []) (rest := []) hx hb hml hown hts hW (81) (g_X12_reads_f l D cy b (fun g => [24].contains g) μ3 rfl x5 t (by omega) fT μ3 (IY.rf hI.1) (by exact hx5) (by exact ((hJ3.2.1 81 35 rfl).trans (by exact htp))) hfT hRW) mi_X12_reads k_X12_279 rfl rfl rfl hl.1 rfl (Nat.le_of_ble_eq_true rfl) dX12_readAgain_44 ⟨Nat.le_of_ble_eq_true rfl, Nat.le_of_ble_eq_true rfl⟩ ⟨Nat.le_of_ble_eq_true rfl, Nat.le_of_ble_eq_true rfl⟩) (fun μ10 H locs q10 hW => ?_)
          obtain ⟨hJ10, q10⟩ := q10
          have hI := hI.tr hJ10 (m_subL (by simp [hS24]))
          have hfT : μ10.1 106 = fT := by rw [show μ10.1 106 = μ3.1 106 from funext fun j => hJ10.2.1 106 j rfl]; exact hfT
          have hRW : m_RW μ10 := hRW.fr hJ10 rfl
          have hps : m_PS μ10 := hps.fr hJ10 rfl rfl rfl
          have hgp : m_GP μ10 := hgp.fr hJ10 rfl rfl
          have hfm : m_FM μ10 sl := hfm.fr hJ10 rfl
          obtain ⟨q10, q10f⟩ := q10
          have hms : m_MS μ10 fT t.toNatClampNeg ((gi + 1) + 1) := hms.next (a := x5) (by exact hx5) q10f
          obtain ⟨x11, hx11⟩ : ∃ z, μ10.1 81 36 = z := ⟨_, rfl⟩
          have bx11 : 0 ≤ x11.toInt ∧ x11.toInt ≤ 400 := by rw [← hx11]; exact hI.1 _ _ _ _ rfl
          rw [show μ10.1 81 36 = x11 from by exact hx11] at q10
          obtain ⟨x12, hx12⟩ : ∃ z, μ10.1 81 37 = z := ⟨_, rfl⟩
          have bx12 : 0 ≤ x12.toInt ∧ x12.toInt ≤ 400 := by rw [← hx12]; exact hI.1 _ _ _ _ rfl
          rw [show μ10.1 81 37 = x12 from by exact hx12] at q10
          obtain ⟨x13, hx13⟩ : ∃ z, μ10.1 81 38 = z := ⟨_, rfl⟩
          have bx13 : 0 ≤ x13.toInt ∧ x13.toInt ≤ 4 := by rw [← hx13]; exact hI.1 _ _ _ _ rfl
          rw [show μ10.1 81 38 = x13 from by exact hx13] at q10
          obtain ⟨x14, hx14⟩ : ∃ z, μ10.1 81 39 = z := ⟨_, rfl⟩
          have bx14 : -1 ≤ x14.toInt ∧ x14.toInt ≤ 99999 := by rw [← hx14]; exact hI.1 _ _ _ _ rfl
          rw [show μ10.1 81 39 = x14 from by exact hx14] at q10
          have hk15 : m_TQ ((t_K fT t.toNatClampNeg) ((gi + 1) + 1)) (m_VV fT t.toNatClampNeg ((gi + 1) + 1)) x13 x14 := by
            have z := hms.2.2
            rw [show μ10.1 81 38 = x13 from by exact hx13, show μ10.1 81 39 = x14 from by exact hx14] at z
            exact z
          refine lv_aload_n hx hb dX12_readAgain_47 rfl (lv_at hl 1 rfl) ?_
          refine lv_bipush (v := 7) hx hb dX12_readAgain_48 (by decide) ?_
          have l_7 : (7 : Int32).toInt = 7 := by decide
          refine m_aI hW (m_runV (As := [.int 7]) (rest := []) hx hb hml hown hts hW (81) (g_X12_isWord_f l D cy b 7 μ10 hI.1) mi_X12_isWord k_X12_307 rfl rfl rfl hl.1 rfl (Nat.le_of_ble_eq_true rfl) dX12_readAgain_50 ⟨Nat.le_of_ble_eq_true rfl, Nat.le_of_ble_eq_true rfl⟩ ⟨Nat.le_of_ble_eq_true rfl, Nat.le_of_ble_eq_true rfl⟩) (fun x16 μ16 H locs q16 hW => ?_)
          obtain ⟨q16_m, q16⟩ := q16
          subst q16_m
          rw [show μ10.1 81 38 = x13 from by exact hx13, show μ10.1 81 39 = x14 from by exact hx14] at q16
          rcases q16 with ⟨rfl, q16⟩ | ⟨rfl, q16⟩
          · refine lv_if_ne (tgt := 62) hx hb dX12_readAgain_53 (by decide) (fun _ => ?_) (fun c => False.elim (by revert c; decide))
            have hs17 : a_k (t_K fT t.toNatClampNeg) (t_L fT t.toNatClampNeg) 17 17 ((gi + 1) + 1) = .inr (((gi + 1) + 1) + 1) := a_k1 (by have hz := hk15.all; omega)
            refine lv_aload_n hx hb dX12_readAgain_62 rfl (lv_at hl 1 rfl) ?_
            have hal18 := hms.at_le
            rw [show μ10.1 81 36 = x11 from by exact hx11] at hal18
            have ckt := m_ckI (x := t) (by omega)
            refine m_aV hW (m_runV (As := []) (rest := []) hx hb hml hown hts hW (81) (g_X12_reads_f l D cy b (fun g => [24].contains g) μ10 rfl x11 t (by omega) fT μ10 (IY.rf hI.1) (by exact hx11) (by exact ((hJ10.2.1 81 35 rfl).trans (by exact ((hJ3.2.1 81 35 rfl).trans (by exact htp))))) hfT hRW) mi_X12_reads k_X12_279 rfl rfl rfl hl.1 rfl (Nat.le_of_ble_eq_true rfl) dX12_readAgain_63 ⟨Nat.le_of_ble_eq_true rfl, Nat.le_of_ble_eq_true rfl⟩ ⟨Nat.le_of_ble_eq_true rfl, Nat.le_of_ble_eq_true rfl⟩) (fun μ19 H locs q19 hW => ?_)
            obtain ⟨hJ19, q19⟩ := q19
            have hI := hI.tr hJ19 (m_subL (by simp [hS24]))
            have hfT : μ19.1 106 = fT := by rw [show μ19.1 106 = μ10.1 106 from funext fun j => hJ19.2.1 106 j rfl]; exact hfT
            have hRW : m_RW μ19 := hRW.fr hJ19 rfl
            have hps : m_PS μ19 := hps.fr hJ19 rfl rfl rfl
            have hgp : m_GP μ19 := hgp.fr hJ19 rfl rfl
            have hfm : m_FM μ19 sl := hfm.fr hJ19 rfl
            obtain ⟨q19, q19f⟩ := q19
            have hms : m_MS μ19 fT t.toNatClampNeg (((gi + 1) + 1) + 1) := hms.next (a := x11) (by exact hx11) q19f
            obtain ⟨x20, hx20⟩ : ∃ z, μ19.1 81 36 = z := ⟨_, rfl⟩
            have bx20 : 0 ≤ x20.toInt ∧ x20.toInt ≤ 400 := by rw [← hx20]; exact hI.1 _ _ _ _ rfl
            rw [show μ19.1 81 36 = x20 from by exact hx20] at q19
            obtain ⟨x21, hx21⟩ : ∃ z, μ19.1 81 37 = z := ⟨_, rfl⟩
            have bx21 : 0 ≤ x21.toInt ∧ x21.toInt ≤ 400 := by rw [← hx21]; exact hI.1 _ _ _ _ rfl
            rw [show μ19.1 81 37 = x21 from by exact hx21] at q19
            obtain ⟨x22, hx22⟩ : ∃ z, μ19.1 81 38 = z := ⟨_, rfl⟩
            have bx22 : 0 ≤ x22.toInt ∧ x22.toInt ≤ 4 := by rw [← hx22]; exact hI.1 _ _ _ _ rfl
            rw [show μ19.1 81 38 = x22 from by exact hx22] at q19
            obtain ⟨x23, hx23⟩ : ∃ z, μ19.1 81 39 = z := ⟨_, rfl⟩
            have bx23 : -1 ≤ x23.toInt ∧ x23.toInt ≤ 99999 := by rw [← hx23]; exact hI.1 _ _ _ _ rfl
            rw [show μ19.1 81 39 = x23 from by exact hx23] at q19
            have hk24 : m_TQ ((t_K fT t.toNatClampNeg) (((gi + 1) + 1) + 1)) (m_VV fT t.toNatClampNeg (((gi + 1) + 1) + 1)) x22 x23 := by
              have z := hms.2.2
              rw [show μ19.1 81 38 = x22 from by exact hx22, show μ19.1 81 39 = x23 from by exact hx23] at z
              exact z
            refine lv_aload_n hx hb dX12_readAgain_66 rfl (lv_at hl 1 rfl) ?_
            refine m_getr hx hb hts hown hW (81) 52 (118) rfl rfl cw_12 rfl (by decide) k_X12_131 dX12_readAgain_67 ?_
            refine lv_aload_n hx hb dX12_readAgain_70 rfl (lv_at hl 1 rfl) ?_
            refine m_geti hx hb hts hown hW (81) 53 rfl rfl cw_12 rfl (by decide) k_X12_294 dX12_readAgain_71 ?_
            refine lv_topi (fun x25 ex25 => ?_)
            have ex25 : x25 = nv := by rw [ex25]; exact ((hJ19.2.1 81 53 rfl).trans (by exact ((hJ10.2.1 81 53 rfl).trans (by exact ((hJ3.2.1 81 53 rfl).trans (by exact h_nv))))))
            have ex25 := ex25.symm
            subst ex25
            refine lv_aload_n hx hb dX12_readAgain_74 rfl (lv_at hl 1 rfl) ?_
            refine m_getr hx hb hts hown hW (81) 44 (111) rfl rfl cw_12 rfl (by decide) k_X12_110 dX12_readAgain_75 ?_
            refine lv_bipush (v := 8) hx hb dX12_readAgain_78 (by decide) ?_
            refine m_iald hx hb hW (111) rfl (vp_in_iff.mpr ⟨by decide, by decide⟩) dX12_readAgain_80 ?_
            refine lv_topi (fun x26 ex26 => ?_)
            have ex26 : x26 = ov := by rw [ex26]; exact ((hJ19.2.1 111 8 rfl).trans (by exact ((hJ10.2.1 111 8 rfl).trans (by exact ((hJ3.2.1 111 8 rfl).trans (by exact h_ov))))))
            have ex26 := ex26.symm
            subst ex26
            refine m_iast hx hb hW (118) rfl (m_ixI (rfl : nv.toInt = _) (by omega) (by omega)) dX12_readAgain_81 (fun H locs hW _ => ?_)
            generalize hμ27 : m_si μ19 (118) (nv : Int32).toNatClampNeg ov = μ27 at hW
            have hfT : μ27.1 106 = fT := by rw [← hμ27, m_si_row (by decide)]; exact hfT
            have hRW : m_RW μ27 := fun i hi => by rw [← hμ27, m_si_ne (by decide)]; exact hRW i hi
            have hgp : m_GP μ27 := hgp.si hμ27 (by decide) (by decide) (by decide)
            have hms : m_MS μ27 fT t.toNatClampNeg (((gi + 1) + 1) + 1) := hms.si hμ27 (fun q => absurd q (by decide))
            have hI := hI.si1 hμ27 rfl (by omega) hS35
            refine lv_aload_n hx hb dX12_readAgain_82 rfl (lv_at hl 1 rfl) ?_
            refine lv_aload_n hx hb dX12_readAgain_83 rfl (lv_at hl 1 rfl) ?_
            refine m_geti hx hb hts hown hW (81) 53 rfl rfl cw_12 rfl (by decide) k_X12_294 dX12_readAgain_84 ?_
            refine lv_topi (fun x28 ex28 => ?_)
            have ex28 : x28 = nv := by rw [ex28, ← hμ27]; exact ((hJ19.2.1 81 53 rfl).trans (by exact ((hJ10.2.1 81 53 rfl).trans (by exact ((hJ3.2.1 81 53 rfl).trans (by exact h_nv))))))
            have ex28 := ex28.symm
            subst ex28
            refine lv_iconst (v := 1) hx hb dX12_readAgain_87 (by decide) ?_
            refine lv_iadd hx hb dX12_readAgain_88 ?_
            refine lv_topi (fun x29 ex29 => ?_)
            have tx29 : x29.toInt = nv.toInt + 1 := m_addI ex29 (rfl : nv.toInt = _) (by decide : (1 : Int32).toInt = 1) (by omega) (by omega)
            refine m_puti hx hb hts hown hW (81) 53 rfl rfl cw_12 tyX12_ok nmX12 rfl (by decide) k_X12_294 rfl rfl rfl dX12_readAgain_89 (fun H locs hW _ => ?_)
            generalize hμ30 : m_si μ27 (81) 53 x29 = μ30 at hW
            have hfT : μ30.1 106 = fT := by rw [← hμ30, m_si_row (by decide)]; exact hfT
            have hRW : m_RW μ30 := fun i hi => by rw [← hμ30, m_si_ne (by decide)]; exact hRW i hi
            have hgp : m_GP μ30 := hgp.si hμ30 (by decide) (by decide) (by decide)
            have hfm : m_FM μ30 (true :: sl) := hfm.push (nv := nv) (x := ov) (y := x29) (b := true) (by exact ((hJ19.2.1 81 53 rfl).trans (by exact ((hJ10.2.1 81 53 rfl).trans (by exact ((hJ3.2.1 81 53 rfl).trans (by exact h_nv))))))) (by omega) hμ27 hμ30 (by omega) ⟨fun _ => (by omega), fun _ => rfl⟩
            have hms : m_MS μ30 fT t.toNatClampNeg (((gi + 1) + 1) + 1) := hms.si hμ30 (fun _ => by decide)
            have hI := hI.si1 hμ30 rfl (by omega) hS35
            refine lv_aload_n hx hb dX12_readAgain_92 rfl (lv_at hl 1 rfl) ?_
            refine lv_bipush (v := 6) hx hb dX12_readAgain_93 (by decide) ?_
            refine lv_iload_n hx hb dX12_readAgain_95 rfl (lv_at hl 0 rfl) ?_
            refine lv_iconst (v := 0) hx hb dX12_readAgain_96 (by decide) ?_
            have l_6 : (6 : Int32).toInt = 6 := by decide
            have l_0 : (0 : Int32).toInt = 0 := by decide
            refine m_aV hW (m_runV (As := [.int 6, .int x3, .int 0]) (rest := []) hx hb hml hown hts hW (81) (g_X12_emits l D cy b (fun g => [25, 33, 41].contains g) μ30 rfl rfl rfl ov (by omega) 6 x3 0 (by omega) μ30 (IY.rf hI.1) (by rw [← hμ30, ← hμ27]; exact ((hJ19.2.1 111 8 rfl).trans (by exact ((hJ10.2.1 111 8 rfl).trans (by exact ((hJ3.2.1 111 8 rfl).trans (by exact h_ov)))))))) mi_X12_emits k_X12_301 rfl rfl rfl hl.1 rfl (Nat.le_of_ble_eq_true rfl) dX12_readAgain_97 ⟨Nat.le_of_ble_eq_true rfl, Nat.le_of_ble_eq_true rfl⟩ ⟨Nat.le_of_ble_eq_true rfl, Nat.le_of_ble_eq_true rfl⟩) (fun μ31 H locs q31 hW => ?_)
            obtain ⟨hJ31, q31⟩ := q31
            have hI := hI.tr hJ31 (m_subL (by simp [hS25, hS33, hS41]))
            have hfT : μ31.1 106 = fT := by rw [show μ31.1 106 = μ30.1 106 from funext fun j => hJ31.2.1 106 j rfl]; exact hfT
            have hRW : m_RW μ31 := hRW.fr hJ31 rfl
            have hfm : m_FM μ31 (true :: sl) := hfm.fr hJ31 rfl
            have hms : m_MS μ31 fT t.toNatClampNeg (((gi + 1) + 1) + 1) := hms.fr hJ31 rfl
            obtain ⟨q31, q31l⟩ := q31
            obtain ⟨x32, hx32⟩ : ∃ z, μ31.1 111 8 = z := ⟨_, rfl⟩
            have tx32 : x32.toInt = ov.toInt + 1 := by rw [← hx32]; exact q31.2.2.2.2
            have hgp : m_GP μ31 := hgp.lo q31l
            have hps : m_PS μ31 := hps.again (ov := ov) (nv := nv) (y := x29) (by exact ((hJ19.2.1 111 8 rfl).trans (by exact ((hJ10.2.1 111 8 rfl).trans (by exact ((hJ3.2.1 111 8 rfl).trans (by exact h_ov))))))) (by omega) (by exact ((hJ19.2.1 81 53 rfl).trans (by exact ((hJ10.2.1 81 53 rfl).trans (by exact ((hJ3.2.1 81 53 rfl).trans (by exact h_nv))))))) (by omega) (by rw [hμ27]; exact hμ30) (by omega) (by omega) q31 (funext fun j => hJ31.2.1 118 j rfl) (hJ31.2.1 81 53 rfl)
            refine lv_iconst (v := 0) hx hb dX12_readAgain_100 (by decide) ?_
            exact m_iret hx hb hr hlocks hW rfl (⟨hI, ⟨hgp, Or.inr ⟨rfl, by rw [show μ31.1 81 51 = uv from by exact ((hJ31.2.1 81 51 rfl).trans (by rw [← hμ30, ← hμ27]; exact ((hJ19.2.1 81 51 rfl).trans (by exact ((hJ10.2.1 81 51 rfl).trans (by exact ((hJ3.2.1 81 51 rfl).trans (by exact h_uv)))))))), show μ31.1 81 37 = x21 from by exact ((hJ31.2.1 81 37 rfl).trans (by rw [← hμ30, ← hμ27]; exact hx21)), show μ31.1 81 36 = x20 from by exact ((hJ31.2.1 81 36 rfl).trans (by rw [← hμ30, ← hμ27]; exact hx20)), show μ31.1 81 38 = x22 from by exact ((hJ31.2.1 81 38 rfl).trans (by rw [← hμ30, ← hμ27]; exact hx22)), show μ31.1 111 8 = x32 from by exact hx32]; omega, hps, _, (by rw [if_neg (by omega)]; simp only [a_again, a_b, hs8, hs17]), hms, hfm⟩⟩⟩) dX12_readAgain_101
          · refine lv_if_ne (tgt := 62) hx hb dX12_readAgain_53 (by decide) (fun c => False.elim (by revert c; decide)) (fun _ => ?_)
            have hs33 : a_k (t_K fT t.toNatClampNeg) (t_L fT t.toNatClampNeg) 17 17 ((gi + 1) + 1) = .inl (1, (t_L fT t.toNatClampNeg) ((gi + 1) + 1)) := a_k0 (by have hz := hk15.all; omega)
            refine lv_aload_n hx hb dX12_readAgain_56 rfl (lv_at hl 1 rfl) ?_
            refine lv_iconst (v := 1) hx hb dX12_readAgain_57 (by decide) ?_
            refine m_aI hW (m_runV (As := [.int 1]) (rest := []) hx hb hml hown hts hW (81) (g_X12_fails_f l D cy b (fun g => [36].contains g) μ10 rfl 1 μ10 (IY.rf hI.1)) mi_X12_fails k_X12_282 rfl rfl rfl hl.1 rfl (Nat.le_of_ble_eq_true rfl) dX12_readAgain_58 ⟨Nat.le_of_ble_eq_true rfl, Nat.le_of_ble_eq_true rfl⟩ ⟨Nat.le_of_ble_eq_true rfl, Nat.le_of_ble_eq_true rfl⟩) (fun x34 μ34 H locs q34 hW => ?_)
            obtain ⟨hJ34, q34⟩ := q34
            have hI := hI.tr hJ34 (m_subL (by simp [hS36]))
            have hfT : μ34.1 106 = fT := by rw [show μ34.1 106 = μ10.1 106 from funext fun j => hJ34.2.1 106 j rfl]; exact hfT
            have hRW : m_RW μ34 := hRW.fr hJ34 rfl
            have hps : m_PS μ34 := hps.fr hJ34 rfl rfl rfl
            have hgp : m_GP μ34 := hgp.fr hJ34 rfl rfl
            have hfm : m_FM μ34 sl := hfm.fr hJ34 rfl
            have hms : m_MS μ34 fT t.toNatClampNeg ((gi + 1) + 1) := hms.fr hJ34 rfl
            obtain ⟨rfl, q341, q342⟩ := q34
            have hft : m_FT μ34 (1, (t_L fT t.toNatClampNeg) ((gi + 1) + 1)) := ⟨by rw [q341]; rfl, by rw [q342]; exact hms.2.1⟩
            exact m_iret hx hb hr hlocks hW rfl (⟨hI, ⟨hgp, Or.inl ⟨rfl, (1, (t_L fT t.toNatClampNeg) ((gi + 1) + 1)), (by rw [if_neg (by omega)]; simp only [a_again, a_b, hs8, hs33]), hft⟩⟩⟩) dX12_readAgain_61
        · refine lv_if_ne (tgt := 43) hx hb dX12_readAgain_34 (by decide) (fun c => False.elim (by revert c; decide)) (fun _ => ?_)
          have hs35 : a_N (t_K fT t.toNatClampNeg) (t_L fT t.toNatClampNeg) (t_V fT t.toNatClampNeg) 1 99 (gi + 1) = .inl (2, (t_L fT t.toNatClampNeg) (gi + 1)) := a_N2 q3k (by omega)
          refine lv_aload_n hx hb dX12_readAgain_37 rfl (lv_at hl 1 rfl) ?_
          refine lv_iconst (v := 2) hx hb dX12_readAgain_38 (by decide) ?_
          have l_2 : (2 : Int32).toInt = 2 := by decide
          refine m_aI hW (m_runV (As := [.int 2]) (rest := []) hx hb hml hown hts hW (81) (g_X12_fails_f l D cy b (fun g => [36].contains g) μ3 rfl 2 μ3 (IY.rf hI.1)) mi_X12_fails k_X12_282 rfl rfl rfl hl.1 rfl (Nat.le_of_ble_eq_true rfl) dX12_readAgain_39 ⟨Nat.le_of_ble_eq_true rfl, Nat.le_of_ble_eq_true rfl⟩ ⟨Nat.le_of_ble_eq_true rfl, Nat.le_of_ble_eq_true rfl⟩) (fun x36 μ36 H locs q36 hW => ?_)
          obtain ⟨hJ36, q36⟩ := q36
          have hI := hI.tr hJ36 (m_subL (by simp [hS36]))
          have hfT : μ36.1 106 = fT := by rw [show μ36.1 106 = μ3.1 106 from funext fun j => hJ36.2.1 106 j rfl]; exact hfT
          have hRW : m_RW μ36 := hRW.fr hJ36 rfl
          have hps : m_PS μ36 := hps.fr hJ36 rfl rfl rfl
          have hgp : m_GP μ36 := hgp.fr hJ36 rfl rfl
          have hfm : m_FM μ36 sl := hfm.fr hJ36 rfl
          have hms : m_MS μ36 fT t.toNatClampNeg (gi + 1) := hms.fr hJ36 rfl
          obtain ⟨rfl, q361, q362⟩ := q36
          have hft : m_FT μ36 (2, (t_L fT t.toNatClampNeg) (gi + 1)) := ⟨by rw [q361]; rfl, by rw [q362]; exact hms.2.1⟩
          exact m_iret hx hb hr hlocks hW rfl (⟨hI, ⟨hgp, Or.inl ⟨rfl, (2, (t_L fT t.toNatClampNeg) (gi + 1)), (by rw [if_neg (by omega)]; simp only [a_again, a_b, hs35]), hft⟩⟩⟩) dX12_readAgain_42
      · have i6 := m_c5 (rfl : x3.toInt = _) (by decide : ((-1) : Int32).toInt = (-1)) c6
        exfalso; omega
  · have i2 := m_c5 (rfl : nv.toInt = _) (by decide : (4 : Int32).toInt = 4) c2
    refine lv_aload_n hx hb dX12_readAgain_8 rfl (lv_at hl 0 rfl) ?_
    refine lv_iconst (v := 3) hx hb dX12_readAgain_9 (by decide) ?_
    have l_3 : (3 : Int32).toInt = 3 := by decide
    refine m_aI hW (m_runV (As := [.int 3]) (rest := []) hx hb hml hown hts hW (81) (g_X12_fails_f l D cy b (fun g => [36].contains g) μ rfl 3 μ (IY.rf hI.1)) mi_X12_fails k_X12_282 rfl rfl rfl hl.1 rfl (Nat.le_of_ble_eq_true rfl) dX12_readAgain_10 ⟨Nat.le_of_ble_eq_true rfl, Nat.le_of_ble_eq_true rfl⟩ ⟨Nat.le_of_ble_eq_true rfl, Nat.le_of_ble_eq_true rfl⟩) (fun x37 μ37 H locs q37 hW => ?_)
    obtain ⟨hJ37, q37⟩ := q37
    have hI := hI.tr hJ37 (m_subL (by simp [hS36]))
    have hfT : μ37.1 106 = fT := by rw [show μ37.1 106 = μ.1 106 from funext fun j => hJ37.2.1 106 j rfl]; exact hfT
    have hRW : m_RW μ37 := hRW.fr hJ37 rfl
    have hms : m_MS μ37 fT t.toNatClampNeg gi := hms.fr hJ37 rfl
    have hps : m_PS μ37 := hps.fr hJ37 rfl rfl rfl
    have hgp : m_GP μ37 := hgp.fr hJ37 rfl rfl
    have hfm : m_FM μ37 sl := hfm.fr hJ37 rfl
    obtain ⟨rfl, q371, q372⟩ := q37
    have hft : m_FT μ37 (3, (t_L fT t.toNatClampNeg) gi) := ⟨by rw [q371]; rfl, by rw [q372]; exact hms.2.1⟩
    exact m_iret hx hb hr hlocks hW rfl (⟨hI, ⟨hgp, Or.inl ⟨rfl, (3, (t_L fT t.toNatClampNeg) gi), (by rw [if_pos (by omega)]), hft⟩⟩⟩) dX12_readAgain_13
set_option maxHeartbeats 4000000 in
set_option maxRecDepth 100000 in
theorem g_X12_readPlain_g (l : Launch) (D : va_G) (cy : Nat → ClassId) (b : Nat) (S : Nat → Bool) (μ0 : mM) (hS24 : S 24 = true) (hS25 : S 25 = true) (hS33 : S 33 = true) (hS34 : S 34 = true) (hS35 : S 35 = true) (hS36 : S 36 = true) (hS41 : S 41 = true) (av fv tk vv uv ov nv : Int32) (h_g : 0 ≤ av.toInt ∧ av.toInt ≤ 400 ∧ 0 ≤ fv.toInt ∧ fv.toInt ≤ 400 ∧ 0 ≤ tk.toInt ∧ tk.toInt ≤ 4 ∧ -1 ≤ vv.toInt ∧ vv.toInt ≤ 99999 ∧ 0 ≤ uv.toInt ∧ uv.toInt ≤ 400 ∧ 0 ≤ ov.toInt ∧ ov.toInt ≤ 400 ∧ 0 ≤ nv.toInt ∧ nv.toInt ≤ 4 ∧ uv.toInt ≤ fv.toInt ∧ fv.toInt ≤ av.toInt ∧ (tk.toInt = 0 ∨ fv.toInt + 1 ≤ av.toInt) ∧ ov.toInt ≤ fv.toInt ∧ tk.toInt = 2 ∧ vv.toInt ≤ 5) (t : Int32) (h_tt : 0 ≤ t.toInt ∧ t.toInt ≤ 400) (fT : Nat → Int32) (gi : Nat) (sl : List Bool) (μ : mM) (hI : IY S μ0 μ) (h_av : μ.1 81 36 = av) (h_fv : μ.1 81 37 = fv) (h_tk : μ.1 81 38 = tk) (h_vv : μ.1 81 39 = vv) (h_uv : μ.1 81 51 = uv) (h_ov : μ.1 111 8 = ov) (h_nv : μ.1 81 53 = nv) (htp : μ.1 81 35 = t) (hfT : μ.1 106 = fT) (hRW : m_RW μ) (hms : m_MS μ fT t.toNatClampNeg gi) (hps : m_PS μ) (hgp : m_GP μ) (hfm : m_FM μ sl) : m_Ci l yX12_readPlain cX12_readPlain 4 ((some .int)) 4 D cy b LAY μ [.ref (b + 81)] (fun r ν => IY S μ0 ν ∧ (m_GP ν ∧ ((r = -1 ∧ ∃ e, a_plain (t_K fT t.toNatClampNeg) (t_L fT t.toNatClampNeg) (t_V fT t.toNatClampNeg) gi = .inl e ∧ m_FT ν e) ∨ (r = 0 ∧ ((ν.1 81 51).toInt ≤ (ν.1 81 37).toInt ∧ fv.toInt + 1 ≤ (ν.1 81 37).toInt ∧ (ν.1 81 37).toInt ≤ (ν.1 81 36).toInt ∧ ((ν.1 81 38).toInt = 0 ∨ (ν.1 81 37).toInt + 1 ≤ (ν.1 81 36).toInt) ∧ (ν.1 111 8).toInt ≤ (ν.1 81 37).toInt) ∧ m_PS ν ∧ ∃ j, a_plain (t_K fT t.toNatClampNeg) (t_L fT t.toNatClampNeg) (t_V fT t.toNatClampNeg) gi = .inr j ∧ m_MS ν fT t.toNatClampNeg j ∧ m_FM ν sl)))) := by
  unfold m_Ci
  refine m_of (by decide) (Nat.le_of_ble_eq_true rfl) ?_
  intro p e s m below meth c hx hb hr hml hown hts hlocks _ hW ls hl
  have hown : s.vm.findClass RX12 = some m.cls := hown
  have hl : lv_has ls 4 [(0, .ref (b + 81))] := hl
  have hkk : m_TQ ((t_K fT t.toNatClampNeg) gi) (m_VV fT t.toNatClampNeg gi) tk vv := by have z := hms.2.2; rw [h_tk, h_vv] at z; exact z
  have hlen := hfm.len h_nv (by omega)
  refine lv_aload_n hx hb dX12_readPlain_0 rfl (lv_at hl 0 rfl) ?_
  refine m_geti hx hb hts hown hW (81) 39 rfl rfl cw_12 rfl (by decide) k_X12_257 dX12_readPlain_1 ?_
  refine lv_topi (fun x1 ex1 => ?_)
  have ex1 : x1 = vv := by rw [ex1]; exact h_vv
  have ex1 := ex1.symm
  subst ex1
  refine lv_istore_n (lv' := [(1, .int vv), (0, .ref (b + 81))]) hx hb dX12_readPlain_4 rfl hl (by decide) rfl (fun ls hl => ?_)
  refine lv_iload_n hx hb dX12_readPlain_5 rfl (lv_at hl 0 rfl) ?_
  refine lv_if_eq (tgt := 14) hx hb dX12_readPlain_6 (by decide) (fun c2 => ?_) (fun c2 => ?_)
  · have i2 := m_c5 (rfl : vv.toInt = _) (by decide : (0 : Int32).toInt = 0) c2
    refine lv_aload_n hx hb dX12_readPlain_14 rfl (lv_at hl 1 rfl) ?_
    refine lv_iload_n hx hb dX12_readPlain_15 rfl (lv_at hl 0 rfl) ?_
    refine lv_iconst (v := 0) hx hb dX12_readPlain_16 (by decide) ?_
    refine lv_iconst (v := 0) hx hb dX12_readPlain_17 (by decide) ?_
    have l_0 : (0 : Int32).toInt = 0 := by decide
    refine m_aV hW (m_runV (As := [.int vv, .int 0, .int 0]) (rest := []) hx hb hml hown hts hW (81) (g_X12_emits l D cy b (fun g => [25, 33, 41].contains g) μ rfl rfl rfl ov (by omega) vv 0 0 (by omega) μ (IY.rf hI.1) (by exact h_ov)) mi_X12_emits k_X12_301 rfl rfl rfl hl.1 rfl (Nat.le_of_ble_eq_true rfl) dX12_readPlain_18 ⟨Nat.le_of_ble_eq_true rfl, Nat.le_of_ble_eq_true rfl⟩ ⟨Nat.le_of_ble_eq_true rfl, Nat.le_of_ble_eq_true rfl⟩) (fun μ3 H locs q3 hW => ?_)
    obtain ⟨hJ3, q3⟩ := q3
    have hI := hI.tr hJ3 (m_subL (by simp [hS25, hS33, hS41]))
    have hfT : μ3.1 106 = fT := by rw [show μ3.1 106 = μ.1 106 from funext fun j => hJ3.2.1 106 j rfl]; exact hfT
    have hRW : m_RW μ3 := hRW.fr hJ3 rfl
    have hms : m_MS μ3 fT t.toNatClampNeg gi := hms.fr hJ3 rfl
    have hfm : m_FM μ3 sl := hfm.fr hJ3 rfl
    obtain ⟨q3, q3l⟩ := q3
    obtain ⟨x4, hx4⟩ : ∃ z, μ3.1 111 8 = z := ⟨_, rfl⟩
    have tx4 : x4.toInt = ov.toInt + 1 := by rw [← hx4]; exact q3.2.2.2.2
    have hgp : m_GP μ3 := hgp.lo q3l
    have hps : m_PS μ3 := hps.plain (by exact h_ov) (by omega) q3 (funext fun j => hJ3.2.1 118 j rfl) (hJ3.2.1 81 53 rfl) (m_neI (by show vv.toInt ≠ (6 : Int); omega)) (m_neI (by show vv.toInt ≠ (7 : Int); omega)) (m_neI (by show vv.toInt ≠ (8 : Int); omega))
    refine lv_goto (tgt := 174) hx hb dX12_readPlain_21 (by decide) ?_
    refine lv_aload_n hx hb dX12_readPlain_174 rfl (lv_at hl 1 rfl) ?_
    have hal5 := hms.at_le
    rw [show μ3.1 81 36 = av from by exact ((hJ3.2.1 81 36 rfl).trans (by exact h_av))] at hal5
    have ckt := m_ckI (x := t) (by omega)
    refine m_aV hW (m_runV (As := []) (rest := []) hx hb hml hown hts hW (81) (g_X12_reads_f l D cy b (fun g => [24].contains g) μ3 rfl av t (by omega) fT μ3 (IY.rf hI.1) (by exact ((hJ3.2.1 81 36 rfl).trans (by exact h_av))) (by exact ((hJ3.2.1 81 35 rfl).trans (by exact htp))) hfT hRW) mi_X12_reads k_X12_279 rfl rfl rfl hl.1 rfl (Nat.le_of_ble_eq_true rfl) dX12_readPlain_175 ⟨Nat.le_of_ble_eq_true rfl, Nat.le_of_ble_eq_true rfl⟩ ⟨Nat.le_of_ble_eq_true rfl, Nat.le_of_ble_eq_true rfl⟩) (fun μ6 H locs q6 hW => ?_)
    obtain ⟨hJ6, q6⟩ := q6
    have hI := hI.tr hJ6 (m_subL (by simp [hS24]))
    have hfT : μ6.1 106 = fT := by rw [show μ6.1 106 = μ3.1 106 from funext fun j => hJ6.2.1 106 j rfl]; exact hfT
    have hRW : m_RW μ6 := hRW.fr hJ6 rfl
    have hfm : m_FM μ6 sl := hfm.fr hJ6 rfl
    have hps : m_PS μ6 := hps.fr hJ6 rfl rfl rfl
    have hgp : m_GP μ6 := hgp.fr hJ6 rfl rfl
    obtain ⟨q6, q6f⟩ := q6
    have hms : m_MS μ6 fT t.toNatClampNeg (gi + 1) := hms.next (a := av) (by exact ((hJ3.2.1 81 36 rfl).trans (by exact h_av))) q6f
    obtain ⟨x7, hx7⟩ : ∃ z, μ6.1 81 36 = z := ⟨_, rfl⟩
    have bx7 : 0 ≤ x7.toInt ∧ x7.toInt ≤ 400 := by rw [← hx7]; exact hI.1 _ _ _ _ rfl
    rw [show μ6.1 81 36 = x7 from by exact hx7] at q6
    obtain ⟨x8, hx8⟩ : ∃ z, μ6.1 81 37 = z := ⟨_, rfl⟩
    have bx8 : 0 ≤ x8.toInt ∧ x8.toInt ≤ 400 := by rw [← hx8]; exact hI.1 _ _ _ _ rfl
    rw [show μ6.1 81 37 = x8 from by exact hx8] at q6
    obtain ⟨x9, hx9⟩ : ∃ z, μ6.1 81 38 = z := ⟨_, rfl⟩
    have bx9 : 0 ≤ x9.toInt ∧ x9.toInt ≤ 4 := by rw [← hx9]; exact hI.1 _ _ _ _ rfl
    rw [show μ6.1 81 38 = x9 from by exact hx9] at q6
    obtain ⟨x10, hx10⟩ : ∃ z, μ6.1 81 39 = z := ⟨_, rfl⟩
    have bx10 : -1 ≤ x10.toInt ∧ x10.toInt ≤ 99999 := by rw [← hx10]; exact hI.1 _ _ _ _ rfl
    rw [show μ6.1 81 39 = x10 from by exact hx10] at q6
    have hk11 : m_TQ ((t_K fT t.toNatClampNeg) (gi + 1)) (m_VV fT t.toNatClampNeg (gi + 1)) x9 x10 := by
      have z := hms.2.2
      rw [show μ6.1 81 38 = x9 from by exact hx9, show μ6.1 81 39 = x10 from by exact hx10] at z
      exact z
    refine lv_iconst (v := 0) hx hb dX12_readPlain_178 (by decide) ?_
    exact m_iret hx hb hr hlocks hW rfl (⟨hI, ⟨hgp, Or.inr ⟨rfl, by rw [show μ6.1 81 51 = uv from by exact ((hJ6.2.1 81 51 rfl).trans (by exact ((hJ3.2.1 81 51 rfl).trans (by exact h_uv)))), show μ6.1 81 37 = x8 from by exact hx8, show μ6.1 81 36 = x7 from by exact hx7, show μ6.1 81 38 = x9 from by exact hx9, show μ6.1 111 8 = x4 from by exact ((hJ6.2.1 111 8 rfl).trans (by exact hx4))]; omega, hps, _, (by unfold a_plain; rw [if_pos (by have hz := hkk.all; omega)]), hms, hfm⟩⟩⟩) dX12_readPlain_179
  · have i2 := m_c6 (rfl : vv.toInt = _) (by decide : (0 : Int32).toInt = 0) c2
    refine lv_iload_n hx hb dX12_readPlain_9 rfl (lv_at hl 0 rfl) ?_
    refine lv_iconst (v := 1) hx hb dX12_readPlain_10 (by decide) ?_
    refine lv_icmp_ne (tgt := 24) hx hb dX12_readPlain_11 (by decide) (fun c12 => ?_) (fun c12 => ?_)
    · have i12 := m_c6 (rfl : vv.toInt = _) (by decide : (1 : Int32).toInt = 1) c12
      refine lv_iload_n hx hb dX12_readPlain_24 rfl (lv_at hl 0 rfl) ?_
      refine lv_iconst (v := 2) hx hb dX12_readPlain_25 (by decide) ?_
      refine lv_icmp_ne (tgt := 65) hx hb dX12_readPlain_26 (by decide) (fun c13 => ?_) (fun c13 => ?_)
      · have i13 := m_c6 (rfl : vv.toInt = _) (by decide : (2 : Int32).toInt = 2) c13
        refine lv_iload_n hx hb dX12_readPlain_65 rfl (lv_at hl 0 rfl) ?_
        refine lv_iconst (v := 3) hx hb dX12_readPlain_66 (by decide) ?_
        refine lv_icmp_ne (tgt := 133) hx hb dX12_readPlain_67 (by decide) (fun c14 => ?_) (fun c14 => ?_)
        · have i14 := m_c6 (rfl : vv.toInt = _) (by decide : (3 : Int32).toInt = 3) c14
          refine lv_aload_n hx hb dX12_readPlain_133 rfl (lv_at hl 1 rfl) ?_
          refine m_aI hW (m_runV (As := []) (rest := []) hx hb hml hown hts hW (81) (g_X12_readNumber_g l D cy b (fun g => [24, 36].contains g) μ rfl rfl av (by omega) t (by omega) fT gi μ (IY.rf hI.1) (by exact h_av) (by exact htp) hfT hRW hms) mi_X12_readNumber k_X12_304 rfl rfl rfl hl.1 rfl (Nat.le_of_ble_eq_true rfl) dX12_readPlain_134 ⟨Nat.le_of_ble_eq_true rfl, Nat.le_of_ble_eq_true rfl⟩ ⟨Nat.le_of_ble_eq_true rfl, Nat.le_of_ble_eq_true rfl⟩) (fun x15 μ15 H locs q15 hW => ?_)
          obtain ⟨hJ15, q15⟩ := q15
          have hI := hI.tr hJ15 (m_subL (by simp [hS24, hS36]))
          have hfT : μ15.1 106 = fT := by rw [show μ15.1 106 = μ.1 106 from funext fun j => hJ15.2.1 106 j rfl]; exact hfT
          have hRW : m_RW μ15 := hRW.fr hJ15 rfl
          have hps : m_PS μ15 := hps.fr hJ15 rfl rfl rfl
          have hgp : m_GP μ15 := hgp.fr hJ15 rfl rfl
          have hfm : m_FM μ15 sl := hfm.fr hJ15 rfl
          rcases q15 with ⟨rfl, q15k, hft⟩ | ⟨q15, q15k, q15v, hms⟩
          · refine lv_istore_n (lv' := [(2, .int (-1)), (1, .int vv), (0, .ref (b + 81))]) hx hb dX12_readPlain_137 rfl hl (by decide) rfl (fun ls hl => ?_)
            refine lv_iload_n hx hb dX12_readPlain_138 rfl (lv_at hl 0 rfl) ?_
            refine lv_iconst (v := (-1)) hx hb dX12_readPlain_139 (by decide) ?_
            refine lv_icmp_ne (tgt := 145) hx hb dX12_readPlain_140 (by decide) (fun c => False.elim (by revert c; decide)) (fun _ => ?_)
            refine lv_iconst (v := (-1)) hx hb dX12_readPlain_143 (by decide) ?_
            exact m_iret hx hb hr hlocks hW rfl (⟨hI, ⟨hgp, Or.inl ⟨rfl, (1, (t_L fT t.toNatClampNeg) (gi + 1)), (by exact (Classical.em (vv.toInt = 4)).elim (fun h4 => by unfold a_plain; rw [if_neg (by have hz := hkk.all; omega), if_neg (by have hz := hkk.all; omega), if_neg (by have hz := hkk.all; omega), if_pos (by have hz := hkk.all; omega)]; exact a_N0 (V := (t_V fT t.toNatClampNeg)) (lo := 0) (hi := 9999) q15k) (fun h4 => by unfold a_plain; rw [if_neg (by have hz := hkk.all; omega), if_neg (by have hz := hkk.all; omega), if_neg (by have hz := hkk.all; omega), if_neg (by have hz := hkk.all; omega)]; exact a_N0 (V := (t_V fT t.toNatClampNeg)) (lo := 1) (hi := 20) q15k)), hft⟩⟩⟩) dX12_readPlain_144
          · obtain ⟨x16, hx16⟩ : ∃ z, μ15.1 81 37 = z := ⟨_, rfl⟩
            have bx16 : 0 ≤ x16.toInt ∧ x16.toInt ≤ 400 := by rw [← hx16]; exact hI.1 _ _ _ _ rfl
            rw [show μ15.1 81 37 = x16 from by exact hx16] at q15
            obtain ⟨x17, hx17⟩ : ∃ z, μ15.1 81 36 = z := ⟨_, rfl⟩
            have bx17 : 0 ≤ x17.toInt ∧ x17.toInt ≤ 400 := by rw [← hx17]; exact hI.1 _ _ _ _ rfl
            rw [show μ15.1 81 36 = x17 from by exact hx17] at q15
            refine lv_istore_n (lv' := [(2, .int x15), (1, .int vv), (0, .ref (b + 81))]) hx hb dX12_readPlain_137 rfl hl (by decide) rfl (fun ls hl => ?_)
            refine lv_iload_n hx hb dX12_readPlain_138 rfl (lv_at hl 0 rfl) ?_
            refine lv_iconst (v := (-1)) hx hb dX12_readPlain_139 (by decide) ?_
            refine lv_icmp_ne (tgt := 145) hx hb dX12_readPlain_140 (by decide) (fun c18 => ?_) (fun c18 => ?_)
            · have i18 := m_c6 (rfl : x15.toInt = _) (by decide : ((-1) : Int32).toInt = (-1)) c18
              refine lv_iload_n hx hb dX12_readPlain_145 rfl (lv_at hl 1 rfl) ?_
              refine lv_iconst (v := 5) hx hb dX12_readPlain_146 (by decide) ?_
              refine lv_icmp_ne (tgt := 167) hx hb dX12_readPlain_147 (by decide) (fun c19 => ?_) (fun c19 => ?_)
              · have i19 := m_c6 (rfl : vv.toInt = _) (by decide : (5 : Int32).toInt = 5) c19
                refine lv_aload_n hx hb dX12_readPlain_167 rfl (lv_at hl 2 rfl) ?_
                refine lv_iload_n hx hb dX12_readPlain_168 rfl (lv_at hl 1 rfl) ?_
                refine lv_iload_n hx hb dX12_readPlain_169 rfl (lv_at hl 0 rfl) ?_
                refine lv_iconst (v := 0) hx hb dX12_readPlain_170 (by decide) ?_
                have l_0 : (0 : Int32).toInt = 0 := by decide
                refine m_aV hW (m_runV (As := [.int vv, .int x15, .int 0]) (rest := []) hx hb hml hown hts hW (81) (g_X12_emits l D cy b (fun g => [25, 33, 41].contains g) μ15 rfl rfl rfl ov (by omega) vv x15 0 (by omega) μ15 (IY.rf hI.1) (by exact ((hJ15.2.1 111 8 rfl).trans (by exact h_ov)))) mi_X12_emits k_X12_301 rfl rfl rfl hl.1 rfl (Nat.le_of_ble_eq_true rfl) dX12_readPlain_171 ⟨Nat.le_of_ble_eq_true rfl, Nat.le_of_ble_eq_true rfl⟩ ⟨Nat.le_of_ble_eq_true rfl, Nat.le_of_ble_eq_true rfl⟩) (fun μ20 H locs q20 hW => ?_)
                obtain ⟨hJ20, q20⟩ := q20
                have hI := hI.tr hJ20 (m_subL (by simp [hS25, hS33, hS41]))
                have hfT : μ20.1 106 = fT := by rw [show μ20.1 106 = μ15.1 106 from funext fun j => hJ20.2.1 106 j rfl]; exact hfT
                have hRW : m_RW μ20 := hRW.fr hJ20 rfl
                have hfm : m_FM μ20 sl := hfm.fr hJ20 rfl
                have hms : m_MS μ20 fT t.toNatClampNeg (gi + 1) := hms.fr hJ20 rfl
                obtain ⟨q20, q20l⟩ := q20
                obtain ⟨x21, hx21⟩ : ∃ z, μ20.1 111 8 = z := ⟨_, rfl⟩
                have tx21 : x21.toInt = ov.toInt + 1 := by rw [← hx21]; exact q20.2.2.2.2
                have hgp : m_GP μ20 := hgp.lo q20l
                have hps : m_PS μ20 := hps.plain (by exact ((hJ15.2.1 111 8 rfl).trans (by exact h_ov))) (by omega) q20 (funext fun j => hJ20.2.1 118 j rfl) (hJ20.2.1 81 53 rfl) (m_neI (by show vv.toInt ≠ (6 : Int); omega)) (m_neI (by show vv.toInt ≠ (7 : Int); omega)) (m_neI (by show vv.toInt ≠ (8 : Int); omega))
                refine lv_aload_n hx hb dX12_readPlain_174 rfl (lv_at hl 2 rfl) ?_
                have hal22 := hms.at_le
                rw [show μ20.1 81 36 = x17 from by exact ((hJ20.2.1 81 36 rfl).trans (by exact hx17))] at hal22
                have ckt := m_ckI (x := t) (by omega)
                refine m_aV hW (m_runV (As := []) (rest := []) hx hb hml hown hts hW (81) (g_X12_reads_f l D cy b (fun g => [24].contains g) μ20 rfl x17 t (by omega) fT μ20 (IY.rf hI.1) (by exact ((hJ20.2.1 81 36 rfl).trans (by exact hx17))) (by exact ((hJ20.2.1 81 35 rfl).trans (by exact ((hJ15.2.1 81 35 rfl).trans (by exact htp))))) hfT hRW) mi_X12_reads k_X12_279 rfl rfl rfl hl.1 rfl (Nat.le_of_ble_eq_true rfl) dX12_readPlain_175 ⟨Nat.le_of_ble_eq_true rfl, Nat.le_of_ble_eq_true rfl⟩ ⟨Nat.le_of_ble_eq_true rfl, Nat.le_of_ble_eq_true rfl⟩) (fun μ23 H locs q23 hW => ?_)
                obtain ⟨hJ23, q23⟩ := q23
                have hI := hI.tr hJ23 (m_subL (by simp [hS24]))
                have hfT : μ23.1 106 = fT := by rw [show μ23.1 106 = μ20.1 106 from funext fun j => hJ23.2.1 106 j rfl]; exact hfT
                have hRW : m_RW μ23 := hRW.fr hJ23 rfl
                have hfm : m_FM μ23 sl := hfm.fr hJ23 rfl
                have hps : m_PS μ23 := hps.fr hJ23 rfl rfl rfl
                have hgp : m_GP μ23 := hgp.fr hJ23 rfl rfl
                obtain ⟨q23, q23f⟩ := q23
                have hms : m_MS μ23 fT t.toNatClampNeg ((gi + 1) + 1) := hms.next (a := x17) (by exact ((hJ20.2.1 81 36 rfl).trans (by exact hx17))) q23f
                obtain ⟨x24, hx24⟩ : ∃ z, μ23.1 81 36 = z := ⟨_, rfl⟩
                have bx24 : 0 ≤ x24.toInt ∧ x24.toInt ≤ 400 := by rw [← hx24]; exact hI.1 _ _ _ _ rfl
                rw [show μ23.1 81 36 = x24 from by exact hx24] at q23
                obtain ⟨x25, hx25⟩ : ∃ z, μ23.1 81 37 = z := ⟨_, rfl⟩
                have bx25 : 0 ≤ x25.toInt ∧ x25.toInt ≤ 400 := by rw [← hx25]; exact hI.1 _ _ _ _ rfl
                rw [show μ23.1 81 37 = x25 from by exact hx25] at q23
                obtain ⟨x26, hx26⟩ : ∃ z, μ23.1 81 38 = z := ⟨_, rfl⟩
                have bx26 : 0 ≤ x26.toInt ∧ x26.toInt ≤ 4 := by rw [← hx26]; exact hI.1 _ _ _ _ rfl
                rw [show μ23.1 81 38 = x26 from by exact hx26] at q23
                obtain ⟨x27, hx27⟩ : ∃ z, μ23.1 81 39 = z := ⟨_, rfl⟩
                have bx27 : -1 ≤ x27.toInt ∧ x27.toInt ≤ 99999 := by rw [← hx27]; exact hI.1 _ _ _ _ rfl
                rw [show μ23.1 81 39 = x27 from by exact hx27] at q23
                have hk28 : m_TQ ((t_K fT t.toNatClampNeg) ((gi + 1) + 1)) (m_VV fT t.toNatClampNeg ((gi + 1) + 1)) x26 x27 := by
                  have z := hms.2.2
                  rw [show μ23.1 81 38 = x26 from by exact hx26, show μ23.1 81 39 = x27 from by exact hx27] at z
                  exact z
                refine lv_iconst (v := 0) hx hb dX12_readPlain_178 (by decide) ?_
                exact m_iret hx hb hr hlocks hW rfl (⟨hI, ⟨hgp, Or.inr ⟨rfl, by rw [show μ23.1 81 51 = uv from by exact ((hJ23.2.1 81 51 rfl).trans (by exact ((hJ20.2.1 81 51 rfl).trans (by exact ((hJ15.2.1 81 51 rfl).trans (by exact h_uv)))))), show μ23.1 81 37 = x25 from by exact hx25, show μ23.1 81 36 = x24 from by exact hx24, show μ23.1 81 38 = x26 from by exact hx26, show μ23.1 111 8 = x21 from by exact ((hJ23.2.1 111 8 rfl).trans (by exact hx21))]; omega, hps, _, (by unfold a_plain; first | (rw [if_neg (by have hz := hkk.all; omega), if_neg (by have hz := hkk.all; omega), if_neg (by have hz := hkk.all; omega), if_pos (by have hz := hkk.all; omega)]; exact a_N1 q15k (by omega)) | (rw [if_neg (by have hz := hkk.all; omega), if_neg (by have hz := hkk.all; omega), if_neg (by have hz := hkk.all; omega), if_neg (by have hz := hkk.all; omega)]; exact a_N1 q15k (by omega))), hms, hfm⟩⟩⟩) dX12_readPlain_179
              · have i19 := m_c5 (rfl : vv.toInt = _) (by decide : (5 : Int32).toInt = 5) c19
                refine lv_aload_n hx hb dX12_readPlain_150 rfl (lv_at hl 2 rfl) ?_
                refine lv_iload_n hx hb dX12_readPlain_151 rfl (lv_at hl 0 rfl) ?_
                refine lv_iconst (v := 1) hx hb dX12_readPlain_152 (by decide) ?_
                refine lv_bipush (v := 20) hx hb dX12_readPlain_153 (by decide) ?_
                have l_1 : (1 : Int32).toInt = 1 := by decide
                have l_20 : (20 : Int32).toInt = 20 := by decide
                refine m_aI hW (m_runV (As := [.int x15, .int 1, .int 20]) (rest := []) hx hb hml hown hts hW (81) (g_X12_isIn l D cy b x15 1 20 μ15 hI.1) mi_X12_isIn k_X12_170 rfl rfl rfl hl.1 rfl (Nat.le_of_ble_eq_true rfl) dX12_readPlain_155 ⟨Nat.le_of_ble_eq_true rfl, Nat.le_of_ble_eq_true rfl⟩ ⟨Nat.le_of_ble_eq_true rfl, Nat.le_of_ble_eq_true rfl⟩) (fun x29 μ29 H locs q29 hW => ?_)
                obtain ⟨q29_m, q29⟩ := q29
                subst q29_m
                rcases q29 with ⟨rfl, q29⟩ | ⟨rfl, q29⟩
                · refine lv_if_ne (tgt := 167) hx hb dX12_readPlain_158 (by decide) (fun _ => ?_) (fun c => False.elim (by revert c; decide))
                  refine lv_aload_n hx hb dX12_readPlain_167 rfl (lv_at hl 2 rfl) ?_
                  refine lv_iload_n hx hb dX12_readPlain_168 rfl (lv_at hl 1 rfl) ?_
                  refine lv_iload_n hx hb dX12_readPlain_169 rfl (lv_at hl 0 rfl) ?_
                  refine lv_iconst (v := 0) hx hb dX12_readPlain_170 (by decide) ?_
                  have l_0 : (0 : Int32).toInt = 0 := by decide
                  refine m_aV hW (m_runV (As := [.int vv, .int x15, .int 0]) (rest := []) hx hb hml hown hts hW (81) (g_X12_emits l D cy b (fun g => [25, 33, 41].contains g) μ15 rfl rfl rfl ov (by omega) vv x15 0 (by omega) μ15 (IY.rf hI.1) (by exact ((hJ15.2.1 111 8 rfl).trans (by exact h_ov)))) mi_X12_emits k_X12_301 rfl rfl rfl hl.1 rfl (Nat.le_of_ble_eq_true rfl) dX12_readPlain_171 ⟨Nat.le_of_ble_eq_true rfl, Nat.le_of_ble_eq_true rfl⟩ ⟨Nat.le_of_ble_eq_true rfl, Nat.le_of_ble_eq_true rfl⟩) (fun μ30 H locs q30 hW => ?_)
                  obtain ⟨hJ30, q30⟩ := q30
                  have hI := hI.tr hJ30 (m_subL (by simp [hS25, hS33, hS41]))
                  have hfT : μ30.1 106 = fT := by rw [show μ30.1 106 = μ15.1 106 from funext fun j => hJ30.2.1 106 j rfl]; exact hfT
                  have hRW : m_RW μ30 := hRW.fr hJ30 rfl
                  have hfm : m_FM μ30 sl := hfm.fr hJ30 rfl
                  have hms : m_MS μ30 fT t.toNatClampNeg (gi + 1) := hms.fr hJ30 rfl
                  obtain ⟨q30, q30l⟩ := q30
                  obtain ⟨x31, hx31⟩ : ∃ z, μ30.1 111 8 = z := ⟨_, rfl⟩
                  have tx31 : x31.toInt = ov.toInt + 1 := by rw [← hx31]; exact q30.2.2.2.2
                  have hgp : m_GP μ30 := hgp.lo q30l
                  have hps : m_PS μ30 := hps.plain (by exact ((hJ15.2.1 111 8 rfl).trans (by exact h_ov))) (by omega) q30 (funext fun j => hJ30.2.1 118 j rfl) (hJ30.2.1 81 53 rfl) (m_neI (by show vv.toInt ≠ (6 : Int); omega)) (m_neI (by show vv.toInt ≠ (7 : Int); omega)) (m_neI (by show vv.toInt ≠ (8 : Int); omega))
                  refine lv_aload_n hx hb dX12_readPlain_174 rfl (lv_at hl 2 rfl) ?_
                  have hal32 := hms.at_le
                  rw [show μ30.1 81 36 = x17 from by exact ((hJ30.2.1 81 36 rfl).trans (by exact hx17))] at hal32
                  have ckt := m_ckI (x := t) (by omega)
                  refine m_aV hW (m_runV (As := []) (rest := []) hx hb hml hown hts hW (81) (g_X12_reads_f l D cy b (fun g => [24].contains g) μ30 rfl x17 t (by omega) fT μ30 (IY.rf hI.1) (by exact ((hJ30.2.1 81 36 rfl).trans (by exact hx17))) (by exact ((hJ30.2.1 81 35 rfl).trans (by exact ((hJ15.2.1 81 35 rfl).trans (by exact htp))))) hfT hRW) mi_X12_reads k_X12_279 rfl rfl rfl hl.1 rfl (Nat.le_of_ble_eq_true rfl) dX12_readPlain_175 ⟨Nat.le_of_ble_eq_true rfl, Nat.le_of_ble_eq_true rfl⟩ ⟨Nat.le_of_ble_eq_true rfl, Nat.le_of_ble_eq_true rfl⟩) (fun μ33 H locs q33 hW => ?_)
                  obtain ⟨hJ33, q33⟩ := q33
                  have hI := hI.tr hJ33 (m_subL (by simp [hS24]))
                  have hfT : μ33.1 106 = fT := by rw [show μ33.1 106 = μ30.1 106 from funext fun j => hJ33.2.1 106 j rfl]; exact hfT
                  have hRW : m_RW μ33 := hRW.fr hJ33 rfl
                  have hfm : m_FM μ33 sl := hfm.fr hJ33 rfl
                  have hps : m_PS μ33 := hps.fr hJ33 rfl rfl rfl
                  have hgp : m_GP μ33 := hgp.fr hJ33 rfl rfl
                  obtain ⟨q33, q33f⟩ := q33
                  have hms : m_MS μ33 fT t.toNatClampNeg ((gi + 1) + 1) := hms.next (a := x17) (by exact ((hJ30.2.1 81 36 rfl).trans (by exact hx17))) q33f
                  obtain ⟨x34, hx34⟩ : ∃ z, μ33.1 81 36 = z := ⟨_, rfl⟩
                  have bx34 : 0 ≤ x34.toInt ∧ x34.toInt ≤ 400 := by rw [← hx34]; exact hI.1 _ _ _ _ rfl
                  rw [show μ33.1 81 36 = x34 from by exact hx34] at q33
                  obtain ⟨x35, hx35⟩ : ∃ z, μ33.1 81 37 = z := ⟨_, rfl⟩
                  have bx35 : 0 ≤ x35.toInt ∧ x35.toInt ≤ 400 := by rw [← hx35]; exact hI.1 _ _ _ _ rfl
                  rw [show μ33.1 81 37 = x35 from by exact hx35] at q33
                  obtain ⟨x36, hx36⟩ : ∃ z, μ33.1 81 38 = z := ⟨_, rfl⟩
                  have bx36 : 0 ≤ x36.toInt ∧ x36.toInt ≤ 4 := by rw [← hx36]; exact hI.1 _ _ _ _ rfl
                  rw [show μ33.1 81 38 = x36 from by exact hx36] at q33
                  obtain ⟨x37, hx37⟩ : ∃ z, μ33.1 81 39 = z := ⟨_, rfl⟩
                  have bx37 : -1 ≤ x37.toInt ∧ x37.toInt ≤ 99999 := by rw [← hx37]; exact hI.1 _ _ _ _ rfl
                  rw [show μ33.1 81 39 = x37 from by exact hx37] at q33
                  have hk38 : m_TQ ((t_K fT t.toNatClampNeg) ((gi + 1) + 1)) (m_VV fT t.toNatClampNeg ((gi + 1) + 1)) x36 x37 := by
                    have z := hms.2.2
                    rw [show μ33.1 81 38 = x36 from by exact hx36, show μ33.1 81 39 = x37 from by exact hx37] at z
                    exact z
                  refine lv_iconst (v := 0) hx hb dX12_readPlain_178 (by decide) ?_
                  exact m_iret hx hb hr hlocks hW rfl (⟨hI, ⟨hgp, Or.inr ⟨rfl, by rw [show μ33.1 81 51 = uv from by exact ((hJ33.2.1 81 51 rfl).trans (by exact ((hJ30.2.1 81 51 rfl).trans (by exact ((hJ15.2.1 81 51 rfl).trans (by exact h_uv)))))), show μ33.1 81 37 = x35 from by exact hx35, show μ33.1 81 36 = x34 from by exact hx34, show μ33.1 81 38 = x36 from by exact hx36, show μ33.1 111 8 = x31 from by exact ((hJ33.2.1 111 8 rfl).trans (by exact hx31))]; omega, hps, _, (by unfold a_plain; first | (rw [if_neg (by have hz := hkk.all; omega), if_neg (by have hz := hkk.all; omega), if_neg (by have hz := hkk.all; omega), if_pos (by have hz := hkk.all; omega)]; exact a_N1 q15k (by omega)) | (rw [if_neg (by have hz := hkk.all; omega), if_neg (by have hz := hkk.all; omega), if_neg (by have hz := hkk.all; omega), if_neg (by have hz := hkk.all; omega)]; exact a_N1 q15k (by omega))), hms, hfm⟩⟩⟩) dX12_readPlain_179
                · refine lv_if_ne (tgt := 167) hx hb dX12_readPlain_158 (by decide) (fun c => False.elim (by revert c; decide)) (fun _ => ?_)
                  refine lv_aload_n hx hb dX12_readPlain_161 rfl (lv_at hl 2 rfl) ?_
                  refine lv_iconst (v := 2) hx hb dX12_readPlain_162 (by decide) ?_
                  have l_2 : (2 : Int32).toInt = 2 := by decide
                  refine m_aI hW (m_runV (As := [.int 2]) (rest := []) hx hb hml hown hts hW (81) (g_X12_fails_f l D cy b (fun g => [36].contains g) μ15 rfl 2 μ15 (IY.rf hI.1)) mi_X12_fails k_X12_282 rfl rfl rfl hl.1 rfl (Nat.le_of_ble_eq_true rfl) dX12_readPlain_163 ⟨Nat.le_of_ble_eq_true rfl, Nat.le_of_ble_eq_true rfl⟩ ⟨Nat.le_of_ble_eq_true rfl, Nat.le_of_ble_eq_true rfl⟩) (fun x39 μ39 H locs q39 hW => ?_)
                  obtain ⟨hJ39, q39⟩ := q39
                  have hI := hI.tr hJ39 (m_subL (by simp [hS36]))
                  have hfT : μ39.1 106 = fT := by rw [show μ39.1 106 = μ15.1 106 from funext fun j => hJ39.2.1 106 j rfl]; exact hfT
                  have hRW : m_RW μ39 := hRW.fr hJ39 rfl
                  have hps : m_PS μ39 := hps.fr hJ39 rfl rfl rfl
                  have hgp : m_GP μ39 := hgp.fr hJ39 rfl rfl
                  have hfm : m_FM μ39 sl := hfm.fr hJ39 rfl
                  have hms : m_MS μ39 fT t.toNatClampNeg (gi + 1) := hms.fr hJ39 rfl
                  obtain ⟨rfl, q391, q392⟩ := q39
                  have hft : m_FT μ39 (2, (t_L fT t.toNatClampNeg) (gi + 1)) := ⟨by rw [q391]; rfl, by rw [q392]; exact hms.2.1⟩
                  exact m_iret hx hb hr hlocks hW rfl (⟨hI, ⟨hgp, Or.inl ⟨rfl, (2, (t_L fT t.toNatClampNeg) (gi + 1)), (by unfold a_plain; first | (rw [if_neg (by have hz := hkk.all; omega), if_neg (by have hz := hkk.all; omega), if_neg (by have hz := hkk.all; omega), if_pos (by have hz := hkk.all; omega)]; exact a_N2 q15k (by omega)) | (rw [if_neg (by have hz := hkk.all; omega), if_neg (by have hz := hkk.all; omega), if_neg (by have hz := hkk.all; omega), if_neg (by have hz := hkk.all; omega)]; exact a_N2 q15k (by omega))), hft⟩⟩⟩) dX12_readPlain_166
            · have i18 := m_c5 (rfl : x15.toInt = _) (by decide : ((-1) : Int32).toInt = (-1)) c18
              exfalso; omega
        · have i14 := m_c5 (rfl : vv.toInt = _) (by decide : (3 : Int32).toInt = 3) c14
          refine lv_aload_n hx hb dX12_readPlain_70 rfl (lv_at hl 1 rfl) ?_
          have hal40 := hms.at_le
          rw [show μ.1 81 36 = av from by exact h_av] at hal40
          have ckt := m_ckI (x := t) (by omega)
          refine m_aV hW (m_runV (As := []) (rest := []) hx hb hml hown hts hW (81) (g_X12_reads_f l D cy b (fun g => [24].contains g) μ rfl av t (by omega) fT μ (IY.rf hI.1) (by exact h_av) (by exact htp) hfT hRW) mi_X12_reads k_X12_279 rfl rfl rfl hl.1 rfl (Nat.le_of_ble_eq_true rfl) dX12_readPlain_71 ⟨Nat.le_of_ble_eq_true rfl, Nat.le_of_ble_eq_true rfl⟩ ⟨Nat.le_of_ble_eq_true rfl, Nat.le_of_ble_eq_true rfl⟩) (fun μ41 H locs q41 hW => ?_)
          obtain ⟨hJ41, q41⟩ := q41
          have hI := hI.tr hJ41 (m_subL (by simp [hS24]))
          have hfT : μ41.1 106 = fT := by rw [show μ41.1 106 = μ.1 106 from funext fun j => hJ41.2.1 106 j rfl]; exact hfT
          have hRW : m_RW μ41 := hRW.fr hJ41 rfl
          have hps : m_PS μ41 := hps.fr hJ41 rfl rfl rfl
          have hgp : m_GP μ41 := hgp.fr hJ41 rfl rfl
          have hfm : m_FM μ41 sl := hfm.fr hJ41 rfl
          obtain ⟨q41, q41f⟩ := q41
          have hms : m_MS μ41 fT t.toNatClampNeg (gi + 1) := hms.next (a := av) (by exact h_av) q41f
          obtain ⟨x42, hx42⟩ : ∃ z, μ41.1 81 36 = z := ⟨_, rfl⟩
          have bx42 : 0 ≤ x42.toInt ∧ x42.toInt ≤ 400 := by rw [← hx42]; exact hI.1 _ _ _ _ rfl
          rw [show μ41.1 81 36 = x42 from by exact hx42] at q41
          obtain ⟨x43, hx43⟩ : ∃ z, μ41.1 81 37 = z := ⟨_, rfl⟩
          have bx43 : 0 ≤ x43.toInt ∧ x43.toInt ≤ 400 := by rw [← hx43]; exact hI.1 _ _ _ _ rfl
          rw [show μ41.1 81 37 = x43 from by exact hx43] at q41
          obtain ⟨x44, hx44⟩ : ∃ z, μ41.1 81 38 = z := ⟨_, rfl⟩
          have bx44 : 0 ≤ x44.toInt ∧ x44.toInt ≤ 4 := by rw [← hx44]; exact hI.1 _ _ _ _ rfl
          rw [show μ41.1 81 38 = x44 from by exact hx44] at q41
          obtain ⟨x45, hx45⟩ : ∃ z, μ41.1 81 39 = z := ⟨_, rfl⟩
          have bx45 : -1 ≤ x45.toInt ∧ x45.toInt ≤ 99999 := by rw [← hx45]; exact hI.1 _ _ _ _ rfl
          rw [show μ41.1 81 39 = x45 from by exact hx45] at q41
          have hk46 : m_TQ ((t_K fT t.toNatClampNeg) (gi + 1)) (m_VV fT t.toNatClampNeg (gi + 1)) x44 x45 := by
            have z := hms.2.2
            rw [show μ41.1 81 38 = x44 from by exact hx44, show μ41.1 81 39 = x45 from by exact hx45] at z
            exact z
          refine lv_aload_n hx hb dX12_readPlain_74 rfl (lv_at hl 1 rfl) ?_
          refine m_geti hx hb hts hown hW (81) 38 rfl rfl cw_12 rfl (by decide) k_X12_254 dX12_readPlain_75 ?_
          refine lv_topi (fun x47 ex47 => ?_)
          have ex47 : x47 = x44 := by rw [ex47]; exact hx44
          have ex47 := ex47.symm
          subst ex47
          refine lv_iconst (v := 2) hx hb dX12_readPlain_78 (by decide) ?_
          refine lv_icmp_ne (tgt := 97) hx hb dX12_readPlain_79 (by decide) (fun c48 => ?_) (fun c48 => ?_)
          · have i48 := m_c6 (rfl : x44.toInt = _) (by decide : (2 : Int32).toInt = 2) c48
            have hs49 : a_k (t_K fT t.toNatClampNeg) (t_L fT t.toNatClampNeg) 19 22 (gi + 1) = .inl (1, (t_L fT t.toNatClampNeg) (gi + 1)) := a_k0 (by have hz := hk46.all; omega)
            refine lv_aload_n hx hb dX12_readPlain_97 rfl (lv_at hl 1 rfl) ?_
            refine lv_iconst (v := 1) hx hb dX12_readPlain_98 (by decide) ?_
            have l_1 : (1 : Int32).toInt = 1 := by decide
            refine m_aI hW (m_runV (As := [.int 1]) (rest := []) hx hb hml hown hts hW (81) (g_X12_fails_f l D cy b (fun g => [36].contains g) μ41 rfl 1 μ41 (IY.rf hI.1)) mi_X12_fails k_X12_282 rfl rfl rfl hl.1 rfl (Nat.le_of_ble_eq_true rfl) dX12_readPlain_99 ⟨Nat.le_of_ble_eq_true rfl, Nat.le_of_ble_eq_true rfl⟩ ⟨Nat.le_of_ble_eq_true rfl, Nat.le_of_ble_eq_true rfl⟩) (fun x50 μ50 H locs q50 hW => ?_)
            obtain ⟨hJ50, q50⟩ := q50
            have hI := hI.tr hJ50 (m_subL (by simp [hS36]))
            have hfT : μ50.1 106 = fT := by rw [show μ50.1 106 = μ41.1 106 from funext fun j => hJ50.2.1 106 j rfl]; exact hfT
            have hRW : m_RW μ50 := hRW.fr hJ50 rfl
            have hps : m_PS μ50 := hps.fr hJ50 rfl rfl rfl
            have hgp : m_GP μ50 := hgp.fr hJ50 rfl rfl
            have hfm : m_FM μ50 sl := hfm.fr hJ50 rfl
            have hms : m_MS μ50 fT t.toNatClampNeg (gi + 1) := hms.fr hJ50 rfl
            obtain ⟨rfl, q501, q502⟩ := q50
            have hft : m_FT μ50 (1, (t_L fT t.toNatClampNeg) (gi + 1)) := ⟨by rw [q501]; rfl, by rw [q502]; exact hms.2.1⟩
            exact m_iret hx hb hr hlocks hW rfl (⟨hI, ⟨hgp, Or.inl ⟨rfl, (1, (t_L fT t.toNatClampNeg) (gi + 1)), (by unfold a_plain; rw [if_neg (by have hz := hkk.all; omega), if_neg (by have hz := hkk.all; omega), if_pos (by have hz := hkk.all; omega)]; simp only [a_b, hs49]), hft⟩⟩⟩) dX12_readPlain_102
          · have i48 := m_c5 (rfl : x44.toInt = _) (by decide : (2 : Int32).toInt = 2) c48
            refine lv_aload_n hx hb dX12_readPlain_82 rfl (lv_at hl 1 rfl) ?_
            refine lv_aload_n hx hb dX12_readPlain_83 rfl (lv_at hl 1 rfl) ?_
            refine m_geti hx hb hts hown hW (81) 39 rfl rfl cw_12 rfl (by decide) k_X12_257 dX12_readPlain_84 ?_
            refine lv_topi (fun x51 ex51 => ?_)
            have ex51 : x51 = x45 := by rw [ex51]; exact hx45
            have ex51 := ex51.symm
            subst ex51
            refine lv_bipush (v := 10) hx hb dX12_readPlain_87 (by decide) ?_
            refine lv_bipush (v := 13) hx hb dX12_readPlain_89 (by decide) ?_
            have l_10 : (10 : Int32).toInt = 10 := by decide
            have l_13 : (13 : Int32).toInt = 13 := by decide
            refine m_aI hW (m_runV (As := [.int x45, .int 10, .int 13]) (rest := []) hx hb hml hown hts hW (81) (g_X12_isIn l D cy b x45 10 13 μ41 hI.1) mi_X12_isIn k_X12_170 rfl rfl rfl hl.1 rfl (Nat.le_of_ble_eq_true rfl) dX12_readPlain_91 ⟨Nat.le_of_ble_eq_true rfl, Nat.le_of_ble_eq_true rfl⟩ ⟨Nat.le_of_ble_eq_true rfl, Nat.le_of_ble_eq_true rfl⟩) (fun x52 μ52 H locs q52 hW => ?_)
            obtain ⟨q52_m, q52⟩ := q52
            subst q52_m
            rcases q52 with ⟨rfl, q52⟩ | ⟨rfl, q52⟩
            · refine lv_if_ne (tgt := 103) hx hb dX12_readPlain_94 (by decide) (fun _ => ?_) (fun c => False.elim (by revert c; decide))
              have hs53 : a_k (t_K fT t.toNatClampNeg) (t_L fT t.toNatClampNeg) 19 22 (gi + 1) = .inr ((gi + 1) + 1) := a_k1 (by have hz := hk46.all; omega)
              refine lv_aload_n hx hb dX12_readPlain_103 rfl (lv_at hl 1 rfl) ?_
              refine m_geti hx hb hts hown hW (81) 39 rfl rfl cw_12 rfl (by decide) k_X12_257 dX12_readPlain_104 ?_
              refine lv_topi (fun x54 ex54 => ?_)
              have ex54 : x54 = x45 := by rw [ex54]; exact hx45
              have ex54 := ex54.symm
              subst ex54
              refine lv_bipush (v := 10) hx hb dX12_readPlain_107 (by decide) ?_
              refine lv_isub hx hb dX12_readPlain_109 ?_
              refine lv_topi (fun x55 ex55 => ?_)
              have tx55 : x55.toInt = x45.toInt - 10 := m_subI ex55 (rfl : x45.toInt = _) (by decide : (10 : Int32).toInt = 10) (by omega) (by omega)
              refine lv_istore_n (lv' := [(2, .int x55), (1, .int vv), (0, .ref (b + 81))]) hx hb dX12_readPlain_110 rfl hl (by decide) rfl (fun ls hl => ?_)
              refine lv_aload_n hx hb dX12_readPlain_111 rfl (lv_at hl 2 rfl) ?_
              refine m_aI hW (m_runV (As := []) (rest := []) hx hb hml hown hts hW (81) (g_X12_readNumber_g l D cy b (fun g => [24, 36].contains g) μ41 rfl rfl x42 (by omega) t (by omega) fT (gi + 1) μ41 (IY.rf hI.1) (by exact hx42) (by exact ((hJ41.2.1 81 35 rfl).trans (by exact htp))) hfT hRW hms) mi_X12_readNumber k_X12_304 rfl rfl rfl hl.1 rfl (Nat.le_of_ble_eq_true rfl) dX12_readPlain_112 ⟨Nat.le_of_ble_eq_true rfl, Nat.le_of_ble_eq_true rfl⟩ ⟨Nat.le_of_ble_eq_true rfl, Nat.le_of_ble_eq_true rfl⟩) (fun x56 μ56 H locs q56 hW => ?_)
              obtain ⟨hJ56, q56⟩ := q56
              have hI := hI.tr hJ56 (m_subL (by simp [hS24, hS36]))
              have hfT : μ56.1 106 = fT := by rw [show μ56.1 106 = μ41.1 106 from funext fun j => hJ56.2.1 106 j rfl]; exact hfT
              have hRW : m_RW μ56 := hRW.fr hJ56 rfl
              have hps : m_PS μ56 := hps.fr hJ56 rfl rfl rfl
              have hgp : m_GP μ56 := hgp.fr hJ56 rfl rfl
              have hfm : m_FM μ56 sl := hfm.fr hJ56 rfl
              rcases q56 with ⟨rfl, q56k, hft⟩ | ⟨q56, q56k, q56v, hms⟩
              · refine lv_istore_n (lv' := [(3, .int (-1)), (2, .int x55), (1, .int vv), (0, .ref (b + 81))]) hx hb dX12_readPlain_115 rfl hl (by decide) rfl (fun ls hl => ?_)
                refine lv_iload_n hx hb dX12_readPlain_116 rfl (lv_at hl 0 rfl) ?_
                refine lv_iconst (v := (-1)) hx hb dX12_readPlain_117 (by decide) ?_
                refine lv_icmp_ne (tgt := 123) hx hb dX12_readPlain_118 (by decide) (fun c => False.elim (by revert c; decide)) (fun _ => ?_)
                refine lv_iconst (v := (-1)) hx hb dX12_readPlain_121 (by decide) ?_
                exact m_iret hx hb hr hlocks hW rfl (⟨hI, ⟨hgp, Or.inl ⟨rfl, (1, (t_L fT t.toNatClampNeg) ((gi + 1) + 1)), (by unfold a_plain; rw [if_neg (by have hz := hkk.all; omega), if_neg (by have hz := hkk.all; omega), if_pos (by have hz := hkk.all; omega)]; simp only [a_b, hs53]; exact a_N0 (V := (t_V fT t.toNatClampNeg)) (lo := 0) (hi := 9999) q56k), hft⟩⟩⟩) dX12_readPlain_122
              · obtain ⟨x57, hx57⟩ : ∃ z, μ56.1 81 37 = z := ⟨_, rfl⟩
                have bx57 : 0 ≤ x57.toInt ∧ x57.toInt ≤ 400 := by rw [← hx57]; exact hI.1 _ _ _ _ rfl
                rw [show μ56.1 81 37 = x57 from by exact hx57] at q56
                obtain ⟨x58, hx58⟩ : ∃ z, μ56.1 81 36 = z := ⟨_, rfl⟩
                have bx58 : 0 ≤ x58.toInt ∧ x58.toInt ≤ 400 := by rw [← hx58]; exact hI.1 _ _ _ _ rfl
                rw [show μ56.1 81 36 = x58 from by exact hx58] at q56
                refine lv_istore_n (lv' := [(3, .int x56), (2, .int x55), (1, .int vv), (0, .ref (b + 81))]) hx hb dX12_readPlain_115 rfl hl (by decide) rfl (fun ls hl => ?_)
                refine lv_iload_n hx hb dX12_readPlain_116 rfl (lv_at hl 0 rfl) ?_
                refine lv_iconst (v := (-1)) hx hb dX12_readPlain_117 (by decide) ?_
                refine lv_icmp_ne (tgt := 123) hx hb dX12_readPlain_118 (by decide) (fun c59 => ?_) (fun c59 => ?_)
                · have i59 := m_c6 (rfl : x56.toInt = _) (by decide : ((-1) : Int32).toInt = (-1)) c59
                  have hs60 : a_N (t_K fT t.toNatClampNeg) (t_L fT t.toNatClampNeg) (t_V fT t.toNatClampNeg) 0 9999 ((gi + 1) + 1) = .inr (((gi + 1) + 1) + 1) := a_N1 q56k (by omega)
                  refine lv_aload_n hx hb dX12_readPlain_123 rfl (lv_at hl 3 rfl) ?_
                  refine lv_iconst (v := 3) hx hb dX12_readPlain_124 (by decide) ?_
                  refine lv_iload_n hx hb dX12_readPlain_125 rfl (lv_at hl 1 rfl) ?_
                  refine lv_iload_n hx hb dX12_readPlain_126 rfl (lv_at hl 0 rfl) ?_
                  have l_3 : (3 : Int32).toInt = 3 := by decide
                  refine m_aV hW (m_runV (As := [.int 3, .int x55, .int x56]) (rest := []) hx hb hml hown hts hW (81) (g_X12_emits l D cy b (fun g => [25, 33, 41].contains g) μ56 rfl rfl rfl ov (by omega) 3 x55 x56 (by omega) μ56 (IY.rf hI.1) (by exact ((hJ56.2.1 111 8 rfl).trans (by exact ((hJ41.2.1 111 8 rfl).trans (by exact h_ov)))))) mi_X12_emits k_X12_301 rfl rfl rfl hl.1 rfl (Nat.le_of_ble_eq_true rfl) dX12_readPlain_127 ⟨Nat.le_of_ble_eq_true rfl, Nat.le_of_ble_eq_true rfl⟩ ⟨Nat.le_of_ble_eq_true rfl, Nat.le_of_ble_eq_true rfl⟩) (fun μ61 H locs q61 hW => ?_)
                  obtain ⟨hJ61, q61⟩ := q61
                  have hI := hI.tr hJ61 (m_subL (by simp [hS25, hS33, hS41]))
                  have hfT : μ61.1 106 = fT := by rw [show μ61.1 106 = μ56.1 106 from funext fun j => hJ61.2.1 106 j rfl]; exact hfT
                  have hRW : m_RW μ61 := hRW.fr hJ61 rfl
                  have hfm : m_FM μ61 sl := hfm.fr hJ61 rfl
                  have hms : m_MS μ61 fT t.toNatClampNeg ((gi + 1) + 1) := hms.fr hJ61 rfl
                  obtain ⟨q61, q61l⟩ := q61
                  obtain ⟨x62, hx62⟩ : ∃ z, μ61.1 111 8 = z := ⟨_, rfl⟩
                  have tx62 : x62.toInt = ov.toInt + 1 := by rw [← hx62]; exact q61.2.2.2.2
                  have hgp : m_GP μ61 := hgp.lo q61l
                  have hps : m_PS μ61 := hps.plain (by exact ((hJ56.2.1 111 8 rfl).trans (by exact ((hJ41.2.1 111 8 rfl).trans (by exact h_ov))))) (by omega) q61 (funext fun j => hJ61.2.1 118 j rfl) (hJ61.2.1 81 53 rfl) (by decide) (by decide) (by decide)
                  refine lv_goto (tgt := 174) hx hb dX12_readPlain_130 (by decide) ?_
                  refine lv_aload_n hx hb dX12_readPlain_174 rfl (lv_at hl 3 rfl) ?_
                  have hal63 := hms.at_le
                  rw [show μ61.1 81 36 = x58 from by exact ((hJ61.2.1 81 36 rfl).trans (by exact hx58))] at hal63
                  have ckt := m_ckI (x := t) (by omega)
                  refine m_aV hW (m_runV (As := []) (rest := []) hx hb hml hown hts hW (81) (g_X12_reads_f l D cy b (fun g => [24].contains g) μ61 rfl x58 t (by omega) fT μ61 (IY.rf hI.1) (by exact ((hJ61.2.1 81 36 rfl).trans (by exact hx58))) (by exact ((hJ61.2.1 81 35 rfl).trans (by exact ((hJ56.2.1 81 35 rfl).trans (by exact ((hJ41.2.1 81 35 rfl).trans (by exact htp))))))) hfT hRW) mi_X12_reads k_X12_279 rfl rfl rfl hl.1 rfl (Nat.le_of_ble_eq_true rfl) dX12_readPlain_175 ⟨Nat.le_of_ble_eq_true rfl, Nat.le_of_ble_eq_true rfl⟩ ⟨Nat.le_of_ble_eq_true rfl, Nat.le_of_ble_eq_true rfl⟩) (fun μ64 H locs q64 hW => ?_)
                  obtain ⟨hJ64, q64⟩ := q64
                  have hI := hI.tr hJ64 (m_subL (by simp [hS24]))
                  have hfT : μ64.1 106 = fT := by rw [show μ64.1 106 = μ61.1 106 from funext fun j => hJ64.2.1 106 j rfl]; exact hfT
                  have hRW : m_RW μ64 := hRW.fr hJ64 rfl
                  have hfm : m_FM μ64 sl := hfm.fr hJ64 rfl
                  have hps : m_PS μ64 := hps.fr hJ64 rfl rfl rfl
                  have hgp : m_GP μ64 := hgp.fr hJ64 rfl rfl
                  obtain ⟨q64, q64f⟩ := q64
                  have hms : m_MS μ64 fT t.toNatClampNeg (((gi + 1) + 1) + 1) := hms.next (a := x58) (by exact ((hJ61.2.1 81 36 rfl).trans (by exact hx58))) q64f
                  obtain ⟨x65, hx65⟩ : ∃ z, μ64.1 81 36 = z := ⟨_, rfl⟩
                  have bx65 : 0 ≤ x65.toInt ∧ x65.toInt ≤ 400 := by rw [← hx65]; exact hI.1 _ _ _ _ rfl
                  rw [show μ64.1 81 36 = x65 from by exact hx65] at q64
                  obtain ⟨x66, hx66⟩ : ∃ z, μ64.1 81 37 = z := ⟨_, rfl⟩
                  have bx66 : 0 ≤ x66.toInt ∧ x66.toInt ≤ 400 := by rw [← hx66]; exact hI.1 _ _ _ _ rfl
                  rw [show μ64.1 81 37 = x66 from by exact hx66] at q64
                  obtain ⟨x67, hx67⟩ : ∃ z, μ64.1 81 38 = z := ⟨_, rfl⟩
                  have bx67 : 0 ≤ x67.toInt ∧ x67.toInt ≤ 4 := by rw [← hx67]; exact hI.1 _ _ _ _ rfl
                  rw [show μ64.1 81 38 = x67 from by exact hx67] at q64
                  obtain ⟨x68, hx68⟩ : ∃ z, μ64.1 81 39 = z := ⟨_, rfl⟩
                  have bx68 : -1 ≤ x68.toInt ∧ x68.toInt ≤ 99999 := by rw [← hx68]; exact hI.1 _ _ _ _ rfl
                  rw [show μ64.1 81 39 = x68 from by exact hx68] at q64
                  have hk69 : m_TQ ((t_K fT t.toNatClampNeg) (((gi + 1) + 1) + 1)) (m_VV fT t.toNatClampNeg (((gi + 1) + 1) + 1)) x67 x68 := by
                    have z := hms.2.2
                    rw [show μ64.1 81 38 = x67 from by exact hx67, show μ64.1 81 39 = x68 from by exact hx68] at z
                    exact z
                  refine lv_iconst (v := 0) hx hb dX12_readPlain_178 (by decide) ?_
                  exact m_iret hx hb hr hlocks hW rfl (⟨hI, ⟨hgp, Or.inr ⟨rfl, by rw [show μ64.1 81 51 = uv from by exact ((hJ64.2.1 81 51 rfl).trans (by exact ((hJ61.2.1 81 51 rfl).trans (by exact ((hJ56.2.1 81 51 rfl).trans (by exact ((hJ41.2.1 81 51 rfl).trans (by exact h_uv)))))))), show μ64.1 81 37 = x66 from by exact hx66, show μ64.1 81 36 = x65 from by exact hx65, show μ64.1 81 38 = x67 from by exact hx67, show μ64.1 111 8 = x62 from by exact ((hJ64.2.1 111 8 rfl).trans (by exact hx62))]; omega, hps, _, (by unfold a_plain; rw [if_neg (by have hz := hkk.all; omega), if_neg (by have hz := hkk.all; omega), if_pos (by have hz := hkk.all; omega)]; simp only [a_b, hs53, hs60]), hms, hfm⟩⟩⟩) dX12_readPlain_179
                · have i59 := m_c5 (rfl : x56.toInt = _) (by decide : ((-1) : Int32).toInt = (-1)) c59
                  exfalso; omega
            · refine lv_if_ne (tgt := 103) hx hb dX12_readPlain_94 (by decide) (fun c => False.elim (by revert c; decide)) (fun _ => ?_)
              have hs70 : a_k (t_K fT t.toNatClampNeg) (t_L fT t.toNatClampNeg) 19 22 (gi + 1) = .inl (1, (t_L fT t.toNatClampNeg) (gi + 1)) := a_k0 (by have hz := hk46.all; omega)
              refine lv_aload_n hx hb dX12_readPlain_97 rfl (lv_at hl 1 rfl) ?_
              refine lv_iconst (v := 1) hx hb dX12_readPlain_98 (by decide) ?_
              have l_1 : (1 : Int32).toInt = 1 := by decide
              refine m_aI hW (m_runV (As := [.int 1]) (rest := []) hx hb hml hown hts hW (81) (g_X12_fails_f l D cy b (fun g => [36].contains g) μ41 rfl 1 μ41 (IY.rf hI.1)) mi_X12_fails k_X12_282 rfl rfl rfl hl.1 rfl (Nat.le_of_ble_eq_true rfl) dX12_readPlain_99 ⟨Nat.le_of_ble_eq_true rfl, Nat.le_of_ble_eq_true rfl⟩ ⟨Nat.le_of_ble_eq_true rfl, Nat.le_of_ble_eq_true rfl⟩) (fun x71 μ71 H locs q71 hW => ?_)
              obtain ⟨hJ71, q71⟩ := q71
              have hI := hI.tr hJ71 (m_subL (by simp [hS36]))
              have hfT : μ71.1 106 = fT := by rw [show μ71.1 106 = μ41.1 106 from funext fun j => hJ71.2.1 106 j rfl]; exact hfT
              have hRW : m_RW μ71 := hRW.fr hJ71 rfl
              have hps : m_PS μ71 := hps.fr hJ71 rfl rfl rfl
              have hgp : m_GP μ71 := hgp.fr hJ71 rfl rfl
              have hfm : m_FM μ71 sl := hfm.fr hJ71 rfl
              have hms : m_MS μ71 fT t.toNatClampNeg (gi + 1) := hms.fr hJ71 rfl
              obtain ⟨rfl, q711, q712⟩ := q71
              have hft : m_FT μ71 (1, (t_L fT t.toNatClampNeg) (gi + 1)) := ⟨by rw [q711]; rfl, by rw [q712]; exact hms.2.1⟩
              exact m_iret hx hb hr hlocks hW rfl (⟨hI, ⟨hgp, Or.inl ⟨rfl, (1, (t_L fT t.toNatClampNeg) (gi + 1)), (by unfold a_plain; rw [if_neg (by have hz := hkk.all; omega), if_neg (by have hz := hkk.all; omega), if_pos (by have hz := hkk.all; omega)]; simp only [a_b, hs70]), hft⟩⟩⟩) dX12_readPlain_102
      · have i13 := m_c5 (rfl : vv.toInt = _) (by decide : (2 : Int32).toInt = 2) c13
        refine lv_aload_n hx hb dX12_readPlain_29 rfl (lv_at hl 1 rfl) ?_
        refine m_aI hW (m_runV (As := []) (rest := []) hx hb hml hown hts hW (81) (g_X12_readNumber_g l D cy b (fun g => [24, 36].contains g) μ rfl rfl av (by omega) t (by omega) fT gi μ (IY.rf hI.1) (by exact h_av) (by exact htp) hfT hRW hms) mi_X12_readNumber k_X12_304 rfl rfl rfl hl.1 rfl (Nat.le_of_ble_eq_true rfl) dX12_readPlain_30 ⟨Nat.le_of_ble_eq_true rfl, Nat.le_of_ble_eq_true rfl⟩ ⟨Nat.le_of_ble_eq_true rfl, Nat.le_of_ble_eq_true rfl⟩) (fun x72 μ72 H locs q72 hW => ?_)
        obtain ⟨hJ72, q72⟩ := q72
        have hI := hI.tr hJ72 (m_subL (by simp [hS24, hS36]))
        have hfT : μ72.1 106 = fT := by rw [show μ72.1 106 = μ.1 106 from funext fun j => hJ72.2.1 106 j rfl]; exact hfT
        have hRW : m_RW μ72 := hRW.fr hJ72 rfl
        have hps : m_PS μ72 := hps.fr hJ72 rfl rfl rfl
        have hgp : m_GP μ72 := hgp.fr hJ72 rfl rfl
        have hfm : m_FM μ72 sl := hfm.fr hJ72 rfl
        rcases q72 with ⟨rfl, q72k, hft⟩ | ⟨q72, q72k, q72v, hms⟩
        · refine lv_istore_n (lv' := [(2, .int (-1)), (1, .int vv), (0, .ref (b + 81))]) hx hb dX12_readPlain_33 rfl hl (by decide) rfl (fun ls hl => ?_)
          refine lv_iload_n hx hb dX12_readPlain_34 rfl (lv_at hl 0 rfl) ?_
          refine lv_iconst (v := (-1)) hx hb dX12_readPlain_35 (by decide) ?_
          refine lv_icmp_ne (tgt := 43) hx hb dX12_readPlain_36 (by decide) (fun c => False.elim (by revert c; decide)) (fun _ => ?_)
          refine lv_iconst (v := (-1)) hx hb dX12_readPlain_39 (by decide) ?_
          refine lv_goto (tgt := 47) hx hb dX12_readPlain_40 (by decide) ?_
          refine lv_istore_n (lv' := [(3, .int (-1)), (2, .int (-1)), (1, .int vv), (0, .ref (b + 81))]) hx hb dX12_readPlain_47 rfl hl (by decide) rfl (fun ls hl => ?_)
          refine lv_iload_n hx hb dX12_readPlain_48 rfl (lv_at hl 0 rfl) ?_
          refine lv_iconst (v := (-1)) hx hb dX12_readPlain_49 (by decide) ?_
          refine lv_icmp_ne (tgt := 55) hx hb dX12_readPlain_50 (by decide) (fun c => False.elim (by revert c; decide)) (fun _ => ?_)
          refine lv_iconst (v := (-1)) hx hb dX12_readPlain_53 (by decide) ?_
          exact m_iret hx hb hr hlocks hW rfl (⟨hI, ⟨hgp, Or.inl ⟨rfl, (1, (t_L fT t.toNatClampNeg) (gi + 1)), (by unfold a_plain; rw [if_neg (by have hz := hkk.all; omega), if_pos (by have hz := hkk.all; omega)]; rw [a_N0 (V := (t_V fT t.toNatClampNeg)) (lo := 0) (hi := 9999) q72k]; rfl), hft⟩⟩⟩) dX12_readPlain_54
        · obtain ⟨x73, hx73⟩ : ∃ z, μ72.1 81 37 = z := ⟨_, rfl⟩
          have bx73 : 0 ≤ x73.toInt ∧ x73.toInt ≤ 400 := by rw [← hx73]; exact hI.1 _ _ _ _ rfl
          rw [show μ72.1 81 37 = x73 from by exact hx73] at q72
          obtain ⟨x74, hx74⟩ : ∃ z, μ72.1 81 36 = z := ⟨_, rfl⟩
          have bx74 : 0 ≤ x74.toInt ∧ x74.toInt ≤ 400 := by rw [← hx74]; exact hI.1 _ _ _ _ rfl
          rw [show μ72.1 81 36 = x74 from by exact hx74] at q72
          refine lv_istore_n (lv' := [(2, .int x72), (1, .int vv), (0, .ref (b + 81))]) hx hb dX12_readPlain_33 rfl hl (by decide) rfl (fun ls hl => ?_)
          refine lv_iload_n hx hb dX12_readPlain_34 rfl (lv_at hl 0 rfl) ?_
          refine lv_iconst (v := (-1)) hx hb dX12_readPlain_35 (by decide) ?_
          refine lv_icmp_ne (tgt := 43) hx hb dX12_readPlain_36 (by decide) (fun c75 => ?_) (fun c75 => ?_)
          · have i75 := m_c6 (rfl : x72.toInt = _) (by decide : ((-1) : Int32).toInt = (-1)) c75
            have hs76 : a_N (t_K fT t.toNatClampNeg) (t_L fT t.toNatClampNeg) (t_V fT t.toNatClampNeg) 0 9999 (gi + 1) = .inr ((gi + 1) + 1) := a_N1 q72k (by omega)
            refine lv_aload_n hx hb dX12_readPlain_43 rfl (lv_at hl 2 rfl) ?_
            refine m_aI hW (m_runV (As := []) (rest := []) hx hb hml hown hts hW (81) (g_X12_readNumber_g l D cy b (fun g => [24, 36].contains g) μ72 rfl rfl x74 (by omega) t (by omega) fT (gi + 1) μ72 (IY.rf hI.1) (by exact hx74) (by exact ((hJ72.2.1 81 35 rfl).trans (by exact htp))) hfT hRW hms) mi_X12_readNumber k_X12_304 rfl rfl rfl hl.1 rfl (Nat.le_of_ble_eq_true rfl) dX12_readPlain_44 ⟨Nat.le_of_ble_eq_true rfl, Nat.le_of_ble_eq_true rfl⟩ ⟨Nat.le_of_ble_eq_true rfl, Nat.le_of_ble_eq_true rfl⟩) (fun x77 μ77 H locs q77 hW => ?_)
            obtain ⟨hJ77, q77⟩ := q77
            have hI := hI.tr hJ77 (m_subL (by simp [hS24, hS36]))
            have hfT : μ77.1 106 = fT := by rw [show μ77.1 106 = μ72.1 106 from funext fun j => hJ77.2.1 106 j rfl]; exact hfT
            have hRW : m_RW μ77 := hRW.fr hJ77 rfl
            have hps : m_PS μ77 := hps.fr hJ77 rfl rfl rfl
            have hgp : m_GP μ77 := hgp.fr hJ77 rfl rfl
            have hfm : m_FM μ77 sl := hfm.fr hJ77 rfl
            rcases q77 with ⟨rfl, q77k, hft⟩ | ⟨q77, q77k, q77v, hms⟩
            · refine lv_istore_n (lv' := [(3, .int (-1)), (2, .int x72), (1, .int vv), (0, .ref (b + 81))]) hx hb dX12_readPlain_47 rfl hl (by decide) rfl (fun ls hl => ?_)
              refine lv_iload_n hx hb dX12_readPlain_48 rfl (lv_at hl 0 rfl) ?_
              refine lv_iconst (v := (-1)) hx hb dX12_readPlain_49 (by decide) ?_
              refine lv_icmp_ne (tgt := 55) hx hb dX12_readPlain_50 (by decide) (fun c => False.elim (by revert c; decide)) (fun _ => ?_)
              refine lv_iconst (v := (-1)) hx hb dX12_readPlain_53 (by decide) ?_
              exact m_iret hx hb hr hlocks hW rfl (⟨hI, ⟨hgp, Or.inl ⟨rfl, (1, (t_L fT t.toNatClampNeg) ((gi + 1) + 1)), (by unfold a_plain; rw [if_neg (by have hz := hkk.all; omega), if_pos (by have hz := hkk.all; omega)]; simp only [a_b, hs76]; exact a_N0 (V := (t_V fT t.toNatClampNeg)) (lo := 0) (hi := 9999) q77k), hft⟩⟩⟩) dX12_readPlain_54
            · obtain ⟨x78, hx78⟩ : ∃ z, μ77.1 81 37 = z := ⟨_, rfl⟩
              have bx78 : 0 ≤ x78.toInt ∧ x78.toInt ≤ 400 := by rw [← hx78]; exact hI.1 _ _ _ _ rfl
              rw [show μ77.1 81 37 = x78 from by exact hx78] at q77
              obtain ⟨x79, hx79⟩ : ∃ z, μ77.1 81 36 = z := ⟨_, rfl⟩
              have bx79 : 0 ≤ x79.toInt ∧ x79.toInt ≤ 400 := by rw [← hx79]; exact hI.1 _ _ _ _ rfl
              rw [show μ77.1 81 36 = x79 from by exact hx79] at q77
              refine lv_istore_n (lv' := [(3, .int x77), (2, .int x72), (1, .int vv), (0, .ref (b + 81))]) hx hb dX12_readPlain_47 rfl hl (by decide) rfl (fun ls hl => ?_)
              refine lv_iload_n hx hb dX12_readPlain_48 rfl (lv_at hl 0 rfl) ?_
              refine lv_iconst (v := (-1)) hx hb dX12_readPlain_49 (by decide) ?_
              refine lv_icmp_ne (tgt := 55) hx hb dX12_readPlain_50 (by decide) (fun c80 => ?_) (fun c80 => ?_)
              · have i80 := m_c6 (rfl : x77.toInt = _) (by decide : ((-1) : Int32).toInt = (-1)) c80
                have hs81 : a_N (t_K fT t.toNatClampNeg) (t_L fT t.toNatClampNeg) (t_V fT t.toNatClampNeg) 0 9999 ((gi + 1) + 1) = .inr (((gi + 1) + 1) + 1) := a_N1 q77k (by omega)
                refine lv_aload_n hx hb dX12_readPlain_55 rfl (lv_at hl 3 rfl) ?_
                refine lv_iconst (v := 2) hx hb dX12_readPlain_56 (by decide) ?_
                refine lv_iload_n hx hb dX12_readPlain_57 rfl (lv_at hl 1 rfl) ?_
                refine lv_iload_n hx hb dX12_readPlain_58 rfl (lv_at hl 0 rfl) ?_
                have l_2 : (2 : Int32).toInt = 2 := by decide
                refine m_aV hW (m_runV (As := [.int 2, .int x72, .int x77]) (rest := []) hx hb hml hown hts hW (81) (g_X12_emits l D cy b (fun g => [25, 33, 41].contains g) μ77 rfl rfl rfl ov (by omega) 2 x72 x77 (by omega) μ77 (IY.rf hI.1) (by exact ((hJ77.2.1 111 8 rfl).trans (by exact ((hJ72.2.1 111 8 rfl).trans (by exact h_ov)))))) mi_X12_emits k_X12_301 rfl rfl rfl hl.1 rfl (Nat.le_of_ble_eq_true rfl) dX12_readPlain_59 ⟨Nat.le_of_ble_eq_true rfl, Nat.le_of_ble_eq_true rfl⟩ ⟨Nat.le_of_ble_eq_true rfl, Nat.le_of_ble_eq_true rfl⟩) (fun μ82 H locs q82 hW => ?_)
                obtain ⟨hJ82, q82⟩ := q82
                have hI := hI.tr hJ82 (m_subL (by simp [hS25, hS33, hS41]))
                have hfT : μ82.1 106 = fT := by rw [show μ82.1 106 = μ77.1 106 from funext fun j => hJ82.2.1 106 j rfl]; exact hfT
                have hRW : m_RW μ82 := hRW.fr hJ82 rfl
                have hfm : m_FM μ82 sl := hfm.fr hJ82 rfl
                have hms : m_MS μ82 fT t.toNatClampNeg ((gi + 1) + 1) := hms.fr hJ82 rfl
                obtain ⟨q82, q82l⟩ := q82
                obtain ⟨x83, hx83⟩ : ∃ z, μ82.1 111 8 = z := ⟨_, rfl⟩
                have tx83 : x83.toInt = ov.toInt + 1 := by rw [← hx83]; exact q82.2.2.2.2
                have hgp : m_GP μ82 := hgp.lo q82l
                have hps : m_PS μ82 := hps.plain (by exact ((hJ77.2.1 111 8 rfl).trans (by exact ((hJ72.2.1 111 8 rfl).trans (by exact h_ov))))) (by omega) q82 (funext fun j => hJ82.2.1 118 j rfl) (hJ82.2.1 81 53 rfl) (by decide) (by decide) (by decide)
                refine lv_goto (tgt := 174) hx hb dX12_readPlain_62 (by decide) ?_
                refine lv_aload_n hx hb dX12_readPlain_174 rfl (lv_at hl 3 rfl) ?_
                have hal84 := hms.at_le
                rw [show μ82.1 81 36 = x79 from by exact ((hJ82.2.1 81 36 rfl).trans (by exact hx79))] at hal84
                have ckt := m_ckI (x := t) (by omega)
                refine m_aV hW (m_runV (As := []) (rest := []) hx hb hml hown hts hW (81) (g_X12_reads_f l D cy b (fun g => [24].contains g) μ82 rfl x79 t (by omega) fT μ82 (IY.rf hI.1) (by exact ((hJ82.2.1 81 36 rfl).trans (by exact hx79))) (by exact ((hJ82.2.1 81 35 rfl).trans (by exact ((hJ77.2.1 81 35 rfl).trans (by exact ((hJ72.2.1 81 35 rfl).trans (by exact htp))))))) hfT hRW) mi_X12_reads k_X12_279 rfl rfl rfl hl.1 rfl (Nat.le_of_ble_eq_true rfl) dX12_readPlain_175 ⟨Nat.le_of_ble_eq_true rfl, Nat.le_of_ble_eq_true rfl⟩ ⟨Nat.le_of_ble_eq_true rfl, Nat.le_of_ble_eq_true rfl⟩) (fun μ85 H locs q85 hW => ?_)
                obtain ⟨hJ85, q85⟩ := q85
                have hI := hI.tr hJ85 (m_subL (by simp [hS24]))
                have hfT : μ85.1 106 = fT := by rw [show μ85.1 106 = μ82.1 106 from funext fun j => hJ85.2.1 106 j rfl]; exact hfT
                have hRW : m_RW μ85 := hRW.fr hJ85 rfl
                have hfm : m_FM μ85 sl := hfm.fr hJ85 rfl
                have hps : m_PS μ85 := hps.fr hJ85 rfl rfl rfl
                have hgp : m_GP μ85 := hgp.fr hJ85 rfl rfl
                obtain ⟨q85, q85f⟩ := q85
                have hms : m_MS μ85 fT t.toNatClampNeg (((gi + 1) + 1) + 1) := hms.next (a := x79) (by exact ((hJ82.2.1 81 36 rfl).trans (by exact hx79))) q85f
                obtain ⟨x86, hx86⟩ : ∃ z, μ85.1 81 36 = z := ⟨_, rfl⟩
                have bx86 : 0 ≤ x86.toInt ∧ x86.toInt ≤ 400 := by rw [← hx86]; exact hI.1 _ _ _ _ rfl
                rw [show μ85.1 81 36 = x86 from by exact hx86] at q85
                obtain ⟨x87, hx87⟩ : ∃ z, μ85.1 81 37 = z := ⟨_, rfl⟩
                have bx87 : 0 ≤ x87.toInt ∧ x87.toInt ≤ 400 := by rw [← hx87]; exact hI.1 _ _ _ _ rfl
                rw [show μ85.1 81 37 = x87 from by exact hx87] at q85
                obtain ⟨x88, hx88⟩ : ∃ z, μ85.1 81 38 = z := ⟨_, rfl⟩
                have bx88 : 0 ≤ x88.toInt ∧ x88.toInt ≤ 4 := by rw [← hx88]; exact hI.1 _ _ _ _ rfl
                rw [show μ85.1 81 38 = x88 from by exact hx88] at q85
                obtain ⟨x89, hx89⟩ : ∃ z, μ85.1 81 39 = z := ⟨_, rfl⟩
                have bx89 : -1 ≤ x89.toInt ∧ x89.toInt ≤ 99999 := by rw [← hx89]; exact hI.1 _ _ _ _ rfl
                rw [show μ85.1 81 39 = x89 from by exact hx89] at q85
                have hk90 : m_TQ ((t_K fT t.toNatClampNeg) (((gi + 1) + 1) + 1)) (m_VV fT t.toNatClampNeg (((gi + 1) + 1) + 1)) x88 x89 := by
                  have z := hms.2.2
                  rw [show μ85.1 81 38 = x88 from by exact hx88, show μ85.1 81 39 = x89 from by exact hx89] at z
                  exact z
                refine lv_iconst (v := 0) hx hb dX12_readPlain_178 (by decide) ?_
                exact m_iret hx hb hr hlocks hW rfl (⟨hI, ⟨hgp, Or.inr ⟨rfl, by rw [show μ85.1 81 51 = uv from by exact ((hJ85.2.1 81 51 rfl).trans (by exact ((hJ82.2.1 81 51 rfl).trans (by exact ((hJ77.2.1 81 51 rfl).trans (by exact ((hJ72.2.1 81 51 rfl).trans (by exact h_uv)))))))), show μ85.1 81 37 = x87 from by exact hx87, show μ85.1 81 36 = x86 from by exact hx86, show μ85.1 81 38 = x88 from by exact hx88, show μ85.1 111 8 = x83 from by exact ((hJ85.2.1 111 8 rfl).trans (by exact hx83))]; omega, hps, _, (by unfold a_plain; rw [if_neg (by have hz := hkk.all; omega), if_pos (by have hz := hkk.all; omega)]; simp only [a_b, hs76, hs81]), hms, hfm⟩⟩⟩) dX12_readPlain_179
              · have i80 := m_c5 (rfl : x77.toInt = _) (by decide : ((-1) : Int32).toInt = (-1)) c80
                exfalso; omega
          · have i75 := m_c5 (rfl : x72.toInt = _) (by decide : ((-1) : Int32).toInt = (-1)) c75
            exfalso; omega
    · have i12 := m_c5 (rfl : vv.toInt = _) (by decide : (1 : Int32).toInt = 1) c12
      refine lv_aload_n hx hb dX12_readPlain_14 rfl (lv_at hl 1 rfl) ?_
      refine lv_iload_n hx hb dX12_readPlain_15 rfl (lv_at hl 0 rfl) ?_
      refine lv_iconst (v := 0) hx hb dX12_readPlain_16 (by decide) ?_
      refine lv_iconst (v := 0) hx hb dX12_readPlain_17 (by decide) ?_
      have l_0 : (0 : Int32).toInt = 0 := by decide
      refine m_aV hW (m_runV (As := [.int vv, .int 0, .int 0]) (rest := []) hx hb hml hown hts hW (81) (g_X12_emits l D cy b (fun g => [25, 33, 41].contains g) μ rfl rfl rfl ov (by omega) vv 0 0 (by omega) μ (IY.rf hI.1) (by exact h_ov)) mi_X12_emits k_X12_301 rfl rfl rfl hl.1 rfl (Nat.le_of_ble_eq_true rfl) dX12_readPlain_18 ⟨Nat.le_of_ble_eq_true rfl, Nat.le_of_ble_eq_true rfl⟩ ⟨Nat.le_of_ble_eq_true rfl, Nat.le_of_ble_eq_true rfl⟩) (fun μ91 H locs q91 hW => ?_)
      obtain ⟨hJ91, q91⟩ := q91
      have hI := hI.tr hJ91 (m_subL (by simp [hS25, hS33, hS41]))
      have hfT : μ91.1 106 = fT := by rw [show μ91.1 106 = μ.1 106 from funext fun j => hJ91.2.1 106 j rfl]; exact hfT
      have hRW : m_RW μ91 := hRW.fr hJ91 rfl
      have hms : m_MS μ91 fT t.toNatClampNeg gi := hms.fr hJ91 rfl
      have hfm : m_FM μ91 sl := hfm.fr hJ91 rfl
      obtain ⟨q91, q91l⟩ := q91
      obtain ⟨x92, hx92⟩ : ∃ z, μ91.1 111 8 = z := ⟨_, rfl⟩
      have tx92 : x92.toInt = ov.toInt + 1 := by rw [← hx92]; exact q91.2.2.2.2
      have hgp : m_GP μ91 := hgp.lo q91l
      have hps : m_PS μ91 := hps.plain (by exact h_ov) (by omega) q91 (funext fun j => hJ91.2.1 118 j rfl) (hJ91.2.1 81 53 rfl) (m_neI (by show vv.toInt ≠ (6 : Int); omega)) (m_neI (by show vv.toInt ≠ (7 : Int); omega)) (m_neI (by show vv.toInt ≠ (8 : Int); omega))
      refine lv_goto (tgt := 174) hx hb dX12_readPlain_21 (by decide) ?_
      refine lv_aload_n hx hb dX12_readPlain_174 rfl (lv_at hl 1 rfl) ?_
      have hal93 := hms.at_le
      rw [show μ91.1 81 36 = av from by exact ((hJ91.2.1 81 36 rfl).trans (by exact h_av))] at hal93
      have ckt := m_ckI (x := t) (by omega)
      refine m_aV hW (m_runV (As := []) (rest := []) hx hb hml hown hts hW (81) (g_X12_reads_f l D cy b (fun g => [24].contains g) μ91 rfl av t (by omega) fT μ91 (IY.rf hI.1) (by exact ((hJ91.2.1 81 36 rfl).trans (by exact h_av))) (by exact ((hJ91.2.1 81 35 rfl).trans (by exact htp))) hfT hRW) mi_X12_reads k_X12_279 rfl rfl rfl hl.1 rfl (Nat.le_of_ble_eq_true rfl) dX12_readPlain_175 ⟨Nat.le_of_ble_eq_true rfl, Nat.le_of_ble_eq_true rfl⟩ ⟨Nat.le_of_ble_eq_true rfl, Nat.le_of_ble_eq_true rfl⟩) (fun μ94 H locs q94 hW => ?_)
      obtain ⟨hJ94, q94⟩ := q94
      have hI := hI.tr hJ94 (m_subL (by simp [hS24]))
      have hfT : μ94.1 106 = fT := by rw [show μ94.1 106 = μ91.1 106 from funext fun j => hJ94.2.1 106 j rfl]; exact hfT
      have hRW : m_RW μ94 := hRW.fr hJ94 rfl
      have hfm : m_FM μ94 sl := hfm.fr hJ94 rfl
      have hps : m_PS μ94 := hps.fr hJ94 rfl rfl rfl
      have hgp : m_GP μ94 := hgp.fr hJ94 rfl rfl
      obtain ⟨q94, q94f⟩ := q94
      have hms : m_MS μ94 fT t.toNatClampNeg (gi + 1) := hms.next (a := av) (by exact ((hJ91.2.1 81 36 rfl).trans (by exact h_av))) q94f
      obtain ⟨x95, hx95⟩ : ∃ z, μ94.1 81 36 = z := ⟨_, rfl⟩
      have bx95 : 0 ≤ x95.toInt ∧ x95.toInt ≤ 400 := by rw [← hx95]; exact hI.1 _ _ _ _ rfl
      rw [show μ94.1 81 36 = x95 from by exact hx95] at q94
      obtain ⟨x96, hx96⟩ : ∃ z, μ94.1 81 37 = z := ⟨_, rfl⟩
      have bx96 : 0 ≤ x96.toInt ∧ x96.toInt ≤ 400 := by rw [← hx96]; exact hI.1 _ _ _ _ rfl
      rw [show μ94.1 81 37 = x96 from by exact hx96] at q94
      obtain ⟨x97, hx97⟩ : ∃ z, μ94.1 81 38 = z := ⟨_, rfl⟩
      have bx97 : 0 ≤ x97.toInt ∧ x97.toInt ≤ 4 := by rw [← hx97]; exact hI.1 _ _ _ _ rfl
      rw [show μ94.1 81 38 = x97 from by exact hx97] at q94
      obtain ⟨x98, hx98⟩ : ∃ z, μ94.1 81 39 = z := ⟨_, rfl⟩
      have bx98 : -1 ≤ x98.toInt ∧ x98.toInt ≤ 99999 := by rw [← hx98]; exact hI.1 _ _ _ _ rfl
      rw [show μ94.1 81 39 = x98 from by exact hx98] at q94
      have hk99 : m_TQ ((t_K fT t.toNatClampNeg) (gi + 1)) (m_VV fT t.toNatClampNeg (gi + 1)) x97 x98 := by
        have z := hms.2.2
        rw [show μ94.1 81 38 = x97 from by exact hx97, show μ94.1 81 39 = x98 from by exact hx98] at z
        exact z
      refine lv_iconst (v := 0) hx hb dX12_readPlain_178 (by decide) ?_
      exact m_iret hx hb hr hlocks hW rfl (⟨hI, ⟨hgp, Or.inr ⟨rfl, by rw [show μ94.1 81 51 = uv from by exact ((hJ94.2.1 81 51 rfl).trans (by exact ((hJ91.2.1 81 51 rfl).trans (by exact h_uv)))), show μ94.1 81 37 = x96 from by exact hx96, show μ94.1 81 36 = x95 from by exact hx95, show μ94.1 81 38 = x97 from by exact hx97, show μ94.1 111 8 = x92 from by exact ((hJ94.2.1 111 8 rfl).trans (by exact hx92))]; omega, hps, _, (by unfold a_plain; rw [if_pos (by have hz := hkk.all; omega)]), hms, hfm⟩⟩⟩) dX12_readPlain_179
