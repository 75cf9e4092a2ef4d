-- PROGRAMS: the eight rows that are kept, and the draft
theorem m_WF.cg {f g f' g' : Nat → Int32} {n : Nat} (h : m_WF f g n) (hf : ∀ i, i < n → f' i = f i) (hg : ∀ i, i < n → g' i = g i) : m_WF f' g' n := by
  have dl : ∀ i, i ≤ n → m_dep f' i = m_dep f i := fun i hi => m_dep_same i (fun j hj => hf j (by omega))
  refine ⟨fun i hi => ?_, fun i hi => by rw [dl i hi]; exact h.2 i hi⟩
  obtain ⟨a1, a2, a3⟩ := h.1 i hi
  rw [hf i hi, hg i hi, dl i (by omega)]
  refine ⟨a1, fun k => ?_, fun k => ?_⟩
  · obtain ⟨b1, t, b2, b3, b4⟩ := a2 k
    exact ⟨b1, t, b2, b3, by rw [dl t (by omega)]; exact b4⟩
  · obtain ⟨t, b2, b3, b4⟩ := a3 k
    exact ⟨t, b2, b3, by rw [dl t b3]; exact b4⟩
def m_WR (μ : mM) (k : Nat) : Prop := (μ.1 111 k).toNatClampNeg ≤ 400 ∧ m_WF (fun i => μ.1 108 (400 * k + i)) (fun i => μ.1 109 (400 * k + i)) (μ.1 111 k).toNatClampNeg
def m_GP (μ : mM) : Prop := ∀ k, k < 8 → m_WR μ k
def m_WD (μ : mM) : Prop := m_WF (fun i => μ.1 108 (3200 + i)) (fun i => μ.1 109 (3200 + i)) (μ.1 111 8).toNatClampNeg
def m_lo (μ ν : mM) : Prop := (∀ i, i < 3200 → ν.1 108 i = μ.1 108 i) ∧ (∀ i, i < 3200 → ν.1 109 i = μ.1 109 i) ∧ ∀ j, j < 8 → ν.1 111 j = μ.1 111 j
theorem m_GP.lo {μ ν : mM} (h : m_GP μ) (hl : m_lo μ ν) : m_GP ν := by
  intro k hk
  obtain ⟨h1, h2⟩ := h k hk
  unfold m_WR
  rw [hl.2.2 k hk]
  exact ⟨h1, h2.cg (fun i hi => hl.1 _ (by omega)) (fun i hi => hl.2.1 _ (by omega))⟩
theorem m_GP.cg {μ ν : mM} (h : m_GP μ) (h1 : ν.1 108 = μ.1 108) (h2 : ν.1 109 = μ.1 109) (h3 : ν.1 111 = μ.1 111) : m_GP ν := h.lo ⟨fun _ _ => by rw [h1], fun _ _ => by rw [h2], fun _ _ => by rw [h3]⟩
theorem m_GP.fr {S : Nat → Bool} {μ ν : mM} (h : m_GP μ) (hJ : IY S μ ν) (h1 : S 41 = false) (h2 : S 33 = false) : m_GP ν :=
  h.cg (funext fun j => hJ.2.1 108 j h1) (funext fun j => hJ.2.1 109 j h1) (funext fun j => hJ.2.1 111 j h2)
theorem m_GP.si {μ ν : mM} (h : m_GP μ) {k j : Nat} {v : Int32} (e : m_si μ k j v = ν) (h1 : 108 ≠ k) (h2 : 109 ≠ k) (h3 : 111 ≠ k) : m_GP ν := by
  subst e
  exact h.cg (m_si_row h1) (m_si_row h2) (m_si_row h3)
theorem m_GP.pa {μ ν : mM} (h : m_GP μ) {j : Nat} {v : Int32} (e : m_si μ 109 j v = ν) (hj : 3200 ≤ j) : m_GP ν := by
  subst e
  exact h.lo ⟨fun _ _ => by rw [m_si_row (by decide)], fun i hi => m_si_el (by omega), fun _ _ => by rw [m_si_row (by decide)]⟩
theorem m_GP.pm {μ ν : mM} (h : m_GP μ) {v : Int32} (e : m_si μ 111 8 v = ν) : m_GP ν := by
  subst e
  exact h.lo ⟨fun _ _ => by rw [m_si_row (by decide)], fun _ _ => by rw [m_si_row (by decide)], fun i hi => m_si_el (by omega)⟩
theorem m_lo_of {μ : mM} {w a z ov x k : Int32} (hk : k.toInt = 3200 + ov.toInt) (h0 : 0 ≤ ov.toInt) : m_lo μ (m_si (m_si (m_si (m_si μ 108 k.toNatClampNeg w) 109 k.toNatClampNeg a) 110 k.toNatClampNeg z) 111 8 x) := by
  have hc := m_ckI (x := k) (by omega)
  refine ⟨fun i hi => ?_, fun i hi => ?_, fun i hi => ?_⟩
  · rw [m_si_ne (by decide), m_si_ne (by decide), m_si_ne (by decide), m_si_el (by omega)]
  · rw [m_si_ne (by decide), m_si_ne (by decide), m_si_el (by omega), m_si_ne (by decide)]
  · rw [m_si_el (by omega), m_si_ne (by decide), m_si_ne (by decide), m_si_ne (by decide)]
theorem m_PS_z {μ : mM} (h1 : μ.1 111 8 = 0) (h2 : μ.1 81 53 = 0) : m_PS μ := by
  unfold m_PS
  rw [h1, h2]
  exact m_DF.z
theorem m_PS.wd {μ : mM} (h : m_PS μ) {nv : Int32} (hn : μ.1 81 53 = nv) (h0 : nv.toInt ≤ 0) : m_WD μ := by
  unfold m_PS at h
  have c : nv.toNatClampNeg = 0 := by
    show nv.toInt.toNat = 0
    omega
  rw [hn, c] at h
  exact h.wf
theorem m_neI {x y : Int32} (h : x.toInt ≠ y.toInt) : x ≠ y := fun e => h (by rw [e])
set_option maxHeartbeats 4000000 in
set_option maxRecDepth 100000 in
theorem g_X12_fails (l : Launch) (D : va_G) (cy : Nat → ClassId) (b : Nat) (S : Nat → Bool) (μ0 : mM) (hS36 : S 36 = true) (k : Int32) (μ : mM) (hI : IY S μ0 μ) : m_Ci l yX12_fails cX12_fails 2 ((some .int)) 0 D cy b LAY μ [.ref (b + 81), .int k] (fun r ν => IY S μ0 ν ∧ (r = -1)) := by
  unfold m_Ci
  refine m_of (by decide) (Nat.le_of_ble_eq_true rfl) ?_
  intro p e s m below meth c hx hb hr hml hown hts hlocks _ hW ls hl
  have hown : s.vm.findClass RX12 = some m.cls := hown
  have hl : lv_has ls 2 [(0, .ref (b + 81)), (1, .int k)] := hl
  refine lv_aload_n hx hb dX12_fails_0 rfl (lv_at hl 0 rfl) ?_
  refine lv_iload_n hx hb dX12_fails_1 rfl (lv_at hl 1 rfl) ?_
  refine m_puti hx hb hts hown hW (81) 54 rfl rfl cw_12 tyX12_ok nmX12 rfl (by decide) k_X12_273 rfl rfl rfl dX12_fails_2 (fun H locs hW _ => ?_)
  generalize hμ1 : m_si μ (81) 54 k = μ1 at hW
  have hI := hI.si0 hμ1 rfl hS36
  refine lv_aload_n hx hb dX12_fails_5 rfl (lv_at hl 0 rfl) ?_
  refine lv_aload_n hx hb dX12_fails_6 rfl (lv_at hl 0 rfl) ?_
  refine m_geti hx hb hts hown hW (81) 37 rfl rfl cw_12 rfl (by decide) k_X12_251 dX12_fails_7 ?_
  refine lv_topi (fun x2 ex2 => ?_)
  have bx2 : 0 ≤ x2.toInt ∧ x2.toInt ≤ 400 := by rw [ex2]; exact hI.1 _ _ _ _ rfl
  refine m_puti hx hb hts hown hW (81) 55 rfl rfl cw_12 tyX12_ok nmX12 rfl (by decide) k_X12_276 rfl rfl rfl dX12_fails_10 (fun H locs hW _ => ?_)
  generalize hμ3 : m_si μ1 (81) 55 x2 = μ3 at hW
  have hI := hI.si0 hμ3 rfl hS36
  refine lv_iconst (v := (-1)) hx hb dX12_fails_13 (by decide) ?_
  exact m_iret hx hb hr hlocks hW rfl (⟨hI, rfl⟩) dX12_fails_14
set_option maxHeartbeats 4000000 in
set_option maxRecDepth 100000 in
theorem g_X12_isWord (l : Launch) (D : va_G) (cy : Nat → ClassId) (b : Nat) (k : Int32) (μ : mM) (hI : IX μ) : m_Ci l yX12_isWord cX12_isWord 2 ((some .boolean)) 0 D cy b LAY μ [.ref (b + 81), .int k] (fun r ν => μ = ν ∧ ((r = 1 ∧ (μ.1 81 38).toInt = 2) ∨ r = 0)) := by
  unfold m_Ci
  refine m_of (by decide) (Nat.le_of_ble_eq_true rfl) ?_
  intro p e s m below meth c hx hb hr hml hown hts hlocks _ hW ls hl
  have hown : s.vm.findClass RX12 = some m.cls := hown
  have hl : lv_has ls 2 [(0, .ref (b + 81)), (1, .int k)] := hl
  refine lv_aload_n hx hb dX12_isWord_0 rfl (lv_at hl 0 rfl) ?_
  refine m_geti hx hb hts hown hW (81) 38 rfl rfl cw_12 rfl (by decide) k_X12_254 dX12_isWord_1 ?_
  refine lv_topi (fun x1 ex1 => ?_)
  have bx1 : 0 ≤ x1.toInt ∧ x1.toInt ≤ 4 := by rw [ex1]; exact hI _ _ _ _ rfl
  refine lv_iconst (v := 2) hx hb dX12_isWord_4 (by decide) ?_
  refine lv_icmp_ne (tgt := 20) hx hb dX12_isWord_5 (by decide) (fun c2 => ?_) (fun c2 => ?_)
  · have i2 := m_c6 (rfl : x1.toInt = _) (by decide : (2 : Int32).toInt = 2) c2
    refine lv_iconst (v := 0) hx hb dX12_isWord_20 (by decide) ?_
    exact m_iret hx hb hr hlocks hW (by decide) (⟨rfl, Or.inr rfl⟩) dX12_isWord_21
  · have i2 := m_c5 (rfl : x1.toInt = _) (by decide : (2 : Int32).toInt = 2) c2
    refine lv_aload_n hx hb dX12_isWord_8 rfl (lv_at hl 0 rfl) ?_
    refine m_geti hx hb hts hown hW (81) 39 rfl rfl cw_12 rfl (by decide) k_X12_257 dX12_isWord_9 ?_
    refine lv_topi (fun x3 ex3 => ?_)
    have bx3 : -1 ≤ x3.toInt ∧ x3.toInt ≤ 99999 := by rw [ex3]; exact hI _ _ _ _ rfl
    refine lv_iload_n hx hb dX12_isWord_12 rfl (lv_at hl 1 rfl) ?_
    refine lv_icmp_ne (tgt := 20) hx hb dX12_isWord_13 (by decide) (fun c4 => ?_) (fun c4 => ?_)
    · have i4 := m_c6 (rfl : x3.toInt = _) (rfl : k.toInt = _) c4
      refine lv_iconst (v := 0) hx hb dX12_isWord_20 (by decide) ?_
      exact m_iret hx hb hr hlocks hW (by decide) (⟨rfl, Or.inr rfl⟩) dX12_isWord_21
    · have i4 := m_c5 (rfl : x3.toInt = _) (rfl : k.toInt = _) c4
      refine lv_iconst (v := 1) hx hb dX12_isWord_16 (by decide) ?_
      refine lv_goto (tgt := 21) hx hb dX12_isWord_17 (by decide) ?_
      exact m_iret hx hb hr hlocks hW (by decide) (⟨rfl, Or.inl ⟨rfl, by rw [show μ.1 81 38 = x1 from by exact ex1.symm]; omega⟩⟩) dX12_isWord_21
set_option maxHeartbeats 4000000 in
set_option maxRecDepth 100000 in
theorem g_X12_isSign (l : Launch) (D : va_G) (cy : Nat → ClassId) (b : Nat) (k : Int32) (μ : mM) (hI : IX μ) : m_Ci l yX12_isSign cX12_isSign 2 ((some .boolean)) 0 D cy b LAY μ [.ref (b + 81), .int k] (fun r ν => μ = ν ∧ ((r = 1 ∧ (μ.1 81 38).toInt = 4) ∨ r = 0)) := by
  unfold m_Ci
  refine m_of (by decide) (Nat.le_of_ble_eq_true rfl) ?_
  intro p e s m below meth c hx hb hr hml hown hts hlocks _ hW ls hl
  have hown : s.vm.findClass RX12 = some m.cls := hown
  have hl : lv_has ls 2 [(0, .ref (b + 81)), (1, .int k)] := hl
  refine lv_aload_n hx hb dX12_isSign_0 rfl (lv_at hl 0 rfl) ?_
  refine m_geti hx hb hts hown hW (81) 38 rfl rfl cw_12 rfl (by decide) k_X12_254 dX12_isSign_1 ?_
  refine lv_topi (fun x1 ex1 => ?_)
  have bx1 : 0 ≤ x1.toInt ∧ x1.toInt ≤ 4 := by rw [ex1]; exact hI _ _ _ _ rfl
  refine lv_iconst (v := 4) hx hb dX12_isSign_4 (by decide) ?_
  refine lv_icmp_ne (tgt := 20) hx hb dX12_isSign_5 (by decide) (fun c2 => ?_) (fun c2 => ?_)
  · have i2 := m_c6 (rfl : x1.toInt = _) (by decide : (4 : Int32).toInt = 4) c2
    refine lv_iconst (v := 0) hx hb dX12_isSign_20 (by decide) ?_
    exact m_iret hx hb hr hlocks hW (by decide) (⟨rfl, Or.inr rfl⟩) dX12_isSign_21
  · have i2 := m_c5 (rfl : x1.toInt = _) (by decide : (4 : Int32).toInt = 4) c2
    refine lv_aload_n hx hb dX12_isSign_8 rfl (lv_at hl 0 rfl) ?_
    refine m_geti hx hb hts hown hW (81) 39 rfl rfl cw_12 rfl (by decide) k_X12_257 dX12_isSign_9 ?_
    refine lv_topi (fun x3 ex3 => ?_)
    have bx3 : -1 ≤ x3.toInt ∧ x3.toInt ≤ 99999 := by rw [ex3]; exact hI _ _ _ _ rfl
    refine lv_iload_n hx hb dX12_isSign_12 rfl (lv_at hl 1 rfl) ?_
    refine lv_icmp_ne (tgt := 20) hx hb dX12_isSign_13 (by decide) (fun c4 => ?_) (fun c4 => ?_)
    · have i4 := m_c6 (rfl : x3.toInt = _) (rfl : k.toInt = _) c4
      refine lv_iconst (v := 0) hx hb dX12_isSign_20 (by decide) ?_
      exact m_iret hx hb hr hlocks hW (by decide) (⟨rfl, Or.inr rfl⟩) dX12_isSign_21
    · have i4 := m_c5 (rfl : x3.toInt = _) (rfl : k.toInt = _) c4
      refine lv_iconst (v := 1) hx hb dX12_isSign_16 (by decide) ?_
      refine lv_goto (tgt := 21) hx hb dX12_isSign_17 (by decide) ?_
      exact m_iret hx hb hr hlocks hW (by decide) (⟨rfl, Or.inl ⟨rfl, by rw [show μ.1 81 38 = x1 from by exact ex1.symm]; omega⟩⟩) dX12_isSign_21
set_option maxHeartbeats 4000000 in
set_option maxRecDepth 100000 in
theorem g_X12_emits (l : Launch) (D : va_G) (cy : Nat → ClassId) (b : Nat) (S : Nat → Bool) (μ0 : mM) (hS25 : S 25 = true) (hS33 : S 33 = true) (hS41 : S 41 = true) (ov : Int32) (h_ov : 0 ≤ ov.toInt ∧ ov.toInt ≤ 399) (k u v : Int32) (h_u : 0 ≤ u.toInt ∧ u.toInt ≤ 99999) (μ : mM) (hI : IY S μ0 μ) (ho : μ.1 111 8 = ov) : m_Cv l yX12_emits cX12_emits 5 (none) 0 D cy b LAY μ [.ref (b + 81), .int k, .int u, .int v] (fun ν => IY S μ0 ν ∧ (m_em μ ν k u ov ∧ m_lo μ ν)) := by
  unfold m_Cv
  refine m_of (by decide) (Nat.le_of_ble_eq_true rfl) ?_
  intro p e s m below meth c hx hb hr hml hown hts hlocks _ hW ls hl
  have hown : s.vm.findClass RX12 = some m.cls := hown
  have hl : lv_has ls 5 [(0, .ref (b + 81)), (1, .int k), (2, .int u), (3, .int v)] := hl
  refine lv_sipush (v := 3200) hx hb dX12_emits_0 (by decide) ?_
  refine lv_aload_n hx hb dX12_emits_3 rfl (lv_at hl 0 rfl) ?_
  refine m_getr hx hb hts hown hW (81) 44 (111) rfl rfl cw_12 rfl (by decide) k_X12_110 dX12_emits_4 ?_
  refine lv_bipush (v := 8) hx hb dX12_emits_7 (by decide) ?_
  refine m_iald hx hb hW (111) rfl (vp_in_iff.mpr ⟨by decide, by decide⟩) dX12_emits_9 ?_
  refine lv_topi (fun x1 ex1 => ?_)
  have ex1 : x1 = ov := by rw [ex1]; exact ho
  have ex1 := ex1.symm
  subst ex1
  refine lv_iadd hx hb dX12_emits_10 ?_
  refine lv_topi (fun x2 ex2 => ?_)
  have tx2 : x2.toInt = 3200 + ov.toInt := m_addI ex2 (by decide : (3200 : Int32).toInt = 3200) (rfl : ov.toInt = _) (by omega) (by omega)
  refine lv_istore (lv' := [(4, .int x2), (0, .ref (b + 81)), (1, .int k), (2, .int u), (3, .int v)]) hx hb dX12_emits_11 hl (by decide) rfl (fun ls hl => ?_)
  refine lv_aload_n hx hb dX12_emits_13 rfl (lv_at hl 1 rfl) ?_
  refine m_getr hx hb hts hown hW (81) 41 (108) rfl rfl cw_12 rfl (by decide) k_X12_101 dX12_emits_14 ?_
  refine lv_iload hx hb dX12_emits_17 (lv_at hl 0 rfl) ?_
  refine lv_iload_n hx hb dX12_emits_19 rfl (lv_at hl 2 rfl) ?_
  refine m_iast hx hb hW (108) rfl (m_ixI (rfl : x2.toInt = _) (by omega) (by omega)) dX12_emits_20 (fun H locs hW _ => ?_)
  generalize hμ3 : m_si μ (108) (x2 : Int32).toNatClampNeg k = μ3 at hW
  have hI := hI.si0 hμ3 rfl hS41
  refine lv_aload_n hx hb dX12_emits_21 rfl (lv_at hl 1 rfl) ?_
  refine m_getr hx hb hts hown hW (81) 42 (109) rfl rfl cw_12 rfl (by decide) k_X12_104 dX12_emits_22 ?_
  refine lv_iload hx hb dX12_emits_25 (lv_at hl 0 rfl) ?_
  refine lv_iload_n hx hb dX12_emits_27 rfl (lv_at hl 3 rfl) ?_
  refine m_iast hx hb hW (109) rfl (m_ixI (rfl : x2.toInt = _) (by omega) (by omega)) dX12_emits_28 (fun H locs hW _ => ?_)
  generalize hμ4 : m_si μ3 (109) (x2 : Int32).toNatClampNeg u = μ4 at hW
  have hI := hI.si1 hμ4 rfl (by omega) hS41
  refine lv_aload_n hx hb dX12_emits_29 rfl (lv_at hl 1 rfl) ?_
  refine m_getr hx hb hts hown hW (81) 43 (110) rfl rfl cw_12 rfl (by decide) k_X12_107 dX12_emits_30 ?_
  refine lv_iload hx hb dX12_emits_33 (lv_at hl 0 rfl) ?_
  refine lv_iload_n hx hb dX12_emits_35 rfl (lv_at hl 4 rfl) ?_
  refine m_iast hx hb hW (110) rfl (m_ixI (rfl : x2.toInt = _) (by omega) (by omega)) dX12_emits_36 (fun H locs hW _ => ?_)
  generalize hμ5 : m_si μ4 (110) (x2 : Int32).toNatClampNeg v = μ5 at hW
  have hI := hI.si0 hμ5 rfl hS25
  refine lv_aload_n hx hb dX12_emits_37 rfl (lv_at hl 1 rfl) ?_
  refine m_getr hx hb hts hown hW (81) 44 (111) rfl rfl cw_12 rfl (by decide) k_X12_110 dX12_emits_38 ?_
  refine lv_bipush (v := 8) hx hb dX12_emits_41 (by decide) ?_
  refine lv_aload_n hx hb dX12_emits_43 rfl (lv_at hl 1 rfl) ?_
  refine m_getr hx hb hts hown hW (81) 44 (111) rfl rfl cw_12 rfl (by decide) k_X12_110 dX12_emits_44 ?_
  refine lv_bipush (v := 8) hx hb dX12_emits_47 (by decide) ?_
  refine m_iald hx hb hW (111) rfl (vp_in_iff.mpr ⟨by decide, by decide⟩) dX12_emits_49 ?_
  refine lv_topi (fun x6 ex6 => ?_)
  have ex6 : x6 = ov := by rw [ex6, ← hμ5, ← hμ4, ← hμ3]; exact ho
  have ex6 := ex6.symm
  subst ex6
  refine lv_iconst (v := 1) hx hb dX12_emits_50 (by decide) ?_
  refine lv_iadd hx hb dX12_emits_51 ?_
  refine lv_topi (fun x7 ex7 => ?_)
  have tx7 : x7.toInt = ov.toInt + 1 := m_addI ex7 (rfl : ov.toInt = _) (by decide : (1 : Int32).toInt = 1) (by omega) (by omega)
  refine m_iast hx hb hW (111) rfl (vp_in_iff.mpr ⟨by decide, by decide⟩) dX12_emits_52 (fun H locs hW _ => ?_)
  generalize hμ8 : m_si μ5 (111) (8 : Int32).toNatClampNeg x7 = μ8 at hW
  have hI := hI.si1 hμ8 rfl (by omega) hS33
  exact m_vret hx hb hr hlocks hW (⟨hI, by rw [← hμ8, ← hμ5, ← hμ4, ← hμ3]; exact ⟨m_em_of (by omega) (by omega) (by omega), m_lo_of (by omega) (by omega)⟩⟩) dX12_emits_53
set_option maxHeartbeats 4000000 in
set_option maxRecDepth 100000 in
theorem g_X12_readNumber (l : Launch) (D : va_G) (cy : Nat → ClassId) (b : Nat) (S : Nat → Bool) (μ0 : mM) (hS24 : S 24 = true) (hS36 : S 36 = true) (av : Int32) (h_g : 0 ≤ av.toInt ∧ av.toInt ≤ 400) (μ : mM) (hI : IY S μ0 μ) (h_av : μ.1 81 36 = av) : m_Ci l yX12_readNumber cX12_readNumber 1 ((some .int)) 3 D cy b LAY μ [.ref (b + 81)] (fun r ν => IY S μ0 ν ∧ (r = -1 ∨ (0 ≤ r.toInt ∧ r.toInt ≤ 99999 ∧ av.toInt ≤ (ν.1 81 37).toInt ∧ (ν.1 81 37).toInt + 1 ≤ (ν.1 81 36).toInt))) := by
  unfold m_Ci
  refine m_of (by decide) (Nat.le_of_ble_eq_true rfl) ?_
  intro p e s m below meth c hx hb hr hml hown hts hlocks _ hW ls hl
  have hown : s.vm.findClass RX12 = some m.cls := hown
  have hl : lv_has ls 1 [(0, .ref (b + 81))] := hl
  refine lv_aload_n hx hb dX12_readNumber_0 rfl (lv_at hl 0 rfl) ?_
  refine m_aV hW (m_runV (As := []) (rest := []) hx hb hml hown hts hW (81) (g_X12_reads l D cy b S μ0 hS24 av (by omega) μ hI (by exact h_av)) mi_X12_reads k_X12_279 rfl rfl rfl hl.1 rfl (Nat.le_of_ble_eq_true rfl) dX12_readNumber_1 ⟨Nat.le_of_ble_eq_true rfl, Nat.le_of_ble_eq_true rfl⟩ ⟨Nat.le_of_ble_eq_true rfl, Nat.le_of_ble_eq_true rfl⟩) (fun μ1 H locs q1 hW => ?_)
  obtain ⟨hI, q1⟩ := q1
  obtain ⟨x2, hx2⟩ : ∃ z, μ1.1 81 36 = z := ⟨_, rfl⟩
  have bx2 : 0 ≤ x2.toInt ∧ x2.toInt ≤ 400 := by rw [← hx2]; exact hI.1 _ _ _ _ rfl
  rw [show μ1.1 81 36 = x2 from by exact hx2] at q1
  obtain ⟨x3, hx3⟩ : ∃ z, μ1.1 81 37 = z := ⟨_, rfl⟩
  have bx3 : 0 ≤ x3.toInt ∧ x3.toInt ≤ 400 := by rw [← hx3]; exact hI.1 _ _ _ _ rfl
  rw [show μ1.1 81 37 = x3 from by exact hx3] at q1
  obtain ⟨x4, hx4⟩ : ∃ z, μ1.1 81 38 = z := ⟨_, rfl⟩
  have bx4 : 0 ≤ x4.toInt ∧ x4.toInt ≤ 4 := by rw [← hx4]; exact hI.1 _ _ _ _ rfl
  rw [show μ1.1 81 38 = x4 from by exact hx4] at q1
  obtain ⟨x5, hx5⟩ : ∃ z, μ1.1 81 39 = z := ⟨_, rfl⟩
  have bx5 : -1 ≤ x5.toInt ∧ x5.toInt ≤ 99999 := by rw [← hx5]; exact hI.1 _ _ _ _ rfl
  rw [show μ1.1 81 39 = x5 from by exact hx5] at q1
  refine lv_aload_n hx hb dX12_readNumber_4 rfl (lv_at hl 0 rfl) ?_
  refine m_geti hx hb hts hown hW (81) 38 rfl rfl cw_12 rfl (by decide) k_X12_254 dX12_readNumber_5 ?_
  refine lv_topi (fun x6 ex6 => ?_)
  have ex6 : x6 = x4 := by rw [ex6]; exact hx4
  have ex6 := ex6.symm
  subst ex6
  refine lv_iconst (v := 3) hx hb dX12_readNumber_8 (by decide) ?_
  refine lv_icmp_ne (tgt := 19) hx hb dX12_readNumber_9 (by decide) (fun c7 => ?_) (fun c7 => ?_)
  · have i7 := m_c6 (rfl : x4.toInt = _) (by decide : (3 : Int32).toInt = 3) c7
    refine lv_aload_n hx hb dX12_readNumber_19 rfl (lv_at hl 0 rfl) ?_
    refine lv_iconst (v := 1) hx hb dX12_readNumber_20 (by decide) ?_
    have l_1 : (1 : Int32).toInt = 1 := by decide
    refine m_aI hW (m_runV (As := [.int 1]) (rest := []) hx hb hml hown hts hW (81) (g_X12_fails l D cy b (fun g => [36].contains g) μ1 rfl 1 μ1 (IY.rf hI.1)) mi_X12_fails k_X12_282 rfl rfl rfl hl.1 rfl (Nat.le_of_ble_eq_true rfl) dX12_readNumber_21 ⟨Nat.le_of_ble_eq_true rfl, Nat.le_of_ble_eq_true rfl⟩ ⟨Nat.le_of_ble_eq_true rfl, Nat.le_of_ble_eq_true rfl⟩) (fun x8 μ8 H locs q8 hW => ?_)
    obtain ⟨hJ8, q8⟩ := q8
    have hI := hI.tr hJ8 (m_subL (by simp [hS36]))
    have q8 := q8.symm
    subst q8
    exact m_iret hx hb hr hlocks hW rfl (⟨hI, Or.inl rfl⟩) dX12_readNumber_24
  · have i7 := m_c5 (rfl : x4.toInt = _) (by decide : (3 : Int32).toInt = 3) c7
    refine lv_aload_n hx hb dX12_readNumber_12 rfl (lv_at hl 0 rfl) ?_
    refine m_geti hx hb hts hown hW (81) 39 rfl rfl cw_12 rfl (by decide) k_X12_257 dX12_readNumber_13 ?_
    refine lv_topi (fun x9 ex9 => ?_)
    have ex9 : x9 = x5 := by rw [ex9]; exact hx5
    have ex9 := ex9.symm
    subst ex9
    refine lv_goto (tgt := 24) hx hb dX12_readNumber_16 (by decide) ?_
    exact m_iret hx hb hr hlocks hW rfl (⟨hI, Or.inr (by rw [show μ1.1 81 37 = x3 from by exact hx3, show μ1.1 81 36 = x2 from by exact hx2]; omega)⟩) dX12_readNumber_24
set_option maxHeartbeats 4000000 in
set_option maxRecDepth 100000 in
theorem g_X12_readUnit (l : Launch) (D : va_G) (cy : Nat → ClassId) (b : Nat) (S : Nat → Bool) (μ0 : mM) (hS24 : S 24 = true) (hS25 : S 25 = true) (hS34 : S 34 = true) (hS36 : S 36 = true) (av fv tk uv : Int32) (h_g : 0 ≤ av.toInt ∧ av.toInt ≤ 400 ∧ 0 ≤ fv.toInt ∧ fv.toInt ≤ 400 ∧ 0 ≤ tk.toInt ∧ tk.toInt ≤ 4 ∧ 0 ≤ uv.toInt ∧ uv.toInt ≤ 400 ∧ uv.toInt ≤ fv.toInt ∧ fv.toInt ≤ av.toInt ∧ (tk.toInt = 0 ∨ fv.toInt + 1 ≤ av.toInt)) (k : Int32) (μ : mM) (hI : IY S μ0 μ) (h_av : μ.1 81 36 = av) (h_fv : μ.1 81 37 = fv) (h_tk : μ.1 81 38 = tk) (h_uv : μ.1 81 51 = uv) : m_Ci l yX12_readUnit cX12_readUnit 4 ((some .int)) 3 D cy b LAY μ [.ref (b + 81), .int k] (fun r ν => IY S μ0 ν ∧ (r = -1 ∨ (r = 0 ∧ ((ν.1 81 51).toInt ≤ (ν.1 81 37).toInt ∧ fv.toInt + 1 ≤ (ν.1 81 37).toInt ∧ (ν.1 81 37).toInt ≤ (ν.1 81 36).toInt ∧ ((ν.1 81 38).toInt = 0 ∨ (ν.1 81 37).toInt + 1 ≤ (ν.1 81 36).toInt))))) := by
  unfold m_Ci
  refine m_of (by decide) (Nat.le_of_ble_eq_true rfl) ?_
  intro p e s m below meth c hx hb hr hml hown hts hlocks _ hW ls hl
  have hown : s.vm.findClass RX12 = some m.cls := hown
  have hl : lv_has ls 4 [(0, .ref (b + 81)), (1, .int k)] := hl
  refine lv_aload_n hx hb dX12_readUnit_0 rfl (lv_at hl 0 rfl) ?_
  refine m_geti hx hb hts hown hW (81) 38 rfl rfl cw_12 rfl (by decide) k_X12_254 dX12_readUnit_1 ?_
  refine lv_topi (fun x1 ex1 => ?_)
  have ex1 : x1 = tk := by rw [ex1]; exact h_tk
  have ex1 := ex1.symm
  subst ex1
  refine lv_iconst (v := 2) hx hb dX12_readUnit_4 (by decide) ?_
  refine lv_icmp_ne (tgt := 27) hx hb dX12_readUnit_5 (by decide) (fun c2 => ?_) (fun c2 => ?_)
  · have i2 := m_c6 (rfl : tk.toInt = _) (by decide : (2 : Int32).toInt = 2) c2
    refine lv_iconst (v := 0) hx hb dX12_readUnit_27 (by decide) ?_
    refine lv_istore_n (lv' := [(2, .int 0), (0, .ref (b + 81)), (1, .int k)]) hx hb dX12_readUnit_28 rfl hl (by decide) rfl (fun ls hl => ?_)
    refine lv_iload_n hx hb dX12_readUnit_29 rfl (lv_at hl 0 rfl) ?_
    refine lv_if_ne (tgt := 47) hx hb dX12_readUnit_30 (by decide) (fun c => False.elim (by revert c; decide)) (fun _ => ?_)
    refine lv_aload_n hx hb dX12_readUnit_33 rfl (lv_at hl 1 rfl) ?_
    refine m_geti hx hb hts hown hW (81) 38 rfl rfl cw_12 rfl (by decide) k_X12_254 dX12_readUnit_34 ?_
    refine lv_topi (fun x3 ex3 => ?_)
    have ex3 : x3 = tk := by rw [ex3]; exact h_tk
    have ex3 := ex3.symm
    subst ex3
    refine lv_iconst (v := 3) hx hb dX12_readUnit_37 (by decide) ?_
    refine lv_icmp_eq (tgt := 47) hx hb dX12_readUnit_38 (by decide) (fun c4 => ?_) (fun c4 => ?_)
    · have i4 := m_c5 (rfl : tk.toInt = _) (by decide : (3 : Int32).toInt = 3) c4
      refine lv_sipush (v := 3200) hx hb dX12_readUnit_47 (by decide) ?_
      refine lv_aload_n hx hb dX12_readUnit_50 rfl (lv_at hl 1 rfl) ?_
      refine m_geti hx hb hts hown hW (81) 51 rfl rfl cw_12 rfl (by decide) k_X12_285 dX12_readUnit_51 ?_
      refine lv_topi (fun x5 ex5 => ?_)
      have ex5 : x5 = uv := by rw [ex5]; exact h_uv
      have ex5 := ex5.symm
      subst ex5
      refine lv_iadd hx hb dX12_readUnit_54 ?_
      refine lv_topi (fun x6 ex6 => ?_)
      have tx6 : x6.toInt = 3200 + uv.toInt := m_addI ex6 (by decide : (3200 : Int32).toInt = 3200) (rfl : uv.toInt = _) (by omega) (by omega)
      refine lv_istore_n (lv' := [(3, .int x6), (2, .int 0), (0, .ref (b + 81)), (1, .int k)]) hx hb dX12_readUnit_55 rfl hl (by decide) rfl (fun ls hl => ?_)
      refine lv_aload_n hx hb dX12_readUnit_56 rfl (lv_at hl 2 rfl) ?_
      refine m_getr hx hb hts hown hW (81) 48 (115) rfl rfl cw_12 rfl (by decide) k_X12_122 dX12_readUnit_57 ?_
      refine lv_iload_n hx hb dX12_readUnit_60 rfl (lv_at hl 0 rfl) ?_
      refine lv_iload_n hx hb dX12_readUnit_61 rfl (lv_at hl 3 rfl) ?_
      refine m_iast hx hb hW (115) rfl (m_ixI (rfl : x6.toInt = _) (by omega) (by omega)) dX12_readUnit_62 (fun H locs hW _ => ?_)
      generalize hμ7 : m_si μ (115) (x6 : Int32).toNatClampNeg k = μ7 at hW
      have hI := hI.si0 hμ7 rfl hS25
      refine lv_aload_n hx hb dX12_readUnit_63 rfl (lv_at hl 2 rfl) ?_
      refine m_getr hx hb hts hown hW (81) 49 (116) rfl rfl cw_12 rfl (by decide) k_X12_125 dX12_readUnit_64 ?_
      refine lv_iload_n hx hb dX12_readUnit_67 rfl (lv_at hl 0 rfl) ?_
      refine lv_iload_n hx hb dX12_readUnit_68 rfl (lv_at hl 1 rfl) ?_
      refine lv_if_eq (tgt := 79) hx hb dX12_readUnit_69 (by decide) (fun _ => ?_) (fun c => False.elim (by revert c; decide))
      refine lv_iconst (v := 0) hx hb dX12_readUnit_79 (by decide) ?_
      refine m_iast hx hb hW (116) rfl (m_ixI (rfl : x6.toInt = _) (by omega) (by omega)) dX12_readUnit_80 (fun H locs hW _ => ?_)
      generalize hμ8 : m_si μ7 (116) (x6 : Int32).toNatClampNeg 0 = μ8 at hW
      have hI := hI.si0 hμ8 rfl hS25
      refine lv_aload_n hx hb dX12_readUnit_81 rfl (lv_at hl 2 rfl) ?_
      refine m_getr hx hb hts hown hW (81) 50 (117) rfl rfl cw_12 rfl (by decide) k_X12_128 dX12_readUnit_82 ?_
      refine lv_iload_n hx hb dX12_readUnit_85 rfl (lv_at hl 0 rfl) ?_
      refine lv_aload_n hx hb dX12_readUnit_86 rfl (lv_at hl 2 rfl) ?_
      refine m_geti hx hb hts hown hW (81) 39 rfl rfl cw_12 rfl (by decide) k_X12_257 dX12_readUnit_87 ?_
      refine lv_topi (fun x9 ex9 => ?_)
      have bx9 : -1 ≤ x9.toInt ∧ x9.toInt ≤ 99999 := by rw [ex9]; exact hI.1 _ _ _ _ rfl
      refine m_iast hx hb hW (117) rfl (m_ixI (rfl : x6.toInt = _) (by omega) (by omega)) dX12_readUnit_90 (fun H locs hW _ => ?_)
      generalize hμ10 : m_si μ8 (117) (x6 : Int32).toNatClampNeg x9 = μ10 at hW
      have hI := hI.si0 hμ10 rfl hS25
      refine lv_aload_n hx hb dX12_readUnit_91 rfl (lv_at hl 2 rfl) ?_
      refine lv_aload_n hx hb dX12_readUnit_92 rfl (lv_at hl 2 rfl) ?_
      refine m_geti hx hb hts hown hW (81) 51 rfl rfl cw_12 rfl (by decide) k_X12_285 dX12_readUnit_93 ?_
      refine lv_topi (fun x11 ex11 => ?_)
      have ex11 : x11 = uv := by rw [ex11, ← hμ10, ← hμ8, ← hμ7]; exact h_uv
      have ex11 := ex11.symm
      subst ex11
      refine lv_iconst (v := 1) hx hb dX12_readUnit_96 (by decide) ?_
      refine lv_iadd hx hb dX12_readUnit_97 ?_
      refine lv_topi (fun x12 ex12 => ?_)
      have tx12 : x12.toInt = uv.toInt + 1 := m_addI ex12 (rfl : uv.toInt = _) (by decide : (1 : Int32).toInt = 1) (by omega) (by omega)
      refine m_puti hx hb hts hown hW (81) 51 rfl rfl cw_12 tyX12_ok nmX12 rfl (by decide) k_X12_285 rfl rfl rfl dX12_readUnit_98 (fun H locs hW _ => ?_)
      generalize hμ13 : m_si μ10 (81) 51 x12 = μ13 at hW
      have hI := hI.si1 hμ13 rfl (by omega) hS34
      refine lv_aload_n hx hb dX12_readUnit_101 rfl (lv_at hl 2 rfl) ?_
      refine m_aV hW (m_runV (As := []) (rest := []) hx hb hml hown hts hW (81) (g_X12_reads l D cy b (fun g => [24].contains g) μ13 rfl av (by omega) μ13 (IY.rf hI.1) (by rw [← hμ13, ← hμ10, ← hμ8, ← hμ7]; exact h_av)) mi_X12_reads k_X12_279 rfl rfl rfl hl.1 rfl (Nat.le_of_ble_eq_true rfl) dX12_readUnit_102 ⟨Nat.le_of_ble_eq_true rfl, Nat.le_of_ble_eq_true rfl⟩ ⟨Nat.le_of_ble_eq_true rfl, Nat.le_of_ble_eq_true rfl⟩) (fun μ14 H locs q14 hW => ?_)
      obtain ⟨hJ14, q14⟩ := q14
      have hI := hI.tr hJ14 (m_subL (by simp [hS24]))
      obtain ⟨x15, hx15⟩ : ∃ z, μ14.1 81 36 = z := ⟨_, rfl⟩
      have bx15 : 0 ≤ x15.toInt ∧ x15.toInt ≤ 400 := by rw [← hx15]; exact hI.1 _ _ _ _ rfl
      rw [show μ14.1 81 36 = x15 from by exact hx15] at q14
      obtain ⟨x16, hx16⟩ : ∃ z, μ14.1 81 37 = z := ⟨_, rfl⟩
      have bx16 : 0 ≤ x16.toInt ∧ x16.toInt ≤ 400 := by rw [← hx16]; exact hI.1 _ _ _ _ rfl
      rw [show μ14.1 81 37 = x16 from by exact hx16] at q14
      obtain ⟨x17, hx17⟩ : ∃ z, μ14.1 81 38 = z := ⟨_, rfl⟩
      have bx17 : 0 ≤ x17.toInt ∧ x17.toInt ≤ 4 := by rw [← hx17]; exact hI.1 _ _ _ _ rfl
      rw [show μ14.1 81 38 = x17 from by exact hx17] at q14
      obtain ⟨x18, hx18⟩ : ∃ z, μ14.1 81 39 = z := ⟨_, rfl⟩
      have bx18 : -1 ≤ x18.toInt ∧ x18.toInt ≤ 99999 := by rw [← hx18]; exact hI.1 _ _ _ _ rfl
      rw [show μ14.1 81 39 = x18 from by exact hx18] at q14
      refine lv_iconst (v := 0) hx hb dX12_readUnit_105 (by decide) ?_
      exact m_iret hx hb hr hlocks hW rfl (⟨hI, Or.inr ⟨rfl, by rw [show μ14.1 81 51 = x12 from by exact ((hJ14.2.1 81 51 rfl).trans (by rw [← hμ13]; first | rfl | exact if_pos ⟨rfl, rfl⟩)), show μ14.1 81 37 = x16 from by exact hx16, show μ14.1 81 36 = x15 from by exact hx15, show μ14.1 81 38 = x17 from by exact hx17]; omega⟩⟩) dX12_readUnit_106
    · have i4 := m_c6 (rfl : tk.toInt = _) (by decide : (3 : Int32).toInt = 3) c4
      refine lv_aload_n hx hb dX12_readUnit_41 rfl (lv_at hl 1 rfl) ?_
      refine lv_iconst (v := 1) hx hb dX12_readUnit_42 (by decide) ?_
      have l_1 : (1 : Int32).toInt = 1 := by decide
      refine m_aI hW (m_runV (As := [.int 1]) (rest := []) hx hb hml hown hts hW (81) (g_X12_fails l D cy b (fun g => [36].contains g) μ rfl 1 μ (IY.rf hI.1)) mi_X12_fails k_X12_282 rfl rfl rfl hl.1 rfl (Nat.le_of_ble_eq_true rfl) dX12_readUnit_43 ⟨Nat.le_of_ble_eq_true rfl, Nat.le_of_ble_eq_true rfl⟩ ⟨Nat.le_of_ble_eq_true rfl, Nat.le_of_ble_eq_true rfl⟩) (fun x19 μ19 H locs q19 hW => ?_)
      obtain ⟨hJ19, q19⟩ := q19
      have hI := hI.tr hJ19 (m_subL (by simp [hS36]))
      have q19 := q19.symm
      subst q19
      exact m_iret hx hb hr hlocks hW rfl (⟨hI, Or.inl rfl⟩) dX12_readUnit_46
  · have i2 := m_c5 (rfl : tk.toInt = _) (by decide : (2 : Int32).toInt = 2) c2
    refine lv_aload_n hx hb dX12_readUnit_8 rfl (lv_at hl 0 rfl) ?_
    refine lv_aload_n hx hb dX12_readUnit_9 rfl (lv_at hl 0 rfl) ?_
    refine m_geti hx hb hts hown hW (81) 39 rfl rfl cw_12 rfl (by decide) k_X12_257 dX12_readUnit_10 ?_
    refine lv_topi (fun x20 ex20 => ?_)
    have bx20 : -1 ≤ x20.toInt ∧ x20.toInt ≤ 99999 := by rw [ex20]; exact hI.1 _ _ _ _ rfl
    refine lv_bipush (v := 14) hx hb dX12_readUnit_13 (by decide) ?_
    refine lv_bipush (v := 18) hx hb dX12_readUnit_15 (by decide) ?_
    have l_14 : (14 : Int32).toInt = 14 := by decide
    have l_18 : (18 : Int32).toInt = 18 := by decide
    refine m_aI hW (m_runV (As := [.int x20, .int 14, .int 18]) (rest := []) hx hb hml hown hts hW (81) (g_X12_isIn l D cy b x20 14 18 μ hI.1) mi_X12_isIn k_X12_170 rfl rfl rfl hl.1 rfl (Nat.le_of_ble_eq_true rfl) dX12_readUnit_17 ⟨Nat.le_of_ble_eq_true rfl, Nat.le_of_ble_eq_true rfl⟩ ⟨Nat.le_of_ble_eq_true rfl, Nat.le_of_ble_eq_true rfl⟩) (fun x21 μ21 H locs q21 hW => ?_)
    obtain ⟨q21_m, q21⟩ := q21
    subst q21_m
    rcases q21 with ⟨rfl, q21⟩ | ⟨rfl, q21⟩
    · refine lv_if_eq (tgt := 27) hx hb dX12_readUnit_20 (by decide) (fun c => False.elim (by revert c; decide)) (fun _ => ?_)
      refine lv_iconst (v := 1) hx hb dX12_readUnit_23 (by decide) ?_
      refine lv_goto (tgt := 28) hx hb dX12_readUnit_24 (by decide) ?_
      refine lv_istore_n (lv' := [(2, .int 1), (0, .ref (b + 81)), (1, .int k)]) hx hb dX12_readUnit_28 rfl hl (by decide) rfl (fun ls hl => ?_)
      refine lv_iload_n hx hb dX12_readUnit_29 rfl (lv_at hl 0 rfl) ?_
      refine lv_if_ne (tgt := 47) hx hb dX12_readUnit_30 (by decide) (fun _ => ?_) (fun c => False.elim (by revert c; decide))
      refine lv_sipush (v := 3200) hx hb dX12_readUnit_47 (by decide) ?_
      refine lv_aload_n hx hb dX12_readUnit_50 rfl (lv_at hl 1 rfl) ?_
      refine m_geti hx hb hts hown hW (81) 51 rfl rfl cw_12 rfl (by decide) k_X12_285 dX12_readUnit_51 ?_
      refine lv_topi (fun x22 ex22 => ?_)
      have ex22 : x22 = uv := by rw [ex22]; exact h_uv
      have ex22 := ex22.symm
      subst ex22
      refine lv_iadd hx hb dX12_readUnit_54 ?_
      refine lv_topi (fun x23 ex23 => ?_)
      have tx23 : x23.toInt = 3200 + uv.toInt := m_addI ex23 (by decide : (3200 : Int32).toInt = 3200) (rfl : uv.toInt = _) (by omega) (by omega)
      refine lv_istore_n (lv' := [(3, .int x23), (2, .int 1), (0, .ref (b + 81)), (1, .int k)]) hx hb dX12_readUnit_55 rfl hl (by decide) rfl (fun ls hl => ?_)
      refine lv_aload_n hx hb dX12_readUnit_56 rfl (lv_at hl 2 rfl) ?_
      refine m_getr hx hb hts hown hW (81) 48 (115) rfl rfl cw_12 rfl (by decide) k_X12_122 dX12_readUnit_57 ?_
      refine lv_iload_n hx hb dX12_readUnit_60 rfl (lv_at hl 0 rfl) ?_
      refine lv_iload_n hx hb dX12_readUnit_61 rfl (lv_at hl 3 rfl) ?_
      refine m_iast hx hb hW (115) rfl (m_ixI (rfl : x23.toInt = _) (by omega) (by omega)) dX12_readUnit_62 (fun H locs hW _ => ?_)
      generalize hμ24 : m_si μ (115) (x23 : Int32).toNatClampNeg k = μ24 at hW
      have hI := hI.si0 hμ24 rfl hS25
      refine lv_aload_n hx hb dX12_readUnit_63 rfl (lv_at hl 2 rfl) ?_
      refine m_getr hx hb hts hown hW (81) 49 (116) rfl rfl cw_12 rfl (by decide) k_X12_125 dX12_readUnit_64 ?_
      refine lv_iload_n hx hb dX12_readUnit_67 rfl (lv_at hl 0 rfl) ?_
      refine lv_iload_n hx hb dX12_readUnit_68 rfl (lv_at hl 1 rfl) ?_
      refine lv_if_eq (tgt := 79) hx hb dX12_readUnit_69 (by decide) (fun c => False.elim (by revert c; decide)) (fun _ => ?_)
      refine lv_aload_n hx hb dX12_readUnit_72 rfl (lv_at hl 2 rfl) ?_
      refine m_geti hx hb hts hown hW (81) 39 rfl rfl cw_12 rfl (by decide) k_X12_257 dX12_readUnit_73 ?_
      refine lv_topi (fun x25 ex25 => ?_)
      have ex25 : x25 = x20 := by rw [ex25, ← hμ24]; exact ex20.symm
      have ex25 := ex25.symm
      subst ex25
      refine lv_goto (tgt := 80) hx hb dX12_readUnit_76 (by decide) ?_
      refine m_iast hx hb hW (116) rfl (m_ixI (rfl : x23.toInt = _) (by omega) (by omega)) dX12_readUnit_80 (fun H locs hW _ => ?_)
      generalize hμ26 : m_si μ24 (116) (x23 : Int32).toNatClampNeg x20 = μ26 at hW
      have hI := hI.si0 hμ26 rfl hS25
      refine lv_aload_n hx hb dX12_readUnit_81 rfl (lv_at hl 2 rfl) ?_
      refine m_getr hx hb hts hown hW (81) 50 (117) rfl rfl cw_12 rfl (by decide) k_X12_128 dX12_readUnit_82 ?_
      refine lv_iload_n hx hb dX12_readUnit_85 rfl (lv_at hl 0 rfl) ?_
      refine lv_aload_n hx hb dX12_readUnit_86 rfl (lv_at hl 2 rfl) ?_
      refine m_geti hx hb hts hown hW (81) 39 rfl rfl cw_12 rfl (by decide) k_X12_257 dX12_readUnit_87 ?_
      refine lv_topi (fun x27 ex27 => ?_)
      have ex27 : x27 = x20 := by rw [ex27, ← hμ26, ← hμ24]; exact ex20.symm
      have ex27 := ex27.symm
      subst ex27
      refine m_iast hx hb hW (117) rfl (m_ixI (rfl : x23.toInt = _) (by omega) (by omega)) dX12_readUnit_90 (fun H locs hW _ => ?_)
      generalize hμ28 : m_si μ26 (117) (x23 : Int32).toNatClampNeg x20 = μ28 at hW
      have hI := hI.si0 hμ28 rfl hS25
      refine lv_aload_n hx hb dX12_readUnit_91 rfl (lv_at hl 2 rfl) ?_
      refine lv_aload_n hx hb dX12_readUnit_92 rfl (lv_at hl 2 rfl) ?_
      refine m_geti hx hb hts hown hW (81) 51 rfl rfl cw_12 rfl (by decide) k_X12_285 dX12_readUnit_93 ?_
      refine lv_topi (fun x29 ex29 => ?_)
      have ex29 : x29 = uv := by rw [ex29, ← hμ28, ← hμ26, ← hμ24]; exact h_uv
      have ex29 := ex29.symm
      subst ex29
      refine lv_iconst (v := 1) hx hb dX12_readUnit_96 (by decide) ?_
      refine lv_iadd hx hb dX12_readUnit_97 ?_
      refine lv_topi (fun x30 ex30 => ?_)
      have tx30 : x30.toInt = uv.toInt + 1 := m_addI ex30 (rfl : uv.toInt = _) (by decide : (1 : Int32).toInt = 1) (by omega) (by omega)
      refine m_puti hx hb hts hown hW (81) 51 rfl rfl cw_12 tyX12_ok nmX12 rfl (by decide) k_X12_285 rfl rfl rfl dX12_readUnit_98 (fun H locs hW _ => ?_)
      generalize hμ31 : m_si μ28 (81) 51 x30 = μ31 at hW
      have hI := hI.si1 hμ31 rfl (by omega) hS34
      refine lv_aload_n hx hb dX12_readUnit_101 rfl (lv_at hl 2 rfl) ?_
      refine m_aV hW (m_runV (As := []) (rest := []) hx hb hml hown hts hW (81) (g_X12_reads l D cy b (fun g => [24].contains g) μ31 rfl av (by omega) μ31 (IY.rf hI.1) (by rw [← hμ31, ← hμ28, ← hμ26, ← hμ24]; exact h_av)) mi_X12_reads k_X12_279 rfl rfl rfl hl.1 rfl (Nat.le_of_ble_eq_true rfl) dX12_readUnit_102 ⟨Nat.le_of_ble_eq_true rfl, Nat.le_of_ble_eq_true rfl⟩ ⟨Nat.le_of_ble_eq_true rfl, Nat.le_of_ble_eq_true rfl⟩) (fun μ32 H locs q32 hW => ?_)
      obtain ⟨hJ32, q32⟩ := q32
      have hI := hI.tr hJ32 (m_subL (by simp [hS24]))
      obtain ⟨x33, hx33⟩ : ∃ z, μ32.1 81 36 = z := ⟨_, rfl⟩
      have bx33 : 0 ≤ x33.toInt ∧ x33.toInt ≤ 400 := by rw [← hx33]; exact hI.1 _ _ _ _ rfl
      rw [show μ32.1 81 36 = x33 from by exact hx33] at q32
      obtain ⟨x34, hx34⟩ : ∃ z, μ32.1 81 37 = z := ⟨_, rfl⟩
      have bx34 : 0 ≤ x34.toInt ∧ x34.toInt ≤ 400 := by rw [← hx34]; exact hI.1 _ _ _ _ rfl
      rw [show μ32.1 81 37 = x34 from by exact hx34] at q32
      obtain ⟨x35, hx35⟩ : ∃ z, μ32.1 81 38 = z := ⟨_, rfl⟩
      have bx35 : 0 ≤ x35.toInt ∧ x35.toInt ≤ 4 := by rw [← hx35]; exact hI.1 _ _ _ _ rfl
      rw [show μ32.1 81 38 = x35 from by exact hx35] at q32
      obtain ⟨x36, hx36⟩ : ∃ z, μ32.1 81 39 = z := ⟨_, rfl⟩
      have bx36 : -1 ≤ x36.toInt ∧ x36.toInt ≤ 99999 := by rw [← hx36]; exact hI.1 _ _ _ _ rfl
      rw [show μ32.1 81 39 = x36 from by exact hx36] at q32
      refine lv_iconst (v := 0) hx hb dX12_readUnit_105 (by decide) ?_
      exact m_iret hx hb hr hlocks hW rfl (⟨hI, Or.inr ⟨rfl, by rw [show μ32.1 81 51 = x30 from by exact ((hJ32.2.1 81 51 rfl).trans (by rw [← hμ31]; first | rfl | exact if_pos ⟨rfl, rfl⟩)), show μ32.1 81 37 = x34 from by exact hx34, show μ32.1 81 36 = x33 from by exact hx33, show μ32.1 81 38 = x35 from by exact hx35]; omega⟩⟩) dX12_readUnit_106
    · refine lv_if_eq (tgt := 27) hx hb dX12_readUnit_20 (by decide) (fun _ => ?_) (fun c => False.elim (by revert c; decide))
      refine lv_iconst (v := 0) hx hb dX12_readUnit_27 (by decide) ?_
      refine lv_istore_n (lv' := [(2, .int 0), (0, .ref (b + 81)), (1, .int k)]) hx hb dX12_readUnit_28 rfl hl (by decide) rfl (fun ls hl => ?_)
      refine lv_iload_n hx hb dX12_readUnit_29 rfl (lv_at hl 0 rfl) ?_
      refine lv_if_ne (tgt := 47) hx hb dX12_readUnit_30 (by decide) (fun c => False.elim (by revert c; decide)) (fun _ => ?_)
      refine lv_aload_n hx hb dX12_readUnit_33 rfl (lv_at hl 1 rfl) ?_
      refine m_geti hx hb hts hown hW (81) 38 rfl rfl cw_12 rfl (by decide) k_X12_254 dX12_readUnit_34 ?_
      refine lv_topi (fun x37 ex37 => ?_)
      have ex37 : x37 = tk := by rw [ex37]; exact h_tk
      have ex37 := ex37.symm
      subst ex37
      refine lv_iconst (v := 3) hx hb dX12_readUnit_37 (by decide) ?_
      refine lv_icmp_eq (tgt := 47) hx hb dX12_readUnit_38 (by decide) (fun c38 => ?_) (fun c38 => ?_)
      · have i38 := m_c5 (rfl : tk.toInt = _) (by decide : (3 : Int32).toInt = 3) c38
        exfalso; omega
      · have i38 := m_c6 (rfl : tk.toInt = _) (by decide : (3 : Int32).toInt = 3) c38
        refine lv_aload_n hx hb dX12_readUnit_41 rfl (lv_at hl 1 rfl) ?_
        refine lv_iconst (v := 1) hx hb dX12_readUnit_42 (by decide) ?_
        have l_1 : (1 : Int32).toInt = 1 := by decide
        refine m_aI hW (m_runV (As := [.int 1]) (rest := []) hx hb hml hown hts hW (81) (g_X12_fails l D cy b (fun g => [36].contains g) μ rfl 1 μ (IY.rf hI.1)) mi_X12_fails k_X12_282 rfl rfl rfl hl.1 rfl (Nat.le_of_ble_eq_true rfl) dX12_readUnit_43 ⟨Nat.le_of_ble_eq_true rfl, Nat.le_of_ble_eq_true rfl⟩ ⟨Nat.le_of_ble_eq_true rfl, Nat.le_of_ble_eq_true rfl⟩) (fun x39 μ39 H locs q39 hW => ?_)
        obtain ⟨hJ39, q39⟩ := q39
        have hI := hI.tr hJ39 (m_subL (by simp [hS36]))
        have q39 := q39.symm
        subst q39
        exact m_iret hx hb hr hlocks hW rfl (⟨hI, Or.inl rfl⟩) dX12_readUnit_46
set_option maxHeartbeats 4000000 in
set_option maxRecDepth 100000 in
theorem L_X12_readSum_11 {p : Program} {l : Launch} {e : Env} {s : State} {m : MethodId} {args : Array Value} {below : List Frame} {meth : Method} {c : Code} {D : va_G} {cy : Nat → ClassId} {b : Nat} (hx : p.tables.exec = Jvm.exec) (hb : c.code = cX12_readSum) (hr : meth.sig.returnType = ((some .int))) (hml : c.maxLocals = 2) (hown : s.vm.findClass RX12 = some m.cls) (hts : ∀ w ∈ TB, w.before args s = true) (hlocks : meth.locks = false) (S : Nat → Bool) (μ0 : mM) (hS24 : S 24 = true) (hS25 : S 25 = true) (hS34 : S 34 = true) (hS36 : S 36 = true) (av fv tk uv : Int32) (h_g : 0 ≤ av.toInt ∧ av.toInt ≤ 400 ∧ 0 ≤ fv.toInt ∧ fv.toInt ≤ 400 ∧ 0 ≤ tk.toInt ∧ tk.toInt ≤ 4 ∧ 0 ≤ uv.toInt ∧ uv.toInt ≤ 400 ∧ uv.toInt ≤ fv.toInt ∧ fv.toInt ≤ av.toInt ∧ (tk.toInt = 0 ∨ fv.toInt + 1 ≤ av.toInt)) : ∀ (f : Nat), ∀ (av2 : Int32) (fv2 : Int32) (tk2 : Int32) (uv2 : Int32) (hy : 0 ≤ av2.toInt ∧ av2.toInt ≤ 400 ∧ 0 ≤ fv2.toInt ∧ fv2.toInt ≤ 400 ∧ 0 ≤ tk2.toInt ∧ tk2.toInt ≤ 4 ∧ 0 ≤ uv2.toInt ∧ uv2.toInt ≤ 400 ∧ uv2.toInt ≤ fv2.toInt ∧ fv2.toInt ≤ av2.toInt ∧ (tk2.toInt = 0 ∨ fv2.toInt + 1 ≤ av2.toInt) ∧ fv.toInt + 1 ≤ fv2.toInt) (hf : 400 - fv2.toInt < (f : Int)) (μ : mM) (hI : IY S μ0 μ) (h_av2 : μ.1 81 36 = av2) (h_fv2 : μ.1 81 37 = fv2) (h_tk2 : μ.1 81 38 = tk2) (h_uv2 : μ.1 81 51 = uv2) (H : Heap) (locs : List Loc), m_WA (m_A b LAY) D cy s b LAY μ H locs → ∀ ls : Array Slot, lv_has ls 2 [(0, .ref (b + 81))] → W p l e (m_R 4 0 0) s m args below meth c H locs 0 0 (MQ below (m_Qi D cy b LAY (fun r ν => IY S μ0 ν ∧ (r = -1 ∨ (r = 0 ∧ ((ν.1 81 51).toInt ≤ (ν.1 81 37).toInt ∧ fv.toInt + 1 ≤ (ν.1 81 37).toInt ∧ (ν.1 81 37).toInt ≤ (ν.1 81 36).toInt ∧ ((ν.1 81 38).toInt = 0 ∨ (ν.1 81 37).toInt + 1 ≤ (ν.1 81 36).toInt)))))) args s 0 0 (m_A b LAY)) (F0 m 11 ls []) := by
  intro f
  induction f with
  | zero => intro  av2 fv2 tk2 uv2 hy hf; exfalso; omega
  | succ f ih =>
    intro  av2 fv2 tk2 uv2 hy hf μ hI h_av2 h_fv2 h_tk2 h_uv2 H locs hW ls hl
    refine lv_aload_n hx hb dX12_readSum_11 rfl (lv_at hl 0 rfl) ?_
    refine lv_bipush (v := 43) hx hb dX12_readSum_12 (by decide) ?_
    have l_43 : (43 : Int32).toInt = 43 := by decide
    refine m_aI hW (m_runV (As := [.int 43]) (rest := []) hx hb hml hown hts hW (81) (g_X12_isSign l D cy b 43 μ hI.1) mi_X12_isSign k_X12_291 rfl rfl rfl hl.1 rfl (Nat.le_of_ble_eq_true rfl) dX12_readSum_14 ⟨Nat.le_of_ble_eq_true rfl, Nat.le_of_ble_eq_true rfl⟩ ⟨Nat.le_of_ble_eq_true rfl, Nat.le_of_ble_eq_true rfl⟩) (fun x1 μ1 H locs q1 hW => ?_)
    obtain ⟨q1_m, q1⟩ := q1
    subst q1_m
    rcases q1 with ⟨rfl, q1⟩ | rfl
    · rw [show μ.1 81 38 = tk2 from by exact h_tk2] at q1
      refine lv_if_ne (tgt := 29) hx hb dX12_readSum_17 (by decide) (fun _ => ?_) (fun c => False.elim (by revert c; decide))
      refine lv_aload_n hx hb dX12_readSum_29 rfl (lv_at hl 0 rfl) ?_
      refine m_geti hx hb hts hown hW (81) 39 rfl rfl cw_12 rfl (by decide) k_X12_257 dX12_readSum_30 ?_
      refine lv_topi (fun x2 ex2 => ?_)
      have bx2 : -1 ≤ x2.toInt ∧ x2.toInt ≤ 99999 := by rw [ex2]; exact hI.1 _ _ _ _ rfl
      refine lv_bipush (v := 43) hx hb dX12_readSum_33 (by decide) ?_
      refine lv_icmp_ne (tgt := 42) hx hb dX12_readSum_35 (by decide) (fun c3 => ?_) (fun c3 => ?_)
      · have i3 := m_c6 (rfl : x2.toInt = _) (by decide : (43 : Int32).toInt = 43) c3
        refine lv_iconst (v := (-1)) hx hb dX12_readSum_42 (by decide) ?_
        refine lv_istore_n (lv' := [(1, .int (-1)), (0, .ref (b + 81))]) hx hb dX12_readSum_43 rfl hl (by decide) rfl (fun ls hl => ?_)
        refine lv_aload_n hx hb dX12_readSum_44 rfl (lv_at hl 1 rfl) ?_
        refine m_aV hW (m_runV (As := []) (rest := []) hx hb hml hown hts hW (81) (g_X12_reads l D cy b (fun g => [24].contains g) μ rfl av2 (by omega) μ (IY.rf hI.1) (by exact h_av2)) mi_X12_reads k_X12_279 rfl rfl rfl hl.1 rfl (Nat.le_of_ble_eq_true rfl) dX12_readSum_45 ⟨Nat.le_of_ble_eq_true rfl, Nat.le_of_ble_eq_true rfl⟩ ⟨Nat.le_of_ble_eq_true rfl, Nat.le_of_ble_eq_true rfl⟩) (fun μ4 H locs q4 hW => ?_)
        obtain ⟨hJ4, q4⟩ := q4
        have hI := hI.tr hJ4 (m_subL (by simp [hS24]))
        obtain ⟨x5, hx5⟩ : ∃ z, μ4.1 81 36 = z := ⟨_, rfl⟩
        have bx5 : 0 ≤ x5.toInt ∧ x5.toInt ≤ 400 := by rw [← hx5]; exact hI.1 _ _ _ _ rfl
        rw [show μ4.1 81 36 = x5 from by exact hx5] at q4
        obtain ⟨x6, hx6⟩ : ∃ z, μ4.1 81 37 = z := ⟨_, rfl⟩
        have bx6 : 0 ≤ x6.toInt ∧ x6.toInt ≤ 400 := by rw [← hx6]; exact hI.1 _ _ _ _ rfl
        rw [show μ4.1 81 37 = x6 from by exact hx6] at q4
        obtain ⟨x7, hx7⟩ : ∃ z, μ4.1 81 38 = z := ⟨_, rfl⟩
        have bx7 : 0 ≤ x7.toInt ∧ x7.toInt ≤ 4 := by rw [← hx7]; exact hI.1 _ _ _ _ rfl
        rw [show μ4.1 81 38 = x7 from by exact hx7] at q4
        obtain ⟨x8, hx8⟩ : ∃ z, μ4.1 81 39 = z := ⟨_, rfl⟩
        have bx8 : -1 ≤ x8.toInt ∧ x8.toInt ≤ 99999 := by rw [← hx8]; exact hI.1 _ _ _ _ rfl
        rw [show μ4.1 81 39 = x8 from by exact hx8] at q4
        refine lv_aload_n hx hb dX12_readSum_48 rfl (lv_at hl 1 rfl) ?_
        refine lv_iload_n hx hb dX12_readSum_49 rfl (lv_at hl 0 rfl) ?_
        have l_m1 : ((-1) : Int32).toInt = (-1) := by decide
        refine m_aI hW (m_runV (As := [.int (-1)]) (rest := []) hx hb hml hown hts hW (81) (g_X12_readUnit l D cy b S μ0 hS24 hS25 hS34 hS36 x5 x6 x7 uv2 (by omega) (-1) μ4 hI (by exact hx5) (by exact hx6) (by exact hx7) (by exact ((hJ4.2.1 81 51 rfl).trans (by exact h_uv2)))) mi_X12_readUnit k_X12_288 rfl rfl rfl hl.1 rfl (Nat.le_of_ble_eq_true rfl) dX12_readSum_50 ⟨Nat.le_of_ble_eq_true rfl, Nat.le_of_ble_eq_true rfl⟩ ⟨Nat.le_of_ble_eq_true rfl, Nat.le_of_ble_eq_true rfl⟩) (fun x9 μ9 H locs q9 hW => ?_)
        obtain ⟨hI, q9⟩ := q9
        rcases q9 with rfl | ⟨rfl, q9⟩
        · refine lv_iconst (v := (-1)) hx hb dX12_readSum_53 (by decide) ?_
          refine lv_icmp_ne (tgt := 59) hx hb dX12_readSum_54 (by decide) (fun c => False.elim (by revert c; decide)) (fun _ => ?_)
          refine lv_iconst (v := (-1)) hx hb dX12_readSum_57 (by decide) ?_
          exact m_iret hx hb hr hlocks hW rfl (⟨hI, Or.inl rfl⟩) dX12_readSum_58
        · obtain ⟨x10, hx10⟩ : ∃ z, μ9.1 81 51 = z := ⟨_, rfl⟩
          have bx10 : 0 ≤ x10.toInt ∧ x10.toInt ≤ 400 := by rw [← hx10]; exact hI.1 _ _ _ _ rfl
          rw [show μ9.1 81 51 = x10 from by exact hx10] at q9
          obtain ⟨x11, hx11⟩ : ∃ z, μ9.1 81 37 = z := ⟨_, rfl⟩
          have bx11 : 0 ≤ x11.toInt ∧ x11.toInt ≤ 400 := by rw [← hx11]; exact hI.1 _ _ _ _ rfl
          rw [show μ9.1 81 37 = x11 from by exact hx11] at q9
          obtain ⟨x12, hx12⟩ : ∃ z, μ9.1 81 36 = z := ⟨_, rfl⟩
          have bx12 : 0 ≤ x12.toInt ∧ x12.toInt ≤ 400 := by rw [← hx12]; exact hI.1 _ _ _ _ rfl
          rw [show μ9.1 81 36 = x12 from by exact hx12] at q9
          obtain ⟨x13, hx13⟩ : ∃ z, μ9.1 81 38 = z := ⟨_, rfl⟩
          have bx13 : 0 ≤ x13.toInt ∧ x13.toInt ≤ 4 := by rw [← hx13]; exact hI.1 _ _ _ _ rfl
          rw [show μ9.1 81 38 = x13 from by exact hx13] at q9
          refine lv_iconst (v := (-1)) hx hb dX12_readSum_53 (by decide) ?_
          refine lv_icmp_ne (tgt := 59) hx hb dX12_readSum_54 (by decide) (fun _ => ?_) (fun c => False.elim (by revert c; decide))
          refine lv_goto (tgt := 11) hx hb dX12_readSum_59 (by decide) ?_
          exact ih  x12 x11 x13 x10 (by omega) (by omega) μ9 hI (by exact hx12) (by exact hx11) (by exact hx13) (by exact hx10) _ _ hW ls (lv_sub hl [1] rfl)
      · have i3 := m_c5 (rfl : x2.toInt = _) (by decide : (43 : Int32).toInt = 43) c3
        refine lv_iconst (v := 1) hx hb dX12_readSum_38 (by decide) ?_
        refine lv_goto (tgt := 43) hx hb dX12_readSum_39 (by decide) ?_
        refine lv_istore_n (lv' := [(1, .int 1), (0, .ref (b + 81))]) hx hb dX12_readSum_43 rfl hl (by decide) rfl (fun ls hl => ?_)
        refine lv_aload_n hx hb dX12_readSum_44 rfl (lv_at hl 1 rfl) ?_
        refine m_aV hW (m_runV (As := []) (rest := []) hx hb hml hown hts hW (81) (g_X12_reads l D cy b (fun g => [24].contains g) μ rfl av2 (by omega) μ (IY.rf hI.1) (by exact h_av2)) mi_X12_reads k_X12_279 rfl rfl rfl hl.1 rfl (Nat.le_of_ble_eq_true rfl) dX12_readSum_45 ⟨Nat.le_of_ble_eq_true rfl, Nat.le_of_ble_eq_true rfl⟩ ⟨Nat.le_of_ble_eq_true rfl, Nat.le_of_ble_eq_true rfl⟩) (fun μ14 H locs q14 hW => ?_)
        obtain ⟨hJ14, q14⟩ := q14
        have hI := hI.tr hJ14 (m_subL (by simp [hS24]))
        obtain ⟨x15, hx15⟩ : ∃ z, μ14.1 81 36 = z := ⟨_, rfl⟩
        have bx15 : 0 ≤ x15.toInt ∧ x15.toInt ≤ 400 := by rw [← hx15]; exact hI.1 _ _ _ _ rfl
        rw [show μ14.1 81 36 = x15 from by exact hx15] at q14
        obtain ⟨x16, hx16⟩ : ∃ z, μ14.1 81 37 = z := ⟨_, rfl⟩
        have bx16 : 0 ≤ x16.toInt ∧ x16.toInt ≤ 400 := by rw [← hx16]; exact hI.1 _ _ _ _ rfl
        rw [show μ14.1 81 37 = x16 from by exact hx16] at q14
        obtain ⟨x17, hx17⟩ : ∃ z, μ14.1 81 38 = z := ⟨_, rfl⟩
        have bx17 : 0 ≤ x17.toInt ∧ x17.toInt ≤ 4 := by rw [← hx17]; exact hI.1 _ _ _ _ rfl
        rw [show μ14.1 81 38 = x17 from by exact hx17] at q14
        obtain ⟨x18, hx18⟩ : ∃ z, μ14.1 81 39 = z := ⟨_, rfl⟩
        have bx18 : -1 ≤ x18.toInt ∧ x18.toInt ≤ 99999 := by rw [← hx18]; exact hI.1 _ _ _ _ rfl
        rw [show μ14.1 81 39 = x18 from by exact hx18] at q14
        refine lv_aload_n hx hb dX12_readSum_48 rfl (lv_at hl 1 rfl) ?_
        refine lv_iload_n hx hb dX12_readSum_49 rfl (lv_at hl 0 rfl) ?_
        have l_1 : (1 : Int32).toInt = 1 := by decide
        refine m_aI hW (m_runV (As := [.int 1]) (rest := []) hx hb hml hown hts hW (81) (g_X12_readUnit l D cy b S μ0 hS24 hS25 hS34 hS36 x15 x16 x17 uv2 (by omega) 1 μ14 hI (by exact hx15) (by exact hx16) (by exact hx17) (by exact ((hJ14.2.1 81 51 rfl).trans (by exact h_uv2)))) mi_X12_readUnit k_X12_288 rfl rfl rfl hl.1 rfl (Nat.le_of_ble_eq_true rfl) dX12_readSum_50 ⟨Nat.le_of_ble_eq_true rfl, Nat.le_of_ble_eq_true rfl⟩ ⟨Nat.le_of_ble_eq_true rfl, Nat.le_of_ble_eq_true rfl⟩) (fun x19 μ19 H locs q19 hW => ?_)
        obtain ⟨hI, q19⟩ := q19
        rcases q19 with rfl | ⟨rfl, q19⟩
        · refine lv_iconst (v := (-1)) hx hb dX12_readSum_53 (by decide) ?_
          refine lv_icmp_ne (tgt := 59) hx hb dX12_readSum_54 (by decide) (fun c => False.elim (by revert c; decide)) (fun _ => ?_)
          refine lv_iconst (v := (-1)) hx hb dX12_readSum_57 (by decide) ?_
          exact m_iret hx hb hr hlocks hW rfl (⟨hI, Or.inl rfl⟩) dX12_readSum_58
        · obtain ⟨x20, hx20⟩ : ∃ z, μ19.1 81 51 = z := ⟨_, rfl⟩
          have bx20 : 0 ≤ x20.toInt ∧ x20.toInt ≤ 400 := by rw [← hx20]; exact hI.1 _ _ _ _ rfl
          rw [show μ19.1 81 51 = x20 from by exact hx20] at q19
          obtain ⟨x21, hx21⟩ : ∃ z, μ19.1 81 37 = z := ⟨_, rfl⟩
          have bx21 : 0 ≤ x21.toInt ∧ x21.toInt ≤ 400 := by rw [← hx21]; exact hI.1 _ _ _ _ rfl
          rw [show μ19.1 81 37 = x21 from by exact hx21] at q19
          obtain ⟨x22, hx22⟩ : ∃ z, μ19.1 81 36 = z := ⟨_, rfl⟩
          have bx22 : 0 ≤ x22.toInt ∧ x22.toInt ≤ 400 := by rw [← hx22]; exact hI.1 _ _ _ _ rfl
          rw [show μ19.1 81 36 = x22 from by exact hx22] at q19
          obtain ⟨x23, hx23⟩ : ∃ z, μ19.1 81 38 = z := ⟨_, rfl⟩
          have bx23 : 0 ≤ x23.toInt ∧ x23.toInt ≤ 4 := by rw [← hx23]; exact hI.1 _ _ _ _ rfl
          rw [show μ19.1 81 38 = x23 from by exact hx23] at q19
          refine lv_iconst (v := (-1)) hx hb dX12_readSum_53 (by decide) ?_
          refine lv_icmp_ne (tgt := 59) hx hb dX12_readSum_54 (by decide) (fun _ => ?_) (fun c => False.elim (by revert c; decide))
          refine lv_goto (tgt := 11) hx hb dX12_readSum_59 (by decide) ?_
          exact ih  x22 x21 x23 x20 (by omega) (by omega) μ19 hI (by exact hx22) (by exact hx21) (by exact hx23) (by exact hx20) _ _ hW ls (lv_sub hl [1] rfl)
    · refine lv_if_ne (tgt := 29) hx hb dX12_readSum_17 (by decide) (fun c => False.elim (by revert c; decide)) (fun _ => ?_)
      refine lv_aload_n hx hb dX12_readSum_20 rfl (lv_at hl 0 rfl) ?_
      refine lv_bipush (v := 45) hx hb dX12_readSum_21 (by decide) ?_
      have l_45 : (45 : Int32).toInt = 45 := by decide
      refine m_aI hW (m_runV (As := [.int 45]) (rest := []) hx hb hml hown hts hW (81) (g_X12_isSign l D cy b 45 μ hI.1) mi_X12_isSign k_X12_291 rfl rfl rfl hl.1 rfl (Nat.le_of_ble_eq_true rfl) dX12_readSum_23 ⟨Nat.le_of_ble_eq_true rfl, Nat.le_of_ble_eq_true rfl⟩ ⟨Nat.le_of_ble_eq_true rfl, Nat.le_of_ble_eq_true rfl⟩) (fun x24 μ24 H locs q24 hW => ?_)
      obtain ⟨q24_m, q24⟩ := q24
      subst q24_m
      rcases q24 with ⟨rfl, q24⟩ | rfl
      · rw [show μ.1 81 38 = tk2 from by exact h_tk2] at q24
        refine lv_if_eq (tgt := 62) hx hb dX12_readSum_26 (by decide) (fun c => False.elim (by revert c; decide)) (fun _ => ?_)
        refine lv_aload_n hx hb dX12_readSum_29 rfl (lv_at hl 0 rfl) ?_
        refine m_geti hx hb hts hown hW (81) 39 rfl rfl cw_12 rfl (by decide) k_X12_257 dX12_readSum_30 ?_
        refine lv_topi (fun x25 ex25 => ?_)
        have bx25 : -1 ≤ x25.toInt ∧ x25.toInt ≤ 99999 := by rw [ex25]; exact hI.1 _ _ _ _ rfl
        refine lv_bipush (v := 43) hx hb dX12_readSum_33 (by decide) ?_
        refine lv_icmp_ne (tgt := 42) hx hb dX12_readSum_35 (by decide) (fun c26 => ?_) (fun c26 => ?_)
        · have i26 := m_c6 (rfl : x25.toInt = _) (by decide : (43 : Int32).toInt = 43) c26
          refine lv_iconst (v := (-1)) hx hb dX12_readSum_42 (by decide) ?_
          refine lv_istore_n (lv' := [(1, .int (-1)), (0, .ref (b + 81))]) hx hb dX12_readSum_43 rfl hl (by decide) rfl (fun ls hl => ?_)
          refine lv_aload_n hx hb dX12_readSum_44 rfl (lv_at hl 1 rfl) ?_
          refine m_aV hW (m_runV (As := []) (rest := []) hx hb hml hown hts hW (81) (g_X12_reads l D cy b (fun g => [24].contains g) μ rfl av2 (by omega) μ (IY.rf hI.1) (by exact h_av2)) mi_X12_reads k_X12_279 rfl rfl rfl hl.1 rfl (Nat.le_of_ble_eq_true rfl) dX12_readSum_45 ⟨Nat.le_of_ble_eq_true rfl, Nat.le_of_ble_eq_true rfl⟩ ⟨Nat.le_of_ble_eq_true rfl, Nat.le_of_ble_eq_true rfl⟩) (fun μ27 H locs q27 hW => ?_)
          obtain ⟨hJ27, q27⟩ := q27
          have hI := hI.tr hJ27 (m_subL (by simp [hS24]))
          obtain ⟨x28, hx28⟩ : ∃ z, μ27.1 81 36 = z := ⟨_, rfl⟩
          have bx28 : 0 ≤ x28.toInt ∧ x28.toInt ≤ 400 := by rw [← hx28]; exact hI.1 _ _ _ _ rfl
          rw [show μ27.1 81 36 = x28 from by exact hx28] at q27
          obtain ⟨x29, hx29⟩ : ∃ z, μ27.1 81 37 = z := ⟨_, rfl⟩
          have bx29 : 0 ≤ x29.toInt ∧ x29.toInt ≤ 400 := by rw [← hx29]; exact hI.1 _ _ _ _ rfl
          rw [show μ27.1 81 37 = x29 from by exact hx29] at q27
          obtain ⟨x30, hx30⟩ : ∃ z, μ27.1 81 38 = z := ⟨_, rfl⟩
          have bx30 : 0 ≤ x30.toInt ∧ x30.toInt ≤ 4 := by rw [← hx30]; exact hI.1 _ _ _ _ rfl
          rw [show μ27.1 81 38 = x30 from by exact hx30] at q27
          obtain ⟨x31, hx31⟩ : ∃ z, μ27.1 81 39 = z := ⟨_, rfl⟩
          have bx31 : -1 ≤ x31.toInt ∧ x31.toInt ≤ 99999 := by rw [← hx31]; exact hI.1 _ _ _ _ rfl
          rw [show μ27.1 81 39 = x31 from by exact hx31] at q27
          refine lv_aload_n hx hb dX12_readSum_48 rfl (lv_at hl 1 rfl) ?_
          refine lv_iload_n hx hb dX12_readSum_49 rfl (lv_at hl 0 rfl) ?_
          have l_m1 : ((-1) : Int32).toInt = (-1) := by decide
          refine m_aI hW (m_runV (As := [.int (-1)]) (rest := []) hx hb hml hown hts hW (81) (g_X12_readUnit l D cy b S μ0 hS24 hS25 hS34 hS36 x28 x29 x30 uv2 (by omega) (-1) μ27 hI (by exact hx28) (by exact hx29) (by exact hx30) (by exact ((hJ27.2.1 81 51 rfl).trans (by exact h_uv2)))) mi_X12_readUnit k_X12_288 rfl rfl rfl hl.1 rfl (Nat.le_of_ble_eq_true rfl) dX12_readSum_50 ⟨Nat.le_of_ble_eq_true rfl, Nat.le_of_ble_eq_true rfl⟩ ⟨Nat.le_of_ble_eq_true rfl, Nat.le_of_ble_eq_true rfl⟩) (fun x32 μ32 H locs q32 hW => ?_)
          obtain ⟨hI, q32⟩ := q32
          rcases q32 with rfl | ⟨rfl, q32⟩
          · refine lv_iconst (v := (-1)) hx hb dX12_readSum_53 (by decide) ?_
            refine lv_icmp_ne (tgt := 59) hx hb dX12_readSum_54 (by decide) (fun c => False.elim (by revert c; decide)) (fun _ => ?_)
            refine lv_iconst (v := (-1)) hx hb dX12_readSum_57 (by decide) ?_
            exact m_iret hx hb hr hlocks hW rfl (⟨hI, Or.inl rfl⟩) dX12_readSum_58
          · obtain ⟨x33, hx33⟩ : ∃ z, μ32.1 81 51 = z := ⟨_, rfl⟩
            have bx33 : 0 ≤ x33.toInt ∧ x33.toInt ≤ 400 := by rw [← hx33]; exact hI.1 _ _ _ _ rfl
            rw [show μ32.1 81 51 = x33 from by exact hx33] at q32
            obtain ⟨x34, hx34⟩ : ∃ z, μ32.1 81 37 = z := ⟨_, rfl⟩
            have bx34 : 0 ≤ x34.toInt ∧ x34.toInt ≤ 400 := by rw [← hx34]; exact hI.1 _ _ _ _ rfl
            rw [show μ32.1 81 37 = x34 from by exact hx34] at q32
            obtain ⟨x35, hx35⟩ : ∃ z, μ32.1 81 36 = z := ⟨_, rfl⟩
            have bx35 : 0 ≤ x35.toInt ∧ x35.toInt ≤ 400 := by rw [← hx35]; exact hI.1 _ _ _ _ rfl
            rw [show μ32.1 81 36 = x35 from by exact hx35] at q32
            obtain ⟨x36, hx36⟩ : ∃ z, μ32.1 81 38 = z := ⟨_, rfl⟩
            have bx36 : 0 ≤ x36.toInt ∧ x36.toInt ≤ 4 := by rw [← hx36]; exact hI.1 _ _ _ _ rfl
            rw [show μ32.1 81 38 = x36 from by exact hx36] at q32
            refine lv_iconst (v := (-1)) hx hb dX12_readSum_53 (by decide) ?_
            refine lv_icmp_ne (tgt := 59) hx hb dX12_readSum_54 (by decide) (fun _ => ?_) (fun c => False.elim (by revert c; decide))
            refine lv_goto (tgt := 11) hx hb dX12_readSum_59 (by decide) ?_
            exact ih  x35 x34 x36 x33 (by omega) (by omega) μ32 hI (by exact hx35) (by exact hx34) (by exact hx36) (by exact hx33) _ _ hW ls (lv_sub hl [1] rfl)
        · have i26 := m_c5 (rfl : x25.toInt = _) (by decide : (43 : Int32).toInt = 43) c26
          refine lv_iconst (v := 1) hx hb dX12_readSum_38 (by decide) ?_
          refine lv_goto (tgt := 43) hx hb dX12_readSum_39 (by decide) ?_
          refine lv_istore_n (lv' := [(1, .int 1), (0, .ref (b + 81))]) hx hb dX12_readSum_43 rfl hl (by decide) rfl (fun ls hl => ?_)
          refine lv_aload_n hx hb dX12_readSum_44 rfl (lv_at hl 1 rfl) ?_
          refine m_aV hW (m_runV (As := []) (rest := []) hx hb hml hown hts hW (81) (g_X12_reads l D cy b (fun g => [24].contains g) μ rfl av2 (by omega) μ (IY.rf hI.1) (by exact h_av2)) mi_X12_reads k_X12_279 rfl rfl rfl hl.1 rfl (Nat.le_of_ble_eq_true rfl) dX12_readSum_45 ⟨Nat.le_of_ble_eq_true rfl, Nat.le_of_ble_eq_true rfl⟩ ⟨Nat.le_of_ble_eq_true rfl, Nat.le_of_ble_eq_true rfl⟩) (fun μ37 H locs q37 hW => ?_)
          obtain ⟨hJ37, q37⟩ := q37
          have hI := hI.tr hJ37 (m_subL (by simp [hS24]))
          obtain ⟨x38, hx38⟩ : ∃ z, μ37.1 81 36 = z := ⟨_, rfl⟩
          have bx38 : 0 ≤ x38.toInt ∧ x38.toInt ≤ 400 := by rw [← hx38]; exact hI.1 _ _ _ _ rfl
          rw [show μ37.1 81 36 = x38 from by exact hx38] at q37
          obtain ⟨x39, hx39⟩ : ∃ z, μ37.1 81 37 = z := ⟨_, rfl⟩
          have bx39 : 0 ≤ x39.toInt ∧ x39.toInt ≤ 400 := by rw [← hx39]; exact hI.1 _ _ _ _ rfl
          rw [show μ37.1 81 37 = x39 from by exact hx39] at q37
          obtain ⟨x40, hx40⟩ : ∃ z, μ37.1 81 38 = z := ⟨_, rfl⟩
          have bx40 : 0 ≤ x40.toInt ∧ x40.toInt ≤ 4 := by rw [← hx40]; exact hI.1 _ _ _ _ rfl
          rw [show μ37.1 81 38 = x40 from by exact hx40] at q37
          obtain ⟨x41, hx41⟩ : ∃ z, μ37.1 81 39 = z := ⟨_, rfl⟩
          have bx41 : -1 ≤ x41.toInt ∧ x41.toInt ≤ 99999 := by rw [← hx41]; exact hI.1 _ _ _ _ rfl
          rw [show μ37.1 81 39 = x41 from by exact hx41] at q37
          refine lv_aload_n hx hb dX12_readSum_48 rfl (lv_at hl 1 rfl) ?_
          refine lv_iload_n hx hb dX12_readSum_49 rfl (lv_at hl 0 rfl) ?_
          have l_1 : (1 : Int32).toInt = 1 := by decide
          refine m_aI hW (m_runV (As := [.int 1]) (rest := []) hx hb hml hown hts hW (81) (g_X12_readUnit l D cy b S μ0 hS24 hS25 hS34 hS36 x38 x39 x40 uv2 (by omega) 1 μ37 hI (by exact hx38) (by exact hx39) (by exact hx40) (by exact ((hJ37.2.1 81 51 rfl).trans (by exact h_uv2)))) mi_X12_readUnit k_X12_288 rfl rfl rfl hl.1 rfl (Nat.le_of_ble_eq_true rfl) dX12_readSum_50 ⟨Nat.le_of_ble_eq_true rfl, Nat.le_of_ble_eq_true rfl⟩ ⟨Nat.le_of_ble_eq_true rfl, Nat.le_of_ble_eq_true rfl⟩) (fun x42 μ42 H locs q42 hW => ?_)
          obtain ⟨hI, q42⟩ := q42
          rcases q42 with rfl | ⟨rfl, q42⟩
          · refine lv_iconst (v := (-1)) hx hb dX12_readSum_53 (by decide) ?_
            refine lv_icmp_ne (tgt := 59) hx hb dX12_readSum_54 (by decide) (fun c => False.elim (by revert c; decide)) (fun _ => ?_)
            refine lv_iconst (v := (-1)) hx hb dX12_readSum_57 (by decide) ?_
            exact m_iret hx hb hr hlocks hW rfl (⟨hI, Or.inl rfl⟩) dX12_readSum_58
          · obtain ⟨x43, hx43⟩ : ∃ z, μ42.1 81 51 = z := ⟨_, rfl⟩
            have bx43 : 0 ≤ x43.toInt ∧ x43.toInt ≤ 400 := by rw [← hx43]; exact hI.1 _ _ _ _ rfl
            rw [show μ42.1 81 51 = x43 from by exact hx43] at q42
            obtain ⟨x44, hx44⟩ : ∃ z, μ42.1 81 37 = z := ⟨_, rfl⟩
            have bx44 : 0 ≤ x44.toInt ∧ x44.toInt ≤ 400 := by rw [← hx44]; exact hI.1 _ _ _ _ rfl
            rw [show μ42.1 81 37 = x44 from by exact hx44] at q42
            obtain ⟨x45, hx45⟩ : ∃ z, μ42.1 81 36 = z := ⟨_, rfl⟩
            have bx45 : 0 ≤ x45.toInt ∧ x45.toInt ≤ 400 := by rw [← hx45]; exact hI.1 _ _ _ _ rfl
            rw [show μ42.1 81 36 = x45 from by exact hx45] at q42
            obtain ⟨x46, hx46⟩ : ∃ z, μ42.1 81 38 = z := ⟨_, rfl⟩
            have bx46 : 0 ≤ x46.toInt ∧ x46.toInt ≤ 4 := by rw [← hx46]; exact hI.1 _ _ _ _ rfl
            rw [show μ42.1 81 38 = x46 from by exact hx46] at q42
            refine lv_iconst (v := (-1)) hx hb dX12_readSum_53 (by decide) ?_
            refine lv_icmp_ne (tgt := 59) hx hb dX12_readSum_54 (by decide) (fun _ => ?_) (fun c => False.elim (by revert c; decide))
            refine lv_goto (tgt := 11) hx hb dX12_readSum_59 (by decide) ?_
            exact ih  x45 x44 x46 x43 (by omega) (by omega) μ42 hI (by exact hx45) (by exact hx44) (by exact hx46) (by exact hx43) _ _ hW ls (lv_sub hl [1] rfl)
      · refine lv_if_eq (tgt := 62) hx hb dX12_readSum_26 (by decide) (fun _ => ?_) (fun c => False.elim (by revert c; decide))
        refine lv_iconst (v := 0) hx hb dX12_readSum_62 (by decide) ?_
        exact m_iret hx hb hr hlocks hW rfl (⟨hI, Or.inr ⟨rfl, by rw [show μ.1 81 51 = uv2 from by exact h_uv2, show μ.1 81 37 = fv2 from by exact h_fv2, show μ.1 81 36 = av2 from by exact h_av2, show μ.1 81 38 = tk2 from by exact h_tk2]; omega⟩⟩) dX12_readSum_63
set_option maxHeartbeats 4000000 in
set_option maxRecDepth 100000 in
theorem g_X12_readSum (l : Launch) (D : va_G) (cy : Nat → ClassId) (b : Nat) (S : Nat → Bool) (μ0 : mM) (hS24 : S 24 = true) (hS25 : S 25 = true) (hS34 : S 34 = true) (hS36 : S 36 = true) (av fv tk uv : Int32) (h_g : 0 ≤ av.toInt ∧ av.toInt ≤ 400 ∧ 0 ≤ fv.toInt ∧ fv.toInt ≤ 400 ∧ 0 ≤ tk.toInt ∧ tk.toInt ≤ 4 ∧ 0 ≤ uv.toInt ∧ uv.toInt ≤ 400 ∧ uv.toInt ≤ fv.toInt ∧ fv.toInt ≤ av.toInt ∧ (tk.toInt = 0 ∨ fv.toInt + 1 ≤ av.toInt)) (μ : mM) (hI : IY S μ0 μ) (h_av : μ.1 81 36 = av) (h_fv : μ.1 81 37 = fv) (h_tk : μ.1 81 38 = tk) (h_uv : μ.1 81 51 = uv) : m_Ci l yX12_readSum cX12_readSum 2 ((some .int)) 4 D cy b LAY μ [.ref (b + 81)] (fun r ν => IY S μ0 ν ∧ (r = -1 ∨ (r = 0 ∧ ((ν.1 81 51).toInt ≤ (ν.1 81 37).toInt ∧ fv.toInt + 1 ≤ (ν.1 81 37).toInt ∧ (ν.1 81 37).toInt ≤ (ν.1 81 36).toInt ∧ ((ν.1 81 38).toInt = 0 ∨ (ν.1 81 37).toInt + 1 ≤ (ν.1 81 36).toInt))))) := by
  unfold m_Ci
  refine m_of (by decide) (Nat.le_of_ble_eq_true rfl) ?_
  intro p e s m below meth c hx hb hr hml hown hts hlocks _ hW ls hl
  have hown : s.vm.findClass RX12 = some m.cls := hown
  have hl : lv_has ls 2 [(0, .ref (b + 81))] := hl
  refine lv_aload_n hx hb dX12_readSum_0 rfl (lv_at hl 0 rfl) ?_
  refine lv_iconst (v := 1) hx hb dX12_readSum_1 (by decide) ?_
  have l_1 : (1 : Int32).toInt = 1 := by decide
  refine m_aI hW (m_runV (As := [.int 1]) (rest := []) hx hb hml hown hts hW (81) (g_X12_readUnit l D cy b S μ0 hS24 hS25 hS34 hS36 av fv tk uv (by omega) 1 μ hI (by exact h_av) (by exact h_fv) (by exact h_tk) (by exact h_uv)) mi_X12_readUnit k_X12_288 rfl rfl rfl hl.1 rfl (Nat.le_of_ble_eq_true rfl) dX12_readSum_2 ⟨Nat.le_of_ble_eq_true rfl, Nat.le_of_ble_eq_true rfl⟩ ⟨Nat.le_of_ble_eq_true rfl, Nat.le_of_ble_eq_true rfl⟩) (fun x1 μ1 H locs q1 hW => ?_)
  obtain ⟨hI, q1⟩ := q1
  rcases q1 with rfl | ⟨rfl, q1⟩
  · refine lv_iconst (v := (-1)) hx hb dX12_readSum_5 (by decide) ?_
    refine lv_icmp_ne (tgt := 11) hx hb dX12_readSum_6 (by decide) (fun c => False.elim (by revert c; decide)) (fun _ => ?_)
    refine lv_iconst (v := (-1)) hx hb dX12_readSum_9 (by decide) ?_
    exact m_iret hx hb hr hlocks hW rfl (⟨hI, Or.inl rfl⟩) dX12_readSum_10
  · obtain ⟨x2, hx2⟩ : ∃ z, μ1.1 81 51 = z := ⟨_, rfl⟩
    have bx2 : 0 ≤ x2.toInt ∧ x2.toInt ≤ 400 := by rw [← hx2]; exact hI.1 _ _ _ _ rfl
    rw [show μ1.1 81 51 = x2 from by exact hx2] at q1
    obtain ⟨x3, hx3⟩ : ∃ z, μ1.1 81 37 = z := ⟨_, rfl⟩
    have bx3 : 0 ≤ x3.toInt ∧ x3.toInt ≤ 400 := by rw [← hx3]; exact hI.1 _ _ _ _ rfl
    rw [show μ1.1 81 37 = x3 from by exact hx3] at q1
    obtain ⟨x4, hx4⟩ : ∃ z, μ1.1 81 36 = z := ⟨_, rfl⟩
    have bx4 : 0 ≤ x4.toInt ∧ x4.toInt ≤ 400 := by rw [← hx4]; exact hI.1 _ _ _ _ rfl
    rw [show μ1.1 81 36 = x4 from by exact hx4] at q1
    obtain ⟨x5, hx5⟩ : ∃ z, μ1.1 81 38 = z := ⟨_, rfl⟩
    have bx5 : 0 ≤ x5.toInt ∧ x5.toInt ≤ 4 := by rw [← hx5]; exact hI.1 _ _ _ _ rfl
    rw [show μ1.1 81 38 = x5 from by exact hx5] at q1
    refine lv_iconst (v := (-1)) hx hb dX12_readSum_5 (by decide) ?_
    refine lv_icmp_ne (tgt := 11) hx hb dX12_readSum_6 (by decide) (fun _ => ?_) (fun c => False.elim (by revert c; decide))
    exact L_X12_readSum_11 hx hb hr hml hown hts hlocks S μ0 hS24 hS25 hS34 hS36 av fv tk uv h_g  401  x4 x3 x5 x2 (by omega) (by omega) μ1 hI (by exact hx4) (by exact hx3) (by exact hx5) (by exact hx2) _ _ hW ls (lv_sub hl [0] rfl)
