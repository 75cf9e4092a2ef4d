def m_RF (μ : mM) : Prop := m_DN (μ.1 72) (μ.1 73) (μ.1 74) (μ.1 71 4).toNatClampNeg (μ.1 75) 40 41 1 ∧ m_bz (μ.1 75)
theorem m_RF.fr {S : Nat → Bool} {μ ν : mM} (h : m_RF μ) (hJ : IY S μ ν) (h1 : S 9 = false) : m_RF ν := by
  unfold m_RF
  rw [show ν.1 71 4 = μ.1 71 4 from hJ.2.1 71 4 h1, show ν.1 72 = μ.1 72 from funext fun j => hJ.2.1 72 j h1, show ν.1 73 = μ.1 73 from funext fun j => hJ.2.1 73 j h1, show ν.1 74 = μ.1 74 from funext fun j => hJ.2.1 74 j h1, show ν.1 75 = μ.1 75 from funext fun j => hJ.2.1 75 j h1]
  exact h
set_option maxHeartbeats 4000000 in
set_option maxRecDepth 100000 in
theorem L_X0_fillAll_g_10 {p : Program} {l : Launch} {e : Env} {s : State} {m : MethodId} {args : Array Value} {below : List Frame} {meth : Method} {c : Code} {D : va_G} {cy : Nat → ClassId} {b : Nat} (hx : p.tables.exec = Jvm.exec) (hb : c.code = cX0_fillAll) (hr : meth.sig.returnType = (none)) (hml : c.maxLocals = 3) (hown : s.vm.findClass RX0 = some m.cls) (hts : ∀ w ∈ TB, w.before args s = true) (hlocks : meth.locks = false) (S : Nat → Bool) (μ0 : mM) (hS9 : S 9 = true) (t : Int32) (h_t : 0 ≤ t.toInt ∧ t.toInt ≤ 6) (fw fh fo : Nat → Int32) (F2 : Nat) (O2 : ∀ (y1 : Int32) (hy : 1 ≤ y1.toInt ∧ y1.toInt ≤ 41) (hf : 41 - y1.toInt < (F2 : Int)) (μ : mM) (hI : IY S μ0 μ) (ht : μ.1 71 4 = t) (hfw : μ.1 72 = fw) (hfh : μ.1 73 = fh) (hfo : μ.1 74 = fo) (hdn : m_DN fw fh fo t.toNatClampNeg (μ.1 75) 40 y1.toNatClampNeg 1) (hbz : m_bz (μ.1 75)) (H : Heap) (locs : List Loc), m_WA (m_A b LAY) D cy s b LAY μ H locs → ∀ ls : Array Slot, lv_has ls 3 [(0, .ref (b + 71)), (1, .int y1)] → W p l e (m_R 2 0 0) s m args below meth c H locs 0 0 (MQ below (m_Qv D cy b LAY (fun ν => IY S μ0 ν ∧ (ν.1 71 4 = t ∧ ν.1 72 = fw ∧ ν.1 73 = fh ∧ ν.1 74 = fo ∧ m_DN fw fh fo t.toNatClampNeg (ν.1 75) 40 41 1 ∧ m_bz (ν.1 75)))) args s 0 0 (m_A b LAY)) (F0 m 2 ls [])) : ∀ (f : Nat), ∀ (y1 y2 : Int32) (hy : 41 - y1.toInt < (F2 : Int) + 1 ∧ 1 ≤ y1.toInt ∧ y1.toInt ≤ 40 ∧ 1 ≤ y2.toInt ∧ y2.toInt ≤ 41 ∧ 1 ≤ y1.toInt ∧ y1.toInt ≤ 41) (hf : 41 - y2.toInt < (f : Int)) (μ : mM) (hI : IY S μ0 μ) (ht : μ.1 71 4 = t) (hfw : μ.1 72 = fw) (hfh : μ.1 73 = fh) (hfo : μ.1 74 = fo) (hdn : m_DN fw fh fo t.toNatClampNeg (μ.1 75) 40 y1.toNatClampNeg y2.toNatClampNeg) (hbz : m_bz (μ.1 75)) (H : Heap) (locs : List Loc), m_WA (m_A b LAY) D cy s b LAY μ H locs → ∀ ls : Array Slot, lv_has ls 3 [(0, .ref (b + 71)), (1, .int y1), (2, .int y2)] → W p l e (m_R 2 0 0) s m args below meth c H locs 0 0 (MQ below (m_Qv D cy b LAY (fun ν => IY S μ0 ν ∧ (ν.1 71 4 = t ∧ ν.1 72 = fw ∧ ν.1 73 = fh ∧ ν.1 74 = fo ∧ m_DN fw fh fo t.toNatClampNeg (ν.1 75) 40 41 1 ∧ m_bz (ν.1 75)))) args s 0 0 (m_A b LAY)) (F0 m 10 ls []) := by
  intro f
  induction f with
  | zero => intro y1 y2 hy hf; exfalso; omega
  | succ f ih =>
    intro y1 y2 hy hf μ hI ht hfw hfh hfo hdn hbz H locs hW ls hl
    refine lv_iload_n hx hb dX0_fillAll_10 rfl (lv_at hl 2 rfl) ?_
    refine lv_bipush (v := 40) hx hb dX0_fillAll_11 (by decide) ?_
    refine lv_icmp_gt (tgt := 48) hx hb dX0_fillAll_13 (by decide) (fun c1 => ?_) (fun c1 => ?_)
    · have i1 := m_c1 (by decide : (40 : Int32).toInt = 40) (rfl : y2.toInt = _) c1
      obtain ⟨x2, ex2⟩ : ∃ z : Int32, z = y1 + 1 := ⟨_, rfl⟩
      refine lv_iinc (v := x2) (lv' := [(1, .int x2), (0, .ref (b + 71)), (2, .int y2)]) hx hb dX0_fillAll_48 hl (k := 1) rfl (by rw [ex2]; rfl) (by decide) rfl (fun ls hl => ?_)
      have tx2 : x2.toInt = y1.toInt + 1 := m_addI ex2 (rfl : y1.toInt = _) (by decide : (1 : Int32).toInt = 1) (by omega) (by omega)
      refine lv_goto (tgt := 2) hx hb dX0_fillAll_51 (by decide) ?_
      exact O2 x2 (by omega) (by omega) μ hI (by exact ht) (hfw) (hfh) (hfo) ((by rw [m_cl1 (x := x2) (y := y1) (by omega) (by omega)]; exact hdn.row (by have := m_ckI (x := y2) (by omega); omega))) (hbz) _ _ hW ls (lv_sub hl [1, 0] rfl)
    · have i1 := m_c2 (by decide : (40 : Int32).toInt = 40) (rfl : y2.toInt = _) c1
      refine lv_aload_n hx hb dX0_fillAll_16 rfl (lv_at hl 0 rfl) ?_
      refine m_getr hx hb hts hown hW (71) 3 (75) rfl rfl cw_0 rfl (by decide) k_X0_21 dX0_fillAll_17 ?_
      refine lv_iload_n hx hb dX0_fillAll_20 rfl (lv_at hl 1 rfl) ?_
      refine lv_bipush (v := 41) hx hb dX0_fillAll_21 (by decide) ?_
      refine lv_imul hx hb dX0_fillAll_23 ?_
      refine lv_topi (fun x3 ex3 => ?_)
      have tx3 : x3.toInt = y1.toInt * 41 := m_mulI ex3 (rfl : y1.toInt = _) (by decide : (41 : Int32).toInt = 41) (by omega) (by omega)
      refine lv_iload_n hx hb dX0_fillAll_24 rfl (lv_at hl 2 rfl) ?_
      refine lv_iadd hx hb dX0_fillAll_25 ?_
      refine lv_topi (fun x4 ex4 => ?_)
      have tx4 : x4.toInt = x3.toInt + y2.toInt := m_addI ex4 (rfl : x3.toInt = _) (rfl : y2.toInt = _) (by omega) (by omega)
      refine lv_aload_n hx hb dX0_fillAll_26 rfl (lv_at hl 0 rfl) ?_
      refine lv_iload_n hx hb dX0_fillAll_27 rfl (lv_at hl 1 rfl) ?_
      refine lv_iload_n hx hb dX0_fillAll_28 rfl (lv_at hl 2 rfl) ?_
      refine m_aI hW (m_runV (As := [.int y1, .int y2]) (rest := [.int x4, .ref (b + 75)]) hx hb hml hown hts hW (71) (g_X0_bestKind_g l D cy b t (by omega) (μ.1 72) (μ.1 73) (μ.1 74) y1 y2 (by omega) (by omega) μ hI.1 (by exact ht) rfl rfl rfl) mi_X0_bestKind k_X0_35 rfl rfl rfl hl.1 rfl (Nat.le_of_ble_eq_true rfl) dX0_fillAll_29 ⟨Nat.le_of_ble_eq_true rfl, Nat.le_of_ble_eq_true rfl⟩ ⟨Nat.le_of_ble_eq_true rfl, Nat.le_of_ble_eq_true rfl⟩) (fun x5 μ5 H locs q5 hW => ?_)
      obtain ⟨q5_m, q5⟩ := q5
      subst q5_m
      refine lv_aload_n hx hb dX0_fillAll_32 rfl (lv_at hl 0 rfl) ?_
      refine lv_iload_n hx hb dX0_fillAll_33 rfl (lv_at hl 1 rfl) ?_
      refine lv_iload_n hx hb dX0_fillAll_34 rfl (lv_at hl 2 rfl) ?_
      refine m_aI hW (m_runV (As := [.int y1, .int y2]) (rest := [.int x5, .int x4, .ref (b + 75)]) hx hb hml hown hts hW (71) (g_X0_bestCut_g l D cy b (μ.1 75) y1 y2 (by omega) (by omega) μ hI.1 rfl) mi_X0_bestCut k_X0_39 rfl rfl rfl hl.1 rfl (Nat.le_of_ble_eq_true rfl) dX0_fillAll_35 ⟨Nat.le_of_ble_eq_true rfl, Nat.le_of_ble_eq_true rfl⟩ ⟨Nat.le_of_ble_eq_true rfl, Nat.le_of_ble_eq_true rfl⟩) (fun x6 μ6 H locs q6 hW => ?_)
      obtain ⟨q6_m, q6⟩ := q6
      subst q6_m
      refine va_mmax hx hb (hml.trans hl.1.symm) hown (hts _ k_X0_42) (hts _ kM_max_s) (hts _ kM_n) (hts _ kM_max_c) (Nat.le_of_ble_eq_true rfl) (Nat.le_of_ble_eq_true rfl) (Nat.le_of_ble_eq_true rfl) (Nat.le_of_ble_eq_true rfl) dX0_fillAll_38 ?_
      refine lv_topi (fun x7 ex7 => ?_)
      have tx7 : x7.toInt = max (x5.toInt) (x6.toInt) := m_max ex7 (rfl : x5.toInt = _) (rfl : x6.toInt = _)
      refine m_iast hx hb hW (75) rfl (m_ixI (rfl : x4.toInt = _) (by omega) (by omega)) dX0_fillAll_41 (fun H locs hW _ => ?_)
      generalize hμ8 : m_si μ (75) (x4 : Int32).toNatClampNeg x7 = μ8 at hW
      have hI := hI.si0 hμ8 rfl hS9
      obtain ⟨x9, ex9⟩ : ∃ z : Int32, z = y2 + 1 := ⟨_, rfl⟩
      refine lv_iinc (v := x9) (lv' := [(2, .int x9), (0, .ref (b + 71)), (1, .int y1)]) hx hb dX0_fillAll_42 hl (k := 2) rfl (by rw [ex9]; rfl) (by decide) rfl (fun ls hl => ?_)
      have tx9 : x9.toInt = y2.toInt + 1 := m_addI ex9 (rfl : y2.toInt = _) (by decide : (1 : Int32).toInt = 1) (by omega) (by omega)
      refine lv_goto (tgt := 10) hx hb dX0_fillAll_45 (by decide) ?_
      rw [hfw, hfh, hfo] at q5
      have hz : x7 = m_st fw fh fo t.toNatClampNeg (μ.1 75) y1.toNatClampNeg y2.toNatClampNeg := by rw [m_mxE ex7, q5, q6, ← m_ckI (x := y1) (by omega), ← m_ckI (x := y2) (by omega)]; exact m_st_X
      exact ih y1 x9 (by omega) (by omega) μ8 hI (by rw [← hμ8]; exact ht) (by rw [show μ8.1 72 = μ.1 72 from by rw [← hμ8]; exact m_si_row (by decide)]; exact hfw) (by rw [show μ8.1 73 = μ.1 73 from by rw [← hμ8]; exact m_si_row (by decide)]; exact hfh) (by rw [show μ8.1 74 = μ.1 74 from by rw [← hμ8]; exact m_si_row (by decide)]; exact hfo) ((by rw [show μ8.1 75 = m_up (μ.1 75) x4.toNatClampNeg x7 from by rw [← hμ8]; exact m_si_up, show x4.toNatClampNeg = 41 * y1.toNatClampNeg + y2.toNatClampNeg from by have := m_ckI (x := x4) (by omega); have := m_ckI (x := y1) (by omega); have := m_ckI (x := y2) (by omega); omega, m_cl1 (x := x9) (y := y2) (by omega) (by omega)]; exact hdn.step (by have := m_ckI (x := y1) (by omega); omega) (by have := m_ckI (x := y2) (by omega); omega) (by omega) hz)) ((by rw [show μ8.1 75 = m_up (μ.1 75) x4.toNatClampNeg x7 from by rw [← hμ8]; exact m_si_up, show x4.toNatClampNeg = 41 * y1.toNatClampNeg + y2.toNatClampNeg from by have := m_ckI (x := x4) (by omega); have := m_ckI (x := y1) (by omega); have := m_ckI (x := y2) (by omega); omega]; exact hbz.up (by have := m_ckI (x := y1) (by omega); omega) (by have := m_ckI (x := y2) (by omega); omega))) _ _ hW ls (lv_sub hl [1, 2, 0] rfl)
set_option maxHeartbeats 4000000 in
set_option maxRecDepth 100000 in
theorem L_X0_fillAll_g_2 {p : Program} {l : Launch} {e : Env} {s : State} {m : MethodId} {args : Array Value} {below : List Frame} {meth : Method} {c : Code} {D : va_G} {cy : Nat → ClassId} {b : Nat} (hx : p.tables.exec = Jvm.exec) (hb : c.code = cX0_fillAll) (hr : meth.sig.returnType = (none)) (hml : c.maxLocals = 3) (hown : s.vm.findClass RX0 = some m.cls) (hts : ∀ w ∈ TB, w.before args s = true) (hlocks : meth.locks = false) (S : Nat → Bool) (μ0 : mM) (hS9 : S 9 = true) (t : Int32) (h_t : 0 ≤ t.toInt ∧ t.toInt ≤ 6) (fw fh fo : Nat → Int32) : ∀ (f : Nat), ∀ (y1 : Int32) (hy : 1 ≤ y1.toInt ∧ y1.toInt ≤ 41) (hf : 41 - y1.toInt < (f : Int)) (μ : mM) (hI : IY S μ0 μ) (ht : μ.1 71 4 = t) (hfw : μ.1 72 = fw) (hfh : μ.1 73 = fh) (hfo : μ.1 74 = fo) (hdn : m_DN fw fh fo t.toNatClampNeg (μ.1 75) 40 y1.toNatClampNeg 1) (hbz : m_bz (μ.1 75)) (H : Heap) (locs : List Loc), m_WA (m_A b LAY) D cy s b LAY μ H locs → ∀ ls : Array Slot, lv_has ls 3 [(0, .ref (b + 71)), (1, .int y1)] → W p l e (m_R 2 0 0) s m args below meth c H locs 0 0 (MQ below (m_Qv D cy b LAY (fun ν => IY S μ0 ν ∧ (ν.1 71 4 = t ∧ ν.1 72 = fw ∧ ν.1 73 = fh ∧ ν.1 74 = fo ∧ m_DN fw fh fo t.toNatClampNeg (ν.1 75) 40 41 1 ∧ m_bz (ν.1 75)))) args s 0 0 (m_A b LAY)) (F0 m 2 ls []) := by
  intro f
  induction f with
  | zero => intro y1 hy hf; exfalso; omega
  | succ f ih =>
    intro y1 hy hf μ hI ht hfw hfh hfo hdn hbz H locs hW ls hl
    refine lv_iload_n hx hb dX0_fillAll_2 rfl (lv_at hl 1 rfl) ?_
    refine lv_bipush (v := 40) hx hb dX0_fillAll_3 (by decide) ?_
    refine lv_icmp_gt (tgt := 54) hx hb dX0_fillAll_5 (by decide) (fun c1 => ?_) (fun c1 => ?_)
    · have i1 := m_c1 (by decide : (40 : Int32).toInt = 40) (rfl : y1.toInt = _) c1
      exact m_vret hx hb hr hlocks hW (⟨hI, ⟨(by exact ht), hfw, hfh, hfo, (by have q := hdn; rw [show y1.toNatClampNeg = 41 from by have := m_ckI (x := y1) (by omega); omega] at q; exact q), hbz⟩⟩) dX0_fillAll_54
    · have i1 := m_c2 (by decide : (40 : Int32).toInt = 40) (rfl : y1.toInt = _) c1
      refine lv_iconst (v := 1) hx hb dX0_fillAll_8 (by decide) ?_
      refine lv_istore_n (lv' := [(2, .int 1), (0, .ref (b + 71)), (1, .int y1)]) hx hb dX0_fillAll_9 rfl hl (by decide) rfl (fun ls hl => ?_)
      have l_1 : (1 : Int32).toInt = 1 := by decide
      exact L_X0_fillAll_g_10 hx hb hr hml hown hts hlocks S μ0 hS9 t h_t fw fh fo f ih 42 y1 1 (by omega) (by omega) μ hI (by exact ht) (hfw) (hfh) (hfo) (hdn) (hbz) _ _ hW ls (lv_sub hl [1, 2, 0] rfl)
set_option maxHeartbeats 4000000 in
set_option maxRecDepth 100000 in
theorem g_X0_fillAll_g (l : Launch) (D : va_G) (cy : Nat → ClassId) (b : Nat) (S : Nat → Bool) (μ0 : mM) (hS9 : S 9 = true) (t : Int32) (h_t : 0 ≤ t.toInt ∧ t.toInt ≤ 6) (fw fh fo : Nat → Int32) (μ : mM) (hI : IY S μ0 μ) (ht : μ.1 71 4 = t) (hfw : μ.1 72 = fw) (hfh : μ.1 73 = fh) (hfo : μ.1 74 = fo) (hbz : m_bz (μ.1 75)) : m_Cv l yX0_fillAll cX0_fillAll 3 (none) 2 D cy b LAY μ [.ref (b + 71)] (fun ν => IY S μ0 ν ∧ (ν.1 71 4 = t ∧ ν.1 72 = fw ∧ ν.1 73 = fh ∧ ν.1 74 = fo ∧ m_DN fw fh fo t.toNatClampNeg (ν.1 75) 40 41 1 ∧ m_bz (ν.1 75))) := by
  unfold m_Cv
  refine m_of (by decide) (Nat.le_of_ble_eq_true rfl) ?_
  intro p e s m below meth c hx hb hr hml hown hts hlocks _ hW ls hl
  have hown : s.vm.findClass RX0 = some m.cls := hown
  have hl : lv_has ls 3 [(0, .ref (b + 71))] := hl
  refine lv_iconst (v := 1) hx hb dX0_fillAll_0 (by decide) ?_
  refine lv_istore_n (lv' := [(1, .int 1), (0, .ref (b + 71))]) hx hb dX0_fillAll_1 rfl hl (by decide) rfl (fun ls hl => ?_)
  have l_1 : (1 : Int32).toInt = 1 := by decide
  exact L_X0_fillAll_g_2 hx hb hr hml hown hts hlocks S μ0 hS9 t h_t fw fh fo  42 1 (by omega) (by omega) μ hI (by exact ht) (hfw) (hfh) (hfo) (m_DN.z) (hbz) _ _ hW ls (lv_sub hl [1, 0] rfl)
set_option maxHeartbeats 4000000 in
set_option maxRecDepth 100000 in
theorem g_X0_addKind_g (l : Launch) (D : va_G) (cy : Nat → ClassId) (b : Nat) (S : Nat → Bool) (μ0 : mM) (hS9 : S 9 = true) (t : Int32) (h_t : 0 ≤ t.toInt ∧ t.toInt ≤ 6) (k u v : Int32) (μ : mM) (hI : IY S μ0 μ) (ht : μ.1 71 4 = t) (hRF : m_RF μ) : m_Ci l yX0_addKind cX0_addKind 4 ((some .int)) 3 D cy b LAY μ [.ref (b + 71), .int k, .int u, .int v] (fun r ν => IY S μ0 ν ∧ ((((1 ≤ k.toInt ∧ k.toInt ≤ 40 ∧ 1 ≤ u.toInt ∧ u.toInt ≤ 40 ∧ 0 ≤ v.toInt ∧ v.toInt ≤ 999 ∧ t.toInt < 6) ∧ r = t ∧ (ν.1 71 4).toInt = t.toInt + 1 ∧ ν.1 72 = m_up (μ.1 72) t.toNatClampNeg k ∧ ν.1 73 = m_up (μ.1 73) t.toNatClampNeg u ∧ ν.1 74 = m_up (μ.1 74) t.toNatClampNeg v) ∨ (¬ (1 ≤ k.toInt ∧ k.toInt ≤ 40 ∧ 1 ≤ u.toInt ∧ u.toInt ≤ 40 ∧ 0 ≤ v.toInt ∧ v.toInt ≤ 999 ∧ t.toInt < 6) ∧ r = -1 ∧ ν.1 71 4 = t ∧ ν.1 72 = μ.1 72 ∧ ν.1 73 = μ.1 73 ∧ ν.1 74 = μ.1 74)) ∧ m_RF ν)) := by
  unfold m_Ci
  refine m_of (by decide) (Nat.le_of_ble_eq_true rfl) ?_
  intro p e s m below meth c hx hb hr hml hown hts hlocks _ hW ls hl
  have hown : s.vm.findClass RX0 = some m.cls := hown
  have hl : lv_has ls 4 [(0, .ref (b + 71)), (1, .int k), (2, .int u), (3, .int v)] := hl
  refine lv_iload_n hx hb dX0_addKind_0 rfl (lv_at hl 1 rfl) ?_
  refine lv_iconst (v := 1) hx hb dX0_addKind_1 (by decide) ?_
  refine lv_bipush (v := 40) hx hb dX0_addKind_2 (by decide) ?_
  have l_1 : (1 : Int32).toInt = 1 := by decide
  have l_40 : (40 : Int32).toInt = 40 := by decide
  refine m_aI hW (m_runSN (As := [.int k, .int 1, .int 40]) (rest := []) hx hb hml hown hts hW (g_X11_within l D cy b k 1 40 μ hI.1) ms_X11_within n_X0_28 rfl hl.1 rfl (Nat.le_of_ble_eq_true rfl) dX0_addKind_4 ⟨Nat.le_of_ble_eq_true rfl, Nat.le_of_ble_eq_true rfl⟩ ⟨Nat.le_of_ble_eq_true rfl, Nat.le_of_ble_eq_true rfl⟩) (fun x1 μ1 H locs q1 hW => ?_)
  obtain ⟨q1_m, q1⟩ := q1
  subst q1_m
  rcases q1 with ⟨rfl, q1⟩ | ⟨rfl, q1⟩
  · refine lv_if_eq (tgt := 40) hx hb dX0_addKind_7 (by decide) (fun c => False.elim (by revert c; decide)) (fun _ => ?_)
    refine lv_iload_n hx hb dX0_addKind_10 rfl (lv_at hl 2 rfl) ?_
    refine lv_iconst (v := 1) hx hb dX0_addKind_11 (by decide) ?_
    refine lv_bipush (v := 40) hx hb dX0_addKind_12 (by decide) ?_
    refine m_aI hW (m_runSN (As := [.int u, .int 1, .int 40]) (rest := []) hx hb hml hown hts hW (g_X11_within l D cy b u 1 40 μ hI.1) ms_X11_within n_X0_28 rfl hl.1 rfl (Nat.le_of_ble_eq_true rfl) dX0_addKind_14 ⟨Nat.le_of_ble_eq_true rfl, Nat.le_of_ble_eq_true rfl⟩ ⟨Nat.le_of_ble_eq_true rfl, Nat.le_of_ble_eq_true rfl⟩) (fun x2 μ2 H locs q2 hW => ?_)
    obtain ⟨q2_m, q2⟩ := q2
    subst q2_m
    rcases q2 with ⟨rfl, q2⟩ | ⟨rfl, q2⟩
    · refine lv_if_eq (tgt := 40) hx hb dX0_addKind_17 (by decide) (fun c => False.elim (by revert c; decide)) (fun _ => ?_)
      refine lv_iload_n hx hb dX0_addKind_20 rfl (lv_at hl 3 rfl) ?_
      refine lv_iconst (v := 0) hx hb dX0_addKind_21 (by decide) ?_
      refine lv_sipush (v := 999) hx hb dX0_addKind_22 (by decide) ?_
      have l_0 : (0 : Int32).toInt = 0 := by decide
      have l_999 : (999 : Int32).toInt = 999 := by decide
      refine m_aI hW (m_runSN (As := [.int v, .int 0, .int 999]) (rest := []) hx hb hml hown hts hW (g_X11_within l D cy b v 0 999 μ hI.1) ms_X11_within n_X0_28 rfl hl.1 rfl (Nat.le_of_ble_eq_true rfl) dX0_addKind_25 ⟨Nat.le_of_ble_eq_true rfl, Nat.le_of_ble_eq_true rfl⟩ ⟨Nat.le_of_ble_eq_true rfl, Nat.le_of_ble_eq_true rfl⟩) (fun x3 μ3 H locs q3 hW => ?_)
      obtain ⟨q3_m, q3⟩ := q3
      subst q3_m
      rcases q3 with ⟨rfl, q3⟩ | ⟨rfl, q3⟩
      · refine lv_if_eq (tgt := 40) hx hb dX0_addKind_28 (by decide) (fun c => False.elim (by revert c; decide)) (fun _ => ?_)
        refine lv_aload_n hx hb dX0_addKind_31 rfl (lv_at hl 0 rfl) ?_
        refine m_geti hx hb hts hown hW (71) 4 rfl rfl cw_0 rfl (by decide) k_X0_24 dX0_addKind_32 ?_
        refine lv_topi (fun x4 ex4 => ?_)
        have ex4 : x4 = t := by rw [ex4]; exact ht
        have ex4 := ex4.symm
        subst ex4
        refine lv_bipush (v := 6) hx hb dX0_addKind_35 (by decide) ?_
        refine lv_icmp_lt (tgt := 42) hx hb dX0_addKind_37 (by decide) (fun c5 => ?_) (fun c5 => ?_)
        · have i5 := m_c1 (rfl : t.toInt = _) (by decide : (6 : Int32).toInt = 6) c5
          refine lv_aload_n hx hb dX0_addKind_42 rfl (lv_at hl 0 rfl) ?_
          refine m_getr hx hb hts hown hW (71) 0 (72) rfl rfl cw_0 rfl (by decide) k_X0_11 dX0_addKind_43 ?_
          refine lv_aload_n hx hb dX0_addKind_46 rfl (lv_at hl 0 rfl) ?_
          refine m_geti hx hb hts hown hW (71) 4 rfl rfl cw_0 rfl (by decide) k_X0_24 dX0_addKind_47 ?_
          refine lv_topi (fun x6 ex6 => ?_)
          have ex6 : x6 = t := by rw [ex6]; exact ht
          have ex6 := ex6.symm
          subst ex6
          refine lv_iload_n hx hb dX0_addKind_50 rfl (lv_at hl 1 rfl) ?_
          refine m_iast hx hb hW (72) rfl (m_ixI (rfl : t.toInt = _) (by omega) (by omega)) dX0_addKind_51 (fun H locs hW _ => ?_)
          generalize hμ7 : m_si μ (72) (t : Int32).toNatClampNeg k = μ7 at hW
          have hI := hI.si0 hμ7 rfl hS9
          refine lv_aload_n hx hb dX0_addKind_52 rfl (lv_at hl 0 rfl) ?_
          refine m_getr hx hb hts hown hW (71) 1 (73) rfl rfl cw_0 rfl (by decide) k_X0_15 dX0_addKind_53 ?_
          refine lv_aload_n hx hb dX0_addKind_56 rfl (lv_at hl 0 rfl) ?_
          refine m_geti hx hb hts hown hW (71) 4 rfl rfl cw_0 rfl (by decide) k_X0_24 dX0_addKind_57 ?_
          refine lv_topi (fun x8 ex8 => ?_)
          have ex8 : x8 = t := by rw [ex8, ← hμ7]; exact ht
          have ex8 := ex8.symm
          subst ex8
          refine lv_iload_n hx hb dX0_addKind_60 rfl (lv_at hl 2 rfl) ?_
          refine m_iast hx hb hW (73) rfl (m_ixI (rfl : t.toInt = _) (by omega) (by omega)) dX0_addKind_61 (fun H locs hW _ => ?_)
          generalize hμ9 : m_si μ7 (73) (t : Int32).toNatClampNeg u = μ9 at hW
          have hI := hI.si0 hμ9 rfl hS9
          refine lv_aload_n hx hb dX0_addKind_62 rfl (lv_at hl 0 rfl) ?_
          refine m_getr hx hb hts hown hW (71) 2 (74) rfl rfl cw_0 rfl (by decide) k_X0_18 dX0_addKind_63 ?_
          refine lv_aload_n hx hb dX0_addKind_66 rfl (lv_at hl 0 rfl) ?_
          refine m_geti hx hb hts hown hW (71) 4 rfl rfl cw_0 rfl (by decide) k_X0_24 dX0_addKind_67 ?_
          refine lv_topi (fun x10 ex10 => ?_)
          have ex10 : x10 = t := by rw [ex10, ← hμ9, ← hμ7]; exact ht
          have ex10 := ex10.symm
          subst ex10
          refine lv_iload_n hx hb dX0_addKind_70 rfl (lv_at hl 3 rfl) ?_
          refine m_iast hx hb hW (74) rfl (m_ixI (rfl : t.toInt = _) (by omega) (by omega)) dX0_addKind_71 (fun H locs hW _ => ?_)
          generalize hμ11 : m_si μ9 (74) (t : Int32).toNatClampNeg v = μ11 at hW
          have hI := hI.si0 hμ11 rfl hS9
          refine lv_aload_n hx hb dX0_addKind_72 rfl (lv_at hl 0 rfl) ?_
          refine lv_dup hx hb dX0_addKind_73 rfl ?_
          refine m_geti hx hb hts hown hW (71) 4 rfl rfl cw_0 rfl (by decide) k_X0_24 dX0_addKind_74 ?_
          refine lv_topi (fun x12 ex12 => ?_)
          have ex12 : x12 = t := by rw [ex12, ← hμ11, ← hμ9, ← hμ7]; exact ht
          have ex12 := ex12.symm
          subst ex12
          refine lv_iconst (v := 1) hx hb dX0_addKind_77 (by decide) ?_
          refine lv_iadd hx hb dX0_addKind_78 ?_
          refine lv_topi (fun x13 ex13 => ?_)
          have tx13 : x13.toInt = t.toInt + 1 := m_addI ex13 (rfl : t.toInt = _) (by decide : (1 : Int32).toInt = 1) (by omega) (by omega)
          refine m_puti hx hb hts hown hW (71) 4 rfl rfl cw_0 tyX0_ok nmX0 rfl (by decide) k_X0_24 rfl rfl rfl dX0_addKind_79 (fun H locs hW _ => ?_)
          generalize hμ14 : m_si μ11 (71) 4 x13 = μ14 at hW
          have hI := hI.si1 hμ14 rfl (by omega) hS9
          refine lv_aload_n hx hb dX0_addKind_82 rfl (lv_at hl 0 rfl) ?_
          refine m_aV hW (m_runV (As := []) (rest := []) hx hb hml hown hts hW (71) (g_X0_fillAll_g l D cy b S μ0 hS9 x13 (by omega) (μ14.1 72) (μ14.1 73) (μ14.1 74) μ14 hI (by rw [← hμ14]; first | rfl | exact if_pos ⟨rfl, rfl⟩) rfl rfl rfl (by rw [show μ14.1 75 = μ11.1 75 from by rw [← hμ14]; exact m_si_row (by decide), show μ11.1 75 = μ9.1 75 from by rw [← hμ11]; exact m_si_row (by decide), show μ9.1 75 = μ7.1 75 from by rw [← hμ9]; exact m_si_row (by decide), show μ7.1 75 = μ.1 75 from by rw [← hμ7]; exact m_si_row (by decide)]; exact hRF.2)) mi_X0_fillAll k_X0_32 rfl rfl rfl hl.1 rfl (Nat.le_of_ble_eq_true rfl) dX0_addKind_83 ⟨Nat.le_of_ble_eq_true rfl, Nat.le_of_ble_eq_true rfl⟩ ⟨Nat.le_of_ble_eq_true rfl, Nat.le_of_ble_eq_true rfl⟩) (fun μ15 H locs q15 hW => ?_)
          obtain ⟨hI, q15⟩ := q15
          obtain ⟨q15, q1572, q1573, q1574, q15d, q15z⟩ := q15
          have hRFn : m_RF μ15 := ⟨by rw [q15, q1572, q1573, q1574]; exact q15d, q15z⟩
          refine lv_aload_n hx hb dX0_addKind_86 rfl (lv_at hl 0 rfl) ?_
          refine m_geti hx hb hts hown hW (71) 4 rfl rfl cw_0 rfl (by decide) k_X0_24 dX0_addKind_87 ?_
          refine lv_topi (fun x16 ex16 => ?_)
          have ex16 : x16 = x13 := by rw [ex16]; exact q15
          have ex16 := ex16.symm
          subst ex16
          refine lv_iconst (v := 1) hx hb dX0_addKind_90 (by decide) ?_
          refine lv_isub hx hb dX0_addKind_91 ?_
          refine lv_topi (fun x17 ex17 => ?_)
          have tx17 : x17.toInt = x13.toInt - 1 := m_subI ex17 (rfl : x13.toInt = _) (by decide : (1 : Int32).toInt = 1) (by omega) (by omega)
          exact m_iret hx hb hr hlocks hW rfl (⟨hI, ⟨Or.inl ⟨by omega, m_eqI (by omega), by rw [show μ15.1 71 4 = x13 from by exact q15]; omega, by rw [show μ15.1 72 = μ14.1 72 from q1572, show μ14.1 72 = μ11.1 72 from by rw [← hμ14]; exact m_si_row (by decide), show μ11.1 72 = μ9.1 72 from by rw [← hμ11]; exact m_si_row (by decide), show μ9.1 72 = μ7.1 72 from by rw [← hμ9]; exact m_si_row (by decide), show μ7.1 72 = m_up (μ.1 72) (t : Int32).toNatClampNeg k from by rw [← hμ7]; exact m_si_up], by rw [show μ15.1 73 = μ14.1 73 from q1573, show μ14.1 73 = μ11.1 73 from by rw [← hμ14]; exact m_si_row (by decide), show μ11.1 73 = μ9.1 73 from by rw [← hμ11]; exact m_si_row (by decide), show μ9.1 73 = m_up (μ7.1 73) (t : Int32).toNatClampNeg u from by rw [← hμ9]; exact m_si_up, show μ7.1 73 = μ.1 73 from by rw [← hμ7]; exact m_si_row (by decide)], by rw [show μ15.1 74 = μ14.1 74 from q1574, show μ14.1 74 = μ11.1 74 from by rw [← hμ14]; exact m_si_row (by decide), show μ11.1 74 = m_up (μ9.1 74) (t : Int32).toNatClampNeg v from by rw [← hμ11]; exact m_si_up, show μ9.1 74 = μ7.1 74 from by rw [← hμ9]; exact m_si_row (by decide), show μ7.1 74 = μ.1 74 from by rw [← hμ7]; exact m_si_row (by decide)]⟩, hRFn⟩⟩) dX0_addKind_92
        · have i5 := m_c2 (rfl : t.toInt = _) (by decide : (6 : Int32).toInt = 6) c5
          refine lv_iconst (v := (-1)) hx hb dX0_addKind_40 (by decide) ?_
          exact m_iret hx hb hr hlocks hW rfl (⟨hI, ⟨Or.inr ⟨by omega, rfl, by rw [show μ.1 71 4 = t from by exact ht], rfl, rfl, rfl⟩, hRF⟩⟩) dX0_addKind_41
      · refine lv_if_eq (tgt := 40) hx hb dX0_addKind_28 (by decide) (fun _ => ?_) (fun c => False.elim (by revert c; decide))
        refine lv_iconst (v := (-1)) hx hb dX0_addKind_40 (by decide) ?_
        exact m_iret hx hb hr hlocks hW rfl (⟨hI, ⟨Or.inr ⟨by omega, rfl, by rw [show μ.1 71 4 = t from by exact ht], rfl, rfl, rfl⟩, hRF⟩⟩) dX0_addKind_41
    · refine lv_if_eq (tgt := 40) hx hb dX0_addKind_17 (by decide) (fun _ => ?_) (fun c => False.elim (by revert c; decide))
      refine lv_iconst (v := (-1)) hx hb dX0_addKind_40 (by decide) ?_
      exact m_iret hx hb hr hlocks hW rfl (⟨hI, ⟨Or.inr ⟨by omega, rfl, by rw [show μ.1 71 4 = t from by exact ht], rfl, rfl, rfl⟩, hRF⟩⟩) dX0_addKind_41
  · refine lv_if_eq (tgt := 40) hx hb dX0_addKind_7 (by decide) (fun _ => ?_) (fun c => False.elim (by revert c; decide))
    refine lv_iconst (v := (-1)) hx hb dX0_addKind_40 (by decide) ?_
    exact m_iret hx hb hr hlocks hW rfl (⟨hI, ⟨Or.inr ⟨by omega, rfl, by rw [show μ.1 71 4 = t from by exact ht], rfl, rfl, rfl⟩, hRF⟩⟩) dX0_addKind_41
set_option maxHeartbeats 4000000 in
set_option maxRecDepth 100000 in
theorem g_X11_kind_g (l : Launch) (D : va_G) (cy : Nat → ClassId) (b : Nat) (S : Nat → Bool) (μ0 : mM) (hS9 : S 9 = true) (t : Int32) (h_t : 0 ≤ t.toInt ∧ t.toInt ≤ 6) (k u v : Int32) (μ : mM) (hI : IY S μ0 μ) (ht : μ.1 71 4 = t) (hRF : m_RF μ) : m_Ci l yX11_kind cX11_kind 4 ((some .int)) 4 D cy b LAY μ [.ref (b + 0), .int k, .int u, .int v] (fun r ν => IY S μ0 ν ∧ ((((1 ≤ k.toInt ∧ k.toInt ≤ 40 ∧ 1 ≤ u.toInt ∧ u.toInt ≤ 40 ∧ 0 ≤ v.toInt ∧ v.toInt ≤ 999 ∧ t.toInt < 6) ∧ r = t ∧ (ν.1 71 4).toInt = t.toInt + 1 ∧ ν.1 72 = m_up (μ.1 72) t.toNatClampNeg k ∧ ν.1 73 = m_up (μ.1 73) t.toNatClampNeg u ∧ ν.1 74 = m_up (μ.1 74) t.toNatClampNeg v) ∨ (¬ (1 ≤ k.toInt ∧ k.toInt ≤ 40 ∧ 1 ≤ u.toInt ∧ u.toInt ≤ 40 ∧ 0 ≤ v.toInt ∧ v.toInt ≤ 999 ∧ t.toInt < 6) ∧ r = -1 ∧ ν.1 71 4 = t ∧ ν.1 72 = μ.1 72 ∧ ν.1 73 = μ.1 73 ∧ ν.1 74 = μ.1 74)) ∧ m_RF ν)) := by
  unfold m_Ci
  refine m_of (by decide) (Nat.le_of_ble_eq_true rfl) ?_
  intro p e s m below meth c hx hb hr hml hown hts hlocks _ hW ls hl
  have hown : s.vm.findClass RX11 = some m.cls := hown
  have hl : lv_has ls 4 [(0, .ref (b + 0)), (1, .int k), (2, .int u), (3, .int v)] := hl
  refine lv_aload_n hx hb dX11_kind_0 rfl (lv_at hl 0 rfl) ?_
  refine m_getr hx hb hts hown hW (0) 7 (71) rfl rfl cw_11 rfl (by decide) k_X11_59 dX11_kind_1 ?_
  refine lv_iload_n hx hb dX11_kind_4 rfl (lv_at hl 1 rfl) ?_
  refine lv_iload_n hx hb dX11_kind_5 rfl (lv_at hl 2 rfl) ?_
  refine lv_iload_n hx hb dX11_kind_6 rfl (lv_at hl 3 rfl) ?_
  refine m_aI hW (m_runV (As := [.int k, .int u, .int v]) (rest := []) hx hb hml hown hts hW (71) (g_X0_addKind_g l D cy b S μ0 hS9 t (by omega) k u v μ hI (by exact ht) hRF) mi_X0_addKind k_X11_247 rfl rfl rfl hl.1 rfl (Nat.le_of_ble_eq_true rfl) dX11_kind_7 ⟨Nat.le_of_ble_eq_true rfl, Nat.le_of_ble_eq_true rfl⟩ ⟨Nat.le_of_ble_eq_true rfl, Nat.le_of_ble_eq_true rfl⟩) (fun x1 μ1 H locs q1 hW => ?_)
  obtain ⟨hI, q1⟩ := q1
  exact m_iret hx hb hr hlocks hW rfl (⟨hI, q1⟩) dX11_kind_10
set_option maxHeartbeats 4000000 in
set_option maxRecDepth 100000 in
theorem g_X0_greatestWorth_g (l : Launch) (D : va_G) (cy : Nat → ClassId) (b : Nat) (fb : Nat → Int32) (k u : Int32) (μ : mM) (hI : IX μ) (hfb : μ.1 75 = fb) : m_Ci l yX0_greatestWorth cX0_greatestWorth 3 ((some .int)) 1 D cy b LAY μ [.ref (b + 71), .int k, .int u] (fun r ν => μ = ν ∧ (((0 ≤ k.toInt ∧ k.toInt ≤ 40 ∧ 0 ≤ u.toInt ∧ u.toInt ≤ 40) ∧ r = fb (41 * k.toNatClampNeg + u.toNatClampNeg)) ∨ (¬ (0 ≤ k.toInt ∧ k.toInt ≤ 40 ∧ 0 ≤ u.toInt ∧ u.toInt ≤ 40) ∧ r = -1))) := by
  unfold m_Ci
  refine m_of (by decide) (Nat.le_of_ble_eq_true rfl) ?_
  intro p e s m below meth c hx hb hr hml hown hts hlocks _ hW ls hl
  have hown : s.vm.findClass RX0 = some m.cls := hown
  have hl : lv_has ls 3 [(0, .ref (b + 71)), (1, .int k), (2, .int u)] := hl
  refine lv_iload_n hx hb dX0_greatestWorth_0 rfl (lv_at hl 1 rfl) ?_
  refine lv_iconst (v := 0) hx hb dX0_greatestWorth_1 (by decide) ?_
  refine lv_bipush (v := 40) hx hb dX0_greatestWorth_2 (by decide) ?_
  have l_0 : (0 : Int32).toInt = 0 := by decide
  have l_40 : (40 : Int32).toInt = 40 := by decide
  refine m_aI hW (m_runSN (As := [.int k, .int 0, .int 40]) (rest := []) hx hb hml hown hts hW (g_X11_within l D cy b k 0 40 μ hI) ms_X11_within n_X0_28 rfl hl.1 rfl (Nat.le_of_ble_eq_true rfl) dX0_greatestWorth_4 ⟨Nat.le_of_ble_eq_true rfl, Nat.le_of_ble_eq_true rfl⟩ ⟨Nat.le_of_ble_eq_true rfl, Nat.le_of_ble_eq_true rfl⟩) (fun x1 μ1 H locs q1 hW => ?_)
  obtain ⟨q1_m, q1⟩ := q1
  subst q1_m
  rcases q1 with ⟨rfl, q1⟩ | ⟨rfl, q1⟩
  · refine lv_if_eq (tgt := 20) hx hb dX0_greatestWorth_7 (by decide) (fun c => False.elim (by revert c; decide)) (fun _ => ?_)
    refine lv_iload_n hx hb dX0_greatestWorth_10 rfl (lv_at hl 2 rfl) ?_
    refine lv_iconst (v := 0) hx hb dX0_greatestWorth_11 (by decide) ?_
    refine lv_bipush (v := 40) hx hb dX0_greatestWorth_12 (by decide) ?_
    refine m_aI hW (m_runSN (As := [.int u, .int 0, .int 40]) (rest := []) hx hb hml hown hts hW (g_X11_within l D cy b u 0 40 μ hI) ms_X11_within n_X0_28 rfl hl.1 rfl (Nat.le_of_ble_eq_true rfl) dX0_greatestWorth_14 ⟨Nat.le_of_ble_eq_true rfl, Nat.le_of_ble_eq_true rfl⟩ ⟨Nat.le_of_ble_eq_true rfl, Nat.le_of_ble_eq_true rfl⟩) (fun x2 μ2 H locs q2 hW => ?_)
    obtain ⟨q2_m, q2⟩ := q2
    subst q2_m
    rcases q2 with ⟨rfl, q2⟩ | ⟨rfl, q2⟩
    · refine lv_if_ne (tgt := 22) hx hb dX0_greatestWorth_17 (by decide) (fun _ => ?_) (fun c => False.elim (by revert c; decide))
      refine lv_aload_n hx hb dX0_greatestWorth_22 rfl (lv_at hl 0 rfl) ?_
      refine m_getr hx hb hts hown hW (71) 3 (75) rfl rfl cw_0 rfl (by decide) k_X0_21 dX0_greatestWorth_23 ?_
      refine lv_iload_n hx hb dX0_greatestWorth_26 rfl (lv_at hl 1 rfl) ?_
      refine lv_bipush (v := 41) hx hb dX0_greatestWorth_27 (by decide) ?_
      refine lv_imul hx hb dX0_greatestWorth_29 ?_
      refine lv_topi (fun x3 ex3 => ?_)
      have tx3 : x3.toInt = k.toInt * 41 := m_mulI ex3 (rfl : k.toInt = _) (by decide : (41 : Int32).toInt = 41) (by omega) (by omega)
      refine lv_iload_n hx hb dX0_greatestWorth_30 rfl (lv_at hl 2 rfl) ?_
      refine lv_iadd hx hb dX0_greatestWorth_31 ?_
      refine lv_topi (fun x4 ex4 => ?_)
      have tx4 : x4.toInt = x3.toInt + u.toInt := m_addI ex4 (rfl : x3.toInt = _) (rfl : u.toInt = _) (by omega) (by omega)
      refine m_iald hx hb hW (75) rfl (m_ixI (rfl : x4.toInt = _) (by omega) (by omega)) dX0_greatestWorth_32 ?_
      refine lv_topi (fun x5 ex5 => ?_)
      have h_x5 : x5 = fb x4.toNatClampNeg := by rw [ex5, hfb]
      exact m_iret hx hb hr hlocks hW rfl (⟨rfl, Or.inl ⟨by omega, by rw [h_x5, show x4.toNatClampNeg = 41 * k.toNatClampNeg + u.toNatClampNeg from by have := m_ckI (x := x4) (by omega); have := m_ckI (x := k) (by omega); have := m_ckI (x := u) (by omega); omega]⟩⟩) dX0_greatestWorth_33
    · refine lv_if_ne (tgt := 22) hx hb dX0_greatestWorth_17 (by decide) (fun c => False.elim (by revert c; decide)) (fun _ => ?_)
      refine lv_iconst (v := (-1)) hx hb dX0_greatestWorth_20 (by decide) ?_
      exact m_iret hx hb hr hlocks hW rfl (⟨rfl, Or.inr ⟨by omega, rfl⟩⟩) dX0_greatestWorth_21
  · refine lv_if_eq (tgt := 20) hx hb dX0_greatestWorth_7 (by decide) (fun _ => ?_) (fun c => False.elim (by revert c; decide))
    refine lv_iconst (v := (-1)) hx hb dX0_greatestWorth_20 (by decide) ?_
    exact m_iret hx hb hr hlocks hW rfl (⟨rfl, Or.inr ⟨by omega, rfl⟩⟩) dX0_greatestWorth_21
set_option maxHeartbeats 4000000 in
set_option maxRecDepth 100000 in
theorem g_X11_fill_g (l : Launch) (D : va_G) (cy : Nat → ClassId) (b : Nat) (fb : Nat → Int32) (k u : Int32) (μ : mM) (hI : IX μ) (hfb : μ.1 75 = fb) : m_Ci l yX11_fill cX11_fill 3 ((some .int)) 2 D cy b LAY μ [.ref (b + 0), .int k, .int u] (fun r ν => μ = ν ∧ (((0 ≤ k.toInt ∧ k.toInt ≤ 40 ∧ 0 ≤ u.toInt ∧ u.toInt ≤ 40) ∧ r = fb (41 * k.toNatClampNeg + u.toNatClampNeg)) ∨ (¬ (0 ≤ k.toInt ∧ k.toInt ≤ 40 ∧ 0 ≤ u.toInt ∧ u.toInt ≤ 40) ∧ r = -1))) := by
  unfold m_Ci
  refine m_of (by decide) (Nat.le_of_ble_eq_true rfl) ?_
  intro p e s m below meth c hx hb hr hml hown hts hlocks _ hW ls hl
  have hown : s.vm.findClass RX11 = some m.cls := hown
  have hl : lv_has ls 3 [(0, .ref (b + 0)), (1, .int k), (2, .int u)] := hl
  refine lv_aload_n hx hb dX11_fill_0 rfl (lv_at hl 0 rfl) ?_
  refine m_getr hx hb hts hown hW (0) 7 (71) rfl rfl cw_11 rfl (by decide) k_X11_59 dX11_fill_1 ?_
  refine lv_iload_n hx hb dX11_fill_4 rfl (lv_at hl 1 rfl) ?_
  refine lv_iload_n hx hb dX11_fill_5 rfl (lv_at hl 2 rfl) ?_
  refine m_aI hW (m_runV (As := [.int k, .int u]) (rest := []) hx hb hml hown hts hW (71) (g_X0_greatestWorth_g l D cy b (μ.1 75) k u μ hI rfl) mi_X0_greatestWorth k_X11_251 rfl rfl rfl hl.1 rfl (Nat.le_of_ble_eq_true rfl) dX11_fill_6 ⟨Nat.le_of_ble_eq_true rfl, Nat.le_of_ble_eq_true rfl⟩ ⟨Nat.le_of_ble_eq_true rfl, Nat.le_of_ble_eq_true rfl⟩) (fun x1 μ1 H locs q1 hW => ?_)
  obtain ⟨q1_m, q1⟩ := q1
  subst q1_m
  exact m_iret hx hb hr hlocks hW rfl (⟨rfl, (by rw [← hfb]; exact q1)⟩) dX11_fill_9
set_option maxHeartbeats 4000000 in
set_option maxRecDepth 100000 in
theorem L_X12_fill_g_49 {p : Program} {l : Launch} {e : Env} {s : State} {m : MethodId} {args : Array Value} {below : List Frame} {meth : Method} {c : Code} {D : va_G} {cy : Nat → ClassId} {b : Nat} (hx : p.tables.exec = Jvm.exec) (hb : c.code = cX12_fill) (hr : meth.sig.returnType = ((some .int))) (hml : c.maxLocals = 5) (hown : s.vm.findClass RX12 = some m.cls) (hts : ∀ w ∈ TB, w.before args s = true) (hlocks : meth.locks = false) (S : Nat → Bool) (μ0 : mM) (hS20 : S 20 = true) (hS31 : S 31 = true) (t : Int32) (h_t : 0 ≤ t.toInt ∧ t.toInt ≤ 6) (fw fh fo : Nat → Int32) (k u : Int32) (F41 : Nat) (O41 : ∀ (y3 : Int32) (hy : 1 ≤ y3.toInt ∧ y3.toInt ≤ 41 ∧ 1 ≤ k.toInt ∧ k.toInt ≤ 40 ∧ 1 ≤ u.toInt ∧ u.toInt ≤ 40 ∧ y3.toInt ≤ k.toInt + 1) (hf : 41 - y3.toInt < (F41 : Int)) (μ : mM) (hI : IY S μ0 μ) (ht : μ.1 81 62 = t) (hfw : μ.1 120 = fw) (hfh : μ.1 121 = fh) (hfo : μ.1 122 = fo) (hdn : m_DN fw fh fo t.toNatClampNeg (μ.1 123) u.toNatClampNeg y3.toNatClampNeg 1) (H : Heap) (locs : List Loc), m_WA (m_A b LAY) D cy s b LAY μ H locs → ∀ ls : Array Slot, lv_has ls 5 [(0, .ref (b + 81)), (1, .int k), (2, .int u), (3, .int y3)] → W p l e (m_R 1 0 0) s m args below meth c H locs 0 0 (MQ below (m_Qi D cy b LAY (fun r ν => IY S μ0 ν ∧ (((0 ≤ k.toInt ∧ k.toInt ≤ 40 ∧ 0 ≤ u.toInt ∧ u.toInt ≤ 40) ∧ (k.toInt = 0 ∨ u.toInt = 0) ∧ r = 0) ∨ ((1 ≤ k.toInt ∧ k.toInt ≤ 40 ∧ 1 ≤ u.toInt ∧ u.toInt ≤ 40) ∧ ∃ g : Nat → Int32, m_DN fw fh fo t.toNatClampNeg g u.toNatClampNeg (k.toNatClampNeg + 1) 1 ∧ r = g (41 * k.toNatClampNeg + u.toNatClampNeg)) ∨ (¬ (0 ≤ k.toInt ∧ k.toInt ≤ 40 ∧ 0 ≤ u.toInt ∧ u.toInt ≤ 40) ∧ r = -1)))) args s 0 0 (m_A b LAY)) (F0 m 41 ls [])) : ∀ (f : Nat), ∀ (y3 y4 : Int32) (hy : 41 - y3.toInt < (F41 : Int) + 1 ∧ 1 ≤ y3.toInt ∧ y3.toInt ≤ 40 ∧ 1 ≤ y4.toInt ∧ y4.toInt ≤ 41 ∧ 1 ≤ y3.toInt ∧ y3.toInt ≤ 41 ∧ 1 ≤ k.toInt ∧ k.toInt ≤ 40 ∧ 1 ≤ u.toInt ∧ u.toInt ≤ 40 ∧ y4.toInt ≤ u.toInt + 1 ∧ y3.toInt ≤ k.toInt) (hf : 41 - y4.toInt < (f : Int)) (μ : mM) (hI : IY S μ0 μ) (ht : μ.1 81 62 = t) (hfw : μ.1 120 = fw) (hfh : μ.1 121 = fh) (hfo : μ.1 122 = fo) (hdn : m_DN fw fh fo t.toNatClampNeg (μ.1 123) u.toNatClampNeg y3.toNatClampNeg y4.toNatClampNeg) (H : Heap) (locs : List Loc), m_WA (m_A b LAY) D cy s b LAY μ H locs → ∀ ls : Array Slot, lv_has ls 5 [(0, .ref (b + 81)), (1, .int k), (2, .int u), (3, .int y3), (4, .int y4)] → W p l e (m_R 1 0 0) s m args below meth c H locs 0 0 (MQ below (m_Qi D cy b LAY (fun r ν => IY S μ0 ν ∧ (((0 ≤ k.toInt ∧ k.toInt ≤ 40 ∧ 0 ≤ u.toInt ∧ u.toInt ≤ 40) ∧ (k.toInt = 0 ∨ u.toInt = 0) ∧ r = 0) ∨ ((1 ≤ k.toInt ∧ k.toInt ≤ 40 ∧ 1 ≤ u.toInt ∧ u.toInt ≤ 40) ∧ ∃ g : Nat → Int32, m_DN fw fh fo t.toNatClampNeg g u.toNatClampNeg (k.toNatClampNeg + 1) 1 ∧ r = g (41 * k.toNatClampNeg + u.toNatClampNeg)) ∨ (¬ (0 ≤ k.toInt ∧ k.toInt ≤ 40 ∧ 0 ≤ u.toInt ∧ u.toInt ≤ 40) ∧ r = -1)))) args s 0 0 (m_A b LAY)) (F0 m 49 ls []) := by
  intro f
  induction f with
  | zero => intro y3 y4 hy hf; exfalso; omega
  | succ f ih =>
    intro y3 y4 hy hf μ hI ht hfw hfh hfo hdn H locs hW ls hl
    refine lv_iload hx hb dX12_fill_49 (lv_at hl 4 rfl) ?_
    refine lv_iload_n hx hb dX12_fill_51 rfl (lv_at hl 2 rfl) ?_
    refine lv_icmp_gt (tgt := 80) hx hb dX12_fill_52 (by decide) (fun c1 => ?_) (fun c1 => ?_)
    · have i1 := m_c1 (rfl : u.toInt = _) (rfl : y4.toInt = _) c1
      obtain ⟨x2, ex2⟩ : ∃ z : Int32, z = y3 + 1 := ⟨_, rfl⟩
      refine lv_iinc (v := x2) (lv' := [(3, .int x2), (0, .ref (b + 81)), (1, .int k), (2, .int u), (4, .int y4)]) hx hb dX12_fill_80 hl (k := 3) rfl (by rw [ex2]; rfl) (by decide) rfl (fun ls hl => ?_)
      have tx2 : x2.toInt = y3.toInt + 1 := m_addI ex2 (rfl : y3.toInt = _) (by decide : (1 : Int32).toInt = 1) (by omega) (by omega)
      refine lv_goto (tgt := 41) hx hb dX12_fill_83 (by decide) ?_
      exact O41 x2 (by omega) (by omega) μ hI (by exact ht) (hfw) (hfh) (hfo) ((by rw [m_cl1 (x := x2) (y := y3) (by omega) (by omega)]; exact hdn.row (by have := m_ckI (x := y4) (by omega); have := m_ckI (x := u) (by omega); omega))) _ _ hW ls (lv_sub hl [1, 2, 3, 0] rfl)
    · have i1 := m_c2 (rfl : u.toInt = _) (rfl : y4.toInt = _) c1
      refine lv_aload_n hx hb dX12_fill_55 rfl (lv_at hl 0 rfl) ?_
      refine m_getr hx hb hts hown hW (81) 66 (123) rfl rfl cw_12 rfl (by decide) k_X12_149 dX12_fill_56 ?_
      refine lv_bipush (v := 41) hx hb dX12_fill_59 (by decide) ?_
      refine lv_iload_n hx hb dX12_fill_61 rfl (lv_at hl 3 rfl) ?_
      refine lv_imul hx hb dX12_fill_62 ?_
      refine lv_topi (fun x3 ex3 => ?_)
      have tx3 : x3.toInt = 41 * y3.toInt := m_mulI ex3 (by decide : (41 : Int32).toInt = 41) (rfl : y3.toInt = _) (by omega) (by omega)
      refine lv_iload hx hb dX12_fill_63 (lv_at hl 4 rfl) ?_
      refine lv_iadd hx hb dX12_fill_65 ?_
      refine lv_topi (fun x4 ex4 => ?_)
      have tx4 : x4.toInt = x3.toInt + y4.toInt := m_addI ex4 (rfl : x3.toInt = _) (rfl : y4.toInt = _) (by omega) (by omega)
      refine lv_aload_n hx hb dX12_fill_66 rfl (lv_at hl 0 rfl) ?_
      refine lv_iload_n hx hb dX12_fill_67 rfl (lv_at hl 3 rfl) ?_
      refine lv_iload hx hb dX12_fill_68 (lv_at hl 4 rfl) ?_
      refine m_aI hW (m_runV (As := [.int y3, .int y4]) (rest := [.int x4, .ref (b + 123)]) hx hb hml hown hts hW (81) (g_X12_mostOf_g l D cy b t (by omega) (μ.1 120) (μ.1 121) (μ.1 122) (μ.1 123) y3 y4 (by omega) (by omega) μ hI.1 (by exact ht) rfl rfl rfl rfl) mi_X12_mostOf k_X12_398 rfl rfl rfl hl.1 rfl (Nat.le_of_ble_eq_true rfl) dX12_fill_70 ⟨Nat.le_of_ble_eq_true rfl, Nat.le_of_ble_eq_true rfl⟩ ⟨Nat.le_of_ble_eq_true rfl, Nat.le_of_ble_eq_true rfl⟩) (fun x5 μ5 H locs q5 hW => ?_)
      obtain ⟨q5_m, q5⟩ := q5
      subst q5_m
      refine m_iast hx hb hW (123) rfl (m_ixI (rfl : x4.toInt = _) (by omega) (by omega)) dX12_fill_73 (fun H locs hW _ => ?_)
      generalize hμ6 : m_si μ (123) (x4 : Int32).toNatClampNeg x5 = μ6 at hW
      have hI := hI.si0 hμ6 rfl hS31
      obtain ⟨x7, ex7⟩ : ∃ z : Int32, z = y4 + 1 := ⟨_, rfl⟩
      refine lv_iinc (v := x7) (lv' := [(4, .int x7), (0, .ref (b + 81)), (1, .int k), (2, .int u), (3, .int y3)]) hx hb dX12_fill_74 hl (k := 4) rfl (by rw [ex7]; rfl) (by decide) rfl (fun ls hl => ?_)
      have tx7 : x7.toInt = y4.toInt + 1 := m_addI ex7 (rfl : y4.toInt = _) (by decide : (1 : Int32).toInt = 1) (by omega) (by omega)
      refine lv_goto (tgt := 49) hx hb dX12_fill_77 (by decide) ?_
      rw [hfw, hfh, hfo] at q5
      exact ih y3 x7 (by omega) (by omega) μ6 hI (by rw [← hμ6]; exact ht) (by rw [show μ6.1 120 = μ.1 120 from by rw [← hμ6]; exact m_si_row (by decide)]; exact hfw) (by rw [show μ6.1 121 = μ.1 121 from by rw [← hμ6]; exact m_si_row (by decide)]; exact hfh) (by rw [show μ6.1 122 = μ.1 122 from by rw [← hμ6]; exact m_si_row (by decide)]; exact hfo) ((by rw [show μ6.1 123 = m_up (μ.1 123) x4.toNatClampNeg x5 from by rw [← hμ6]; exact m_si_up, show x4.toNatClampNeg = 41 * y3.toNatClampNeg + y4.toNatClampNeg from by have := m_ckI (x := x4) (by omega); have := m_ckI (x := y3) (by omega); have := m_ckI (x := y4) (by omega); omega, m_cl1 (x := x7) (y := y4) (by omega) (by omega)]; exact hdn.step (by have := m_ckI (x := y3) (by omega); omega) (by have := m_ckI (x := y4) (by omega); have := m_ckI (x := u) (by omega); omega) (by have := m_ckI (x := u) (by omega); omega) q5)) _ _ hW ls (lv_sub hl [1, 2, 3, 4, 0] rfl)
set_option maxHeartbeats 4000000 in
set_option maxRecDepth 100000 in
theorem L_X12_fill_g_41 {p : Program} {l : Launch} {e : Env} {s : State} {m : MethodId} {args : Array Value} {below : List Frame} {meth : Method} {c : Code} {D : va_G} {cy : Nat → ClassId} {b : Nat} (hx : p.tables.exec = Jvm.exec) (hb : c.code = cX12_fill) (hr : meth.sig.returnType = ((some .int))) (hml : c.maxLocals = 5) (hown : s.vm.findClass RX12 = some m.cls) (hts : ∀ w ∈ TB, w.before args s = true) (hlocks : meth.locks = false) (S : Nat → Bool) (μ0 : mM) (hS20 : S 20 = true) (hS31 : S 31 = true) (t : Int32) (h_t : 0 ≤ t.toInt ∧ t.toInt ≤ 6) (fw fh fo : Nat → Int32) (k u : Int32) : ∀ (f : Nat), ∀ (y3 : Int32) (hy : 1 ≤ y3.toInt ∧ y3.toInt ≤ 41 ∧ 1 ≤ k.toInt ∧ k.toInt ≤ 40 ∧ 1 ≤ u.toInt ∧ u.toInt ≤ 40 ∧ y3.toInt ≤ k.toInt + 1) (hf : 41 - y3.toInt < (f : Int)) (μ : mM) (hI : IY S μ0 μ) (ht : μ.1 81 62 = t) (hfw : μ.1 120 = fw) (hfh : μ.1 121 = fh) (hfo : μ.1 122 = fo) (hdn : m_DN fw fh fo t.toNatClampNeg (μ.1 123) u.toNatClampNeg y3.toNatClampNeg 1) (H : Heap) (locs : List Loc), m_WA (m_A b LAY) D cy s b LAY μ H locs → ∀ ls : Array Slot, lv_has ls 5 [(0, .ref (b + 81)), (1, .int k), (2, .int u), (3, .int y3)] → W p l e (m_R 1 0 0) s m args below meth c H locs 0 0 (MQ below (m_Qi D cy b LAY (fun r ν => IY S μ0 ν ∧ (((0 ≤ k.toInt ∧ k.toInt ≤ 40 ∧ 0 ≤ u.toInt ∧ u.toInt ≤ 40) ∧ (k.toInt = 0 ∨ u.toInt = 0) ∧ r = 0) ∨ ((1 ≤ k.toInt ∧ k.toInt ≤ 40 ∧ 1 ≤ u.toInt ∧ u.toInt ≤ 40) ∧ ∃ g : Nat → Int32, m_DN fw fh fo t.toNatClampNeg g u.toNatClampNeg (k.toNatClampNeg + 1) 1 ∧ r = g (41 * k.toNatClampNeg + u.toNatClampNeg)) ∨ (¬ (0 ≤ k.toInt ∧ k.toInt ≤ 40 ∧ 0 ≤ u.toInt ∧ u.toInt ≤ 40) ∧ r = -1)))) args s 0 0 (m_A b LAY)) (F0 m 41 ls []) := by
  intro f
  induction f with
  | zero => intro y3 hy hf; exfalso; omega
  | succ f ih =>
    intro y3 hy hf μ hI ht hfw hfh hfo hdn H locs hW ls hl
    refine lv_iload_n hx hb dX12_fill_41 rfl (lv_at hl 3 rfl) ?_
    refine lv_iload_n hx hb dX12_fill_42 rfl (lv_at hl 1 rfl) ?_
    refine lv_icmp_gt (tgt := 86) hx hb dX12_fill_43 (by decide) (fun c1 => ?_) (fun c1 => ?_)
    · have i1 := m_c1 (rfl : k.toInt = _) (rfl : y3.toInt = _) c1
      refine lv_aload_n hx hb dX12_fill_86 rfl (lv_at hl 0 rfl) ?_
      refine m_getr hx hb hts hown hW (81) 66 (123) rfl rfl cw_12 rfl (by decide) k_X12_149 dX12_fill_87 ?_
      refine lv_bipush (v := 41) hx hb dX12_fill_90 (by decide) ?_
      refine lv_iload_n hx hb dX12_fill_92 rfl (lv_at hl 1 rfl) ?_
      refine lv_imul hx hb dX12_fill_93 ?_
      refine lv_topi (fun x2 ex2 => ?_)
      have tx2 : x2.toInt = 41 * k.toInt := m_mulI ex2 (by decide : (41 : Int32).toInt = 41) (rfl : k.toInt = _) (by omega) (by omega)
      refine lv_iload_n hx hb dX12_fill_94 rfl (lv_at hl 2 rfl) ?_
      refine lv_iadd hx hb dX12_fill_95 ?_
      refine lv_topi (fun x3 ex3 => ?_)
      have tx3 : x3.toInt = x2.toInt + u.toInt := m_addI ex3 (rfl : x2.toInt = _) (rfl : u.toInt = _) (by omega) (by omega)
      refine m_iald hx hb hW (123) rfl (m_ixI (rfl : x3.toInt = _) (by omega) (by omega)) dX12_fill_96 ?_
      refine lv_topi (fun x4 ex4 => ?_)
      have h_x4 : x4 = μ.1 123 x3.toNatClampNeg := ex4
      exact m_iret hx hb hr hlocks hW rfl (⟨hI, Or.inr (Or.inl ⟨by omega, μ.1 123, (by have q := hdn; rw [show y3.toNatClampNeg = k.toNatClampNeg + 1 from by have := m_ckI (x := y3) (by omega); have := m_ckI (x := k) (by omega); omega] at q; exact q), by rw [h_x4, show x3.toNatClampNeg = 41 * k.toNatClampNeg + u.toNatClampNeg from by have := m_ckI (x := x3) (by omega); have := m_ckI (x := k) (by omega); have := m_ckI (x := u) (by omega); omega]⟩)⟩) dX12_fill_97
    · have i1 := m_c2 (rfl : k.toInt = _) (rfl : y3.toInt = _) c1
      refine lv_iconst (v := 1) hx hb dX12_fill_46 (by decide) ?_
      refine lv_istore (lv' := [(4, .int 1), (0, .ref (b + 81)), (1, .int k), (2, .int u), (3, .int y3)]) hx hb dX12_fill_47 hl (by decide) rfl (fun ls hl => ?_)
      have l_1 : (1 : Int32).toInt = 1 := by decide
      exact L_X12_fill_g_49 hx hb hr hml hown hts hlocks S μ0 hS20 hS31 t h_t fw fh fo k u f ih 42 y3 1 (by omega) (by omega) μ hI (by exact ht) (hfw) (hfh) (hfo) (hdn) _ _ hW ls (lv_sub hl [1, 2, 3, 4, 0] rfl)
set_option maxHeartbeats 4000000 in
set_option maxRecDepth 100000 in
theorem g_X12_fill_g (l : Launch) (D : va_G) (cy : Nat → ClassId) (b : Nat) (S : Nat → Bool) (μ0 : mM) (hS20 : S 20 = true) (hS31 : S 31 = true) (t : Int32) (h_t : 0 ≤ t.toInt ∧ t.toInt ≤ 6) (fw fh fo : Nat → Int32) (k u : Int32) (μ : mM) (hI : IY S μ0 μ) (ht : μ.1 81 62 = t) (hfw : μ.1 120 = fw) (hfh : μ.1 121 = fh) (hfo : μ.1 122 = fo) : m_Ci l yX12_fill cX12_fill 5 ((some .int)) 1 D cy b LAY μ [.ref (b + 81), .int k, .int u] (fun r ν => IY S μ0 ν ∧ (((0 ≤ k.toInt ∧ k.toInt ≤ 40 ∧ 0 ≤ u.toInt ∧ u.toInt ≤ 40) ∧ (k.toInt = 0 ∨ u.toInt = 0) ∧ r = 0) ∨ ((1 ≤ k.toInt ∧ k.toInt ≤ 40 ∧ 1 ≤ u.toInt ∧ u.toInt ≤ 40) ∧ ∃ g : Nat → Int32, m_DN fw fh fo t.toNatClampNeg g u.toNatClampNeg (k.toNatClampNeg + 1) 1 ∧ r = g (41 * k.toNatClampNeg + u.toNatClampNeg)) ∨ (¬ (0 ≤ k.toInt ∧ k.toInt ≤ 40 ∧ 0 ≤ u.toInt ∧ u.toInt ≤ 40) ∧ r = -1))) := by
  unfold m_Ci
  refine m_of (by decide) (Nat.le_of_ble_eq_true rfl) ?_
  intro p e s m below meth c hx hb hr hml hown hts hlocks _ hW ls hl
  have hown : s.vm.findClass RX12 = some m.cls := hown
  have hl : lv_has ls 5 [(0, .ref (b + 81)), (1, .int k), (2, .int u)] := hl
  refine lv_aload_n hx hb dX12_fill_0 rfl (lv_at hl 0 rfl) ?_
  refine lv_iconst (v := 0) hx hb dX12_fill_1 (by decide) ?_
  refine m_puti hx hb hts hown hW (81) 0 rfl rfl cw_12 tyX12_ok nmX12 rfl (by decide) k_X12_167 rfl rfl rfl dX12_fill_2 (fun H locs hW _ => ?_)
  generalize hμ1 : m_si μ (81) 0 0 = μ1 at hW
  have hI := hI.si0 hμ1 rfl hS20
  refine lv_aload_n hx hb dX12_fill_5 rfl (lv_at hl 0 rfl) ?_
  refine lv_iload_n hx hb dX12_fill_6 rfl (lv_at hl 1 rfl) ?_
  refine lv_iconst (v := 0) hx hb dX12_fill_7 (by decide) ?_
  refine lv_bipush (v := 40) hx hb dX12_fill_8 (by decide) ?_
  have l_0 : (0 : Int32).toInt = 0 := by decide
  have l_40 : (40 : Int32).toInt = 40 := by decide
  refine m_aI hW (m_runV (As := [.int k, .int 0, .int 40]) (rest := []) hx hb hml hown hts hW (81) (g_X12_isIn l D cy b k 0 40 μ1 hI.1) mi_X12_isIn k_X12_170 rfl rfl rfl hl.1 rfl (Nat.le_of_ble_eq_true rfl) dX12_fill_10 ⟨Nat.le_of_ble_eq_true rfl, Nat.le_of_ble_eq_true rfl⟩ ⟨Nat.le_of_ble_eq_true rfl, Nat.le_of_ble_eq_true rfl⟩) (fun x2 μ2 H locs q2 hW => ?_)
  obtain ⟨q2_m, q2⟩ := q2
  subst q2_m
  rcases q2 with ⟨rfl, q2⟩ | ⟨rfl, q2⟩
  · refine lv_if_eq (tgt := 27) hx hb dX12_fill_13 (by decide) (fun c => False.elim (by revert c; decide)) (fun _ => ?_)
    refine lv_aload_n hx hb dX12_fill_16 rfl (lv_at hl 0 rfl) ?_
    refine lv_iload_n hx hb dX12_fill_17 rfl (lv_at hl 2 rfl) ?_
    refine lv_iconst (v := 0) hx hb dX12_fill_18 (by decide) ?_
    refine lv_bipush (v := 40) hx hb dX12_fill_19 (by decide) ?_
    refine m_aI hW (m_runV (As := [.int u, .int 0, .int 40]) (rest := []) hx hb hml hown hts hW (81) (g_X12_isIn l D cy b u 0 40 μ1 hI.1) mi_X12_isIn k_X12_170 rfl rfl rfl hl.1 rfl (Nat.le_of_ble_eq_true rfl) dX12_fill_21 ⟨Nat.le_of_ble_eq_true rfl, Nat.le_of_ble_eq_true rfl⟩ ⟨Nat.le_of_ble_eq_true rfl, Nat.le_of_ble_eq_true rfl⟩) (fun x3 μ3 H locs q3 hW => ?_)
    obtain ⟨q3_m, q3⟩ := q3
    subst q3_m
    rcases q3 with ⟨rfl, q3⟩ | ⟨rfl, q3⟩
    · refine lv_if_ne (tgt := 29) hx hb dX12_fill_24 (by decide) (fun _ => ?_) (fun c => False.elim (by revert c; decide))
      refine lv_iload_n hx hb dX12_fill_29 rfl (lv_at hl 1 rfl) ?_
      refine lv_if_eq (tgt := 37) hx hb dX12_fill_30 (by decide) (fun c4 => ?_) (fun c4 => ?_)
      · have i4 := m_c5 (rfl : k.toInt = _) (by decide : (0 : Int32).toInt = 0) c4
        refine lv_iconst (v := 0) hx hb dX12_fill_37 (by decide) ?_
        exact m_iret hx hb hr hlocks hW rfl (⟨hI, Or.inl ⟨by omega, by omega, rfl⟩⟩) dX12_fill_38
      · have i4 := m_c6 (rfl : k.toInt = _) (by decide : (0 : Int32).toInt = 0) c4
        refine lv_iload_n hx hb dX12_fill_33 rfl (lv_at hl 2 rfl) ?_
        refine lv_if_ne (tgt := 39) hx hb dX12_fill_34 (by decide) (fun c5 => ?_) (fun c5 => ?_)
        · have i5 := m_c6 (rfl : u.toInt = _) (by decide : (0 : Int32).toInt = 0) c5
          refine lv_iconst (v := 1) hx hb dX12_fill_39 (by decide) ?_
          refine lv_istore_n (lv' := [(3, .int 1), (0, .ref (b + 81)), (1, .int k), (2, .int u)]) hx hb dX12_fill_40 rfl hl (by decide) rfl (fun ls hl => ?_)
          have l_1 : (1 : Int32).toInt = 1 := by decide
          exact L_X12_fill_g_41 hx hb hr hml hown hts hlocks S μ0 hS20 hS31 t h_t fw fh fo k u  42 1 (by omega) (by omega) μ1 hI (by rw [← hμ1]; exact ht) (by rw [show μ1.1 120 = μ.1 120 from by rw [← hμ1]; exact m_si_row (by decide)]; exact hfw) (by rw [show μ1.1 121 = μ.1 121 from by rw [← hμ1]; exact m_si_row (by decide)]; exact hfh) (by rw [show μ1.1 122 = μ.1 122 from by rw [← hμ1]; exact m_si_row (by decide)]; exact hfo) (m_DN.z) _ _ hW ls (lv_sub hl [1, 2, 3, 0] rfl)
        · have i5 := m_c5 (rfl : u.toInt = _) (by decide : (0 : Int32).toInt = 0) c5
          refine lv_iconst (v := 0) hx hb dX12_fill_37 (by decide) ?_
          exact m_iret hx hb hr hlocks hW rfl (⟨hI, Or.inl ⟨by omega, by omega, rfl⟩⟩) dX12_fill_38
    · refine lv_if_ne (tgt := 29) hx hb dX12_fill_24 (by decide) (fun c => False.elim (by revert c; decide)) (fun _ => ?_)
      refine lv_iconst (v := (-1)) hx hb dX12_fill_27 (by decide) ?_
      exact m_iret hx hb hr hlocks hW rfl (⟨hI, Or.inr (Or.inr ⟨by omega, rfl⟩)⟩) dX12_fill_28
  · refine lv_if_eq (tgt := 27) hx hb dX12_fill_13 (by decide) (fun _ => ?_) (fun c => False.elim (by revert c; decide))
    refine lv_iconst (v := (-1)) hx hb dX12_fill_27 (by decide) ?_
    exact m_iret hx hb hr hlocks hW rfl (⟨hI, Or.inr (Or.inr ⟨by omega, rfl⟩)⟩) dX12_fill_28
theorem m_RF.fill {μ : mM} {r1 r2 a1 a2 : Int32} (hF : m_RF μ) (hK : m_RK μ) (hX : ((0 ≤ a1.toInt ∧ a1.toInt ≤ 40 ∧ 0 ≤ a2.toInt ∧ a2.toInt ≤ 40) ∧ r1 = (μ.1 75) (41 * a1.toNatClampNeg + a2.toNatClampNeg)) ∨ (¬ (0 ≤ a1.toInt ∧ a1.toInt ≤ 40 ∧ 0 ≤ a2.toInt ∧ a2.toInt ≤ 40) ∧ r1 = -1)) (hM : ((0 ≤ a1.toInt ∧ a1.toInt ≤ 40 ∧ 0 ≤ a2.toInt ∧ a2.toInt ≤ 40) ∧ (a1.toInt = 0 ∨ a2.toInt = 0) ∧ r2 = 0) ∨ ((1 ≤ a1.toInt ∧ a1.toInt ≤ 40 ∧ 1 ≤ a2.toInt ∧ a2.toInt ≤ 40) ∧ ∃ g : Nat → Int32, m_DN (μ.1 120) (μ.1 121) (μ.1 122) (μ.1 81 62).toNatClampNeg g a2.toNatClampNeg (a1.toNatClampNeg + 1) 1 ∧ r2 = g (41 * a1.toNatClampNeg + a2.toNatClampNeg)) ∨ (¬ (0 ≤ a1.toInt ∧ a1.toInt ≤ 40 ∧ 0 ≤ a2.toInt ∧ a2.toInt ≤ 40) ∧ r2 = -1)) : r1 = r2 := by
  obtain ⟨h1, k1, k2, k3⟩ := hK
  obtain ⟨d, z⟩ := hF
  rw [h1] at d
  have d := d.al k1 k2 k3
  rcases hX with ⟨x1, x2⟩ | ⟨x1, x2⟩
  · have c1 := m_ckI (x := a1) (by omega)
    have c2 := m_ckI (x := a2) (by omega)
    rcases hM with ⟨y1, y2, y3⟩ | ⟨y1, g, y2, y3⟩ | ⟨y1, y2⟩
    · rw [x2, y3]
      rcases y2 with q | q
      · rw [show 41 * a1.toNatClampNeg + a2.toNatClampNeg = a2.toNatClampNeg from by omega]
        exact (z _ (by omega)).1
      · rw [show 41 * a1.toNatClampNeg + a2.toNatClampNeg = 41 * a1.toNatClampNeg from by omega]
        exact (z _ (by omega)).2
    · rw [x2, y3]
      exact d.eq y2 _ _ _ (Nat.le_refl _) (by omega) (by omega) (by omega) (by omega) (by omega) (by omega)
    · exact absurd x1 y1
  · rcases hM with ⟨y1, y2, y3⟩ | ⟨y1, g, y2, y3⟩ | ⟨y1, y2⟩
    · exact absurd y1 x1
    · exact absurd (by omega) x1
    · rw [x2, y2]
theorem m_us_lt (P k j : Nat) (hk : k < P) : ∀ (L : List (Nat × Nat × Int32)) (μ : mM), (m_us P μ L).1 k j = μ.1 k j
  | [], _ => rfl
  | u :: L, μ => by
    show (m_us P (m_si μ (P + u.1) u.2.1 u.2.2) L).1 k j = μ.1 k j
    rw [m_us_lt P k j hk L]
    exact if_neg (fun h => by have := h.1; omega)
theorem m_us_all {P i : Nat} {μ : mM} (hμ : m_Zr P μ) (L : List (Nat × Nat × Int32)) (h : L.all (fun u => !(u.1 == i)) = true) (j : Nat) : (m_us P μ L).1 (P + i) j = 0 := by
  refine m_us_0 hμ L i j ?_
  rw [List.all_eq_true] at h ⊢
  intro u hu
  have := h u hu
  simp only [Bool.not_eq_true', beq_eq_false_iff_ne, ne_eq] at this
  simp [this]
theorem z_75 (j : Nat) : MU0.1 75 j = 0 := by
  unfold MU0
  rw [m_us_lt 81 75 j (by decide)]
  unfold MU1
  have h := m_us_all (P := 0) (i := 75) m_0z U_29 (by decide +kernel) j
  rw [Nat.zero_add] at h
  exact h
theorem MU0_F : m_RF MU0 := by
  have a : MU0.1 71 4 = 0 := by decide +kernel
  unfold m_RF
  rw [a]
  exact ⟨m_DN.zero z_75, fun i _ => ⟨z_75 i, z_75 (41 * i)⟩⟩
