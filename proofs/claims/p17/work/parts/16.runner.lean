set_option maxHeartbeats 4000000 in
set_option maxRecDepth 100000 in
theorem g_X6_turns_52 (l : Launch) (D : va_G) (cy : Nat → ClassId) (b : Nat) (k : Int32) (μ : mM) (hI : IX μ) : m_Ci l yX6_turns cX6_turns 2 ((some .int)) 1 D cy b LAY μ [.ref (b + 52), .int k] (fun r ν => μ = ν ∧ (True)) := by
  unfold m_Ci
  refine m_of (by decide) (Nat.le_of_ble_eq_true rfl) ?_
  intro p e s m below meth c hx hb hr hml hown hts hlocks _ hW ls hl
  have hown : s.vm.findClass RX6 = some m.cls := hown
  have hl : lv_has ls 2 [(0, .ref (b + 52)), (1, .int k)] := hl
  refine lv_iload_n hx hb dX6_turns_0 rfl (lv_at hl 1 rfl) ?_
  refine lv_iconst (v := 0) hx hb dX6_turns_1 (by decide) ?_
  refine lv_iconst (v := 4) hx hb dX6_turns_2 (by decide) ?_
  have l_0 : (0 : Int32).toInt = 0 := by decide
  have l_4 : (4 : Int32).toInt = 4 := by decide
  refine m_aI hW (m_runSN (As := [.int k, .int 0, .int 4]) (rest := []) hx hb hml hown hts hW (g_X11_within l D cy b k 0 4 μ hI) ms_X11_within n_X6_82 rfl hl.1 rfl (Nat.le_of_ble_eq_true rfl) dX6_turns_3 ⟨Nat.le_of_ble_eq_true rfl, Nat.le_of_ble_eq_true rfl⟩ ⟨Nat.le_of_ble_eq_true rfl, Nat.le_of_ble_eq_true rfl⟩) (fun x1 μ1 H locs q1 hW => ?_)
  obtain ⟨q1_m, q1⟩ := q1
  subst q1_m
  rcases q1 with ⟨rfl, q1⟩ | ⟨rfl, q1⟩
  · refine lv_if_eq (tgt := 18) hx hb dX6_turns_6 (by decide) (fun c => False.elim (by revert c; decide)) (fun _ => ?_)
    refine lv_aload_n hx hb dX6_turns_9 rfl (lv_at hl 0 rfl) ?_
    refine m_getr hx hb hts hown hW (52) 0 (53) rfl rfl cw_6 rfl (by decide) k_X6_11 dX6_turns_10 ?_
    refine lv_iload_n hx hb dX6_turns_13 rfl (lv_at hl 1 rfl) ?_
    refine m_iald hx hb hW (53) rfl (m_ixI (rfl : k.toInt = _) (by omega) (by omega)) dX6_turns_14 ?_
    refine lv_topi (fun x2 ex2 => ?_)
    refine lv_goto (tgt := 19) hx hb dX6_turns_15 (by decide) ?_
    exact m_iret hx hb hr hlocks hW rfl (⟨rfl, trivial⟩) dX6_turns_19
  · refine lv_if_eq (tgt := 18) hx hb dX6_turns_6 (by decide) (fun _ => ?_) (fun c => False.elim (by revert c; decide))
    refine lv_iconst (v := 0) hx hb dX6_turns_18 (by decide) ?_
    exact m_iret hx hb hr hlocks hW rfl (⟨rfl, trivial⟩) dX6_turns_19
set_option maxHeartbeats 4000000 in
set_option maxRecDepth 100000 in
theorem g_X6_setTurns_52 (l : Launch) (D : va_G) (cy : Nat → ClassId) (b : Nat) (S : Nat → Bool) (μ0 : mM) (hS6 : S 6 = true) (hS7 : S 7 = true) (k u : Int32) (μ : mM) (hI : IY S μ0 μ) : m_Cv l yX6_setTurns cX6_setTurns 3 (none) 1 D cy b LAY μ [.ref (b + 52), .int k, .int u] (fun ν => IY S μ0 ν ∧ (True)) := by
  unfold m_Cv
  refine m_of (by decide) (Nat.le_of_ble_eq_true rfl) ?_
  intro p e s m below meth c hx hb hr hml hown hts hlocks _ hW ls hl
  have hown : s.vm.findClass RX6 = some m.cls := hown
  have hl : lv_has ls 3 [(0, .ref (b + 52)), (1, .int k), (2, .int u)] := hl
  refine lv_iload_n hx hb dX6_setTurns_0 rfl (lv_at hl 1 rfl) ?_
  refine lv_iconst (v := 0) hx hb dX6_setTurns_1 (by decide) ?_
  refine lv_iconst (v := 4) hx hb dX6_setTurns_2 (by decide) ?_
  have l_0 : (0 : Int32).toInt = 0 := by decide
  have l_4 : (4 : Int32).toInt = 4 := by decide
  refine m_aI hW (m_runSN (As := [.int k, .int 0, .int 4]) (rest := []) hx hb hml hown hts hW (g_X11_within l D cy b k 0 4 μ hI.1) ms_X11_within n_X6_82 rfl hl.1 rfl (Nat.le_of_ble_eq_true rfl) dX6_setTurns_3 ⟨Nat.le_of_ble_eq_true rfl, Nat.le_of_ble_eq_true rfl⟩ ⟨Nat.le_of_ble_eq_true rfl, Nat.le_of_ble_eq_true rfl⟩) (fun x1 μ1 H locs q1 hW => ?_)
  obtain ⟨q1_m, q1⟩ := q1
  subst q1_m
  rcases q1 with ⟨rfl, q1⟩ | ⟨rfl, q1⟩
  · refine lv_if_eq (tgt := 16) hx hb dX6_setTurns_6 (by decide) (fun c => False.elim (by revert c; decide)) (fun _ => ?_)
    refine lv_aload_n hx hb dX6_setTurns_9 rfl (lv_at hl 0 rfl) ?_
    refine m_getr hx hb hts hown hW (52) 0 (53) rfl rfl cw_6 rfl (by decide) k_X6_11 dX6_setTurns_10 ?_
    refine lv_iload_n hx hb dX6_setTurns_13 rfl (lv_at hl 1 rfl) ?_
    refine lv_iload_n hx hb dX6_setTurns_14 rfl (lv_at hl 2 rfl) ?_
    refine m_iast hx hb hW (53) rfl (m_ixI (rfl : k.toInt = _) (by omega) (by omega)) dX6_setTurns_15 (fun H locs hW _ => ?_)
    generalize hμ2 : m_si μ (53) (k : Int32).toNatClampNeg u = μ2 at hW
    have hI := hI.si0 hμ2 rfl hS7
    exact m_vret hx hb hr hlocks hW (⟨hI, trivial⟩) dX6_setTurns_16
  · refine lv_if_eq (tgt := 16) hx hb dX6_setTurns_6 (by decide) (fun _ => ?_) (fun c => False.elim (by revert c; decide))
    exact m_vret hx hb hr hlocks hW (⟨hI, trivial⟩) dX6_setTurns_16
set_option maxHeartbeats 4000000 in
set_option maxRecDepth 100000 in
theorem L_X6_stay_52_3 {p : Program} {l : Launch} {e : Env} {s : State} {m : MethodId} {args : Array Value} {below : List Frame} {meth : Method} {c : Code} {D : va_G} {cy : Nat → ClassId} {b : Nat} (hx : p.tables.exec = Jvm.exec) (hb : c.code = cX6_stay) (hr : meth.sig.returnType = (none)) (hml : c.maxLocals = 5) (hown : s.vm.findClass RX6 = some m.cls) (hts : ∀ w ∈ TB, w.before args s = true) (hlocks : meth.locks = false) (S : Nat → Bool) (μ0 : mM) (hS6 : S 6 = true) (hS7 : S 7 = true) (v : Int32) : ∀ (f : Nat), ∀ (y4 : Int32) (hy : 0 ≤ y4.toInt ∧ y4.toInt ≤ 2147483647) (hf : 2147483647 - y4.toInt < (f : Int)) (μ : mM) (hI : IY S μ0 μ) (H : Heap) (locs : List Loc), m_WA (m_A b LAY) D cy s b LAY μ H locs → ∀ ls : Array Slot, lv_has ls 5 [(0, .ref (b + 52)), (1, .ref (b + 41)), (2, .ref (b + 1)), (3, .int v), (4, .int y4)] → W p l e (m_R 4 0 0) s m args below meth c H locs 0 0 (MQ below (m_Qv D cy b LAY (fun ν => IY S μ0 ν ∧ (True))) args s 0 0 (m_A b LAY)) (F0 m 3 ls []) := by
  intro f
  induction f with
  | zero => intro y4 hy hf; exfalso; omega
  | succ f ih =>
    intro y4 hy hf μ hI H locs hW ls hl
    refine lv_iload hx hb dX6_stay_3 (lv_at hl 4 rfl) ?_
    refine lv_iload_n hx hb dX6_stay_5 rfl (lv_at hl 3 rfl) ?_
    refine lv_icmp_ge (tgt := 37) hx hb dX6_stay_6 (by decide) (fun c1 => ?_) (fun c1 => ?_)
    · have i1 := m_c3 (rfl : v.toInt = _) (rfl : y4.toInt = _) c1
      exact m_vret hx hb hr hlocks hW (⟨hI, trivial⟩) dX6_stay_37
    · have i1 := m_c4 (rfl : v.toInt = _) (rfl : y4.toInt = _) c1; have r_v := m_rng v
      refine lv_aload_n hx hb dX6_stay_9 rfl (lv_at hl 0 rfl) ?_
      refine m_geti hx hb hts hown hW (52) 1 rfl rfl cw_6 rfl (by decide) k_X6_15 dX6_stay_10 ?_
      refine lv_topi (fun x2 ex2 => ?_)
      refine lv_if_le (tgt := 37) hx hb dX6_stay_13 (by decide) (fun c3 => ?_) (fun c3 => ?_)
      · have i3 := m_c3 (rfl : x2.toInt = _) (by decide : (0 : Int32).toInt = 0) c3
        exact m_vret hx hb hr hlocks hW (⟨hI, trivial⟩) dX6_stay_37
      · have i3 := m_c4 (rfl : x2.toInt = _) (by decide : (0 : Int32).toInt = 0) c3
        refine lv_aload_n hx hb dX6_stay_16 rfl (lv_at hl 0 rfl) ?_
        refine lv_dup hx hb dX6_stay_17 rfl ?_
        refine m_geti hx hb hts hown hW (52) 1 rfl rfl cw_6 rfl (by decide) k_X6_15 dX6_stay_18 ?_
        refine lv_topi (fun x4 ex4 => ?_)
        have ex4 : x4 = x2 := by rw [ex4]; exact ex2.symm
        have ex4 := ex4.symm
        subst ex4
        refine lv_iconst (v := 1) hx hb dX6_stay_21 (by decide) ?_
        refine lv_isub hx hb dX6_stay_22 ?_
        refine lv_topi (fun x5 ex5 => ?_)
        have r_x2 := m_rng x2
        have tx5 : x5.toInt = x2.toInt - 1 := m_subI ex5 (rfl : x2.toInt = _) (by decide : (1 : Int32).toInt = 1) (by omega) (by omega)
        refine m_puti hx hb hts hown hW (52) 1 rfl rfl cw_6 tyX6_ok nmX6 rfl (by decide) k_X6_15 rfl rfl rfl dX6_stay_23 (fun H locs hW _ => ?_)
        generalize hμ6 : m_si μ (52) 1 x5 = μ6 at hW
        have hI := hI.si0 hμ6 rfl hS7
        refine lv_aload_n hx hb dX6_stay_26 rfl (lv_at hl 1 rfl) ?_
        refine lv_aload_n hx hb dX6_stay_27 rfl (lv_at hl 2 rfl) ?_
        refine m_aV hW (m_runV (As := [.ref (b + 1)]) (rest := []) hx hb hml hown hts hW (41) (g_X3_tick_41 l D cy b S μ0 hS6 μ6 hI) mi_X3_tick k_X6_100 rfl rfl rfl hl.1 rfl (Nat.le_of_ble_eq_true rfl) dX6_stay_28 ⟨Nat.le_of_ble_eq_true rfl, Nat.le_of_ble_eq_true rfl⟩ ⟨Nat.le_of_ble_eq_true rfl, Nat.le_of_ble_eq_true rfl⟩) (fun μ7 H locs q7 hW => ?_)
        obtain ⟨hI, q7⟩ := q7
        obtain ⟨x8, ex8⟩ : ∃ z : Int32, z = y4 + 1 := ⟨_, rfl⟩
        refine lv_iinc (v := x8) (lv' := [(4, .int x8), (0, .ref (b + 52)), (1, .ref (b + 41)), (2, .ref (b + 1)), (3, .int v)]) hx hb dX6_stay_31 hl (k := 4) rfl (by rw [ex8]; rfl) (by decide) rfl (fun ls hl => ?_)
        have tx8 : x8.toInt = y4.toInt + 1 := m_addI ex8 (rfl : y4.toInt = _) (by decide : (1 : Int32).toInt = 1) (by omega) (by omega)
        refine lv_goto (tgt := 3) hx hb dX6_stay_34 (by decide) ?_
        exact ih x8 (by omega) (by omega) μ7 hI _ _ hW ls (lv_sub hl [1, 2, 3, 4, 0] rfl)
set_option maxHeartbeats 4000000 in
set_option maxRecDepth 100000 in
theorem g_X6_stay_52 (l : Launch) (D : va_G) (cy : Nat → ClassId) (b : Nat) (S : Nat → Bool) (μ0 : mM) (hS6 : S 6 = true) (hS7 : S 7 = true) (v : Int32) (μ : mM) (hI : IY S μ0 μ) : m_Cv l yX6_stay cX6_stay 5 (none) 4 D cy b LAY μ [.ref (b + 52), .ref (b + 41), .ref (b + 1), .int v] (fun ν => IY S μ0 ν ∧ (True)) := by
  unfold m_Cv
  refine m_of (by decide) (Nat.le_of_ble_eq_true rfl) ?_
  intro p e s m below meth c hx hb hr hml hown hts hlocks _ hW ls hl
  have hown : s.vm.findClass RX6 = some m.cls := hown
  have hl : lv_has ls 5 [(0, .ref (b + 52)), (1, .ref (b + 41)), (2, .ref (b + 1)), (3, .int v)] := hl
  refine lv_iconst (v := 0) hx hb dX6_stay_0 (by decide) ?_
  refine lv_istore (lv' := [(4, .int 0), (0, .ref (b + 52)), (1, .ref (b + 41)), (2, .ref (b + 1)), (3, .int v)]) hx hb dX6_stay_1 hl (by decide) rfl (fun ls hl => ?_)
  have l_0 : (0 : Int32).toInt = 0 := by decide
  exact L_X6_stay_52_3 hx hb hr hml hown hts hlocks S μ0 hS6 hS7 v  2147483648 0 (by omega) (by omega) μ hI _ _ hW ls (lv_sub hl [1, 2, 3, 4, 0] rfl)
set_option maxHeartbeats 4000000 in
set_option maxRecDepth 100000 in
theorem L_X6_travel_52_58 {p : Program} {l : Launch} {e : Env} {s : State} {m : MethodId} {args : Array Value} {below : List Frame} {meth : Method} {c : Code} {D : va_G} {cy : Nat → ClassId} {b : Nat} (hx : p.tables.exec = Jvm.exec) (hb : c.code = cX6_travel) (hr : meth.sig.returnType = (none)) (hml : c.maxLocals = 8) (hown : s.vm.findClass RX6 = some m.cls) (hts : ∀ w ∈ TB, w.before args s = true) (hlocks : meth.locks = false) (S : Nat → Bool) (μ0 : mM) (hS6 : S 6 = true) (hS7 : S 7 = true) (u v : Int32) (F6 : Nat) (O6 : ∀ (y5 y6 : Int32) (hy : 0 ≤ y5.toInt ∧ y5.toInt ≤ 1 ∧ 0 ≤ y6.toInt ∧ y6.toInt ≤ 2147483647) (hf : 2147483647 - y6.toInt < (F6 : Int)) (μ : mM) (hI : IY S μ0 μ) (H : Heap) (locs : List Loc), m_WA (m_A b LAY) D cy s b LAY μ H locs → ∀ ls : Array Slot, lv_has ls 8 [(0, .ref (b + 52)), (1, .ref (b + 41)), (2, .ref (b + 1)), (3, .int u), (4, .int v), (5, .int y5), (6, .int y6)] → W p l e (m_R 4 0 0) s m args below meth c H locs 0 0 (MQ below (m_Qv D cy b LAY (fun ν => IY S μ0 ν ∧ (True))) args s 0 0 (m_A b LAY)) (F0 m 6 ls [])) : ∀ (f : Nat), ∀ (y5 y6 y7 : Int32) (hy : 2147483647 - y6.toInt < (F6 : Int) + 1 ∧ 0 ≤ y5.toInt ∧ y5.toInt ≤ 1 ∧ 0 ≤ y6.toInt ∧ y6.toInt ≤ 2147483646 ∧ 0 ≤ y7.toInt ∧ y7.toInt ≤ 2147483647 ∧ 0 ≤ y5.toInt ∧ y5.toInt ≤ 1 ∧ 0 ≤ y6.toInt ∧ y6.toInt ≤ 2147483647) (hf : 2147483647 - y7.toInt < (f : Int)) (μ : mM) (hI : IY S μ0 μ) (H : Heap) (locs : List Loc), m_WA (m_A b LAY) D cy s b LAY μ H locs → ∀ ls : Array Slot, lv_has ls 8 [(0, .ref (b + 52)), (1, .ref (b + 41)), (2, .ref (b + 1)), (3, .int u), (4, .int v), (5, .int y5), (6, .int y6), (7, .int y7)] → W p l e (m_R 4 0 0) s m args below meth c H locs 0 0 (MQ below (m_Qv D cy b LAY (fun ν => IY S μ0 ν ∧ (True))) args s 0 0 (m_A b LAY)) (F0 m 58 ls []) := by
  intro f
  induction f with
  | zero => intro y5 y6 y7 hy hf; exfalso; omega
  | succ f ih =>
    intro y5 y6 y7 hy hf μ hI H locs hW ls hl
    refine lv_iload hx hb dX6_travel_58 (lv_at hl 7 rfl) ?_
    refine lv_aload_n hx hb dX6_travel_60 rfl (lv_at hl 1 rfl) ?_
    refine m_getr hx hb hts hown hW (41) 10 (42) rfl rfl cw_3 rfl (by decide) k_X6_51 dX6_travel_61 ?_
    refine m_geti hx hb hts hown hW (42) 3 rfl rfl cw_1 rfl (by decide) k_X6_55 dX6_travel_64 ?_
    refine lv_topi (fun x1 ex1 => ?_)
    refine lv_icmp_ge (tgt := 103) hx hb dX6_travel_67 (by decide) (fun c2 => ?_) (fun c2 => ?_)
    · have i2 := m_c3 (rfl : x1.toInt = _) (rfl : y7.toInt = _) c2
      obtain ⟨x3, ex3⟩ : ∃ z : Int32, z = y6 + 1 := ⟨_, rfl⟩
      refine lv_iinc (v := x3) (lv' := [(6, .int x3), (0, .ref (b + 52)), (1, .ref (b + 41)), (2, .ref (b + 1)), (3, .int u), (4, .int v), (5, .int y5), (7, .int y7)]) hx hb dX6_travel_103 hl (k := 6) rfl (by rw [ex3]; rfl) (by decide) rfl (fun ls hl => ?_)
      have tx3 : x3.toInt = y6.toInt + 1 := m_addI ex3 (rfl : y6.toInt = _) (by decide : (1 : Int32).toInt = 1) (by omega) (by omega)
      refine lv_goto (tgt := 6) hx hb dX6_travel_106 (by decide) ?_
      exact O6 y5 x3 (by omega) (by omega) μ hI _ _ hW ls (lv_sub hl [1, 2, 3, 4, 5, 6, 0] rfl)
    · have i2 := m_c4 (rfl : x1.toInt = _) (rfl : y7.toInt = _) c2; have r_x1 := m_rng x1
      refine lv_aload_n hx hb dX6_travel_70 rfl (lv_at hl 0 rfl) ?_
      refine m_geti hx hb hts hown hW (52) 1 rfl rfl cw_6 rfl (by decide) k_X6_15 dX6_travel_71 ?_
      refine lv_topi (fun x4 ex4 => ?_)
      refine lv_if_le (tgt := 103) hx hb dX6_travel_74 (by decide) (fun c5 => ?_) (fun c5 => ?_)
      · have i5 := m_c3 (rfl : x4.toInt = _) (by decide : (0 : Int32).toInt = 0) c5
        obtain ⟨x6, ex6⟩ : ∃ z : Int32, z = y6 + 1 := ⟨_, rfl⟩
        refine lv_iinc (v := x6) (lv' := [(6, .int x6), (0, .ref (b + 52)), (1, .ref (b + 41)), (2, .ref (b + 1)), (3, .int u), (4, .int v), (5, .int y5), (7, .int y7)]) hx hb dX6_travel_103 hl (k := 6) rfl (by rw [ex6]; rfl) (by decide) rfl (fun ls hl => ?_)
        have tx6 : x6.toInt = y6.toInt + 1 := m_addI ex6 (rfl : y6.toInt = _) (by decide : (1 : Int32).toInt = 1) (by omega) (by omega)
        refine lv_goto (tgt := 6) hx hb dX6_travel_106 (by decide) ?_
        exact O6 y5 x6 (by omega) (by omega) μ hI _ _ hW ls (lv_sub hl [1, 2, 3, 4, 5, 6, 0] rfl)
      · have i5 := m_c4 (rfl : x4.toInt = _) (by decide : (0 : Int32).toInt = 0) c5
        refine lv_iload hx hb dX6_travel_77 (lv_at hl 5 rfl) ?_
        refine lv_if_eq (tgt := 103) hx hb dX6_travel_79 (by decide) (fun c7 => ?_) (fun c7 => ?_)
        · have i7 := m_c5 (rfl : y5.toInt = _) (by decide : (0 : Int32).toInt = 0) c7
          obtain ⟨x8, ex8⟩ : ∃ z : Int32, z = y6 + 1 := ⟨_, rfl⟩
          refine lv_iinc (v := x8) (lv' := [(6, .int x8), (0, .ref (b + 52)), (1, .ref (b + 41)), (2, .ref (b + 1)), (3, .int u), (4, .int v), (5, .int y5), (7, .int y7)]) hx hb dX6_travel_103 hl (k := 6) rfl (by rw [ex8]; rfl) (by decide) rfl (fun ls hl => ?_)
          have tx8 : x8.toInt = y6.toInt + 1 := m_addI ex8 (rfl : y6.toInt = _) (by decide : (1 : Int32).toInt = 1) (by omega) (by omega)
          refine lv_goto (tgt := 6) hx hb dX6_travel_106 (by decide) ?_
          exact O6 y5 x8 (by omega) (by omega) μ hI _ _ hW ls (lv_sub hl [1, 2, 3, 4, 5, 6, 0] rfl)
        · have i7 := m_c6 (rfl : y5.toInt = _) (by decide : (0 : Int32).toInt = 0) c7
          refine lv_aload_n hx hb dX6_travel_82 rfl (lv_at hl 0 rfl) ?_
          refine lv_dup hx hb dX6_travel_83 rfl ?_
          refine m_geti hx hb hts hown hW (52) 1 rfl rfl cw_6 rfl (by decide) k_X6_15 dX6_travel_84 ?_
          refine lv_topi (fun x9 ex9 => ?_)
          have ex9 : x9 = x4 := by rw [ex9]; exact ex4.symm
          have ex9 := ex9.symm
          subst ex9
          refine lv_iconst (v := 1) hx hb dX6_travel_87 (by decide) ?_
          refine lv_isub hx hb dX6_travel_88 ?_
          refine lv_topi (fun x10 ex10 => ?_)
          have r_x4 := m_rng x4
          have tx10 : x10.toInt = x4.toInt - 1 := m_subI ex10 (rfl : x4.toInt = _) (by decide : (1 : Int32).toInt = 1) (by omega) (by omega)
          refine m_puti hx hb hts hown hW (52) 1 rfl rfl cw_6 tyX6_ok nmX6 rfl (by decide) k_X6_15 rfl rfl rfl dX6_travel_89 (fun H locs hW _ => ?_)
          generalize hμ11 : m_si μ (52) 1 x10 = μ11 at hW
          have hI := hI.si0 hμ11 rfl hS7
          refine lv_aload_n hx hb dX6_travel_92 rfl (lv_at hl 1 rfl) ?_
          refine lv_aload_n hx hb dX6_travel_93 rfl (lv_at hl 2 rfl) ?_
          refine m_aV hW (m_runV (As := [.ref (b + 1)]) (rest := []) hx hb hml hown hts hW (41) (g_X3_tick_41 l D cy b S μ0 hS6 μ11 hI) mi_X3_tick k_X6_100 rfl rfl rfl hl.1 rfl (Nat.le_of_ble_eq_true rfl) dX6_travel_94 ⟨Nat.le_of_ble_eq_true rfl, Nat.le_of_ble_eq_true rfl⟩ ⟨Nat.le_of_ble_eq_true rfl, Nat.le_of_ble_eq_true rfl⟩) (fun μ12 H locs q12 hW => ?_)
          obtain ⟨hI, q12⟩ := q12
          obtain ⟨x13, ex13⟩ : ∃ z : Int32, z = y7 + 1 := ⟨_, rfl⟩
          refine lv_iinc (v := x13) (lv' := [(7, .int x13), (0, .ref (b + 52)), (1, .ref (b + 41)), (2, .ref (b + 1)), (3, .int u), (4, .int v), (5, .int y5), (6, .int y6)]) hx hb dX6_travel_97 hl (k := 7) rfl (by rw [ex13]; rfl) (by decide) rfl (fun ls hl => ?_)
          have tx13 : x13.toInt = y7.toInt + 1 := m_addI ex13 (rfl : y7.toInt = _) (by decide : (1 : Int32).toInt = 1) (by omega) (by omega)
          refine lv_goto (tgt := 58) hx hb dX6_travel_100 (by decide) ?_
          exact ih y5 y6 x13 (by omega) (by omega) μ12 hI _ _ hW ls (lv_sub hl [1, 2, 3, 4, 5, 6, 7, 0] rfl)
set_option maxHeartbeats 4000000 in
set_option maxRecDepth 100000 in
theorem L_X6_travel_52_6 {p : Program} {l : Launch} {e : Env} {s : State} {m : MethodId} {args : Array Value} {below : List Frame} {meth : Method} {c : Code} {D : va_G} {cy : Nat → ClassId} {b : Nat} (hx : p.tables.exec = Jvm.exec) (hb : c.code = cX6_travel) (hr : meth.sig.returnType = (none)) (hml : c.maxLocals = 8) (hown : s.vm.findClass RX6 = some m.cls) (hts : ∀ w ∈ TB, w.before args s = true) (hlocks : meth.locks = false) (S : Nat → Bool) (μ0 : mM) (hS6 : S 6 = true) (hS7 : S 7 = true) (u v : Int32) : ∀ (f : Nat), ∀ (y5 y6 : Int32) (hy : 0 ≤ y5.toInt ∧ y5.toInt ≤ 1 ∧ 0 ≤ y6.toInt ∧ y6.toInt ≤ 2147483647) (hf : 2147483647 - y6.toInt < (f : Int)) (μ : mM) (hI : IY S μ0 μ) (H : Heap) (locs : List Loc), m_WA (m_A b LAY) D cy s b LAY μ H locs → ∀ ls : Array Slot, lv_has ls 8 [(0, .ref (b + 52)), (1, .ref (b + 41)), (2, .ref (b + 1)), (3, .int u), (4, .int v), (5, .int y5), (6, .int y6)] → W p l e (m_R 4 0 0) s m args below meth c H locs 0 0 (MQ below (m_Qv D cy b LAY (fun ν => IY S μ0 ν ∧ (True))) args s 0 0 (m_A b LAY)) (F0 m 6 ls []) := by
  intro f
  induction f with
  | zero => intro y5 y6 hy hf; exfalso; omega
  | succ f ih =>
    intro y5 y6 hy hf μ hI H locs hW ls hl
    refine lv_iload hx hb dX6_travel_6 (lv_at hl 6 rfl) ?_
    refine lv_iload hx hb dX6_travel_8 (lv_at hl 4 rfl) ?_
    refine lv_icmp_ge (tgt := 109) hx hb dX6_travel_10 (by decide) (fun c1 => ?_) (fun c1 => ?_)
    · have i1 := m_c3 (rfl : v.toInt = _) (rfl : y6.toInt = _) c1
      exact m_vret hx hb hr hlocks hW (⟨hI, trivial⟩) dX6_travel_109
    · have i1 := m_c4 (rfl : v.toInt = _) (rfl : y6.toInt = _) c1; have r_v := m_rng v
      refine lv_aload_n hx hb dX6_travel_13 rfl (lv_at hl 0 rfl) ?_
      refine m_geti hx hb hts hown hW (52) 1 rfl rfl cw_6 rfl (by decide) k_X6_15 dX6_travel_14 ?_
      refine lv_topi (fun x2 ex2 => ?_)
      refine lv_if_le (tgt := 109) hx hb dX6_travel_17 (by decide) (fun c3 => ?_) (fun c3 => ?_)
      · have i3 := m_c3 (rfl : x2.toInt = _) (by decide : (0 : Int32).toInt = 0) c3
        exact m_vret hx hb hr hlocks hW (⟨hI, trivial⟩) dX6_travel_109
      · have i3 := m_c4 (rfl : x2.toInt = _) (by decide : (0 : Int32).toInt = 0) c3
        refine lv_iload hx hb dX6_travel_20 (lv_at hl 5 rfl) ?_
        refine lv_if_eq (tgt := 109) hx hb dX6_travel_22 (by decide) (fun c4 => ?_) (fun c4 => ?_)
        · have i4 := m_c5 (rfl : y5.toInt = _) (by decide : (0 : Int32).toInt = 0) c4
          exact m_vret hx hb hr hlocks hW (⟨hI, trivial⟩) dX6_travel_109
        · have i4 := m_c6 (rfl : y5.toInt = _) (by decide : (0 : Int32).toInt = 0) c4
          refine lv_aload_n hx hb dX6_travel_25 rfl (lv_at hl 1 rfl) ?_
          refine lv_aload_n hx hb dX6_travel_26 rfl (lv_at hl 1 rfl) ?_
          refine m_getr hx hb hts hown hW (41) 10 (42) rfl rfl cw_3 rfl (by decide) k_X6_51 dX6_travel_27 ?_
          refine m_geti hx hb hts hown hW (42) 0 rfl rfl cw_1 rfl (by decide) k_X6_88 dX6_travel_30 ?_
          refine lv_topi (fun x5 ex5 => ?_)
          refine lv_iload_n hx hb dX6_travel_33 rfl (lv_at hl 3 rfl) ?_
          refine m_aI hW (m_runSN (As := [.int u]) (rest := [.int x5, .ref (b + 41)]) hx hb hml hown hts hW (g_X11_stepX l D cy b u μ hI.1) ms_X11_stepX n_X6_91 rfl hl.1 rfl (Nat.le_of_ble_eq_true rfl) dX6_travel_34 ⟨Nat.le_of_ble_eq_true rfl, Nat.le_of_ble_eq_true rfl⟩ ⟨Nat.le_of_ble_eq_true rfl, Nat.le_of_ble_eq_true rfl⟩) (fun x6 μ6 H locs q6 hW => ?_)
          obtain ⟨q6_m, q6⟩ := q6
          subst q6_m
          refine lv_iadd hx hb dX6_travel_37 ?_
          refine lv_topi (fun x7 ex7 => ?_)
          refine lv_aload_n hx hb dX6_travel_38 rfl (lv_at hl 1 rfl) ?_
          refine m_getr hx hb hts hown hW (41) 10 (42) rfl rfl cw_3 rfl (by decide) k_X6_51 dX6_travel_39 ?_
          refine m_geti hx hb hts hown hW (42) 1 rfl rfl cw_1 rfl (by decide) k_X6_94 dX6_travel_42 ?_
          refine lv_topi (fun x8 ex8 => ?_)
          refine lv_iload_n hx hb dX6_travel_45 rfl (lv_at hl 3 rfl) ?_
          refine m_aI hW (m_runSN (As := [.int u]) (rest := [.int x8, .int x7, .ref (b + 41)]) hx hb hml hown hts hW (g_X11_stepY l D cy b u μ hI.1) ms_X11_stepY n_X6_97 rfl hl.1 rfl (Nat.le_of_ble_eq_true rfl) dX6_travel_46 ⟨Nat.le_of_ble_eq_true rfl, Nat.le_of_ble_eq_true rfl⟩ ⟨Nat.le_of_ble_eq_true rfl, Nat.le_of_ble_eq_true rfl⟩) (fun x9 μ9 H locs q9 hW => ?_)
          obtain ⟨q9_m, q9⟩ := q9
          subst q9_m
          refine lv_iadd hx hb dX6_travel_49 ?_
          refine lv_topi (fun x10 ex10 => ?_)
          refine m_aI hW (m_runV (As := [.int x7, .int x10]) (rest := []) hx hb hml hown hts hW (41) (g_X3_moveHead_41 l D cy b S μ0 hS6 x7 x10 μ hI) mi_X3_moveHead k_X6_39 rfl rfl rfl hl.1 rfl (Nat.le_of_ble_eq_true rfl) dX6_travel_50 ⟨Nat.le_of_ble_eq_true rfl, Nat.le_of_ble_eq_true rfl⟩ ⟨Nat.le_of_ble_eq_true rfl, Nat.le_of_ble_eq_true rfl⟩) (fun x11 μ11 H locs q11 hW => ?_)
          obtain ⟨hI, q11⟩ := q11
          rcases q11 with ⟨rfl, q11⟩ | ⟨rfl, q11⟩
          · refine lv_istore (lv' := [(5, .int 1), (0, .ref (b + 52)), (1, .ref (b + 41)), (2, .ref (b + 1)), (3, .int u), (4, .int v), (6, .int y6)]) hx hb dX6_travel_53 hl (by decide) rfl (fun ls hl => ?_)
            refine lv_iconst (v := 0) hx hb dX6_travel_55 (by decide) ?_
            refine lv_istore (lv' := [(7, .int 0), (5, .int 1), (0, .ref (b + 52)), (1, .ref (b + 41)), (2, .ref (b + 1)), (3, .int u), (4, .int v), (6, .int y6)]) hx hb dX6_travel_56 hl (by decide) rfl (fun ls hl => ?_)
            have l_1 : (1 : Int32).toInt = 1 := by decide
            have l_0 : (0 : Int32).toInt = 0 := by decide
            exact L_X6_travel_52_58 hx hb hr hml hown hts hlocks S μ0 hS6 hS7 u v f ih 2147483648 1 y6 0 (by omega) (by omega) μ11 hI _ _ hW ls (lv_sub hl [2, 3, 4, 5, 6, 1, 7, 0] rfl)
          · refine lv_istore (lv' := [(5, .int 0), (0, .ref (b + 52)), (1, .ref (b + 41)), (2, .ref (b + 1)), (3, .int u), (4, .int v), (6, .int y6)]) hx hb dX6_travel_53 hl (by decide) rfl (fun ls hl => ?_)
            refine lv_iconst (v := 0) hx hb dX6_travel_55 (by decide) ?_
            refine lv_istore (lv' := [(7, .int 0), (5, .int 0), (0, .ref (b + 52)), (1, .ref (b + 41)), (2, .ref (b + 1)), (3, .int u), (4, .int v), (6, .int y6)]) hx hb dX6_travel_56 hl (by decide) rfl (fun ls hl => ?_)
            have l_0 : (0 : Int32).toInt = 0 := by decide
            exact L_X6_travel_52_58 hx hb hr hml hown hts hlocks S μ0 hS6 hS7 u v f ih 2147483648 0 y6 0 (by omega) (by omega) μ11 hI _ _ hW ls (lv_sub hl [2, 3, 4, 5, 6, 1, 7, 0] rfl)
set_option maxHeartbeats 4000000 in
set_option maxRecDepth 100000 in
theorem g_X6_travel_52 (l : Launch) (D : va_G) (cy : Nat → ClassId) (b : Nat) (S : Nat → Bool) (μ0 : mM) (hS6 : S 6 = true) (hS7 : S 7 = true) (u v : Int32) (μ : mM) (hI : IY S μ0 μ) : m_Cv l yX6_travel cX6_travel 8 (none) 4 D cy b LAY μ [.ref (b + 52), .ref (b + 41), .ref (b + 1), .int u, .int v] (fun ν => IY S μ0 ν ∧ (True)) := by
  unfold m_Cv
  refine m_of (by decide) (Nat.le_of_ble_eq_true rfl) ?_
  intro p e s m below meth c hx hb hr hml hown hts hlocks _ hW ls hl
  have hown : s.vm.findClass RX6 = some m.cls := hown
  have hl : lv_has ls 8 [(0, .ref (b + 52)), (1, .ref (b + 41)), (2, .ref (b + 1)), (3, .int u), (4, .int v)] := hl
  refine lv_iconst (v := 1) hx hb dX6_travel_0 (by decide) ?_
  refine lv_istore (lv' := [(5, .int 1), (0, .ref (b + 52)), (1, .ref (b + 41)), (2, .ref (b + 1)), (3, .int u), (4, .int v)]) hx hb dX6_travel_1 hl (by decide) rfl (fun ls hl => ?_)
  refine lv_iconst (v := 0) hx hb dX6_travel_3 (by decide) ?_
  refine lv_istore (lv' := [(6, .int 0), (5, .int 1), (0, .ref (b + 52)), (1, .ref (b + 41)), (2, .ref (b + 1)), (3, .int u), (4, .int v)]) hx hb dX6_travel_4 hl (by decide) rfl (fun ls hl => ?_)
  have l_1 : (1 : Int32).toInt = 1 := by decide
  have l_0 : (0 : Int32).toInt = 0 := by decide
  exact L_X6_travel_52_6 hx hb hr hml hown hts hlocks S μ0 hS6 hS7 u v  2147483648 1 0 (by omega) (by omega) μ hI _ _ hW ls (lv_sub hl [2, 3, 4, 5, 6, 1, 0] rfl)
set_option maxHeartbeats 4000000 in
set_option maxRecDepth 100000 in
theorem g_X6_valueOf_52 (l : Launch) (D : va_G) (cy : Nat → ClassId) (b : Nat) (k u : Int32) (μ : mM) (hI : IX μ) : m_Ci l yX6_valueOf cX6_valueOf 5 ((some .int)) 1 D cy b LAY μ [.ref (b + 52), .int k, .int u, .ref (b + 41)] (fun r ν => μ = ν ∧ (True)) := by
  unfold m_Ci
  refine m_of (by decide) (Nat.le_of_ble_eq_true rfl) ?_
  intro p e s m below meth c hx hb hr hml hown hts hlocks _ hW ls hl
  have hown : s.vm.findClass RX6 = some m.cls := hown
  have hl : lv_has ls 5 [(0, .ref (b + 52)), (1, .int k), (2, .int u), (3, .ref (b + 41))] := hl
  refine lv_aload_n hx hb dX6_valueOf_0 rfl (lv_at hl 3 rfl) ?_
  refine lv_aload_n hx hb dX6_valueOf_1 rfl (lv_at hl 3 rfl) ?_
  refine m_aI hW (m_runV (As := []) (rest := [.ref (b + 41)]) hx hb hml hown hts hW (41) (g_X3_headPlace_41 l D cy b μ hI) mi_X3_headPlace k_X6_117 rfl rfl rfl hl.1 rfl (Nat.le_of_ble_eq_true rfl) dX6_valueOf_2 ⟨Nat.le_of_ble_eq_true rfl, Nat.le_of_ble_eq_true rfl⟩ ⟨Nat.le_of_ble_eq_true rfl, Nat.le_of_ble_eq_true rfl⟩) (fun x1 μ1 H locs q1 hW => ?_)
  obtain ⟨q1_m, q1⟩ := q1
  subst q1_m
  refine m_aI hW (m_runV (As := [.int x1]) (rest := []) hx hb hml hown hts hW (41) (g_X3_isThere_41 l D cy b x1 μ hI) mi_X3_isThere k_X6_121 rfl rfl rfl hl.1 rfl (Nat.le_of_ble_eq_true rfl) dX6_valueOf_5 ⟨Nat.le_of_ble_eq_true rfl, Nat.le_of_ble_eq_true rfl⟩ ⟨Nat.le_of_ble_eq_true rfl, Nat.le_of_ble_eq_true rfl⟩) (fun x2 μ2 H locs q2 hW => ?_)
  obtain ⟨q2_m, q2⟩ := q2
  subst q2_m
  rcases q2 with ⟨rfl, q2⟩ | ⟨rfl, q2⟩
  · refine lv_istore (lv' := [(4, .int 1), (0, .ref (b + 52)), (1, .int k), (2, .int u), (3, .ref (b + 41))]) hx hb dX6_valueOf_8 hl (by decide) rfl (fun ls hl => ?_)
    refine lv_iload_n hx hb dX6_valueOf_10 rfl (lv_at hl 2 rfl) ?_
    by_cases c3 : k.toInt < 23 ∨ 27 < k.toInt
    · refine lv_tableOut (tgt := 100) hx hb dX6_valueOf_11 c3 (by decide) ?_
      refine lv_iload_n hx hb dX6_valueOf_100 rfl (lv_at hl 3 rfl) ?_
      exact m_iret hx hb hr hlocks hW rfl (⟨rfl, trivial⟩) dX6_valueOf_101
    · have q3 : k.toInt = 23 ∨ k.toInt = 24 ∨ k.toInt = 25 ∨ k.toInt = 26 ∨ k.toInt = 27 := by omega
      rcases q3 with q3 | q3 | q3 | q3 | q3
      · refine lv_tableIn (off := 33) (tgt := 44) hx hb dX6_valueOf_11 (fun z => c3 (Or.inl z)) (fun z => c3 (Or.inr z)) (by rw [q3]; rfl) (by decide) ?_
        refine lv_iload hx hb dX6_valueOf_44 (lv_at hl 0 rfl) ?_
        refine lv_if_eq (tgt := 61) hx hb dX6_valueOf_46 (by decide) (fun c => False.elim (by revert c; decide)) (fun _ => ?_)
        refine lv_aload_n hx hb dX6_valueOf_49 rfl (lv_at hl 4 rfl) ?_
        refine m_getr hx hb hts hown hW (41) 11 (43) rfl rfl cw_3 rfl (by decide) k_X6_125 dX6_valueOf_50 ?_
        refine lv_aload_n hx hb dX6_valueOf_53 rfl (lv_at hl 4 rfl) ?_
        refine m_aI hW (m_runV (As := []) (rest := [.ref (b + 43)]) hx hb hml hown hts hW (41) (g_X3_headPlace_41 l D cy b μ hI) mi_X3_headPlace k_X6_117 rfl rfl rfl hl.1 rfl (Nat.le_of_ble_eq_true rfl) dX6_valueOf_54 ⟨Nat.le_of_ble_eq_true rfl, Nat.le_of_ble_eq_true rfl⟩ ⟨Nat.le_of_ble_eq_true rfl, Nat.le_of_ble_eq_true rfl⟩) (fun x4 μ4 H locs q4 hW => ?_)
        obtain ⟨q4_m, q4⟩ := q4
        subst q4_m
        have hq4 := q1.trans q4.symm
        subst hq4
        refine m_iald hx hb hW (43) rfl (m_ixI (rfl : x1.toInt = _) (by omega) (by omega)) dX6_valueOf_57 ?_
        refine lv_topi (fun x5 ex5 => ?_)
        refine lv_goto (tgt := 62) hx hb dX6_valueOf_58 (by decide) ?_
        exact m_iret hx hb hr hlocks hW rfl (⟨rfl, trivial⟩) dX6_valueOf_62
      · refine lv_tableIn (off := 52) (tgt := 63) hx hb dX6_valueOf_11 (fun z => c3 (Or.inl z)) (fun z => c3 (Or.inr z)) (by rw [q3]; rfl) (by decide) ?_
        refine lv_aload_n hx hb dX6_valueOf_63 rfl (lv_at hl 4 rfl) ?_
        refine m_getr hx hb hts hown hW (41) 10 (42) rfl rfl cw_3 rfl (by decide) k_X6_51 dX6_valueOf_64 ?_
        refine m_geti hx hb hts hown hW (42) 0 rfl rfl cw_1 rfl (by decide) k_X6_88 dX6_valueOf_67 ?_
        refine lv_topi (fun x6 ex6 => ?_)
        exact m_iret hx hb hr hlocks hW rfl (⟨rfl, trivial⟩) dX6_valueOf_70
      · refine lv_tableIn (off := 60) (tgt := 71) hx hb dX6_valueOf_11 (fun z => c3 (Or.inl z)) (fun z => c3 (Or.inr z)) (by rw [q3]; rfl) (by decide) ?_
        refine lv_aload_n hx hb dX6_valueOf_71 rfl (lv_at hl 4 rfl) ?_
        refine m_getr hx hb hts hown hW (41) 10 (42) rfl rfl cw_3 rfl (by decide) k_X6_51 dX6_valueOf_72 ?_
        refine m_geti hx hb hts hown hW (42) 1 rfl rfl cw_1 rfl (by decide) k_X6_94 dX6_valueOf_75 ?_
        refine lv_topi (fun x7 ex7 => ?_)
        exact m_iret hx hb hr hlocks hW rfl (⟨rfl, trivial⟩) dX6_valueOf_78
      · refine lv_tableIn (off := 68) (tgt := 79) hx hb dX6_valueOf_11 (fun z => c3 (Or.inl z)) (fun z => c3 (Or.inr z)) (by rw [q3]; rfl) (by decide) ?_
        refine lv_aload_n hx hb dX6_valueOf_79 rfl (lv_at hl 4 rfl) ?_
        refine m_geti hx hb hts hown hW (41) 5 rfl rfl cw_3 rfl (by decide) k_X6_22 dX6_valueOf_80 ?_
        refine lv_topi (fun x8 ex8 => ?_)
        refine lv_aload_n hx hb dX6_valueOf_83 rfl (lv_at hl 1 rfl) ?_
        refine m_geti hx hb hts hown hW (52) 2 rfl rfl cw_6 rfl (by decide) k_X6_19 dX6_valueOf_84 ?_
        refine lv_topi (fun x9 ex9 => ?_)
        refine lv_isub hx hb dX6_valueOf_87 ?_
        refine lv_topi (fun x10 ex10 => ?_)
        exact m_iret hx hb hr hlocks hW rfl (⟨rfl, trivial⟩) dX6_valueOf_88
      · refine lv_tableIn (off := 78) (tgt := 89) hx hb dX6_valueOf_11 (fun z => c3 (Or.inl z)) (fun z => c3 (Or.inr z)) (by rw [q3]; rfl) (by decide) ?_
        refine lv_iload hx hb dX6_valueOf_89 (lv_at hl 0 rfl) ?_
        refine lv_if_eq (tgt := 98) hx hb dX6_valueOf_91 (by decide) (fun c => False.elim (by revert c; decide)) (fun _ => ?_)
        refine lv_iconst (v := 0) hx hb dX6_valueOf_94 (by decide) ?_
        refine lv_goto (tgt := 99) hx hb dX6_valueOf_95 (by decide) ?_
        exact m_iret hx hb hr hlocks hW rfl (⟨rfl, trivial⟩) dX6_valueOf_99
  · refine lv_istore (lv' := [(4, .int 0), (0, .ref (b + 52)), (1, .int k), (2, .int u), (3, .ref (b + 41))]) hx hb dX6_valueOf_8 hl (by decide) rfl (fun ls hl => ?_)
    refine lv_iload_n hx hb dX6_valueOf_10 rfl (lv_at hl 2 rfl) ?_
    by_cases c11 : k.toInt < 23 ∨ 27 < k.toInt
    · refine lv_tableOut (tgt := 100) hx hb dX6_valueOf_11 c11 (by decide) ?_
      refine lv_iload_n hx hb dX6_valueOf_100 rfl (lv_at hl 3 rfl) ?_
      exact m_iret hx hb hr hlocks hW rfl (⟨rfl, trivial⟩) dX6_valueOf_101
    · have q11 : k.toInt = 23 ∨ k.toInt = 24 ∨ k.toInt = 25 ∨ k.toInt = 26 ∨ k.toInt = 27 := by omega
      rcases q11 with q11 | q11 | q11 | q11 | q11
      · refine lv_tableIn (off := 33) (tgt := 44) hx hb dX6_valueOf_11 (fun z => c11 (Or.inl z)) (fun z => c11 (Or.inr z)) (by rw [q11]; rfl) (by decide) ?_
        refine lv_iload hx hb dX6_valueOf_44 (lv_at hl 0 rfl) ?_
        refine lv_if_eq (tgt := 61) hx hb dX6_valueOf_46 (by decide) (fun _ => ?_) (fun c => False.elim (by revert c; decide))
        refine lv_iconst (v := 0) hx hb dX6_valueOf_61 (by decide) ?_
        exact m_iret hx hb hr hlocks hW rfl (⟨rfl, trivial⟩) dX6_valueOf_62
      · refine lv_tableIn (off := 52) (tgt := 63) hx hb dX6_valueOf_11 (fun z => c11 (Or.inl z)) (fun z => c11 (Or.inr z)) (by rw [q11]; rfl) (by decide) ?_
        refine lv_aload_n hx hb dX6_valueOf_63 rfl (lv_at hl 4 rfl) ?_
        refine m_getr hx hb hts hown hW (41) 10 (42) rfl rfl cw_3 rfl (by decide) k_X6_51 dX6_valueOf_64 ?_
        refine m_geti hx hb hts hown hW (42) 0 rfl rfl cw_1 rfl (by decide) k_X6_88 dX6_valueOf_67 ?_
        refine lv_topi (fun x12 ex12 => ?_)
        exact m_iret hx hb hr hlocks hW rfl (⟨rfl, trivial⟩) dX6_valueOf_70
      · refine lv_tableIn (off := 60) (tgt := 71) hx hb dX6_valueOf_11 (fun z => c11 (Or.inl z)) (fun z => c11 (Or.inr z)) (by rw [q11]; rfl) (by decide) ?_
        refine lv_aload_n hx hb dX6_valueOf_71 rfl (lv_at hl 4 rfl) ?_
        refine m_getr hx hb hts hown hW (41) 10 (42) rfl rfl cw_3 rfl (by decide) k_X6_51 dX6_valueOf_72 ?_
        refine m_geti hx hb hts hown hW (42) 1 rfl rfl cw_1 rfl (by decide) k_X6_94 dX6_valueOf_75 ?_
        refine lv_topi (fun x13 ex13 => ?_)
        exact m_iret hx hb hr hlocks hW rfl (⟨rfl, trivial⟩) dX6_valueOf_78
      · refine lv_tableIn (off := 68) (tgt := 79) hx hb dX6_valueOf_11 (fun z => c11 (Or.inl z)) (fun z => c11 (Or.inr z)) (by rw [q11]; rfl) (by decide) ?_
        refine lv_aload_n hx hb dX6_valueOf_79 rfl (lv_at hl 4 rfl) ?_
        refine m_geti hx hb hts hown hW (41) 5 rfl rfl cw_3 rfl (by decide) k_X6_22 dX6_valueOf_80 ?_
        refine lv_topi (fun x14 ex14 => ?_)
        refine lv_aload_n hx hb dX6_valueOf_83 rfl (lv_at hl 1 rfl) ?_
        refine m_geti hx hb hts hown hW (52) 2 rfl rfl cw_6 rfl (by decide) k_X6_19 dX6_valueOf_84 ?_
        refine lv_topi (fun x15 ex15 => ?_)
        refine lv_isub hx hb dX6_valueOf_87 ?_
        refine lv_topi (fun x16 ex16 => ?_)
        exact m_iret hx hb hr hlocks hW rfl (⟨rfl, trivial⟩) dX6_valueOf_88
      · refine lv_tableIn (off := 78) (tgt := 89) hx hb dX6_valueOf_11 (fun z => c11 (Or.inl z)) (fun z => c11 (Or.inr z)) (by rw [q11]; rfl) (by decide) ?_
        refine lv_iload hx hb dX6_valueOf_89 (lv_at hl 0 rfl) ?_
        refine lv_if_eq (tgt := 98) hx hb dX6_valueOf_91 (by decide) (fun _ => ?_) (fun c => False.elim (by revert c; decide))
        refine lv_iconst (v := 1) hx hb dX6_valueOf_98 (by decide) ?_
        exact m_iret hx hb hr hlocks hW rfl (⟨rfl, trivial⟩) dX6_valueOf_99
set_option maxHeartbeats 4000000 in
set_option maxRecDepth 100000 in
theorem L_X6_sum_52_6 {p : Program} {l : Launch} {e : Env} {s : State} {m : MethodId} {args : Array Value} {below : List Frame} {meth : Method} {c : Code} {D : va_G} {cy : Nat → ClassId} {b : Nat} (hx : p.tables.exec = Jvm.exec) (hb : c.code = cX6_sum) (hr : meth.sig.returnType = ((some .long))) (hml : c.maxLocals = 11) (hown : s.vm.findClass RX6 = some m.cls) (hts : ∀ w ∈ TB, w.before args s = true) (hlocks : meth.locks = false) (μ1 : mM) (k k1 n : Nat) (hk : LAY[k]? = some (.inl (5, [k1 + 3, 0]))) (hk1 : LAY[k1]? = some (.inr (0, n, []))) (hn : n < 2 ^ 30) (hb1 : bX k 1 = some (0, (n : Int))) (hb0 : ∀ j, bX k1 j = none) (u v : Int32) : ∀ (f : Nat), ∀ (y7 : Int32) (y5 : Int64) (hy : 0 ≤ y7.toInt ∧ y7.toInt ≤ 2147483647) (hf : 2147483647 - y7.toInt < (f : Int)) (μ : mM) (hI : IX μ) (hm : μ = μ1) (H : Heap) (locs : List Loc), m_WA (m_A b LAY) D cy s b LAY μ H locs → ∀ ls : Array Slot, lv_has ls 11 [(0, .ref (b + 52)), (1, .ref (b + k)), (2, .int u), (3, .int v), (4, .ref (b + 41)), (5, .long y5), (7, .int y7)] → W p l e (m_R 2 0 0) s m args below meth c H locs 0 0 (MQ below (m_Ql D cy b LAY (fun r ν => μ1 = ν ∧ (True))) args s 0 0 (m_A b LAY)) (F0 m 6 ls []) := by
  intro f
  induction f with
  | zero => intro y7 y5 hy hf; exfalso; omega
  | succ f ih =>
    intro y7 y5 hy hf μ hI hm H locs hW ls hl
    refine lv_iload hx hb dX6_sum_6 (lv_at hl 6 rfl) ?_
    refine lv_iload_n hx hb dX6_sum_8 rfl (lv_at hl 3 rfl) ?_
    refine lv_icmp_ge (tgt := 74) hx hb dX6_sum_9 (by decide) (fun c1 => ?_) (fun c1 => ?_)
    · have i1 := m_c3 (rfl : v.toInt = _) (rfl : y7.toInt = _) c1
      refine lv_lload hx hb dX6_sum_74 (lv_at hl 5 rfl) ?_
      exact m_lret hx hb hr hlocks hW (⟨hm.symm, trivial⟩) dX6_sum_76
    · have i1 := m_c4 (rfl : v.toInt = _) (rfl : y7.toInt = _) c1; have r_v := m_rng v
      refine lv_aload_n hx hb dX6_sum_12 rfl (lv_at hl 1 rfl) ?_
      refine lv_iload_n hx hb dX6_sum_13 rfl (lv_at hl 2 rfl) ?_
      refine lv_iconst (v := 2) hx hb dX6_sum_14 (by decide) ?_
      refine lv_iload hx hb dX6_sum_15 (lv_at hl 6 rfl) ?_
      refine lv_imul hx hb dX6_sum_17 ?_
      refine lv_topi (fun x2 ex2 => ?_)
      refine lv_iadd hx hb dX6_sum_18 ?_
      refine lv_topi (fun x3 ex3 => ?_)
      refine m_aI hW (m_runV (As := [.int x3]) (rest := []) hx hb hml hown hts hW (k) (g_X5_at l D cy b k k1 n hk hk1 hn hb1 hb0 x3 μ hI) mi_X5_at k_X6_33 hk rfl rfl hl.1 rfl (Nat.le_of_ble_eq_true rfl) dX6_sum_19 ⟨Nat.le_of_ble_eq_true rfl, Nat.le_of_ble_eq_true rfl⟩ ⟨Nat.le_of_ble_eq_true rfl, Nat.le_of_ble_eq_true rfl⟩) (fun x4 μ4 H locs q4 hW => ?_)
      obtain ⟨q4_m, q4⟩ := q4
      subst q4_m
      refine lv_istore (lv' := [(8, .int x4), (0, .ref (b + 52)), (1, .ref (b + k)), (2, .int u), (3, .int v), (4, .ref (b + 41)), (5, .long y5), (7, .int y7)]) hx hb dX6_sum_22 hl (by decide) rfl (fun ls hl => ?_)
      refine lv_aload_n hx hb dX6_sum_24 rfl (lv_at hl 1 rfl) ?_
      refine lv_iload hx hb dX6_sum_25 (lv_at hl 0 rfl) ?_
      refine va_mabs hx hb (hml.trans hl.1.symm) hown (hts _ k_X6_108) (hts _ kM_abs_s) (hts _ kM_n) (hts _ kM_abs_c) (Nat.le_of_ble_eq_true rfl) (Nat.le_of_ble_eq_true rfl) (Nat.le_of_ble_eq_true rfl) (Nat.le_of_ble_eq_true rfl) dX6_sum_27 ?_
      refine lv_topi (fun x5 ex5 => ?_)
      refine lv_aload_n hx hb dX6_sum_30 rfl (lv_at hl 2 rfl) ?_
      refine lv_iload_n hx hb dX6_sum_31 rfl (lv_at hl 3 rfl) ?_
      refine lv_iconst (v := 2) hx hb dX6_sum_32 (by decide) ?_
      refine lv_iload hx hb dX6_sum_33 (lv_at hl 7 rfl) ?_
      refine lv_imul hx hb dX6_sum_35 ?_
      refine lv_topi (fun x6 ex6 => ?_)
      have ex6 : x6 = x2 := ex6.trans ex2.symm
      have ex6 := ex6.symm
      subst ex6
      refine lv_iadd hx hb dX6_sum_36 ?_
      refine lv_topi (fun x7 ex7 => ?_)
      have ex7 : x7 = x3 := ex7.trans ex3.symm
      have ex7 := ex7.symm
      subst ex7
      refine lv_iconst (v := 1) hx hb dX6_sum_37 (by decide) ?_
      refine lv_iadd hx hb dX6_sum_38 ?_
      refine lv_topi (fun x8 ex8 => ?_)
      refine m_aI hW (m_runV (As := [.int x8]) (rest := [.int x5, .ref (b + 52)]) hx hb hml hown hts hW (k) (g_X5_at l D cy b k k1 n hk hk1 hn hb1 hb0 x8 μ hI) mi_X5_at k_X6_33 hk rfl rfl hl.1 rfl (Nat.le_of_ble_eq_true rfl) dX6_sum_39 ⟨Nat.le_of_ble_eq_true rfl, Nat.le_of_ble_eq_true rfl⟩ ⟨Nat.le_of_ble_eq_true rfl, Nat.le_of_ble_eq_true rfl⟩) (fun x9 μ9 H locs q9 hW => ?_)
      obtain ⟨q9_m, q9⟩ := q9
      subst q9_m
      refine lv_aload hx hb dX6_sum_42 (lv_at hl 5 rfl) ?_
      refine m_aI hW (m_runV (As := [.int x5, .int x9, .ref (b + 41)]) (rest := []) hx hb hml hown hts hW (52) (g_X6_valueOf_52 l D cy b x5 x9 μ hI) mi_X6_valueOf k_X6_113 rfl rfl rfl hl.1 rfl (Nat.le_of_ble_eq_true rfl) dX6_sum_44 ⟨Nat.le_of_ble_eq_true rfl, Nat.le_of_ble_eq_true rfl⟩ ⟨Nat.le_of_ble_eq_true rfl, Nat.le_of_ble_eq_true rfl⟩) (fun x10 μ10 H locs q10 hW => ?_)
      obtain ⟨q10_m, q10⟩ := q10
      subst q10_m
      refine lv_i2l hx hb dX6_sum_47 rfl ?_
      refine lv_topl (fun x11 ex11 => ?_)
      refine lv_lstore (lv' := [(9, .long x11), (8, .int x4), (0, .ref (b + 52)), (1, .ref (b + k)), (2, .int u), (3, .int v), (4, .ref (b + 41)), (5, .long y5), (7, .int y7)]) hx hb dX6_sum_48 hl (by decide) rfl (fun ls hl => ?_)
      refine lv_lload hx hb dX6_sum_50 (lv_at hl 7 rfl) ?_
      refine lv_iload hx hb dX6_sum_52 (lv_at hl 1 rfl) ?_
      refine lv_if_ge (tgt := 63) hx hb dX6_sum_54 (by decide) (fun c12 => ?_) (fun c12 => ?_)
      · have i12 := m_c3 (by decide : (0 : Int32).toInt = 0) (rfl : x4.toInt = _) c12
        refine lv_lload hx hb dX6_sum_63 (lv_at hl 0 rfl) ?_
        refine lv_ladd hx hb dX6_sum_65 ?_
        refine lv_topl (fun x13 ex13 => ?_)
        refine lv_lstore (lv' := [(5, .long x13), (9, .long x11), (8, .int x4), (0, .ref (b + 52)), (1, .ref (b + k)), (2, .int u), (3, .int v), (4, .ref (b + 41)), (7, .int y7)]) hx hb dX6_sum_66 hl (by decide) rfl (fun ls hl => ?_)
        obtain ⟨x14, ex14⟩ : ∃ z : Int32, z = y7 + 1 := ⟨_, rfl⟩
        refine lv_iinc (v := x14) (lv' := [(7, .int x14), (5, .long x13), (9, .long x11), (8, .int x4), (0, .ref (b + 52)), (1, .ref (b + k)), (2, .int u), (3, .int v), (4, .ref (b + 41))]) hx hb dX6_sum_68 hl (k := 8) rfl (by rw [ex14]; rfl) (by decide) rfl (fun ls hl => ?_)
        have tx14 : x14.toInt = y7.toInt + 1 := m_addI ex14 (rfl : y7.toInt = _) (by decide : (1 : Int32).toInt = 1) (by omega) (by omega)
        refine lv_goto (tgt := 6) hx hb dX6_sum_71 (by decide) ?_
        exact ih x14 x13 (by omega) (by omega) μ hI hm _ _ hW ls (lv_sub hl [4, 5, 6, 7, 8, 1, 0] rfl)
      · have i12 := m_c4 (by decide : (0 : Int32).toInt = 0) (rfl : x4.toInt = _) c12
        refine lv_lload hx hb dX6_sum_57 (lv_at hl 0 rfl) ?_
        refine lv_lneg hx hb dX6_sum_59 ?_
        refine lv_topl (fun x15 ex15 => ?_)
        refine lv_goto (tgt := 65) hx hb dX6_sum_60 (by decide) ?_
        refine lv_ladd hx hb dX6_sum_65 ?_
        refine lv_topl (fun x16 ex16 => ?_)
        refine lv_lstore (lv' := [(5, .long x16), (9, .long x11), (8, .int x4), (0, .ref (b + 52)), (1, .ref (b + k)), (2, .int u), (3, .int v), (4, .ref (b + 41)), (7, .int y7)]) hx hb dX6_sum_66 hl (by decide) rfl (fun ls hl => ?_)
        obtain ⟨x17, ex17⟩ : ∃ z : Int32, z = y7 + 1 := ⟨_, rfl⟩
        refine lv_iinc (v := x17) (lv' := [(7, .int x17), (5, .long x16), (9, .long x11), (8, .int x4), (0, .ref (b + 52)), (1, .ref (b + k)), (2, .int u), (3, .int v), (4, .ref (b + 41))]) hx hb dX6_sum_68 hl (k := 8) rfl (by rw [ex17]; rfl) (by decide) rfl (fun ls hl => ?_)
        have tx17 : x17.toInt = y7.toInt + 1 := m_addI ex17 (rfl : y7.toInt = _) (by decide : (1 : Int32).toInt = 1) (by omega) (by omega)
        refine lv_goto (tgt := 6) hx hb dX6_sum_71 (by decide) ?_
        exact ih x17 x16 (by omega) (by omega) μ hI hm _ _ hW ls (lv_sub hl [4, 5, 6, 7, 8, 1, 0] rfl)
set_option maxHeartbeats 4000000 in
set_option maxRecDepth 100000 in
theorem g_X6_sum_52 (l : Launch) (D : va_G) (cy : Nat → ClassId) (b : Nat) (k k1 n : Nat) (hk : LAY[k]? = some (.inl (5, [k1 + 3, 0]))) (hk1 : LAY[k1]? = some (.inr (0, n, []))) (hn : n < 2 ^ 30) (hb1 : bX k 1 = some (0, (n : Int))) (hb0 : ∀ j, bX k1 j = none) (u v : Int32) (μ : mM) (hI : IX μ) : m_Cl l yX6_sum cX6_sum 11 ((some .long)) 2 D cy b LAY μ [.ref (b + 52), .ref (b + k), .int u, .int v, .ref (b + 41)] (fun r ν => μ = ν ∧ (True)) := by
  unfold m_Cl
  refine m_of (by decide) (Nat.le_of_ble_eq_true rfl) ?_
  intro p e s m below meth c hx hb hr hml hown hts hlocks _ hW ls hl
  have hown : s.vm.findClass RX6 = some m.cls := hown
  have hl : lv_has ls 11 [(0, .ref (b + 52)), (1, .ref (b + k)), (2, .int u), (3, .int v), (4, .ref (b + 41))] := hl
  refine lv_lconst (v := 0) hx hb dX6_sum_0 (by decide) ?_
  refine lv_lstore (lv' := [(5, .long 0), (0, .ref (b + 52)), (1, .ref (b + k)), (2, .int u), (3, .int v), (4, .ref (b + 41))]) hx hb dX6_sum_1 hl (by decide) rfl (fun ls hl => ?_)
  refine lv_iconst (v := 0) hx hb dX6_sum_3 (by decide) ?_
  refine lv_istore (lv' := [(7, .int 0), (5, .long 0), (0, .ref (b + 52)), (1, .ref (b + k)), (2, .int u), (3, .int v), (4, .ref (b + 41))]) hx hb dX6_sum_4 hl (by decide) rfl (fun ls hl => ?_)
  have l_0 : (0 : Int32).toInt = 0 := by decide
  exact L_X6_sum_52_6 hx hb hr hml hown hts hlocks μ k k1 n hk hk1 hn hb1 hb0 u v  2147483648 0 0 (by omega) (by omega) μ hI rfl _ _ hW ls (lv_sub hl [2, 3, 4, 5, 6, 1, 0] rfl)
set_option maxHeartbeats 4000000 in
set_option maxRecDepth 100000 in
theorem g_X6_isSo_52 (l : Launch) (D : va_G) (cy : Nat → ClassId) (b : Nat) (k k1 n : Nat) (hk : LAY[k]? = some (.inl (5, [k1 + 3, 0]))) (hk1 : LAY[k1]? = some (.inr (0, n, []))) (hn : n < 2 ^ 30) (hb1 : bX k 1 = some (0, (n : Int))) (hb0 : ∀ j, bX k1 j = none) (u : Int32) (μ : mM) (hI : IX μ) : m_Ci l yX6_isSo cX6_isSo 9 ((some .boolean)) 3 D cy b LAY μ [.ref (b + 52), .ref (b + k), .int u, .ref (b + 41)] (fun r ν => μ = ν ∧ ((r = 1 ∧ (True)) ∨ (r = 0 ∧ (True)))) := by
  unfold m_Ci
  refine m_of (by decide) (Nat.le_of_ble_eq_true rfl) ?_
  intro p e s m below meth c hx hb hr hml hown hts hlocks _ hW ls hl
  have hown : s.vm.findClass RX6 = some m.cls := hown
  have hl : lv_has ls 9 [(0, .ref (b + 52)), (1, .ref (b + k)), (2, .int u), (3, .ref (b + 41))] := hl
  refine lv_aload_n hx hb dX6_isSo_0 rfl (lv_at hl 1 rfl) ?_
  refine lv_iload_n hx hb dX6_isSo_1 rfl (lv_at hl 2 rfl) ?_
  refine lv_iconst (v := 3) hx hb dX6_isSo_2 (by decide) ?_
  refine lv_iadd hx hb dX6_isSo_3 ?_
  refine lv_topi (fun x1 ex1 => ?_)
  refine m_aI hW (m_runV (As := [.int x1]) (rest := []) hx hb hml hown hts hW (k) (g_X5_at l D cy b k k1 n hk hk1 hn hb1 hb0 x1 μ hI) mi_X5_at k_X6_33 hk rfl rfl hl.1 rfl (Nat.le_of_ble_eq_true rfl) dX6_isSo_4 ⟨Nat.le_of_ble_eq_true rfl, Nat.le_of_ble_eq_true rfl⟩ ⟨Nat.le_of_ble_eq_true rfl, Nat.le_of_ble_eq_true rfl⟩) (fun x2 μ2 H locs q2 hW => ?_)
  obtain ⟨q2_m, q2⟩ := q2
  subst q2_m
  refine lv_istore (lv' := [(4, .int x2), (0, .ref (b + 52)), (1, .ref (b + k)), (2, .int u), (3, .ref (b + 41))]) hx hb dX6_isSo_7 hl (by decide) rfl (fun ls hl => ?_)
  refine lv_aload_n hx hb dX6_isSo_9 rfl (lv_at hl 1 rfl) ?_
  refine lv_aload_n hx hb dX6_isSo_10 rfl (lv_at hl 2 rfl) ?_
  refine lv_iload_n hx hb dX6_isSo_11 rfl (lv_at hl 3 rfl) ?_
  refine lv_iconst (v := 5) hx hb dX6_isSo_12 (by decide) ?_
  refine lv_iadd hx hb dX6_isSo_13 ?_
  refine lv_topi (fun x3 ex3 => ?_)
  refine lv_iload hx hb dX6_isSo_14 (lv_at hl 0 rfl) ?_
  refine lv_aload_n hx hb dX6_isSo_16 rfl (lv_at hl 4 rfl) ?_
  refine m_aL hW (m_runV (As := [.ref (b + k), .int x3, .int x2, .ref (b + 41)]) (rest := []) hx hb hml hown hts hW (52) (g_X6_sum_52 l D cy b k k1 n hk hk1 hn hb1 hb0 x3 x2 μ hI) mi_X6_sum k_X6_104 rfl rfl rfl hl.1 rfl (Nat.le_of_ble_eq_true rfl) dX6_isSo_17 ⟨Nat.le_of_ble_eq_true rfl, Nat.le_of_ble_eq_true rfl⟩ ⟨Nat.le_of_ble_eq_true rfl, Nat.le_of_ble_eq_true rfl⟩) (fun x4 μ4 H locs q4 hW => ?_)
  obtain ⟨q4_m, q4⟩ := q4
  subst q4_m
  refine lv_lstore (lv' := [(5, .long x4), (4, .int x2), (0, .ref (b + 52)), (1, .ref (b + k)), (2, .int u), (3, .ref (b + 41))]) hx hb dX6_isSo_20 hl (by decide) rfl (fun ls hl => ?_)
  refine lv_aload_n hx hb dX6_isSo_22 rfl (lv_at hl 2 rfl) ?_
  refine lv_aload_n hx hb dX6_isSo_23 rfl (lv_at hl 3 rfl) ?_
  refine lv_iload_n hx hb dX6_isSo_24 rfl (lv_at hl 4 rfl) ?_
  refine lv_iconst (v := 5) hx hb dX6_isSo_25 (by decide) ?_
  refine lv_iadd hx hb dX6_isSo_26 ?_
  refine lv_topi (fun x5 ex5 => ?_)
  have ex5 : x5 = x3 := ex5.trans ex3.symm
  have ex5 := ex5.symm
  subst ex5
  refine lv_iconst (v := 2) hx hb dX6_isSo_27 (by decide) ?_
  refine lv_iload hx hb dX6_isSo_28 (lv_at hl 1 rfl) ?_
  refine lv_imul hx hb dX6_isSo_30 ?_
  refine lv_topi (fun x6 ex6 => ?_)
  refine lv_iadd hx hb dX6_isSo_31 ?_
  refine lv_topi (fun x7 ex7 => ?_)
  refine lv_aload_n hx hb dX6_isSo_32 rfl (lv_at hl 3 rfl) ?_
  refine lv_iload_n hx hb dX6_isSo_33 rfl (lv_at hl 4 rfl) ?_
  refine lv_iconst (v := 4) hx hb dX6_isSo_34 (by decide) ?_
  refine lv_iadd hx hb dX6_isSo_35 ?_
  refine lv_topi (fun x8 ex8 => ?_)
  refine m_aI hW (m_runV (As := [.int x8]) (rest := [.int x7, .ref (b + k), .ref (b + 52)]) hx hb hml hown hts hW (k) (g_X5_at l D cy b k k1 n hk hk1 hn hb1 hb0 x8 μ hI) mi_X5_at k_X6_33 hk rfl rfl hl.1 rfl (Nat.le_of_ble_eq_true rfl) dX6_isSo_36 ⟨Nat.le_of_ble_eq_true rfl, Nat.le_of_ble_eq_true rfl⟩ ⟨Nat.le_of_ble_eq_true rfl, Nat.le_of_ble_eq_true rfl⟩) (fun x9 μ9 H locs q9 hW => ?_)
  obtain ⟨q9_m, q9⟩ := q9
  subst q9_m
  refine lv_aload_n hx hb dX6_isSo_39 rfl (lv_at hl 5 rfl) ?_
  refine m_aL hW (m_runV (As := [.ref (b + k), .int x7, .int x9, .ref (b + 41)]) (rest := []) hx hb hml hown hts hW (52) (g_X6_sum_52 l D cy b k k1 n hk hk1 hn hb1 hb0 x7 x9 μ hI) mi_X6_sum k_X6_104 rfl rfl rfl hl.1 rfl (Nat.le_of_ble_eq_true rfl) dX6_isSo_40 ⟨Nat.le_of_ble_eq_true rfl, Nat.le_of_ble_eq_true rfl⟩ ⟨Nat.le_of_ble_eq_true rfl, Nat.le_of_ble_eq_true rfl⟩) (fun x10 μ10 H locs q10 hW => ?_)
  obtain ⟨q10_m, q10⟩ := q10
  subst q10_m
  refine lv_lstore (lv' := [(7, .long x10), (5, .long x4), (4, .int x2), (0, .ref (b + 52)), (1, .ref (b + k)), (2, .int u), (3, .ref (b + 41))]) hx hb dX6_isSo_43 hl (by decide) rfl (fun ls hl => ?_)
  refine lv_aload_n hx hb dX6_isSo_45 rfl (lv_at hl 4 rfl) ?_
  refine lv_iload_n hx hb dX6_isSo_46 rfl (lv_at hl 5 rfl) ?_
  refine lv_iconst (v := 2) hx hb dX6_isSo_47 (by decide) ?_
  refine lv_iadd hx hb dX6_isSo_48 ?_
  refine lv_topi (fun x11 ex11 => ?_)
  refine m_aI hW (m_runV (As := [.int x11]) (rest := []) hx hb hml hown hts hW (k) (g_X5_at l D cy b k k1 n hk hk1 hn hb1 hb0 x11 μ hI) mi_X5_at k_X6_33 hk rfl rfl hl.1 rfl (Nat.le_of_ble_eq_true rfl) dX6_isSo_49 ⟨Nat.le_of_ble_eq_true rfl, Nat.le_of_ble_eq_true rfl⟩ ⟨Nat.le_of_ble_eq_true rfl, Nat.le_of_ble_eq_true rfl⟩) (fun x12 μ12 H locs q12 hW => ?_)
  obtain ⟨q12_m, q12⟩ := q12
  subst q12_m
  by_cases c13_6 : x12.toInt = 6
  · refine lv_lookup (off := 28) (tgt := 80) hx hb dX6_isSo_52 (by decide) (by rw [c13_6]; rfl) (by decide) ?_
    refine lv_lload hx hb dX6_isSo_80 (lv_at hl 1 rfl) ?_
    refine lv_lload hx hb dX6_isSo_82 (lv_at hl 0 rfl) ?_
    refine W.lcmp hx hb dX6_isSo_84 ?_
    refine lv_topi (fun x14 ex14 => ?_)
    refine lv_if_ge (tgt := 92) hx hb dX6_isSo_85 (by decide) (fun c15 => ?_) (fun c15 => ?_)
    · have i15 := m_c3 (by decide : (0 : Int32).toInt = 0) (rfl : x14.toInt = _) c15
      refine lv_iconst (v := 0) hx hb dX6_isSo_92 (by decide) ?_
      exact m_iret hx hb hr hlocks hW (by decide) (⟨rfl, Or.inr ⟨rfl, trivial⟩⟩) dX6_isSo_93
    · have i15 := m_c4 (by decide : (0 : Int32).toInt = 0) (rfl : x14.toInt = _) c15
      refine lv_iconst (v := 1) hx hb dX6_isSo_88 (by decide) ?_
      refine lv_goto (tgt := 93) hx hb dX6_isSo_89 (by decide) ?_
      exact m_iret hx hb hr hlocks hW (by decide) (⟨rfl, Or.inl ⟨rfl, trivial⟩⟩) dX6_isSo_93
  by_cases c13_7 : x12.toInt = 7
  · refine lv_lookup (off := 42) (tgt := 94) hx hb dX6_isSo_52 (by decide) (by rw [c13_7]; rfl) (by decide) ?_
    refine lv_lload hx hb dX6_isSo_94 (lv_at hl 1 rfl) ?_
    refine lv_lload hx hb dX6_isSo_96 (lv_at hl 0 rfl) ?_
    refine W.lcmp hx hb dX6_isSo_98 ?_
    refine lv_topi (fun x16 ex16 => ?_)
    refine lv_if_ne (tgt := 106) hx hb dX6_isSo_99 (by decide) (fun c17 => ?_) (fun c17 => ?_)
    · have i17 := m_c6 (rfl : x16.toInt = _) (by decide : (0 : Int32).toInt = 0) c17
      refine lv_iconst (v := 0) hx hb dX6_isSo_106 (by decide) ?_
      exact m_iret hx hb hr hlocks hW (by decide) (⟨rfl, Or.inr ⟨rfl, trivial⟩⟩) dX6_isSo_107
    · have i17 := m_c5 (rfl : x16.toInt = _) (by decide : (0 : Int32).toInt = 0) c17
      refine lv_iconst (v := 1) hx hb dX6_isSo_102 (by decide) ?_
      refine lv_goto (tgt := 107) hx hb dX6_isSo_103 (by decide) ?_
      exact m_iret hx hb hr hlocks hW (by decide) (⟨rfl, Or.inl ⟨rfl, trivial⟩⟩) dX6_isSo_107
  refine lv_lookup (off := 56) (tgt := 108) hx hb dX6_isSo_52 (by decide) (by simp [Op.lookupswitch.offset_cons, Op.lookupswitch.offset_nil, Ne.symm c13_6, Ne.symm c13_7]) (by decide) ?_
  refine lv_lload hx hb dX6_isSo_108 (lv_at hl 1 rfl) ?_
  refine lv_lload hx hb dX6_isSo_110 (lv_at hl 0 rfl) ?_
  refine W.lcmp hx hb dX6_isSo_112 ?_
  refine lv_topi (fun x18 ex18 => ?_)
  refine lv_if_le (tgt := 120) hx hb dX6_isSo_113 (by decide) (fun c19 => ?_) (fun c19 => ?_)
  · have i19 := m_c3 (rfl : x18.toInt = _) (by decide : (0 : Int32).toInt = 0) c19
    refine lv_iconst (v := 0) hx hb dX6_isSo_120 (by decide) ?_
    exact m_iret hx hb hr hlocks hW (by decide) (⟨rfl, Or.inr ⟨rfl, trivial⟩⟩) dX6_isSo_121
  · have i19 := m_c4 (rfl : x18.toInt = _) (by decide : (0 : Int32).toInt = 0) c19
    refine lv_iconst (v := 1) hx hb dX6_isSo_116 (by decide) ?_
    refine lv_goto (tgt := 121) hx hb dX6_isSo_117 (by decide) ?_
    exact m_iret hx hb hr hlocks hW (by decide) (⟨rfl, Or.inl ⟨rfl, trivial⟩⟩) dX6_isSo_121
set_option maxHeartbeats 4000000 in
set_option maxRecDepth 100000 in
theorem g_X6_stepOfIf (l : Launch) (D : va_G) (cy : Nat → ClassId) (b : Nat) (k k1 n : Nat) (hk : LAY[k]? = some (.inl (5, [k1 + 3, 0]))) (hk1 : LAY[k1]? = some (.inr (0, n, []))) (hn : n < 2 ^ 30) (hb1 : bX k 1 = some (0, (n : Int))) (hb0 : ∀ j, bX k1 j = none) (u : Int32) (μ : mM) (hI : IX μ) : m_Ci l yX6_stepOfIf cX6_stepOfIf 2 ((some .int)) 1 D cy b LAY μ [.ref (b + k), .int u] (fun r ν => μ = ν ∧ (True)) := by
  unfold m_Ci
  refine m_of (by decide) (Nat.le_of_ble_eq_true rfl) ?_
  intro p e s m below meth c hx hb hr hml hown hts hlocks _ hW ls hl
  have hown : s.vm.findClass RX6 = some m.cls := hown
  have hl : lv_has ls 2 [(0, .ref (b + k)), (1, .int u)] := hl
  refine lv_iload_n hx hb dX6_stepOfIf_0 rfl (lv_at hl 1 rfl) ?_
  refine lv_iconst (v := 5) hx hb dX6_stepOfIf_1 (by decide) ?_
  refine lv_iadd hx hb dX6_stepOfIf_2 ?_
  refine lv_topi (fun x1 ex1 => ?_)
  refine lv_iconst (v := 2) hx hb dX6_stepOfIf_3 (by decide) ?_
  refine lv_aload_n hx hb dX6_stepOfIf_4 rfl (lv_at hl 0 rfl) ?_
  refine lv_iload_n hx hb dX6_stepOfIf_5 rfl (lv_at hl 1 rfl) ?_
  refine lv_iconst (v := 3) hx hb dX6_stepOfIf_6 (by decide) ?_
  refine lv_iadd hx hb dX6_stepOfIf_7 ?_
  refine lv_topi (fun x2 ex2 => ?_)
  refine m_aI hW (m_runV (As := [.int x2]) (rest := [.int 2, .int x1]) hx hb hml hown hts hW (k) (g_X5_at l D cy b k k1 n hk hk1 hn hb1 hb0 x2 μ hI) mi_X5_at k_X6_33 hk rfl rfl hl.1 rfl (Nat.le_of_ble_eq_true rfl) dX6_stepOfIf_8 ⟨Nat.le_of_ble_eq_true rfl, Nat.le_of_ble_eq_true rfl⟩ ⟨Nat.le_of_ble_eq_true rfl, Nat.le_of_ble_eq_true rfl⟩) (fun x3 μ3 H locs q3 hW => ?_)
  obtain ⟨q3_m, q3⟩ := q3
  subst q3_m
  refine lv_aload_n hx hb dX6_stepOfIf_11 rfl (lv_at hl 0 rfl) ?_
  refine lv_iload_n hx hb dX6_stepOfIf_12 rfl (lv_at hl 1 rfl) ?_
  refine lv_iconst (v := 4) hx hb dX6_stepOfIf_13 (by decide) ?_
  refine lv_iadd hx hb dX6_stepOfIf_14 ?_
  refine lv_topi (fun x4 ex4 => ?_)
  refine m_aI hW (m_runV (As := [.int x4]) (rest := [.int x3, .int 2, .int x1]) hx hb hml hown hts hW (k) (g_X5_at l D cy b k k1 n hk hk1 hn hb1 hb0 x4 μ hI) mi_X5_at k_X6_33 hk rfl rfl hl.1 rfl (Nat.le_of_ble_eq_true rfl) dX6_stepOfIf_15 ⟨Nat.le_of_ble_eq_true rfl, Nat.le_of_ble_eq_true rfl⟩ ⟨Nat.le_of_ble_eq_true rfl, Nat.le_of_ble_eq_true rfl⟩) (fun x5 μ5 H locs q5 hW => ?_)
  obtain ⟨q5_m, q5⟩ := q5
  subst q5_m
  refine lv_iadd hx hb dX6_stepOfIf_18 ?_
  refine lv_topi (fun x6 ex6 => ?_)
  refine lv_imul hx hb dX6_stepOfIf_19 ?_
  refine lv_topi (fun x7 ex7 => ?_)
  refine lv_iadd hx hb dX6_stepOfIf_20 ?_
  refine lv_topi (fun x8 ex8 => ?_)
  exact m_iret hx hb hr hlocks hW rfl (⟨rfl, trivial⟩) dX6_stepOfIf_21
set_option maxHeartbeats 4000000 in
set_option maxRecDepth 100000 in
theorem L_X6_perform_52_21 {p : Program} {l : Launch} {e : Env} {s : State} {m : MethodId} {args : Array Value} {below : List Frame} {meth : Method} {c : Code} {D : va_G} {cy : Nat → ClassId} {b : Nat} (hx : p.tables.exec = Jvm.exec) (hb : c.code = cX6_perform) (hr : meth.sig.returnType = ((some .int))) (hml : c.maxLocals = 9) (hown : s.vm.findClass RX6 = some m.cls) (hts : ∀ w ∈ TB, w.before args s = true) (hlocks : meth.locks = false) (S : Nat → Bool) (μ0 : mM) (hS6 : S 6 = true) (hS7 : S 7 = true) (k k1 n : Nat) (hk : LAY[k]? = some (.inl (5, [k1 + 3, 0]))) (hk1 : LAY[k1]? = some (.inr (0, n, []))) (hn : n < 2 ^ 30) (hb1 : bX k 1 = some (0, (n : Int))) (hb0 : ∀ j, bX k1 j = none) : ∀ (f : Nat), ∀ (y4 y5 : Int32) (hy : 0 ≤ y5.toInt ∧ y5.toInt ≤ 200000) (hf : 200000 - y5.toInt < (f : Int)) (μ : mM) (hI : IY S μ0 μ) (H : Heap) (locs : List Loc), m_WA (m_A b LAY) D cy s b LAY μ H locs → ∀ ls : Array Slot, lv_has ls 9 [(0, .ref (b + 52)), (1, .ref (b + k)), (2, .ref (b + 41)), (3, .ref (b + 1)), (4, .int y4), (5, .int y5)] → W p l e (m_R 5 0 0) s m args below meth c H locs 0 0 (MQ below (m_Qi D cy b LAY (fun r ν => IY S μ0 ν ∧ (True))) args s 0 0 (m_A b LAY)) (F0 m 21 ls []) := by
  intro f
  induction f with
  | zero => intro y4 y5 hy hf; exfalso; omega
  | succ f ih =>
    intro y4 y5 hy hf μ hI H locs hW ls hl
    refine lv_iload hx hb dX6_perform_21 (lv_at hl 5 rfl) ?_
    refine lv_ldc hx hb hown (hts _ k_X6_27) dX6_perform_23 ?_
    refine lv_icmp_ge (tgt := 306) hx hb dX6_perform_25 (by decide) (fun c1 => ?_) (fun c1 => ?_)
    · have i1 := m_c3 (by decide : (200000 : Int32).toInt = 200000) (rfl : y5.toInt = _) c1
      refine lv_aload_n hx hb dX6_perform_306 rfl (lv_at hl 2 rfl) ?_
      refine lv_dup hx hb dX6_perform_307 rfl ?_
      refine m_geti hx hb hts hown hW (41) 6 rfl rfl cw_3 rfl (by decide) k_X6_79 dX6_perform_308 ?_
      refine lv_topi (fun x2 ex2 => ?_)
      refine lv_aload_n hx hb dX6_perform_311 rfl (lv_at hl 0 rfl) ?_
      refine m_geti hx hb hts hown hW (52) 1 rfl rfl cw_6 rfl (by decide) k_X6_15 dX6_perform_312 ?_
      refine lv_topi (fun x3 ex3 => ?_)
      refine lv_if_ne (tgt := 322) hx hb dX6_perform_315 (by decide) (fun c4 => ?_) (fun c4 => ?_)
      · have i4 := m_c6 (rfl : x3.toInt = _) (by decide : (0 : Int32).toInt = 0) c4
        refine lv_iconst (v := 0) hx hb dX6_perform_322 (by decide) ?_
        refine lv_iadd hx hb dX6_perform_323 ?_
        refine lv_topi (fun x5 ex5 => ?_)
        have r_x2 := m_rng x2
        have tx5 : x5.toInt = x2.toInt + 0 := m_addI ex5 (rfl : x2.toInt = _) (by decide : (0 : Int32).toInt = 0) (by omega) (by omega)
        refine m_puti hx hb hts hown hW (41) 6 rfl rfl cw_3 tyX3_ok nmX3 rfl (by decide) k_X6_79 rfl rfl rfl dX6_perform_324 (fun H locs hW _ => ?_)
        generalize hμ6 : m_si μ (41) 6 x5 = μ6 at hW
        have hI := hI.si0 hμ6 rfl hS6
        refine lv_aload_n hx hb dX6_perform_327 rfl (lv_at hl 2 rfl) ?_
        refine m_geti hx hb hts hown hW (41) 5 rfl rfl cw_3 rfl (by decide) k_X6_22 dX6_perform_328 ?_
        refine lv_topi (fun x7 ex7 => ?_)
        refine lv_aload_n hx hb dX6_perform_331 rfl (lv_at hl 0 rfl) ?_
        refine m_geti hx hb hts hown hW (52) 2 rfl rfl cw_6 rfl (by decide) k_X6_19 dX6_perform_332 ?_
        refine lv_topi (fun x8 ex8 => ?_)
        refine lv_isub hx hb dX6_perform_335 ?_
        refine lv_topi (fun x9 ex9 => ?_)
        exact m_iret hx hb hr hlocks hW rfl (⟨hI, trivial⟩) dX6_perform_336
      · have i4 := m_c5 (rfl : x3.toInt = _) (by decide : (0 : Int32).toInt = 0) c4
        refine lv_iconst (v := 1) hx hb dX6_perform_318 (by decide) ?_
        refine lv_goto (tgt := 323) hx hb dX6_perform_319 (by decide) ?_
        refine lv_iadd hx hb dX6_perform_323 ?_
        refine lv_topi (fun x10 ex10 => ?_)
        refine m_puti hx hb hts hown hW (41) 6 rfl rfl cw_3 tyX3_ok nmX3 rfl (by decide) k_X6_79 rfl rfl rfl dX6_perform_324 (fun H locs hW _ => ?_)
        generalize hμ11 : m_si μ (41) 6 x10 = μ11 at hW
        have hI := hI.si0 hμ11 rfl hS6
        refine lv_aload_n hx hb dX6_perform_327 rfl (lv_at hl 2 rfl) ?_
        refine m_geti hx hb hts hown hW (41) 5 rfl rfl cw_3 rfl (by decide) k_X6_22 dX6_perform_328 ?_
        refine lv_topi (fun x12 ex12 => ?_)
        refine lv_aload_n hx hb dX6_perform_331 rfl (lv_at hl 0 rfl) ?_
        refine m_geti hx hb hts hown hW (52) 2 rfl rfl cw_6 rfl (by decide) k_X6_19 dX6_perform_332 ?_
        refine lv_topi (fun x13 ex13 => ?_)
        refine lv_isub hx hb dX6_perform_335 ?_
        refine lv_topi (fun x14 ex14 => ?_)
        exact m_iret hx hb hr hlocks hW rfl (⟨hI, trivial⟩) dX6_perform_336
    · have i1 := m_c4 (by decide : (200000 : Int32).toInt = 200000) (rfl : y5.toInt = _) c1
      refine lv_iload hx hb dX6_perform_28 (lv_at hl 4 rfl) ?_
      refine lv_aload_n hx hb dX6_perform_30 rfl (lv_at hl 1 rfl) ?_
      refine m_geti hx hb hts hown hW (k) 1 hk rfl cw_5 rfl (by decide) k_X6_28 dX6_perform_31 ?_
      refine lv_topi (fun x15 ex15 => ?_)
      have bx15 : 0 ≤ x15.toInt ∧ x15.toInt ≤ n := by rw [ex15]; exact hI.1 _ _ _ _ hb1
      refine lv_icmp_ge (tgt := 306) hx hb dX6_perform_34 (by decide) (fun c16 => ?_) (fun c16 => ?_)
      · have i16 := m_c3 (rfl : x15.toInt = _) (rfl : y4.toInt = _) c16
        refine lv_aload_n hx hb dX6_perform_306 rfl (lv_at hl 2 rfl) ?_
        refine lv_dup hx hb dX6_perform_307 rfl ?_
        refine m_geti hx hb hts hown hW (41) 6 rfl rfl cw_3 rfl (by decide) k_X6_79 dX6_perform_308 ?_
        refine lv_topi (fun x17 ex17 => ?_)
        refine lv_aload_n hx hb dX6_perform_311 rfl (lv_at hl 0 rfl) ?_
        refine m_geti hx hb hts hown hW (52) 1 rfl rfl cw_6 rfl (by decide) k_X6_15 dX6_perform_312 ?_
        refine lv_topi (fun x18 ex18 => ?_)
        refine lv_if_ne (tgt := 322) hx hb dX6_perform_315 (by decide) (fun c19 => ?_) (fun c19 => ?_)
        · have i19 := m_c6 (rfl : x18.toInt = _) (by decide : (0 : Int32).toInt = 0) c19
          refine lv_iconst (v := 0) hx hb dX6_perform_322 (by decide) ?_
          refine lv_iadd hx hb dX6_perform_323 ?_
          refine lv_topi (fun x20 ex20 => ?_)
          have r_x17 := m_rng x17
          have tx20 : x20.toInt = x17.toInt + 0 := m_addI ex20 (rfl : x17.toInt = _) (by decide : (0 : Int32).toInt = 0) (by omega) (by omega)
          refine m_puti hx hb hts hown hW (41) 6 rfl rfl cw_3 tyX3_ok nmX3 rfl (by decide) k_X6_79 rfl rfl rfl dX6_perform_324 (fun H locs hW _ => ?_)
          generalize hμ21 : m_si μ (41) 6 x20 = μ21 at hW
          have hI := hI.si0 hμ21 rfl hS6
          refine lv_aload_n hx hb dX6_perform_327 rfl (lv_at hl 2 rfl) ?_
          refine m_geti hx hb hts hown hW (41) 5 rfl rfl cw_3 rfl (by decide) k_X6_22 dX6_perform_328 ?_
          refine lv_topi (fun x22 ex22 => ?_)
          refine lv_aload_n hx hb dX6_perform_331 rfl (lv_at hl 0 rfl) ?_
          refine m_geti hx hb hts hown hW (52) 2 rfl rfl cw_6 rfl (by decide) k_X6_19 dX6_perform_332 ?_
          refine lv_topi (fun x23 ex23 => ?_)
          refine lv_isub hx hb dX6_perform_335 ?_
          refine lv_topi (fun x24 ex24 => ?_)
          exact m_iret hx hb hr hlocks hW rfl (⟨hI, trivial⟩) dX6_perform_336
        · have i19 := m_c5 (rfl : x18.toInt = _) (by decide : (0 : Int32).toInt = 0) c19
          refine lv_iconst (v := 1) hx hb dX6_perform_318 (by decide) ?_
          refine lv_goto (tgt := 323) hx hb dX6_perform_319 (by decide) ?_
          refine lv_iadd hx hb dX6_perform_323 ?_
          refine lv_topi (fun x25 ex25 => ?_)
          refine m_puti hx hb hts hown hW (41) 6 rfl rfl cw_3 tyX3_ok nmX3 rfl (by decide) k_X6_79 rfl rfl rfl dX6_perform_324 (fun H locs hW _ => ?_)
          generalize hμ26 : m_si μ (41) 6 x25 = μ26 at hW
          have hI := hI.si0 hμ26 rfl hS6
          refine lv_aload_n hx hb dX6_perform_327 rfl (lv_at hl 2 rfl) ?_
          refine m_geti hx hb hts hown hW (41) 5 rfl rfl cw_3 rfl (by decide) k_X6_22 dX6_perform_328 ?_
          refine lv_topi (fun x27 ex27 => ?_)
          refine lv_aload_n hx hb dX6_perform_331 rfl (lv_at hl 0 rfl) ?_
          refine m_geti hx hb hts hown hW (52) 2 rfl rfl cw_6 rfl (by decide) k_X6_19 dX6_perform_332 ?_
          refine lv_topi (fun x28 ex28 => ?_)
          refine lv_isub hx hb dX6_perform_335 ?_
          refine lv_topi (fun x29 ex29 => ?_)
          exact m_iret hx hb hr hlocks hW rfl (⟨hI, trivial⟩) dX6_perform_336
      · have i16 := m_c4 (rfl : x15.toInt = _) (rfl : y4.toInt = _) c16
        refine lv_aload_n hx hb dX6_perform_37 rfl (lv_at hl 0 rfl) ?_
        refine m_geti hx hb hts hown hW (52) 1 rfl rfl cw_6 rfl (by decide) k_X6_15 dX6_perform_38 ?_
        refine lv_topi (fun x30 ex30 => ?_)
        refine lv_if_le (tgt := 306) hx hb dX6_perform_41 (by decide) (fun c31 => ?_) (fun c31 => ?_)
        · have i31 := m_c3 (rfl : x30.toInt = _) (by decide : (0 : Int32).toInt = 0) c31
          refine lv_aload_n hx hb dX6_perform_306 rfl (lv_at hl 2 rfl) ?_
          refine lv_dup hx hb dX6_perform_307 rfl ?_
          refine m_geti hx hb hts hown hW (41) 6 rfl rfl cw_3 rfl (by decide) k_X6_79 dX6_perform_308 ?_
          refine lv_topi (fun x32 ex32 => ?_)
          refine lv_aload_n hx hb dX6_perform_311 rfl (lv_at hl 0 rfl) ?_
          refine m_geti hx hb hts hown hW (52) 1 rfl rfl cw_6 rfl (by decide) k_X6_15 dX6_perform_312 ?_
          refine lv_topi (fun x33 ex33 => ?_)
          have ex33 : x33 = x30 := by rw [ex33]; exact ex30.symm
          have ex33 := ex33.symm
          subst ex33
          refine lv_if_ne (tgt := 322) hx hb dX6_perform_315 (by decide) (fun c34 => ?_) (fun c34 => ?_)
          · have i34 := m_c6 (rfl : x30.toInt = _) (by decide : (0 : Int32).toInt = 0) c34
            refine lv_iconst (v := 0) hx hb dX6_perform_322 (by decide) ?_
            refine lv_iadd hx hb dX6_perform_323 ?_
            refine lv_topi (fun x35 ex35 => ?_)
            have r_x32 := m_rng x32
            have tx35 : x35.toInt = x32.toInt + 0 := m_addI ex35 (rfl : x32.toInt = _) (by decide : (0 : Int32).toInt = 0) (by omega) (by omega)
            refine m_puti hx hb hts hown hW (41) 6 rfl rfl cw_3 tyX3_ok nmX3 rfl (by decide) k_X6_79 rfl rfl rfl dX6_perform_324 (fun H locs hW _ => ?_)
            generalize hμ36 : m_si μ (41) 6 x35 = μ36 at hW
            have hI := hI.si0 hμ36 rfl hS6
            refine lv_aload_n hx hb dX6_perform_327 rfl (lv_at hl 2 rfl) ?_
            refine m_geti hx hb hts hown hW (41) 5 rfl rfl cw_3 rfl (by decide) k_X6_22 dX6_perform_328 ?_
            refine lv_topi (fun x37 ex37 => ?_)
            refine lv_aload_n hx hb dX6_perform_331 rfl (lv_at hl 0 rfl) ?_
            refine m_geti hx hb hts hown hW (52) 2 rfl rfl cw_6 rfl (by decide) k_X6_19 dX6_perform_332 ?_
            refine lv_topi (fun x38 ex38 => ?_)
            refine lv_isub hx hb dX6_perform_335 ?_
            refine lv_topi (fun x39 ex39 => ?_)
            exact m_iret hx hb hr hlocks hW rfl (⟨hI, trivial⟩) dX6_perform_336
          · have i34 := m_c5 (rfl : x30.toInt = _) (by decide : (0 : Int32).toInt = 0) c34
            refine lv_iconst (v := 1) hx hb dX6_perform_318 (by decide) ?_
            refine lv_goto (tgt := 323) hx hb dX6_perform_319 (by decide) ?_
            refine lv_iadd hx hb dX6_perform_323 ?_
            refine lv_topi (fun x40 ex40 => ?_)
            refine m_puti hx hb hts hown hW (41) 6 rfl rfl cw_3 tyX3_ok nmX3 rfl (by decide) k_X6_79 rfl rfl rfl dX6_perform_324 (fun H locs hW _ => ?_)
            generalize hμ41 : m_si μ (41) 6 x40 = μ41 at hW
            have hI := hI.si0 hμ41 rfl hS6
            refine lv_aload_n hx hb dX6_perform_327 rfl (lv_at hl 2 rfl) ?_
            refine m_geti hx hb hts hown hW (41) 5 rfl rfl cw_3 rfl (by decide) k_X6_22 dX6_perform_328 ?_
            refine lv_topi (fun x42 ex42 => ?_)
            refine lv_aload_n hx hb dX6_perform_331 rfl (lv_at hl 0 rfl) ?_
            refine m_geti hx hb hts hown hW (52) 2 rfl rfl cw_6 rfl (by decide) k_X6_19 dX6_perform_332 ?_
            refine lv_topi (fun x43 ex43 => ?_)
            refine lv_isub hx hb dX6_perform_335 ?_
            refine lv_topi (fun x44 ex44 => ?_)
            exact m_iret hx hb hr hlocks hW rfl (⟨hI, trivial⟩) dX6_perform_336
        · have i31 := m_c4 (rfl : x30.toInt = _) (by decide : (0 : Int32).toInt = 0) c31
          refine lv_aload_n hx hb dX6_perform_44 rfl (lv_at hl 1 rfl) ?_
          refine lv_iload hx hb dX6_perform_45 (lv_at hl 4 rfl) ?_
          refine m_aI hW (m_runV (As := [.int y4]) (rest := []) hx hb hml hown hts hW (k) (g_X5_at l D cy b k k1 n hk hk1 hn hb1 hb0 y4 μ hI.1) mi_X5_at k_X6_33 hk rfl rfl hl.1 rfl (Nat.le_of_ble_eq_true rfl) dX6_perform_47 ⟨Nat.le_of_ble_eq_true rfl, Nat.le_of_ble_eq_true rfl⟩ ⟨Nat.le_of_ble_eq_true rfl, Nat.le_of_ble_eq_true rfl⟩) (fun x45 μ45 H locs q45 hW => ?_)
          obtain ⟨q45_m, q45⟩ := q45
          subst q45_m
          refine lv_istore (lv' := [(6, .int x45), (0, .ref (b + 52)), (1, .ref (b + k)), (2, .ref (b + 41)), (3, .ref (b + 1)), (4, .int y4), (5, .int y5)]) hx hb dX6_perform_50 hl (by decide) rfl (fun ls hl => ?_)
          refine lv_aload_n hx hb dX6_perform_52 rfl (lv_at hl 2 rfl) ?_
          refine lv_iload hx hb dX6_perform_53 (lv_at hl 5 rfl) ?_
          refine lv_iconst (v := 1) hx hb dX6_perform_55 (by decide) ?_
          refine lv_iadd hx hb dX6_perform_56 ?_
          refine lv_topi (fun x46 ex46 => ?_)
          have r_y4 := m_rng y4
          have tx46 : x46.toInt = y4.toInt + 1 := m_addI ex46 (rfl : y4.toInt = _) (by decide : (1 : Int32).toInt = 1) (by omega) (by omega)
          refine m_aI hW (m_runV (As := [.int x46]) (rest := []) hx hb hml hown hts hW (k) (g_X5_at l D cy b k k1 n hk hk1 hn hb1 hb0 x46 μ hI.1) mi_X5_at k_X6_33 hk rfl rfl hl.1 rfl (Nat.le_of_ble_eq_true rfl) dX6_perform_57 ⟨Nat.le_of_ble_eq_true rfl, Nat.le_of_ble_eq_true rfl⟩ ⟨Nat.le_of_ble_eq_true rfl, Nat.le_of_ble_eq_true rfl⟩) (fun x47 μ47 H locs q47 hW => ?_)
          obtain ⟨q47_m, q47⟩ := q47
          subst q47_m
          refine lv_istore (lv' := [(7, .int x47), (6, .int x45), (0, .ref (b + 52)), (1, .ref (b + k)), (2, .ref (b + 41)), (3, .ref (b + 1)), (4, .int y4), (5, .int y5)]) hx hb dX6_perform_60 hl (by decide) rfl (fun ls hl => ?_)
          refine lv_aload_n hx hb dX6_perform_62 rfl (lv_at hl 3 rfl) ?_
          refine lv_iload hx hb dX6_perform_63 (lv_at hl 6 rfl) ?_
          refine lv_iconst (v := 2) hx hb dX6_perform_65 (by decide) ?_
          refine lv_iadd hx hb dX6_perform_66 ?_
          refine lv_topi (fun x48 ex48 => ?_)
          have tx48 : x48.toInt = y4.toInt + 2 := m_addI ex48 (rfl : y4.toInt = _) (by decide : (2 : Int32).toInt = 2) (by omega) (by omega)
          refine m_aI hW (m_runV (As := [.int x48]) (rest := []) hx hb hml hown hts hW (k) (g_X5_at l D cy b k k1 n hk hk1 hn hb1 hb0 x48 μ hI.1) mi_X5_at k_X6_33 hk rfl rfl hl.1 rfl (Nat.le_of_ble_eq_true rfl) dX6_perform_67 ⟨Nat.le_of_ble_eq_true rfl, Nat.le_of_ble_eq_true rfl⟩ ⟨Nat.le_of_ble_eq_true rfl, Nat.le_of_ble_eq_true rfl⟩) (fun x49 μ49 H locs q49 hW => ?_)
          obtain ⟨q49_m, q49⟩ := q49
          subst q49_m
          refine lv_istore (lv' := [(8, .int x49), (7, .int x47), (6, .int x45), (0, .ref (b + 52)), (1, .ref (b + k)), (2, .ref (b + 41)), (3, .ref (b + 1)), (4, .int y4), (5, .int y5)]) hx hb dX6_perform_70 hl (by decide) rfl (fun ls hl => ?_)
          refine lv_aload_n hx hb dX6_perform_72 rfl (lv_at hl 3 rfl) ?_
          refine lv_dup hx hb dX6_perform_73 rfl ?_
          refine m_geti hx hb hts hown hW (52) 1 rfl rfl cw_6 rfl (by decide) k_X6_15 dX6_perform_74 ?_
          refine lv_topi (fun x50 ex50 => ?_)
          have ex50 : x50 = x30 := by rw [ex50]; exact ex30.symm
          have ex50 := ex50.symm
          subst ex50
          refine lv_iload hx hb dX6_perform_77 (lv_at hl 2 rfl) ?_
          refine lv_bipush (v := 18) hx hb dX6_perform_79 (by decide) ?_
          refine lv_icmp_ne (tgt := 88) hx hb dX6_perform_81 (by decide) (fun c51 => ?_) (fun c51 => ?_)
          · have i51 := m_c6 (rfl : x45.toInt = _) (by decide : (18 : Int32).toInt = 18) c51
            refine lv_iconst (v := 1) hx hb dX6_perform_88 (by decide) ?_
            refine lv_isub hx hb dX6_perform_89 ?_
            refine lv_topi (fun x52 ex52 => ?_)
            have r_x30 := m_rng x30
            have tx52 : x52.toInt = x30.toInt - 1 := m_subI ex52 (rfl : x30.toInt = _) (by decide : (1 : Int32).toInt = 1) (by omega) (by omega)
            refine m_puti hx hb hts hown hW (52) 1 rfl rfl cw_6 tyX6_ok nmX6 rfl (by decide) k_X6_15 rfl rfl rfl dX6_perform_90 (fun H locs hW _ => ?_)
            generalize hμ53 : m_si μ (52) 1 x52 = μ53 at hW
            have hI := hI.si0 hμ53 rfl hS7
            refine lv_iload hx hb dX6_perform_93 (lv_at hl 2 rfl) ?_
            by_cases c54 : x45.toInt < 11 ∨ 18 < x45.toInt
            · refine lv_tableOut (tgt := 278) hx hb dX6_perform_95 c54 (by decide) ?_
              refine lv_aload_n hx hb dX6_perform_278 rfl (lv_at hl 5 rfl) ?_
              refine m_getr hx hb hts hown hW (41) 10 (42) rfl rfl cw_3 rfl (by decide) k_X6_51 dX6_perform_279 ?_
              refine lv_iload hx hb dX6_perform_282 (lv_at hl 2 rfl) ?_
              refine lv_bipush (v := 9) hx hb dX6_perform_284 (by decide) ?_
              refine lv_icmp_ne (tgt := 293) hx hb dX6_perform_286 (by decide) (fun c55 => ?_) (fun c55 => ?_)
              · have i55 := m_c6 (rfl : x45.toInt = _) (by decide : (9 : Int32).toInt = 9) c55
                refine lv_iconst (v := 0) hx hb dX6_perform_293 (by decide) ?_
                refine m_puti hx hb hts hown hW (42) 2 rfl rfl cw_1 tyX1_ok nmX1 rfl (by decide) k_X6_75 rfl (by decide) rfl dX6_perform_294 (fun H locs hW _ => ?_)
                generalize hμ56 : m_si μ53 (42) 2 0 = μ56 at hW
                have hI := hI.si1 hμ56 rfl (by decide) hS6
                obtain ⟨x57, ex57⟩ : ∃ z : Int32, z = y4 + 1 := ⟨_, rfl⟩
                refine lv_iinc (v := x57) (lv' := [(4, .int x57), (8, .int x49), (7, .int x47), (6, .int x45), (0, .ref (b + 52)), (1, .ref (b + k)), (2, .ref (b + 41)), (3, .ref (b + 1)), (5, .int y5)]) hx hb dX6_perform_297 hl (k := 7) rfl (by rw [ex57]; rfl) (by decide) rfl (fun ls hl => ?_)
                have tx57 : x57.toInt = y4.toInt + 1 := m_addI ex57 (rfl : y4.toInt = _) (by decide : (1 : Int32).toInt = 1) (by omega) (by omega)
                obtain ⟨x58, ex58⟩ : ∃ z : Int32, z = y5 + 1 := ⟨_, rfl⟩
                refine lv_iinc (v := x58) (lv' := [(5, .int x58), (4, .int x57), (8, .int x49), (7, .int x47), (6, .int x45), (0, .ref (b + 52)), (1, .ref (b + k)), (2, .ref (b + 41)), (3, .ref (b + 1))]) hx hb dX6_perform_300 hl (k := 8) rfl (by rw [ex58]; rfl) (by decide) rfl (fun ls hl => ?_)
                have tx58 : x58.toInt = y5.toInt + 1 := m_addI ex58 (rfl : y5.toInt = _) (by decide : (1 : Int32).toInt = 1) (by omega) (by omega)
                refine lv_goto (tgt := 21) hx hb dX6_perform_303 (by decide) ?_
                exact ih x57 x58 (by omega) (by omega) μ56 hI _ _ hW ls (lv_sub hl [5, 6, 7, 8, 1, 0] rfl)
              · have i55 := m_c5 (rfl : x45.toInt = _) (by decide : (9 : Int32).toInt = 9) c55
                refine lv_iconst (v := 1) hx hb dX6_perform_289 (by decide) ?_
                refine lv_goto (tgt := 294) hx hb dX6_perform_290 (by decide) ?_
                refine m_puti hx hb hts hown hW (42) 2 rfl rfl cw_1 tyX1_ok nmX1 rfl (by decide) k_X6_75 rfl (by decide) rfl dX6_perform_294 (fun H locs hW _ => ?_)
                generalize hμ59 : m_si μ53 (42) 2 1 = μ59 at hW
                have hI := hI.si1 hμ59 rfl (by decide) hS6
                obtain ⟨x60, ex60⟩ : ∃ z : Int32, z = y4 + 1 := ⟨_, rfl⟩
                refine lv_iinc (v := x60) (lv' := [(4, .int x60), (8, .int x49), (7, .int x47), (6, .int x45), (0, .ref (b + 52)), (1, .ref (b + k)), (2, .ref (b + 41)), (3, .ref (b + 1)), (5, .int y5)]) hx hb dX6_perform_297 hl (k := 7) rfl (by rw [ex60]; rfl) (by decide) rfl (fun ls hl => ?_)
                have tx60 : x60.toInt = y4.toInt + 1 := m_addI ex60 (rfl : y4.toInt = _) (by decide : (1 : Int32).toInt = 1) (by omega) (by omega)
                obtain ⟨x61, ex61⟩ : ∃ z : Int32, z = y5 + 1 := ⟨_, rfl⟩
                refine lv_iinc (v := x61) (lv' := [(5, .int x61), (4, .int x60), (8, .int x49), (7, .int x47), (6, .int x45), (0, .ref (b + 52)), (1, .ref (b + k)), (2, .ref (b + 41)), (3, .ref (b + 1))]) hx hb dX6_perform_300 hl (k := 8) rfl (by rw [ex61]; rfl) (by decide) rfl (fun ls hl => ?_)
                have tx61 : x61.toInt = y5.toInt + 1 := m_addI ex61 (rfl : y5.toInt = _) (by decide : (1 : Int32).toInt = 1) (by omega) (by omega)
                refine lv_goto (tgt := 21) hx hb dX6_perform_303 (by decide) ?_
                exact ih x60 x61 (by omega) (by omega) μ59 hI _ _ hW ls (lv_sub hl [5, 6, 7, 8, 1, 0] rfl)
            · have q54 : x45.toInt = 11 ∨ x45.toInt = 12 ∨ x45.toInt = 13 ∨ x45.toInt = 14 ∨ x45.toInt = 15 ∨ x45.toInt = 16 ∨ x45.toInt = 17 ∨ x45.toInt = 18 := by omega
              rcases q54 with q54 | q54 | q54 | q54 | q54 | q54 | q54 | q54
              · refine lv_tableIn (off := 45) (tgt := 140) hx hb dX6_perform_95 (fun z => c54 (Or.inl z)) (fun z => c54 (Or.inr z)) (by rw [q54]; rfl) (by decide) ?_
                refine lv_aload_n hx hb dX6_perform_140 rfl (lv_at hl 5 rfl) ?_
                refine lv_iload hx hb dX6_perform_141 (lv_at hl 1 rfl) ?_
                refine lv_iload hx hb dX6_perform_143 (lv_at hl 0 rfl) ?_
                refine m_aI hW (m_runV (As := [.int x47, .int x49]) (rest := []) hx hb hml hown hts hW (41) (g_X3_moveHead_41 l D cy b S μ0 hS6 x47 x49 μ53 hI) mi_X3_moveHead k_X6_39 rfl rfl rfl hl.1 rfl (Nat.le_of_ble_eq_true rfl) dX6_perform_145 ⟨Nat.le_of_ble_eq_true rfl, Nat.le_of_ble_eq_true rfl⟩ ⟨Nat.le_of_ble_eq_true rfl, Nat.le_of_ble_eq_true rfl⟩) (fun x62 μ62 H locs q62 hW => ?_)
                obtain ⟨hI, q62⟩ := q62
                rcases q62 with ⟨rfl, q62⟩ | ⟨rfl, q62⟩
                · refine lv_pop hx hb dX6_perform_148 rfl ?_
                  obtain ⟨x63, ex63⟩ : ∃ z : Int32, z = y4 + 3 := ⟨_, rfl⟩
                  refine lv_iinc (v := x63) (lv' := [(4, .int x63), (8, .int x49), (7, .int x47), (6, .int x45), (0, .ref (b + 52)), (1, .ref (b + k)), (2, .ref (b + 41)), (3, .ref (b + 1)), (5, .int y5)]) hx hb dX6_perform_149 hl (k := 7) rfl (by rw [ex63]; rfl) (by decide) rfl (fun ls hl => ?_)
                  have tx63 : x63.toInt = y4.toInt + 3 := m_addI ex63 (rfl : y4.toInt = _) (by decide : (3 : Int32).toInt = 3) (by omega) (by omega)
                  refine lv_goto (tgt := 300) hx hb dX6_perform_152 (by decide) ?_
                  obtain ⟨x64, ex64⟩ : ∃ z : Int32, z = y5 + 1 := ⟨_, rfl⟩
                  refine lv_iinc (v := x64) (lv' := [(5, .int x64), (4, .int x63), (8, .int x49), (7, .int x47), (6, .int x45), (0, .ref (b + 52)), (1, .ref (b + k)), (2, .ref (b + 41)), (3, .ref (b + 1))]) hx hb dX6_perform_300 hl (k := 8) rfl (by rw [ex64]; rfl) (by decide) rfl (fun ls hl => ?_)
                  have tx64 : x64.toInt = y5.toInt + 1 := m_addI ex64 (rfl : y5.toInt = _) (by decide : (1 : Int32).toInt = 1) (by omega) (by omega)
                  refine lv_goto (tgt := 21) hx hb dX6_perform_303 (by decide) ?_
                  exact ih x63 x64 (by omega) (by omega) μ62 hI _ _ hW ls (lv_sub hl [5, 6, 7, 8, 1, 0] rfl)
                · refine lv_pop hx hb dX6_perform_148 rfl ?_
                  obtain ⟨x65, ex65⟩ : ∃ z : Int32, z = y4 + 3 := ⟨_, rfl⟩
                  refine lv_iinc (v := x65) (lv' := [(4, .int x65), (8, .int x49), (7, .int x47), (6, .int x45), (0, .ref (b + 52)), (1, .ref (b + k)), (2, .ref (b + 41)), (3, .ref (b + 1)), (5, .int y5)]) hx hb dX6_perform_149 hl (k := 7) rfl (by rw [ex65]; rfl) (by decide) rfl (fun ls hl => ?_)
                  have tx65 : x65.toInt = y4.toInt + 3 := m_addI ex65 (rfl : y4.toInt = _) (by decide : (3 : Int32).toInt = 3) (by omega) (by omega)
                  refine lv_goto (tgt := 300) hx hb dX6_perform_152 (by decide) ?_
                  obtain ⟨x66, ex66⟩ : ∃ z : Int32, z = y5 + 1 := ⟨_, rfl⟩
                  refine lv_iinc (v := x66) (lv' := [(5, .int x66), (4, .int x65), (8, .int x49), (7, .int x47), (6, .int x45), (0, .ref (b + 52)), (1, .ref (b + k)), (2, .ref (b + 41)), (3, .ref (b + 1))]) hx hb dX6_perform_300 hl (k := 8) rfl (by rw [ex66]; rfl) (by decide) rfl (fun ls hl => ?_)
                  have tx66 : x66.toInt = y5.toInt + 1 := m_addI ex66 (rfl : y5.toInt = _) (by decide : (1 : Int32).toInt = 1) (by omega) (by omega)
                  refine lv_goto (tgt := 21) hx hb dX6_perform_303 (by decide) ?_
                  exact ih x65 x66 (by omega) (by omega) μ62 hI _ _ hW ls (lv_sub hl [5, 6, 7, 8, 1, 0] rfl)
              · refine lv_tableIn (off := 60) (tgt := 155) hx hb dX6_perform_95 (fun z => c54 (Or.inl z)) (fun z => c54 (Or.inr z)) (by rw [q54]; rfl) (by decide) ?_
                refine lv_aload_n hx hb dX6_perform_155 rfl (lv_at hl 3 rfl) ?_
                refine lv_aload_n hx hb dX6_perform_156 rfl (lv_at hl 5 rfl) ?_
                refine lv_aload_n hx hb dX6_perform_157 rfl (lv_at hl 6 rfl) ?_
                refine lv_iload hx hb dX6_perform_158 (lv_at hl 1 rfl) ?_
                refine lv_iload hx hb dX6_perform_160 (lv_at hl 0 rfl) ?_
                refine m_aV hW (m_runV (As := [.ref (b + 41), .ref (b + 1), .int x47, .int x49]) (rest := []) hx hb hml hown hts hW (52) (g_X6_travel_52 l D cy b S μ0 hS6 hS7 x47 x49 μ53 hI) mi_X6_travel k_X6_43 rfl rfl rfl hl.1 rfl (Nat.le_of_ble_eq_true rfl) dX6_perform_162 ⟨Nat.le_of_ble_eq_true rfl, Nat.le_of_ble_eq_true rfl⟩ ⟨Nat.le_of_ble_eq_true rfl, Nat.le_of_ble_eq_true rfl⟩) (fun μ67 H locs q67 hW => ?_)
                obtain ⟨hI, q67⟩ := q67
                obtain ⟨x68, ex68⟩ : ∃ z : Int32, z = y4 + 3 := ⟨_, rfl⟩
                refine lv_iinc (v := x68) (lv' := [(4, .int x68), (8, .int x49), (7, .int x47), (6, .int x45), (0, .ref (b + 52)), (1, .ref (b + k)), (2, .ref (b + 41)), (3, .ref (b + 1)), (5, .int y5)]) hx hb dX6_perform_165 hl (k := 7) rfl (by rw [ex68]; rfl) (by decide) rfl (fun ls hl => ?_)
                have tx68 : x68.toInt = y4.toInt + 3 := m_addI ex68 (rfl : y4.toInt = _) (by decide : (3 : Int32).toInt = 3) (by omega) (by omega)
                refine lv_goto (tgt := 300) hx hb dX6_perform_168 (by decide) ?_
                obtain ⟨x69, ex69⟩ : ∃ z : Int32, z = y5 + 1 := ⟨_, rfl⟩
                refine lv_iinc (v := x69) (lv' := [(5, .int x69), (4, .int x68), (8, .int x49), (7, .int x47), (6, .int x45), (0, .ref (b + 52)), (1, .ref (b + k)), (2, .ref (b + 41)), (3, .ref (b + 1))]) hx hb dX6_perform_300 hl (k := 8) rfl (by rw [ex69]; rfl) (by decide) rfl (fun ls hl => ?_)
                have tx69 : x69.toInt = y5.toInt + 1 := m_addI ex69 (rfl : y5.toInt = _) (by decide : (1 : Int32).toInt = 1) (by omega) (by omega)
                refine lv_goto (tgt := 21) hx hb dX6_perform_303 (by decide) ?_
                exact ih x68 x69 (by omega) (by omega) μ67 hI _ _ hW ls (lv_sub hl [5, 6, 7, 8, 1, 0] rfl)
              · refine lv_tableIn (off := 76) (tgt := 171) hx hb dX6_perform_95 (fun z => c54 (Or.inl z)) (fun z => c54 (Or.inr z)) (by rw [q54]; rfl) (by decide) ?_
                refine lv_aload_n hx hb dX6_perform_171 rfl (lv_at hl 3 rfl) ?_
                refine lv_aload_n hx hb dX6_perform_172 rfl (lv_at hl 5 rfl) ?_
                refine lv_aload_n hx hb dX6_perform_173 rfl (lv_at hl 6 rfl) ?_
                refine lv_iload hx hb dX6_perform_174 (lv_at hl 1 rfl) ?_
                refine m_aV hW (m_runV (As := [.ref (b + 41), .ref (b + 1), .int x47]) (rest := []) hx hb hml hown hts hW (52) (g_X6_stay_52 l D cy b S μ0 hS6 hS7 x47 μ53 hI) mi_X6_stay k_X6_47 rfl rfl rfl hl.1 rfl (Nat.le_of_ble_eq_true rfl) dX6_perform_176 ⟨Nat.le_of_ble_eq_true rfl, Nat.le_of_ble_eq_true rfl⟩ ⟨Nat.le_of_ble_eq_true rfl, Nat.le_of_ble_eq_true rfl⟩) (fun μ70 H locs q70 hW => ?_)
                obtain ⟨hI, q70⟩ := q70
                obtain ⟨x71, ex71⟩ : ∃ z : Int32, z = y4 + 2 := ⟨_, rfl⟩
                refine lv_iinc (v := x71) (lv' := [(4, .int x71), (8, .int x49), (7, .int x47), (6, .int x45), (0, .ref (b + 52)), (1, .ref (b + k)), (2, .ref (b + 41)), (3, .ref (b + 1)), (5, .int y5)]) hx hb dX6_perform_179 hl (k := 7) rfl (by rw [ex71]; rfl) (by decide) rfl (fun ls hl => ?_)
                have tx71 : x71.toInt = y4.toInt + 2 := m_addI ex71 (rfl : y4.toInt = _) (by decide : (2 : Int32).toInt = 2) (by omega) (by omega)
                refine lv_goto (tgt := 300) hx hb dX6_perform_182 (by decide) ?_
                obtain ⟨x72, ex72⟩ : ∃ z : Int32, z = y5 + 1 := ⟨_, rfl⟩
                refine lv_iinc (v := x72) (lv' := [(5, .int x72), (4, .int x71), (8, .int x49), (7, .int x47), (6, .int x45), (0, .ref (b + 52)), (1, .ref (b + k)), (2, .ref (b + 41)), (3, .ref (b + 1))]) hx hb dX6_perform_300 hl (k := 8) rfl (by rw [ex72]; rfl) (by decide) rfl (fun ls hl => ?_)
                have tx72 : x72.toInt = y5.toInt + 1 := m_addI ex72 (rfl : y5.toInt = _) (by decide : (1 : Int32).toInt = 1) (by omega) (by omega)
                refine lv_goto (tgt := 21) hx hb dX6_perform_303 (by decide) ?_
                exact ih x71 x72 (by omega) (by omega) μ70 hI _ _ hW ls (lv_sub hl [5, 6, 7, 8, 1, 0] rfl)
              · refine lv_tableIn (off := 90) (tgt := 185) hx hb dX6_perform_95 (fun z => c54 (Or.inl z)) (fun z => c54 (Or.inr z)) (by rw [q54]; rfl) (by decide) ?_
                refine lv_aload_n hx hb dX6_perform_185 rfl (lv_at hl 5 rfl) ?_
                refine m_getr hx hb hts hown hW (41) 10 (42) rfl rfl cw_3 rfl (by decide) k_X6_51 dX6_perform_186 ?_
                refine lv_iload hx hb dX6_perform_189 (lv_at hl 1 rfl) ?_
                refine m_puti hx hb hts hown hW (42) 3 rfl rfl cw_1 tyX1_ok nmX1 rfl (by decide) k_X6_55 rfl rfl rfl dX6_perform_191 (fun H locs hW _ => ?_)
                generalize hμ73 : m_si μ53 (42) 3 x47 = μ73 at hW
                have hI := hI.si0 hμ73 rfl hS6
                obtain ⟨x74, ex74⟩ : ∃ z : Int32, z = y4 + 2 := ⟨_, rfl⟩
                refine lv_iinc (v := x74) (lv' := [(4, .int x74), (8, .int x49), (7, .int x47), (6, .int x45), (0, .ref (b + 52)), (1, .ref (b + k)), (2, .ref (b + 41)), (3, .ref (b + 1)), (5, .int y5)]) hx hb dX6_perform_194 hl (k := 7) rfl (by rw [ex74]; rfl) (by decide) rfl (fun ls hl => ?_)
                have tx74 : x74.toInt = y4.toInt + 2 := m_addI ex74 (rfl : y4.toInt = _) (by decide : (2 : Int32).toInt = 2) (by omega) (by omega)
                refine lv_goto (tgt := 300) hx hb dX6_perform_197 (by decide) ?_
                obtain ⟨x75, ex75⟩ : ∃ z : Int32, z = y5 + 1 := ⟨_, rfl⟩
                refine lv_iinc (v := x75) (lv' := [(5, .int x75), (4, .int x74), (8, .int x49), (7, .int x47), (6, .int x45), (0, .ref (b + 52)), (1, .ref (b + k)), (2, .ref (b + 41)), (3, .ref (b + 1))]) hx hb dX6_perform_300 hl (k := 8) rfl (by rw [ex75]; rfl) (by decide) rfl (fun ls hl => ?_)
                have tx75 : x75.toInt = y5.toInt + 1 := m_addI ex75 (rfl : y5.toInt = _) (by decide : (1 : Int32).toInt = 1) (by omega) (by omega)
                refine lv_goto (tgt := 21) hx hb dX6_perform_303 (by decide) ?_
                exact ih x74 x75 (by omega) (by omega) μ73 hI _ _ hW ls (lv_sub hl [5, 6, 7, 8, 1, 0] rfl)
              · refine lv_tableIn (off := 105) (tgt := 200) hx hb dX6_perform_95 (fun z => c54 (Or.inl z)) (fun z => c54 (Or.inr z)) (by rw [q54]; rfl) (by decide) ?_
                refine lv_aload_n hx hb dX6_perform_200 rfl (lv_at hl 3 rfl) ?_
                refine lv_iload hx hb dX6_perform_201 (lv_at hl 0 rfl) ?_
                refine lv_iload hx hb dX6_perform_203 (lv_at hl 1 rfl) ?_
                refine m_aV hW (m_runV (As := [.int x49, .int x47]) (rest := []) hx hb hml hown hts hW (52) (g_X6_setTurns_52 l D cy b S μ0 hS6 hS7 x49 x47 μ53 hI) mi_X6_setTurns k_X6_60 rfl rfl rfl hl.1 rfl (Nat.le_of_ble_eq_true rfl) dX6_perform_205 ⟨Nat.le_of_ble_eq_true rfl, Nat.le_of_ble_eq_true rfl⟩ ⟨Nat.le_of_ble_eq_true rfl, Nat.le_of_ble_eq_true rfl⟩) (fun μ76 H locs q76 hW => ?_)
                obtain ⟨hI, q76⟩ := q76
                obtain ⟨x77, ex77⟩ : ∃ z : Int32, z = y4 + 3 := ⟨_, rfl⟩
                refine lv_iinc (v := x77) (lv' := [(4, .int x77), (8, .int x49), (7, .int x47), (6, .int x45), (0, .ref (b + 52)), (1, .ref (b + k)), (2, .ref (b + 41)), (3, .ref (b + 1)), (5, .int y5)]) hx hb dX6_perform_208 hl (k := 7) rfl (by rw [ex77]; rfl) (by decide) rfl (fun ls hl => ?_)
                have tx77 : x77.toInt = y4.toInt + 3 := m_addI ex77 (rfl : y4.toInt = _) (by decide : (3 : Int32).toInt = 3) (by omega) (by omega)
                refine lv_goto (tgt := 300) hx hb dX6_perform_211 (by decide) ?_
                obtain ⟨x78, ex78⟩ : ∃ z : Int32, z = y5 + 1 := ⟨_, rfl⟩
                refine lv_iinc (v := x78) (lv' := [(5, .int x78), (4, .int x77), (8, .int x49), (7, .int x47), (6, .int x45), (0, .ref (b + 52)), (1, .ref (b + k)), (2, .ref (b + 41)), (3, .ref (b + 1))]) hx hb dX6_perform_300 hl (k := 8) rfl (by rw [ex78]; rfl) (by decide) rfl (fun ls hl => ?_)
                have tx78 : x78.toInt = y5.toInt + 1 := m_addI ex78 (rfl : y5.toInt = _) (by decide : (1 : Int32).toInt = 1) (by omega) (by omega)
                refine lv_goto (tgt := 21) hx hb dX6_perform_303 (by decide) ?_
                exact ih x77 x78 (by omega) (by omega) μ76 hI _ _ hW ls (lv_sub hl [5, 6, 7, 8, 1, 0] rfl)
              · refine lv_tableIn (off := 156) (tgt := 251) hx hb dX6_perform_95 (fun z => c54 (Or.inl z)) (fun z => c54 (Or.inr z)) (by rw [q54]; rfl) (by decide) ?_
                refine lv_aload_n hx hb dX6_perform_251 rfl (lv_at hl 3 rfl) ?_
                refine lv_aload_n hx hb dX6_perform_252 rfl (lv_at hl 4 rfl) ?_
                refine lv_iload hx hb dX6_perform_253 (lv_at hl 7 rfl) ?_
                refine lv_aload_n hx hb dX6_perform_255 rfl (lv_at hl 5 rfl) ?_
                refine m_aI hW (m_runV (As := [.ref (b + k), .int y4, .ref (b + 41)]) (rest := []) hx hb hml hown hts hW (52) (g_X6_isSo_52 l D cy b k k1 n hk hk1 hn hb1 hb0 y4 μ53 hI.1) mi_X6_isSo k_X6_67 rfl rfl rfl hl.1 rfl (Nat.le_of_ble_eq_true rfl) dX6_perform_256 ⟨Nat.le_of_ble_eq_true rfl, Nat.le_of_ble_eq_true rfl⟩ ⟨Nat.le_of_ble_eq_true rfl, Nat.le_of_ble_eq_true rfl⟩) (fun x79 μ79 H locs q79 hW => ?_)
                obtain ⟨q79_m, q79⟩ := q79
                subst q79_m
                rcases q79 with ⟨rfl, q79⟩ | ⟨rfl, q79⟩
                · refine lv_if_eq (tgt := 271) hx hb dX6_perform_259 (by decide) (fun c => False.elim (by revert c; decide)) (fun _ => ?_)
                  refine lv_aload_n hx hb dX6_perform_262 rfl (lv_at hl 4 rfl) ?_
                  refine lv_iload hx hb dX6_perform_263 (lv_at hl 7 rfl) ?_
                  refine m_aI hW (m_runS (As := [.ref (b + k), .int y4]) (rest := []) hx hb hml hown hts hW (g_X6_stepOfIf l D cy b k k1 n hk hk1 hn hb1 hb0 y4 μ53 hI.1) ms_X6_stepOfIf k_X6_71 rfl hl.1 rfl (Nat.le_of_ble_eq_true rfl) dX6_perform_265 ⟨Nat.le_of_ble_eq_true rfl, Nat.le_of_ble_eq_true rfl⟩ ⟨Nat.le_of_ble_eq_true rfl, Nat.le_of_ble_eq_true rfl⟩) (fun x80 μ80 H locs q80 hW => ?_)
                  obtain ⟨q80_m, q80⟩ := q80
                  subst q80_m
                  refine lv_goto (tgt := 273) hx hb dX6_perform_268 (by decide) ?_
                  refine lv_istore (lv' := [(4, .int x80), (8, .int x49), (7, .int x47), (6, .int x45), (0, .ref (b + 52)), (1, .ref (b + k)), (2, .ref (b + 41)), (3, .ref (b + 1)), (5, .int y5)]) hx hb dX6_perform_273 hl (by decide) rfl (fun ls hl => ?_)
                  refine lv_goto (tgt := 300) hx hb dX6_perform_275 (by decide) ?_
                  obtain ⟨x81, ex81⟩ : ∃ z : Int32, z = y5 + 1 := ⟨_, rfl⟩
                  refine lv_iinc (v := x81) (lv' := [(5, .int x81), (4, .int x80), (8, .int x49), (7, .int x47), (6, .int x45), (0, .ref (b + 52)), (1, .ref (b + k)), (2, .ref (b + 41)), (3, .ref (b + 1))]) hx hb dX6_perform_300 hl (k := 8) rfl (by rw [ex81]; rfl) (by decide) rfl (fun ls hl => ?_)
                  have tx81 : x81.toInt = y5.toInt + 1 := m_addI ex81 (rfl : y5.toInt = _) (by decide : (1 : Int32).toInt = 1) (by omega) (by omega)
                  refine lv_goto (tgt := 21) hx hb dX6_perform_303 (by decide) ?_
                  exact ih x80 x81 (by omega) (by omega) μ53 hI _ _ hW ls (lv_sub hl [5, 6, 7, 8, 1, 0] rfl)
                · refine lv_if_eq (tgt := 271) hx hb dX6_perform_259 (by decide) (fun _ => ?_) (fun c => False.elim (by revert c; decide))
                  refine lv_iload hx hb dX6_perform_271 (lv_at hl 1 rfl) ?_
                  refine lv_istore (lv' := [(4, .int x47), (8, .int x49), (7, .int x47), (6, .int x45), (0, .ref (b + 52)), (1, .ref (b + k)), (2, .ref (b + 41)), (3, .ref (b + 1)), (5, .int y5)]) hx hb dX6_perform_273 hl (by decide) rfl (fun ls hl => ?_)
                  refine lv_goto (tgt := 300) hx hb dX6_perform_275 (by decide) ?_
                  obtain ⟨x82, ex82⟩ : ∃ z : Int32, z = y5 + 1 := ⟨_, rfl⟩
                  refine lv_iinc (v := x82) (lv' := [(5, .int x82), (4, .int x47), (8, .int x49), (7, .int x47), (6, .int x45), (0, .ref (b + 52)), (1, .ref (b + k)), (2, .ref (b + 41)), (3, .ref (b + 1))]) hx hb dX6_perform_300 hl (k := 8) rfl (by rw [ex82]; rfl) (by decide) rfl (fun ls hl => ?_)
                  have tx82 : x82.toInt = y5.toInt + 1 := m_addI ex82 (rfl : y5.toInt = _) (by decide : (1 : Int32).toInt = 1) (by omega) (by omega)
                  refine lv_goto (tgt := 21) hx hb dX6_perform_303 (by decide) ?_
                  exact ih x47 x82 (by omega) (by omega) μ53 hI _ _ hW ls (lv_sub hl [5, 6, 7, 8, 1, 0] rfl)
              · refine lv_tableIn (off := 183) (tgt := 278) hx hb dX6_perform_95 (fun z => c54 (Or.inl z)) (fun z => c54 (Or.inr z)) (by rw [q54]; rfl) (by decide) ?_
                refine lv_aload_n hx hb dX6_perform_278 rfl (lv_at hl 5 rfl) ?_
                refine m_getr hx hb hts hown hW (41) 10 (42) rfl rfl cw_3 rfl (by decide) k_X6_51 dX6_perform_279 ?_
                refine lv_iload hx hb dX6_perform_282 (lv_at hl 2 rfl) ?_
                refine lv_bipush (v := 9) hx hb dX6_perform_284 (by decide) ?_
                refine lv_icmp_ne (tgt := 293) hx hb dX6_perform_286 (by decide) (fun c83 => ?_) (fun c83 => ?_)
                · have i83 := m_c6 (rfl : x45.toInt = _) (by decide : (9 : Int32).toInt = 9) c83
                  refine lv_iconst (v := 0) hx hb dX6_perform_293 (by decide) ?_
                  refine m_puti hx hb hts hown hW (42) 2 rfl rfl cw_1 tyX1_ok nmX1 rfl (by decide) k_X6_75 rfl (by decide) rfl dX6_perform_294 (fun H locs hW _ => ?_)
                  generalize hμ84 : m_si μ53 (42) 2 0 = μ84 at hW
                  have hI := hI.si1 hμ84 rfl (by decide) hS6
                  obtain ⟨x85, ex85⟩ : ∃ z : Int32, z = y4 + 1 := ⟨_, rfl⟩
                  refine lv_iinc (v := x85) (lv' := [(4, .int x85), (8, .int x49), (7, .int x47), (6, .int x45), (0, .ref (b + 52)), (1, .ref (b + k)), (2, .ref (b + 41)), (3, .ref (b + 1)), (5, .int y5)]) hx hb dX6_perform_297 hl (k := 7) rfl (by rw [ex85]; rfl) (by decide) rfl (fun ls hl => ?_)
                  have tx85 : x85.toInt = y4.toInt + 1 := m_addI ex85 (rfl : y4.toInt = _) (by decide : (1 : Int32).toInt = 1) (by omega) (by omega)
                  obtain ⟨x86, ex86⟩ : ∃ z : Int32, z = y5 + 1 := ⟨_, rfl⟩
                  refine lv_iinc (v := x86) (lv' := [(5, .int x86), (4, .int x85), (8, .int x49), (7, .int x47), (6, .int x45), (0, .ref (b + 52)), (1, .ref (b + k)), (2, .ref (b + 41)), (3, .ref (b + 1))]) hx hb dX6_perform_300 hl (k := 8) rfl (by rw [ex86]; rfl) (by decide) rfl (fun ls hl => ?_)
                  have tx86 : x86.toInt = y5.toInt + 1 := m_addI ex86 (rfl : y5.toInt = _) (by decide : (1 : Int32).toInt = 1) (by omega) (by omega)
                  refine lv_goto (tgt := 21) hx hb dX6_perform_303 (by decide) ?_
                  exact ih x85 x86 (by omega) (by omega) μ84 hI _ _ hW ls (lv_sub hl [5, 6, 7, 8, 1, 0] rfl)
                · have i83 := m_c5 (rfl : x45.toInt = _) (by decide : (9 : Int32).toInt = 9) c83
                  exfalso; omega
              · refine lv_tableIn (off := 119) (tgt := 214) hx hb dX6_perform_95 (fun z => c54 (Or.inl z)) (fun z => c54 (Or.inr z)) (by rw [q54]; rfl) (by decide) ?_
                refine lv_aload_n hx hb dX6_perform_214 rfl (lv_at hl 3 rfl) ?_
                refine lv_iload hx hb dX6_perform_215 (lv_at hl 1 rfl) ?_
                refine lv_aload_n hx hb dX6_perform_217 rfl (lv_at hl 3 rfl) ?_
                refine lv_iload hx hb dX6_perform_218 (lv_at hl 1 rfl) ?_
                refine m_aI hW (m_runV (As := [.int x47]) (rest := [.int x47, .ref (b + 52)]) hx hb hml hown hts hW (52) (g_X6_turns_52 l D cy b x47 μ53 hI.1) mi_X6_turns k_X6_64 rfl rfl rfl hl.1 rfl (Nat.le_of_ble_eq_true rfl) dX6_perform_220 ⟨Nat.le_of_ble_eq_true rfl, Nat.le_of_ble_eq_true rfl⟩ ⟨Nat.le_of_ble_eq_true rfl, Nat.le_of_ble_eq_true rfl⟩) (fun x87 μ87 H locs q87 hW => ?_)
                obtain ⟨q87_m, q87⟩ := q87
                subst q87_m
                refine lv_iconst (v := 1) hx hb dX6_perform_223 (by decide) ?_
                refine lv_isub hx hb dX6_perform_224 ?_
                refine lv_topi (fun x88 ex88 => ?_)
                refine m_aV hW (m_runV (As := [.int x47, .int x88]) (rest := []) hx hb hml hown hts hW (52) (g_X6_setTurns_52 l D cy b S μ0 hS6 hS7 x47 x88 μ53 hI) mi_X6_setTurns k_X6_60 rfl rfl rfl hl.1 rfl (Nat.le_of_ble_eq_true rfl) dX6_perform_225 ⟨Nat.le_of_ble_eq_true rfl, Nat.le_of_ble_eq_true rfl⟩ ⟨Nat.le_of_ble_eq_true rfl, Nat.le_of_ble_eq_true rfl⟩) (fun μ89 H locs q89 hW => ?_)
                obtain ⟨hI, q89⟩ := q89
                refine lv_aload_n hx hb dX6_perform_228 rfl (lv_at hl 3 rfl) ?_
                refine lv_iload hx hb dX6_perform_229 (lv_at hl 1 rfl) ?_
                refine m_aI hW (m_runV (As := [.int x47]) (rest := []) hx hb hml hown hts hW (52) (g_X6_turns_52 l D cy b x47 μ89 hI.1) mi_X6_turns k_X6_64 rfl rfl rfl hl.1 rfl (Nat.le_of_ble_eq_true rfl) dX6_perform_231 ⟨Nat.le_of_ble_eq_true rfl, Nat.le_of_ble_eq_true rfl⟩ ⟨Nat.le_of_ble_eq_true rfl, Nat.le_of_ble_eq_true rfl⟩) (fun x90 μ90 H locs q90 hW => ?_)
                obtain ⟨q90_m, q90⟩ := q90
                subst q90_m
                refine lv_if_le (tgt := 242) hx hb dX6_perform_234 (by decide) (fun c91 => ?_) (fun c91 => ?_)
                · have i91 := m_c3 (rfl : x90.toInt = _) (by decide : (0 : Int32).toInt = 0) c91
                  refine lv_iload hx hb dX6_perform_242 (lv_at hl 7 rfl) ?_
                  refine lv_iconst (v := 3) hx hb dX6_perform_244 (by decide) ?_
                  refine lv_iadd hx hb dX6_perform_245 ?_
                  refine lv_topi (fun x92 ex92 => ?_)
                  have tx92 : x92.toInt = y4.toInt + 3 := m_addI ex92 (rfl : y4.toInt = _) (by decide : (3 : Int32).toInt = 3) (by omega) (by omega)
                  refine lv_istore (lv' := [(4, .int x92), (8, .int x49), (7, .int x47), (6, .int x45), (0, .ref (b + 52)), (1, .ref (b + k)), (2, .ref (b + 41)), (3, .ref (b + 1)), (5, .int y5)]) hx hb dX6_perform_246 hl (by decide) rfl (fun ls hl => ?_)
                  refine lv_goto (tgt := 300) hx hb dX6_perform_248 (by decide) ?_
                  obtain ⟨x93, ex93⟩ : ∃ z : Int32, z = y5 + 1 := ⟨_, rfl⟩
                  refine lv_iinc (v := x93) (lv' := [(5, .int x93), (4, .int x92), (8, .int x49), (7, .int x47), (6, .int x45), (0, .ref (b + 52)), (1, .ref (b + k)), (2, .ref (b + 41)), (3, .ref (b + 1))]) hx hb dX6_perform_300 hl (k := 8) rfl (by rw [ex93]; rfl) (by decide) rfl (fun ls hl => ?_)
                  have tx93 : x93.toInt = y5.toInt + 1 := m_addI ex93 (rfl : y5.toInt = _) (by decide : (1 : Int32).toInt = 1) (by omega) (by omega)
                  refine lv_goto (tgt := 21) hx hb dX6_perform_303 (by decide) ?_
                  exact ih x92 x93 (by omega) (by omega) μ89 hI _ _ hW ls (lv_sub hl [5, 6, 7, 8, 1, 0] rfl)
                · have i91 := m_c4 (rfl : x90.toInt = _) (by decide : (0 : Int32).toInt = 0) c91
                  refine lv_iload hx hb dX6_perform_237 (lv_at hl 0 rfl) ?_
                  refine lv_goto (tgt := 246) hx hb dX6_perform_239 (by decide) ?_
                  refine lv_istore (lv' := [(4, .int x49), (8, .int x49), (7, .int x47), (6, .int x45), (0, .ref (b + 52)), (1, .ref (b + k)), (2, .ref (b + 41)), (3, .ref (b + 1)), (5, .int y5)]) hx hb dX6_perform_246 hl (by decide) rfl (fun ls hl => ?_)
                  refine lv_goto (tgt := 300) hx hb dX6_perform_248 (by decide) ?_
                  obtain ⟨x94, ex94⟩ : ∃ z : Int32, z = y5 + 1 := ⟨_, rfl⟩
                  refine lv_iinc (v := x94) (lv' := [(5, .int x94), (4, .int x49), (8, .int x49), (7, .int x47), (6, .int x45), (0, .ref (b + 52)), (1, .ref (b + k)), (2, .ref (b + 41)), (3, .ref (b + 1))]) hx hb dX6_perform_300 hl (k := 8) rfl (by rw [ex94]; rfl) (by decide) rfl (fun ls hl => ?_)
                  have tx94 : x94.toInt = y5.toInt + 1 := m_addI ex94 (rfl : y5.toInt = _) (by decide : (1 : Int32).toInt = 1) (by omega) (by omega)
                  refine lv_goto (tgt := 21) hx hb dX6_perform_303 (by decide) ?_
                  exact ih x49 x94 (by omega) (by omega) μ89 hI _ _ hW ls (lv_sub hl [5, 6, 7, 8, 1, 0] rfl)
          · have i51 := m_c5 (rfl : x45.toInt = _) (by decide : (18 : Int32).toInt = 18) c51
            refine lv_iconst (v := 0) hx hb dX6_perform_84 (by decide) ?_
            refine lv_goto (tgt := 89) hx hb dX6_perform_85 (by decide) ?_
            refine lv_isub hx hb dX6_perform_89 ?_
            refine lv_topi (fun x95 ex95 => ?_)
            have r_x30 := m_rng x30
            have tx95 : x95.toInt = x30.toInt - 0 := m_subI ex95 (rfl : x30.toInt = _) (by decide : (0 : Int32).toInt = 0) (by omega) (by omega)
            refine m_puti hx hb hts hown hW (52) 1 rfl rfl cw_6 tyX6_ok nmX6 rfl (by decide) k_X6_15 rfl rfl rfl dX6_perform_90 (fun H locs hW _ => ?_)
            generalize hμ96 : m_si μ (52) 1 x95 = μ96 at hW
            have hI := hI.si0 hμ96 rfl hS7
            refine lv_iload hx hb dX6_perform_93 (lv_at hl 2 rfl) ?_
            by_cases c97 : x45.toInt < 11 ∨ 18 < x45.toInt
            · refine lv_tableOut (tgt := 278) hx hb dX6_perform_95 c97 (by decide) ?_
              refine lv_aload_n hx hb dX6_perform_278 rfl (lv_at hl 5 rfl) ?_
              refine m_getr hx hb hts hown hW (41) 10 (42) rfl rfl cw_3 rfl (by decide) k_X6_51 dX6_perform_279 ?_
              refine lv_iload hx hb dX6_perform_282 (lv_at hl 2 rfl) ?_
              refine lv_bipush (v := 9) hx hb dX6_perform_284 (by decide) ?_
              refine lv_icmp_ne (tgt := 293) hx hb dX6_perform_286 (by decide) (fun c98 => ?_) (fun c98 => ?_)
              · have i98 := m_c6 (rfl : x45.toInt = _) (by decide : (9 : Int32).toInt = 9) c98
                refine lv_iconst (v := 0) hx hb dX6_perform_293 (by decide) ?_
                refine m_puti hx hb hts hown hW (42) 2 rfl rfl cw_1 tyX1_ok nmX1 rfl (by decide) k_X6_75 rfl (by decide) rfl dX6_perform_294 (fun H locs hW _ => ?_)
                generalize hμ99 : m_si μ96 (42) 2 0 = μ99 at hW
                have hI := hI.si1 hμ99 rfl (by decide) hS6
                obtain ⟨x100, ex100⟩ : ∃ z : Int32, z = y4 + 1 := ⟨_, rfl⟩
                refine lv_iinc (v := x100) (lv' := [(4, .int x100), (8, .int x49), (7, .int x47), (6, .int x45), (0, .ref (b + 52)), (1, .ref (b + k)), (2, .ref (b + 41)), (3, .ref (b + 1)), (5, .int y5)]) hx hb dX6_perform_297 hl (k := 7) rfl (by rw [ex100]; rfl) (by decide) rfl (fun ls hl => ?_)
                have tx100 : x100.toInt = y4.toInt + 1 := m_addI ex100 (rfl : y4.toInt = _) (by decide : (1 : Int32).toInt = 1) (by omega) (by omega)
                obtain ⟨x101, ex101⟩ : ∃ z : Int32, z = y5 + 1 := ⟨_, rfl⟩
                refine lv_iinc (v := x101) (lv' := [(5, .int x101), (4, .int x100), (8, .int x49), (7, .int x47), (6, .int x45), (0, .ref (b + 52)), (1, .ref (b + k)), (2, .ref (b + 41)), (3, .ref (b + 1))]) hx hb dX6_perform_300 hl (k := 8) rfl (by rw [ex101]; rfl) (by decide) rfl (fun ls hl => ?_)
                have tx101 : x101.toInt = y5.toInt + 1 := m_addI ex101 (rfl : y5.toInt = _) (by decide : (1 : Int32).toInt = 1) (by omega) (by omega)
                refine lv_goto (tgt := 21) hx hb dX6_perform_303 (by decide) ?_
                exact ih x100 x101 (by omega) (by omega) μ99 hI _ _ hW ls (lv_sub hl [5, 6, 7, 8, 1, 0] rfl)
              · have i98 := m_c5 (rfl : x45.toInt = _) (by decide : (9 : Int32).toInt = 9) c98
                exfalso; omega
            · have q97 : x45.toInt = 11 ∨ x45.toInt = 12 ∨ x45.toInt = 13 ∨ x45.toInt = 14 ∨ x45.toInt = 15 ∨ x45.toInt = 16 ∨ x45.toInt = 17 ∨ x45.toInt = 18 := by omega
              rcases q97 with q97 | q97 | q97 | q97 | q97 | q97 | q97 | q97
              · refine lv_tableIn (off := 45) (tgt := 140) hx hb dX6_perform_95 (fun z => c97 (Or.inl z)) (fun z => c97 (Or.inr z)) (by rw [q97]; rfl) (by decide) ?_
                refine lv_aload_n hx hb dX6_perform_140 rfl (lv_at hl 5 rfl) ?_
                refine lv_iload hx hb dX6_perform_141 (lv_at hl 1 rfl) ?_
                refine lv_iload hx hb dX6_perform_143 (lv_at hl 0 rfl) ?_
                refine m_aI hW (m_runV (As := [.int x47, .int x49]) (rest := []) hx hb hml hown hts hW (41) (g_X3_moveHead_41 l D cy b S μ0 hS6 x47 x49 μ96 hI) mi_X3_moveHead k_X6_39 rfl rfl rfl hl.1 rfl (Nat.le_of_ble_eq_true rfl) dX6_perform_145 ⟨Nat.le_of_ble_eq_true rfl, Nat.le_of_ble_eq_true rfl⟩ ⟨Nat.le_of_ble_eq_true rfl, Nat.le_of_ble_eq_true rfl⟩) (fun x102 μ102 H locs q102 hW => ?_)
                obtain ⟨hI, q102⟩ := q102
                rcases q102 with ⟨rfl, q102⟩ | ⟨rfl, q102⟩
                · refine lv_pop hx hb dX6_perform_148 rfl ?_
                  obtain ⟨x103, ex103⟩ : ∃ z : Int32, z = y4 + 3 := ⟨_, rfl⟩
                  refine lv_iinc (v := x103) (lv' := [(4, .int x103), (8, .int x49), (7, .int x47), (6, .int x45), (0, .ref (b + 52)), (1, .ref (b + k)), (2, .ref (b + 41)), (3, .ref (b + 1)), (5, .int y5)]) hx hb dX6_perform_149 hl (k := 7) rfl (by rw [ex103]; rfl) (by decide) rfl (fun ls hl => ?_)
                  have tx103 : x103.toInt = y4.toInt + 3 := m_addI ex103 (rfl : y4.toInt = _) (by decide : (3 : Int32).toInt = 3) (by omega) (by omega)
                  refine lv_goto (tgt := 300) hx hb dX6_perform_152 (by decide) ?_
                  obtain ⟨x104, ex104⟩ : ∃ z : Int32, z = y5 + 1 := ⟨_, rfl⟩
                  refine lv_iinc (v := x104) (lv' := [(5, .int x104), (4, .int x103), (8, .int x49), (7, .int x47), (6, .int x45), (0, .ref (b + 52)), (1, .ref (b + k)), (2, .ref (b + 41)), (3, .ref (b + 1))]) hx hb dX6_perform_300 hl (k := 8) rfl (by rw [ex104]; rfl) (by decide) rfl (fun ls hl => ?_)
                  have tx104 : x104.toInt = y5.toInt + 1 := m_addI ex104 (rfl : y5.toInt = _) (by decide : (1 : Int32).toInt = 1) (by omega) (by omega)
                  refine lv_goto (tgt := 21) hx hb dX6_perform_303 (by decide) ?_
                  exact ih x103 x104 (by omega) (by omega) μ102 hI _ _ hW ls (lv_sub hl [5, 6, 7, 8, 1, 0] rfl)
                · refine lv_pop hx hb dX6_perform_148 rfl ?_
                  obtain ⟨x105, ex105⟩ : ∃ z : Int32, z = y4 + 3 := ⟨_, rfl⟩
                  refine lv_iinc (v := x105) (lv' := [(4, .int x105), (8, .int x49), (7, .int x47), (6, .int x45), (0, .ref (b + 52)), (1, .ref (b + k)), (2, .ref (b + 41)), (3, .ref (b + 1)), (5, .int y5)]) hx hb dX6_perform_149 hl (k := 7) rfl (by rw [ex105]; rfl) (by decide) rfl (fun ls hl => ?_)
                  have tx105 : x105.toInt = y4.toInt + 3 := m_addI ex105 (rfl : y4.toInt = _) (by decide : (3 : Int32).toInt = 3) (by omega) (by omega)
                  refine lv_goto (tgt := 300) hx hb dX6_perform_152 (by decide) ?_
                  obtain ⟨x106, ex106⟩ : ∃ z : Int32, z = y5 + 1 := ⟨_, rfl⟩
                  refine lv_iinc (v := x106) (lv' := [(5, .int x106), (4, .int x105), (8, .int x49), (7, .int x47), (6, .int x45), (0, .ref (b + 52)), (1, .ref (b + k)), (2, .ref (b + 41)), (3, .ref (b + 1))]) hx hb dX6_perform_300 hl (k := 8) rfl (by rw [ex106]; rfl) (by decide) rfl (fun ls hl => ?_)
                  have tx106 : x106.toInt = y5.toInt + 1 := m_addI ex106 (rfl : y5.toInt = _) (by decide : (1 : Int32).toInt = 1) (by omega) (by omega)
                  refine lv_goto (tgt := 21) hx hb dX6_perform_303 (by decide) ?_
                  exact ih x105 x106 (by omega) (by omega) μ102 hI _ _ hW ls (lv_sub hl [5, 6, 7, 8, 1, 0] rfl)
              · refine lv_tableIn (off := 60) (tgt := 155) hx hb dX6_perform_95 (fun z => c97 (Or.inl z)) (fun z => c97 (Or.inr z)) (by rw [q97]; rfl) (by decide) ?_
                refine lv_aload_n hx hb dX6_perform_155 rfl (lv_at hl 3 rfl) ?_
                refine lv_aload_n hx hb dX6_perform_156 rfl (lv_at hl 5 rfl) ?_
                refine lv_aload_n hx hb dX6_perform_157 rfl (lv_at hl 6 rfl) ?_
                refine lv_iload hx hb dX6_perform_158 (lv_at hl 1 rfl) ?_
                refine lv_iload hx hb dX6_perform_160 (lv_at hl 0 rfl) ?_
                refine m_aV hW (m_runV (As := [.ref (b + 41), .ref (b + 1), .int x47, .int x49]) (rest := []) hx hb hml hown hts hW (52) (g_X6_travel_52 l D cy b S μ0 hS6 hS7 x47 x49 μ96 hI) mi_X6_travel k_X6_43 rfl rfl rfl hl.1 rfl (Nat.le_of_ble_eq_true rfl) dX6_perform_162 ⟨Nat.le_of_ble_eq_true rfl, Nat.le_of_ble_eq_true rfl⟩ ⟨Nat.le_of_ble_eq_true rfl, Nat.le_of_ble_eq_true rfl⟩) (fun μ107 H locs q107 hW => ?_)
                obtain ⟨hI, q107⟩ := q107
                obtain ⟨x108, ex108⟩ : ∃ z : Int32, z = y4 + 3 := ⟨_, rfl⟩
                refine lv_iinc (v := x108) (lv' := [(4, .int x108), (8, .int x49), (7, .int x47), (6, .int x45), (0, .ref (b + 52)), (1, .ref (b + k)), (2, .ref (b + 41)), (3, .ref (b + 1)), (5, .int y5)]) hx hb dX6_perform_165 hl (k := 7) rfl (by rw [ex108]; rfl) (by decide) rfl (fun ls hl => ?_)
                have tx108 : x108.toInt = y4.toInt + 3 := m_addI ex108 (rfl : y4.toInt = _) (by decide : (3 : Int32).toInt = 3) (by omega) (by omega)
                refine lv_goto (tgt := 300) hx hb dX6_perform_168 (by decide) ?_
                obtain ⟨x109, ex109⟩ : ∃ z : Int32, z = y5 + 1 := ⟨_, rfl⟩
                refine lv_iinc (v := x109) (lv' := [(5, .int x109), (4, .int x108), (8, .int x49), (7, .int x47), (6, .int x45), (0, .ref (b + 52)), (1, .ref (b + k)), (2, .ref (b + 41)), (3, .ref (b + 1))]) hx hb dX6_perform_300 hl (k := 8) rfl (by rw [ex109]; rfl) (by decide) rfl (fun ls hl => ?_)
                have tx109 : x109.toInt = y5.toInt + 1 := m_addI ex109 (rfl : y5.toInt = _) (by decide : (1 : Int32).toInt = 1) (by omega) (by omega)
                refine lv_goto (tgt := 21) hx hb dX6_perform_303 (by decide) ?_
                exact ih x108 x109 (by omega) (by omega) μ107 hI _ _ hW ls (lv_sub hl [5, 6, 7, 8, 1, 0] rfl)
              · refine lv_tableIn (off := 76) (tgt := 171) hx hb dX6_perform_95 (fun z => c97 (Or.inl z)) (fun z => c97 (Or.inr z)) (by rw [q97]; rfl) (by decide) ?_
                refine lv_aload_n hx hb dX6_perform_171 rfl (lv_at hl 3 rfl) ?_
                refine lv_aload_n hx hb dX6_perform_172 rfl (lv_at hl 5 rfl) ?_
                refine lv_aload_n hx hb dX6_perform_173 rfl (lv_at hl 6 rfl) ?_
                refine lv_iload hx hb dX6_perform_174 (lv_at hl 1 rfl) ?_
                refine m_aV hW (m_runV (As := [.ref (b + 41), .ref (b + 1), .int x47]) (rest := []) hx hb hml hown hts hW (52) (g_X6_stay_52 l D cy b S μ0 hS6 hS7 x47 μ96 hI) mi_X6_stay k_X6_47 rfl rfl rfl hl.1 rfl (Nat.le_of_ble_eq_true rfl) dX6_perform_176 ⟨Nat.le_of_ble_eq_true rfl, Nat.le_of_ble_eq_true rfl⟩ ⟨Nat.le_of_ble_eq_true rfl, Nat.le_of_ble_eq_true rfl⟩) (fun μ110 H locs q110 hW => ?_)
                obtain ⟨hI, q110⟩ := q110
                obtain ⟨x111, ex111⟩ : ∃ z : Int32, z = y4 + 2 := ⟨_, rfl⟩
                refine lv_iinc (v := x111) (lv' := [(4, .int x111), (8, .int x49), (7, .int x47), (6, .int x45), (0, .ref (b + 52)), (1, .ref (b + k)), (2, .ref (b + 41)), (3, .ref (b + 1)), (5, .int y5)]) hx hb dX6_perform_179 hl (k := 7) rfl (by rw [ex111]; rfl) (by decide) rfl (fun ls hl => ?_)
                have tx111 : x111.toInt = y4.toInt + 2 := m_addI ex111 (rfl : y4.toInt = _) (by decide : (2 : Int32).toInt = 2) (by omega) (by omega)
                refine lv_goto (tgt := 300) hx hb dX6_perform_182 (by decide) ?_
                obtain ⟨x112, ex112⟩ : ∃ z : Int32, z = y5 + 1 := ⟨_, rfl⟩
                refine lv_iinc (v := x112) (lv' := [(5, .int x112), (4, .int x111), (8, .int x49), (7, .int x47), (6, .int x45), (0, .ref (b + 52)), (1, .ref (b + k)), (2, .ref (b + 41)), (3, .ref (b + 1))]) hx hb dX6_perform_300 hl (k := 8) rfl (by rw [ex112]; rfl) (by decide) rfl (fun ls hl => ?_)
                have tx112 : x112.toInt = y5.toInt + 1 := m_addI ex112 (rfl : y5.toInt = _) (by decide : (1 : Int32).toInt = 1) (by omega) (by omega)
                refine lv_goto (tgt := 21) hx hb dX6_perform_303 (by decide) ?_
                exact ih x111 x112 (by omega) (by omega) μ110 hI _ _ hW ls (lv_sub hl [5, 6, 7, 8, 1, 0] rfl)
              · refine lv_tableIn (off := 90) (tgt := 185) hx hb dX6_perform_95 (fun z => c97 (Or.inl z)) (fun z => c97 (Or.inr z)) (by rw [q97]; rfl) (by decide) ?_
                refine lv_aload_n hx hb dX6_perform_185 rfl (lv_at hl 5 rfl) ?_
                refine m_getr hx hb hts hown hW (41) 10 (42) rfl rfl cw_3 rfl (by decide) k_X6_51 dX6_perform_186 ?_
                refine lv_iload hx hb dX6_perform_189 (lv_at hl 1 rfl) ?_
                refine m_puti hx hb hts hown hW (42) 3 rfl rfl cw_1 tyX1_ok nmX1 rfl (by decide) k_X6_55 rfl rfl rfl dX6_perform_191 (fun H locs hW _ => ?_)
                generalize hμ113 : m_si μ96 (42) 3 x47 = μ113 at hW
                have hI := hI.si0 hμ113 rfl hS6
                obtain ⟨x114, ex114⟩ : ∃ z : Int32, z = y4 + 2 := ⟨_, rfl⟩
                refine lv_iinc (v := x114) (lv' := [(4, .int x114), (8, .int x49), (7, .int x47), (6, .int x45), (0, .ref (b + 52)), (1, .ref (b + k)), (2, .ref (b + 41)), (3, .ref (b + 1)), (5, .int y5)]) hx hb dX6_perform_194 hl (k := 7) rfl (by rw [ex114]; rfl) (by decide) rfl (fun ls hl => ?_)
                have tx114 : x114.toInt = y4.toInt + 2 := m_addI ex114 (rfl : y4.toInt = _) (by decide : (2 : Int32).toInt = 2) (by omega) (by omega)
                refine lv_goto (tgt := 300) hx hb dX6_perform_197 (by decide) ?_
                obtain ⟨x115, ex115⟩ : ∃ z : Int32, z = y5 + 1 := ⟨_, rfl⟩
                refine lv_iinc (v := x115) (lv' := [(5, .int x115), (4, .int x114), (8, .int x49), (7, .int x47), (6, .int x45), (0, .ref (b + 52)), (1, .ref (b + k)), (2, .ref (b + 41)), (3, .ref (b + 1))]) hx hb dX6_perform_300 hl (k := 8) rfl (by rw [ex115]; rfl) (by decide) rfl (fun ls hl => ?_)
                have tx115 : x115.toInt = y5.toInt + 1 := m_addI ex115 (rfl : y5.toInt = _) (by decide : (1 : Int32).toInt = 1) (by omega) (by omega)
                refine lv_goto (tgt := 21) hx hb dX6_perform_303 (by decide) ?_
                exact ih x114 x115 (by omega) (by omega) μ113 hI _ _ hW ls (lv_sub hl [5, 6, 7, 8, 1, 0] rfl)
              · refine lv_tableIn (off := 105) (tgt := 200) hx hb dX6_perform_95 (fun z => c97 (Or.inl z)) (fun z => c97 (Or.inr z)) (by rw [q97]; rfl) (by decide) ?_
                refine lv_aload_n hx hb dX6_perform_200 rfl (lv_at hl 3 rfl) ?_
                refine lv_iload hx hb dX6_perform_201 (lv_at hl 0 rfl) ?_
                refine lv_iload hx hb dX6_perform_203 (lv_at hl 1 rfl) ?_
                refine m_aV hW (m_runV (As := [.int x49, .int x47]) (rest := []) hx hb hml hown hts hW (52) (g_X6_setTurns_52 l D cy b S μ0 hS6 hS7 x49 x47 μ96 hI) mi_X6_setTurns k_X6_60 rfl rfl rfl hl.1 rfl (Nat.le_of_ble_eq_true rfl) dX6_perform_205 ⟨Nat.le_of_ble_eq_true rfl, Nat.le_of_ble_eq_true rfl⟩ ⟨Nat.le_of_ble_eq_true rfl, Nat.le_of_ble_eq_true rfl⟩) (fun μ116 H locs q116 hW => ?_)
                obtain ⟨hI, q116⟩ := q116
                obtain ⟨x117, ex117⟩ : ∃ z : Int32, z = y4 + 3 := ⟨_, rfl⟩
                refine lv_iinc (v := x117) (lv' := [(4, .int x117), (8, .int x49), (7, .int x47), (6, .int x45), (0, .ref (b + 52)), (1, .ref (b + k)), (2, .ref (b + 41)), (3, .ref (b + 1)), (5, .int y5)]) hx hb dX6_perform_208 hl (k := 7) rfl (by rw [ex117]; rfl) (by decide) rfl (fun ls hl => ?_)
                have tx117 : x117.toInt = y4.toInt + 3 := m_addI ex117 (rfl : y4.toInt = _) (by decide : (3 : Int32).toInt = 3) (by omega) (by omega)
                refine lv_goto (tgt := 300) hx hb dX6_perform_211 (by decide) ?_
                obtain ⟨x118, ex118⟩ : ∃ z : Int32, z = y5 + 1 := ⟨_, rfl⟩
                refine lv_iinc (v := x118) (lv' := [(5, .int x118), (4, .int x117), (8, .int x49), (7, .int x47), (6, .int x45), (0, .ref (b + 52)), (1, .ref (b + k)), (2, .ref (b + 41)), (3, .ref (b + 1))]) hx hb dX6_perform_300 hl (k := 8) rfl (by rw [ex118]; rfl) (by decide) rfl (fun ls hl => ?_)
                have tx118 : x118.toInt = y5.toInt + 1 := m_addI ex118 (rfl : y5.toInt = _) (by decide : (1 : Int32).toInt = 1) (by omega) (by omega)
                refine lv_goto (tgt := 21) hx hb dX6_perform_303 (by decide) ?_
                exact ih x117 x118 (by omega) (by omega) μ116 hI _ _ hW ls (lv_sub hl [5, 6, 7, 8, 1, 0] rfl)
              · refine lv_tableIn (off := 156) (tgt := 251) hx hb dX6_perform_95 (fun z => c97 (Or.inl z)) (fun z => c97 (Or.inr z)) (by rw [q97]; rfl) (by decide) ?_
                refine lv_aload_n hx hb dX6_perform_251 rfl (lv_at hl 3 rfl) ?_
                refine lv_aload_n hx hb dX6_perform_252 rfl (lv_at hl 4 rfl) ?_
                refine lv_iload hx hb dX6_perform_253 (lv_at hl 7 rfl) ?_
                refine lv_aload_n hx hb dX6_perform_255 rfl (lv_at hl 5 rfl) ?_
                refine m_aI hW (m_runV (As := [.ref (b + k), .int y4, .ref (b + 41)]) (rest := []) hx hb hml hown hts hW (52) (g_X6_isSo_52 l D cy b k k1 n hk hk1 hn hb1 hb0 y4 μ96 hI.1) mi_X6_isSo k_X6_67 rfl rfl rfl hl.1 rfl (Nat.le_of_ble_eq_true rfl) dX6_perform_256 ⟨Nat.le_of_ble_eq_true rfl, Nat.le_of_ble_eq_true rfl⟩ ⟨Nat.le_of_ble_eq_true rfl, Nat.le_of_ble_eq_true rfl⟩) (fun x119 μ119 H locs q119 hW => ?_)
                obtain ⟨q119_m, q119⟩ := q119
                subst q119_m
                rcases q119 with ⟨rfl, q119⟩ | ⟨rfl, q119⟩
                · refine lv_if_eq (tgt := 271) hx hb dX6_perform_259 (by decide) (fun c => False.elim (by revert c; decide)) (fun _ => ?_)
                  refine lv_aload_n hx hb dX6_perform_262 rfl (lv_at hl 4 rfl) ?_
                  refine lv_iload hx hb dX6_perform_263 (lv_at hl 7 rfl) ?_
                  refine m_aI hW (m_runS (As := [.ref (b + k), .int y4]) (rest := []) hx hb hml hown hts hW (g_X6_stepOfIf l D cy b k k1 n hk hk1 hn hb1 hb0 y4 μ96 hI.1) ms_X6_stepOfIf k_X6_71 rfl hl.1 rfl (Nat.le_of_ble_eq_true rfl) dX6_perform_265 ⟨Nat.le_of_ble_eq_true rfl, Nat.le_of_ble_eq_true rfl⟩ ⟨Nat.le_of_ble_eq_true rfl, Nat.le_of_ble_eq_true rfl⟩) (fun x120 μ120 H locs q120 hW => ?_)
                  obtain ⟨q120_m, q120⟩ := q120
                  subst q120_m
                  refine lv_goto (tgt := 273) hx hb dX6_perform_268 (by decide) ?_
                  refine lv_istore (lv' := [(4, .int x120), (8, .int x49), (7, .int x47), (6, .int x45), (0, .ref (b + 52)), (1, .ref (b + k)), (2, .ref (b + 41)), (3, .ref (b + 1)), (5, .int y5)]) hx hb dX6_perform_273 hl (by decide) rfl (fun ls hl => ?_)
                  refine lv_goto (tgt := 300) hx hb dX6_perform_275 (by decide) ?_
                  obtain ⟨x121, ex121⟩ : ∃ z : Int32, z = y5 + 1 := ⟨_, rfl⟩
                  refine lv_iinc (v := x121) (lv' := [(5, .int x121), (4, .int x120), (8, .int x49), (7, .int x47), (6, .int x45), (0, .ref (b + 52)), (1, .ref (b + k)), (2, .ref (b + 41)), (3, .ref (b + 1))]) hx hb dX6_perform_300 hl (k := 8) rfl (by rw [ex121]; rfl) (by decide) rfl (fun ls hl => ?_)
                  have tx121 : x121.toInt = y5.toInt + 1 := m_addI ex121 (rfl : y5.toInt = _) (by decide : (1 : Int32).toInt = 1) (by omega) (by omega)
                  refine lv_goto (tgt := 21) hx hb dX6_perform_303 (by decide) ?_
                  exact ih x120 x121 (by omega) (by omega) μ96 hI _ _ hW ls (lv_sub hl [5, 6, 7, 8, 1, 0] rfl)
                · refine lv_if_eq (tgt := 271) hx hb dX6_perform_259 (by decide) (fun _ => ?_) (fun c => False.elim (by revert c; decide))
                  refine lv_iload hx hb dX6_perform_271 (lv_at hl 1 rfl) ?_
                  refine lv_istore (lv' := [(4, .int x47), (8, .int x49), (7, .int x47), (6, .int x45), (0, .ref (b + 52)), (1, .ref (b + k)), (2, .ref (b + 41)), (3, .ref (b + 1)), (5, .int y5)]) hx hb dX6_perform_273 hl (by decide) rfl (fun ls hl => ?_)
                  refine lv_goto (tgt := 300) hx hb dX6_perform_275 (by decide) ?_
                  obtain ⟨x122, ex122⟩ : ∃ z : Int32, z = y5 + 1 := ⟨_, rfl⟩
                  refine lv_iinc (v := x122) (lv' := [(5, .int x122), (4, .int x47), (8, .int x49), (7, .int x47), (6, .int x45), (0, .ref (b + 52)), (1, .ref (b + k)), (2, .ref (b + 41)), (3, .ref (b + 1))]) hx hb dX6_perform_300 hl (k := 8) rfl (by rw [ex122]; rfl) (by decide) rfl (fun ls hl => ?_)
                  have tx122 : x122.toInt = y5.toInt + 1 := m_addI ex122 (rfl : y5.toInt = _) (by decide : (1 : Int32).toInt = 1) (by omega) (by omega)
                  refine lv_goto (tgt := 21) hx hb dX6_perform_303 (by decide) ?_
                  exact ih x47 x122 (by omega) (by omega) μ96 hI _ _ hW ls (lv_sub hl [5, 6, 7, 8, 1, 0] rfl)
              · refine lv_tableIn (off := 183) (tgt := 278) hx hb dX6_perform_95 (fun z => c97 (Or.inl z)) (fun z => c97 (Or.inr z)) (by rw [q97]; rfl) (by decide) ?_
                refine lv_aload_n hx hb dX6_perform_278 rfl (lv_at hl 5 rfl) ?_
                refine m_getr hx hb hts hown hW (41) 10 (42) rfl rfl cw_3 rfl (by decide) k_X6_51 dX6_perform_279 ?_
                refine lv_iload hx hb dX6_perform_282 (lv_at hl 2 rfl) ?_
                refine lv_bipush (v := 9) hx hb dX6_perform_284 (by decide) ?_
                refine lv_icmp_ne (tgt := 293) hx hb dX6_perform_286 (by decide) (fun c123 => ?_) (fun c123 => ?_)
                · have i123 := m_c6 (rfl : x45.toInt = _) (by decide : (9 : Int32).toInt = 9) c123
                  refine lv_iconst (v := 0) hx hb dX6_perform_293 (by decide) ?_
                  refine m_puti hx hb hts hown hW (42) 2 rfl rfl cw_1 tyX1_ok nmX1 rfl (by decide) k_X6_75 rfl (by decide) rfl dX6_perform_294 (fun H locs hW _ => ?_)
                  generalize hμ124 : m_si μ96 (42) 2 0 = μ124 at hW
                  have hI := hI.si1 hμ124 rfl (by decide) hS6
                  obtain ⟨x125, ex125⟩ : ∃ z : Int32, z = y4 + 1 := ⟨_, rfl⟩
                  refine lv_iinc (v := x125) (lv' := [(4, .int x125), (8, .int x49), (7, .int x47), (6, .int x45), (0, .ref (b + 52)), (1, .ref (b + k)), (2, .ref (b + 41)), (3, .ref (b + 1)), (5, .int y5)]) hx hb dX6_perform_297 hl (k := 7) rfl (by rw [ex125]; rfl) (by decide) rfl (fun ls hl => ?_)
                  have tx125 : x125.toInt = y4.toInt + 1 := m_addI ex125 (rfl : y4.toInt = _) (by decide : (1 : Int32).toInt = 1) (by omega) (by omega)
                  obtain ⟨x126, ex126⟩ : ∃ z : Int32, z = y5 + 1 := ⟨_, rfl⟩
                  refine lv_iinc (v := x126) (lv' := [(5, .int x126), (4, .int x125), (8, .int x49), (7, .int x47), (6, .int x45), (0, .ref (b + 52)), (1, .ref (b + k)), (2, .ref (b + 41)), (3, .ref (b + 1))]) hx hb dX6_perform_300 hl (k := 8) rfl (by rw [ex126]; rfl) (by decide) rfl (fun ls hl => ?_)
                  have tx126 : x126.toInt = y5.toInt + 1 := m_addI ex126 (rfl : y5.toInt = _) (by decide : (1 : Int32).toInt = 1) (by omega) (by omega)
                  refine lv_goto (tgt := 21) hx hb dX6_perform_303 (by decide) ?_
                  exact ih x125 x126 (by omega) (by omega) μ124 hI _ _ hW ls (lv_sub hl [5, 6, 7, 8, 1, 0] rfl)
                · have i123 := m_c5 (rfl : x45.toInt = _) (by decide : (9 : Int32).toInt = 9) c123
                  exfalso; omega
              · refine lv_tableIn (off := 119) (tgt := 214) hx hb dX6_perform_95 (fun z => c97 (Or.inl z)) (fun z => c97 (Or.inr z)) (by rw [q97]; rfl) (by decide) ?_
                refine lv_aload_n hx hb dX6_perform_214 rfl (lv_at hl 3 rfl) ?_
                refine lv_iload hx hb dX6_perform_215 (lv_at hl 1 rfl) ?_
                refine lv_aload_n hx hb dX6_perform_217 rfl (lv_at hl 3 rfl) ?_
                refine lv_iload hx hb dX6_perform_218 (lv_at hl 1 rfl) ?_
                refine m_aI hW (m_runV (As := [.int x47]) (rest := [.int x47, .ref (b + 52)]) hx hb hml hown hts hW (52) (g_X6_turns_52 l D cy b x47 μ96 hI.1) mi_X6_turns k_X6_64 rfl rfl rfl hl.1 rfl (Nat.le_of_ble_eq_true rfl) dX6_perform_220 ⟨Nat.le_of_ble_eq_true rfl, Nat.le_of_ble_eq_true rfl⟩ ⟨Nat.le_of_ble_eq_true rfl, Nat.le_of_ble_eq_true rfl⟩) (fun x127 μ127 H locs q127 hW => ?_)
                obtain ⟨q127_m, q127⟩ := q127
                subst q127_m
                refine lv_iconst (v := 1) hx hb dX6_perform_223 (by decide) ?_
                refine lv_isub hx hb dX6_perform_224 ?_
                refine lv_topi (fun x128 ex128 => ?_)
                refine m_aV hW (m_runV (As := [.int x47, .int x128]) (rest := []) hx hb hml hown hts hW (52) (g_X6_setTurns_52 l D cy b S μ0 hS6 hS7 x47 x128 μ96 hI) mi_X6_setTurns k_X6_60 rfl rfl rfl hl.1 rfl (Nat.le_of_ble_eq_true rfl) dX6_perform_225 ⟨Nat.le_of_ble_eq_true rfl, Nat.le_of_ble_eq_true rfl⟩ ⟨Nat.le_of_ble_eq_true rfl, Nat.le_of_ble_eq_true rfl⟩) (fun μ129 H locs q129 hW => ?_)
                obtain ⟨hI, q129⟩ := q129
                refine lv_aload_n hx hb dX6_perform_228 rfl (lv_at hl 3 rfl) ?_
                refine lv_iload hx hb dX6_perform_229 (lv_at hl 1 rfl) ?_
                refine m_aI hW (m_runV (As := [.int x47]) (rest := []) hx hb hml hown hts hW (52) (g_X6_turns_52 l D cy b x47 μ129 hI.1) mi_X6_turns k_X6_64 rfl rfl rfl hl.1 rfl (Nat.le_of_ble_eq_true rfl) dX6_perform_231 ⟨Nat.le_of_ble_eq_true rfl, Nat.le_of_ble_eq_true rfl⟩ ⟨Nat.le_of_ble_eq_true rfl, Nat.le_of_ble_eq_true rfl⟩) (fun x130 μ130 H locs q130 hW => ?_)
                obtain ⟨q130_m, q130⟩ := q130
                subst q130_m
                refine lv_if_le (tgt := 242) hx hb dX6_perform_234 (by decide) (fun c131 => ?_) (fun c131 => ?_)
                · have i131 := m_c3 (rfl : x130.toInt = _) (by decide : (0 : Int32).toInt = 0) c131
                  refine lv_iload hx hb dX6_perform_242 (lv_at hl 7 rfl) ?_
                  refine lv_iconst (v := 3) hx hb dX6_perform_244 (by decide) ?_
                  refine lv_iadd hx hb dX6_perform_245 ?_
                  refine lv_topi (fun x132 ex132 => ?_)
                  have tx132 : x132.toInt = y4.toInt + 3 := m_addI ex132 (rfl : y4.toInt = _) (by decide : (3 : Int32).toInt = 3) (by omega) (by omega)
                  refine lv_istore (lv' := [(4, .int x132), (8, .int x49), (7, .int x47), (6, .int x45), (0, .ref (b + 52)), (1, .ref (b + k)), (2, .ref (b + 41)), (3, .ref (b + 1)), (5, .int y5)]) hx hb dX6_perform_246 hl (by decide) rfl (fun ls hl => ?_)
                  refine lv_goto (tgt := 300) hx hb dX6_perform_248 (by decide) ?_
                  obtain ⟨x133, ex133⟩ : ∃ z : Int32, z = y5 + 1 := ⟨_, rfl⟩
                  refine lv_iinc (v := x133) (lv' := [(5, .int x133), (4, .int x132), (8, .int x49), (7, .int x47), (6, .int x45), (0, .ref (b + 52)), (1, .ref (b + k)), (2, .ref (b + 41)), (3, .ref (b + 1))]) hx hb dX6_perform_300 hl (k := 8) rfl (by rw [ex133]; rfl) (by decide) rfl (fun ls hl => ?_)
                  have tx133 : x133.toInt = y5.toInt + 1 := m_addI ex133 (rfl : y5.toInt = _) (by decide : (1 : Int32).toInt = 1) (by omega) (by omega)
                  refine lv_goto (tgt := 21) hx hb dX6_perform_303 (by decide) ?_
                  exact ih x132 x133 (by omega) (by omega) μ129 hI _ _ hW ls (lv_sub hl [5, 6, 7, 8, 1, 0] rfl)
                · have i131 := m_c4 (rfl : x130.toInt = _) (by decide : (0 : Int32).toInt = 0) c131
                  refine lv_iload hx hb dX6_perform_237 (lv_at hl 0 rfl) ?_
                  refine lv_goto (tgt := 246) hx hb dX6_perform_239 (by decide) ?_
                  refine lv_istore (lv' := [(4, .int x49), (8, .int x49), (7, .int x47), (6, .int x45), (0, .ref (b + 52)), (1, .ref (b + k)), (2, .ref (b + 41)), (3, .ref (b + 1)), (5, .int y5)]) hx hb dX6_perform_246 hl (by decide) rfl (fun ls hl => ?_)
                  refine lv_goto (tgt := 300) hx hb dX6_perform_248 (by decide) ?_
                  obtain ⟨x134, ex134⟩ : ∃ z : Int32, z = y5 + 1 := ⟨_, rfl⟩
                  refine lv_iinc (v := x134) (lv' := [(5, .int x134), (4, .int x49), (8, .int x49), (7, .int x47), (6, .int x45), (0, .ref (b + 52)), (1, .ref (b + k)), (2, .ref (b + 41)), (3, .ref (b + 1))]) hx hb dX6_perform_300 hl (k := 8) rfl (by rw [ex134]; rfl) (by decide) rfl (fun ls hl => ?_)
                  have tx134 : x134.toInt = y5.toInt + 1 := m_addI ex134 (rfl : y5.toInt = _) (by decide : (1 : Int32).toInt = 1) (by omega) (by omega)
                  refine lv_goto (tgt := 21) hx hb dX6_perform_303 (by decide) ?_
                  exact ih x49 x134 (by omega) (by omega) μ129 hI _ _ hW ls (lv_sub hl [5, 6, 7, 8, 1, 0] rfl)
set_option maxHeartbeats 4000000 in
set_option maxRecDepth 100000 in
theorem g_X6_perform_52 (l : Launch) (D : va_G) (cy : Nat → ClassId) (b : Nat) (S : Nat → Bool) (μ0 : mM) (hS6 : S 6 = true) (hS7 : S 7 = true) (k k1 n : Nat) (hk : LAY[k]? = some (.inl (5, [k1 + 3, 0]))) (hk1 : LAY[k1]? = some (.inr (0, n, []))) (hn : n < 2 ^ 30) (hb1 : bX k 1 = some (0, (n : Int))) (hb0 : ∀ j, bX k1 j = none) (μ : mM) (hI : IY S μ0 μ) : m_Ci l yX6_perform cX6_perform 9 ((some .int)) 5 D cy b LAY μ [.ref (b + 52), .ref (b + k), .ref (b + 41), .ref (b + 1)] (fun r ν => IY S μ0 ν ∧ (True)) := by
  unfold m_Ci
  refine m_of (by decide) (Nat.le_of_ble_eq_true rfl) ?_
  intro p e s m below meth c hx hb hr hml hown hts hlocks _ hW ls hl
  have hown : s.vm.findClass RX6 = some m.cls := hown
  have hl : lv_has ls 9 [(0, .ref (b + 52)), (1, .ref (b + k)), (2, .ref (b + 41)), (3, .ref (b + 1))] := hl
  refine lv_aload_n hx hb dX6_perform_0 rfl (lv_at hl 0 rfl) ?_
  refine lv_sipush (v := 1000) hx hb dX6_perform_1 (by decide) ?_
  refine m_puti hx hb hts hown hW (52) 1 rfl rfl cw_6 tyX6_ok nmX6 rfl (by decide) k_X6_15 rfl rfl rfl dX6_perform_4 (fun H locs hW _ => ?_)
  generalize hμ1 : m_si μ (52) 1 1000 = μ1 at hW
  have hI := hI.si0 hμ1 rfl hS7
  refine lv_aload_n hx hb dX6_perform_7 rfl (lv_at hl 0 rfl) ?_
  refine lv_aload_n hx hb dX6_perform_8 rfl (lv_at hl 2 rfl) ?_
  refine m_geti hx hb hts hown hW (41) 5 rfl rfl cw_3 rfl (by decide) k_X6_22 dX6_perform_9 ?_
  refine lv_topi (fun x2 ex2 => ?_)
  refine m_puti hx hb hts hown hW (52) 2 rfl rfl cw_6 tyX6_ok nmX6 rfl (by decide) k_X6_19 rfl rfl rfl dX6_perform_12 (fun H locs hW _ => ?_)
  generalize hμ3 : m_si μ1 (52) 2 x2 = μ3 at hW
  have hI := hI.si0 hμ3 rfl hS7
  refine lv_iconst (v := 0) hx hb dX6_perform_15 (by decide) ?_
  refine lv_istore (lv' := [(4, .int 0), (0, .ref (b + 52)), (1, .ref (b + k)), (2, .ref (b + 41)), (3, .ref (b + 1))]) hx hb dX6_perform_16 hl (by decide) rfl (fun ls hl => ?_)
  refine lv_iconst (v := 0) hx hb dX6_perform_18 (by decide) ?_
  refine lv_istore (lv' := [(5, .int 0), (4, .int 0), (0, .ref (b + 52)), (1, .ref (b + k)), (2, .ref (b + 41)), (3, .ref (b + 1))]) hx hb dX6_perform_19 hl (by decide) rfl (fun ls hl => ?_)
  have l_0 : (0 : Int32).toInt = 0 := by decide
  exact L_X6_perform_52_21 hx hb hr hml hown hts hlocks S μ0 hS6 hS7 k k1 n hk hk1 hn hb1 hb0  200001 0 0 (by omega) (by omega) μ3 hI _ _ hW ls (lv_sub hl [2, 3, 4, 5, 1, 0] rfl)
set_option maxHeartbeats 4000000 in
set_option maxRecDepth 100000 in
theorem g_X6_turns_55 (l : Launch) (D : va_G) (cy : Nat → ClassId) (b : Nat) (k : Int32) (μ : mM) (hI : IX μ) : m_Ci l yX6_turns cX6_turns 2 ((some .int)) 1 D cy b LAY μ [.ref (b + 55), .int k] (fun r ν => μ = ν ∧ (True)) := by
  unfold m_Ci
  refine m_of (by decide) (Nat.le_of_ble_eq_true rfl) ?_
  intro p e s m below meth c hx hb hr hml hown hts hlocks _ hW ls hl
  have hown : s.vm.findClass RX6 = some m.cls := hown
  have hl : lv_has ls 2 [(0, .ref (b + 55)), (1, .int k)] := hl
  refine lv_iload_n hx hb dX6_turns_0 rfl (lv_at hl 1 rfl) ?_
  refine lv_iconst (v := 0) hx hb dX6_turns_1 (by decide) ?_
  refine lv_iconst (v := 4) hx hb dX6_turns_2 (by decide) ?_
  have l_0 : (0 : Int32).toInt = 0 := by decide
  have l_4 : (4 : Int32).toInt = 4 := by decide
  refine m_aI hW (m_runSN (As := [.int k, .int 0, .int 4]) (rest := []) hx hb hml hown hts hW (g_X11_within l D cy b k 0 4 μ hI) ms_X11_within n_X6_82 rfl hl.1 rfl (Nat.le_of_ble_eq_true rfl) dX6_turns_3 ⟨Nat.le_of_ble_eq_true rfl, Nat.le_of_ble_eq_true rfl⟩ ⟨Nat.le_of_ble_eq_true rfl, Nat.le_of_ble_eq_true rfl⟩) (fun x1 μ1 H locs q1 hW => ?_)
  obtain ⟨q1_m, q1⟩ := q1
  subst q1_m
  rcases q1 with ⟨rfl, q1⟩ | ⟨rfl, q1⟩
  · refine lv_if_eq (tgt := 18) hx hb dX6_turns_6 (by decide) (fun c => False.elim (by revert c; decide)) (fun _ => ?_)
    refine lv_aload_n hx hb dX6_turns_9 rfl (lv_at hl 0 rfl) ?_
    refine m_getr hx hb hts hown hW (55) 0 (56) rfl rfl cw_6 rfl (by decide) k_X6_11 dX6_turns_10 ?_
    refine lv_iload_n hx hb dX6_turns_13 rfl (lv_at hl 1 rfl) ?_
    refine m_iald hx hb hW (56) rfl (m_ixI (rfl : k.toInt = _) (by omega) (by omega)) dX6_turns_14 ?_
    refine lv_topi (fun x2 ex2 => ?_)
    refine lv_goto (tgt := 19) hx hb dX6_turns_15 (by decide) ?_
    exact m_iret hx hb hr hlocks hW rfl (⟨rfl, trivial⟩) dX6_turns_19
  · refine lv_if_eq (tgt := 18) hx hb dX6_turns_6 (by decide) (fun _ => ?_) (fun c => False.elim (by revert c; decide))
    refine lv_iconst (v := 0) hx hb dX6_turns_18 (by decide) ?_
    exact m_iret hx hb hr hlocks hW rfl (⟨rfl, trivial⟩) dX6_turns_19
set_option maxHeartbeats 4000000 in
set_option maxRecDepth 100000 in
theorem g_X6_setTurns_55 (l : Launch) (D : va_G) (cy : Nat → ClassId) (b : Nat) (S : Nat → Bool) (μ0 : mM) (hS8 : S 8 = true) (k u : Int32) (μ : mM) (hI : IY S μ0 μ) : m_Cv l yX6_setTurns cX6_setTurns 3 (none) 1 D cy b LAY μ [.ref (b + 55), .int k, .int u] (fun ν => IY S μ0 ν ∧ (True)) := by
  unfold m_Cv
  refine m_of (by decide) (Nat.le_of_ble_eq_true rfl) ?_
  intro p e s m below meth c hx hb hr hml hown hts hlocks _ hW ls hl
  have hown : s.vm.findClass RX6 = some m.cls := hown
  have hl : lv_has ls 3 [(0, .ref (b + 55)), (1, .int k), (2, .int u)] := hl
  refine lv_iload_n hx hb dX6_setTurns_0 rfl (lv_at hl 1 rfl) ?_
  refine lv_iconst (v := 0) hx hb dX6_setTurns_1 (by decide) ?_
  refine lv_iconst (v := 4) hx hb dX6_setTurns_2 (by decide) ?_
  have l_0 : (0 : Int32).toInt = 0 := by decide
  have l_4 : (4 : Int32).toInt = 4 := by decide
  refine m_aI hW (m_runSN (As := [.int k, .int 0, .int 4]) (rest := []) hx hb hml hown hts hW (g_X11_within l D cy b k 0 4 μ hI.1) ms_X11_within n_X6_82 rfl hl.1 rfl (Nat.le_of_ble_eq_true rfl) dX6_setTurns_3 ⟨Nat.le_of_ble_eq_true rfl, Nat.le_of_ble_eq_true rfl⟩ ⟨Nat.le_of_ble_eq_true rfl, Nat.le_of_ble_eq_true rfl⟩) (fun x1 μ1 H locs q1 hW => ?_)
  obtain ⟨q1_m, q1⟩ := q1
  subst q1_m
  rcases q1 with ⟨rfl, q1⟩ | ⟨rfl, q1⟩
  · refine lv_if_eq (tgt := 16) hx hb dX6_setTurns_6 (by decide) (fun c => False.elim (by revert c; decide)) (fun _ => ?_)
    refine lv_aload_n hx hb dX6_setTurns_9 rfl (lv_at hl 0 rfl) ?_
    refine m_getr hx hb hts hown hW (55) 0 (56) rfl rfl cw_6 rfl (by decide) k_X6_11 dX6_setTurns_10 ?_
    refine lv_iload_n hx hb dX6_setTurns_13 rfl (lv_at hl 1 rfl) ?_
    refine lv_iload_n hx hb dX6_setTurns_14 rfl (lv_at hl 2 rfl) ?_
    refine m_iast hx hb hW (56) rfl (m_ixI (rfl : k.toInt = _) (by omega) (by omega)) dX6_setTurns_15 (fun H locs hW _ => ?_)
    generalize hμ2 : m_si μ (56) (k : Int32).toNatClampNeg u = μ2 at hW
    have hI := hI.si0 hμ2 rfl hS8
    exact m_vret hx hb hr hlocks hW (⟨hI, trivial⟩) dX6_setTurns_16
  · refine lv_if_eq (tgt := 16) hx hb dX6_setTurns_6 (by decide) (fun _ => ?_) (fun c => False.elim (by revert c; decide))
    exact m_vret hx hb hr hlocks hW (⟨hI, trivial⟩) dX6_setTurns_16
set_option maxHeartbeats 4000000 in
set_option maxRecDepth 100000 in
theorem L_X6_stay_55_3 {p : Program} {l : Launch} {e : Env} {s : State} {m : MethodId} {args : Array Value} {below : List Frame} {meth : Method} {c : Code} {D : va_G} {cy : Nat → ClassId} {b : Nat} (hx : p.tables.exec = Jvm.exec) (hb : c.code = cX6_stay) (hr : meth.sig.returnType = (none)) (hml : c.maxLocals = 5) (hown : s.vm.findClass RX6 = some m.cls) (hts : ∀ w ∈ TB, w.before args s = true) (hlocks : meth.locks = false) (S : Nat → Bool) (μ0 : mM) (hS8 : S 8 = true) (v : Int32) : ∀ (f : Nat), ∀ (y4 : Int32) (hy : 0 ≤ y4.toInt ∧ y4.toInt ≤ 2147483647) (hf : 2147483647 - y4.toInt < (f : Int)) (μ : mM) (hI : IY S μ0 μ) (H : Heap) (locs : List Loc), m_WA (m_A b LAY) D cy s b LAY μ H locs → ∀ ls : Array Slot, lv_has ls 5 [(0, .ref (b + 55)), (1, .ref (b + 59)), (2, .ref (b + 1)), (3, .int v), (4, .int y4)] → W p l e (m_R 4 0 0) s m args below meth c H locs 0 0 (MQ below (m_Qv D cy b LAY (fun ν => IY S μ0 ν ∧ (True))) args s 0 0 (m_A b LAY)) (F0 m 3 ls []) := by
  intro f
  induction f with
  | zero => intro y4 hy hf; exfalso; omega
  | succ f ih =>
    intro y4 hy hf μ hI H locs hW ls hl
    refine lv_iload hx hb dX6_stay_3 (lv_at hl 4 rfl) ?_
    refine lv_iload_n hx hb dX6_stay_5 rfl (lv_at hl 3 rfl) ?_
    refine lv_icmp_ge (tgt := 37) hx hb dX6_stay_6 (by decide) (fun c1 => ?_) (fun c1 => ?_)
    · have i1 := m_c3 (rfl : v.toInt = _) (rfl : y4.toInt = _) c1
      exact m_vret hx hb hr hlocks hW (⟨hI, trivial⟩) dX6_stay_37
    · have i1 := m_c4 (rfl : v.toInt = _) (rfl : y4.toInt = _) c1; have r_v := m_rng v
      refine lv_aload_n hx hb dX6_stay_9 rfl (lv_at hl 0 rfl) ?_
      refine m_geti hx hb hts hown hW (55) 1 rfl rfl cw_6 rfl (by decide) k_X6_15 dX6_stay_10 ?_
      refine lv_topi (fun x2 ex2 => ?_)
      refine lv_if_le (tgt := 37) hx hb dX6_stay_13 (by decide) (fun c3 => ?_) (fun c3 => ?_)
      · have i3 := m_c3 (rfl : x2.toInt = _) (by decide : (0 : Int32).toInt = 0) c3
        exact m_vret hx hb hr hlocks hW (⟨hI, trivial⟩) dX6_stay_37
      · have i3 := m_c4 (rfl : x2.toInt = _) (by decide : (0 : Int32).toInt = 0) c3
        refine lv_aload_n hx hb dX6_stay_16 rfl (lv_at hl 0 rfl) ?_
        refine lv_dup hx hb dX6_stay_17 rfl ?_
        refine m_geti hx hb hts hown hW (55) 1 rfl rfl cw_6 rfl (by decide) k_X6_15 dX6_stay_18 ?_
        refine lv_topi (fun x4 ex4 => ?_)
        have ex4 : x4 = x2 := by rw [ex4]; exact ex2.symm
        have ex4 := ex4.symm
        subst ex4
        refine lv_iconst (v := 1) hx hb dX6_stay_21 (by decide) ?_
        refine lv_isub hx hb dX6_stay_22 ?_
        refine lv_topi (fun x5 ex5 => ?_)
        have r_x2 := m_rng x2
        have tx5 : x5.toInt = x2.toInt - 1 := m_subI ex5 (rfl : x2.toInt = _) (by decide : (1 : Int32).toInt = 1) (by omega) (by omega)
        refine m_puti hx hb hts hown hW (55) 1 rfl rfl cw_6 tyX6_ok nmX6 rfl (by decide) k_X6_15 rfl rfl rfl dX6_stay_23 (fun H locs hW _ => ?_)
        generalize hμ6 : m_si μ (55) 1 x5 = μ6 at hW
        have hI := hI.si0 hμ6 rfl hS8
        refine lv_aload_n hx hb dX6_stay_26 rfl (lv_at hl 1 rfl) ?_
        refine lv_aload_n hx hb dX6_stay_27 rfl (lv_at hl 2 rfl) ?_
        refine m_aV hW (m_runV (As := [.ref (b + 1)]) (rest := []) hx hb hml hown hts hW (59) (g_X3_tick_59 l D cy b S μ0 hS8 μ6 hI) mi_X3_tick k_X6_100 rfl rfl rfl hl.1 rfl (Nat.le_of_ble_eq_true rfl) dX6_stay_28 ⟨Nat.le_of_ble_eq_true rfl, Nat.le_of_ble_eq_true rfl⟩ ⟨Nat.le_of_ble_eq_true rfl, Nat.le_of_ble_eq_true rfl⟩) (fun μ7 H locs q7 hW => ?_)
        obtain ⟨hI, q7⟩ := q7
        obtain ⟨x8, ex8⟩ : ∃ z : Int32, z = y4 + 1 := ⟨_, rfl⟩
        refine lv_iinc (v := x8) (lv' := [(4, .int x8), (0, .ref (b + 55)), (1, .ref (b + 59)), (2, .ref (b + 1)), (3, .int v)]) hx hb dX6_stay_31 hl (k := 4) rfl (by rw [ex8]; rfl) (by decide) rfl (fun ls hl => ?_)
        have tx8 : x8.toInt = y4.toInt + 1 := m_addI ex8 (rfl : y4.toInt = _) (by decide : (1 : Int32).toInt = 1) (by omega) (by omega)
        refine lv_goto (tgt := 3) hx hb dX6_stay_34 (by decide) ?_
        exact ih x8 (by omega) (by omega) μ7 hI _ _ hW ls (lv_sub hl [1, 2, 3, 4, 0] rfl)
set_option maxHeartbeats 4000000 in
set_option maxRecDepth 100000 in
theorem g_X6_stay_55 (l : Launch) (D : va_G) (cy : Nat → ClassId) (b : Nat) (S : Nat → Bool) (μ0 : mM) (hS8 : S 8 = true) (v : Int32) (μ : mM) (hI : IY S μ0 μ) : m_Cv l yX6_stay cX6_stay 5 (none) 4 D cy b LAY μ [.ref (b + 55), .ref (b + 59), .ref (b + 1), .int v] (fun ν => IY S μ0 ν ∧ (True)) := by
  unfold m_Cv
  refine m_of (by decide) (Nat.le_of_ble_eq_true rfl) ?_
  intro p e s m below meth c hx hb hr hml hown hts hlocks _ hW ls hl
  have hown : s.vm.findClass RX6 = some m.cls := hown
  have hl : lv_has ls 5 [(0, .ref (b + 55)), (1, .ref (b + 59)), (2, .ref (b + 1)), (3, .int v)] := hl
  refine lv_iconst (v := 0) hx hb dX6_stay_0 (by decide) ?_
  refine lv_istore (lv' := [(4, .int 0), (0, .ref (b + 55)), (1, .ref (b + 59)), (2, .ref (b + 1)), (3, .int v)]) hx hb dX6_stay_1 hl (by decide) rfl (fun ls hl => ?_)
  have l_0 : (0 : Int32).toInt = 0 := by decide
  exact L_X6_stay_55_3 hx hb hr hml hown hts hlocks S μ0 hS8 v  2147483648 0 (by omega) (by omega) μ hI _ _ hW ls (lv_sub hl [1, 2, 3, 4, 0] rfl)
set_option maxHeartbeats 4000000 in
set_option maxRecDepth 100000 in
theorem L_X6_travel_55_58 {p : Program} {l : Launch} {e : Env} {s : State} {m : MethodId} {args : Array Value} {below : List Frame} {meth : Method} {c : Code} {D : va_G} {cy : Nat → ClassId} {b : Nat} (hx : p.tables.exec = Jvm.exec) (hb : c.code = cX6_travel) (hr : meth.sig.returnType = (none)) (hml : c.maxLocals = 8) (hown : s.vm.findClass RX6 = some m.cls) (hts : ∀ w ∈ TB, w.before args s = true) (hlocks : meth.locks = false) (S : Nat → Bool) (μ0 : mM) (hS8 : S 8 = true) (u v : Int32) (F6 : Nat) (O6 : ∀ (y5 y6 : Int32) (hy : 0 ≤ y5.toInt ∧ y5.toInt ≤ 1 ∧ 0 ≤ y6.toInt ∧ y6.toInt ≤ 2147483647) (hf : 2147483647 - y6.toInt < (F6 : Int)) (μ : mM) (hI : IY S μ0 μ) (H : Heap) (locs : List Loc), m_WA (m_A b LAY) D cy s b LAY μ H locs → ∀ ls : Array Slot, lv_has ls 8 [(0, .ref (b + 55)), (1, .ref (b + 59)), (2, .ref (b + 1)), (3, .int u), (4, .int v), (5, .int y5), (6, .int y6)] → W p l e (m_R 4 0 0) s m args below meth c H locs 0 0 (MQ below (m_Qv D cy b LAY (fun ν => IY S μ0 ν ∧ (True))) args s 0 0 (m_A b LAY)) (F0 m 6 ls [])) : ∀ (f : Nat), ∀ (y5 y6 y7 : Int32) (hy : 2147483647 - y6.toInt < (F6 : Int) + 1 ∧ 0 ≤ y5.toInt ∧ y5.toInt ≤ 1 ∧ 0 ≤ y6.toInt ∧ y6.toInt ≤ 2147483646 ∧ 0 ≤ y7.toInt ∧ y7.toInt ≤ 2147483647 ∧ 0 ≤ y5.toInt ∧ y5.toInt ≤ 1 ∧ 0 ≤ y6.toInt ∧ y6.toInt ≤ 2147483647) (hf : 2147483647 - y7.toInt < (f : Int)) (μ : mM) (hI : IY S μ0 μ) (H : Heap) (locs : List Loc), m_WA (m_A b LAY) D cy s b LAY μ H locs → ∀ ls : Array Slot, lv_has ls 8 [(0, .ref (b + 55)), (1, .ref (b + 59)), (2, .ref (b + 1)), (3, .int u), (4, .int v), (5, .int y5), (6, .int y6), (7, .int y7)] → W p l e (m_R 4 0 0) s m args below meth c H locs 0 0 (MQ below (m_Qv D cy b LAY (fun ν => IY S μ0 ν ∧ (True))) args s 0 0 (m_A b LAY)) (F0 m 58 ls []) := by
  intro f
  induction f with
  | zero => intro y5 y6 y7 hy hf; exfalso; omega
  | succ f ih =>
    intro y5 y6 y7 hy hf μ hI H locs hW ls hl
    refine lv_iload hx hb dX6_travel_58 (lv_at hl 7 rfl) ?_
    refine lv_aload_n hx hb dX6_travel_60 rfl (lv_at hl 1 rfl) ?_
    refine m_getr hx hb hts hown hW (59) 10 (60) rfl rfl cw_3 rfl (by decide) k_X6_51 dX6_travel_61 ?_
    refine m_geti hx hb hts hown hW (60) 3 rfl rfl cw_1 rfl (by decide) k_X6_55 dX6_travel_64 ?_
    refine lv_topi (fun x1 ex1 => ?_)
    refine lv_icmp_ge (tgt := 103) hx hb dX6_travel_67 (by decide) (fun c2 => ?_) (fun c2 => ?_)
    · have i2 := m_c3 (rfl : x1.toInt = _) (rfl : y7.toInt = _) c2
      obtain ⟨x3, ex3⟩ : ∃ z : Int32, z = y6 + 1 := ⟨_, rfl⟩
      refine lv_iinc (v := x3) (lv' := [(6, .int x3), (0, .ref (b + 55)), (1, .ref (b + 59)), (2, .ref (b + 1)), (3, .int u), (4, .int v), (5, .int y5), (7, .int y7)]) hx hb dX6_travel_103 hl (k := 6) rfl (by rw [ex3]; rfl) (by decide) rfl (fun ls hl => ?_)
      have tx3 : x3.toInt = y6.toInt + 1 := m_addI ex3 (rfl : y6.toInt = _) (by decide : (1 : Int32).toInt = 1) (by omega) (by omega)
      refine lv_goto (tgt := 6) hx hb dX6_travel_106 (by decide) ?_
      exact O6 y5 x3 (by omega) (by omega) μ hI _ _ hW ls (lv_sub hl [1, 2, 3, 4, 5, 6, 0] rfl)
    · have i2 := m_c4 (rfl : x1.toInt = _) (rfl : y7.toInt = _) c2; have r_x1 := m_rng x1
      refine lv_aload_n hx hb dX6_travel_70 rfl (lv_at hl 0 rfl) ?_
      refine m_geti hx hb hts hown hW (55) 1 rfl rfl cw_6 rfl (by decide) k_X6_15 dX6_travel_71 ?_
      refine lv_topi (fun x4 ex4 => ?_)
      refine lv_if_le (tgt := 103) hx hb dX6_travel_74 (by decide) (fun c5 => ?_) (fun c5 => ?_)
      · have i5 := m_c3 (rfl : x4.toInt = _) (by decide : (0 : Int32).toInt = 0) c5
        obtain ⟨x6, ex6⟩ : ∃ z : Int32, z = y6 + 1 := ⟨_, rfl⟩
        refine lv_iinc (v := x6) (lv' := [(6, .int x6), (0, .ref (b + 55)), (1, .ref (b + 59)), (2, .ref (b + 1)), (3, .int u), (4, .int v), (5, .int y5), (7, .int y7)]) hx hb dX6_travel_103 hl (k := 6) rfl (by rw [ex6]; rfl) (by decide) rfl (fun ls hl => ?_)
        have tx6 : x6.toInt = y6.toInt + 1 := m_addI ex6 (rfl : y6.toInt = _) (by decide : (1 : Int32).toInt = 1) (by omega) (by omega)
        refine lv_goto (tgt := 6) hx hb dX6_travel_106 (by decide) ?_
        exact O6 y5 x6 (by omega) (by omega) μ hI _ _ hW ls (lv_sub hl [1, 2, 3, 4, 5, 6, 0] rfl)
      · have i5 := m_c4 (rfl : x4.toInt = _) (by decide : (0 : Int32).toInt = 0) c5
        refine lv_iload hx hb dX6_travel_77 (lv_at hl 5 rfl) ?_
        refine lv_if_eq (tgt := 103) hx hb dX6_travel_79 (by decide) (fun c7 => ?_) (fun c7 => ?_)
        · have i7 := m_c5 (rfl : y5.toInt = _) (by decide : (0 : Int32).toInt = 0) c7
          obtain ⟨x8, ex8⟩ : ∃ z : Int32, z = y6 + 1 := ⟨_, rfl⟩
          refine lv_iinc (v := x8) (lv' := [(6, .int x8), (0, .ref (b + 55)), (1, .ref (b + 59)), (2, .ref (b + 1)), (3, .int u), (4, .int v), (5, .int y5), (7, .int y7)]) hx hb dX6_travel_103 hl (k := 6) rfl (by rw [ex8]; rfl) (by decide) rfl (fun ls hl => ?_)
          have tx8 : x8.toInt = y6.toInt + 1 := m_addI ex8 (rfl : y6.toInt = _) (by decide : (1 : Int32).toInt = 1) (by omega) (by omega)
          refine lv_goto (tgt := 6) hx hb dX6_travel_106 (by decide) ?_
          exact O6 y5 x8 (by omega) (by omega) μ hI _ _ hW ls (lv_sub hl [1, 2, 3, 4, 5, 6, 0] rfl)
        · have i7 := m_c6 (rfl : y5.toInt = _) (by decide : (0 : Int32).toInt = 0) c7
          refine lv_aload_n hx hb dX6_travel_82 rfl (lv_at hl 0 rfl) ?_
          refine lv_dup hx hb dX6_travel_83 rfl ?_
          refine m_geti hx hb hts hown hW (55) 1 rfl rfl cw_6 rfl (by decide) k_X6_15 dX6_travel_84 ?_
          refine lv_topi (fun x9 ex9 => ?_)
          have ex9 : x9 = x4 := by rw [ex9]; exact ex4.symm
          have ex9 := ex9.symm
          subst ex9
          refine lv_iconst (v := 1) hx hb dX6_travel_87 (by decide) ?_
          refine lv_isub hx hb dX6_travel_88 ?_
          refine lv_topi (fun x10 ex10 => ?_)
          have r_x4 := m_rng x4
          have tx10 : x10.toInt = x4.toInt - 1 := m_subI ex10 (rfl : x4.toInt = _) (by decide : (1 : Int32).toInt = 1) (by omega) (by omega)
          refine m_puti hx hb hts hown hW (55) 1 rfl rfl cw_6 tyX6_ok nmX6 rfl (by decide) k_X6_15 rfl rfl rfl dX6_travel_89 (fun H locs hW _ => ?_)
          generalize hμ11 : m_si μ (55) 1 x10 = μ11 at hW
          have hI := hI.si0 hμ11 rfl hS8
          refine lv_aload_n hx hb dX6_travel_92 rfl (lv_at hl 1 rfl) ?_
          refine lv_aload_n hx hb dX6_travel_93 rfl (lv_at hl 2 rfl) ?_
          refine m_aV hW (m_runV (As := [.ref (b + 1)]) (rest := []) hx hb hml hown hts hW (59) (g_X3_tick_59 l D cy b S μ0 hS8 μ11 hI) mi_X3_tick k_X6_100 rfl rfl rfl hl.1 rfl (Nat.le_of_ble_eq_true rfl) dX6_travel_94 ⟨Nat.le_of_ble_eq_true rfl, Nat.le_of_ble_eq_true rfl⟩ ⟨Nat.le_of_ble_eq_true rfl, Nat.le_of_ble_eq_true rfl⟩) (fun μ12 H locs q12 hW => ?_)
          obtain ⟨hI, q12⟩ := q12
          obtain ⟨x13, ex13⟩ : ∃ z : Int32, z = y7 + 1 := ⟨_, rfl⟩
          refine lv_iinc (v := x13) (lv' := [(7, .int x13), (0, .ref (b + 55)), (1, .ref (b + 59)), (2, .ref (b + 1)), (3, .int u), (4, .int v), (5, .int y5), (6, .int y6)]) hx hb dX6_travel_97 hl (k := 7) rfl (by rw [ex13]; rfl) (by decide) rfl (fun ls hl => ?_)
          have tx13 : x13.toInt = y7.toInt + 1 := m_addI ex13 (rfl : y7.toInt = _) (by decide : (1 : Int32).toInt = 1) (by omega) (by omega)
          refine lv_goto (tgt := 58) hx hb dX6_travel_100 (by decide) ?_
          exact ih y5 y6 x13 (by omega) (by omega) μ12 hI _ _ hW ls (lv_sub hl [1, 2, 3, 4, 5, 6, 7, 0] rfl)
set_option maxHeartbeats 4000000 in
set_option maxRecDepth 100000 in
theorem L_X6_travel_55_6 {p : Program} {l : Launch} {e : Env} {s : State} {m : MethodId} {args : Array Value} {below : List Frame} {meth : Method} {c : Code} {D : va_G} {cy : Nat → ClassId} {b : Nat} (hx : p.tables.exec = Jvm.exec) (hb : c.code = cX6_travel) (hr : meth.sig.returnType = (none)) (hml : c.maxLocals = 8) (hown : s.vm.findClass RX6 = some m.cls) (hts : ∀ w ∈ TB, w.before args s = true) (hlocks : meth.locks = false) (S : Nat → Bool) (μ0 : mM) (hS8 : S 8 = true) (u v : Int32) : ∀ (f : Nat), ∀ (y5 y6 : Int32) (hy : 0 ≤ y5.toInt ∧ y5.toInt ≤ 1 ∧ 0 ≤ y6.toInt ∧ y6.toInt ≤ 2147483647) (hf : 2147483647 - y6.toInt < (f : Int)) (μ : mM) (hI : IY S μ0 μ) (H : Heap) (locs : List Loc), m_WA (m_A b LAY) D cy s b LAY μ H locs → ∀ ls : Array Slot, lv_has ls 8 [(0, .ref (b + 55)), (1, .ref (b + 59)), (2, .ref (b + 1)), (3, .int u), (4, .int v), (5, .int y5), (6, .int y6)] → W p l e (m_R 4 0 0) s m args below meth c H locs 0 0 (MQ below (m_Qv D cy b LAY (fun ν => IY S μ0 ν ∧ (True))) args s 0 0 (m_A b LAY)) (F0 m 6 ls []) := by
  intro f
  induction f with
  | zero => intro y5 y6 hy hf; exfalso; omega
  | succ f ih =>
    intro y5 y6 hy hf μ hI H locs hW ls hl
    refine lv_iload hx hb dX6_travel_6 (lv_at hl 6 rfl) ?_
    refine lv_iload hx hb dX6_travel_8 (lv_at hl 4 rfl) ?_
    refine lv_icmp_ge (tgt := 109) hx hb dX6_travel_10 (by decide) (fun c1 => ?_) (fun c1 => ?_)
    · have i1 := m_c3 (rfl : v.toInt = _) (rfl : y6.toInt = _) c1
      exact m_vret hx hb hr hlocks hW (⟨hI, trivial⟩) dX6_travel_109
    · have i1 := m_c4 (rfl : v.toInt = _) (rfl : y6.toInt = _) c1; have r_v := m_rng v
      refine lv_aload_n hx hb dX6_travel_13 rfl (lv_at hl 0 rfl) ?_
      refine m_geti hx hb hts hown hW (55) 1 rfl rfl cw_6 rfl (by decide) k_X6_15 dX6_travel_14 ?_
      refine lv_topi (fun x2 ex2 => ?_)
      refine lv_if_le (tgt := 109) hx hb dX6_travel_17 (by decide) (fun c3 => ?_) (fun c3 => ?_)
      · have i3 := m_c3 (rfl : x2.toInt = _) (by decide : (0 : Int32).toInt = 0) c3
        exact m_vret hx hb hr hlocks hW (⟨hI, trivial⟩) dX6_travel_109
      · have i3 := m_c4 (rfl : x2.toInt = _) (by decide : (0 : Int32).toInt = 0) c3
        refine lv_iload hx hb dX6_travel_20 (lv_at hl 5 rfl) ?_
        refine lv_if_eq (tgt := 109) hx hb dX6_travel_22 (by decide) (fun c4 => ?_) (fun c4 => ?_)
        · have i4 := m_c5 (rfl : y5.toInt = _) (by decide : (0 : Int32).toInt = 0) c4
          exact m_vret hx hb hr hlocks hW (⟨hI, trivial⟩) dX6_travel_109
        · have i4 := m_c6 (rfl : y5.toInt = _) (by decide : (0 : Int32).toInt = 0) c4
          refine lv_aload_n hx hb dX6_travel_25 rfl (lv_at hl 1 rfl) ?_
          refine lv_aload_n hx hb dX6_travel_26 rfl (lv_at hl 1 rfl) ?_
          refine m_getr hx hb hts hown hW (59) 10 (60) rfl rfl cw_3 rfl (by decide) k_X6_51 dX6_travel_27 ?_
          refine m_geti hx hb hts hown hW (60) 0 rfl rfl cw_1 rfl (by decide) k_X6_88 dX6_travel_30 ?_
          refine lv_topi (fun x5 ex5 => ?_)
          refine lv_iload_n hx hb dX6_travel_33 rfl (lv_at hl 3 rfl) ?_
          refine m_aI hW (m_runSN (As := [.int u]) (rest := [.int x5, .ref (b + 59)]) hx hb hml hown hts hW (g_X11_stepX l D cy b u μ hI.1) ms_X11_stepX n_X6_91 rfl hl.1 rfl (Nat.le_of_ble_eq_true rfl) dX6_travel_34 ⟨Nat.le_of_ble_eq_true rfl, Nat.le_of_ble_eq_true rfl⟩ ⟨Nat.le_of_ble_eq_true rfl, Nat.le_of_ble_eq_true rfl⟩) (fun x6 μ6 H locs q6 hW => ?_)
          obtain ⟨q6_m, q6⟩ := q6
          subst q6_m
          refine lv_iadd hx hb dX6_travel_37 ?_
          refine lv_topi (fun x7 ex7 => ?_)
          refine lv_aload_n hx hb dX6_travel_38 rfl (lv_at hl 1 rfl) ?_
          refine m_getr hx hb hts hown hW (59) 10 (60) rfl rfl cw_3 rfl (by decide) k_X6_51 dX6_travel_39 ?_
          refine m_geti hx hb hts hown hW (60) 1 rfl rfl cw_1 rfl (by decide) k_X6_94 dX6_travel_42 ?_
          refine lv_topi (fun x8 ex8 => ?_)
          refine lv_iload_n hx hb dX6_travel_45 rfl (lv_at hl 3 rfl) ?_
          refine m_aI hW (m_runSN (As := [.int u]) (rest := [.int x8, .int x7, .ref (b + 59)]) hx hb hml hown hts hW (g_X11_stepY l D cy b u μ hI.1) ms_X11_stepY n_X6_97 rfl hl.1 rfl (Nat.le_of_ble_eq_true rfl) dX6_travel_46 ⟨Nat.le_of_ble_eq_true rfl, Nat.le_of_ble_eq_true rfl⟩ ⟨Nat.le_of_ble_eq_true rfl, Nat.le_of_ble_eq_true rfl⟩) (fun x9 μ9 H locs q9 hW => ?_)
          obtain ⟨q9_m, q9⟩ := q9
          subst q9_m
          refine lv_iadd hx hb dX6_travel_49 ?_
          refine lv_topi (fun x10 ex10 => ?_)
          refine m_aI hW (m_runV (As := [.int x7, .int x10]) (rest := []) hx hb hml hown hts hW (59) (g_X3_moveHead_59 l D cy b S μ0 hS8 x7 x10 μ hI) mi_X3_moveHead k_X6_39 rfl rfl rfl hl.1 rfl (Nat.le_of_ble_eq_true rfl) dX6_travel_50 ⟨Nat.le_of_ble_eq_true rfl, Nat.le_of_ble_eq_true rfl⟩ ⟨Nat.le_of_ble_eq_true rfl, Nat.le_of_ble_eq_true rfl⟩) (fun x11 μ11 H locs q11 hW => ?_)
          obtain ⟨hI, q11⟩ := q11
          rcases q11 with ⟨rfl, q11⟩ | ⟨rfl, q11⟩
          · refine lv_istore (lv' := [(5, .int 1), (0, .ref (b + 55)), (1, .ref (b + 59)), (2, .ref (b + 1)), (3, .int u), (4, .int v), (6, .int y6)]) hx hb dX6_travel_53 hl (by decide) rfl (fun ls hl => ?_)
            refine lv_iconst (v := 0) hx hb dX6_travel_55 (by decide) ?_
            refine lv_istore (lv' := [(7, .int 0), (5, .int 1), (0, .ref (b + 55)), (1, .ref (b + 59)), (2, .ref (b + 1)), (3, .int u), (4, .int v), (6, .int y6)]) hx hb dX6_travel_56 hl (by decide) rfl (fun ls hl => ?_)
            have l_1 : (1 : Int32).toInt = 1 := by decide
            have l_0 : (0 : Int32).toInt = 0 := by decide
            exact L_X6_travel_55_58 hx hb hr hml hown hts hlocks S μ0 hS8 u v f ih 2147483648 1 y6 0 (by omega) (by omega) μ11 hI _ _ hW ls (lv_sub hl [2, 3, 4, 5, 6, 1, 7, 0] rfl)
          · refine lv_istore (lv' := [(5, .int 0), (0, .ref (b + 55)), (1, .ref (b + 59)), (2, .ref (b + 1)), (3, .int u), (4, .int v), (6, .int y6)]) hx hb dX6_travel_53 hl (by decide) rfl (fun ls hl => ?_)
            refine lv_iconst (v := 0) hx hb dX6_travel_55 (by decide) ?_
            refine lv_istore (lv' := [(7, .int 0), (5, .int 0), (0, .ref (b + 55)), (1, .ref (b + 59)), (2, .ref (b + 1)), (3, .int u), (4, .int v), (6, .int y6)]) hx hb dX6_travel_56 hl (by decide) rfl (fun ls hl => ?_)
            have l_0 : (0 : Int32).toInt = 0 := by decide
            exact L_X6_travel_55_58 hx hb hr hml hown hts hlocks S μ0 hS8 u v f ih 2147483648 0 y6 0 (by omega) (by omega) μ11 hI _ _ hW ls (lv_sub hl [2, 3, 4, 5, 6, 1, 7, 0] rfl)
set_option maxHeartbeats 4000000 in
set_option maxRecDepth 100000 in
theorem g_X6_travel_55 (l : Launch) (D : va_G) (cy : Nat → ClassId) (b : Nat) (S : Nat → Bool) (μ0 : mM) (hS8 : S 8 = true) (u v : Int32) (μ : mM) (hI : IY S μ0 μ) : m_Cv l yX6_travel cX6_travel 8 (none) 4 D cy b LAY μ [.ref (b + 55), .ref (b + 59), .ref (b + 1), .int u, .int v] (fun ν => IY S μ0 ν ∧ (True)) := by
  unfold m_Cv
  refine m_of (by decide) (Nat.le_of_ble_eq_true rfl) ?_
  intro p e s m below meth c hx hb hr hml hown hts hlocks _ hW ls hl
  have hown : s.vm.findClass RX6 = some m.cls := hown
  have hl : lv_has ls 8 [(0, .ref (b + 55)), (1, .ref (b + 59)), (2, .ref (b + 1)), (3, .int u), (4, .int v)] := hl
  refine lv_iconst (v := 1) hx hb dX6_travel_0 (by decide) ?_
  refine lv_istore (lv' := [(5, .int 1), (0, .ref (b + 55)), (1, .ref (b + 59)), (2, .ref (b + 1)), (3, .int u), (4, .int v)]) hx hb dX6_travel_1 hl (by decide) rfl (fun ls hl => ?_)
  refine lv_iconst (v := 0) hx hb dX6_travel_3 (by decide) ?_
  refine lv_istore (lv' := [(6, .int 0), (5, .int 1), (0, .ref (b + 55)), (1, .ref (b + 59)), (2, .ref (b + 1)), (3, .int u), (4, .int v)]) hx hb dX6_travel_4 hl (by decide) rfl (fun ls hl => ?_)
  have l_1 : (1 : Int32).toInt = 1 := by decide
  have l_0 : (0 : Int32).toInt = 0 := by decide
  exact L_X6_travel_55_6 hx hb hr hml hown hts hlocks S μ0 hS8 u v  2147483648 1 0 (by omega) (by omega) μ hI _ _ hW ls (lv_sub hl [2, 3, 4, 5, 6, 1, 0] rfl)
set_option maxHeartbeats 4000000 in
set_option maxRecDepth 100000 in
theorem g_X6_valueOf_55 (l : Launch) (D : va_G) (cy : Nat → ClassId) (b : Nat) (k u : Int32) (μ : mM) (hI : IX μ) : m_Ci l yX6_valueOf cX6_valueOf 5 ((some .int)) 1 D cy b LAY μ [.ref (b + 55), .int k, .int u, .ref (b + 59)] (fun r ν => μ = ν ∧ (True)) := by
  unfold m_Ci
  refine m_of (by decide) (Nat.le_of_ble_eq_true rfl) ?_
  intro p e s m below meth c hx hb hr hml hown hts hlocks _ hW ls hl
  have hown : s.vm.findClass RX6 = some m.cls := hown
  have hl : lv_has ls 5 [(0, .ref (b + 55)), (1, .int k), (2, .int u), (3, .ref (b + 59))] := hl
  refine lv_aload_n hx hb dX6_valueOf_0 rfl (lv_at hl 3 rfl) ?_
  refine lv_aload_n hx hb dX6_valueOf_1 rfl (lv_at hl 3 rfl) ?_
  refine m_aI hW (m_runV (As := []) (rest := [.ref (b + 59)]) hx hb hml hown hts hW (59) (g_X3_headPlace_59 l D cy b μ hI) mi_X3_headPlace k_X6_117 rfl rfl rfl hl.1 rfl (Nat.le_of_ble_eq_true rfl) dX6_valueOf_2 ⟨Nat.le_of_ble_eq_true rfl, Nat.le_of_ble_eq_true rfl⟩ ⟨Nat.le_of_ble_eq_true rfl, Nat.le_of_ble_eq_true rfl⟩) (fun x1 μ1 H locs q1 hW => ?_)
  obtain ⟨q1_m, q1⟩ := q1
  subst q1_m
  refine m_aI hW (m_runV (As := [.int x1]) (rest := []) hx hb hml hown hts hW (59) (g_X3_isThere_59 l D cy b x1 μ hI) mi_X3_isThere k_X6_121 rfl rfl rfl hl.1 rfl (Nat.le_of_ble_eq_true rfl) dX6_valueOf_5 ⟨Nat.le_of_ble_eq_true rfl, Nat.le_of_ble_eq_true rfl⟩ ⟨Nat.le_of_ble_eq_true rfl, Nat.le_of_ble_eq_true rfl⟩) (fun x2 μ2 H locs q2 hW => ?_)
  obtain ⟨q2_m, q2⟩ := q2
  subst q2_m
  rcases q2 with ⟨rfl, q2⟩ | ⟨rfl, q2⟩
  · refine lv_istore (lv' := [(4, .int 1), (0, .ref (b + 55)), (1, .int k), (2, .int u), (3, .ref (b + 59))]) hx hb dX6_valueOf_8 hl (by decide) rfl (fun ls hl => ?_)
    refine lv_iload_n hx hb dX6_valueOf_10 rfl (lv_at hl 2 rfl) ?_
    by_cases c3 : k.toInt < 23 ∨ 27 < k.toInt
    · refine lv_tableOut (tgt := 100) hx hb dX6_valueOf_11 c3 (by decide) ?_
      refine lv_iload_n hx hb dX6_valueOf_100 rfl (lv_at hl 3 rfl) ?_
      exact m_iret hx hb hr hlocks hW rfl (⟨rfl, trivial⟩) dX6_valueOf_101
    · have q3 : k.toInt = 23 ∨ k.toInt = 24 ∨ k.toInt = 25 ∨ k.toInt = 26 ∨ k.toInt = 27 := by omega
      rcases q3 with q3 | q3 | q3 | q3 | q3
      · refine lv_tableIn (off := 33) (tgt := 44) hx hb dX6_valueOf_11 (fun z => c3 (Or.inl z)) (fun z => c3 (Or.inr z)) (by rw [q3]; rfl) (by decide) ?_
        refine lv_iload hx hb dX6_valueOf_44 (lv_at hl 0 rfl) ?_
        refine lv_if_eq (tgt := 61) hx hb dX6_valueOf_46 (by decide) (fun c => False.elim (by revert c; decide)) (fun _ => ?_)
        refine lv_aload_n hx hb dX6_valueOf_49 rfl (lv_at hl 4 rfl) ?_
        refine m_getr hx hb hts hown hW (59) 11 (61) rfl rfl cw_3 rfl (by decide) k_X6_125 dX6_valueOf_50 ?_
        refine lv_aload_n hx hb dX6_valueOf_53 rfl (lv_at hl 4 rfl) ?_
        refine m_aI hW (m_runV (As := []) (rest := [.ref (b + 61)]) hx hb hml hown hts hW (59) (g_X3_headPlace_59 l D cy b μ hI) mi_X3_headPlace k_X6_117 rfl rfl rfl hl.1 rfl (Nat.le_of_ble_eq_true rfl) dX6_valueOf_54 ⟨Nat.le_of_ble_eq_true rfl, Nat.le_of_ble_eq_true rfl⟩ ⟨Nat.le_of_ble_eq_true rfl, Nat.le_of_ble_eq_true rfl⟩) (fun x4 μ4 H locs q4 hW => ?_)
        obtain ⟨q4_m, q4⟩ := q4
        subst q4_m
        have hq4 := q1.trans q4.symm
        subst hq4
        refine m_iald hx hb hW (61) rfl (m_ixI (rfl : x1.toInt = _) (by omega) (by omega)) dX6_valueOf_57 ?_
        refine lv_topi (fun x5 ex5 => ?_)
        refine lv_goto (tgt := 62) hx hb dX6_valueOf_58 (by decide) ?_
        exact m_iret hx hb hr hlocks hW rfl (⟨rfl, trivial⟩) dX6_valueOf_62
      · refine lv_tableIn (off := 52) (tgt := 63) hx hb dX6_valueOf_11 (fun z => c3 (Or.inl z)) (fun z => c3 (Or.inr z)) (by rw [q3]; rfl) (by decide) ?_
        refine lv_aload_n hx hb dX6_valueOf_63 rfl (lv_at hl 4 rfl) ?_
        refine m_getr hx hb hts hown hW (59) 10 (60) rfl rfl cw_3 rfl (by decide) k_X6_51 dX6_valueOf_64 ?_
        refine m_geti hx hb hts hown hW (60) 0 rfl rfl cw_1 rfl (by decide) k_X6_88 dX6_valueOf_67 ?_
        refine lv_topi (fun x6 ex6 => ?_)
        exact m_iret hx hb hr hlocks hW rfl (⟨rfl, trivial⟩) dX6_valueOf_70
      · refine lv_tableIn (off := 60) (tgt := 71) hx hb dX6_valueOf_11 (fun z => c3 (Or.inl z)) (fun z => c3 (Or.inr z)) (by rw [q3]; rfl) (by decide) ?_
        refine lv_aload_n hx hb dX6_valueOf_71 rfl (lv_at hl 4 rfl) ?_
        refine m_getr hx hb hts hown hW (59) 10 (60) rfl rfl cw_3 rfl (by decide) k_X6_51 dX6_valueOf_72 ?_
        refine m_geti hx hb hts hown hW (60) 1 rfl rfl cw_1 rfl (by decide) k_X6_94 dX6_valueOf_75 ?_
        refine lv_topi (fun x7 ex7 => ?_)
        exact m_iret hx hb hr hlocks hW rfl (⟨rfl, trivial⟩) dX6_valueOf_78
      · refine lv_tableIn (off := 68) (tgt := 79) hx hb dX6_valueOf_11 (fun z => c3 (Or.inl z)) (fun z => c3 (Or.inr z)) (by rw [q3]; rfl) (by decide) ?_
        refine lv_aload_n hx hb dX6_valueOf_79 rfl (lv_at hl 4 rfl) ?_
        refine m_geti hx hb hts hown hW (59) 5 rfl rfl cw_3 rfl (by decide) k_X6_22 dX6_valueOf_80 ?_
        refine lv_topi (fun x8 ex8 => ?_)
        refine lv_aload_n hx hb dX6_valueOf_83 rfl (lv_at hl 1 rfl) ?_
        refine m_geti hx hb hts hown hW (55) 2 rfl rfl cw_6 rfl (by decide) k_X6_19 dX6_valueOf_84 ?_
        refine lv_topi (fun x9 ex9 => ?_)
        refine lv_isub hx hb dX6_valueOf_87 ?_
        refine lv_topi (fun x10 ex10 => ?_)
        exact m_iret hx hb hr hlocks hW rfl (⟨rfl, trivial⟩) dX6_valueOf_88
      · refine lv_tableIn (off := 78) (tgt := 89) hx hb dX6_valueOf_11 (fun z => c3 (Or.inl z)) (fun z => c3 (Or.inr z)) (by rw [q3]; rfl) (by decide) ?_
        refine lv_iload hx hb dX6_valueOf_89 (lv_at hl 0 rfl) ?_
        refine lv_if_eq (tgt := 98) hx hb dX6_valueOf_91 (by decide) (fun c => False.elim (by revert c; decide)) (fun _ => ?_)
        refine lv_iconst (v := 0) hx hb dX6_valueOf_94 (by decide) ?_
        refine lv_goto (tgt := 99) hx hb dX6_valueOf_95 (by decide) ?_
        exact m_iret hx hb hr hlocks hW rfl (⟨rfl, trivial⟩) dX6_valueOf_99
  · refine lv_istore (lv' := [(4, .int 0), (0, .ref (b + 55)), (1, .int k), (2, .int u), (3, .ref (b + 59))]) hx hb dX6_valueOf_8 hl (by decide) rfl (fun ls hl => ?_)
    refine lv_iload_n hx hb dX6_valueOf_10 rfl (lv_at hl 2 rfl) ?_
    by_cases c11 : k.toInt < 23 ∨ 27 < k.toInt
    · refine lv_tableOut (tgt := 100) hx hb dX6_valueOf_11 c11 (by decide) ?_
      refine lv_iload_n hx hb dX6_valueOf_100 rfl (lv_at hl 3 rfl) ?_
      exact m_iret hx hb hr hlocks hW rfl (⟨rfl, trivial⟩) dX6_valueOf_101
    · have q11 : k.toInt = 23 ∨ k.toInt = 24 ∨ k.toInt = 25 ∨ k.toInt = 26 ∨ k.toInt = 27 := by omega
      rcases q11 with q11 | q11 | q11 | q11 | q11
      · refine lv_tableIn (off := 33) (tgt := 44) hx hb dX6_valueOf_11 (fun z => c11 (Or.inl z)) (fun z => c11 (Or.inr z)) (by rw [q11]; rfl) (by decide) ?_
        refine lv_iload hx hb dX6_valueOf_44 (lv_at hl 0 rfl) ?_
        refine lv_if_eq (tgt := 61) hx hb dX6_valueOf_46 (by decide) (fun _ => ?_) (fun c => False.elim (by revert c; decide))
        refine lv_iconst (v := 0) hx hb dX6_valueOf_61 (by decide) ?_
        exact m_iret hx hb hr hlocks hW rfl (⟨rfl, trivial⟩) dX6_valueOf_62
      · refine lv_tableIn (off := 52) (tgt := 63) hx hb dX6_valueOf_11 (fun z => c11 (Or.inl z)) (fun z => c11 (Or.inr z)) (by rw [q11]; rfl) (by decide) ?_
        refine lv_aload_n hx hb dX6_valueOf_63 rfl (lv_at hl 4 rfl) ?_
        refine m_getr hx hb hts hown hW (59) 10 (60) rfl rfl cw_3 rfl (by decide) k_X6_51 dX6_valueOf_64 ?_
        refine m_geti hx hb hts hown hW (60) 0 rfl rfl cw_1 rfl (by decide) k_X6_88 dX6_valueOf_67 ?_
        refine lv_topi (fun x12 ex12 => ?_)
        exact m_iret hx hb hr hlocks hW rfl (⟨rfl, trivial⟩) dX6_valueOf_70
      · refine lv_tableIn (off := 60) (tgt := 71) hx hb dX6_valueOf_11 (fun z => c11 (Or.inl z)) (fun z => c11 (Or.inr z)) (by rw [q11]; rfl) (by decide) ?_
        refine lv_aload_n hx hb dX6_valueOf_71 rfl (lv_at hl 4 rfl) ?_
        refine m_getr hx hb hts hown hW (59) 10 (60) rfl rfl cw_3 rfl (by decide) k_X6_51 dX6_valueOf_72 ?_
        refine m_geti hx hb hts hown hW (60) 1 rfl rfl cw_1 rfl (by decide) k_X6_94 dX6_valueOf_75 ?_
        refine lv_topi (fun x13 ex13 => ?_)
        exact m_iret hx hb hr hlocks hW rfl (⟨rfl, trivial⟩) dX6_valueOf_78
      · refine lv_tableIn (off := 68) (tgt := 79) hx hb dX6_valueOf_11 (fun z => c11 (Or.inl z)) (fun z => c11 (Or.inr z)) (by rw [q11]; rfl) (by decide) ?_
        refine lv_aload_n hx hb dX6_valueOf_79 rfl (lv_at hl 4 rfl) ?_
        refine m_geti hx hb hts hown hW (59) 5 rfl rfl cw_3 rfl (by decide) k_X6_22 dX6_valueOf_80 ?_
        refine lv_topi (fun x14 ex14 => ?_)
        refine lv_aload_n hx hb dX6_valueOf_83 rfl (lv_at hl 1 rfl) ?_
        refine m_geti hx hb hts hown hW (55) 2 rfl rfl cw_6 rfl (by decide) k_X6_19 dX6_valueOf_84 ?_
        refine lv_topi (fun x15 ex15 => ?_)
        refine lv_isub hx hb dX6_valueOf_87 ?_
        refine lv_topi (fun x16 ex16 => ?_)
        exact m_iret hx hb hr hlocks hW rfl (⟨rfl, trivial⟩) dX6_valueOf_88
      · refine lv_tableIn (off := 78) (tgt := 89) hx hb dX6_valueOf_11 (fun z => c11 (Or.inl z)) (fun z => c11 (Or.inr z)) (by rw [q11]; rfl) (by decide) ?_
        refine lv_iload hx hb dX6_valueOf_89 (lv_at hl 0 rfl) ?_
        refine lv_if_eq (tgt := 98) hx hb dX6_valueOf_91 (by decide) (fun _ => ?_) (fun c => False.elim (by revert c; decide))
        refine lv_iconst (v := 1) hx hb dX6_valueOf_98 (by decide) ?_
        exact m_iret hx hb hr hlocks hW rfl (⟨rfl, trivial⟩) dX6_valueOf_99
set_option maxHeartbeats 4000000 in
set_option maxRecDepth 100000 in
theorem L_X6_sum_55_6 {p : Program} {l : Launch} {e : Env} {s : State} {m : MethodId} {args : Array Value} {below : List Frame} {meth : Method} {c : Code} {D : va_G} {cy : Nat → ClassId} {b : Nat} (hx : p.tables.exec = Jvm.exec) (hb : c.code = cX6_sum) (hr : meth.sig.returnType = ((some .long))) (hml : c.maxLocals = 11) (hown : s.vm.findClass RX6 = some m.cls) (hts : ∀ w ∈ TB, w.before args s = true) (hlocks : meth.locks = false) (μ1 : mM) (k k1 n : Nat) (hk : LAY[k]? = some (.inl (5, [k1 + 3, 0]))) (hk1 : LAY[k1]? = some (.inr (0, n, []))) (hn : n < 2 ^ 30) (hb1 : bX k 1 = some (0, (n : Int))) (hb0 : ∀ j, bX k1 j = none) (u v : Int32) : ∀ (f : Nat), ∀ (y7 : Int32) (y5 : Int64) (hy : 0 ≤ y7.toInt ∧ y7.toInt ≤ 2147483647) (hf : 2147483647 - y7.toInt < (f : Int)) (μ : mM) (hI : IX μ) (hm : μ = μ1) (H : Heap) (locs : List Loc), m_WA (m_A b LAY) D cy s b LAY μ H locs → ∀ ls : Array Slot, lv_has ls 11 [(0, .ref (b + 55)), (1, .ref (b + k)), (2, .int u), (3, .int v), (4, .ref (b + 59)), (5, .long y5), (7, .int y7)] → W p l e (m_R 2 0 0) s m args below meth c H locs 0 0 (MQ below (m_Ql D cy b LAY (fun r ν => μ1 = ν ∧ (True))) args s 0 0 (m_A b LAY)) (F0 m 6 ls []) := by
  intro f
  induction f with
  | zero => intro y7 y5 hy hf; exfalso; omega
  | succ f ih =>
    intro y7 y5 hy hf μ hI hm H locs hW ls hl
    refine lv_iload hx hb dX6_sum_6 (lv_at hl 6 rfl) ?_
    refine lv_iload_n hx hb dX6_sum_8 rfl (lv_at hl 3 rfl) ?_
    refine lv_icmp_ge (tgt := 74) hx hb dX6_sum_9 (by decide) (fun c1 => ?_) (fun c1 => ?_)
    · have i1 := m_c3 (rfl : v.toInt = _) (rfl : y7.toInt = _) c1
      refine lv_lload hx hb dX6_sum_74 (lv_at hl 5 rfl) ?_
      exact m_lret hx hb hr hlocks hW (⟨hm.symm, trivial⟩) dX6_sum_76
    · have i1 := m_c4 (rfl : v.toInt = _) (rfl : y7.toInt = _) c1; have r_v := m_rng v
      refine lv_aload_n hx hb dX6_sum_12 rfl (lv_at hl 1 rfl) ?_
      refine lv_iload_n hx hb dX6_sum_13 rfl (lv_at hl 2 rfl) ?_
      refine lv_iconst (v := 2) hx hb dX6_sum_14 (by decide) ?_
      refine lv_iload hx hb dX6_sum_15 (lv_at hl 6 rfl) ?_
      refine lv_imul hx hb dX6_sum_17 ?_
      refine lv_topi (fun x2 ex2 => ?_)
      refine lv_iadd hx hb dX6_sum_18 ?_
      refine lv_topi (fun x3 ex3 => ?_)
      refine m_aI hW (m_runV (As := [.int x3]) (rest := []) hx hb hml hown hts hW (k) (g_X5_at l D cy b k k1 n hk hk1 hn hb1 hb0 x3 μ hI) mi_X5_at k_X6_33 hk rfl rfl hl.1 rfl (Nat.le_of_ble_eq_true rfl) dX6_sum_19 ⟨Nat.le_of_ble_eq_true rfl, Nat.le_of_ble_eq_true rfl⟩ ⟨Nat.le_of_ble_eq_true rfl, Nat.le_of_ble_eq_true rfl⟩) (fun x4 μ4 H locs q4 hW => ?_)
      obtain ⟨q4_m, q4⟩ := q4
      subst q4_m
      refine lv_istore (lv' := [(8, .int x4), (0, .ref (b + 55)), (1, .ref (b + k)), (2, .int u), (3, .int v), (4, .ref (b + 59)), (5, .long y5), (7, .int y7)]) hx hb dX6_sum_22 hl (by decide) rfl (fun ls hl => ?_)
      refine lv_aload_n hx hb dX6_sum_24 rfl (lv_at hl 1 rfl) ?_
      refine lv_iload hx hb dX6_sum_25 (lv_at hl 0 rfl) ?_
      refine va_mabs hx hb (hml.trans hl.1.symm) hown (hts _ k_X6_108) (hts _ kM_abs_s) (hts _ kM_n) (hts _ kM_abs_c) (Nat.le_of_ble_eq_true rfl) (Nat.le_of_ble_eq_true rfl) (Nat.le_of_ble_eq_true rfl) (Nat.le_of_ble_eq_true rfl) dX6_sum_27 ?_
      refine lv_topi (fun x5 ex5 => ?_)
      refine lv_aload_n hx hb dX6_sum_30 rfl (lv_at hl 2 rfl) ?_
      refine lv_iload_n hx hb dX6_sum_31 rfl (lv_at hl 3 rfl) ?_
      refine lv_iconst (v := 2) hx hb dX6_sum_32 (by decide) ?_
      refine lv_iload hx hb dX6_sum_33 (lv_at hl 7 rfl) ?_
      refine lv_imul hx hb dX6_sum_35 ?_
      refine lv_topi (fun x6 ex6 => ?_)
      have ex6 : x6 = x2 := ex6.trans ex2.symm
      have ex6 := ex6.symm
      subst ex6
      refine lv_iadd hx hb dX6_sum_36 ?_
      refine lv_topi (fun x7 ex7 => ?_)
      have ex7 : x7 = x3 := ex7.trans ex3.symm
      have ex7 := ex7.symm
      subst ex7
      refine lv_iconst (v := 1) hx hb dX6_sum_37 (by decide) ?_
      refine lv_iadd hx hb dX6_sum_38 ?_
      refine lv_topi (fun x8 ex8 => ?_)
      refine m_aI hW (m_runV (As := [.int x8]) (rest := [.int x5, .ref (b + 55)]) hx hb hml hown hts hW (k) (g_X5_at l D cy b k k1 n hk hk1 hn hb1 hb0 x8 μ hI) mi_X5_at k_X6_33 hk rfl rfl hl.1 rfl (Nat.le_of_ble_eq_true rfl) dX6_sum_39 ⟨Nat.le_of_ble_eq_true rfl, Nat.le_of_ble_eq_true rfl⟩ ⟨Nat.le_of_ble_eq_true rfl, Nat.le_of_ble_eq_true rfl⟩) (fun x9 μ9 H locs q9 hW => ?_)
      obtain ⟨q9_m, q9⟩ := q9
      subst q9_m
      refine lv_aload hx hb dX6_sum_42 (lv_at hl 5 rfl) ?_
      refine m_aI hW (m_runV (As := [.int x5, .int x9, .ref (b + 59)]) (rest := []) hx hb hml hown hts hW (55) (g_X6_valueOf_55 l D cy b x5 x9 μ hI) mi_X6_valueOf k_X6_113 rfl rfl rfl hl.1 rfl (Nat.le_of_ble_eq_true rfl) dX6_sum_44 ⟨Nat.le_of_ble_eq_true rfl, Nat.le_of_ble_eq_true rfl⟩ ⟨Nat.le_of_ble_eq_true rfl, Nat.le_of_ble_eq_true rfl⟩) (fun x10 μ10 H locs q10 hW => ?_)
      obtain ⟨q10_m, q10⟩ := q10
      subst q10_m
      refine lv_i2l hx hb dX6_sum_47 rfl ?_
      refine lv_topl (fun x11 ex11 => ?_)
      refine lv_lstore (lv' := [(9, .long x11), (8, .int x4), (0, .ref (b + 55)), (1, .ref (b + k)), (2, .int u), (3, .int v), (4, .ref (b + 59)), (5, .long y5), (7, .int y7)]) hx hb dX6_sum_48 hl (by decide) rfl (fun ls hl => ?_)
      refine lv_lload hx hb dX6_sum_50 (lv_at hl 7 rfl) ?_
      refine lv_iload hx hb dX6_sum_52 (lv_at hl 1 rfl) ?_
      refine lv_if_ge (tgt := 63) hx hb dX6_sum_54 (by decide) (fun c12 => ?_) (fun c12 => ?_)
      · have i12 := m_c3 (by decide : (0 : Int32).toInt = 0) (rfl : x4.toInt = _) c12
        refine lv_lload hx hb dX6_sum_63 (lv_at hl 0 rfl) ?_
        refine lv_ladd hx hb dX6_sum_65 ?_
        refine lv_topl (fun x13 ex13 => ?_)
        refine lv_lstore (lv' := [(5, .long x13), (9, .long x11), (8, .int x4), (0, .ref (b + 55)), (1, .ref (b + k)), (2, .int u), (3, .int v), (4, .ref (b + 59)), (7, .int y7)]) hx hb dX6_sum_66 hl (by decide) rfl (fun ls hl => ?_)
        obtain ⟨x14, ex14⟩ : ∃ z : Int32, z = y7 + 1 := ⟨_, rfl⟩
        refine lv_iinc (v := x14) (lv' := [(7, .int x14), (5, .long x13), (9, .long x11), (8, .int x4), (0, .ref (b + 55)), (1, .ref (b + k)), (2, .int u), (3, .int v), (4, .ref (b + 59))]) hx hb dX6_sum_68 hl (k := 8) rfl (by rw [ex14]; rfl) (by decide) rfl (fun ls hl => ?_)
        have tx14 : x14.toInt = y7.toInt + 1 := m_addI ex14 (rfl : y7.toInt = _) (by decide : (1 : Int32).toInt = 1) (by omega) (by omega)
        refine lv_goto (tgt := 6) hx hb dX6_sum_71 (by decide) ?_
        exact ih x14 x13 (by omega) (by omega) μ hI hm _ _ hW ls (lv_sub hl [4, 5, 6, 7, 8, 1, 0] rfl)
      · have i12 := m_c4 (by decide : (0 : Int32).toInt = 0) (rfl : x4.toInt = _) c12
        refine lv_lload hx hb dX6_sum_57 (lv_at hl 0 rfl) ?_
        refine lv_lneg hx hb dX6_sum_59 ?_
        refine lv_topl (fun x15 ex15 => ?_)
        refine lv_goto (tgt := 65) hx hb dX6_sum_60 (by decide) ?_
        refine lv_ladd hx hb dX6_sum_65 ?_
        refine lv_topl (fun x16 ex16 => ?_)
        refine lv_lstore (lv' := [(5, .long x16), (9, .long x11), (8, .int x4), (0, .ref (b + 55)), (1, .ref (b + k)), (2, .int u), (3, .int v), (4, .ref (b + 59)), (7, .int y7)]) hx hb dX6_sum_66 hl (by decide) rfl (fun ls hl => ?_)
        obtain ⟨x17, ex17⟩ : ∃ z : Int32, z = y7 + 1 := ⟨_, rfl⟩
        refine lv_iinc (v := x17) (lv' := [(7, .int x17), (5, .long x16), (9, .long x11), (8, .int x4), (0, .ref (b + 55)), (1, .ref (b + k)), (2, .int u), (3, .int v), (4, .ref (b + 59))]) hx hb dX6_sum_68 hl (k := 8) rfl (by rw [ex17]; rfl) (by decide) rfl (fun ls hl => ?_)
        have tx17 : x17.toInt = y7.toInt + 1 := m_addI ex17 (rfl : y7.toInt = _) (by decide : (1 : Int32).toInt = 1) (by omega) (by omega)
        refine lv_goto (tgt := 6) hx hb dX6_sum_71 (by decide) ?_
        exact ih x17 x16 (by omega) (by omega) μ hI hm _ _ hW ls (lv_sub hl [4, 5, 6, 7, 8, 1, 0] rfl)
set_option maxHeartbeats 4000000 in
set_option maxRecDepth 100000 in
theorem g_X6_sum_55 (l : Launch) (D : va_G) (cy : Nat → ClassId) (b : Nat) (k k1 n : Nat) (hk : LAY[k]? = some (.inl (5, [k1 + 3, 0]))) (hk1 : LAY[k1]? = some (.inr (0, n, []))) (hn : n < 2 ^ 30) (hb1 : bX k 1 = some (0, (n : Int))) (hb0 : ∀ j, bX k1 j = none) (u v : Int32) (μ : mM) (hI : IX μ) : m_Cl l yX6_sum cX6_sum 11 ((some .long)) 2 D cy b LAY μ [.ref (b + 55), .ref (b + k), .int u, .int v, .ref (b + 59)] (fun r ν => μ = ν ∧ (True)) := by
  unfold m_Cl
  refine m_of (by decide) (Nat.le_of_ble_eq_true rfl) ?_
  intro p e s m below meth c hx hb hr hml hown hts hlocks _ hW ls hl
  have hown : s.vm.findClass RX6 = some m.cls := hown
  have hl : lv_has ls 11 [(0, .ref (b + 55)), (1, .ref (b + k)), (2, .int u), (3, .int v), (4, .ref (b + 59))] := hl
  refine lv_lconst (v := 0) hx hb dX6_sum_0 (by decide) ?_
  refine lv_lstore (lv' := [(5, .long 0), (0, .ref (b + 55)), (1, .ref (b + k)), (2, .int u), (3, .int v), (4, .ref (b + 59))]) hx hb dX6_sum_1 hl (by decide) rfl (fun ls hl => ?_)
  refine lv_iconst (v := 0) hx hb dX6_sum_3 (by decide) ?_
  refine lv_istore (lv' := [(7, .int 0), (5, .long 0), (0, .ref (b + 55)), (1, .ref (b + k)), (2, .int u), (3, .int v), (4, .ref (b + 59))]) hx hb dX6_sum_4 hl (by decide) rfl (fun ls hl => ?_)
  have l_0 : (0 : Int32).toInt = 0 := by decide
  exact L_X6_sum_55_6 hx hb hr hml hown hts hlocks μ k k1 n hk hk1 hn hb1 hb0 u v  2147483648 0 0 (by omega) (by omega) μ hI rfl _ _ hW ls (lv_sub hl [2, 3, 4, 5, 6, 1, 0] rfl)
set_option maxHeartbeats 4000000 in
set_option maxRecDepth 100000 in
theorem g_X6_isSo_55 (l : Launch) (D : va_G) (cy : Nat → ClassId) (b : Nat) (k k1 n : Nat) (hk : LAY[k]? = some (.inl (5, [k1 + 3, 0]))) (hk1 : LAY[k1]? = some (.inr (0, n, []))) (hn : n < 2 ^ 30) (hb1 : bX k 1 = some (0, (n : Int))) (hb0 : ∀ j, bX k1 j = none) (u : Int32) (μ : mM) (hI : IX μ) : m_Ci l yX6_isSo cX6_isSo 9 ((some .boolean)) 3 D cy b LAY μ [.ref (b + 55), .ref (b + k), .int u, .ref (b + 59)] (fun r ν => μ = ν ∧ ((r = 1 ∧ (True)) ∨ (r = 0 ∧ (True)))) := by
  unfold m_Ci
  refine m_of (by decide) (Nat.le_of_ble_eq_true rfl) ?_
  intro p e s m below meth c hx hb hr hml hown hts hlocks _ hW ls hl
  have hown : s.vm.findClass RX6 = some m.cls := hown
  have hl : lv_has ls 9 [(0, .ref (b + 55)), (1, .ref (b + k)), (2, .int u), (3, .ref (b + 59))] := hl
  refine lv_aload_n hx hb dX6_isSo_0 rfl (lv_at hl 1 rfl) ?_
  refine lv_iload_n hx hb dX6_isSo_1 rfl (lv_at hl 2 rfl) ?_
  refine lv_iconst (v := 3) hx hb dX6_isSo_2 (by decide) ?_
  refine lv_iadd hx hb dX6_isSo_3 ?_
  refine lv_topi (fun x1 ex1 => ?_)
  refine m_aI hW (m_runV (As := [.int x1]) (rest := []) hx hb hml hown hts hW (k) (g_X5_at l D cy b k k1 n hk hk1 hn hb1 hb0 x1 μ hI) mi_X5_at k_X6_33 hk rfl rfl hl.1 rfl (Nat.le_of_ble_eq_true rfl) dX6_isSo_4 ⟨Nat.le_of_ble_eq_true rfl, Nat.le_of_ble_eq_true rfl⟩ ⟨Nat.le_of_ble_eq_true rfl, Nat.le_of_ble_eq_true rfl⟩) (fun x2 μ2 H locs q2 hW => ?_)
  obtain ⟨q2_m, q2⟩ := q2
  subst q2_m
  refine lv_istore (lv' := [(4, .int x2), (0, .ref (b + 55)), (1, .ref (b + k)), (2, .int u), (3, .ref (b + 59))]) hx hb dX6_isSo_7 hl (by decide) rfl (fun ls hl => ?_)
  refine lv_aload_n hx hb dX6_isSo_9 rfl (lv_at hl 1 rfl) ?_
  refine lv_aload_n hx hb dX6_isSo_10 rfl (lv_at hl 2 rfl) ?_
  refine lv_iload_n hx hb dX6_isSo_11 rfl (lv_at hl 3 rfl) ?_
  refine lv_iconst (v := 5) hx hb dX6_isSo_12 (by decide) ?_
  refine lv_iadd hx hb dX6_isSo_13 ?_
  refine lv_topi (fun x3 ex3 => ?_)
  refine lv_iload hx hb dX6_isSo_14 (lv_at hl 0 rfl) ?_
  refine lv_aload_n hx hb dX6_isSo_16 rfl (lv_at hl 4 rfl) ?_
  refine m_aL hW (m_runV (As := [.ref (b + k), .int x3, .int x2, .ref (b + 59)]) (rest := []) hx hb hml hown hts hW (55) (g_X6_sum_55 l D cy b k k1 n hk hk1 hn hb1 hb0 x3 x2 μ hI) mi_X6_sum k_X6_104 rfl rfl rfl hl.1 rfl (Nat.le_of_ble_eq_true rfl) dX6_isSo_17 ⟨Nat.le_of_ble_eq_true rfl, Nat.le_of_ble_eq_true rfl⟩ ⟨Nat.le_of_ble_eq_true rfl, Nat.le_of_ble_eq_true rfl⟩) (fun x4 μ4 H locs q4 hW => ?_)
  obtain ⟨q4_m, q4⟩ := q4
  subst q4_m
  refine lv_lstore (lv' := [(5, .long x4), (4, .int x2), (0, .ref (b + 55)), (1, .ref (b + k)), (2, .int u), (3, .ref (b + 59))]) hx hb dX6_isSo_20 hl (by decide) rfl (fun ls hl => ?_)
  refine lv_aload_n hx hb dX6_isSo_22 rfl (lv_at hl 2 rfl) ?_
  refine lv_aload_n hx hb dX6_isSo_23 rfl (lv_at hl 3 rfl) ?_
  refine lv_iload_n hx hb dX6_isSo_24 rfl (lv_at hl 4 rfl) ?_
  refine lv_iconst (v := 5) hx hb dX6_isSo_25 (by decide) ?_
  refine lv_iadd hx hb dX6_isSo_26 ?_
  refine lv_topi (fun x5 ex5 => ?_)
  have ex5 : x5 = x3 := ex5.trans ex3.symm
  have ex5 := ex5.symm
  subst ex5
  refine lv_iconst (v := 2) hx hb dX6_isSo_27 (by decide) ?_
  refine lv_iload hx hb dX6_isSo_28 (lv_at hl 1 rfl) ?_
  refine lv_imul hx hb dX6_isSo_30 ?_
  refine lv_topi (fun x6 ex6 => ?_)
  refine lv_iadd hx hb dX6_isSo_31 ?_
  refine lv_topi (fun x7 ex7 => ?_)
  refine lv_aload_n hx hb dX6_isSo_32 rfl (lv_at hl 3 rfl) ?_
  refine lv_iload_n hx hb dX6_isSo_33 rfl (lv_at hl 4 rfl) ?_
  refine lv_iconst (v := 4) hx hb dX6_isSo_34 (by decide) ?_
  refine lv_iadd hx hb dX6_isSo_35 ?_
  refine lv_topi (fun x8 ex8 => ?_)
  refine m_aI hW (m_runV (As := [.int x8]) (rest := [.int x7, .ref (b + k), .ref (b + 55)]) hx hb hml hown hts hW (k) (g_X5_at l D cy b k k1 n hk hk1 hn hb1 hb0 x8 μ hI) mi_X5_at k_X6_33 hk rfl rfl hl.1 rfl (Nat.le_of_ble_eq_true rfl) dX6_isSo_36 ⟨Nat.le_of_ble_eq_true rfl, Nat.le_of_ble_eq_true rfl⟩ ⟨Nat.le_of_ble_eq_true rfl, Nat.le_of_ble_eq_true rfl⟩) (fun x9 μ9 H locs q9 hW => ?_)
  obtain ⟨q9_m, q9⟩ := q9
  subst q9_m
  refine lv_aload_n hx hb dX6_isSo_39 rfl (lv_at hl 5 rfl) ?_
  refine m_aL hW (m_runV (As := [.ref (b + k), .int x7, .int x9, .ref (b + 59)]) (rest := []) hx hb hml hown hts hW (55) (g_X6_sum_55 l D cy b k k1 n hk hk1 hn hb1 hb0 x7 x9 μ hI) mi_X6_sum k_X6_104 rfl rfl rfl hl.1 rfl (Nat.le_of_ble_eq_true rfl) dX6_isSo_40 ⟨Nat.le_of_ble_eq_true rfl, Nat.le_of_ble_eq_true rfl⟩ ⟨Nat.le_of_ble_eq_true rfl, Nat.le_of_ble_eq_true rfl⟩) (fun x10 μ10 H locs q10 hW => ?_)
  obtain ⟨q10_m, q10⟩ := q10
  subst q10_m
  refine lv_lstore (lv' := [(7, .long x10), (5, .long x4), (4, .int x2), (0, .ref (b + 55)), (1, .ref (b + k)), (2, .int u), (3, .ref (b + 59))]) hx hb dX6_isSo_43 hl (by decide) rfl (fun ls hl => ?_)
  refine lv_aload_n hx hb dX6_isSo_45 rfl (lv_at hl 4 rfl) ?_
  refine lv_iload_n hx hb dX6_isSo_46 rfl (lv_at hl 5 rfl) ?_
  refine lv_iconst (v := 2) hx hb dX6_isSo_47 (by decide) ?_
  refine lv_iadd hx hb dX6_isSo_48 ?_
  refine lv_topi (fun x11 ex11 => ?_)
  refine m_aI hW (m_runV (As := [.int x11]) (rest := []) hx hb hml hown hts hW (k) (g_X5_at l D cy b k k1 n hk hk1 hn hb1 hb0 x11 μ hI) mi_X5_at k_X6_33 hk rfl rfl hl.1 rfl (Nat.le_of_ble_eq_true rfl) dX6_isSo_49 ⟨Nat.le_of_ble_eq_true rfl, Nat.le_of_ble_eq_true rfl⟩ ⟨Nat.le_of_ble_eq_true rfl, Nat.le_of_ble_eq_true rfl⟩) (fun x12 μ12 H locs q12 hW => ?_)
  obtain ⟨q12_m, q12⟩ := q12
  subst q12_m
  by_cases c13_6 : x12.toInt = 6
  · refine lv_lookup (off := 28) (tgt := 80) hx hb dX6_isSo_52 (by decide) (by rw [c13_6]; rfl) (by decide) ?_
    refine lv_lload hx hb dX6_isSo_80 (lv_at hl 1 rfl) ?_
    refine lv_lload hx hb dX6_isSo_82 (lv_at hl 0 rfl) ?_
    refine W.lcmp hx hb dX6_isSo_84 ?_
    refine lv_topi (fun x14 ex14 => ?_)
    refine lv_if_ge (tgt := 92) hx hb dX6_isSo_85 (by decide) (fun c15 => ?_) (fun c15 => ?_)
    · have i15 := m_c3 (by decide : (0 : Int32).toInt = 0) (rfl : x14.toInt = _) c15
      refine lv_iconst (v := 0) hx hb dX6_isSo_92 (by decide) ?_
      exact m_iret hx hb hr hlocks hW (by decide) (⟨rfl, Or.inr ⟨rfl, trivial⟩⟩) dX6_isSo_93
    · have i15 := m_c4 (by decide : (0 : Int32).toInt = 0) (rfl : x14.toInt = _) c15
      refine lv_iconst (v := 1) hx hb dX6_isSo_88 (by decide) ?_
      refine lv_goto (tgt := 93) hx hb dX6_isSo_89 (by decide) ?_
      exact m_iret hx hb hr hlocks hW (by decide) (⟨rfl, Or.inl ⟨rfl, trivial⟩⟩) dX6_isSo_93
  by_cases c13_7 : x12.toInt = 7
  · refine lv_lookup (off := 42) (tgt := 94) hx hb dX6_isSo_52 (by decide) (by rw [c13_7]; rfl) (by decide) ?_
    refine lv_lload hx hb dX6_isSo_94 (lv_at hl 1 rfl) ?_
    refine lv_lload hx hb dX6_isSo_96 (lv_at hl 0 rfl) ?_
    refine W.lcmp hx hb dX6_isSo_98 ?_
    refine lv_topi (fun x16 ex16 => ?_)
    refine lv_if_ne (tgt := 106) hx hb dX6_isSo_99 (by decide) (fun c17 => ?_) (fun c17 => ?_)
    · have i17 := m_c6 (rfl : x16.toInt = _) (by decide : (0 : Int32).toInt = 0) c17
      refine lv_iconst (v := 0) hx hb dX6_isSo_106 (by decide) ?_
      exact m_iret hx hb hr hlocks hW (by decide) (⟨rfl, Or.inr ⟨rfl, trivial⟩⟩) dX6_isSo_107
    · have i17 := m_c5 (rfl : x16.toInt = _) (by decide : (0 : Int32).toInt = 0) c17
      refine lv_iconst (v := 1) hx hb dX6_isSo_102 (by decide) ?_
      refine lv_goto (tgt := 107) hx hb dX6_isSo_103 (by decide) ?_
      exact m_iret hx hb hr hlocks hW (by decide) (⟨rfl, Or.inl ⟨rfl, trivial⟩⟩) dX6_isSo_107
  refine lv_lookup (off := 56) (tgt := 108) hx hb dX6_isSo_52 (by decide) (by simp [Op.lookupswitch.offset_cons, Op.lookupswitch.offset_nil, Ne.symm c13_6, Ne.symm c13_7]) (by decide) ?_
  refine lv_lload hx hb dX6_isSo_108 (lv_at hl 1 rfl) ?_
  refine lv_lload hx hb dX6_isSo_110 (lv_at hl 0 rfl) ?_
  refine W.lcmp hx hb dX6_isSo_112 ?_
  refine lv_topi (fun x18 ex18 => ?_)
  refine lv_if_le (tgt := 120) hx hb dX6_isSo_113 (by decide) (fun c19 => ?_) (fun c19 => ?_)
  · have i19 := m_c3 (rfl : x18.toInt = _) (by decide : (0 : Int32).toInt = 0) c19
    refine lv_iconst (v := 0) hx hb dX6_isSo_120 (by decide) ?_
    exact m_iret hx hb hr hlocks hW (by decide) (⟨rfl, Or.inr ⟨rfl, trivial⟩⟩) dX6_isSo_121
  · have i19 := m_c4 (rfl : x18.toInt = _) (by decide : (0 : Int32).toInt = 0) c19
    refine lv_iconst (v := 1) hx hb dX6_isSo_116 (by decide) ?_
    refine lv_goto (tgt := 121) hx hb dX6_isSo_117 (by decide) ?_
    exact m_iret hx hb hr hlocks hW (by decide) (⟨rfl, Or.inl ⟨rfl, trivial⟩⟩) dX6_isSo_121
set_option maxHeartbeats 4000000 in
set_option maxRecDepth 100000 in
theorem L_X6_perform_55_21 {p : Program} {l : Launch} {e : Env} {s : State} {m : MethodId} {args : Array Value} {below : List Frame} {meth : Method} {c : Code} {D : va_G} {cy : Nat → ClassId} {b : Nat} (hx : p.tables.exec = Jvm.exec) (hb : c.code = cX6_perform) (hr : meth.sig.returnType = ((some .int))) (hml : c.maxLocals = 9) (hown : s.vm.findClass RX6 = some m.cls) (hts : ∀ w ∈ TB, w.before args s = true) (hlocks : meth.locks = false) (S : Nat → Bool) (μ0 : mM) (hS8 : S 8 = true) (k k1 n : Nat) (hk : LAY[k]? = some (.inl (5, [k1 + 3, 0]))) (hk1 : LAY[k1]? = some (.inr (0, n, []))) (hn : n < 2 ^ 30) (hb1 : bX k 1 = some (0, (n : Int))) (hb0 : ∀ j, bX k1 j = none) : ∀ (f : Nat), ∀ (y4 y5 : Int32) (hy : 0 ≤ y5.toInt ∧ y5.toInt ≤ 200000) (hf : 200000 - y5.toInt < (f : Int)) (μ : mM) (hI : IY S μ0 μ) (H : Heap) (locs : List Loc), m_WA (m_A b LAY) D cy s b LAY μ H locs → ∀ ls : Array Slot, lv_has ls 9 [(0, .ref (b + 55)), (1, .ref (b + k)), (2, .ref (b + 59)), (3, .ref (b + 1)), (4, .int y4), (5, .int y5)] → W p l e (m_R 5 0 0) s m args below meth c H locs 0 0 (MQ below (m_Qi D cy b LAY (fun r ν => IY S μ0 ν ∧ (True))) args s 0 0 (m_A b LAY)) (F0 m 21 ls []) := by
  intro f
  induction f with
  | zero => intro y4 y5 hy hf; exfalso; omega
  | succ f ih =>
    intro y4 y5 hy hf μ hI H locs hW ls hl
    refine lv_iload hx hb dX6_perform_21 (lv_at hl 5 rfl) ?_
    refine lv_ldc hx hb hown (hts _ k_X6_27) dX6_perform_23 ?_
    refine lv_icmp_ge (tgt := 306) hx hb dX6_perform_25 (by decide) (fun c1 => ?_) (fun c1 => ?_)
    · have i1 := m_c3 (by decide : (200000 : Int32).toInt = 200000) (rfl : y5.toInt = _) c1
      refine lv_aload_n hx hb dX6_perform_306 rfl (lv_at hl 2 rfl) ?_
      refine lv_dup hx hb dX6_perform_307 rfl ?_
      refine m_geti hx hb hts hown hW (59) 6 rfl rfl cw_3 rfl (by decide) k_X6_79 dX6_perform_308 ?_
      refine lv_topi (fun x2 ex2 => ?_)
      refine lv_aload_n hx hb dX6_perform_311 rfl (lv_at hl 0 rfl) ?_
      refine m_geti hx hb hts hown hW (55) 1 rfl rfl cw_6 rfl (by decide) k_X6_15 dX6_perform_312 ?_
      refine lv_topi (fun x3 ex3 => ?_)
      refine lv_if_ne (tgt := 322) hx hb dX6_perform_315 (by decide) (fun c4 => ?_) (fun c4 => ?_)
      · have i4 := m_c6 (rfl : x3.toInt = _) (by decide : (0 : Int32).toInt = 0) c4
        refine lv_iconst (v := 0) hx hb dX6_perform_322 (by decide) ?_
        refine lv_iadd hx hb dX6_perform_323 ?_
        refine lv_topi (fun x5 ex5 => ?_)
        have r_x2 := m_rng x2
        have tx5 : x5.toInt = x2.toInt + 0 := m_addI ex5 (rfl : x2.toInt = _) (by decide : (0 : Int32).toInt = 0) (by omega) (by omega)
        refine m_puti hx hb hts hown hW (59) 6 rfl rfl cw_3 tyX3_ok nmX3 rfl (by decide) k_X6_79 rfl rfl rfl dX6_perform_324 (fun H locs hW _ => ?_)
        generalize hμ6 : m_si μ (59) 6 x5 = μ6 at hW
        have hI := hI.si0 hμ6 rfl hS8
        refine lv_aload_n hx hb dX6_perform_327 rfl (lv_at hl 2 rfl) ?_
        refine m_geti hx hb hts hown hW (59) 5 rfl rfl cw_3 rfl (by decide) k_X6_22 dX6_perform_328 ?_
        refine lv_topi (fun x7 ex7 => ?_)
        refine lv_aload_n hx hb dX6_perform_331 rfl (lv_at hl 0 rfl) ?_
        refine m_geti hx hb hts hown hW (55) 2 rfl rfl cw_6 rfl (by decide) k_X6_19 dX6_perform_332 ?_
        refine lv_topi (fun x8 ex8 => ?_)
        refine lv_isub hx hb dX6_perform_335 ?_
        refine lv_topi (fun x9 ex9 => ?_)
        exact m_iret hx hb hr hlocks hW rfl (⟨hI, trivial⟩) dX6_perform_336
      · have i4 := m_c5 (rfl : x3.toInt = _) (by decide : (0 : Int32).toInt = 0) c4
        refine lv_iconst (v := 1) hx hb dX6_perform_318 (by decide) ?_
        refine lv_goto (tgt := 323) hx hb dX6_perform_319 (by decide) ?_
        refine lv_iadd hx hb dX6_perform_323 ?_
        refine lv_topi (fun x10 ex10 => ?_)
        refine m_puti hx hb hts hown hW (59) 6 rfl rfl cw_3 tyX3_ok nmX3 rfl (by decide) k_X6_79 rfl rfl rfl dX6_perform_324 (fun H locs hW _ => ?_)
        generalize hμ11 : m_si μ (59) 6 x10 = μ11 at hW
        have hI := hI.si0 hμ11 rfl hS8
        refine lv_aload_n hx hb dX6_perform_327 rfl (lv_at hl 2 rfl) ?_
        refine m_geti hx hb hts hown hW (59) 5 rfl rfl cw_3 rfl (by decide) k_X6_22 dX6_perform_328 ?_
        refine lv_topi (fun x12 ex12 => ?_)
        refine lv_aload_n hx hb dX6_perform_331 rfl (lv_at hl 0 rfl) ?_
        refine m_geti hx hb hts hown hW (55) 2 rfl rfl cw_6 rfl (by decide) k_X6_19 dX6_perform_332 ?_
        refine lv_topi (fun x13 ex13 => ?_)
        refine lv_isub hx hb dX6_perform_335 ?_
        refine lv_topi (fun x14 ex14 => ?_)
        exact m_iret hx hb hr hlocks hW rfl (⟨hI, trivial⟩) dX6_perform_336
    · have i1 := m_c4 (by decide : (200000 : Int32).toInt = 200000) (rfl : y5.toInt = _) c1
      refine lv_iload hx hb dX6_perform_28 (lv_at hl 4 rfl) ?_
      refine lv_aload_n hx hb dX6_perform_30 rfl (lv_at hl 1 rfl) ?_
      refine m_geti hx hb hts hown hW (k) 1 hk rfl cw_5 rfl (by decide) k_X6_28 dX6_perform_31 ?_
      refine lv_topi (fun x15 ex15 => ?_)
      have bx15 : 0 ≤ x15.toInt ∧ x15.toInt ≤ n := by rw [ex15]; exact hI.1 _ _ _ _ hb1
      refine lv_icmp_ge (tgt := 306) hx hb dX6_perform_34 (by decide) (fun c16 => ?_) (fun c16 => ?_)
      · have i16 := m_c3 (rfl : x15.toInt = _) (rfl : y4.toInt = _) c16
        refine lv_aload_n hx hb dX6_perform_306 rfl (lv_at hl 2 rfl) ?_
        refine lv_dup hx hb dX6_perform_307 rfl ?_
        refine m_geti hx hb hts hown hW (59) 6 rfl rfl cw_3 rfl (by decide) k_X6_79 dX6_perform_308 ?_
        refine lv_topi (fun x17 ex17 => ?_)
        refine lv_aload_n hx hb dX6_perform_311 rfl (lv_at hl 0 rfl) ?_
        refine m_geti hx hb hts hown hW (55) 1 rfl rfl cw_6 rfl (by decide) k_X6_15 dX6_perform_312 ?_
        refine lv_topi (fun x18 ex18 => ?_)
        refine lv_if_ne (tgt := 322) hx hb dX6_perform_315 (by decide) (fun c19 => ?_) (fun c19 => ?_)
        · have i19 := m_c6 (rfl : x18.toInt = _) (by decide : (0 : Int32).toInt = 0) c19
          refine lv_iconst (v := 0) hx hb dX6_perform_322 (by decide) ?_
          refine lv_iadd hx hb dX6_perform_323 ?_
          refine lv_topi (fun x20 ex20 => ?_)
          have r_x17 := m_rng x17
          have tx20 : x20.toInt = x17.toInt + 0 := m_addI ex20 (rfl : x17.toInt = _) (by decide : (0 : Int32).toInt = 0) (by omega) (by omega)
          refine m_puti hx hb hts hown hW (59) 6 rfl rfl cw_3 tyX3_ok nmX3 rfl (by decide) k_X6_79 rfl rfl rfl dX6_perform_324 (fun H locs hW _ => ?_)
          generalize hμ21 : m_si μ (59) 6 x20 = μ21 at hW
          have hI := hI.si0 hμ21 rfl hS8
          refine lv_aload_n hx hb dX6_perform_327 rfl (lv_at hl 2 rfl) ?_
          refine m_geti hx hb hts hown hW (59) 5 rfl rfl cw_3 rfl (by decide) k_X6_22 dX6_perform_328 ?_
          refine lv_topi (fun x22 ex22 => ?_)
          refine lv_aload_n hx hb dX6_perform_331 rfl (lv_at hl 0 rfl) ?_
          refine m_geti hx hb hts hown hW (55) 2 rfl rfl cw_6 rfl (by decide) k_X6_19 dX6_perform_332 ?_
          refine lv_topi (fun x23 ex23 => ?_)
          refine lv_isub hx hb dX6_perform_335 ?_
          refine lv_topi (fun x24 ex24 => ?_)
          exact m_iret hx hb hr hlocks hW rfl (⟨hI, trivial⟩) dX6_perform_336
        · have i19 := m_c5 (rfl : x18.toInt = _) (by decide : (0 : Int32).toInt = 0) c19
          refine lv_iconst (v := 1) hx hb dX6_perform_318 (by decide) ?_
          refine lv_goto (tgt := 323) hx hb dX6_perform_319 (by decide) ?_
          refine lv_iadd hx hb dX6_perform_323 ?_
          refine lv_topi (fun x25 ex25 => ?_)
          refine m_puti hx hb hts hown hW (59) 6 rfl rfl cw_3 tyX3_ok nmX3 rfl (by decide) k_X6_79 rfl rfl rfl dX6_perform_324 (fun H locs hW _ => ?_)
          generalize hμ26 : m_si μ (59) 6 x25 = μ26 at hW
          have hI := hI.si0 hμ26 rfl hS8
          refine lv_aload_n hx hb dX6_perform_327 rfl (lv_at hl 2 rfl) ?_
          refine m_geti hx hb hts hown hW (59) 5 rfl rfl cw_3 rfl (by decide) k_X6_22 dX6_perform_328 ?_
          refine lv_topi (fun x27 ex27 => ?_)
          refine lv_aload_n hx hb dX6_perform_331 rfl (lv_at hl 0 rfl) ?_
          refine m_geti hx hb hts hown hW (55) 2 rfl rfl cw_6 rfl (by decide) k_X6_19 dX6_perform_332 ?_
          refine lv_topi (fun x28 ex28 => ?_)
          refine lv_isub hx hb dX6_perform_335 ?_
          refine lv_topi (fun x29 ex29 => ?_)
          exact m_iret hx hb hr hlocks hW rfl (⟨hI, trivial⟩) dX6_perform_336
      · have i16 := m_c4 (rfl : x15.toInt = _) (rfl : y4.toInt = _) c16
        refine lv_aload_n hx hb dX6_perform_37 rfl (lv_at hl 0 rfl) ?_
        refine m_geti hx hb hts hown hW (55) 1 rfl rfl cw_6 rfl (by decide) k_X6_15 dX6_perform_38 ?_
        refine lv_topi (fun x30 ex30 => ?_)
        refine lv_if_le (tgt := 306) hx hb dX6_perform_41 (by decide) (fun c31 => ?_) (fun c31 => ?_)
        · have i31 := m_c3 (rfl : x30.toInt = _) (by decide : (0 : Int32).toInt = 0) c31
          refine lv_aload_n hx hb dX6_perform_306 rfl (lv_at hl 2 rfl) ?_
          refine lv_dup hx hb dX6_perform_307 rfl ?_
          refine m_geti hx hb hts hown hW (59) 6 rfl rfl cw_3 rfl (by decide) k_X6_79 dX6_perform_308 ?_
          refine lv_topi (fun x32 ex32 => ?_)
          refine lv_aload_n hx hb dX6_perform_311 rfl (lv_at hl 0 rfl) ?_
          refine m_geti hx hb hts hown hW (55) 1 rfl rfl cw_6 rfl (by decide) k_X6_15 dX6_perform_312 ?_
          refine lv_topi (fun x33 ex33 => ?_)
          have ex33 : x33 = x30 := by rw [ex33]; exact ex30.symm
          have ex33 := ex33.symm
          subst ex33
          refine lv_if_ne (tgt := 322) hx hb dX6_perform_315 (by decide) (fun c34 => ?_) (fun c34 => ?_)
          · have i34 := m_c6 (rfl : x30.toInt = _) (by decide : (0 : Int32).toInt = 0) c34
            refine lv_iconst (v := 0) hx hb dX6_perform_322 (by decide) ?_
            refine lv_iadd hx hb dX6_perform_323 ?_
            refine lv_topi (fun x35 ex35 => ?_)
            have r_x32 := m_rng x32
            have tx35 : x35.toInt = x32.toInt + 0 := m_addI ex35 (rfl : x32.toInt = _) (by decide : (0 : Int32).toInt = 0) (by omega) (by omega)
            refine m_puti hx hb hts hown hW (59) 6 rfl rfl cw_3 tyX3_ok nmX3 rfl (by decide) k_X6_79 rfl rfl rfl dX6_perform_324 (fun H locs hW _ => ?_)
            generalize hμ36 : m_si μ (59) 6 x35 = μ36 at hW
            have hI := hI.si0 hμ36 rfl hS8
            refine lv_aload_n hx hb dX6_perform_327 rfl (lv_at hl 2 rfl) ?_
            refine m_geti hx hb hts hown hW (59) 5 rfl rfl cw_3 rfl (by decide) k_X6_22 dX6_perform_328 ?_
            refine lv_topi (fun x37 ex37 => ?_)
            refine lv_aload_n hx hb dX6_perform_331 rfl (lv_at hl 0 rfl) ?_
            refine m_geti hx hb hts hown hW (55) 2 rfl rfl cw_6 rfl (by decide) k_X6_19 dX6_perform_332 ?_
            refine lv_topi (fun x38 ex38 => ?_)
            refine lv_isub hx hb dX6_perform_335 ?_
            refine lv_topi (fun x39 ex39 => ?_)
            exact m_iret hx hb hr hlocks hW rfl (⟨hI, trivial⟩) dX6_perform_336
          · have i34 := m_c5 (rfl : x30.toInt = _) (by decide : (0 : Int32).toInt = 0) c34
            refine lv_iconst (v := 1) hx hb dX6_perform_318 (by decide) ?_
            refine lv_goto (tgt := 323) hx hb dX6_perform_319 (by decide) ?_
            refine lv_iadd hx hb dX6_perform_323 ?_
            refine lv_topi (fun x40 ex40 => ?_)
            refine m_puti hx hb hts hown hW (59) 6 rfl rfl cw_3 tyX3_ok nmX3 rfl (by decide) k_X6_79 rfl rfl rfl dX6_perform_324 (fun H locs hW _ => ?_)
            generalize hμ41 : m_si μ (59) 6 x40 = μ41 at hW
            have hI := hI.si0 hμ41 rfl hS8
            refine lv_aload_n hx hb dX6_perform_327 rfl (lv_at hl 2 rfl) ?_
            refine m_geti hx hb hts hown hW (59) 5 rfl rfl cw_3 rfl (by decide) k_X6_22 dX6_perform_328 ?_
            refine lv_topi (fun x42 ex42 => ?_)
            refine lv_aload_n hx hb dX6_perform_331 rfl (lv_at hl 0 rfl) ?_
            refine m_geti hx hb hts hown hW (55) 2 rfl rfl cw_6 rfl (by decide) k_X6_19 dX6_perform_332 ?_
            refine lv_topi (fun x43 ex43 => ?_)
            refine lv_isub hx hb dX6_perform_335 ?_
            refine lv_topi (fun x44 ex44 => ?_)
            exact m_iret hx hb hr hlocks hW rfl (⟨hI, trivial⟩) dX6_perform_336
        · have i31 := m_c4 (rfl : x30.toInt = _) (by decide : (0 : Int32).toInt = 0) c31
          refine lv_aload_n hx hb dX6_perform_44 rfl (lv_at hl 1 rfl) ?_
          refine lv_iload hx hb dX6_perform_45 (lv_at hl 4 rfl) ?_
          refine m_aI hW (m_runV (As := [.int y4]) (rest := []) hx hb hml hown hts hW (k) (g_X5_at l D cy b k k1 n hk hk1 hn hb1 hb0 y4 μ hI.1) mi_X5_at k_X6_33 hk rfl rfl hl.1 rfl (Nat.le_of_ble_eq_true rfl) dX6_perform_47 ⟨Nat.le_of_ble_eq_true rfl, Nat.le_of_ble_eq_true rfl⟩ ⟨Nat.le_of_ble_eq_true rfl, Nat.le_of_ble_eq_true rfl⟩) (fun x45 μ45 H locs q45 hW => ?_)
          obtain ⟨q45_m, q45⟩ := q45
          subst q45_m
          refine lv_istore (lv' := [(6, .int x45), (0, .ref (b + 55)), (1, .ref (b + k)), (2, .ref (b + 59)), (3, .ref (b + 1)), (4, .int y4), (5, .int y5)]) hx hb dX6_perform_50 hl (by decide) rfl (fun ls hl => ?_)
          refine lv_aload_n hx hb dX6_perform_52 rfl (lv_at hl 2 rfl) ?_
          refine lv_iload hx hb dX6_perform_53 (lv_at hl 5 rfl) ?_
          refine lv_iconst (v := 1) hx hb dX6_perform_55 (by decide) ?_
          refine lv_iadd hx hb dX6_perform_56 ?_
          refine lv_topi (fun x46 ex46 => ?_)
          have r_y4 := m_rng y4
          have tx46 : x46.toInt = y4.toInt + 1 := m_addI ex46 (rfl : y4.toInt = _) (by decide : (1 : Int32).toInt = 1) (by omega) (by omega)
          refine m_aI hW (m_runV (As := [.int x46]) (rest := []) hx hb hml hown hts hW (k) (g_X5_at l D cy b k k1 n hk hk1 hn hb1 hb0 x46 μ hI.1) mi_X5_at k_X6_33 hk rfl rfl hl.1 rfl (Nat.le_of_ble_eq_true rfl) dX6_perform_57 ⟨Nat.le_of_ble_eq_true rfl, Nat.le_of_ble_eq_true rfl⟩ ⟨Nat.le_of_ble_eq_true rfl, Nat.le_of_ble_eq_true rfl⟩) (fun x47 μ47 H locs q47 hW => ?_)
          obtain ⟨q47_m, q47⟩ := q47
          subst q47_m
          refine lv_istore (lv' := [(7, .int x47), (6, .int x45), (0, .ref (b + 55)), (1, .ref (b + k)), (2, .ref (b + 59)), (3, .ref (b + 1)), (4, .int y4), (5, .int y5)]) hx hb dX6_perform_60 hl (by decide) rfl (fun ls hl => ?_)
          refine lv_aload_n hx hb dX6_perform_62 rfl (lv_at hl 3 rfl) ?_
          refine lv_iload hx hb dX6_perform_63 (lv_at hl 6 rfl) ?_
          refine lv_iconst (v := 2) hx hb dX6_perform_65 (by decide) ?_
          refine lv_iadd hx hb dX6_perform_66 ?_
          refine lv_topi (fun x48 ex48 => ?_)
          have tx48 : x48.toInt = y4.toInt + 2 := m_addI ex48 (rfl : y4.toInt = _) (by decide : (2 : Int32).toInt = 2) (by omega) (by omega)
          refine m_aI hW (m_runV (As := [.int x48]) (rest := []) hx hb hml hown hts hW (k) (g_X5_at l D cy b k k1 n hk hk1 hn hb1 hb0 x48 μ hI.1) mi_X5_at k_X6_33 hk rfl rfl hl.1 rfl (Nat.le_of_ble_eq_true rfl) dX6_perform_67 ⟨Nat.le_of_ble_eq_true rfl, Nat.le_of_ble_eq_true rfl⟩ ⟨Nat.le_of_ble_eq_true rfl, Nat.le_of_ble_eq_true rfl⟩) (fun x49 μ49 H locs q49 hW => ?_)
          obtain ⟨q49_m, q49⟩ := q49
          subst q49_m
          refine lv_istore (lv' := [(8, .int x49), (7, .int x47), (6, .int x45), (0, .ref (b + 55)), (1, .ref (b + k)), (2, .ref (b + 59)), (3, .ref (b + 1)), (4, .int y4), (5, .int y5)]) hx hb dX6_perform_70 hl (by decide) rfl (fun ls hl => ?_)
          refine lv_aload_n hx hb dX6_perform_72 rfl (lv_at hl 3 rfl) ?_
          refine lv_dup hx hb dX6_perform_73 rfl ?_
          refine m_geti hx hb hts hown hW (55) 1 rfl rfl cw_6 rfl (by decide) k_X6_15 dX6_perform_74 ?_
          refine lv_topi (fun x50 ex50 => ?_)
          have ex50 : x50 = x30 := by rw [ex50]; exact ex30.symm
          have ex50 := ex50.symm
          subst ex50
          refine lv_iload hx hb dX6_perform_77 (lv_at hl 2 rfl) ?_
          refine lv_bipush (v := 18) hx hb dX6_perform_79 (by decide) ?_
          refine lv_icmp_ne (tgt := 88) hx hb dX6_perform_81 (by decide) (fun c51 => ?_) (fun c51 => ?_)
          · have i51 := m_c6 (rfl : x45.toInt = _) (by decide : (18 : Int32).toInt = 18) c51
            refine lv_iconst (v := 1) hx hb dX6_perform_88 (by decide) ?_
            refine lv_isub hx hb dX6_perform_89 ?_
            refine lv_topi (fun x52 ex52 => ?_)
            have r_x30 := m_rng x30
            have tx52 : x52.toInt = x30.toInt - 1 := m_subI ex52 (rfl : x30.toInt = _) (by decide : (1 : Int32).toInt = 1) (by omega) (by omega)
            refine m_puti hx hb hts hown hW (55) 1 rfl rfl cw_6 tyX6_ok nmX6 rfl (by decide) k_X6_15 rfl rfl rfl dX6_perform_90 (fun H locs hW _ => ?_)
            generalize hμ53 : m_si μ (55) 1 x52 = μ53 at hW
            have hI := hI.si0 hμ53 rfl hS8
            refine lv_iload hx hb dX6_perform_93 (lv_at hl 2 rfl) ?_
            by_cases c54 : x45.toInt < 11 ∨ 18 < x45.toInt
            · refine lv_tableOut (tgt := 278) hx hb dX6_perform_95 c54 (by decide) ?_
              refine lv_aload_n hx hb dX6_perform_278 rfl (lv_at hl 5 rfl) ?_
              refine m_getr hx hb hts hown hW (59) 10 (60) rfl rfl cw_3 rfl (by decide) k_X6_51 dX6_perform_279 ?_
              refine lv_iload hx hb dX6_perform_282 (lv_at hl 2 rfl) ?_
              refine lv_bipush (v := 9) hx hb dX6_perform_284 (by decide) ?_
              refine lv_icmp_ne (tgt := 293) hx hb dX6_perform_286 (by decide) (fun c55 => ?_) (fun c55 => ?_)
              · have i55 := m_c6 (rfl : x45.toInt = _) (by decide : (9 : Int32).toInt = 9) c55
                refine lv_iconst (v := 0) hx hb dX6_perform_293 (by decide) ?_
                refine m_puti hx hb hts hown hW (60) 2 rfl rfl cw_1 tyX1_ok nmX1 rfl (by decide) k_X6_75 rfl (by decide) rfl dX6_perform_294 (fun H locs hW _ => ?_)
                generalize hμ56 : m_si μ53 (60) 2 0 = μ56 at hW
                have hI := hI.si1 hμ56 rfl (by decide) hS8
                obtain ⟨x57, ex57⟩ : ∃ z : Int32, z = y4 + 1 := ⟨_, rfl⟩
                refine lv_iinc (v := x57) (lv' := [(4, .int x57), (8, .int x49), (7, .int x47), (6, .int x45), (0, .ref (b + 55)), (1, .ref (b + k)), (2, .ref (b + 59)), (3, .ref (b + 1)), (5, .int y5)]) hx hb dX6_perform_297 hl (k := 7) rfl (by rw [ex57]; rfl) (by decide) rfl (fun ls hl => ?_)
                have tx57 : x57.toInt = y4.toInt + 1 := m_addI ex57 (rfl : y4.toInt = _) (by decide : (1 : Int32).toInt = 1) (by omega) (by omega)
                obtain ⟨x58, ex58⟩ : ∃ z : Int32, z = y5 + 1 := ⟨_, rfl⟩
                refine lv_iinc (v := x58) (lv' := [(5, .int x58), (4, .int x57), (8, .int x49), (7, .int x47), (6, .int x45), (0, .ref (b + 55)), (1, .ref (b + k)), (2, .ref (b + 59)), (3, .ref (b + 1))]) hx hb dX6_perform_300 hl (k := 8) rfl (by rw [ex58]; rfl) (by decide) rfl (fun ls hl => ?_)
                have tx58 : x58.toInt = y5.toInt + 1 := m_addI ex58 (rfl : y5.toInt = _) (by decide : (1 : Int32).toInt = 1) (by omega) (by omega)
                refine lv_goto (tgt := 21) hx hb dX6_perform_303 (by decide) ?_
                exact ih x57 x58 (by omega) (by omega) μ56 hI _ _ hW ls (lv_sub hl [5, 6, 7, 8, 1, 0] rfl)
              · have i55 := m_c5 (rfl : x45.toInt = _) (by decide : (9 : Int32).toInt = 9) c55
                refine lv_iconst (v := 1) hx hb dX6_perform_289 (by decide) ?_
                refine lv_goto (tgt := 294) hx hb dX6_perform_290 (by decide) ?_
                refine m_puti hx hb hts hown hW (60) 2 rfl rfl cw_1 tyX1_ok nmX1 rfl (by decide) k_X6_75 rfl (by decide) rfl dX6_perform_294 (fun H locs hW _ => ?_)
                generalize hμ59 : m_si μ53 (60) 2 1 = μ59 at hW
                have hI := hI.si1 hμ59 rfl (by decide) hS8
                obtain ⟨x60, ex60⟩ : ∃ z : Int32, z = y4 + 1 := ⟨_, rfl⟩
                refine lv_iinc (v := x60) (lv' := [(4, .int x60), (8, .int x49), (7, .int x47), (6, .int x45), (0, .ref (b + 55)), (1, .ref (b + k)), (2, .ref (b + 59)), (3, .ref (b + 1)), (5, .int y5)]) hx hb dX6_perform_297 hl (k := 7) rfl (by rw [ex60]; rfl) (by decide) rfl (fun ls hl => ?_)
                have tx60 : x60.toInt = y4.toInt + 1 := m_addI ex60 (rfl : y4.toInt = _) (by decide : (1 : Int32).toInt = 1) (by omega) (by omega)
                obtain ⟨x61, ex61⟩ : ∃ z : Int32, z = y5 + 1 := ⟨_, rfl⟩
                refine lv_iinc (v := x61) (lv' := [(5, .int x61), (4, .int x60), (8, .int x49), (7, .int x47), (6, .int x45), (0, .ref (b + 55)), (1, .ref (b + k)), (2, .ref (b + 59)), (3, .ref (b + 1))]) hx hb dX6_perform_300 hl (k := 8) rfl (by rw [ex61]; rfl) (by decide) rfl (fun ls hl => ?_)
                have tx61 : x61.toInt = y5.toInt + 1 := m_addI ex61 (rfl : y5.toInt = _) (by decide : (1 : Int32).toInt = 1) (by omega) (by omega)
                refine lv_goto (tgt := 21) hx hb dX6_perform_303 (by decide) ?_
                exact ih x60 x61 (by omega) (by omega) μ59 hI _ _ hW ls (lv_sub hl [5, 6, 7, 8, 1, 0] rfl)
            · have q54 : x45.toInt = 11 ∨ x45.toInt = 12 ∨ x45.toInt = 13 ∨ x45.toInt = 14 ∨ x45.toInt = 15 ∨ x45.toInt = 16 ∨ x45.toInt = 17 ∨ x45.toInt = 18 := by omega
              rcases q54 with q54 | q54 | q54 | q54 | q54 | q54 | q54 | q54
              · refine lv_tableIn (off := 45) (tgt := 140) hx hb dX6_perform_95 (fun z => c54 (Or.inl z)) (fun z => c54 (Or.inr z)) (by rw [q54]; rfl) (by decide) ?_
                refine lv_aload_n hx hb dX6_perform_140 rfl (lv_at hl 5 rfl) ?_
                refine lv_iload hx hb dX6_perform_141 (lv_at hl 1 rfl) ?_
                refine lv_iload hx hb dX6_perform_143 (lv_at hl 0 rfl) ?_
                refine m_aI hW (m_runV (As := [.int x47, .int x49]) (rest := []) hx hb hml hown hts hW (59) (g_X3_moveHead_59 l D cy b S μ0 hS8 x47 x49 μ53 hI) mi_X3_moveHead k_X6_39 rfl rfl rfl hl.1 rfl (Nat.le_of_ble_eq_true rfl) dX6_perform_145 ⟨Nat.le_of_ble_eq_true rfl, Nat.le_of_ble_eq_true rfl⟩ ⟨Nat.le_of_ble_eq_true rfl, Nat.le_of_ble_eq_true rfl⟩) (fun x62 μ62 H locs q62 hW => ?_)
                obtain ⟨hI, q62⟩ := q62
                rcases q62 with ⟨rfl, q62⟩ | ⟨rfl, q62⟩
                · refine lv_pop hx hb dX6_perform_148 rfl ?_
                  obtain ⟨x63, ex63⟩ : ∃ z : Int32, z = y4 + 3 := ⟨_, rfl⟩
                  refine lv_iinc (v := x63) (lv' := [(4, .int x63), (8, .int x49), (7, .int x47), (6, .int x45), (0, .ref (b + 55)), (1, .ref (b + k)), (2, .ref (b + 59)), (3, .ref (b + 1)), (5, .int y5)]) hx hb dX6_perform_149 hl (k := 7) rfl (by rw [ex63]; rfl) (by decide) rfl (fun ls hl => ?_)
                  have tx63 : x63.toInt = y4.toInt + 3 := m_addI ex63 (rfl : y4.toInt = _) (by decide : (3 : Int32).toInt = 3) (by omega) (by omega)
                  refine lv_goto (tgt := 300) hx hb dX6_perform_152 (by decide) ?_
                  obtain ⟨x64, ex64⟩ : ∃ z : Int32, z = y5 + 1 := ⟨_, rfl⟩
                  refine lv_iinc (v := x64) (lv' := [(5, .int x64), (4, .int x63), (8, .int x49), (7, .int x47), (6, .int x45), (0, .ref (b + 55)), (1, .ref (b + k)), (2, .ref (b + 59)), (3, .ref (b + 1))]) hx hb dX6_perform_300 hl (k := 8) rfl (by rw [ex64]; rfl) (by decide) rfl (fun ls hl => ?_)
                  have tx64 : x64.toInt = y5.toInt + 1 := m_addI ex64 (rfl : y5.toInt = _) (by decide : (1 : Int32).toInt = 1) (by omega) (by omega)
                  refine lv_goto (tgt := 21) hx hb dX6_perform_303 (by decide) ?_
                  exact ih x63 x64 (by omega) (by omega) μ62 hI _ _ hW ls (lv_sub hl [5, 6, 7, 8, 1, 0] rfl)
                · refine lv_pop hx hb dX6_perform_148 rfl ?_
                  obtain ⟨x65, ex65⟩ : ∃ z : Int32, z = y4 + 3 := ⟨_, rfl⟩
                  refine lv_iinc (v := x65) (lv' := [(4, .int x65), (8, .int x49), (7, .int x47), (6, .int x45), (0, .ref (b + 55)), (1, .ref (b + k)), (2, .ref (b + 59)), (3, .ref (b + 1)), (5, .int y5)]) hx hb dX6_perform_149 hl (k := 7) rfl (by rw [ex65]; rfl) (by decide) rfl (fun ls hl => ?_)
                  have tx65 : x65.toInt = y4.toInt + 3 := m_addI ex65 (rfl : y4.toInt = _) (by decide : (3 : Int32).toInt = 3) (by omega) (by omega)
                  refine lv_goto (tgt := 300) hx hb dX6_perform_152 (by decide) ?_
                  obtain ⟨x66, ex66⟩ : ∃ z : Int32, z = y5 + 1 := ⟨_, rfl⟩
                  refine lv_iinc (v := x66) (lv' := [(5, .int x66), (4, .int x65), (8, .int x49), (7, .int x47), (6, .int x45), (0, .ref (b + 55)), (1, .ref (b + k)), (2, .ref (b + 59)), (3, .ref (b + 1))]) hx hb dX6_perform_300 hl (k := 8) rfl (by rw [ex66]; rfl) (by decide) rfl (fun ls hl => ?_)
                  have tx66 : x66.toInt = y5.toInt + 1 := m_addI ex66 (rfl : y5.toInt = _) (by decide : (1 : Int32).toInt = 1) (by omega) (by omega)
                  refine lv_goto (tgt := 21) hx hb dX6_perform_303 (by decide) ?_
                  exact ih x65 x66 (by omega) (by omega) μ62 hI _ _ hW ls (lv_sub hl [5, 6, 7, 8, 1, 0] rfl)
              · refine lv_tableIn (off := 60) (tgt := 155) hx hb dX6_perform_95 (fun z => c54 (Or.inl z)) (fun z => c54 (Or.inr z)) (by rw [q54]; rfl) (by decide) ?_
                refine lv_aload_n hx hb dX6_perform_155 rfl (lv_at hl 3 rfl) ?_
                refine lv_aload_n hx hb dX6_perform_156 rfl (lv_at hl 5 rfl) ?_
                refine lv_aload_n hx hb dX6_perform_157 rfl (lv_at hl 6 rfl) ?_
                refine lv_iload hx hb dX6_perform_158 (lv_at hl 1 rfl) ?_
                refine lv_iload hx hb dX6_perform_160 (lv_at hl 0 rfl) ?_
                refine m_aV hW (m_runV (As := [.ref (b + 59), .ref (b + 1), .int x47, .int x49]) (rest := []) hx hb hml hown hts hW (55) (g_X6_travel_55 l D cy b S μ0 hS8 x47 x49 μ53 hI) mi_X6_travel k_X6_43 rfl rfl rfl hl.1 rfl (Nat.le_of_ble_eq_true rfl) dX6_perform_162 ⟨Nat.le_of_ble_eq_true rfl, Nat.le_of_ble_eq_true rfl⟩ ⟨Nat.le_of_ble_eq_true rfl, Nat.le_of_ble_eq_true rfl⟩) (fun μ67 H locs q67 hW => ?_)
                obtain ⟨hI, q67⟩ := q67
                obtain ⟨x68, ex68⟩ : ∃ z : Int32, z = y4 + 3 := ⟨_, rfl⟩
                refine lv_iinc (v := x68) (lv' := [(4, .int x68), (8, .int x49), (7, .int x47), (6, .int x45), (0, .ref (b + 55)), (1, .ref (b + k)), (2, .ref (b + 59)), (3, .ref (b + 1)), (5, .int y5)]) hx hb dX6_perform_165 hl (k := 7) rfl (by rw [ex68]; rfl) (by decide) rfl (fun ls hl => ?_)
                have tx68 : x68.toInt = y4.toInt + 3 := m_addI ex68 (rfl : y4.toInt = _) (by decide : (3 : Int32).toInt = 3) (by omega) (by omega)
                refine lv_goto (tgt := 300) hx hb dX6_perform_168 (by decide) ?_
                obtain ⟨x69, ex69⟩ : ∃ z : Int32, z = y5 + 1 := ⟨_, rfl⟩
                refine lv_iinc (v := x69) (lv' := [(5, .int x69), (4, .int x68), (8, .int x49), (7, .int x47), (6, .int x45), (0, .ref (b + 55)), (1, .ref (b + k)), (2, .ref (b + 59)), (3, .ref (b + 1))]) hx hb dX6_perform_300 hl (k := 8) rfl (by rw [ex69]; rfl) (by decide) rfl (fun ls hl => ?_)
                have tx69 : x69.toInt = y5.toInt + 1 := m_addI ex69 (rfl : y5.toInt = _) (by decide : (1 : Int32).toInt = 1) (by omega) (by omega)
                refine lv_goto (tgt := 21) hx hb dX6_perform_303 (by decide) ?_
                exact ih x68 x69 (by omega) (by omega) μ67 hI _ _ hW ls (lv_sub hl [5, 6, 7, 8, 1, 0] rfl)
              · refine lv_tableIn (off := 76) (tgt := 171) hx hb dX6_perform_95 (fun z => c54 (Or.inl z)) (fun z => c54 (Or.inr z)) (by rw [q54]; rfl) (by decide) ?_
                refine lv_aload_n hx hb dX6_perform_171 rfl (lv_at hl 3 rfl) ?_
                refine lv_aload_n hx hb dX6_perform_172 rfl (lv_at hl 5 rfl) ?_
                refine lv_aload_n hx hb dX6_perform_173 rfl (lv_at hl 6 rfl) ?_
                refine lv_iload hx hb dX6_perform_174 (lv_at hl 1 rfl) ?_
                refine m_aV hW (m_runV (As := [.ref (b + 59), .ref (b + 1), .int x47]) (rest := []) hx hb hml hown hts hW (55) (g_X6_stay_55 l D cy b S μ0 hS8 x47 μ53 hI) mi_X6_stay k_X6_47 rfl rfl rfl hl.1 rfl (Nat.le_of_ble_eq_true rfl) dX6_perform_176 ⟨Nat.le_of_ble_eq_true rfl, Nat.le_of_ble_eq_true rfl⟩ ⟨Nat.le_of_ble_eq_true rfl, Nat.le_of_ble_eq_true rfl⟩) (fun μ70 H locs q70 hW => ?_)
                obtain ⟨hI, q70⟩ := q70
                obtain ⟨x71, ex71⟩ : ∃ z : Int32, z = y4 + 2 := ⟨_, rfl⟩
                refine lv_iinc (v := x71) (lv' := [(4, .int x71), (8, .int x49), (7, .int x47), (6, .int x45), (0, .ref (b + 55)), (1, .ref (b + k)), (2, .ref (b + 59)), (3, .ref (b + 1)), (5, .int y5)]) hx hb dX6_perform_179 hl (k := 7) rfl (by rw [ex71]; rfl) (by decide) rfl (fun ls hl => ?_)
                have tx71 : x71.toInt = y4.toInt + 2 := m_addI ex71 (rfl : y4.toInt = _) (by decide : (2 : Int32).toInt = 2) (by omega) (by omega)
                refine lv_goto (tgt := 300) hx hb dX6_perform_182 (by decide) ?_
                obtain ⟨x72, ex72⟩ : ∃ z : Int32, z = y5 + 1 := ⟨_, rfl⟩
                refine lv_iinc (v := x72) (lv' := [(5, .int x72), (4, .int x71), (8, .int x49), (7, .int x47), (6, .int x45), (0, .ref (b + 55)), (1, .ref (b + k)), (2, .ref (b + 59)), (3, .ref (b + 1))]) hx hb dX6_perform_300 hl (k := 8) rfl (by rw [ex72]; rfl) (by decide) rfl (fun ls hl => ?_)
                have tx72 : x72.toInt = y5.toInt + 1 := m_addI ex72 (rfl : y5.toInt = _) (by decide : (1 : Int32).toInt = 1) (by omega) (by omega)
                refine lv_goto (tgt := 21) hx hb dX6_perform_303 (by decide) ?_
                exact ih x71 x72 (by omega) (by omega) μ70 hI _ _ hW ls (lv_sub hl [5, 6, 7, 8, 1, 0] rfl)
              · refine lv_tableIn (off := 90) (tgt := 185) hx hb dX6_perform_95 (fun z => c54 (Or.inl z)) (fun z => c54 (Or.inr z)) (by rw [q54]; rfl) (by decide) ?_
                refine lv_aload_n hx hb dX6_perform_185 rfl (lv_at hl 5 rfl) ?_
                refine m_getr hx hb hts hown hW (59) 10 (60) rfl rfl cw_3 rfl (by decide) k_X6_51 dX6_perform_186 ?_
                refine lv_iload hx hb dX6_perform_189 (lv_at hl 1 rfl) ?_
                refine m_puti hx hb hts hown hW (60) 3 rfl rfl cw_1 tyX1_ok nmX1 rfl (by decide) k_X6_55 rfl rfl rfl dX6_perform_191 (fun H locs hW _ => ?_)
                generalize hμ73 : m_si μ53 (60) 3 x47 = μ73 at hW
                have hI := hI.si0 hμ73 rfl hS8
                obtain ⟨x74, ex74⟩ : ∃ z : Int32, z = y4 + 2 := ⟨_, rfl⟩
                refine lv_iinc (v := x74) (lv' := [(4, .int x74), (8, .int x49), (7, .int x47), (6, .int x45), (0, .ref (b + 55)), (1, .ref (b + k)), (2, .ref (b + 59)), (3, .ref (b + 1)), (5, .int y5)]) hx hb dX6_perform_194 hl (k := 7) rfl (by rw [ex74]; rfl) (by decide) rfl (fun ls hl => ?_)
                have tx74 : x74.toInt = y4.toInt + 2 := m_addI ex74 (rfl : y4.toInt = _) (by decide : (2 : Int32).toInt = 2) (by omega) (by omega)
                refine lv_goto (tgt := 300) hx hb dX6_perform_197 (by decide) ?_
                obtain ⟨x75, ex75⟩ : ∃ z : Int32, z = y5 + 1 := ⟨_, rfl⟩
                refine lv_iinc (v := x75) (lv' := [(5, .int x75), (4, .int x74), (8, .int x49), (7, .int x47), (6, .int x45), (0, .ref (b + 55)), (1, .ref (b + k)), (2, .ref (b + 59)), (3, .ref (b + 1))]) hx hb dX6_perform_300 hl (k := 8) rfl (by rw [ex75]; rfl) (by decide) rfl (fun ls hl => ?_)
                have tx75 : x75.toInt = y5.toInt + 1 := m_addI ex75 (rfl : y5.toInt = _) (by decide : (1 : Int32).toInt = 1) (by omega) (by omega)
                refine lv_goto (tgt := 21) hx hb dX6_perform_303 (by decide) ?_
                exact ih x74 x75 (by omega) (by omega) μ73 hI _ _ hW ls (lv_sub hl [5, 6, 7, 8, 1, 0] rfl)
              · refine lv_tableIn (off := 105) (tgt := 200) hx hb dX6_perform_95 (fun z => c54 (Or.inl z)) (fun z => c54 (Or.inr z)) (by rw [q54]; rfl) (by decide) ?_
                refine lv_aload_n hx hb dX6_perform_200 rfl (lv_at hl 3 rfl) ?_
                refine lv_iload hx hb dX6_perform_201 (lv_at hl 0 rfl) ?_
                refine lv_iload hx hb dX6_perform_203 (lv_at hl 1 rfl) ?_
                refine m_aV hW (m_runV (As := [.int x49, .int x47]) (rest := []) hx hb hml hown hts hW (55) (g_X6_setTurns_55 l D cy b S μ0 hS8 x49 x47 μ53 hI) mi_X6_setTurns k_X6_60 rfl rfl rfl hl.1 rfl (Nat.le_of_ble_eq_true rfl) dX6_perform_205 ⟨Nat.le_of_ble_eq_true rfl, Nat.le_of_ble_eq_true rfl⟩ ⟨Nat.le_of_ble_eq_true rfl, Nat.le_of_ble_eq_true rfl⟩) (fun μ76 H locs q76 hW => ?_)
                obtain ⟨hI, q76⟩ := q76
                obtain ⟨x77, ex77⟩ : ∃ z : Int32, z = y4 + 3 := ⟨_, rfl⟩
                refine lv_iinc (v := x77) (lv' := [(4, .int x77), (8, .int x49), (7, .int x47), (6, .int x45), (0, .ref (b + 55)), (1, .ref (b + k)), (2, .ref (b + 59)), (3, .ref (b + 1)), (5, .int y5)]) hx hb dX6_perform_208 hl (k := 7) rfl (by rw [ex77]; rfl) (by decide) rfl (fun ls hl => ?_)
                have tx77 : x77.toInt = y4.toInt + 3 := m_addI ex77 (rfl : y4.toInt = _) (by decide : (3 : Int32).toInt = 3) (by omega) (by omega)
                refine lv_goto (tgt := 300) hx hb dX6_perform_211 (by decide) ?_
                obtain ⟨x78, ex78⟩ : ∃ z : Int32, z = y5 + 1 := ⟨_, rfl⟩
                refine lv_iinc (v := x78) (lv' := [(5, .int x78), (4, .int x77), (8, .int x49), (7, .int x47), (6, .int x45), (0, .ref (b + 55)), (1, .ref (b + k)), (2, .ref (b + 59)), (3, .ref (b + 1))]) hx hb dX6_perform_300 hl (k := 8) rfl (by rw [ex78]; rfl) (by decide) rfl (fun ls hl => ?_)
                have tx78 : x78.toInt = y5.toInt + 1 := m_addI ex78 (rfl : y5.toInt = _) (by decide : (1 : Int32).toInt = 1) (by omega) (by omega)
                refine lv_goto (tgt := 21) hx hb dX6_perform_303 (by decide) ?_
                exact ih x77 x78 (by omega) (by omega) μ76 hI _ _ hW ls (lv_sub hl [5, 6, 7, 8, 1, 0] rfl)
              · refine lv_tableIn (off := 156) (tgt := 251) hx hb dX6_perform_95 (fun z => c54 (Or.inl z)) (fun z => c54 (Or.inr z)) (by rw [q54]; rfl) (by decide) ?_
                refine lv_aload_n hx hb dX6_perform_251 rfl (lv_at hl 3 rfl) ?_
                refine lv_aload_n hx hb dX6_perform_252 rfl (lv_at hl 4 rfl) ?_
                refine lv_iload hx hb dX6_perform_253 (lv_at hl 7 rfl) ?_
                refine lv_aload_n hx hb dX6_perform_255 rfl (lv_at hl 5 rfl) ?_
                refine m_aI hW (m_runV (As := [.ref (b + k), .int y4, .ref (b + 59)]) (rest := []) hx hb hml hown hts hW (55) (g_X6_isSo_55 l D cy b k k1 n hk hk1 hn hb1 hb0 y4 μ53 hI.1) mi_X6_isSo k_X6_67 rfl rfl rfl hl.1 rfl (Nat.le_of_ble_eq_true rfl) dX6_perform_256 ⟨Nat.le_of_ble_eq_true rfl, Nat.le_of_ble_eq_true rfl⟩ ⟨Nat.le_of_ble_eq_true rfl, Nat.le_of_ble_eq_true rfl⟩) (fun x79 μ79 H locs q79 hW => ?_)
                obtain ⟨q79_m, q79⟩ := q79
                subst q79_m
                rcases q79 with ⟨rfl, q79⟩ | ⟨rfl, q79⟩
                · refine lv_if_eq (tgt := 271) hx hb dX6_perform_259 (by decide) (fun c => False.elim (by revert c; decide)) (fun _ => ?_)
                  refine lv_aload_n hx hb dX6_perform_262 rfl (lv_at hl 4 rfl) ?_
                  refine lv_iload hx hb dX6_perform_263 (lv_at hl 7 rfl) ?_
                  refine m_aI hW (m_runS (As := [.ref (b + k), .int y4]) (rest := []) hx hb hml hown hts hW (g_X6_stepOfIf l D cy b k k1 n hk hk1 hn hb1 hb0 y4 μ53 hI.1) ms_X6_stepOfIf k_X6_71 rfl hl.1 rfl (Nat.le_of_ble_eq_true rfl) dX6_perform_265 ⟨Nat.le_of_ble_eq_true rfl, Nat.le_of_ble_eq_true rfl⟩ ⟨Nat.le_of_ble_eq_true rfl, Nat.le_of_ble_eq_true rfl⟩) (fun x80 μ80 H locs q80 hW => ?_)
                  obtain ⟨q80_m, q80⟩ := q80
                  subst q80_m
                  refine lv_goto (tgt := 273) hx hb dX6_perform_268 (by decide) ?_
                  refine lv_istore (lv' := [(4, .int x80), (8, .int x49), (7, .int x47), (6, .int x45), (0, .ref (b + 55)), (1, .ref (b + k)), (2, .ref (b + 59)), (3, .ref (b + 1)), (5, .int y5)]) hx hb dX6_perform_273 hl (by decide) rfl (fun ls hl => ?_)
                  refine lv_goto (tgt := 300) hx hb dX6_perform_275 (by decide) ?_
                  obtain ⟨x81, ex81⟩ : ∃ z : Int32, z = y5 + 1 := ⟨_, rfl⟩
                  refine lv_iinc (v := x81) (lv' := [(5, .int x81), (4, .int x80), (8, .int x49), (7, .int x47), (6, .int x45), (0, .ref (b + 55)), (1, .ref (b + k)), (2, .ref (b + 59)), (3, .ref (b + 1))]) hx hb dX6_perform_300 hl (k := 8) rfl (by rw [ex81]; rfl) (by decide) rfl (fun ls hl => ?_)
                  have tx81 : x81.toInt = y5.toInt + 1 := m_addI ex81 (rfl : y5.toInt = _) (by decide : (1 : Int32).toInt = 1) (by omega) (by omega)
                  refine lv_goto (tgt := 21) hx hb dX6_perform_303 (by decide) ?_
                  exact ih x80 x81 (by omega) (by omega) μ53 hI _ _ hW ls (lv_sub hl [5, 6, 7, 8, 1, 0] rfl)
                · refine lv_if_eq (tgt := 271) hx hb dX6_perform_259 (by decide) (fun _ => ?_) (fun c => False.elim (by revert c; decide))
                  refine lv_iload hx hb dX6_perform_271 (lv_at hl 1 rfl) ?_
                  refine lv_istore (lv' := [(4, .int x47), (8, .int x49), (7, .int x47), (6, .int x45), (0, .ref (b + 55)), (1, .ref (b + k)), (2, .ref (b + 59)), (3, .ref (b + 1)), (5, .int y5)]) hx hb dX6_perform_273 hl (by decide) rfl (fun ls hl => ?_)
                  refine lv_goto (tgt := 300) hx hb dX6_perform_275 (by decide) ?_
                  obtain ⟨x82, ex82⟩ : ∃ z : Int32, z = y5 + 1 := ⟨_, rfl⟩
                  refine lv_iinc (v := x82) (lv' := [(5, .int x82), (4, .int x47), (8, .int x49), (7, .int x47), (6, .int x45), (0, .ref (b + 55)), (1, .ref (b + k)), (2, .ref (b + 59)), (3, .ref (b + 1))]) hx hb dX6_perform_300 hl (k := 8) rfl (by rw [ex82]; rfl) (by decide) rfl (fun ls hl => ?_)
                  have tx82 : x82.toInt = y5.toInt + 1 := m_addI ex82 (rfl : y5.toInt = _) (by decide : (1 : Int32).toInt = 1) (by omega) (by omega)
                  refine lv_goto (tgt := 21) hx hb dX6_perform_303 (by decide) ?_
                  exact ih x47 x82 (by omega) (by omega) μ53 hI _ _ hW ls (lv_sub hl [5, 6, 7, 8, 1, 0] rfl)
              · refine lv_tableIn (off := 183) (tgt := 278) hx hb dX6_perform_95 (fun z => c54 (Or.inl z)) (fun z => c54 (Or.inr z)) (by rw [q54]; rfl) (by decide) ?_
                refine lv_aload_n hx hb dX6_perform_278 rfl (lv_at hl 5 rfl) ?_
                refine m_getr hx hb hts hown hW (59) 10 (60) rfl rfl cw_3 rfl (by decide) k_X6_51 dX6_perform_279 ?_
                refine lv_iload hx hb dX6_perform_282 (lv_at hl 2 rfl) ?_
                refine lv_bipush (v := 9) hx hb dX6_perform_284 (by decide) ?_
                refine lv_icmp_ne (tgt := 293) hx hb dX6_perform_286 (by decide) (fun c83 => ?_) (fun c83 => ?_)
                · have i83 := m_c6 (rfl : x45.toInt = _) (by decide : (9 : Int32).toInt = 9) c83
                  refine lv_iconst (v := 0) hx hb dX6_perform_293 (by decide) ?_
                  refine m_puti hx hb hts hown hW (60) 2 rfl rfl cw_1 tyX1_ok nmX1 rfl (by decide) k_X6_75 rfl (by decide) rfl dX6_perform_294 (fun H locs hW _ => ?_)
                  generalize hμ84 : m_si μ53 (60) 2 0 = μ84 at hW
                  have hI := hI.si1 hμ84 rfl (by decide) hS8
                  obtain ⟨x85, ex85⟩ : ∃ z : Int32, z = y4 + 1 := ⟨_, rfl⟩
                  refine lv_iinc (v := x85) (lv' := [(4, .int x85), (8, .int x49), (7, .int x47), (6, .int x45), (0, .ref (b + 55)), (1, .ref (b + k)), (2, .ref (b + 59)), (3, .ref (b + 1)), (5, .int y5)]) hx hb dX6_perform_297 hl (k := 7) rfl (by rw [ex85]; rfl) (by decide) rfl (fun ls hl => ?_)
                  have tx85 : x85.toInt = y4.toInt + 1 := m_addI ex85 (rfl : y4.toInt = _) (by decide : (1 : Int32).toInt = 1) (by omega) (by omega)
                  obtain ⟨x86, ex86⟩ : ∃ z : Int32, z = y5 + 1 := ⟨_, rfl⟩
                  refine lv_iinc (v := x86) (lv' := [(5, .int x86), (4, .int x85), (8, .int x49), (7, .int x47), (6, .int x45), (0, .ref (b + 55)), (1, .ref (b + k)), (2, .ref (b + 59)), (3, .ref (b + 1))]) hx hb dX6_perform_300 hl (k := 8) rfl (by rw [ex86]; rfl) (by decide) rfl (fun ls hl => ?_)
                  have tx86 : x86.toInt = y5.toInt + 1 := m_addI ex86 (rfl : y5.toInt = _) (by decide : (1 : Int32).toInt = 1) (by omega) (by omega)
                  refine lv_goto (tgt := 21) hx hb dX6_perform_303 (by decide) ?_
                  exact ih x85 x86 (by omega) (by omega) μ84 hI _ _ hW ls (lv_sub hl [5, 6, 7, 8, 1, 0] rfl)
                · have i83 := m_c5 (rfl : x45.toInt = _) (by decide : (9 : Int32).toInt = 9) c83
                  exfalso; omega
              · refine lv_tableIn (off := 119) (tgt := 214) hx hb dX6_perform_95 (fun z => c54 (Or.inl z)) (fun z => c54 (Or.inr z)) (by rw [q54]; rfl) (by decide) ?_
                refine lv_aload_n hx hb dX6_perform_214 rfl (lv_at hl 3 rfl) ?_
                refine lv_iload hx hb dX6_perform_215 (lv_at hl 1 rfl) ?_
                refine lv_aload_n hx hb dX6_perform_217 rfl (lv_at hl 3 rfl) ?_
                refine lv_iload hx hb dX6_perform_218 (lv_at hl 1 rfl) ?_
                refine m_aI hW (m_runV (As := [.int x47]) (rest := [.int x47, .ref (b + 55)]) hx hb hml hown hts hW (55) (g_X6_turns_55 l D cy b x47 μ53 hI.1) mi_X6_turns k_X6_64 rfl rfl rfl hl.1 rfl (Nat.le_of_ble_eq_true rfl) dX6_perform_220 ⟨Nat.le_of_ble_eq_true rfl, Nat.le_of_ble_eq_true rfl⟩ ⟨Nat.le_of_ble_eq_true rfl, Nat.le_of_ble_eq_true rfl⟩) (fun x87 μ87 H locs q87 hW => ?_)
                obtain ⟨q87_m, q87⟩ := q87
                subst q87_m
                refine lv_iconst (v := 1) hx hb dX6_perform_223 (by decide) ?_
                refine lv_isub hx hb dX6_perform_224 ?_
                refine lv_topi (fun x88 ex88 => ?_)
                refine m_aV hW (m_runV (As := [.int x47, .int x88]) (rest := []) hx hb hml hown hts hW (55) (g_X6_setTurns_55 l D cy b S μ0 hS8 x47 x88 μ53 hI) mi_X6_setTurns k_X6_60 rfl rfl rfl hl.1 rfl (Nat.le_of_ble_eq_true rfl) dX6_perform_225 ⟨Nat.le_of_ble_eq_true rfl, Nat.le_of_ble_eq_true rfl⟩ ⟨Nat.le_of_ble_eq_true rfl, Nat.le_of_ble_eq_true rfl⟩) (fun μ89 H locs q89 hW => ?_)
                obtain ⟨hI, q89⟩ := q89
                refine lv_aload_n hx hb dX6_perform_228 rfl (lv_at hl 3 rfl) ?_
                refine lv_iload hx hb dX6_perform_229 (lv_at hl 1 rfl) ?_
                refine m_aI hW (m_runV (As := [.int x47]) (rest := []) hx hb hml hown hts hW (55) (g_X6_turns_55 l D cy b x47 μ89 hI.1) mi_X6_turns k_X6_64 rfl rfl rfl hl.1 rfl (Nat.le_of_ble_eq_true rfl) dX6_perform_231 ⟨Nat.le_of_ble_eq_true rfl, Nat.le_of_ble_eq_true rfl⟩ ⟨Nat.le_of_ble_eq_true rfl, Nat.le_of_ble_eq_true rfl⟩) (fun x90 μ90 H locs q90 hW => ?_)
                obtain ⟨q90_m, q90⟩ := q90
                subst q90_m
                refine lv_if_le (tgt := 242) hx hb dX6_perform_234 (by decide) (fun c91 => ?_) (fun c91 => ?_)
                · have i91 := m_c3 (rfl : x90.toInt = _) (by decide : (0 : Int32).toInt = 0) c91
                  refine lv_iload hx hb dX6_perform_242 (lv_at hl 7 rfl) ?_
                  refine lv_iconst (v := 3) hx hb dX6_perform_244 (by decide) ?_
                  refine lv_iadd hx hb dX6_perform_245 ?_
                  refine lv_topi (fun x92 ex92 => ?_)
                  have tx92 : x92.toInt = y4.toInt + 3 := m_addI ex92 (rfl : y4.toInt = _) (by decide : (3 : Int32).toInt = 3) (by omega) (by omega)
                  refine lv_istore (lv' := [(4, .int x92), (8, .int x49), (7, .int x47), (6, .int x45), (0, .ref (b + 55)), (1, .ref (b + k)), (2, .ref (b + 59)), (3, .ref (b + 1)), (5, .int y5)]) hx hb dX6_perform_246 hl (by decide) rfl (fun ls hl => ?_)
                  refine lv_goto (tgt := 300) hx hb dX6_perform_248 (by decide) ?_
                  obtain ⟨x93, ex93⟩ : ∃ z : Int32, z = y5 + 1 := ⟨_, rfl⟩
                  refine lv_iinc (v := x93) (lv' := [(5, .int x93), (4, .int x92), (8, .int x49), (7, .int x47), (6, .int x45), (0, .ref (b + 55)), (1, .ref (b + k)), (2, .ref (b + 59)), (3, .ref (b + 1))]) hx hb dX6_perform_300 hl (k := 8) rfl (by rw [ex93]; rfl) (by decide) rfl (fun ls hl => ?_)
                  have tx93 : x93.toInt = y5.toInt + 1 := m_addI ex93 (rfl : y5.toInt = _) (by decide : (1 : Int32).toInt = 1) (by omega) (by omega)
                  refine lv_goto (tgt := 21) hx hb dX6_perform_303 (by decide) ?_
                  exact ih x92 x93 (by omega) (by omega) μ89 hI _ _ hW ls (lv_sub hl [5, 6, 7, 8, 1, 0] rfl)
                · have i91 := m_c4 (rfl : x90.toInt = _) (by decide : (0 : Int32).toInt = 0) c91
                  refine lv_iload hx hb dX6_perform_237 (lv_at hl 0 rfl) ?_
                  refine lv_goto (tgt := 246) hx hb dX6_perform_239 (by decide) ?_
                  refine lv_istore (lv' := [(4, .int x49), (8, .int x49), (7, .int x47), (6, .int x45), (0, .ref (b + 55)), (1, .ref (b + k)), (2, .ref (b + 59)), (3, .ref (b + 1)), (5, .int y5)]) hx hb dX6_perform_246 hl (by decide) rfl (fun ls hl => ?_)
                  refine lv_goto (tgt := 300) hx hb dX6_perform_248 (by decide) ?_
                  obtain ⟨x94, ex94⟩ : ∃ z : Int32, z = y5 + 1 := ⟨_, rfl⟩
                  refine lv_iinc (v := x94) (lv' := [(5, .int x94), (4, .int x49), (8, .int x49), (7, .int x47), (6, .int x45), (0, .ref (b + 55)), (1, .ref (b + k)), (2, .ref (b + 59)), (3, .ref (b + 1))]) hx hb dX6_perform_300 hl (k := 8) rfl (by rw [ex94]; rfl) (by decide) rfl (fun ls hl => ?_)
                  have tx94 : x94.toInt = y5.toInt + 1 := m_addI ex94 (rfl : y5.toInt = _) (by decide : (1 : Int32).toInt = 1) (by omega) (by omega)
                  refine lv_goto (tgt := 21) hx hb dX6_perform_303 (by decide) ?_
                  exact ih x49 x94 (by omega) (by omega) μ89 hI _ _ hW ls (lv_sub hl [5, 6, 7, 8, 1, 0] rfl)
          · have i51 := m_c5 (rfl : x45.toInt = _) (by decide : (18 : Int32).toInt = 18) c51
            refine lv_iconst (v := 0) hx hb dX6_perform_84 (by decide) ?_
            refine lv_goto (tgt := 89) hx hb dX6_perform_85 (by decide) ?_
            refine lv_isub hx hb dX6_perform_89 ?_
            refine lv_topi (fun x95 ex95 => ?_)
            have r_x30 := m_rng x30
            have tx95 : x95.toInt = x30.toInt - 0 := m_subI ex95 (rfl : x30.toInt = _) (by decide : (0 : Int32).toInt = 0) (by omega) (by omega)
            refine m_puti hx hb hts hown hW (55) 1 rfl rfl cw_6 tyX6_ok nmX6 rfl (by decide) k_X6_15 rfl rfl rfl dX6_perform_90 (fun H locs hW _ => ?_)
            generalize hμ96 : m_si μ (55) 1 x95 = μ96 at hW
            have hI := hI.si0 hμ96 rfl hS8
            refine lv_iload hx hb dX6_perform_93 (lv_at hl 2 rfl) ?_
            by_cases c97 : x45.toInt < 11 ∨ 18 < x45.toInt
            · refine lv_tableOut (tgt := 278) hx hb dX6_perform_95 c97 (by decide) ?_
              refine lv_aload_n hx hb dX6_perform_278 rfl (lv_at hl 5 rfl) ?_
              refine m_getr hx hb hts hown hW (59) 10 (60) rfl rfl cw_3 rfl (by decide) k_X6_51 dX6_perform_279 ?_
              refine lv_iload hx hb dX6_perform_282 (lv_at hl 2 rfl) ?_
              refine lv_bipush (v := 9) hx hb dX6_perform_284 (by decide) ?_
              refine lv_icmp_ne (tgt := 293) hx hb dX6_perform_286 (by decide) (fun c98 => ?_) (fun c98 => ?_)
              · have i98 := m_c6 (rfl : x45.toInt = _) (by decide : (9 : Int32).toInt = 9) c98
                refine lv_iconst (v := 0) hx hb dX6_perform_293 (by decide) ?_
                refine m_puti hx hb hts hown hW (60) 2 rfl rfl cw_1 tyX1_ok nmX1 rfl (by decide) k_X6_75 rfl (by decide) rfl dX6_perform_294 (fun H locs hW _ => ?_)
                generalize hμ99 : m_si μ96 (60) 2 0 = μ99 at hW
                have hI := hI.si1 hμ99 rfl (by decide) hS8
                obtain ⟨x100, ex100⟩ : ∃ z : Int32, z = y4 + 1 := ⟨_, rfl⟩
                refine lv_iinc (v := x100) (lv' := [(4, .int x100), (8, .int x49), (7, .int x47), (6, .int x45), (0, .ref (b + 55)), (1, .ref (b + k)), (2, .ref (b + 59)), (3, .ref (b + 1)), (5, .int y5)]) hx hb dX6_perform_297 hl (k := 7) rfl (by rw [ex100]; rfl) (by decide) rfl (fun ls hl => ?_)
                have tx100 : x100.toInt = y4.toInt + 1 := m_addI ex100 (rfl : y4.toInt = _) (by decide : (1 : Int32).toInt = 1) (by omega) (by omega)
                obtain ⟨x101, ex101⟩ : ∃ z : Int32, z = y5 + 1 := ⟨_, rfl⟩
                refine lv_iinc (v := x101) (lv' := [(5, .int x101), (4, .int x100), (8, .int x49), (7, .int x47), (6, .int x45), (0, .ref (b + 55)), (1, .ref (b + k)), (2, .ref (b + 59)), (3, .ref (b + 1))]) hx hb dX6_perform_300 hl (k := 8) rfl (by rw [ex101]; rfl) (by decide) rfl (fun ls hl => ?_)
                have tx101 : x101.toInt = y5.toInt + 1 := m_addI ex101 (rfl : y5.toInt = _) (by decide : (1 : Int32).toInt = 1) (by omega) (by omega)
                refine lv_goto (tgt := 21) hx hb dX6_perform_303 (by decide) ?_
                exact ih x100 x101 (by omega) (by omega) μ99 hI _ _ hW ls (lv_sub hl [5, 6, 7, 8, 1, 0] rfl)
              · have i98 := m_c5 (rfl : x45.toInt = _) (by decide : (9 : Int32).toInt = 9) c98
                exfalso; omega
            · have q97 : x45.toInt = 11 ∨ x45.toInt = 12 ∨ x45.toInt = 13 ∨ x45.toInt = 14 ∨ x45.toInt = 15 ∨ x45.toInt = 16 ∨ x45.toInt = 17 ∨ x45.toInt = 18 := by omega
              rcases q97 with q97 | q97 | q97 | q97 | q97 | q97 | q97 | q97
              · refine lv_tableIn (off := 45) (tgt := 140) hx hb dX6_perform_95 (fun z => c97 (Or.inl z)) (fun z => c97 (Or.inr z)) (by rw [q97]; rfl) (by decide) ?_
                refine lv_aload_n hx hb dX6_perform_140 rfl (lv_at hl 5 rfl) ?_
                refine lv_iload hx hb dX6_perform_141 (lv_at hl 1 rfl) ?_
                refine lv_iload hx hb dX6_perform_143 (lv_at hl 0 rfl) ?_
                refine m_aI hW (m_runV (As := [.int x47, .int x49]) (rest := []) hx hb hml hown hts hW (59) (g_X3_moveHead_59 l D cy b S μ0 hS8 x47 x49 μ96 hI) mi_X3_moveHead k_X6_39 rfl rfl rfl hl.1 rfl (Nat.le_of_ble_eq_true rfl) dX6_perform_145 ⟨Nat.le_of_ble_eq_true rfl, Nat.le_of_ble_eq_true rfl⟩ ⟨Nat.le_of_ble_eq_true rfl, Nat.le_of_ble_eq_true rfl⟩) (fun x102 μ102 H locs q102 hW => ?_)
                obtain ⟨hI, q102⟩ := q102
                rcases q102 with ⟨rfl, q102⟩ | ⟨rfl, q102⟩
                · refine lv_pop hx hb dX6_perform_148 rfl ?_
                  obtain ⟨x103, ex103⟩ : ∃ z : Int32, z = y4 + 3 := ⟨_, rfl⟩
                  refine lv_iinc (v := x103) (lv' := [(4, .int x103), (8, .int x49), (7, .int x47), (6, .int x45), (0, .ref (b + 55)), (1, .ref (b + k)), (2, .ref (b + 59)), (3, .ref (b + 1)), (5, .int y5)]) hx hb dX6_perform_149 hl (k := 7) rfl (by rw [ex103]; rfl) (by decide) rfl (fun ls hl => ?_)
                  have tx103 : x103.toInt = y4.toInt + 3 := m_addI ex103 (rfl : y4.toInt = _) (by decide : (3 : Int32).toInt = 3) (by omega) (by omega)
                  refine lv_goto (tgt := 300) hx hb dX6_perform_152 (by decide) ?_
                  obtain ⟨x104, ex104⟩ : ∃ z : Int32, z = y5 + 1 := ⟨_, rfl⟩
                  refine lv_iinc (v := x104) (lv' := [(5, .int x104), (4, .int x103), (8, .int x49), (7, .int x47), (6, .int x45), (0, .ref (b + 55)), (1, .ref (b + k)), (2, .ref (b + 59)), (3, .ref (b + 1))]) hx hb dX6_perform_300 hl (k := 8) rfl (by rw [ex104]; rfl) (by decide) rfl (fun ls hl => ?_)
                  have tx104 : x104.toInt = y5.toInt + 1 := m_addI ex104 (rfl : y5.toInt = _) (by decide : (1 : Int32).toInt = 1) (by omega) (by omega)
                  refine lv_goto (tgt := 21) hx hb dX6_perform_303 (by decide) ?_
                  exact ih x103 x104 (by omega) (by omega) μ102 hI _ _ hW ls (lv_sub hl [5, 6, 7, 8, 1, 0] rfl)
                · refine lv_pop hx hb dX6_perform_148 rfl ?_
                  obtain ⟨x105, ex105⟩ : ∃ z : Int32, z = y4 + 3 := ⟨_, rfl⟩
                  refine lv_iinc (v := x105) (lv' := [(4, .int x105), (8, .int x49), (7, .int x47), (6, .int x45), (0, .ref (b + 55)), (1, .ref (b + k)), (2, .ref (b + 59)), (3, .ref (b + 1)), (5, .int y5)]) hx hb dX6_perform_149 hl (k := 7) rfl (by rw [ex105]; rfl) (by decide) rfl (fun ls hl => ?_)
                  have tx105 : x105.toInt = y4.toInt + 3 := m_addI ex105 (rfl : y4.toInt = _) (by decide : (3 : Int32).toInt = 3) (by omega) (by omega)
                  refine lv_goto (tgt := 300) hx hb dX6_perform_152 (by decide) ?_
                  obtain ⟨x106, ex106⟩ : ∃ z : Int32, z = y5 + 1 := ⟨_, rfl⟩
                  refine lv_iinc (v := x106) (lv' := [(5, .int x106), (4, .int x105), (8, .int x49), (7, .int x47), (6, .int x45), (0, .ref (b + 55)), (1, .ref (b + k)), (2, .ref (b + 59)), (3, .ref (b + 1))]) hx hb dX6_perform_300 hl (k := 8) rfl (by rw [ex106]; rfl) (by decide) rfl (fun ls hl => ?_)
                  have tx106 : x106.toInt = y5.toInt + 1 := m_addI ex106 (rfl : y5.toInt = _) (by decide : (1 : Int32).toInt = 1) (by omega) (by omega)
                  refine lv_goto (tgt := 21) hx hb dX6_perform_303 (by decide) ?_
                  exact ih x105 x106 (by omega) (by omega) μ102 hI _ _ hW ls (lv_sub hl [5, 6, 7, 8, 1, 0] rfl)
              · refine lv_tableIn (off := 60) (tgt := 155) hx hb dX6_perform_95 (fun z => c97 (Or.inl z)) (fun z => c97 (Or.inr z)) (by rw [q97]; rfl) (by decide) ?_
                refine lv_aload_n hx hb dX6_perform_155 rfl (lv_at hl 3 rfl) ?_
                refine lv_aload_n hx hb dX6_perform_156 rfl (lv_at hl 5 rfl) ?_
                refine lv_aload_n hx hb dX6_perform_157 rfl (lv_at hl 6 rfl) ?_
                refine lv_iload hx hb dX6_perform_158 (lv_at hl 1 rfl) ?_
                refine lv_iload hx hb dX6_perform_160 (lv_at hl 0 rfl) ?_
                refine m_aV hW (m_runV (As := [.ref (b + 59), .ref (b + 1), .int x47, .int x49]) (rest := []) hx hb hml hown hts hW (55) (g_X6_travel_55 l D cy b S μ0 hS8 x47 x49 μ96 hI) mi_X6_travel k_X6_43 rfl rfl rfl hl.1 rfl (Nat.le_of_ble_eq_true rfl) dX6_perform_162 ⟨Nat.le_of_ble_eq_true rfl, Nat.le_of_ble_eq_true rfl⟩ ⟨Nat.le_of_ble_eq_true rfl, Nat.le_of_ble_eq_true rfl⟩) (fun μ107 H locs q107 hW => ?_)
                obtain ⟨hI, q107⟩ := q107
                obtain ⟨x108, ex108⟩ : ∃ z : Int32, z = y4 + 3 := ⟨_, rfl⟩
                refine lv_iinc (v := x108) (lv' := [(4, .int x108), (8, .int x49), (7, .int x47), (6, .int x45), (0, .ref (b + 55)), (1, .ref (b + k)), (2, .ref (b + 59)), (3, .ref (b + 1)), (5, .int y5)]) hx hb dX6_perform_165 hl (k := 7) rfl (by rw [ex108]; rfl) (by decide) rfl (fun ls hl => ?_)
                have tx108 : x108.toInt = y4.toInt + 3 := m_addI ex108 (rfl : y4.toInt = _) (by decide : (3 : Int32).toInt = 3) (by omega) (by omega)
                refine lv_goto (tgt := 300) hx hb dX6_perform_168 (by decide) ?_
                obtain ⟨x109, ex109⟩ : ∃ z : Int32, z = y5 + 1 := ⟨_, rfl⟩
                refine lv_iinc (v := x109) (lv' := [(5, .int x109), (4, .int x108), (8, .int x49), (7, .int x47), (6, .int x45), (0, .ref (b + 55)), (1, .ref (b + k)), (2, .ref (b + 59)), (3, .ref (b + 1))]) hx hb dX6_perform_300 hl (k := 8) rfl (by rw [ex109]; rfl) (by decide) rfl (fun ls hl => ?_)
                have tx109 : x109.toInt = y5.toInt + 1 := m_addI ex109 (rfl : y5.toInt = _) (by decide : (1 : Int32).toInt = 1) (by omega) (by omega)
                refine lv_goto (tgt := 21) hx hb dX6_perform_303 (by decide) ?_
                exact ih x108 x109 (by omega) (by omega) μ107 hI _ _ hW ls (lv_sub hl [5, 6, 7, 8, 1, 0] rfl)
              · refine lv_tableIn (off := 76) (tgt := 171) hx hb dX6_perform_95 (fun z => c97 (Or.inl z)) (fun z => c97 (Or.inr z)) (by rw [q97]; rfl) (by decide) ?_
                refine lv_aload_n hx hb dX6_perform_171 rfl (lv_at hl 3 rfl) ?_
                refine lv_aload_n hx hb dX6_perform_172 rfl (lv_at hl 5 rfl) ?_
                refine lv_aload_n hx hb dX6_perform_173 rfl (lv_at hl 6 rfl) ?_
                refine lv_iload hx hb dX6_perform_174 (lv_at hl 1 rfl) ?_
                refine m_aV hW (m_runV (As := [.ref (b + 59), .ref (b + 1), .int x47]) (rest := []) hx hb hml hown hts hW (55) (g_X6_stay_55 l D cy b S μ0 hS8 x47 μ96 hI) mi_X6_stay k_X6_47 rfl rfl rfl hl.1 rfl (Nat.le_of_ble_eq_true rfl) dX6_perform_176 ⟨Nat.le_of_ble_eq_true rfl, Nat.le_of_ble_eq_true rfl⟩ ⟨Nat.le_of_ble_eq_true rfl, Nat.le_of_ble_eq_true rfl⟩) (fun μ110 H locs q110 hW => ?_)
                obtain ⟨hI, q110⟩ := q110
                obtain ⟨x111, ex111⟩ : ∃ z : Int32, z = y4 + 2 := ⟨_, rfl⟩
                refine lv_iinc (v := x111) (lv' := [(4, .int x111), (8, .int x49), (7, .int x47), (6, .int x45), (0, .ref (b + 55)), (1, .ref (b + k)), (2, .ref (b + 59)), (3, .ref (b + 1)), (5, .int y5)]) hx hb dX6_perform_179 hl (k := 7) rfl (by rw [ex111]; rfl) (by decide) rfl (fun ls hl => ?_)
                have tx111 : x111.toInt = y4.toInt + 2 := m_addI ex111 (rfl : y4.toInt = _) (by decide : (2 : Int32).toInt = 2) (by omega) (by omega)
                refine lv_goto (tgt := 300) hx hb dX6_perform_182 (by decide) ?_
                obtain ⟨x112, ex112⟩ : ∃ z : Int32, z = y5 + 1 := ⟨_, rfl⟩
                refine lv_iinc (v := x112) (lv' := [(5, .int x112), (4, .int x111), (8, .int x49), (7, .int x47), (6, .int x45), (0, .ref (b + 55)), (1, .ref (b + k)), (2, .ref (b + 59)), (3, .ref (b + 1))]) hx hb dX6_perform_300 hl (k := 8) rfl (by rw [ex112]; rfl) (by decide) rfl (fun ls hl => ?_)
                have tx112 : x112.toInt = y5.toInt + 1 := m_addI ex112 (rfl : y5.toInt = _) (by decide : (1 : Int32).toInt = 1) (by omega) (by omega)
                refine lv_goto (tgt := 21) hx hb dX6_perform_303 (by decide) ?_
                exact ih x111 x112 (by omega) (by omega) μ110 hI _ _ hW ls (lv_sub hl [5, 6, 7, 8, 1, 0] rfl)
              · refine lv_tableIn (off := 90) (tgt := 185) hx hb dX6_perform_95 (fun z => c97 (Or.inl z)) (fun z => c97 (Or.inr z)) (by rw [q97]; rfl) (by decide) ?_
                refine lv_aload_n hx hb dX6_perform_185 rfl (lv_at hl 5 rfl) ?_
                refine m_getr hx hb hts hown hW (59) 10 (60) rfl rfl cw_3 rfl (by decide) k_X6_51 dX6_perform_186 ?_
                refine lv_iload hx hb dX6_perform_189 (lv_at hl 1 rfl) ?_
                refine m_puti hx hb hts hown hW (60) 3 rfl rfl cw_1 tyX1_ok nmX1 rfl (by decide) k_X6_55 rfl rfl rfl dX6_perform_191 (fun H locs hW _ => ?_)
                generalize hμ113 : m_si μ96 (60) 3 x47 = μ113 at hW
                have hI := hI.si0 hμ113 rfl hS8
                obtain ⟨x114, ex114⟩ : ∃ z : Int32, z = y4 + 2 := ⟨_, rfl⟩
                refine lv_iinc (v := x114) (lv' := [(4, .int x114), (8, .int x49), (7, .int x47), (6, .int x45), (0, .ref (b + 55)), (1, .ref (b + k)), (2, .ref (b + 59)), (3, .ref (b + 1)), (5, .int y5)]) hx hb dX6_perform_194 hl (k := 7) rfl (by rw [ex114]; rfl) (by decide) rfl (fun ls hl => ?_)
                have tx114 : x114.toInt = y4.toInt + 2 := m_addI ex114 (rfl : y4.toInt = _) (by decide : (2 : Int32).toInt = 2) (by omega) (by omega)
                refine lv_goto (tgt := 300) hx hb dX6_perform_197 (by decide) ?_
                obtain ⟨x115, ex115⟩ : ∃ z : Int32, z = y5 + 1 := ⟨_, rfl⟩
                refine lv_iinc (v := x115) (lv' := [(5, .int x115), (4, .int x114), (8, .int x49), (7, .int x47), (6, .int x45), (0, .ref (b + 55)), (1, .ref (b + k)), (2, .ref (b + 59)), (3, .ref (b + 1))]) hx hb dX6_perform_300 hl (k := 8) rfl (by rw [ex115]; rfl) (by decide) rfl (fun ls hl => ?_)
                have tx115 : x115.toInt = y5.toInt + 1 := m_addI ex115 (rfl : y5.toInt = _) (by decide : (1 : Int32).toInt = 1) (by omega) (by omega)
                refine lv_goto (tgt := 21) hx hb dX6_perform_303 (by decide) ?_
                exact ih x114 x115 (by omega) (by omega) μ113 hI _ _ hW ls (lv_sub hl [5, 6, 7, 8, 1, 0] rfl)
              · refine lv_tableIn (off := 105) (tgt := 200) hx hb dX6_perform_95 (fun z => c97 (Or.inl z)) (fun z => c97 (Or.inr z)) (by rw [q97]; rfl) (by decide) ?_
                refine lv_aload_n hx hb dX6_perform_200 rfl (lv_at hl 3 rfl) ?_
                refine lv_iload hx hb dX6_perform_201 (lv_at hl 0 rfl) ?_
                refine lv_iload hx hb dX6_perform_203 (lv_at hl 1 rfl) ?_
                refine m_aV hW (m_runV (As := [.int x49, .int x47]) (rest := []) hx hb hml hown hts hW (55) (g_X6_setTurns_55 l D cy b S μ0 hS8 x49 x47 μ96 hI) mi_X6_setTurns k_X6_60 rfl rfl rfl hl.1 rfl (Nat.le_of_ble_eq_true rfl) dX6_perform_205 ⟨Nat.le_of_ble_eq_true rfl, Nat.le_of_ble_eq_true rfl⟩ ⟨Nat.le_of_ble_eq_true rfl, Nat.le_of_ble_eq_true rfl⟩) (fun μ116 H locs q116 hW => ?_)
                obtain ⟨hI, q116⟩ := q116
                obtain ⟨x117, ex117⟩ : ∃ z : Int32, z = y4 + 3 := ⟨_, rfl⟩
                refine lv_iinc (v := x117) (lv' := [(4, .int x117), (8, .int x49), (7, .int x47), (6, .int x45), (0, .ref (b + 55)), (1, .ref (b + k)), (2, .ref (b + 59)), (3, .ref (b + 1)), (5, .int y5)]) hx hb dX6_perform_208 hl (k := 7) rfl (by rw [ex117]; rfl) (by decide) rfl (fun ls hl => ?_)
                have tx117 : x117.toInt = y4.toInt + 3 := m_addI ex117 (rfl : y4.toInt = _) (by decide : (3 : Int32).toInt = 3) (by omega) (by omega)
                refine lv_goto (tgt := 300) hx hb dX6_perform_211 (by decide) ?_
                obtain ⟨x118, ex118⟩ : ∃ z : Int32, z = y5 + 1 := ⟨_, rfl⟩
                refine lv_iinc (v := x118) (lv' := [(5, .int x118), (4, .int x117), (8, .int x49), (7, .int x47), (6, .int x45), (0, .ref (b + 55)), (1, .ref (b + k)), (2, .ref (b + 59)), (3, .ref (b + 1))]) hx hb dX6_perform_300 hl (k := 8) rfl (by rw [ex118]; rfl) (by decide) rfl (fun ls hl => ?_)
                have tx118 : x118.toInt = y5.toInt + 1 := m_addI ex118 (rfl : y5.toInt = _) (by decide : (1 : Int32).toInt = 1) (by omega) (by omega)
                refine lv_goto (tgt := 21) hx hb dX6_perform_303 (by decide) ?_
                exact ih x117 x118 (by omega) (by omega) μ116 hI _ _ hW ls (lv_sub hl [5, 6, 7, 8, 1, 0] rfl)
              · refine lv_tableIn (off := 156) (tgt := 251) hx hb dX6_perform_95 (fun z => c97 (Or.inl z)) (fun z => c97 (Or.inr z)) (by rw [q97]; rfl) (by decide) ?_
                refine lv_aload_n hx hb dX6_perform_251 rfl (lv_at hl 3 rfl) ?_
                refine lv_aload_n hx hb dX6_perform_252 rfl (lv_at hl 4 rfl) ?_
                refine lv_iload hx hb dX6_perform_253 (lv_at hl 7 rfl) ?_
                refine lv_aload_n hx hb dX6_perform_255 rfl (lv_at hl 5 rfl) ?_
                refine m_aI hW (m_runV (As := [.ref (b + k), .int y4, .ref (b + 59)]) (rest := []) hx hb hml hown hts hW (55) (g_X6_isSo_55 l D cy b k k1 n hk hk1 hn hb1 hb0 y4 μ96 hI.1) mi_X6_isSo k_X6_67 rfl rfl rfl hl.1 rfl (Nat.le_of_ble_eq_true rfl) dX6_perform_256 ⟨Nat.le_of_ble_eq_true rfl, Nat.le_of_ble_eq_true rfl⟩ ⟨Nat.le_of_ble_eq_true rfl, Nat.le_of_ble_eq_true rfl⟩) (fun x119 μ119 H locs q119 hW => ?_)
                obtain ⟨q119_m, q119⟩ := q119
                subst q119_m
                rcases q119 with ⟨rfl, q119⟩ | ⟨rfl, q119⟩
                · refine lv_if_eq (tgt := 271) hx hb dX6_perform_259 (by decide) (fun c => False.elim (by revert c; decide)) (fun _ => ?_)
                  refine lv_aload_n hx hb dX6_perform_262 rfl (lv_at hl 4 rfl) ?_
                  refine lv_iload hx hb dX6_perform_263 (lv_at hl 7 rfl) ?_
                  refine m_aI hW (m_runS (As := [.ref (b + k), .int y4]) (rest := []) hx hb hml hown hts hW (g_X6_stepOfIf l D cy b k k1 n hk hk1 hn hb1 hb0 y4 μ96 hI.1) ms_X6_stepOfIf k_X6_71 rfl hl.1 rfl (Nat.le_of_ble_eq_true rfl) dX6_perform_265 ⟨Nat.le_of_ble_eq_true rfl, Nat.le_of_ble_eq_true rfl⟩ ⟨Nat.le_of_ble_eq_true rfl, Nat.le_of_ble_eq_true rfl⟩) (fun x120 μ120 H locs q120 hW => ?_)
                  obtain ⟨q120_m, q120⟩ := q120
                  subst q120_m
                  refine lv_goto (tgt := 273) hx hb dX6_perform_268 (by decide) ?_
                  refine lv_istore (lv' := [(4, .int x120), (8, .int x49), (7, .int x47), (6, .int x45), (0, .ref (b + 55)), (1, .ref (b + k)), (2, .ref (b + 59)), (3, .ref (b + 1)), (5, .int y5)]) hx hb dX6_perform_273 hl (by decide) rfl (fun ls hl => ?_)
                  refine lv_goto (tgt := 300) hx hb dX6_perform_275 (by decide) ?_
                  obtain ⟨x121, ex121⟩ : ∃ z : Int32, z = y5 + 1 := ⟨_, rfl⟩
                  refine lv_iinc (v := x121) (lv' := [(5, .int x121), (4, .int x120), (8, .int x49), (7, .int x47), (6, .int x45), (0, .ref (b + 55)), (1, .ref (b + k)), (2, .ref (b + 59)), (3, .ref (b + 1))]) hx hb dX6_perform_300 hl (k := 8) rfl (by rw [ex121]; rfl) (by decide) rfl (fun ls hl => ?_)
                  have tx121 : x121.toInt = y5.toInt + 1 := m_addI ex121 (rfl : y5.toInt = _) (by decide : (1 : Int32).toInt = 1) (by omega) (by omega)
                  refine lv_goto (tgt := 21) hx hb dX6_perform_303 (by decide) ?_
                  exact ih x120 x121 (by omega) (by omega) μ96 hI _ _ hW ls (lv_sub hl [5, 6, 7, 8, 1, 0] rfl)
                · refine lv_if_eq (tgt := 271) hx hb dX6_perform_259 (by decide) (fun _ => ?_) (fun c => False.elim (by revert c; decide))
                  refine lv_iload hx hb dX6_perform_271 (lv_at hl 1 rfl) ?_
                  refine lv_istore (lv' := [(4, .int x47), (8, .int x49), (7, .int x47), (6, .int x45), (0, .ref (b + 55)), (1, .ref (b + k)), (2, .ref (b + 59)), (3, .ref (b + 1)), (5, .int y5)]) hx hb dX6_perform_273 hl (by decide) rfl (fun ls hl => ?_)
                  refine lv_goto (tgt := 300) hx hb dX6_perform_275 (by decide) ?_
                  obtain ⟨x122, ex122⟩ : ∃ z : Int32, z = y5 + 1 := ⟨_, rfl⟩
                  refine lv_iinc (v := x122) (lv' := [(5, .int x122), (4, .int x47), (8, .int x49), (7, .int x47), (6, .int x45), (0, .ref (b + 55)), (1, .ref (b + k)), (2, .ref (b + 59)), (3, .ref (b + 1))]) hx hb dX6_perform_300 hl (k := 8) rfl (by rw [ex122]; rfl) (by decide) rfl (fun ls hl => ?_)
                  have tx122 : x122.toInt = y5.toInt + 1 := m_addI ex122 (rfl : y5.toInt = _) (by decide : (1 : Int32).toInt = 1) (by omega) (by omega)
                  refine lv_goto (tgt := 21) hx hb dX6_perform_303 (by decide) ?_
                  exact ih x47 x122 (by omega) (by omega) μ96 hI _ _ hW ls (lv_sub hl [5, 6, 7, 8, 1, 0] rfl)
              · refine lv_tableIn (off := 183) (tgt := 278) hx hb dX6_perform_95 (fun z => c97 (Or.inl z)) (fun z => c97 (Or.inr z)) (by rw [q97]; rfl) (by decide) ?_
                refine lv_aload_n hx hb dX6_perform_278 rfl (lv_at hl 5 rfl) ?_
                refine m_getr hx hb hts hown hW (59) 10 (60) rfl rfl cw_3 rfl (by decide) k_X6_51 dX6_perform_279 ?_
                refine lv_iload hx hb dX6_perform_282 (lv_at hl 2 rfl) ?_
                refine lv_bipush (v := 9) hx hb dX6_perform_284 (by decide) ?_
                refine lv_icmp_ne (tgt := 293) hx hb dX6_perform_286 (by decide) (fun c123 => ?_) (fun c123 => ?_)
                · have i123 := m_c6 (rfl : x45.toInt = _) (by decide : (9 : Int32).toInt = 9) c123
                  refine lv_iconst (v := 0) hx hb dX6_perform_293 (by decide) ?_
                  refine m_puti hx hb hts hown hW (60) 2 rfl rfl cw_1 tyX1_ok nmX1 rfl (by decide) k_X6_75 rfl (by decide) rfl dX6_perform_294 (fun H locs hW _ => ?_)
                  generalize hμ124 : m_si μ96 (60) 2 0 = μ124 at hW
                  have hI := hI.si1 hμ124 rfl (by decide) hS8
                  obtain ⟨x125, ex125⟩ : ∃ z : Int32, z = y4 + 1 := ⟨_, rfl⟩
                  refine lv_iinc (v := x125) (lv' := [(4, .int x125), (8, .int x49), (7, .int x47), (6, .int x45), (0, .ref (b + 55)), (1, .ref (b + k)), (2, .ref (b + 59)), (3, .ref (b + 1)), (5, .int y5)]) hx hb dX6_perform_297 hl (k := 7) rfl (by rw [ex125]; rfl) (by decide) rfl (fun ls hl => ?_)
                  have tx125 : x125.toInt = y4.toInt + 1 := m_addI ex125 (rfl : y4.toInt = _) (by decide : (1 : Int32).toInt = 1) (by omega) (by omega)
                  obtain ⟨x126, ex126⟩ : ∃ z : Int32, z = y5 + 1 := ⟨_, rfl⟩
                  refine lv_iinc (v := x126) (lv' := [(5, .int x126), (4, .int x125), (8, .int x49), (7, .int x47), (6, .int x45), (0, .ref (b + 55)), (1, .ref (b + k)), (2, .ref (b + 59)), (3, .ref (b + 1))]) hx hb dX6_perform_300 hl (k := 8) rfl (by rw [ex126]; rfl) (by decide) rfl (fun ls hl => ?_)
                  have tx126 : x126.toInt = y5.toInt + 1 := m_addI ex126 (rfl : y5.toInt = _) (by decide : (1 : Int32).toInt = 1) (by omega) (by omega)
                  refine lv_goto (tgt := 21) hx hb dX6_perform_303 (by decide) ?_
                  exact ih x125 x126 (by omega) (by omega) μ124 hI _ _ hW ls (lv_sub hl [5, 6, 7, 8, 1, 0] rfl)
                · have i123 := m_c5 (rfl : x45.toInt = _) (by decide : (9 : Int32).toInt = 9) c123
                  exfalso; omega
              · refine lv_tableIn (off := 119) (tgt := 214) hx hb dX6_perform_95 (fun z => c97 (Or.inl z)) (fun z => c97 (Or.inr z)) (by rw [q97]; rfl) (by decide) ?_
                refine lv_aload_n hx hb dX6_perform_214 rfl (lv_at hl 3 rfl) ?_
                refine lv_iload hx hb dX6_perform_215 (lv_at hl 1 rfl) ?_
                refine lv_aload_n hx hb dX6_perform_217 rfl (lv_at hl 3 rfl) ?_
                refine lv_iload hx hb dX6_perform_218 (lv_at hl 1 rfl) ?_
                refine m_aI hW (m_runV (As := [.int x47]) (rest := [.int x47, .ref (b + 55)]) hx hb hml hown hts hW (55) (g_X6_turns_55 l D cy b x47 μ96 hI.1) mi_X6_turns k_X6_64 rfl rfl rfl hl.1 rfl (Nat.le_of_ble_eq_true rfl) dX6_perform_220 ⟨Nat.le_of_ble_eq_true rfl, Nat.le_of_ble_eq_true rfl⟩ ⟨Nat.le_of_ble_eq_true rfl, Nat.le_of_ble_eq_true rfl⟩) (fun x127 μ127 H locs q127 hW => ?_)
                obtain ⟨q127_m, q127⟩ := q127
                subst q127_m
                refine lv_iconst (v := 1) hx hb dX6_perform_223 (by decide) ?_
                refine lv_isub hx hb dX6_perform_224 ?_
                refine lv_topi (fun x128 ex128 => ?_)
                refine m_aV hW (m_runV (As := [.int x47, .int x128]) (rest := []) hx hb hml hown hts hW (55) (g_X6_setTurns_55 l D cy b S μ0 hS8 x47 x128 μ96 hI) mi_X6_setTurns k_X6_60 rfl rfl rfl hl.1 rfl (Nat.le_of_ble_eq_true rfl) dX6_perform_225 ⟨Nat.le_of_ble_eq_true rfl, Nat.le_of_ble_eq_true rfl⟩ ⟨Nat.le_of_ble_eq_true rfl, Nat.le_of_ble_eq_true rfl⟩) (fun μ129 H locs q129 hW => ?_)
                obtain ⟨hI, q129⟩ := q129
                refine lv_aload_n hx hb dX6_perform_228 rfl (lv_at hl 3 rfl) ?_
                refine lv_iload hx hb dX6_perform_229 (lv_at hl 1 rfl) ?_
                refine m_aI hW (m_runV (As := [.int x47]) (rest := []) hx hb hml hown hts hW (55) (g_X6_turns_55 l D cy b x47 μ129 hI.1) mi_X6_turns k_X6_64 rfl rfl rfl hl.1 rfl (Nat.le_of_ble_eq_true rfl) dX6_perform_231 ⟨Nat.le_of_ble_eq_true rfl, Nat.le_of_ble_eq_true rfl⟩ ⟨Nat.le_of_ble_eq_true rfl, Nat.le_of_ble_eq_true rfl⟩) (fun x130 μ130 H locs q130 hW => ?_)
                obtain ⟨q130_m, q130⟩ := q130
                subst q130_m
                refine lv_if_le (tgt := 242) hx hb dX6_perform_234 (by decide) (fun c131 => ?_) (fun c131 => ?_)
                · have i131 := m_c3 (rfl : x130.toInt = _) (by decide : (0 : Int32).toInt = 0) c131
                  refine lv_iload hx hb dX6_perform_242 (lv_at hl 7 rfl) ?_
                  refine lv_iconst (v := 3) hx hb dX6_perform_244 (by decide) ?_
                  refine lv_iadd hx hb dX6_perform_245 ?_
                  refine lv_topi (fun x132 ex132 => ?_)
                  have tx132 : x132.toInt = y4.toInt + 3 := m_addI ex132 (rfl : y4.toInt = _) (by decide : (3 : Int32).toInt = 3) (by omega) (by omega)
                  refine lv_istore (lv' := [(4, .int x132), (8, .int x49), (7, .int x47), (6, .int x45), (0, .ref (b + 55)), (1, .ref (b + k)), (2, .ref (b + 59)), (3, .ref (b + 1)), (5, .int y5)]) hx hb dX6_perform_246 hl (by decide) rfl (fun ls hl => ?_)
                  refine lv_goto (tgt := 300) hx hb dX6_perform_248 (by decide) ?_
                  obtain ⟨x133, ex133⟩ : ∃ z : Int32, z = y5 + 1 := ⟨_, rfl⟩
                  refine lv_iinc (v := x133) (lv' := [(5, .int x133), (4, .int x132), (8, .int x49), (7, .int x47), (6, .int x45), (0, .ref (b + 55)), (1, .ref (b + k)), (2, .ref (b + 59)), (3, .ref (b + 1))]) hx hb dX6_perform_300 hl (k := 8) rfl (by rw [ex133]; rfl) (by decide) rfl (fun ls hl => ?_)
                  have tx133 : x133.toInt = y5.toInt + 1 := m_addI ex133 (rfl : y5.toInt = _) (by decide : (1 : Int32).toInt = 1) (by omega) (by omega)
                  refine lv_goto (tgt := 21) hx hb dX6_perform_303 (by decide) ?_
                  exact ih x132 x133 (by omega) (by omega) μ129 hI _ _ hW ls (lv_sub hl [5, 6, 7, 8, 1, 0] rfl)
                · have i131 := m_c4 (rfl : x130.toInt = _) (by decide : (0 : Int32).toInt = 0) c131
                  refine lv_iload hx hb dX6_perform_237 (lv_at hl 0 rfl) ?_
                  refine lv_goto (tgt := 246) hx hb dX6_perform_239 (by decide) ?_
                  refine lv_istore (lv' := [(4, .int x49), (8, .int x49), (7, .int x47), (6, .int x45), (0, .ref (b + 55)), (1, .ref (b + k)), (2, .ref (b + 59)), (3, .ref (b + 1)), (5, .int y5)]) hx hb dX6_perform_246 hl (by decide) rfl (fun ls hl => ?_)
                  refine lv_goto (tgt := 300) hx hb dX6_perform_248 (by decide) ?_
                  obtain ⟨x134, ex134⟩ : ∃ z : Int32, z = y5 + 1 := ⟨_, rfl⟩
                  refine lv_iinc (v := x134) (lv' := [(5, .int x134), (4, .int x49), (8, .int x49), (7, .int x47), (6, .int x45), (0, .ref (b + 55)), (1, .ref (b + k)), (2, .ref (b + 59)), (3, .ref (b + 1))]) hx hb dX6_perform_300 hl (k := 8) rfl (by rw [ex134]; rfl) (by decide) rfl (fun ls hl => ?_)
                  have tx134 : x134.toInt = y5.toInt + 1 := m_addI ex134 (rfl : y5.toInt = _) (by decide : (1 : Int32).toInt = 1) (by omega) (by omega)
                  refine lv_goto (tgt := 21) hx hb dX6_perform_303 (by decide) ?_
                  exact ih x49 x134 (by omega) (by omega) μ129 hI _ _ hW ls (lv_sub hl [5, 6, 7, 8, 1, 0] rfl)
set_option maxHeartbeats 4000000 in
set_option maxRecDepth 100000 in
theorem g_X6_perform_55 (l : Launch) (D : va_G) (cy : Nat → ClassId) (b : Nat) (S : Nat → Bool) (μ0 : mM) (hS8 : S 8 = true) (k k1 n : Nat) (hk : LAY[k]? = some (.inl (5, [k1 + 3, 0]))) (hk1 : LAY[k1]? = some (.inr (0, n, []))) (hn : n < 2 ^ 30) (hb1 : bX k 1 = some (0, (n : Int))) (hb0 : ∀ j, bX k1 j = none) (μ : mM) (hI : IY S μ0 μ) : m_Ci l yX6_perform cX6_perform 9 ((some .int)) 5 D cy b LAY μ [.ref (b + 55), .ref (b + k), .ref (b + 59), .ref (b + 1)] (fun r ν => IY S μ0 ν ∧ (True)) := by
  unfold m_Ci
  refine m_of (by decide) (Nat.le_of_ble_eq_true rfl) ?_
  intro p e s m below meth c hx hb hr hml hown hts hlocks _ hW ls hl
  have hown : s.vm.findClass RX6 = some m.cls := hown
  have hl : lv_has ls 9 [(0, .ref (b + 55)), (1, .ref (b + k)), (2, .ref (b + 59)), (3, .ref (b + 1))] := hl
  refine lv_aload_n hx hb dX6_perform_0 rfl (lv_at hl 0 rfl) ?_
  refine lv_sipush (v := 1000) hx hb dX6_perform_1 (by decide) ?_
  refine m_puti hx hb hts hown hW (55) 1 rfl rfl cw_6 tyX6_ok nmX6 rfl (by decide) k_X6_15 rfl rfl rfl dX6_perform_4 (fun H locs hW _ => ?_)
  generalize hμ1 : m_si μ (55) 1 1000 = μ1 at hW
  have hI := hI.si0 hμ1 rfl hS8
  refine lv_aload_n hx hb dX6_perform_7 rfl (lv_at hl 0 rfl) ?_
  refine lv_aload_n hx hb dX6_perform_8 rfl (lv_at hl 2 rfl) ?_
  refine m_geti hx hb hts hown hW (59) 5 rfl rfl cw_3 rfl (by decide) k_X6_22 dX6_perform_9 ?_
  refine lv_topi (fun x2 ex2 => ?_)
  refine m_puti hx hb hts hown hW (55) 2 rfl rfl cw_6 tyX6_ok nmX6 rfl (by decide) k_X6_19 rfl rfl rfl dX6_perform_12 (fun H locs hW _ => ?_)
  generalize hμ3 : m_si μ1 (55) 2 x2 = μ3 at hW
  have hI := hI.si0 hμ3 rfl hS8
  refine lv_iconst (v := 0) hx hb dX6_perform_15 (by decide) ?_
  refine lv_istore (lv' := [(4, .int 0), (0, .ref (b + 55)), (1, .ref (b + k)), (2, .ref (b + 59)), (3, .ref (b + 1))]) hx hb dX6_perform_16 hl (by decide) rfl (fun ls hl => ?_)
  refine lv_iconst (v := 0) hx hb dX6_perform_18 (by decide) ?_
  refine lv_istore (lv' := [(5, .int 0), (4, .int 0), (0, .ref (b + 55)), (1, .ref (b + k)), (2, .ref (b + 59)), (3, .ref (b + 1))]) hx hb dX6_perform_19 hl (by decide) rfl (fun ls hl => ?_)
  have l_0 : (0 : Int32).toInt = 0 := by decide
  exact L_X6_perform_55_21 hx hb hr hml hown hts hlocks S μ0 hS8 k k1 n hk hk1 hn hb1 hb0  200001 0 0 (by omega) (by omega) μ3 hI _ _ hW ls (lv_sub hl [2, 3, 4, 5, 1, 0] rfl)
