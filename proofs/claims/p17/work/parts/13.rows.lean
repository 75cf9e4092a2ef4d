set_option maxHeartbeats 4000000 in
set_option maxRecDepth 100000 in
theorem g_X11_within (l : Launch) (D : va_G) (cy : Nat → ClassId) (b : Nat) (v a u : Int32) (μ : mM) (hI : IX μ) : m_Ci l yX11_within cX11_within 3 ((some .boolean)) 0 D cy b LAY μ [.int v, .int a, .int u] (fun r ν => μ = ν ∧ ((r = 1 ∧ (a.toInt ≤ v.toInt ∧ v.toInt ≤ u.toInt)) ∨ (r = 0 ∧ (v.toInt < a.toInt ∨ u.toInt < v.toInt)))) := by
  unfold m_Ci
  refine m_of (by decide) (Nat.le_of_ble_eq_true rfl) ?_
  intro p e s m below meth c hx hb hr hml hown hts hlocks _ hW ls hl
  have hown : s.vm.findClass RX11 = some m.cls := hown
  have hl : lv_has ls 3 [(0, .int v), (1, .int a), (2, .int u)] := hl
  refine lv_iload_n hx hb dX11_within_0 rfl (lv_at hl 0 rfl) ?_
  refine lv_iload_n hx hb dX11_within_1 rfl (lv_at hl 1 rfl) ?_
  refine lv_icmp_lt (tgt := 14) hx hb dX11_within_2 (by decide) (fun c1 => ?_) (fun c1 => ?_)
  · have i1 := m_c1 (rfl : v.toInt = _) (rfl : a.toInt = _) c1
    refine lv_iconst (v := 0) hx hb dX11_within_14 (by decide) ?_
    exact m_iret hx hb hr hlocks hW (by decide) (⟨rfl, Or.inr ⟨rfl, by omega⟩⟩) dX11_within_15
  · have i1 := m_c2 (rfl : v.toInt = _) (rfl : a.toInt = _) c1
    refine lv_iload_n hx hb dX11_within_5 rfl (lv_at hl 0 rfl) ?_
    refine lv_iload_n hx hb dX11_within_6 rfl (lv_at hl 2 rfl) ?_
    refine lv_icmp_gt (tgt := 14) hx hb dX11_within_7 (by decide) (fun c2 => ?_) (fun c2 => ?_)
    · have i2 := m_c1 (rfl : u.toInt = _) (rfl : v.toInt = _) c2
      refine lv_iconst (v := 0) hx hb dX11_within_14 (by decide) ?_
      exact m_iret hx hb hr hlocks hW (by decide) (⟨rfl, Or.inr ⟨rfl, by omega⟩⟩) dX11_within_15
    · have i2 := m_c2 (rfl : u.toInt = _) (rfl : v.toInt = _) c2
      refine lv_iconst (v := 1) hx hb dX11_within_10 (by decide) ?_
      refine lv_goto (tgt := 15) hx hb dX11_within_11 (by decide) ?_
      exact m_iret hx hb hr hlocks hW (by decide) (⟨rfl, Or.inl ⟨rfl, by omega⟩⟩) dX11_within_15
set_option maxHeartbeats 4000000 in
set_option maxRecDepth 100000 in
theorem g_X11_stepX (l : Launch) (D : va_G) (cy : Nat → ClassId) (b : Nat) (v : Int32) (μ : mM) (hI : IX μ) : m_Ci l yX11_stepX cX11_stepX 1 ((some .int)) 0 D cy b LAY μ [.int v] (fun r ν => μ = ν ∧ (-1 ≤ r.toInt ∧ r.toInt ≤ 1)) := by
  unfold m_Ci
  refine m_of (by decide) (Nat.le_of_ble_eq_true rfl) ?_
  intro p e s m below meth c hx hb hr hml hown hts hlocks _ hW ls hl
  have hown : s.vm.findClass RX11 = some m.cls := hown
  have hl : lv_has ls 1 [(0, .int v)] := hl
  refine lv_iload_n hx hb dX11_stepX_0 rfl (lv_at hl 0 rfl) ?_
  refine lv_if_ne (tgt := 8) hx hb dX11_stepX_1 (by decide) (fun c1 => ?_) (fun c1 => ?_)
  · have i1 := m_c6 (rfl : v.toInt = _) (by decide : (0 : Int32).toInt = 0) c1
    refine lv_iload_n hx hb dX11_stepX_8 rfl (lv_at hl 0 rfl) ?_
    refine lv_iconst (v := 2) hx hb dX11_stepX_9 (by decide) ?_
    refine lv_icmp_ne (tgt := 17) hx hb dX11_stepX_10 (by decide) (fun c2 => ?_) (fun c2 => ?_)
    · have i2 := m_c6 (rfl : v.toInt = _) (by decide : (2 : Int32).toInt = 2) c2
      refine lv_iconst (v := 0) hx hb dX11_stepX_17 (by decide) ?_
      exact m_iret hx hb hr hlocks hW rfl (⟨rfl, by decide⟩) dX11_stepX_18
    · have i2 := m_c5 (rfl : v.toInt = _) (by decide : (2 : Int32).toInt = 2) c2
      refine lv_iconst (v := (-1)) hx hb dX11_stepX_13 (by decide) ?_
      refine lv_goto (tgt := 18) hx hb dX11_stepX_14 (by decide) ?_
      exact m_iret hx hb hr hlocks hW rfl (⟨rfl, by decide⟩) dX11_stepX_18
  · have i1 := m_c5 (rfl : v.toInt = _) (by decide : (0 : Int32).toInt = 0) c1
    refine lv_iconst (v := 1) hx hb dX11_stepX_4 (by decide) ?_
    refine lv_goto (tgt := 18) hx hb dX11_stepX_5 (by decide) ?_
    exact m_iret hx hb hr hlocks hW rfl (⟨rfl, by decide⟩) dX11_stepX_18
set_option maxHeartbeats 4000000 in
set_option maxRecDepth 100000 in
theorem g_X11_stepY (l : Launch) (D : va_G) (cy : Nat → ClassId) (b : Nat) (v : Int32) (μ : mM) (hI : IX μ) : m_Ci l yX11_stepY cX11_stepY 1 ((some .int)) 0 D cy b LAY μ [.int v] (fun r ν => μ = ν ∧ (-1 ≤ r.toInt ∧ r.toInt ≤ 1)) := by
  unfold m_Ci
  refine m_of (by decide) (Nat.le_of_ble_eq_true rfl) ?_
  intro p e s m below meth c hx hb hr hml hown hts hlocks _ hW ls hl
  have hown : s.vm.findClass RX11 = some m.cls := hown
  have hl : lv_has ls 1 [(0, .int v)] := hl
  refine lv_iload_n hx hb dX11_stepY_0 rfl (lv_at hl 0 rfl) ?_
  refine lv_iconst (v := 1) hx hb dX11_stepY_1 (by decide) ?_
  refine lv_icmp_ne (tgt := 9) hx hb dX11_stepY_2 (by decide) (fun c1 => ?_) (fun c1 => ?_)
  · have i1 := m_c6 (rfl : v.toInt = _) (by decide : (1 : Int32).toInt = 1) c1
    refine lv_iload_n hx hb dX11_stepY_9 rfl (lv_at hl 0 rfl) ?_
    refine lv_iconst (v := 3) hx hb dX11_stepY_10 (by decide) ?_
    refine lv_icmp_ne (tgt := 18) hx hb dX11_stepY_11 (by decide) (fun c2 => ?_) (fun c2 => ?_)
    · have i2 := m_c6 (rfl : v.toInt = _) (by decide : (3 : Int32).toInt = 3) c2
      refine lv_iconst (v := 0) hx hb dX11_stepY_18 (by decide) ?_
      exact m_iret hx hb hr hlocks hW rfl (⟨rfl, by decide⟩) dX11_stepY_19
    · have i2 := m_c5 (rfl : v.toInt = _) (by decide : (3 : Int32).toInt = 3) c2
      refine lv_iconst (v := (-1)) hx hb dX11_stepY_14 (by decide) ?_
      refine lv_goto (tgt := 19) hx hb dX11_stepY_15 (by decide) ?_
      exact m_iret hx hb hr hlocks hW rfl (⟨rfl, by decide⟩) dX11_stepY_19
  · have i1 := m_c5 (rfl : v.toInt = _) (by decide : (1 : Int32).toInt = 1) c1
    refine lv_iconst (v := 1) hx hb dX11_stepY_5 (by decide) ?_
    refine lv_goto (tgt := 19) hx hb dX11_stepY_6 (by decide) ?_
    exact m_iret hx hb hr hlocks hW rfl (⟨rfl, by decide⟩) dX11_stepY_19
set_option maxHeartbeats 4000000 in
set_option maxRecDepth 100000 in
theorem g_X5_add (l : Launch) (D : va_G) (cy : Nat → ClassId) (b : Nat) (S : Nat → Bool) (μ0 : mM) (k k1 n : Nat) (hk : LAY[k]? = some (.inl (5, [k1 + 3, 0]))) (hk1 : LAY[k1]? = some (.inr (0, n, []))) (hn : n < 2 ^ 30) (hb1 : bX k 1 = some (0, (n : Int))) (hb0 : ∀ j, bX k1 j = none) (hg : S (grp k 1) = true) (hg1 : ∀ j, S (grp k1 j) = true) (v : Int32) (μ : mM) (hI : IY S μ0 μ) : m_Cv l yX5_add cX5_add 2 (none) 0 D cy b LAY μ [.ref (b + k), .int v] (fun ν => IY S μ0 ν ∧ (True)) := by
  unfold m_Cv
  refine m_of (by decide) (Nat.le_of_ble_eq_true rfl) ?_
  intro p e s m below meth c hx hb hr hml hown hts hlocks _ hW ls hl
  have hown : s.vm.findClass RX5 = some m.cls := hown
  have hl : lv_has ls 2 [(0, .ref (b + k)), (1, .int v)] := hl
  refine lv_aload_n hx hb dX5_add_0 rfl (lv_at hl 0 rfl) ?_
  refine m_geti hx hb hts hown hW (k) 1 hk rfl cw_5 rfl (by decide) k_X5_9 dX5_add_1 ?_
  refine lv_topi (fun x1 ex1 => ?_)
  have bx1 : 0 ≤ x1.toInt ∧ x1.toInt ≤ n := by rw [ex1]; exact hI.1 _ _ _ _ hb1
  refine lv_aload_n hx hb dX5_add_4 rfl (lv_at hl 0 rfl) ?_
  refine m_getr hx hb hts hown hW (k) 0 (k1) hk rfl cw_5 rfl (by decide) k_X5_21 dX5_add_5 ?_
  refine m_alen hx hb hW (k1) hk1 dX5_add_8 ?_
  refine lv_topi (fun x2 ex2 => ?_)
  have ex2 : x2 = (nI n) := ex2
  have ex2 := ex2.symm
  subst ex2
  refine lv_icmp_ge (tgt := 32) hx hb dX5_add_9 (by decide) (fun c3 => ?_) (fun c3 => ?_)
  · have i3 := m_c3 (nI_toInt (by omega) : (nI n).toInt = (n : Int)) (rfl : x1.toInt = _) c3
    exact m_vret hx hb hr hlocks hW (⟨hI, trivial⟩) dX5_add_32
  · have i3 := m_c4 (nI_toInt (by omega) : (nI n).toInt = (n : Int)) (rfl : x1.toInt = _) c3
    refine lv_aload_n hx hb dX5_add_12 rfl (lv_at hl 0 rfl) ?_
    refine m_getr hx hb hts hown hW (k) 0 (k1) hk rfl cw_5 rfl (by decide) k_X5_21 dX5_add_13 ?_
    refine lv_aload_n hx hb dX5_add_16 rfl (lv_at hl 0 rfl) ?_
    refine m_geti hx hb hts hown hW (k) 1 hk rfl cw_5 rfl (by decide) k_X5_9 dX5_add_17 ?_
    refine lv_topi (fun x4 ex4 => ?_)
    have ex4 : x4 = x1 := by rw [ex4]; exact ex1.symm
    have ex4 := ex4.symm
    subst ex4
    refine lv_iload_n hx hb dX5_add_20 rfl (lv_at hl 1 rfl) ?_
    refine m_iast hx hb hW (k1) hk1 (m_ixI (rfl : x1.toInt = _) (by omega) (by omega)) dX5_add_21 (fun H locs hW _ => ?_)
    generalize hμ5 : m_si μ (k1) (x1 : Int32).toNatClampNeg v = μ5 at hW
    have hI := hI.si0 hμ5 (hb0 _) (hg1 _)
    refine lv_aload_n hx hb dX5_add_22 rfl (lv_at hl 0 rfl) ?_
    refine lv_dup hx hb dX5_add_23 rfl ?_
    refine m_geti hx hb hts hown hW (k) 1 hk rfl cw_5 rfl (by decide) k_X5_9 dX5_add_24 ?_
    refine lv_topi (fun x6 ex6 => ?_)
    have ex6 : x6 = x1 := by rw [ex6, ← hμ5, m_si_ne (m_apart hk hk1)]; exact ex1.symm
    have ex6 := ex6.symm
    subst ex6
    refine lv_iconst (v := 1) hx hb dX5_add_27 (by decide) ?_
    refine lv_iadd hx hb dX5_add_28 ?_
    refine lv_topi (fun x7 ex7 => ?_)
    have tx7 : x7.toInt = x1.toInt + 1 := m_addI ex7 (rfl : x1.toInt = _) (by decide : (1 : Int32).toInt = 1) (by omega) (by omega)
    refine m_puti hx hb hts hown hW (k) 1 hk rfl cw_5 tyX5_ok nmX5 rfl (by decide) k_X5_9 rfl rfl rfl dX5_add_29 (fun H locs hW _ => ?_)
    generalize hμ8 : m_si μ5 (k) 1 x7 = μ8 at hW
    have hI := hI.si1 hμ8 hb1 (by omega) hg
    exact m_vret hx hb hr hlocks hW (⟨hI, trivial⟩) dX5_add_32
set_option maxHeartbeats 4000000 in
set_option maxRecDepth 100000 in
theorem g_X5_addBytes (l : Launch) (D : va_G) (cy : Nat → ClassId) (b : Nat) (S : Nat → Bool) (μ0 : mM) (k k1 n : Nat) (hk : LAY[k]? = some (.inl (5, [k1 + 3, 0]))) (hk1 : LAY[k1]? = some (.inr (0, n, []))) (hn : n < 2 ^ 30) (hb1 : bX k 1 = some (0, (n : Int))) (hb0 : ∀ j, bX k1 j = none) (hg : S (grp k 1) = true) (hg1 : ∀ j, S (grp k1 j) = true) (v : Int32) (μ : mM) (hI : IY S μ0 μ) : m_Cv l yX5_addBytes cX5_addBytes 3 (none) 1 D cy b LAY μ [.ref (b + k), .int v] (fun ν => IY S μ0 ν ∧ (True)) := by
  unfold m_Cv
  refine m_of (by decide) (Nat.le_of_ble_eq_true rfl) ?_
  intro p e s m below meth c hx hb hr hml hown hts hlocks _ hW ls hl
  have hown : s.vm.findClass RX5 = some m.cls := hown
  have hl : lv_has ls 3 [(0, .ref (b + k)), (1, .int v)] := hl
  refine lv_bipush (v := 24) hx hb dX5_addBytes_0 (by decide) ?_
  refine lv_istore_n (lv' := [(2, .int 24), (0, .ref (b + k)), (1, .int v)]) hx hb dX5_addBytes_2 rfl hl (by decide) rfl (fun ls hl => ?_)
  refine lv_iload_n hx hb dX5_addBytes_3 rfl (lv_at hl 0 rfl) ?_
  refine lv_if_lt (tgt := 24) hx hb dX5_addBytes_4 (by decide) (fun c => False.elim (by revert c; decide)) (fun _ => ?_)
  refine lv_aload_n hx hb dX5_addBytes_7 rfl (lv_at hl 1 rfl) ?_
  refine lv_iload_n hx hb dX5_addBytes_8 rfl (lv_at hl 2 rfl) ?_
  refine lv_iload_n hx hb dX5_addBytes_9 rfl (lv_at hl 0 rfl) ?_
  refine lv_iushr hx hb dX5_addBytes_10 rfl ?_
  refine lv_topi (fun x1 ex1 => ?_)
  refine lv_sipush (v := 255) hx hb dX5_addBytes_11 (by decide) ?_
  refine lv_iand hx hb dX5_addBytes_14 ?_
  refine lv_topi (fun x2 ex2 => ?_)
  have bx2 : 0 ≤ x2.toInt ∧ x2.toInt ≤ 255 := m_andN (n := 255) ex2 rfl (by decide)
  refine m_aV hW (m_runV (As := [.int x2]) (rest := []) hx hb hml hown hts hW (k) (g_X5_add l D cy b S μ0 k k1 n hk hk1 hn hb1 hb0 hg hg1 x2 μ hI) mi_X5_add k_X5_25 hk rfl rfl hl.1 rfl (Nat.le_of_ble_eq_true rfl) dX5_addBytes_15 ⟨Nat.le_of_ble_eq_true rfl, Nat.le_of_ble_eq_true rfl⟩ ⟨Nat.le_of_ble_eq_true rfl, Nat.le_of_ble_eq_true rfl⟩) (fun μ3 H locs q3 hW => ?_)
  obtain ⟨hI, q3⟩ := q3
  refine lv_iinc (v := 16) (lv' := [(2, .int 16), (0, .ref (b + k)), (1, .int v)]) hx hb dX5_addBytes_18 hl (k := 0) rfl (by decide) (by decide) rfl (fun ls hl => ?_)
  refine lv_goto (tgt := 3) hx hb dX5_addBytes_21 (by decide) ?_
  refine lv_iload_n hx hb dX5_addBytes_3 rfl (lv_at hl 0 rfl) ?_
  refine lv_if_lt (tgt := 24) hx hb dX5_addBytes_4 (by decide) (fun c => False.elim (by revert c; decide)) (fun _ => ?_)
  refine lv_aload_n hx hb dX5_addBytes_7 rfl (lv_at hl 1 rfl) ?_
  refine lv_iload_n hx hb dX5_addBytes_8 rfl (lv_at hl 2 rfl) ?_
  refine lv_iload_n hx hb dX5_addBytes_9 rfl (lv_at hl 0 rfl) ?_
  refine lv_iushr hx hb dX5_addBytes_10 rfl ?_
  refine lv_topi (fun x4 ex4 => ?_)
  refine lv_sipush (v := 255) hx hb dX5_addBytes_11 (by decide) ?_
  refine lv_iand hx hb dX5_addBytes_14 ?_
  refine lv_topi (fun x5 ex5 => ?_)
  have bx5 : 0 ≤ x5.toInt ∧ x5.toInt ≤ 255 := m_andN (n := 255) ex5 rfl (by decide)
  refine m_aV hW (m_runV (As := [.int x5]) (rest := []) hx hb hml hown hts hW (k) (g_X5_add l D cy b S μ0 k k1 n hk hk1 hn hb1 hb0 hg hg1 x5 μ3 hI) mi_X5_add k_X5_25 hk rfl rfl hl.1 rfl (Nat.le_of_ble_eq_true rfl) dX5_addBytes_15 ⟨Nat.le_of_ble_eq_true rfl, Nat.le_of_ble_eq_true rfl⟩ ⟨Nat.le_of_ble_eq_true rfl, Nat.le_of_ble_eq_true rfl⟩) (fun μ6 H locs q6 hW => ?_)
  obtain ⟨hI, q6⟩ := q6
  refine lv_iinc (v := 8) (lv' := [(2, .int 8), (0, .ref (b + k)), (1, .int v)]) hx hb dX5_addBytes_18 hl (k := 0) rfl (by decide) (by decide) rfl (fun ls hl => ?_)
  refine lv_goto (tgt := 3) hx hb dX5_addBytes_21 (by decide) ?_
  refine lv_iload_n hx hb dX5_addBytes_3 rfl (lv_at hl 0 rfl) ?_
  refine lv_if_lt (tgt := 24) hx hb dX5_addBytes_4 (by decide) (fun c => False.elim (by revert c; decide)) (fun _ => ?_)
  refine lv_aload_n hx hb dX5_addBytes_7 rfl (lv_at hl 1 rfl) ?_
  refine lv_iload_n hx hb dX5_addBytes_8 rfl (lv_at hl 2 rfl) ?_
  refine lv_iload_n hx hb dX5_addBytes_9 rfl (lv_at hl 0 rfl) ?_
  refine lv_iushr hx hb dX5_addBytes_10 rfl ?_
  refine lv_topi (fun x7 ex7 => ?_)
  refine lv_sipush (v := 255) hx hb dX5_addBytes_11 (by decide) ?_
  refine lv_iand hx hb dX5_addBytes_14 ?_
  refine lv_topi (fun x8 ex8 => ?_)
  have bx8 : 0 ≤ x8.toInt ∧ x8.toInt ≤ 255 := m_andN (n := 255) ex8 rfl (by decide)
  refine m_aV hW (m_runV (As := [.int x8]) (rest := []) hx hb hml hown hts hW (k) (g_X5_add l D cy b S μ0 k k1 n hk hk1 hn hb1 hb0 hg hg1 x8 μ6 hI) mi_X5_add k_X5_25 hk rfl rfl hl.1 rfl (Nat.le_of_ble_eq_true rfl) dX5_addBytes_15 ⟨Nat.le_of_ble_eq_true rfl, Nat.le_of_ble_eq_true rfl⟩ ⟨Nat.le_of_ble_eq_true rfl, Nat.le_of_ble_eq_true rfl⟩) (fun μ9 H locs q9 hW => ?_)
  obtain ⟨hI, q9⟩ := q9
  refine lv_iinc (v := 0) (lv' := [(2, .int 0), (0, .ref (b + k)), (1, .int v)]) hx hb dX5_addBytes_18 hl (k := 0) rfl (by decide) (by decide) rfl (fun ls hl => ?_)
  refine lv_goto (tgt := 3) hx hb dX5_addBytes_21 (by decide) ?_
  refine lv_iload_n hx hb dX5_addBytes_3 rfl (lv_at hl 0 rfl) ?_
  refine lv_if_lt (tgt := 24) hx hb dX5_addBytes_4 (by decide) (fun c => False.elim (by revert c; decide)) (fun _ => ?_)
  refine lv_aload_n hx hb dX5_addBytes_7 rfl (lv_at hl 1 rfl) ?_
  refine lv_iload_n hx hb dX5_addBytes_8 rfl (lv_at hl 2 rfl) ?_
  refine lv_iload_n hx hb dX5_addBytes_9 rfl (lv_at hl 0 rfl) ?_
  refine lv_iushr hx hb dX5_addBytes_10 rfl ?_
  refine lv_topi (fun x10 ex10 => ?_)
  refine lv_sipush (v := 255) hx hb dX5_addBytes_11 (by decide) ?_
  refine lv_iand hx hb dX5_addBytes_14 ?_
  refine lv_topi (fun x11 ex11 => ?_)
  have bx11 : 0 ≤ x11.toInt ∧ x11.toInt ≤ 255 := m_andN (n := 255) ex11 rfl (by decide)
  refine m_aV hW (m_runV (As := [.int x11]) (rest := []) hx hb hml hown hts hW (k) (g_X5_add l D cy b S μ0 k k1 n hk hk1 hn hb1 hb0 hg hg1 x11 μ9 hI) mi_X5_add k_X5_25 hk rfl rfl hl.1 rfl (Nat.le_of_ble_eq_true rfl) dX5_addBytes_15 ⟨Nat.le_of_ble_eq_true rfl, Nat.le_of_ble_eq_true rfl⟩ ⟨Nat.le_of_ble_eq_true rfl, Nat.le_of_ble_eq_true rfl⟩) (fun μ12 H locs q12 hW => ?_)
  obtain ⟨hI, q12⟩ := q12
  refine lv_iinc (v := (-8)) (lv' := [(2, .int (-8)), (0, .ref (b + k)), (1, .int v)]) hx hb dX5_addBytes_18 hl (k := 0) rfl (by decide) (by decide) rfl (fun ls hl => ?_)
  refine lv_goto (tgt := 3) hx hb dX5_addBytes_21 (by decide) ?_
  refine lv_iload_n hx hb dX5_addBytes_3 rfl (lv_at hl 0 rfl) ?_
  refine lv_if_lt (tgt := 24) hx hb dX5_addBytes_4 (by decide) (fun _ => ?_) (fun c => False.elim (by revert c; decide))
  exact m_vret hx hb hr hlocks hW (⟨hI, trivial⟩) dX5_addBytes_24
set_option maxHeartbeats 4000000 in
set_option maxRecDepth 100000 in
theorem g_X5_put (l : Launch) (D : va_G) (cy : Nat → ClassId) (b : Nat) (S : Nat → Bool) (μ0 : mM) (k k1 n : Nat) (hk : LAY[k]? = some (.inl (5, [k1 + 3, 0]))) (hk1 : LAY[k1]? = some (.inr (0, n, []))) (hn : n < 2 ^ 30) (hb1 : bX k 1 = some (0, (n : Int))) (hb0 : ∀ j, bX k1 j = none) (hg : S (grp k 1) = true) (hg1 : ∀ j, S (grp k1 j) = true) (u v : Int32) (μ : mM) (hI : IY S μ0 μ) : m_Cv l yX5_put cX5_put 3 (none) 0 D cy b LAY μ [.ref (b + k), .int u, .int v] (fun ν => IY S μ0 ν ∧ (True)) := by
  unfold m_Cv
  refine m_of (by decide) (Nat.le_of_ble_eq_true rfl) ?_
  intro p e s m below meth c hx hb hr hml hown hts hlocks _ hW ls hl
  have hown : s.vm.findClass RX5 = some m.cls := hown
  have hl : lv_has ls 3 [(0, .ref (b + k)), (1, .int u), (2, .int v)] := hl
  refine lv_iload_n hx hb dX5_put_0 rfl (lv_at hl 1 rfl) ?_
  refine lv_if_lt (tgt := 19) hx hb dX5_put_1 (by decide) (fun c1 => ?_) (fun c1 => ?_)
  · have i1 := m_c1 (rfl : u.toInt = _) (by decide : (0 : Int32).toInt = 0) c1
    exact m_vret hx hb hr hlocks hW (⟨hI, trivial⟩) dX5_put_19
  · have i1 := m_c2 (rfl : u.toInt = _) (by decide : (0 : Int32).toInt = 0) c1
    refine lv_iload_n hx hb dX5_put_4 rfl (lv_at hl 1 rfl) ?_
    refine lv_aload_n hx hb dX5_put_5 rfl (lv_at hl 0 rfl) ?_
    refine m_geti hx hb hts hown hW (k) 1 hk rfl cw_5 rfl (by decide) k_X5_9 dX5_put_6 ?_
    refine lv_topi (fun x2 ex2 => ?_)
    have bx2 : 0 ≤ x2.toInt ∧ x2.toInt ≤ n := by rw [ex2]; exact hI.1 _ _ _ _ hb1
    refine lv_icmp_ge (tgt := 19) hx hb dX5_put_9 (by decide) (fun c3 => ?_) (fun c3 => ?_)
    · have i3 := m_c3 (rfl : x2.toInt = _) (rfl : u.toInt = _) c3
      exact m_vret hx hb hr hlocks hW (⟨hI, trivial⟩) dX5_put_19
    · have i3 := m_c4 (rfl : x2.toInt = _) (rfl : u.toInt = _) c3
      refine lv_aload_n hx hb dX5_put_12 rfl (lv_at hl 0 rfl) ?_
      refine m_getr hx hb hts hown hW (k) 0 (k1) hk rfl cw_5 rfl (by decide) k_X5_21 dX5_put_13 ?_
      refine lv_iload_n hx hb dX5_put_16 rfl (lv_at hl 1 rfl) ?_
      refine lv_iload_n hx hb dX5_put_17 rfl (lv_at hl 2 rfl) ?_
      refine m_iast hx hb hW (k1) hk1 (m_ixI (rfl : u.toInt = _) (by omega) (by omega)) dX5_put_18 (fun H locs hW _ => ?_)
      generalize hμ4 : m_si μ (k1) (u : Int32).toNatClampNeg v = μ4 at hW
      have hI := hI.si0 hμ4 (hb0 _) (hg1 _)
      exact m_vret hx hb hr hlocks hW (⟨hI, trivial⟩) dX5_put_19
set_option maxHeartbeats 4000000 in
set_option maxRecDepth 100000 in
theorem g_X5_at (l : Launch) (D : va_G) (cy : Nat → ClassId) (b : Nat) (k k1 n : Nat) (hk : LAY[k]? = some (.inl (5, [k1 + 3, 0]))) (hk1 : LAY[k1]? = some (.inr (0, n, []))) (hn : n < 2 ^ 30) (hb1 : bX k 1 = some (0, (n : Int))) (hb0 : ∀ j, bX k1 j = none) (u : Int32) (μ : mM) (hI : IX μ) : m_Ci l yX5_at cX5_at 2 ((some .int)) 0 D cy b LAY μ [.ref (b + k), .int u] (fun r ν => μ = ν ∧ (True)) := by
  unfold m_Ci
  refine m_of (by decide) (Nat.le_of_ble_eq_true rfl) ?_
  intro p e s m below meth c hx hb hr hml hown hts hlocks _ hW ls hl
  have hown : s.vm.findClass RX5 = some m.cls := hown
  have hl : lv_has ls 2 [(0, .ref (b + k)), (1, .int u)] := hl
  refine lv_iload_n hx hb dX5_at_0 rfl (lv_at hl 1 rfl) ?_
  refine lv_if_lt (tgt := 21) hx hb dX5_at_1 (by decide) (fun c1 => ?_) (fun c1 => ?_)
  · have i1 := m_c1 (rfl : u.toInt = _) (by decide : (0 : Int32).toInt = 0) c1
    refine lv_iconst (v := (-1)) hx hb dX5_at_21 (by decide) ?_
    exact m_iret hx hb hr hlocks hW rfl (⟨rfl, trivial⟩) dX5_at_22
  · have i1 := m_c2 (rfl : u.toInt = _) (by decide : (0 : Int32).toInt = 0) c1
    refine lv_iload_n hx hb dX5_at_4 rfl (lv_at hl 1 rfl) ?_
    refine lv_aload_n hx hb dX5_at_5 rfl (lv_at hl 0 rfl) ?_
    refine m_geti hx hb hts hown hW (k) 1 hk rfl cw_5 rfl (by decide) k_X5_9 dX5_at_6 ?_
    refine lv_topi (fun x2 ex2 => ?_)
    have bx2 : 0 ≤ x2.toInt ∧ x2.toInt ≤ n := by rw [ex2]; exact hI _ _ _ _ hb1
    refine lv_icmp_ge (tgt := 21) hx hb dX5_at_9 (by decide) (fun c3 => ?_) (fun c3 => ?_)
    · have i3 := m_c3 (rfl : x2.toInt = _) (rfl : u.toInt = _) c3
      refine lv_iconst (v := (-1)) hx hb dX5_at_21 (by decide) ?_
      exact m_iret hx hb hr hlocks hW rfl (⟨rfl, trivial⟩) dX5_at_22
    · have i3 := m_c4 (rfl : x2.toInt = _) (rfl : u.toInt = _) c3
      refine lv_aload_n hx hb dX5_at_12 rfl (lv_at hl 0 rfl) ?_
      refine m_getr hx hb hts hown hW (k) 0 (k1) hk rfl cw_5 rfl (by decide) k_X5_21 dX5_at_13 ?_
      refine lv_iload_n hx hb dX5_at_16 rfl (lv_at hl 1 rfl) ?_
      refine m_iald hx hb hW (k1) hk1 (m_ixI (rfl : u.toInt = _) (by omega) (by omega)) dX5_at_17 ?_
      refine lv_topi (fun x4 ex4 => ?_)
      refine lv_goto (tgt := 22) hx hb dX5_at_18 (by decide) ?_
      exact m_iret hx hb hr hlocks hW rfl (⟨rfl, trivial⟩) dX5_at_22
set_option maxHeartbeats 4000000 in
set_option maxRecDepth 100000 in
theorem g_X5_copyFrom (l : Launch) (D : va_G) (cy : Nat → ClassId) (b : Nat) (S : Nat → Bool) (μ0 : mM) (k k1 n : Nat) (hk : LAY[k]? = some (.inl (5, [k1 + 3, 0]))) (hk1 : LAY[k1]? = some (.inr (0, n, []))) (hn : n < 2 ^ 30) (hb1 : bX k 1 = some (0, (n : Int))) (hb0 : ∀ j, bX k1 j = none) (hg : S (grp k 1) = true) (hg1 : ∀ j, S (grp k1 j) = true) (o o1 n2 : Nat) (ho : LAY[o]? = some (.inl (5, [o1 + 3, 0]))) (ho1 : LAY[o1]? = some (.inr (0, n2, []))) (hn2 : n2 < 2 ^ 30) (hc1 : bX o 1 = some (0, (n2 : Int))) (hc0 : ∀ j, bX o1 j = none) (μ : mM) (hI : IY S μ0 μ) : m_Cv l yX5_copyFrom cX5_copyFrom 2 (none) 1 D cy b LAY μ [.ref (b + k), .ref (b + o)] (fun ν => IY S μ0 ν ∧ (True)) := by
  unfold m_Cv
  refine m_of (by decide) (Nat.le_of_ble_eq_true rfl) ?_
  intro p e s m below meth c hx hb hr hml hown hts hlocks _ hW ls hl
  have hown : s.vm.findClass RX5 = some m.cls := hown
  have hl : lv_has ls 2 [(0, .ref (b + k)), (1, .ref (b + o))] := hl
  refine lv_aload_n hx hb dX5_copyFrom_0 rfl (lv_at hl 0 rfl) ?_
  refine lv_aload_n hx hb dX5_copyFrom_1 rfl (lv_at hl 1 rfl) ?_
  refine m_geti hx hb hts hown hW (o) 1 ho rfl cw_5 rfl (by decide) k_X5_9 dX5_copyFrom_2 ?_
  refine lv_topi (fun x1 ex1 => ?_)
  have bx1 : 0 ≤ x1.toInt ∧ x1.toInt ≤ n2 := by rw [ex1]; exact hI.1 _ _ _ _ hc1
  refine lv_aload_n hx hb dX5_copyFrom_5 rfl (lv_at hl 0 rfl) ?_
  refine m_getr hx hb hts hown hW (k) 0 (k1) hk rfl cw_5 rfl (by decide) k_X5_21 dX5_copyFrom_6 ?_
  refine m_alen hx hb hW (k1) hk1 dX5_copyFrom_9 ?_
  refine lv_topi (fun x2 ex2 => ?_)
  have ex2 : x2 = (nI n) := ex2
  have ex2 := ex2.symm
  subst ex2
  refine va_mmin hx hb (hml.trans hl.1.symm) hown (hts _ k_X5_29) (hts _ kM_min_s) (hts _ kM_n) (hts _ kM_min_c) (Nat.le_of_ble_eq_true rfl) (Nat.le_of_ble_eq_true rfl) (Nat.le_of_ble_eq_true rfl) (Nat.le_of_ble_eq_true rfl) dX5_copyFrom_10 ?_
  refine lv_topi (fun x3 ex3 => ?_)
  have tx3 : x3.toInt = min (x1.toInt) ((n : Int)) := m_min ex3 (rfl : x1.toInt = _) (nI_toInt (by omega) : (nI n).toInt = (n : Int))
  refine m_puti hx hb hts hown hW (k) 1 hk rfl cw_5 tyX5_ok nmX5 rfl (by decide) k_X5_9 rfl rfl rfl dX5_copyFrom_13 (fun H locs hW _ => ?_)
  generalize hμ4 : m_si μ (k) 1 x3 = μ4 at hW
  have hI := hI.si1 hμ4 hb1 (by omega) hg
  refine lv_aload_n hx hb dX5_copyFrom_16 rfl (lv_at hl 1 rfl) ?_
  refine m_getr hx hb hts hown hW (o) 0 (o1) ho rfl cw_5 rfl (by decide) k_X5_21 dX5_copyFrom_17 ?_
  refine lv_iconst (v := 0) hx hb dX5_copyFrom_20 (by decide) ?_
  refine lv_aload_n hx hb dX5_copyFrom_21 rfl (lv_at hl 0 rfl) ?_
  refine m_getr hx hb hts hown hW (k) 0 (k1) hk rfl cw_5 rfl (by decide) k_X5_21 dX5_copyFrom_22 ?_
  refine lv_iconst (v := 0) hx hb dX5_copyFrom_25 (by decide) ?_
  refine lv_aload_n hx hb dX5_copyFrom_26 rfl (lv_at hl 0 rfl) ?_
  refine m_geti hx hb hts hown hW (k) 1 hk rfl cw_5 rfl (by decide) k_X5_9 dX5_copyFrom_27 ?_
  refine lv_topi (fun x5 ex5 => ?_)
  have ex5 : x5 = x3 := by rw [ex5]; exact (by rw [← hμ4]; exact if_pos ⟨rfl, rfl⟩)
  have ex5 := ex5.symm
  subst ex5
  refine m_copy hx hb (hml.trans hl.1.symm) hts hown k_X5_32 hW o1 k1 ho1 hk1 (by decide) (by decide) (m_nn (rfl : x3.toInt = _) (by omega)) (m_cl (rfl : x3.toInt = _) (by omega)) (m_cl (rfl : x3.toInt = _) (by omega)) (Nat.le_of_ble_eq_true rfl) (Nat.le_of_ble_eq_true rfl) dX5_copyFrom_30 (fun H locs hW => ?_)
  generalize hμ6 : m_cp μ4 o1 k1 (0 : Int32).toNatClampNeg (0 : Int32).toNatClampNeg (x3 : Int32).toNatClampNeg = μ6 at hW
  have hI := hI.cp hμ6 hb0 hg1
  exact m_vret hx hb hr hlocks hW (⟨hI, trivial⟩) dX5_copyFrom_33
set_option maxHeartbeats 4000000 in
set_option maxRecDepth 100000 in
theorem L_X5_firstRunBelow_5 {p : Program} {l : Launch} {e : Env} {s : State} {m : MethodId} {args : Array Value} {below : List Frame} {meth : Method} {c : Code} {D : va_G} {cy : Nat → ClassId} {b : Nat} (hx : p.tables.exec = Jvm.exec) (hb : c.code = cX5_firstRunBelow) (hr : meth.sig.returnType = ((some .int))) (hml : c.maxLocals = 5) (hown : s.vm.findClass RX5 = some m.cls) (hts : ∀ w ∈ TB, w.before args s = true) (hlocks : meth.locks = false) (μ1 : mM) (k k1 n : Nat) (hk : LAY[k]? = some (.inl (5, [k1 + 3, 0]))) (hk1 : LAY[k1]? = some (.inr (0, n, []))) (hn : n < 2 ^ 30) (hb1 : bX k 1 = some (0, (n : Int))) (hb0 : ∀ j, bX k1 j = none) (u v : Int32) : ∀ (f : Nat), ∀ (y3 y4 : Int32) (hy : 0 ≤ y4.toInt ∧ y4.toInt ≤ n) (hf : n - y4.toInt < (f : Int)) (μ : mM) (hI : IX μ) (hm : μ = μ1) (H : Heap) (locs : List Loc), m_WA (m_A b LAY) D cy s b LAY μ H locs → ∀ ls : Array Slot, lv_has ls 5 [(0, .ref (b + k)), (1, .int u), (2, .int v), (3, .int y3), (4, .int y4)] → W p l e (m_R 0 0 0) s m args below meth c H locs 0 0 (MQ below (m_Qi D cy b LAY (fun r ν => μ1 = ν ∧ (True))) args s 0 0 (m_A b LAY)) (F0 m 5 ls []) := by
  intro f
  induction f with
  | zero => intro y3 y4 hy hf; exfalso; omega
  | succ f ih =>
    intro y3 y4 hy hf μ hI hm H locs hW ls hl
    refine lv_iload hx hb dX5_firstRunBelow_5 (lv_at hl 4 rfl) ?_
    refine lv_aload_n hx hb dX5_firstRunBelow_7 rfl (lv_at hl 0 rfl) ?_
    refine m_geti hx hb hts hown hW (k) 1 hk rfl cw_5 rfl (by decide) k_X5_9 dX5_firstRunBelow_8 ?_
    refine lv_topi (fun x1 ex1 => ?_)
    have bx1 : 0 ≤ x1.toInt ∧ x1.toInt ≤ n := by rw [ex1]; exact hI _ _ _ _ hb1
    refine lv_icmp_ge (tgt := 51) hx hb dX5_firstRunBelow_11 (by decide) (fun c2 => ?_) (fun c2 => ?_)
    · have i2 := m_c3 (rfl : x1.toInt = _) (rfl : y4.toInt = _) c2
      refine lv_iconst (v := (-1)) hx hb dX5_firstRunBelow_51 (by decide) ?_
      exact m_iret hx hb hr hlocks hW rfl (⟨hm.symm, trivial⟩) dX5_firstRunBelow_52
    · have i2 := m_c4 (rfl : x1.toInt = _) (rfl : y4.toInt = _) c2
      refine lv_aload_n hx hb dX5_firstRunBelow_14 rfl (lv_at hl 0 rfl) ?_
      refine m_getr hx hb hts hown hW (k) 0 (k1) hk rfl cw_5 rfl (by decide) k_X5_21 dX5_firstRunBelow_15 ?_
      refine lv_iload hx hb dX5_firstRunBelow_18 (lv_at hl 4 rfl) ?_
      refine m_iald hx hb hW (k1) hk1 (m_ixI (rfl : y4.toInt = _) (by omega) (by omega)) dX5_firstRunBelow_20 ?_
      refine lv_topi (fun x3 ex3 => ?_)
      refine lv_iload_n hx hb dX5_firstRunBelow_21 rfl (lv_at hl 1 rfl) ?_
      refine lv_icmp_ge (tgt := 31) hx hb dX5_firstRunBelow_22 (by decide) (fun c4 => ?_) (fun c4 => ?_)
      · have i4 := m_c3 (rfl : u.toInt = _) (rfl : x3.toInt = _) c4
        refine lv_iconst (v := 0) hx hb dX5_firstRunBelow_31 (by decide) ?_
        refine lv_istore_n (lv' := [(3, .int 0), (0, .ref (b + k)), (1, .int u), (2, .int v), (4, .int y4)]) hx hb dX5_firstRunBelow_32 rfl hl (by decide) rfl (fun ls hl => ?_)
        refine lv_iload_n hx hb dX5_firstRunBelow_33 rfl (lv_at hl 0 rfl) ?_
        refine lv_iload_n hx hb dX5_firstRunBelow_34 rfl (lv_at hl 3 rfl) ?_
        refine lv_icmp_ne (tgt := 45) hx hb dX5_firstRunBelow_35 (by decide) (fun c5 => ?_) (fun c5 => ?_)
        · have i5 := m_c6 (by decide : (0 : Int32).toInt = 0) (rfl : v.toInt = _) c5
          obtain ⟨x6, ex6⟩ : ∃ z : Int32, z = y4 + 1 := ⟨_, rfl⟩
          refine lv_iinc (v := x6) (lv' := [(4, .int x6), (3, .int 0), (0, .ref (b + k)), (1, .int u), (2, .int v)]) hx hb dX5_firstRunBelow_45 hl (k := 4) rfl (by rw [ex6]; rfl) (by decide) rfl (fun ls hl => ?_)
          have tx6 : x6.toInt = y4.toInt + 1 := m_addI ex6 (rfl : y4.toInt = _) (by decide : (1 : Int32).toInt = 1) (by omega) (by omega)
          refine lv_goto (tgt := 5) hx hb dX5_firstRunBelow_48 (by decide) ?_
          have l_0 : (0 : Int32).toInt = 0 := by decide
          exact ih 0 x6 (by omega) (by omega) μ hI hm _ _ hW ls (lv_sub hl [2, 3, 4, 1, 0] rfl)
        · have i5 := m_c5 (by decide : (0 : Int32).toInt = 0) (rfl : v.toInt = _) c5
          refine lv_iload hx hb dX5_firstRunBelow_38 (lv_at hl 4 rfl) ?_
          refine lv_iload_n hx hb dX5_firstRunBelow_40 rfl (lv_at hl 3 rfl) ?_
          refine lv_isub hx hb dX5_firstRunBelow_41 ?_
          refine lv_topi (fun x7 ex7 => ?_)
          have tx7 : x7.toInt = y4.toInt - v.toInt := m_subI ex7 (rfl : y4.toInt = _) (rfl : v.toInt = _) (by omega) (by omega)
          refine lv_iconst (v := 1) hx hb dX5_firstRunBelow_42 (by decide) ?_
          refine lv_iadd hx hb dX5_firstRunBelow_43 ?_
          refine lv_topi (fun x8 ex8 => ?_)
          have tx8 : x8.toInt = x7.toInt + 1 := m_addI ex8 (rfl : x7.toInt = _) (by decide : (1 : Int32).toInt = 1) (by omega) (by omega)
          exact m_iret hx hb hr hlocks hW rfl (⟨hm.symm, trivial⟩) dX5_firstRunBelow_44
      · have i4 := m_c4 (rfl : u.toInt = _) (rfl : x3.toInt = _) c4
        refine lv_iload_n hx hb dX5_firstRunBelow_25 rfl (lv_at hl 3 rfl) ?_
        refine lv_iconst (v := 1) hx hb dX5_firstRunBelow_26 (by decide) ?_
        refine lv_iadd hx hb dX5_firstRunBelow_27 ?_
        refine lv_topi (fun x9 ex9 => ?_)
        refine lv_goto (tgt := 32) hx hb dX5_firstRunBelow_28 (by decide) ?_
        refine lv_istore_n (lv' := [(3, .int x9), (0, .ref (b + k)), (1, .int u), (2, .int v), (4, .int y4)]) hx hb dX5_firstRunBelow_32 rfl hl (by decide) rfl (fun ls hl => ?_)
        refine lv_iload_n hx hb dX5_firstRunBelow_33 rfl (lv_at hl 0 rfl) ?_
        refine lv_iload_n hx hb dX5_firstRunBelow_34 rfl (lv_at hl 3 rfl) ?_
        refine lv_icmp_ne (tgt := 45) hx hb dX5_firstRunBelow_35 (by decide) (fun c10 => ?_) (fun c10 => ?_)
        · have i10 := m_c6 (rfl : x9.toInt = _) (rfl : v.toInt = _) c10
          obtain ⟨x11, ex11⟩ : ∃ z : Int32, z = y4 + 1 := ⟨_, rfl⟩
          refine lv_iinc (v := x11) (lv' := [(4, .int x11), (3, .int x9), (0, .ref (b + k)), (1, .int u), (2, .int v)]) hx hb dX5_firstRunBelow_45 hl (k := 4) rfl (by rw [ex11]; rfl) (by decide) rfl (fun ls hl => ?_)
          have tx11 : x11.toInt = y4.toInt + 1 := m_addI ex11 (rfl : y4.toInt = _) (by decide : (1 : Int32).toInt = 1) (by omega) (by omega)
          refine lv_goto (tgt := 5) hx hb dX5_firstRunBelow_48 (by decide) ?_
          exact ih x9 x11 (by omega) (by omega) μ hI hm _ _ hW ls (lv_sub hl [2, 3, 4, 1, 0] rfl)
        · have i10 := m_c5 (rfl : x9.toInt = _) (rfl : v.toInt = _) c10
          refine lv_iload hx hb dX5_firstRunBelow_38 (lv_at hl 4 rfl) ?_
          refine lv_iload_n hx hb dX5_firstRunBelow_40 rfl (lv_at hl 3 rfl) ?_
          refine lv_isub hx hb dX5_firstRunBelow_41 ?_
          refine lv_topi (fun x12 ex12 => ?_)
          refine lv_iconst (v := 1) hx hb dX5_firstRunBelow_42 (by decide) ?_
          refine lv_iadd hx hb dX5_firstRunBelow_43 ?_
          refine lv_topi (fun x13 ex13 => ?_)
          exact m_iret hx hb hr hlocks hW rfl (⟨hm.symm, trivial⟩) dX5_firstRunBelow_44
set_option maxHeartbeats 4000000 in
set_option maxRecDepth 100000 in
theorem g_X5_firstRunBelow (l : Launch) (D : va_G) (cy : Nat → ClassId) (b : Nat) (k k1 n : Nat) (hk : LAY[k]? = some (.inl (5, [k1 + 3, 0]))) (hk1 : LAY[k1]? = some (.inr (0, n, []))) (hn : n < 2 ^ 30) (hb1 : bX k 1 = some (0, (n : Int))) (hb0 : ∀ j, bX k1 j = none) (u v : Int32) (μ : mM) (hI : IX μ) : m_Ci l yX5_firstRunBelow cX5_firstRunBelow 5 ((some .int)) 0 D cy b LAY μ [.ref (b + k), .int u, .int v] (fun r ν => μ = ν ∧ (True)) := by
  unfold m_Ci
  refine m_of (by decide) (Nat.le_of_ble_eq_true rfl) ?_
  intro p e s m below meth c hx hb hr hml hown hts hlocks _ hW ls hl
  have hown : s.vm.findClass RX5 = some m.cls := hown
  have hl : lv_has ls 5 [(0, .ref (b + k)), (1, .int u), (2, .int v)] := hl
  refine lv_iconst (v := 0) hx hb dX5_firstRunBelow_0 (by decide) ?_
  refine lv_istore_n (lv' := [(3, .int 0), (0, .ref (b + k)), (1, .int u), (2, .int v)]) hx hb dX5_firstRunBelow_1 rfl hl (by decide) rfl (fun ls hl => ?_)
  refine lv_iconst (v := 0) hx hb dX5_firstRunBelow_2 (by decide) ?_
  refine lv_istore (lv' := [(4, .int 0), (3, .int 0), (0, .ref (b + k)), (1, .int u), (2, .int v)]) hx hb dX5_firstRunBelow_3 hl (by decide) rfl (fun ls hl => ?_)
  have l_0 : (0 : Int32).toInt = 0 := by decide
  exact L_X5_firstRunBelow_5 hx hb hr hml hown hts hlocks μ k k1 n hk hk1 hn hb1 hb0 u v  (n + 1) 0 0 (by omega) (by omega) μ hI rfl _ _ hW ls (lv_sub hl [2, 3, 4, 1, 0] rfl)
set_option maxHeartbeats 4000000 in
set_option maxRecDepth 100000 in
theorem L_J7_fill_53178_5 {p : Program} {l : Launch} {e : Env} {s : State} {m : MethodId} {args : Array Value} {below : List Frame} {meth : Method} {c : Code} {D : va_G} {cy : Nat → ClassId} {b : Nat} (hx : p.tables.exec = Jvm.exec) (hb : c.code = cJ7_fill_53178) (hr : meth.sig.returnType = (none)) (hml : c.maxLocals = 4) (hown : s.vm.findClass RJ7 = some m.cls) (hts : ∀ w ∈ TB, w.before args s = true) (hlocks : meth.locks = false) (S : Nat → Bool) (μ0 : mM) (k n : Nat) (hk : LAY[k]? = some (.inr (0, n, []))) (hn : n < 2 ^ 30) (hb0 : ∀ j, bX k j = none) (hg1 : ∀ j, S (grp k j) = true) (v : Int32) : ∀ (f : Nat), ∀ (y2 : Int32) (hy : 0 ≤ y2.toInt ∧ y2.toInt ≤ n) (hf : n - y2.toInt < (f : Int)) (μ : mM) (hI : IY S μ0 μ) (H : Heap) (locs : List Loc), m_WA (m_A b LAY) D cy s b LAY μ H locs → ∀ ls : Array Slot, lv_has ls 4 [(0, .ref (b + k)), (1, .int v), (2, .int y2), (3, .int (nI n))] → W p l e (m_R 0 0 0) s m args below meth c H locs 0 0 (MQ below (m_Qv D cy b LAY (fun ν => IY S μ0 ν ∧ (True))) args s 0 0 (m_A b LAY)) (F0 m 5 ls []) := by
  intro f
  induction f with
  | zero => intro y2 hy hf; exfalso; omega
  | succ f ih =>
    intro y2 hy hf μ hI H locs hW ls hl
    refine lv_iload_n hx hb dJ7_fill_53178_5 rfl (lv_at hl 2 rfl) ?_
    refine lv_iload_n hx hb dJ7_fill_53178_6 rfl (lv_at hl 3 rfl) ?_
    refine lv_icmp_ge (tgt := 20) hx hb dJ7_fill_53178_7 (by decide) (fun c1 => ?_) (fun c1 => ?_)
    · have i1 := m_c3 (nI_toInt (by omega) : (nI n).toInt = (n : Int)) (rfl : y2.toInt = _) c1
      exact m_vret hx hb hr hlocks hW (⟨hI, trivial⟩) dJ7_fill_53178_20
    · have i1 := m_c4 (nI_toInt (by omega) : (nI n).toInt = (n : Int)) (rfl : y2.toInt = _) c1
      refine lv_aload_n hx hb dJ7_fill_53178_10 rfl (lv_at hl 0 rfl) ?_
      refine lv_iload_n hx hb dJ7_fill_53178_11 rfl (lv_at hl 2 rfl) ?_
      refine lv_iload_n hx hb dJ7_fill_53178_12 rfl (lv_at hl 1 rfl) ?_
      refine m_iast hx hb hW (k) hk (m_ixI (rfl : y2.toInt = _) (by omega) (by omega)) dJ7_fill_53178_13 (fun H locs hW _ => ?_)
      generalize hμ2 : m_si μ (k) (y2 : Int32).toNatClampNeg v = μ2 at hW
      have hI := hI.si0 hμ2 (hb0 _) (hg1 _)
      obtain ⟨x3, ex3⟩ : ∃ z : Int32, z = y2 + 1 := ⟨_, rfl⟩
      refine lv_iinc (v := x3) (lv' := [(2, .int x3), (0, .ref (b + k)), (1, .int v), (3, .int (nI n))]) hx hb dJ7_fill_53178_14 hl (k := 2) rfl (by rw [ex3]; rfl) (by decide) rfl (fun ls hl => ?_)
      have tx3 : x3.toInt = y2.toInt + 1 := m_addI ex3 (rfl : y2.toInt = _) (by decide : (1 : Int32).toInt = 1) (by omega) (by omega)
      refine lv_goto (tgt := 5) hx hb dJ7_fill_53178_17 (by decide) ?_
      exact ih x3 (by omega) (by omega) μ2 hI _ _ hW ls (lv_sub hl [1, 2, 0, 3] rfl)
set_option maxHeartbeats 4000000 in
set_option maxRecDepth 100000 in
theorem g_J7_fill_53178 (l : Launch) (D : va_G) (cy : Nat → ClassId) (b : Nat) (S : Nat → Bool) (μ0 : mM) (k n : Nat) (hk : LAY[k]? = some (.inr (0, n, []))) (hn : n < 2 ^ 30) (hb0 : ∀ j, bX k j = none) (hg1 : ∀ j, S (grp k j) = true) (v : Int32) (μ : mM) (hI : IY S μ0 μ) : m_Cv l yJ7_fill_53178 cJ7_fill_53178 4 (none) 0 D cy b LAY μ [.ref (b + k), .int v] (fun ν => IY S μ0 ν ∧ (True)) := by
  unfold m_Cv
  refine m_of (by decide) (Nat.le_of_ble_eq_true rfl) ?_
  intro p e s m below meth c hx hb hr hml hown hts hlocks _ hW ls hl
  have hown : s.vm.findClass RJ7 = some m.cls := hown
  have hl : lv_has ls 4 [(0, .ref (b + k)), (1, .int v)] := hl
  refine lv_iconst (v := 0) hx hb dJ7_fill_53178_0 (by decide) ?_
  refine lv_istore_n (lv' := [(2, .int 0), (0, .ref (b + k)), (1, .int v)]) hx hb dJ7_fill_53178_1 rfl hl (by decide) rfl (fun ls hl => ?_)
  refine lv_aload_n hx hb dJ7_fill_53178_2 rfl (lv_at hl 1 rfl) ?_
  refine m_alen hx hb hW (k) hk dJ7_fill_53178_3 ?_
  refine lv_topi (fun x1 ex1 => ?_)
  have ex1 : x1 = (nI n) := ex1
  have ex1 := ex1.symm
  subst ex1
  refine lv_istore_n (lv' := [(3, .int (nI n)), (2, .int 0), (0, .ref (b + k)), (1, .int v)]) hx hb dJ7_fill_53178_4 rfl hl (by decide) rfl (fun ls hl => ?_)
  have l_0 : (0 : Int32).toInt = 0 := by decide
  exact L_J7_fill_53178_5 hx hb hr hml hown hts hlocks S μ0 k n hk hn hb0 hg1 v  (n + 1) 0 (by omega) (by omega) μ hI _ _ hW ls (lv_sub hl [2, 3, 1, 0] rfl)
