theorem m_eq0 (x : Int32) : x = 0 ↔ x.toInt = 0 := m_eqI (by decide)
theorem m_eq1 (x : Int32) : x = 1 ↔ x.toInt = 1 := m_eqI (by decide)
theorem m_eq2 (x : Int32) : x = 2 ↔ x.toInt = 2 := m_eqI (by decide)
theorem m_eq3 (x : Int32) : x = 3 ↔ x.toInt = 3 := m_eqI (by decide)
theorem m_andN (a c : Nat) : nI a &&& nI c = nI (a &&& c) := by
  refine Int32.toBitVec_inj.mp ?_
  show BitVec.ofNat 32 a &&& BitVec.ofNat 32 c = BitVec.ofNat 32 (a &&& c)
  refine BitVec.eq_of_getLsbD_eq fun i hi => ?_
  simp [BitVec.getLsbD_ofNat, hi, Nat.testBit_and]
theorem m_ones {y x0 x : Int32} {n : Nat} (h : y = nI n) (e0 : x0 = y - 1) (e1 : x = y &&& x0) (hc : ¬ y = 0) : x = nI (n &&& (n - 1)) ∧ n &&& (n - 1) < n := by
  have hn : 0 < n := by
    rcases Nat.eq_zero_or_pos n with q | q
    · exact absurd (by rw [h, q]; rfl) hc
    · exact q
  obtain ⟨j, rfl⟩ : ∃ j, n = j + 1 := ⟨n - 1, by omega⟩
  refine ⟨?_, ?_⟩
  · rw [e1, e0, h, nI_pred, m_andN]
    rfl
  · have := Nat.and_le_right (n := j + 1) (m := j + 1 - 1)
    omega
theorem m_si0 {μ ν : mM} {k i : Nat} (e : m_si μ k i 0 = ν) (h : ∀ j, μ.1 k j = 0) : ∀ j, ν.1 k j = 0 := by
  intro j
  rw [← e]
  show (if k = k ∧ j = i then 0 else μ.1 k j) = 0
  rw [h j]
  exact ite_self _
theorem m_si1 {μ ν : mM} {k k2 i : Nat} {v : Int32} (e : m_si μ k2 i v = ν) (hk : k ≠ k2) (h : ∀ j, μ.1 k j = 0) : ∀ j, ν.1 k j = 0 := by
  intro j
  rw [← e]
  exact (if_neg (fun q => hk q.1)).trans (h j)
theorem m_pos {x : Int32} (h : ¬ x = 0) (h2 : 0 ≤ x.toInt ∧ x.toInt ≤ 40) : 1 ≤ x.toInt ∧ x.toInt ≤ 40 := by
  rw [m_eq0] at h
  omega
theorem m_pos2 {x : Int32} (h : ¬ x = 0) (h2 : 0 ≤ x.toInt ∧ x.toInt ≤ 40) : 1 ≤ x.toInt ∧ x.toInt ≤ 40 := m_pos h h2
set_option maxHeartbeats 4000000 in
set_option maxRecDepth 100000 in
theorem c_X12_puts (l : Launch) (D : va_G) (cy : Nat → ClassId) (b : Nat) (μ : mM) (t : Nat) (hs : μ.1 81 35 = nI t) (ht : t + 4 ≤ 400) (v : Int32) : m_Cv l yX12_puts cX12_puts 3 (none) 0 D cy b LAY μ [.ref (b + 81), .int v] (fun ν => ν.1 81 35 = nI (t + 4)) := by
  unfold m_Cv
  refine m_of (by decide) (Nat.le_of_ble_eq_true rfl) ?_
  intro p e s m below meth c hx hb hr hml hown hts hlocks _ hW ls hl
  have hown : s.vm.findClass RX12 = some m.cls := hown
  have hl : lv_has ls 3 [(0, .ref (b + 81)), (1, .int v)] := hl
  refine lv_bipush (v := 24) hx hb dX12_puts_0 (by decide) ?_
  refine lv_istore_n (lv' := [(2, .int 24), (0, .ref (b + 81)), (1, .int v)]) hx hb dX12_puts_2 rfl hl (by decide) rfl (fun ls hl => ?_)
  refine lv_iload_n hx hb dX12_puts_3 rfl (lv_at hl 0 rfl) ?_
  refine lv_if_lt (tgt := 39) hx hb dX12_puts_4 (by decide) (fun c => False.elim (by revert c; decide)) (fun _ => ?_)
  refine lv_aload_n hx hb dX12_puts_7 rfl (lv_at hl 1 rfl) ?_
  refine m_getr hx hb hts hown hW (81) 34 (106) rfl rfl cw_12 rfl (by decide) k_X12_95 dX12_puts_8 ?_
  refine lv_aload_n hx hb dX12_puts_11 rfl (lv_at hl 1 rfl) ?_
  refine m_geti hx hb hts hown hW (81) 35 rfl rfl cw_12 rfl (by decide) k_X12_239 dX12_puts_12 ?_
  refine lv_topi (fun x1 ex1 => ?_)
  have ex1 : x1 = (nI (t + 0)) := by rw [ex1]; exact hs
  subst ex1
  refine lv_iload_n hx hb dX12_puts_15 rfl (lv_at hl 2 rfl) ?_
  refine lv_iload_n hx hb dX12_puts_16 rfl (lv_at hl 0 rfl) ?_
  refine lv_ishr hx hb dX12_puts_17 ?_
  refine lv_topi (fun x2 ex2 => ?_)
  refine lv_sipush (v := 255) hx hb dX12_puts_18 (by decide) ?_
  refine lv_iand hx hb dX12_puts_21 ?_
  refine lv_topi (fun x3 ex3 => ?_)
  refine m_iast hx hb hW (106) rfl (vp_in_nI (by omega) (by omega)) dX12_puts_22 (fun H locs hW _ => ?_)
  generalize hμ4 : m_si μ (106) ((nI (t + 0)) : Int32).toNatClampNeg x3 = μ4 at hW
  refine lv_aload_n hx hb dX12_puts_23 rfl (lv_at hl 1 rfl) ?_
  refine lv_aload_n hx hb dX12_puts_24 rfl (lv_at hl 1 rfl) ?_
  refine m_geti hx hb hts hown hW (81) 35 rfl rfl cw_12 rfl (by decide) k_X12_239 dX12_puts_25 ?_
  refine lv_topi (fun x5 ex5 => ?_)
  have ex5 : x5 = (nI (t + 0)) := by rw [ex5, ← hμ4]; exact hs
  subst ex5
  refine lv_iconst (v := 1) hx hb dX12_puts_28 (by decide) ?_
  refine lv_iadd hx hb dX12_puts_29 ?_
  refine lv_topi (fun x6 ex6 => ?_)
  have ex6 : x6 = (nI (t + 1)) := by rw [ex6]; exact nI_1 _
  subst ex6
  refine m_puti hx hb hts hown hW (81) 35 rfl rfl cw_12 tyX12_ok nmX12 rfl (by decide) k_X12_239 rfl rfl rfl dX12_puts_30 (fun H locs hW _ => ?_)
  generalize hμ7 : m_si μ4 (81) 35 (nI (t + 1)) = μ7 at hW
  refine lv_iinc (v := 16) (lv' := [(2, .int 16), (0, .ref (b + 81)), (1, .int v)]) hx hb dX12_puts_33 hl (k := 0) rfl (by decide) (by decide) rfl (fun ls hl => ?_)
  refine lv_goto (tgt := 3) hx hb dX12_puts_36 (by decide) ?_
  refine lv_iload_n hx hb dX12_puts_3 rfl (lv_at hl 0 rfl) ?_
  refine lv_if_lt (tgt := 39) hx hb dX12_puts_4 (by decide) (fun c => False.elim (by revert c; decide)) (fun _ => ?_)
  refine lv_aload_n hx hb dX12_puts_7 rfl (lv_at hl 1 rfl) ?_
  refine m_getr hx hb hts hown hW (81) 34 (106) rfl rfl cw_12 rfl (by decide) k_X12_95 dX12_puts_8 ?_
  refine lv_aload_n hx hb dX12_puts_11 rfl (lv_at hl 1 rfl) ?_
  refine m_geti hx hb hts hown hW (81) 35 rfl rfl cw_12 rfl (by decide) k_X12_239 dX12_puts_12 ?_
  refine lv_topi (fun x8 ex8 => ?_)
  have ex8 : x8 = (nI (t + 1)) := by rw [ex8, ← hμ7]; first | rfl | exact if_pos ⟨rfl, rfl⟩
  subst ex8
  refine lv_iload_n hx hb dX12_puts_15 rfl (lv_at hl 2 rfl) ?_
  refine lv_iload_n hx hb dX12_puts_16 rfl (lv_at hl 0 rfl) ?_
  refine lv_ishr hx hb dX12_puts_17 ?_
  refine lv_topi (fun x9 ex9 => ?_)
  refine lv_sipush (v := 255) hx hb dX12_puts_18 (by decide) ?_
  refine lv_iand hx hb dX12_puts_21 ?_
  refine lv_topi (fun x10 ex10 => ?_)
  refine m_iast hx hb hW (106) rfl (vp_in_nI (by omega) (by omega)) dX12_puts_22 (fun H locs hW _ => ?_)
  generalize hμ11 : m_si μ7 (106) ((nI (t + 1)) : Int32).toNatClampNeg x10 = μ11 at hW
  refine lv_aload_n hx hb dX12_puts_23 rfl (lv_at hl 1 rfl) ?_
  refine lv_aload_n hx hb dX12_puts_24 rfl (lv_at hl 1 rfl) ?_
  refine m_geti hx hb hts hown hW (81) 35 rfl rfl cw_12 rfl (by decide) k_X12_239 dX12_puts_25 ?_
  refine lv_topi (fun x12 ex12 => ?_)
  have ex12 : x12 = (nI (t + 1)) := by rw [ex12, ← hμ11, ← hμ7]; first | rfl | exact if_pos ⟨rfl, rfl⟩
  subst ex12
  refine lv_iconst (v := 1) hx hb dX12_puts_28 (by decide) ?_
  refine lv_iadd hx hb dX12_puts_29 ?_
  refine lv_topi (fun x13 ex13 => ?_)
  have ex13 : x13 = (nI (t + 2)) := by rw [ex13]; exact nI_1 _
  subst ex13
  refine m_puti hx hb hts hown hW (81) 35 rfl rfl cw_12 tyX12_ok nmX12 rfl (by decide) k_X12_239 rfl rfl rfl dX12_puts_30 (fun H locs hW _ => ?_)
  generalize hμ14 : m_si μ11 (81) 35 (nI (t + 2)) = μ14 at hW
  refine lv_iinc (v := 8) (lv' := [(2, .int 8), (0, .ref (b + 81)), (1, .int v)]) hx hb dX12_puts_33 hl (k := 0) rfl (by decide) (by decide) rfl (fun ls hl => ?_)
  refine lv_goto (tgt := 3) hx hb dX12_puts_36 (by decide) ?_
  refine lv_iload_n hx hb dX12_puts_3 rfl (lv_at hl 0 rfl) ?_
  refine lv_if_lt (tgt := 39) hx hb dX12_puts_4 (by decide) (fun c => False.elim (by revert c; decide)) (fun _ => ?_)
  refine lv_aload_n hx hb dX12_puts_7 rfl (lv_at hl 1 rfl) ?_
  refine m_getr hx hb hts hown hW (81) 34 (106) rfl rfl cw_12 rfl (by decide) k_X12_95 dX12_puts_8 ?_
  refine lv_aload_n hx hb dX12_puts_11 rfl (lv_at hl 1 rfl) ?_
  refine m_geti hx hb hts hown hW (81) 35 rfl rfl cw_12 rfl (by decide) k_X12_239 dX12_puts_12 ?_
  refine lv_topi (fun x15 ex15 => ?_)
  have ex15 : x15 = (nI (t + 2)) := by rw [ex15, ← hμ14]; first | rfl | exact if_pos ⟨rfl, rfl⟩
  subst ex15
  refine lv_iload_n hx hb dX12_puts_15 rfl (lv_at hl 2 rfl) ?_
  refine lv_iload_n hx hb dX12_puts_16 rfl (lv_at hl 0 rfl) ?_
  refine lv_ishr hx hb dX12_puts_17 ?_
  refine lv_topi (fun x16 ex16 => ?_)
  refine lv_sipush (v := 255) hx hb dX12_puts_18 (by decide) ?_
  refine lv_iand hx hb dX12_puts_21 ?_
  refine lv_topi (fun x17 ex17 => ?_)
  refine m_iast hx hb hW (106) rfl (vp_in_nI (by omega) (by omega)) dX12_puts_22 (fun H locs hW _ => ?_)
  generalize hμ18 : m_si μ14 (106) ((nI (t + 2)) : Int32).toNatClampNeg x17 = μ18 at hW
  refine lv_aload_n hx hb dX12_puts_23 rfl (lv_at hl 1 rfl) ?_
  refine lv_aload_n hx hb dX12_puts_24 rfl (lv_at hl 1 rfl) ?_
  refine m_geti hx hb hts hown hW (81) 35 rfl rfl cw_12 rfl (by decide) k_X12_239 dX12_puts_25 ?_
  refine lv_topi (fun x19 ex19 => ?_)
  have ex19 : x19 = (nI (t + 2)) := by rw [ex19, ← hμ18, ← hμ14]; first | rfl | exact if_pos ⟨rfl, rfl⟩
  subst ex19
  refine lv_iconst (v := 1) hx hb dX12_puts_28 (by decide) ?_
  refine lv_iadd hx hb dX12_puts_29 ?_
  refine lv_topi (fun x20 ex20 => ?_)
  have ex20 : x20 = (nI (t + 3)) := by rw [ex20]; exact nI_1 _
  subst ex20
  refine m_puti hx hb hts hown hW (81) 35 rfl rfl cw_12 tyX12_ok nmX12 rfl (by decide) k_X12_239 rfl rfl rfl dX12_puts_30 (fun H locs hW _ => ?_)
  generalize hμ21 : m_si μ18 (81) 35 (nI (t + 3)) = μ21 at hW
  refine lv_iinc (v := 0) (lv' := [(2, .int 0), (0, .ref (b + 81)), (1, .int v)]) hx hb dX12_puts_33 hl (k := 0) rfl (by decide) (by decide) rfl (fun ls hl => ?_)
  refine lv_goto (tgt := 3) hx hb dX12_puts_36 (by decide) ?_
  refine lv_iload_n hx hb dX12_puts_3 rfl (lv_at hl 0 rfl) ?_
  refine lv_if_lt (tgt := 39) hx hb dX12_puts_4 (by decide) (fun c => False.elim (by revert c; decide)) (fun _ => ?_)
  refine lv_aload_n hx hb dX12_puts_7 rfl (lv_at hl 1 rfl) ?_
  refine m_getr hx hb hts hown hW (81) 34 (106) rfl rfl cw_12 rfl (by decide) k_X12_95 dX12_puts_8 ?_
  refine lv_aload_n hx hb dX12_puts_11 rfl (lv_at hl 1 rfl) ?_
  refine m_geti hx hb hts hown hW (81) 35 rfl rfl cw_12 rfl (by decide) k_X12_239 dX12_puts_12 ?_
  refine lv_topi (fun x22 ex22 => ?_)
  have ex22 : x22 = (nI (t + 3)) := by rw [ex22, ← hμ21]; first | rfl | exact if_pos ⟨rfl, rfl⟩
  subst ex22
  refine lv_iload_n hx hb dX12_puts_15 rfl (lv_at hl 2 rfl) ?_
  refine lv_iload_n hx hb dX12_puts_16 rfl (lv_at hl 0 rfl) ?_
  refine lv_ishr hx hb dX12_puts_17 ?_
  refine lv_topi (fun x23 ex23 => ?_)
  refine lv_sipush (v := 255) hx hb dX12_puts_18 (by decide) ?_
  refine lv_iand hx hb dX12_puts_21 ?_
  refine lv_topi (fun x24 ex24 => ?_)
  refine m_iast hx hb hW (106) rfl (vp_in_nI (by omega) (by omega)) dX12_puts_22 (fun H locs hW _ => ?_)
  generalize hμ25 : m_si μ21 (106) ((nI (t + 3)) : Int32).toNatClampNeg x24 = μ25 at hW
  refine lv_aload_n hx hb dX12_puts_23 rfl (lv_at hl 1 rfl) ?_
  refine lv_aload_n hx hb dX12_puts_24 rfl (lv_at hl 1 rfl) ?_
  refine m_geti hx hb hts hown hW (81) 35 rfl rfl cw_12 rfl (by decide) k_X12_239 dX12_puts_25 ?_
  refine lv_topi (fun x26 ex26 => ?_)
  have ex26 : x26 = (nI (t + 3)) := by rw [ex26, ← hμ25, ← hμ21]; first | rfl | exact if_pos ⟨rfl, rfl⟩
  subst ex26
  refine lv_iconst (v := 1) hx hb dX12_puts_28 (by decide) ?_
  refine lv_iadd hx hb dX12_puts_29 ?_
  refine lv_topi (fun x27 ex27 => ?_)
  have ex27 : x27 = (nI (t + 4)) := by rw [ex27]; exact nI_1 _
  subst ex27
  refine m_puti hx hb hts hown hW (81) 35 rfl rfl cw_12 tyX12_ok nmX12 rfl (by decide) k_X12_239 rfl rfl rfl dX12_puts_30 (fun H locs hW _ => ?_)
  generalize hμ28 : m_si μ25 (81) 35 (nI (t + 4)) = μ28 at hW
  refine lv_iinc (v := (-8)) (lv' := [(2, .int (-8)), (0, .ref (b + 81)), (1, .int v)]) hx hb dX12_puts_33 hl (k := 0) rfl (by decide) (by decide) rfl (fun ls hl => ?_)
  refine lv_goto (tgt := 3) hx hb dX12_puts_36 (by decide) ?_
  refine lv_iload_n hx hb dX12_puts_3 rfl (lv_at hl 0 rfl) ?_
  refine lv_if_lt (tgt := 39) hx hb dX12_puts_4 (by decide) (fun _ => ?_) (fun c => False.elim (by revert c; decide))
  exact m_vret hx hb hr hlocks hW (by rw [← hμ28]; first | rfl | exact if_pos ⟨rfl, rfl⟩) dX12_puts_39
set_option maxHeartbeats 4000000 in
set_option maxRecDepth 100000 in
theorem c_X12_feed (l : Launch) (D : va_G) (cy : Nat → ClassId) (b : Nat) (μ : mM) (h0 : μ.1 81 35 = 0) (k u v w z : Int32) : m_Ci l yX12_feed cX12_feed 6 ((some .int)) 1 D cy b LAY μ [.ref (b + 81), .int k, .int u, .int v, .int w, .int z] (fun r ν => r = 20) := by
  unfold m_Ci
  refine m_of (by decide) (Nat.le_of_ble_eq_true rfl) ?_
  intro p e s m below meth c hx hb hr hml hown hts hlocks _ hW ls hl
  have hown : s.vm.findClass RX12 = some m.cls := hown
  have hl : lv_has ls 6 [(0, .ref (b + 81)), (1, .int k), (2, .int u), (3, .int v), (4, .int w), (5, .int z)] := hl
  refine lv_aload_n hx hb dX12_feed_0 rfl (lv_at hl 0 rfl) ?_
  refine lv_iconst (v := 0) hx hb dX12_feed_1 (by decide) ?_
  refine m_puti hx hb hts hown hW (81) 0 rfl rfl cw_12 tyX12_ok nmX12 rfl (by decide) k_X12_167 rfl rfl rfl dX12_feed_2 (fun H locs hW _ => ?_)
  generalize hμ1 : m_si μ (81) 0 0 = μ1 at hW
  refine lv_aload_n hx hb dX12_feed_5 rfl (lv_at hl 0 rfl) ?_
  refine m_geti hx hb hts hown hW (81) 35 rfl rfl cw_12 rfl (by decide) k_X12_239 dX12_feed_6 ?_
  refine lv_topi (fun x2 ex2 => ?_)
  have ex2 : x2 = 0 := by rw [ex2, ← hμ1]; exact h0
  subst ex2
  refine lv_sipush (v := 380) hx hb dX12_feed_9 (by decide) ?_
  refine lv_icmp_le (tgt := 17) hx hb dX12_feed_12 (by decide) (fun _ => ?_) (fun c => False.elim (by revert c; decide))
  refine lv_aload_n hx hb dX12_feed_17 rfl (lv_at hl 0 rfl) ?_
  refine lv_iload_n hx hb dX12_feed_18 rfl (lv_at hl 1 rfl) ?_
  refine m_aV hW (m_runV (As := [.int k]) (rest := []) hx hb hml hown hts hW (81) (c_X12_puts l D cy b μ1 0 ((show μ1.1 81 35 = 0 from by rw [← hμ1]; exact h0).trans nI_0.symm) (by decide) k) mi_X12_puts k_X12_242 rfl rfl rfl hl.1 rfl (Nat.le_of_ble_eq_true rfl) dX12_feed_19 ⟨Nat.le_of_ble_eq_true rfl, Nat.le_of_ble_eq_true rfl⟩ ⟨Nat.le_of_ble_eq_true rfl, Nat.le_of_ble_eq_true rfl⟩) (fun μ3 H locs q3 hW => ?_)
  refine lv_aload_n hx hb dX12_feed_22 rfl (lv_at hl 0 rfl) ?_
  refine lv_iload_n hx hb dX12_feed_23 rfl (lv_at hl 2 rfl) ?_
  refine m_aV hW (m_runV (As := [.int u]) (rest := []) hx hb hml hown hts hW (81) (c_X12_puts l D cy b μ3 4 (q3) (by decide) u) mi_X12_puts k_X12_242 rfl rfl rfl hl.1 rfl (Nat.le_of_ble_eq_true rfl) dX12_feed_24 ⟨Nat.le_of_ble_eq_true rfl, Nat.le_of_ble_eq_true rfl⟩ ⟨Nat.le_of_ble_eq_true rfl, Nat.le_of_ble_eq_true rfl⟩) (fun μ4 H locs q4 hW => ?_)
  refine lv_aload_n hx hb dX12_feed_27 rfl (lv_at hl 0 rfl) ?_
  refine lv_iload_n hx hb dX12_feed_28 rfl (lv_at hl 3 rfl) ?_
  refine m_aV hW (m_runV (As := [.int v]) (rest := []) hx hb hml hown hts hW (81) (c_X12_puts l D cy b μ4 8 (q4) (by decide) v) mi_X12_puts k_X12_242 rfl rfl rfl hl.1 rfl (Nat.le_of_ble_eq_true rfl) dX12_feed_29 ⟨Nat.le_of_ble_eq_true rfl, Nat.le_of_ble_eq_true rfl⟩ ⟨Nat.le_of_ble_eq_true rfl, Nat.le_of_ble_eq_true rfl⟩) (fun μ5 H locs q5 hW => ?_)
  refine lv_aload_n hx hb dX12_feed_32 rfl (lv_at hl 0 rfl) ?_
  refine lv_iload hx hb dX12_feed_33 (lv_at hl 4 rfl) ?_
  refine m_aV hW (m_runV (As := [.int w]) (rest := []) hx hb hml hown hts hW (81) (c_X12_puts l D cy b μ5 12 (q5) (by decide) w) mi_X12_puts k_X12_242 rfl rfl rfl hl.1 rfl (Nat.le_of_ble_eq_true rfl) dX12_feed_35 ⟨Nat.le_of_ble_eq_true rfl, Nat.le_of_ble_eq_true rfl⟩ ⟨Nat.le_of_ble_eq_true rfl, Nat.le_of_ble_eq_true rfl⟩) (fun μ6 H locs q6 hW => ?_)
  refine lv_aload_n hx hb dX12_feed_38 rfl (lv_at hl 0 rfl) ?_
  refine lv_iload hx hb dX12_feed_39 (lv_at hl 5 rfl) ?_
  refine m_aV hW (m_runV (As := [.int z]) (rest := []) hx hb hml hown hts hW (81) (c_X12_puts l D cy b μ6 16 (q6) (by decide) z) mi_X12_puts k_X12_242 rfl rfl rfl hl.1 rfl (Nat.le_of_ble_eq_true rfl) dX12_feed_41 ⟨Nat.le_of_ble_eq_true rfl, Nat.le_of_ble_eq_true rfl⟩ ⟨Nat.le_of_ble_eq_true rfl, Nat.le_of_ble_eq_true rfl⟩) (fun μ7 H locs q7 hW => ?_)
  refine lv_aload_n hx hb dX12_feed_44 rfl (lv_at hl 0 rfl) ?_
  refine m_geti hx hb hts hown hW (81) 35 rfl rfl cw_12 rfl (by decide) k_X12_239 dX12_feed_45 ?_
  refine lv_topi (fun x8 ex8 => ?_)
  have ex8 : x8 = 20 := by rw [ex8]; exact q7
  subst ex8
  exact m_iret hx hb hr hlocks hW rfl (rfl) dX12_feed_48
set_option maxHeartbeats 4000000 in
set_option maxRecDepth 100000 in
theorem c_X12_end (l : Launch) (D : va_G) (cy : Nat → ClassId) (b : Nat) (μ : mM) (h0 : μ.1 81 35 = 0) (k : Int32) : m_Ci l yX12_end cX12_end 2 ((some .boolean)) 1 D cy b LAY μ [.ref (b + 81), .int k] (fun r ν => r = Fend k) := by
  unfold m_Ci
  refine m_of (by decide) (Nat.le_of_ble_eq_true rfl) ?_
  intro p e s m below meth c hx hb hr hml hown hts hlocks _ hW ls hl
  have hown : s.vm.findClass RX12 = some m.cls := hown
  have hl : lv_has ls 2 [(0, .ref (b + 81)), (1, .int k)] := hl
  refine lv_aload_n hx hb dX12_end_0 rfl (lv_at hl 0 rfl) ?_
  refine lv_iconst (v := 0) hx hb dX12_end_1 (by decide) ?_
  refine m_puti hx hb hts hown hW (81) 0 rfl rfl cw_12 tyX12_ok nmX12 rfl (by decide) k_X12_167 rfl rfl rfl dX12_end_2 (fun H locs hW _ => ?_)
  generalize hμ1 : m_si μ (81) 0 0 = μ1 at hW
  refine lv_aload_n hx hb dX12_end_5 rfl (lv_at hl 0 rfl) ?_
  refine lv_iload_n hx hb dX12_end_6 rfl (lv_at hl 1 rfl) ?_
  refine lv_iconst (v := 0) hx hb dX12_end_7 (by decide) ?_
  refine lv_aload_n hx hb dX12_end_8 rfl (lv_at hl 0 rfl) ?_
  refine m_geti hx hb hts hown hW (81) 35 rfl rfl cw_12 rfl (by decide) k_X12_239 dX12_end_9 ?_
  refine lv_topi (fun x2 ex2 => ?_)
  have ex2 : x2 = 0 := by rw [ex2, ← hμ1]; exact h0
  subst ex2
  refine m_aI hW (m_runV (As := [.int k, .int 0, .int 0]) (rest := []) hx hb hml hown hts hW (81) (c_X12_isIn l D cy b μ1 81 k 0 0 0 0 (by decide) (by decide)) mi_X12_isIn k_X12_170 rfl rfl rfl hl.1 rfl (Nat.le_of_ble_eq_true rfl) dX12_end_12 ⟨Nat.le_of_ble_eq_true rfl, Nat.le_of_ble_eq_true rfl⟩ ⟨Nat.le_of_ble_eq_true rfl, Nat.le_of_ble_eq_true rfl⟩) (fun x3 μ3 H locs q3 hW => ?_)
  obtain ⟨q3_m, q3⟩ := q3
  subst q3_m
  rcases q3 with ⟨rfl, q3⟩ | ⟨rfl, q3⟩
  · refine lv_if_ne (tgt := 20) hx hb dX12_end_15 (by decide) (fun _ => ?_) (fun c => False.elim (by revert c; decide))
    refine lv_aload_n hx hb dX12_end_20 rfl (lv_at hl 0 rfl) ?_
    refine lv_iload_n hx hb dX12_end_21 rfl (lv_at hl 1 rfl) ?_
    refine m_puti hx hb hts hown hW (81) 35 rfl rfl cw_12 tyX12_ok nmX12 rfl (by decide) k_X12_239 rfl rfl rfl dX12_end_22 (fun H locs hW _ => ?_)
    generalize hμ4 : m_si μ1 (81) 35 k = μ4 at hW
    refine lv_iconst (v := 1) hx hb dX12_end_25 (by decide) ?_
    exact m_iret hx hb hr hlocks hW (by decide) ((if_pos (by omega)).symm) dX12_end_26
  · refine lv_if_ne (tgt := 20) hx hb dX12_end_15 (by decide) (fun c => False.elim (by revert c; decide)) (fun _ => ?_)
    refine lv_iconst (v := 0) hx hb dX12_end_18 (by decide) ?_
    exact m_iret hx hb hr hlocks hW (by decide) ((if_neg (by omega)).symm) dX12_end_19
set_option maxHeartbeats 4000000 in
set_option maxRecDepth 100000 in
theorem c_X12_raw (l : Launch) (D : va_G) (cy : Nat → ClassId) (b : Nat) (μ : mM) (h0 : μ.1 81 35 = 0) : m_Ci l yX12_raw cX12_raw 2 ((some .int)) 0 D cy b LAY μ [.ref (b + 81), .int 0] (fun r ν => μ = ν ∧ r = -1) := by
  unfold m_Ci
  refine m_of (by decide) (Nat.le_of_ble_eq_true rfl) ?_
  intro p e s m below meth c hx hb hr hml hown hts hlocks _ hW ls hl
  have hown : s.vm.findClass RX12 = some m.cls := hown
  have hl : lv_has ls 2 [(0, .ref (b + 81)), (1, .int 0)] := hl
  refine lv_iload_n hx hb dX12_raw_0 rfl (lv_at hl 1 rfl) ?_
  refine lv_aload_n hx hb dX12_raw_1 rfl (lv_at hl 0 rfl) ?_
  refine m_geti hx hb hts hown hW (81) 35 rfl rfl cw_12 rfl (by decide) k_X12_239 dX12_raw_2 ?_
  refine lv_topi (fun x1 ex1 => ?_)
  have ex1 : x1 = 0 := by rw [ex1]; exact h0
  subst ex1
  refine lv_icmp_ge (tgt := 17) hx hb dX12_raw_5 (by decide) (fun _ => ?_) (fun c => False.elim (by revert c; decide))
  refine lv_iconst (v := (-1)) hx hb dX12_raw_17 (by decide) ?_
  exact m_iret hx hb hr hlocks hW rfl (⟨rfl, rfl⟩) dX12_raw_18
set_option maxHeartbeats 4000000 in
set_option maxRecDepth 100000 in
theorem c_X12_reads (l : Launch) (D : va_G) (cy : Nat → ClassId) (b : Nat) (μ : mM) (h0 : μ.1 81 35 = 0) (h1 : μ.1 81 36 = 0) (h2 : μ.1 81 53 = 0) : m_Cv l yX12_reads cX12_reads 2 (none) 1 D cy b LAY μ [.ref (b + 81)] (fun ν => ν.1 81 38 = 0 ∧ ν.1 81 53 = 0) := by
  unfold m_Cv
  refine m_of (by decide) (Nat.le_of_ble_eq_true rfl) ?_
  intro p e s m below meth c hx hb hr hml hown hts hlocks _ hW ls hl
  have hown : s.vm.findClass RX12 = some m.cls := hown
  have hl : lv_has ls 2 [(0, .ref (b + 81))] := hl
  refine lv_aload_n hx hb dX12_reads_0 rfl (lv_at hl 0 rfl) ?_
  refine lv_aload_n hx hb dX12_reads_1 rfl (lv_at hl 0 rfl) ?_
  refine m_geti hx hb hts hown hW (81) 36 rfl rfl cw_12 rfl (by decide) k_X12_245 dX12_reads_2 ?_
  refine lv_topi (fun x1 ex1 => ?_)
  have ex1 : x1 = 0 := by rw [ex1]; exact h1
  subst ex1
  refine m_aI hW (m_runV (As := [.int 0]) (rest := []) hx hb hml hown hts hW (81) (c_X12_raw l D cy b μ (h0)) mi_X12_raw k_X12_248 rfl rfl rfl hl.1 rfl (Nat.le_of_ble_eq_true rfl) dX12_reads_5 ⟨Nat.le_of_ble_eq_true rfl, Nat.le_of_ble_eq_true rfl⟩ ⟨Nat.le_of_ble_eq_true rfl, Nat.le_of_ble_eq_true rfl⟩) (fun x2 μ2 H locs q2 hW => ?_)
  obtain ⟨q2_m, q2⟩ := q2
  subst q2_m
  subst q2
  refine lv_bipush (v := 32) hx hb dX12_reads_8 (by decide) ?_
  refine lv_icmp_eq (tgt := 26) hx hb dX12_reads_10 (by decide) (fun c => False.elim (by revert c; decide)) (fun _ => ?_)
  refine lv_aload_n hx hb dX12_reads_13 rfl (lv_at hl 0 rfl) ?_
  refine lv_aload_n hx hb dX12_reads_14 rfl (lv_at hl 0 rfl) ?_
  refine m_geti hx hb hts hown hW (81) 36 rfl rfl cw_12 rfl (by decide) k_X12_245 dX12_reads_15 ?_
  refine lv_topi (fun x3 ex3 => ?_)
  have ex3 : x3 = 0 := by rw [ex3]; exact h1
  subst ex3
  refine m_aI hW (m_runV (As := [.int 0]) (rest := []) hx hb hml hown hts hW (81) (c_X12_raw l D cy b μ (h0)) mi_X12_raw k_X12_248 rfl rfl rfl hl.1 rfl (Nat.le_of_ble_eq_true rfl) dX12_reads_18 ⟨Nat.le_of_ble_eq_true rfl, Nat.le_of_ble_eq_true rfl⟩ ⟨Nat.le_of_ble_eq_true rfl, Nat.le_of_ble_eq_true rfl⟩) (fun x4 μ4 H locs q4 hW => ?_)
  obtain ⟨q4_m, q4⟩ := q4
  subst q4_m
  subst q4
  refine lv_bipush (v := 10) hx hb dX12_reads_21 (by decide) ?_
  refine lv_icmp_ne (tgt := 39) hx hb dX12_reads_23 (by decide) (fun _ => ?_) (fun c => False.elim (by revert c; decide))
  refine lv_aload_n hx hb dX12_reads_39 rfl (lv_at hl 0 rfl) ?_
  refine lv_aload_n hx hb dX12_reads_40 rfl (lv_at hl 0 rfl) ?_
  refine m_geti hx hb hts hown hW (81) 36 rfl rfl cw_12 rfl (by decide) k_X12_245 dX12_reads_41 ?_
  refine lv_topi (fun x5 ex5 => ?_)
  have ex5 : x5 = 0 := by rw [ex5]; exact h1
  subst ex5
  refine m_puti hx hb hts hown hW (81) 37 rfl rfl cw_12 tyX12_ok nmX12 rfl (by decide) k_X12_251 rfl rfl rfl dX12_reads_44 (fun H locs hW _ => ?_)
  generalize hμ6 : m_si μ (81) 37 0 = μ6 at hW
  refine lv_aload_n hx hb dX12_reads_47 rfl (lv_at hl 0 rfl) ?_
  refine lv_iconst (v := 1) hx hb dX12_reads_48 (by decide) ?_
  refine m_puti hx hb hts hown hW (81) 38 rfl rfl cw_12 tyX12_ok nmX12 rfl (by decide) k_X12_254 rfl rfl rfl dX12_reads_49 (fun H locs hW _ => ?_)
  generalize hμ7 : m_si μ6 (81) 38 1 = μ7 at hW
  refine lv_aload_n hx hb dX12_reads_52 rfl (lv_at hl 0 rfl) ?_
  refine lv_aload_n hx hb dX12_reads_53 rfl (lv_at hl 0 rfl) ?_
  refine m_geti hx hb hts hown hW (81) 36 rfl rfl cw_12 rfl (by decide) k_X12_245 dX12_reads_54 ?_
  refine lv_topi (fun x8 ex8 => ?_)
  have ex8 : x8 = 0 := by rw [ex8, ← hμ7, ← hμ6]; exact h1
  subst ex8
  refine m_aI hW (m_runV (As := [.int 0]) (rest := []) hx hb hml hown hts hW (81) (c_X12_raw l D cy b μ7 (by rw [← hμ7, ← hμ6]; exact h0)) mi_X12_raw k_X12_248 rfl rfl rfl hl.1 rfl (Nat.le_of_ble_eq_true rfl) dX12_reads_57 ⟨Nat.le_of_ble_eq_true rfl, Nat.le_of_ble_eq_true rfl⟩ ⟨Nat.le_of_ble_eq_true rfl, Nat.le_of_ble_eq_true rfl⟩) (fun x9 μ9 H locs q9 hW => ?_)
  obtain ⟨q9_m, q9⟩ := q9
  subst q9_m
  subst q9
  refine lv_istore_n (lv' := [(1, .int (-1)), (0, .ref (b + 81))]) hx hb dX12_reads_60 rfl hl (by decide) rfl (fun ls hl => ?_)
  refine lv_iload_n hx hb dX12_reads_61 rfl (lv_at hl 0 rfl) ?_
  refine lv_iconst (v := (-1)) hx hb dX12_reads_62 (by decide) ?_
  refine lv_icmp_ne (tgt := 72) hx hb dX12_reads_63 (by decide) (fun c => False.elim (by revert c; decide)) (fun _ => ?_)
  refine lv_aload_n hx hb dX12_reads_66 rfl (lv_at hl 1 rfl) ?_
  refine lv_iconst (v := 0) hx hb dX12_reads_67 (by decide) ?_
  refine m_puti hx hb hts hown hW (81) 38 rfl rfl cw_12 tyX12_ok nmX12 rfl (by decide) k_X12_254 rfl rfl rfl dX12_reads_68 (fun H locs hW _ => ?_)
  generalize hμ10 : m_si μ7 (81) 38 0 = μ10 at hW
  exact m_vret hx hb hr hlocks hW (⟨by rw [← hμ10]; first | rfl | exact if_pos ⟨rfl, rfl⟩, by rw [← hμ10, ← hμ7, ← hμ6]; exact h2⟩) dX12_reads_71
set_option maxHeartbeats 4000000 in
set_option maxRecDepth 100000 in
theorem c_X12_readAll (l : Launch) (D : va_G) (cy : Nat → ClassId) (b : Nat) (μ : mM) (h0 : μ.1 81 35 = 0) : m_Ci l yX12_readAll cX12_readAll 2 ((some .int)) 2 D cy b LAY μ [.ref (b + 81)] (fun r ν => r = 0) := by
  unfold m_Ci
  refine m_of (by decide) (Nat.le_of_ble_eq_true rfl) ?_
  intro p e s m below meth c hx hb hr hml hown hts hlocks _ hW ls hl
  have hown : s.vm.findClass RX12 = some m.cls := hown
  have hl : lv_has ls 2 [(0, .ref (b + 81))] := hl
  refine lv_aload_n hx hb dX12_readAll_0 rfl (lv_at hl 0 rfl) ?_
  refine lv_iconst (v := 0) hx hb dX12_readAll_1 (by decide) ?_
  refine m_puti hx hb hts hown hW (81) 36 rfl rfl cw_12 tyX12_ok nmX12 rfl (by decide) k_X12_245 rfl rfl rfl dX12_readAll_2 (fun H locs hW _ => ?_)
  generalize hμ1 : m_si μ (81) 36 0 = μ1 at hW
  refine lv_aload_n hx hb dX12_readAll_5 rfl (lv_at hl 0 rfl) ?_
  refine m_getr hx hb hts hown hW (81) 44 (111) rfl rfl cw_12 rfl (by decide) k_X12_110 dX12_readAll_6 ?_
  refine lv_bipush (v := 8) hx hb dX12_readAll_9 (by decide) ?_
  refine lv_iconst (v := 0) hx hb dX12_readAll_11 (by decide) ?_
  refine m_iast hx hb hW (111) rfl (vp_in_iff.mpr ⟨by decide, by decide⟩) dX12_readAll_12 (fun H locs hW _ => ?_)
  generalize hμ2 : m_si μ1 (111) (8 : Int32).toNatClampNeg 0 = μ2 at hW
  refine lv_aload_n hx hb dX12_readAll_13 rfl (lv_at hl 0 rfl) ?_
  refine lv_iconst (v := 0) hx hb dX12_readAll_14 (by decide) ?_
  refine m_puti hx hb hts hown hW (81) 51 rfl rfl cw_12 tyX12_ok nmX12 rfl (by decide) k_X12_285 rfl rfl rfl dX12_readAll_15 (fun H locs hW _ => ?_)
  generalize hμ3 : m_si μ2 (81) 51 0 = μ3 at hW
  refine lv_aload_n hx hb dX12_readAll_18 rfl (lv_at hl 0 rfl) ?_
  refine lv_iconst (v := 0) hx hb dX12_readAll_19 (by decide) ?_
  refine m_puti hx hb hts hown hW (81) 53 rfl rfl cw_12 tyX12_ok nmX12 rfl (by decide) k_X12_294 rfl rfl rfl dX12_readAll_20 (fun H locs hW _ => ?_)
  generalize hμ4 : m_si μ3 (81) 53 0 = μ4 at hW
  refine lv_aload_n hx hb dX12_readAll_23 rfl (lv_at hl 0 rfl) ?_
  refine m_aV hW (m_runV (As := []) (rest := []) hx hb hml hown hts hW (81) (c_X12_reads l D cy b μ4 (by rw [← hμ4, ← hμ3, ← hμ2, ← hμ1]; exact h0) (by rw [← hμ4, ← hμ3, ← hμ2, ← hμ1]; first | rfl | exact if_pos ⟨rfl, rfl⟩) (by rw [← hμ4]; first | rfl | exact if_pos ⟨rfl, rfl⟩)) mi_X12_reads k_X12_279 rfl rfl rfl hl.1 rfl (Nat.le_of_ble_eq_true rfl) dX12_readAll_24 ⟨Nat.le_of_ble_eq_true rfl, Nat.le_of_ble_eq_true rfl⟩ ⟨Nat.le_of_ble_eq_true rfl, Nat.le_of_ble_eq_true rfl⟩) (fun μ5 H locs q5 hW => ?_)
  refine lv_iconst (v := 0) hx hb dX12_readAll_27 (by decide) ?_
  refine lv_istore_n (lv' := [(1, .int 0), (0, .ref (b + 81))]) hx hb dX12_readAll_28 rfl hl (by decide) rfl (fun ls hl => ?_)
  refine lv_aload_n hx hb dX12_readAll_29 rfl (lv_at hl 1 rfl) ?_
  refine m_geti hx hb hts hown hW (81) 38 rfl rfl cw_12 rfl (by decide) k_X12_254 dX12_readAll_30 ?_
  refine lv_topi (fun x6 ex6 => ?_)
  have ex6 : x6 = 0 := by rw [ex6]; exact q5.1
  subst ex6
  refine lv_if_ne (tgt := 47) hx hb dX12_readAll_33 (by decide) (fun c => False.elim (by revert c; decide)) (fun _ => ?_)
  refine lv_iload_n hx hb dX12_readAll_36 rfl (lv_at hl 0 rfl) ?_
  refine lv_if_ne (tgt := 47) hx hb dX12_readAll_37 (by decide) (fun c => False.elim (by revert c; decide)) (fun _ => ?_)
  refine lv_aload_n hx hb dX12_readAll_40 rfl (lv_at hl 1 rfl) ?_
  refine m_geti hx hb hts hown hW (81) 53 rfl rfl cw_12 rfl (by decide) k_X12_294 dX12_readAll_41 ?_
  refine lv_topi (fun x7 ex7 => ?_)
  have ex7 : x7 = 0 := by rw [ex7]; exact q5.2
  subst ex7
  refine lv_if_le (tgt := 180) hx hb dX12_readAll_44 (by decide) (fun _ => ?_) (fun c => False.elim (by revert c; decide))
  refine lv_iconst (v := 0) hx hb dX12_readAll_180 (by decide) ?_
  exact m_iret hx hb hr hlocks hW rfl (rfl) dX12_readAll_181
set_option maxHeartbeats 4000000 in
set_option maxRecDepth 100000 in
theorem L_mway {p : Program} {l : Launch} {e : Env} {s : State} {m : MethodId} {args : Array Value} {below : List Frame} {meth : Method} {c : Code} {Q : State → Prop} {D : va_G} {cy : Nat → ClassId} {b : Nat} {A : Nat → Prop} (hx : p.tables.exec = Jvm.exec) (hb : c.code = cX12_way) (hml : c.maxLocals = 7) (hown : s.vm.findClass RX12 = some m.cls) (hts : ∀ w ∈ TB, w.before args s = true) (k : Int32) (hk : 0 ≤ k.toInt ∧ k.toInt ≤ 7) (K : ∀ (μ : mM) (H : Heap) (locs : List Loc), m_WA A D cy s b LAY μ H locs → ∀ ls : Array Slot, lv_has ls 7 [(0, .ref (b + 81)), (1, .int k)] → W p l e (m_R 3 0 0) s m args below meth c H locs 0 0 Q (F0 m 235 ls [])) : ∀ (f : Nat) (y4 : Int32) (h4 : 0 ≤ y4.toInt ∧ y4.toInt ≤ 400) (hf : 401 ≤ y4.toInt + f) (μ : mM) (H : Heap) (locs : List Loc), m_WA A D cy s b LAY μ H locs → ∀ ls : Array Slot, lv_has ls 7 [(0, .ref (b + 81)), (1, .int k), (4, .int y4)] → W p l e (m_R 3 0 0) s m args below meth c H locs 0 0 Q (F0 m 77 ls []) := by
  intro f
  induction f with
  | zero => intro y4 h4 hf; exfalso; omega
  | succ f ih =>
    intro y4 h4 hf μ  H locs hW ls hl
    refine lv_iload hx hb dX12_way_77 (lv_at hl 2 rfl) ?_
    refine lv_sipush (v := 400) hx hb dX12_way_79 (by decide) ?_
    refine lv_icmp_ge (tgt := 235) hx hb dX12_way_82 (by decide) (fun c1 => ?_) (fun c1 => ?_)
    · exact K μ  _ _  hW ls (lv_sub hl [0, 1] rfl)
    · have cc := m_nle (Y := 400) (by decide) c1
      refine lv_sipush (v := 400) hx hb dX12_way_85 (by decide) ?_
      refine lv_iload_n hx hb dX12_way_88 rfl (lv_at hl 1 rfl) ?_
      refine lv_imul hx hb dX12_way_89 ?_
      refine lv_topi (fun x2 ex2 => ?_)
      have tx2 : x2.toInt = 400 * k.toInt := m_mulI ex2 (by decide) rfl (by omega) (by omega)
      refine lv_iload hx hb dX12_way_90 (lv_at hl 2 rfl) ?_
      refine lv_iadd hx hb dX12_way_92 ?_
      refine lv_topi (fun x3 ex3 => ?_)
      have tx3 : x3.toInt = (400 * k.toInt) + y4.toInt := m_addI ex3 tx2 rfl (by omega) (by omega)
      refine lv_istore (lv' := [(5, .int x3), (0, .ref (b + 81)), (1, .int k), (4, .int y4)]) hx hb dX12_way_93 hl (by decide) rfl (fun ls hl => ?_)
      refine lv_sipush (v := 3200) hx hb dX12_way_95 (by decide) ?_
      refine lv_iload hx hb dX12_way_98 (lv_at hl 3 rfl) ?_
      refine lv_iadd hx hb dX12_way_100 ?_
      refine lv_topi (fun x4 ex4 => ?_)
      have tx4 : x4.toInt = 3200 + y4.toInt := m_addI ex4 (by decide) rfl (by omega) (by omega)
      refine lv_istore (lv' := [(6, .int x4), (5, .int x3), (0, .ref (b + 81)), (1, .int k), (4, .int y4)]) hx hb dX12_way_101 hl (by decide) rfl (fun ls hl => ?_)
      refine lv_aload_n hx hb dX12_way_103 rfl (lv_at hl 2 rfl) ?_
      refine m_getr hx hb hts hown hW (81) 41 (108) rfl rfl cw_12 rfl (by decide) k_X12_101 dX12_way_104 ?_
      refine lv_iload hx hb dX12_way_107 (lv_at hl 1 rfl) ?_
      refine lv_aload_n hx hb dX12_way_109 rfl (lv_at hl 2 rfl) ?_
      refine m_getr hx hb hts hown hW (81) 41 (108) rfl rfl cw_12 rfl (by decide) k_X12_101 dX12_way_110 ?_
      refine lv_iload hx hb dX12_way_113 (lv_at hl 0 rfl) ?_
      refine m_iald hx hb hW (108) rfl (m_ixI tx4 (by omega) (by omega)) dX12_way_115 ?_
      refine lv_topi (fun x5 ex5 => ?_)
      refine m_iast hx hb hW (108) rfl (m_ixI tx3 (by omega) (by omega)) dX12_way_116 (fun H locs hW _ => ?_)
      generalize hμ6 : m_si μ (108) (x3 : Int32).toNatClampNeg x5 = μ6 at hW
      refine lv_aload_n hx hb dX12_way_117 rfl (lv_at hl 2 rfl) ?_
      refine m_getr hx hb hts hown hW (81) 42 (109) rfl rfl cw_12 rfl (by decide) k_X12_104 dX12_way_118 ?_
      refine lv_iload hx hb dX12_way_121 (lv_at hl 1 rfl) ?_
      refine lv_aload_n hx hb dX12_way_123 rfl (lv_at hl 2 rfl) ?_
      refine m_getr hx hb hts hown hW (81) 42 (109) rfl rfl cw_12 rfl (by decide) k_X12_104 dX12_way_124 ?_
      refine lv_iload hx hb dX12_way_127 (lv_at hl 0 rfl) ?_
      refine m_iald hx hb hW (109) rfl (m_ixI tx4 (by omega) (by omega)) dX12_way_129 ?_
      refine lv_topi (fun x7 ex7 => ?_)
      refine m_iast hx hb hW (109) rfl (m_ixI tx3 (by omega) (by omega)) dX12_way_130 (fun H locs hW _ => ?_)
      generalize hμ8 : m_si μ6 (109) (x3 : Int32).toNatClampNeg x7 = μ8 at hW
      refine lv_aload_n hx hb dX12_way_131 rfl (lv_at hl 2 rfl) ?_
      refine m_getr hx hb hts hown hW (81) 43 (110) rfl rfl cw_12 rfl (by decide) k_X12_107 dX12_way_132 ?_
      refine lv_iload hx hb dX12_way_135 (lv_at hl 1 rfl) ?_
      refine lv_aload_n hx hb dX12_way_137 rfl (lv_at hl 2 rfl) ?_
      refine m_getr hx hb hts hown hW (81) 43 (110) rfl rfl cw_12 rfl (by decide) k_X12_107 dX12_way_138 ?_
      refine lv_iload hx hb dX12_way_141 (lv_at hl 0 rfl) ?_
      refine m_iald hx hb hW (110) rfl (m_ixI tx4 (by omega) (by omega)) dX12_way_143 ?_
      refine lv_topi (fun x9 ex9 => ?_)
      refine m_iast hx hb hW (110) rfl (m_ixI tx3 (by omega) (by omega)) dX12_way_144 (fun H locs hW _ => ?_)
      generalize hμ10 : m_si μ8 (110) (x3 : Int32).toNatClampNeg x9 = μ10 at hW
      refine lv_aload_n hx hb dX12_way_145 rfl (lv_at hl 2 rfl) ?_
      refine m_getr hx hb hts hown hW (81) 45 (112) rfl rfl cw_12 rfl (by decide) k_X12_113 dX12_way_146 ?_
      refine lv_iload hx hb dX12_way_149 (lv_at hl 1 rfl) ?_
      refine lv_aload_n hx hb dX12_way_151 rfl (lv_at hl 2 rfl) ?_
      refine m_getr hx hb hts hown hW (81) 45 (112) rfl rfl cw_12 rfl (by decide) k_X12_113 dX12_way_152 ?_
      refine lv_iload hx hb dX12_way_155 (lv_at hl 0 rfl) ?_
      refine m_iald hx hb hW (112) rfl (m_ixI tx4 (by omega) (by omega)) dX12_way_157 ?_
      refine lv_topi (fun x11 ex11 => ?_)
      refine m_iast hx hb hW (112) rfl (m_ixI tx3 (by omega) (by omega)) dX12_way_158 (fun H locs hW _ => ?_)
      generalize hμ12 : m_si μ10 (112) (x3 : Int32).toNatClampNeg x11 = μ12 at hW
      refine lv_aload_n hx hb dX12_way_159 rfl (lv_at hl 2 rfl) ?_
      refine m_getr hx hb hts hown hW (81) 46 (113) rfl rfl cw_12 rfl (by decide) k_X12_116 dX12_way_160 ?_
      refine lv_iload hx hb dX12_way_163 (lv_at hl 1 rfl) ?_
      refine lv_aload_n hx hb dX12_way_165 rfl (lv_at hl 2 rfl) ?_
      refine m_getr hx hb hts hown hW (81) 46 (113) rfl rfl cw_12 rfl (by decide) k_X12_116 dX12_way_166 ?_
      refine lv_iload hx hb dX12_way_169 (lv_at hl 0 rfl) ?_
      refine m_iald hx hb hW (113) rfl (m_ixI tx4 (by omega) (by omega)) dX12_way_171 ?_
      refine lv_topi (fun x13 ex13 => ?_)
      refine m_iast hx hb hW (113) rfl (m_ixI tx3 (by omega) (by omega)) dX12_way_172 (fun H locs hW _ => ?_)
      generalize hμ14 : m_si μ12 (113) (x3 : Int32).toNatClampNeg x13 = μ14 at hW
      refine lv_aload_n hx hb dX12_way_173 rfl (lv_at hl 2 rfl) ?_
      refine m_getr hx hb hts hown hW (81) 47 (114) rfl rfl cw_12 rfl (by decide) k_X12_119 dX12_way_174 ?_
      refine lv_iload hx hb dX12_way_177 (lv_at hl 1 rfl) ?_
      refine lv_aload_n hx hb dX12_way_179 rfl (lv_at hl 2 rfl) ?_
      refine m_getr hx hb hts hown hW (81) 47 (114) rfl rfl cw_12 rfl (by decide) k_X12_119 dX12_way_180 ?_
      refine lv_iload hx hb dX12_way_183 (lv_at hl 0 rfl) ?_
      refine m_iald hx hb hW (114) rfl (m_ixI tx4 (by omega) (by omega)) dX12_way_185 ?_
      refine lv_topi (fun x15 ex15 => ?_)
      refine m_iast hx hb hW (114) rfl (m_ixI tx3 (by omega) (by omega)) dX12_way_186 (fun H locs hW _ => ?_)
      generalize hμ16 : m_si μ14 (114) (x3 : Int32).toNatClampNeg x15 = μ16 at hW
      refine lv_aload_n hx hb dX12_way_187 rfl (lv_at hl 2 rfl) ?_
      refine m_getr hx hb hts hown hW (81) 48 (115) rfl rfl cw_12 rfl (by decide) k_X12_122 dX12_way_188 ?_
      refine lv_iload hx hb dX12_way_191 (lv_at hl 1 rfl) ?_
      refine lv_aload_n hx hb dX12_way_193 rfl (lv_at hl 2 rfl) ?_
      refine m_getr hx hb hts hown hW (81) 48 (115) rfl rfl cw_12 rfl (by decide) k_X12_122 dX12_way_194 ?_
      refine lv_iload hx hb dX12_way_197 (lv_at hl 0 rfl) ?_
      refine m_iald hx hb hW (115) rfl (m_ixI tx4 (by omega) (by omega)) dX12_way_199 ?_
      refine lv_topi (fun x17 ex17 => ?_)
      refine m_iast hx hb hW (115) rfl (m_ixI tx3 (by omega) (by omega)) dX12_way_200 (fun H locs hW _ => ?_)
      generalize hμ18 : m_si μ16 (115) (x3 : Int32).toNatClampNeg x17 = μ18 at hW
      refine lv_aload_n hx hb dX12_way_201 rfl (lv_at hl 2 rfl) ?_
      refine m_getr hx hb hts hown hW (81) 49 (116) rfl rfl cw_12 rfl (by decide) k_X12_125 dX12_way_202 ?_
      refine lv_iload hx hb dX12_way_205 (lv_at hl 1 rfl) ?_
      refine lv_aload_n hx hb dX12_way_207 rfl (lv_at hl 2 rfl) ?_
      refine m_getr hx hb hts hown hW (81) 49 (116) rfl rfl cw_12 rfl (by decide) k_X12_125 dX12_way_208 ?_
      refine lv_iload hx hb dX12_way_211 (lv_at hl 0 rfl) ?_
      refine m_iald hx hb hW (116) rfl (m_ixI tx4 (by omega) (by omega)) dX12_way_213 ?_
      refine lv_topi (fun x19 ex19 => ?_)
      refine m_iast hx hb hW (116) rfl (m_ixI tx3 (by omega) (by omega)) dX12_way_214 (fun H locs hW _ => ?_)
      generalize hμ20 : m_si μ18 (116) (x3 : Int32).toNatClampNeg x19 = μ20 at hW
      refine lv_aload_n hx hb dX12_way_215 rfl (lv_at hl 2 rfl) ?_
      refine m_getr hx hb hts hown hW (81) 50 (117) rfl rfl cw_12 rfl (by decide) k_X12_128 dX12_way_216 ?_
      refine lv_iload hx hb dX12_way_219 (lv_at hl 1 rfl) ?_
      refine lv_aload_n hx hb dX12_way_221 rfl (lv_at hl 2 rfl) ?_
      refine m_getr hx hb hts hown hW (81) 50 (117) rfl rfl cw_12 rfl (by decide) k_X12_128 dX12_way_222 ?_
      refine lv_iload hx hb dX12_way_225 (lv_at hl 0 rfl) ?_
      refine m_iald hx hb hW (117) rfl (m_ixI tx4 (by omega) (by omega)) dX12_way_227 ?_
      refine lv_topi (fun x21 ex21 => ?_)
      refine m_iast hx hb hW (117) rfl (m_ixI tx3 (by omega) (by omega)) dX12_way_228 (fun H locs hW _ => ?_)
      generalize hμ22 : m_si μ20 (117) (x3 : Int32).toNatClampNeg x21 = μ22 at hW
      obtain ⟨x23, ex23⟩ : ∃ z : Int32, z = y4 + 1 := ⟨_, rfl⟩
      refine lv_iinc (v := x23) (lv' := [(4, .int x23), (6, .int x4), (5, .int x3), (0, .ref (b + 81)), (1, .int k)]) hx hb dX12_way_229 hl (k := 4) rfl (by rw [ex23]; rfl) (by decide) rfl (fun ls hl => ?_)
      refine lv_goto (tgt := 77) hx hb dX12_way_232 (by decide) ?_
      exact ih x23 (by have := m_addI ex23 rfl (Y := 1) (by decide) (by omega) (by omega); omega) (by have := m_addI ex23 rfl (Y := 1) (by decide) (by omega) (by omega); omega) μ22  _ _ hW ls (lv_sub hl [3, 4, 0] rfl)
set_option maxHeartbeats 4000000 in
set_option maxRecDepth 100000 in
theorem c_X12_way (l : Launch) (D : va_G) (cy : Nat → ClassId) (b : Nat) (μ : mM) (h0 : μ.1 81 35 = 0) (k : Int32) : m_Ci l yX12_way cX12_way 7 ((some .boolean)) 3 D cy b LAY μ [.ref (b + 81), .int k] (fun r ν => r = Fway k) := by
  unfold m_Ci
  refine m_of (by decide) (Nat.le_of_ble_eq_true rfl) ?_
  intro p e s m below meth c hx hb hr hml hown hts hlocks _ hW ls hl
  have hown : s.vm.findClass RX12 = some m.cls := hown
  have hl : lv_has ls 7 [(0, .ref (b + 81)), (1, .int k)] := hl
  refine lv_aload_n hx hb dX12_way_0 rfl (lv_at hl 0 rfl) ?_
  refine lv_iconst (v := 0) hx hb dX12_way_1 (by decide) ?_
  refine m_puti hx hb hts hown hW (81) 0 rfl rfl cw_12 tyX12_ok nmX12 rfl (by decide) k_X12_167 rfl rfl rfl dX12_way_2 (fun H locs hW _ => ?_)
  generalize hμ1 : m_si μ (81) 0 0 = μ1 at hW
  refine lv_aload_n hx hb dX12_way_5 rfl (lv_at hl 0 rfl) ?_
  refine lv_iconst (v := 0) hx hb dX12_way_6 (by decide) ?_
  refine m_puti hx hb hts hown hW (81) 56 rfl rfl cw_12 tyX12_ok nmX12 rfl (by decide) k_X12_329 rfl rfl rfl dX12_way_7 (fun H locs hW _ => ?_)
  generalize hμ2 : m_si μ1 (81) 56 0 = μ2 at hW
  refine lv_aload_n hx hb dX12_way_10 rfl (lv_at hl 0 rfl) ?_
  refine lv_iconst (v := (-1)) hx hb dX12_way_11 (by decide) ?_
  refine m_puti hx hb hts hown hW (81) 57 rfl rfl cw_12 tyX12_ok nmX12 rfl (by decide) k_X12_134 rfl rfl rfl dX12_way_12 (fun H locs hW _ => ?_)
  generalize hμ3 : m_si μ2 (81) 57 (-1) = μ3 at hW
  refine lv_aload_n hx hb dX12_way_15 rfl (lv_at hl 0 rfl) ?_
  refine lv_iload_n hx hb dX12_way_16 rfl (lv_at hl 1 rfl) ?_
  refine lv_iconst (v := 0) hx hb dX12_way_17 (by decide) ?_
  refine lv_bipush (v := 7) hx hb dX12_way_18 (by decide) ?_
  refine m_aI hW (m_runV (As := [.int k, .int 0, .int 7]) (rest := []) hx hb hml hown hts hW (81) (c_X12_isIn l D cy b μ3 81 k 0 7 0 7 (by decide) (by decide)) mi_X12_isIn k_X12_170 rfl rfl rfl hl.1 rfl (Nat.le_of_ble_eq_true rfl) dX12_way_20 ⟨Nat.le_of_ble_eq_true rfl, Nat.le_of_ble_eq_true rfl⟩ ⟨Nat.le_of_ble_eq_true rfl, Nat.le_of_ble_eq_true rfl⟩) (fun x4 μ4 H locs q4 hW => ?_)
  obtain ⟨q4_m, q4⟩ := q4
  subst q4_m
  rcases q4 with ⟨rfl, q4⟩ | ⟨rfl, q4⟩
  · refine lv_istore_n (lv' := [(2, .int 1), (0, .ref (b + 81)), (1, .int k)]) hx hb dX12_way_23 rfl hl (by decide) rfl (fun ls hl => ?_)
    refine lv_iload_n hx hb dX12_way_24 rfl (lv_at hl 0 rfl) ?_
    refine lv_if_eq (tgt := 39) hx hb dX12_way_25 (by decide) (fun c => False.elim (by revert c; decide)) (fun _ => ?_)
    refine lv_aload_n hx hb dX12_way_28 rfl (lv_at hl 1 rfl) ?_
    refine m_aI hW (m_runV (As := []) (rest := []) hx hb hml hown hts hW (81) (c_X12_readAll l D cy b μ3 (by rw [← hμ3, ← hμ2, ← hμ1]; exact h0)) mi_X12_readAll k_X12_332 rfl rfl rfl hl.1 rfl (Nat.le_of_ble_eq_true rfl) dX12_way_29 ⟨Nat.le_of_ble_eq_true rfl, Nat.le_of_ble_eq_true rfl⟩ ⟨Nat.le_of_ble_eq_true rfl, Nat.le_of_ble_eq_true rfl⟩) (fun x5 μ5 H locs q5 hW => ?_)
    subst q5
    refine lv_if_ne (tgt := 39) hx hb dX12_way_32 (by decide) (fun c => False.elim (by revert c; decide)) (fun _ => ?_)
    refine lv_iconst (v := 1) hx hb dX12_way_35 (by decide) ?_
    refine lv_goto (tgt := 40) hx hb dX12_way_36 (by decide) ?_
    refine lv_istore_n (lv' := [(3, .int 1), (2, .int 1), (0, .ref (b + 81)), (1, .int k)]) hx hb dX12_way_40 rfl hl (by decide) rfl (fun ls hl => ?_)
    refine lv_aload_n hx hb dX12_way_41 rfl (lv_at hl 2 rfl) ?_
    refine lv_iconst (v := 0) hx hb dX12_way_42 (by decide) ?_
    refine m_puti hx hb hts hown hW (81) 35 rfl rfl cw_12 tyX12_ok nmX12 rfl (by decide) k_X12_239 rfl rfl rfl dX12_way_43 (fun H locs hW _ => ?_)
    generalize hμ6 : m_si μ5 (81) 35 0 = μ6 at hW
    refine lv_iload_n hx hb dX12_way_46 rfl (lv_at hl 1 rfl) ?_
    refine lv_if_ne (tgt := 52) hx hb dX12_way_47 (by decide) (fun _ => ?_) (fun c => False.elim (by revert c; decide))
    refine lv_iload_n hx hb dX12_way_52 rfl (lv_at hl 0 rfl) ?_
    refine lv_if_ne (tgt := 74) hx hb dX12_way_53 (by decide) (fun _ => ?_) (fun c => False.elim (by revert c; decide))
    refine lv_iconst (v := 0) hx hb dX12_way_74 (by decide) ?_
    refine lv_istore (lv' := [(4, .int 0), (3, .int 1), (2, .int 1), (0, .ref (b + 81)), (1, .int k)]) hx hb dX12_way_75 hl (by decide) rfl (fun ls hl => ?_)
    refine L_mway hx hb hml hown hts k (by omega) (fun μ7  H locs  hW ls hl => ?_) _ 0 (by decide) (by decide : (401 : Int) ≤ (0 : Int32).toInt + (401 : Nat)) μ6  _ _ hW ls (lv_sub hl [3, 4, 0] rfl)
    refine lv_aload_n hx hb dX12_way_235 rfl (lv_at hl 0 rfl) ?_
    refine m_getr hx hb hts hown hW (81) 44 (111) rfl rfl cw_12 rfl (by decide) k_X12_110 dX12_way_236 ?_
    refine lv_iload_n hx hb dX12_way_239 rfl (lv_at hl 1 rfl) ?_
    refine lv_aload_n hx hb dX12_way_240 rfl (lv_at hl 0 rfl) ?_
    refine m_getr hx hb hts hown hW (81) 44 (111) rfl rfl cw_12 rfl (by decide) k_X12_110 dX12_way_241 ?_
    refine lv_bipush (v := 8) hx hb dX12_way_244 (by decide) ?_
    refine m_iald hx hb hW (111) rfl (vp_in_iff.mpr ⟨by decide, by decide⟩) dX12_way_246 ?_
    refine lv_topi (fun x8 ex8 => ?_)
    refine m_iast hx hb hW (111) rfl (m_ixI rfl (by omega) (by omega)) dX12_way_247 (fun H locs hW _ => ?_)
    generalize hμ9 : m_si μ7 (111) (k : Int32).toNatClampNeg x8 = μ9 at hW
    refine lv_iconst (v := 1) hx hb dX12_way_248 (by decide) ?_
    exact m_iret hx hb hr hlocks hW (by decide) ((if_pos (by omega)).symm) dX12_way_249
  · refine lv_istore_n (lv' := [(2, .int 0), (0, .ref (b + 81)), (1, .int k)]) hx hb dX12_way_23 rfl hl (by decide) rfl (fun ls hl => ?_)
    refine lv_iload_n hx hb dX12_way_24 rfl (lv_at hl 0 rfl) ?_
    refine lv_if_eq (tgt := 39) hx hb dX12_way_25 (by decide) (fun _ => ?_) (fun c => False.elim (by revert c; decide))
    refine lv_iconst (v := 0) hx hb dX12_way_39 (by decide) ?_
    refine lv_istore_n (lv' := [(3, .int 0), (2, .int 0), (0, .ref (b + 81)), (1, .int k)]) hx hb dX12_way_40 rfl hl (by decide) rfl (fun ls hl => ?_)
    refine lv_aload_n hx hb dX12_way_41 rfl (lv_at hl 2 rfl) ?_
    refine lv_iconst (v := 0) hx hb dX12_way_42 (by decide) ?_
    refine m_puti hx hb hts hown hW (81) 35 rfl rfl cw_12 tyX12_ok nmX12 rfl (by decide) k_X12_239 rfl rfl rfl dX12_way_43 (fun H locs hW _ => ?_)
    generalize hμ10 : m_si μ3 (81) 35 0 = μ10 at hW
    refine lv_iload_n hx hb dX12_way_46 rfl (lv_at hl 1 rfl) ?_
    refine lv_if_ne (tgt := 52) hx hb dX12_way_47 (by decide) (fun c => False.elim (by revert c; decide)) (fun _ => ?_)
    refine lv_iconst (v := 0) hx hb dX12_way_50 (by decide) ?_
    exact m_iret hx hb hr hlocks hW (by decide) ((if_neg (by omega)).symm) dX12_way_51
set_option maxHeartbeats 4000000 in
set_option maxRecDepth 100000 in
theorem c_X12_fault (l : Launch) (D : va_G) (cy : Nat → ClassId) (b : Nat) (μ : mM) (h0 : μ.1 81 56 = 0) (h1 : μ.1 81 57 = -1) (k : Int32) : m_Ci l yX12_fault cX12_fault 2 ((some .int)) 0 D cy b LAY μ [.ref (b + 81), .int k] (fun r ν => r = Ffault k) := by
  unfold m_Ci
  refine m_of (by decide) (Nat.le_of_ble_eq_true rfl) ?_
  intro p e s m below meth c hx hb hr hml hown hts hlocks _ hW ls hl
  have hown : s.vm.findClass RX12 = some m.cls := hown
  have hl : lv_has ls 2 [(0, .ref (b + 81)), (1, .int k)] := hl
  refine lv_aload_n hx hb dX12_fault_0 rfl (lv_at hl 0 rfl) ?_
  refine lv_iconst (v := 0) hx hb dX12_fault_1 (by decide) ?_
  refine m_puti hx hb hts hown hW (81) 0 rfl rfl cw_12 tyX12_ok nmX12 rfl (by decide) k_X12_167 rfl rfl rfl dX12_fault_2 (fun H locs hW _ => ?_)
  generalize hμ1 : m_si μ (81) 0 0 = μ1 at hW
  refine lv_iload_n hx hb dX12_fault_5 rfl (lv_at hl 1 rfl) ?_
  refine lv_if_ne (tgt := 16) hx hb dX12_fault_6 (by decide) (fun c2 => ?_) (fun c2 => ?_)
  · refine lv_iload_n hx hb dX12_fault_16 rfl (lv_at hl 1 rfl) ?_
    refine lv_iconst (v := 1) hx hb dX12_fault_17 (by decide) ?_
    refine lv_icmp_ne (tgt := 28) hx hb dX12_fault_18 (by decide) (fun c3 => ?_) (fun c3 => ?_)
    · refine lv_iconst (v := (-1)) hx hb dX12_fault_28 (by decide) ?_
      exact m_iret hx hb hr hlocks hW rfl (by simp only [m_eq0, m_eq1, m_eq2, m_eq3] at *; first | exact (if_pos (by omega)).symm | exact (if_neg (by omega)).symm) dX12_fault_29
    · refine lv_aload_n hx hb dX12_fault_21 rfl (lv_at hl 0 rfl) ?_
      refine m_geti hx hb hts hown hW (81) 57 rfl rfl cw_12 rfl (by decide) k_X12_134 dX12_fault_22 ?_
      refine lv_topi (fun x4 ex4 => ?_)
      have ex4 : x4 = (-1) := by rw [ex4, ← hμ1]; exact h1
      subst ex4
      refine lv_goto (tgt := 29) hx hb dX12_fault_25 (by decide) ?_
      exact m_iret hx hb hr hlocks hW rfl (by simp only [m_eq0, m_eq1, m_eq2, m_eq3] at *; first | exact (if_pos (by omega)).symm | exact (if_neg (by omega)).symm) dX12_fault_29
  · refine lv_aload_n hx hb dX12_fault_9 rfl (lv_at hl 0 rfl) ?_
    refine m_geti hx hb hts hown hW (81) 56 rfl rfl cw_12 rfl (by decide) k_X12_329 dX12_fault_10 ?_
    refine lv_topi (fun x5 ex5 => ?_)
    have ex5 : x5 = 0 := by rw [ex5, ← hμ1]; exact h0
    subst ex5
    refine lv_goto (tgt := 29) hx hb dX12_fault_13 (by decide) ?_
    exact m_iret hx hb hr hlocks hW rfl (by simp only [m_eq0, m_eq1, m_eq2, m_eq3] at *; first | exact (if_pos (by omega)).symm | exact (if_neg (by omega)).symm) dX12_fault_29
set_option maxHeartbeats 4000000 in
set_option maxRecDepth 100000 in
theorem c_X12_run (l : Launch) (D : va_G) (cy : Nat → ClassId) (b : Nat) (μ : mM) (h0 : μ.1 81 5 = 0) (k : Int32) : m_Ci l yX12_run cX12_run 2 ((some .int)) 1 D cy b LAY μ [.ref (b + 81), .int k] (fun r ν => r = -1) := by
  unfold m_Ci
  refine m_of (by decide) (Nat.le_of_ble_eq_true rfl) ?_
  intro p e s m below meth c hx hb hr hml hown hts hlocks _ hW ls hl
  have hown : s.vm.findClass RX12 = some m.cls := hown
  have hl : lv_has ls 2 [(0, .ref (b + 81)), (1, .int k)] := hl
  refine lv_aload_n hx hb dX12_run_0 rfl (lv_at hl 0 rfl) ?_
  refine lv_iconst (v := 0) hx hb dX12_run_1 (by decide) ?_
  refine m_puti hx hb hts hown hW (81) 0 rfl rfl cw_12 tyX12_ok nmX12 rfl (by decide) k_X12_167 rfl rfl rfl dX12_run_2 (fun H locs hW _ => ?_)
  generalize hμ1 : m_si μ (81) 0 0 = μ1 at hW
  refine lv_aload_n hx hb dX12_run_5 rfl (lv_at hl 0 rfl) ?_
  refine lv_iload_n hx hb dX12_run_6 rfl (lv_at hl 1 rfl) ?_
  refine lv_iconst (v := 0) hx hb dX12_run_7 (by decide) ?_
  refine lv_bipush (v := 7) hx hb dX12_run_8 (by decide) ?_
  refine m_aI hW (m_runV (As := [.int k, .int 0, .int 7]) (rest := []) hx hb hml hown hts hW (81) (c_X12_isIn l D cy b μ1 81 k 0 7 0 7 (by decide) (by decide)) mi_X12_isIn k_X12_170 rfl rfl rfl hl.1 rfl (Nat.le_of_ble_eq_true rfl) dX12_run_10 ⟨Nat.le_of_ble_eq_true rfl, Nat.le_of_ble_eq_true rfl⟩ ⟨Nat.le_of_ble_eq_true rfl, Nat.le_of_ble_eq_true rfl⟩) (fun x2 μ2 H locs q2 hW => ?_)
  obtain ⟨q2_m, q2⟩ := q2
  subst q2_m
  rcases q2 with ⟨rfl, q2⟩ | ⟨rfl, q2⟩
  · refine lv_if_eq (tgt := 23) hx hb dX12_run_13 (by decide) (fun c => False.elim (by revert c; decide)) (fun _ => ?_)
    refine lv_aload_n hx hb dX12_run_16 rfl (lv_at hl 0 rfl) ?_
    refine m_geti hx hb hts hown hW (81) 5 rfl rfl cw_12 rfl (by decide) k_X12_174 dX12_run_17 ?_
    refine lv_topi (fun x3 ex3 => ?_)
    have ex3 : x3 = 0 := by rw [ex3, ← hμ1]; exact h0
    subst ex3
    refine lv_if_ne (tgt := 25) hx hb dX12_run_20 (by decide) (fun c => False.elim (by revert c; decide)) (fun _ => ?_)
    refine lv_iconst (v := (-1)) hx hb dX12_run_23 (by decide) ?_
    exact m_iret hx hb hr hlocks hW rfl (rfl) dX12_run_24
  · refine lv_if_eq (tgt := 23) hx hb dX12_run_13 (by decide) (fun _ => ?_) (fun c => False.elim (by revert c; decide))
    refine lv_iconst (v := (-1)) hx hb dX12_run_23 (by decide) ?_
    exact m_iret hx hb hr hlocks hW rfl (rfl) dX12_run_24
set_option maxHeartbeats 4000000 in
set_option maxRecDepth 100000 in
theorem c_X12_cell (l : Launch) (D : va_G) (cy : Nat → ClassId) (b : Nat) (μ : mM) (h0 : μ.1 81 5 = 0) (k u v : Int32) : m_Ci l yX12_cell cX12_cell 6 ((some .int)) 1 D cy b LAY μ [.ref (b + 81), .int k, .int u, .int v] (fun r ν => r = -1) := by
  unfold m_Ci
  refine m_of (by decide) (Nat.le_of_ble_eq_true rfl) ?_
  intro p e s m below meth c hx hb hr hml hown hts hlocks _ hW ls hl
  have hown : s.vm.findClass RX12 = some m.cls := hown
  have hl : lv_has ls 6 [(0, .ref (b + 81)), (1, .int k), (2, .int u), (3, .int v)] := hl
  refine lv_aload_n hx hb dX12_cell_0 rfl (lv_at hl 0 rfl) ?_
  refine lv_iconst (v := 0) hx hb dX12_cell_1 (by decide) ?_
  refine m_puti hx hb hts hown hW (81) 0 rfl rfl cw_12 tyX12_ok nmX12 rfl (by decide) k_X12_167 rfl rfl rfl dX12_cell_2 (fun H locs hW _ => ?_)
  generalize hμ1 : m_si μ (81) 0 0 = μ1 at hW
  refine lv_aload_n hx hb dX12_cell_5 rfl (lv_at hl 0 rfl) ?_
  refine m_geti hx hb hts hown hW (81) 5 rfl rfl cw_12 rfl (by decide) k_X12_174 dX12_cell_6 ?_
  refine lv_topi (fun x2 ex2 => ?_)
  have ex2 : x2 = 0 := by rw [ex2, ← hμ1]; exact h0
  subst ex2
  refine lv_if_eq (tgt := 31) hx hb dX12_cell_9 (by decide) (fun _ => ?_) (fun c => False.elim (by revert c; decide))
  refine lv_iconst (v := (-1)) hx hb dX12_cell_31 (by decide) ?_
  exact m_iret hx hb hr hlocks hW rfl (rfl) dX12_cell_32
set_option maxHeartbeats 4000000 in
set_option maxRecDepth 100000 in
theorem c_X12_look (l : Launch) (D : va_G) (cy : Nat → ClassId) (b : Nat) (μ : mM) (h0 : μ.1 81 5 = 0) (k : Int32) : m_Ci l yX12_look cX12_look 4 ((some .int)) 1 D cy b LAY μ [.ref (b + 81), .int k] (fun r ν => r = Flook k) := by
  unfold m_Ci
  refine m_of (by decide) (Nat.le_of_ble_eq_true rfl) ?_
  intro p e s m below meth c hx hb hr hml hown hts hlocks _ hW ls hl
  have hown : s.vm.findClass RX12 = some m.cls := hown
  have hl : lv_has ls 4 [(0, .ref (b + 81)), (1, .int k)] := hl
  refine lv_aload_n hx hb dX12_look_0 rfl (lv_at hl 0 rfl) ?_
  refine lv_iconst (v := 0) hx hb dX12_look_1 (by decide) ?_
  refine m_puti hx hb hts hown hW (81) 0 rfl rfl cw_12 tyX12_ok nmX12 rfl (by decide) k_X12_167 rfl rfl rfl dX12_look_2 (fun H locs hW _ => ?_)
  generalize hμ1 : m_si μ (81) 0 0 = μ1 at hW
  refine lv_aload_n hx hb dX12_look_5 rfl (lv_at hl 0 rfl) ?_
  refine lv_iload_n hx hb dX12_look_6 rfl (lv_at hl 1 rfl) ?_
  refine lv_iconst (v := 0) hx hb dX12_look_7 (by decide) ?_
  refine lv_bipush (v := 13) hx hb dX12_look_8 (by decide) ?_
  refine m_aI hW (m_runV (As := [.int k, .int 0, .int 13]) (rest := []) hx hb hml hown hts hW (81) (c_X12_isIn l D cy b μ1 81 k 0 13 0 13 (by decide) (by decide)) mi_X12_isIn k_X12_170 rfl rfl rfl hl.1 rfl (Nat.le_of_ble_eq_true rfl) dX12_look_10 ⟨Nat.le_of_ble_eq_true rfl, Nat.le_of_ble_eq_true rfl⟩ ⟨Nat.le_of_ble_eq_true rfl, Nat.le_of_ble_eq_true rfl⟩) (fun x2 μ2 H locs q2 hW => ?_)
  obtain ⟨q2_m, q2⟩ := q2
  subst q2_m
  rcases q2 with ⟨rfl, q2⟩ | ⟨rfl, q2⟩
  · refine lv_if_ne (tgt := 18) hx hb dX12_look_13 (by decide) (fun _ => ?_) (fun c => False.elim (by revert c; decide))
    refine lv_aload_n hx hb dX12_look_18 rfl (lv_at hl 0 rfl) ?_
    refine m_geti hx hb hts hown hW (81) 5 rfl rfl cw_12 rfl (by decide) k_X12_174 dX12_look_19 ?_
    refine lv_topi (fun x3 ex3 => ?_)
    have ex3 : x3 = 0 := by rw [ex3, ← hμ1]; exact h0
    subst ex3
    refine lv_if_ne (tgt := 27) hx hb dX12_look_22 (by decide) (fun c => False.elim (by revert c; decide)) (fun _ => ?_)
    refine lv_iconst (v := 0) hx hb dX12_look_25 (by decide) ?_
    exact m_iret hx hb hr hlocks hW rfl ((if_pos (by omega)).symm) dX12_look_26
  · refine lv_if_ne (tgt := 18) hx hb dX12_look_13 (by decide) (fun c => False.elim (by revert c; decide)) (fun _ => ?_)
    refine lv_iconst (v := (-1)) hx hb dX12_look_16 (by decide) ?_
    exact m_iret hx hb hr hlocks hW rfl ((if_neg (by omega)).symm) dX12_look_17
set_option maxHeartbeats 4000000 in
set_option maxRecDepth 100000 in
theorem c_X12_speed (l : Launch) (D : va_G) (cy : Nat → ClassId) (b : Nat) (μ : mM) (h0 : μ.1 81 5 = 0) (k u : Int32) : m_Ci l yX12_speed cX12_speed 4 ((some .int)) 1 D cy b LAY μ [.ref (b + 81), .int k, .int u] (fun r ν => r = -1) := by
  unfold m_Ci
  refine m_of (by decide) (Nat.le_of_ble_eq_true rfl) ?_
  intro p e s m below meth c hx hb hr hml hown hts hlocks _ hW ls hl
  have hown : s.vm.findClass RX12 = some m.cls := hown
  have hl : lv_has ls 4 [(0, .ref (b + 81)), (1, .int k), (2, .int u)] := hl
  refine lv_aload_n hx hb dX12_speed_0 rfl (lv_at hl 0 rfl) ?_
  refine lv_iconst (v := 0) hx hb dX12_speed_1 (by decide) ?_
  refine m_puti hx hb hts hown hW (81) 0 rfl rfl cw_12 tyX12_ok nmX12 rfl (by decide) k_X12_167 rfl rfl rfl dX12_speed_2 (fun H locs hW _ => ?_)
  generalize hμ1 : m_si μ (81) 0 0 = μ1 at hW
  refine lv_aload_n hx hb dX12_speed_5 rfl (lv_at hl 0 rfl) ?_
  refine lv_iload_n hx hb dX12_speed_6 rfl (lv_at hl 1 rfl) ?_
  refine lv_iconst (v := 0) hx hb dX12_speed_7 (by decide) ?_
  refine lv_iconst (v := 3) hx hb dX12_speed_8 (by decide) ?_
  refine m_aI hW (m_runV (As := [.int k, .int 0, .int 3]) (rest := []) hx hb hml hown hts hW (81) (c_X12_isIn l D cy b μ1 81 k 0 3 0 3 (by decide) (by decide)) mi_X12_isIn k_X12_170 rfl rfl rfl hl.1 rfl (Nat.le_of_ble_eq_true rfl) dX12_speed_9 ⟨Nat.le_of_ble_eq_true rfl, Nat.le_of_ble_eq_true rfl⟩ ⟨Nat.le_of_ble_eq_true rfl, Nat.le_of_ble_eq_true rfl⟩) (fun x2 μ2 H locs q2 hW => ?_)
  obtain ⟨q2_m, q2⟩ := q2
  subst q2_m
  rcases q2 with ⟨rfl, q2⟩ | ⟨rfl, q2⟩
  · refine lv_if_eq (tgt := 68) hx hb dX12_speed_12 (by decide) (fun c => False.elim (by revert c; decide)) (fun _ => ?_)
    refine lv_aload_n hx hb dX12_speed_15 rfl (lv_at hl 0 rfl) ?_
    refine lv_iload_n hx hb dX12_speed_16 rfl (lv_at hl 2 rfl) ?_
    refine lv_iconst (v := 1) hx hb dX12_speed_17 (by decide) ?_
    refine lv_bipush (v := 15) hx hb dX12_speed_18 (by decide) ?_
    refine m_aI hW (m_runV (As := [.int u, .int 1, .int 15]) (rest := []) hx hb hml hown hts hW (81) (c_X12_isIn l D cy b μ1 81 u 1 15 1 15 (by decide) (by decide)) mi_X12_isIn k_X12_170 rfl rfl rfl hl.1 rfl (Nat.le_of_ble_eq_true rfl) dX12_speed_20 ⟨Nat.le_of_ble_eq_true rfl, Nat.le_of_ble_eq_true rfl⟩ ⟨Nat.le_of_ble_eq_true rfl, Nat.le_of_ble_eq_true rfl⟩) (fun x3 μ3 H locs q3 hW => ?_)
    obtain ⟨q3_m, q3⟩ := q3
    subst q3_m
    rcases q3 with ⟨rfl, q3⟩ | ⟨rfl, q3⟩
    · refine lv_if_eq (tgt := 68) hx hb dX12_speed_23 (by decide) (fun c => False.elim (by revert c; decide)) (fun _ => ?_)
      refine lv_aload_n hx hb dX12_speed_26 rfl (lv_at hl 0 rfl) ?_
      refine m_geti hx hb hts hown hW (81) 5 rfl rfl cw_12 rfl (by decide) k_X12_174 dX12_speed_27 ?_
      refine lv_topi (fun x4 ex4 => ?_)
      have ex4 : x4 = 0 := by rw [ex4, ← hμ1]; exact h0
      subst ex4
      refine lv_if_eq (tgt := 68) hx hb dX12_speed_30 (by decide) (fun _ => ?_) (fun c => False.elim (by revert c; decide))
      refine lv_iconst (v := (-1)) hx hb dX12_speed_68 (by decide) ?_
      exact m_iret hx hb hr hlocks hW rfl (rfl) dX12_speed_69
    · refine lv_if_eq (tgt := 68) hx hb dX12_speed_23 (by decide) (fun _ => ?_) (fun c => False.elim (by revert c; decide))
      refine lv_iconst (v := (-1)) hx hb dX12_speed_68 (by decide) ?_
      exact m_iret hx hb hr hlocks hW rfl (rfl) dX12_speed_69
  · refine lv_if_eq (tgt := 68) hx hb dX12_speed_12 (by decide) (fun _ => ?_) (fun c => False.elim (by revert c; decide))
    refine lv_iconst (v := (-1)) hx hb dX12_speed_68 (by decide) ?_
    exact m_iret hx hb hr hlocks hW rfl (rfl) dX12_speed_69
set_option maxHeartbeats 4000000 in
set_option maxRecDepth 100000 in
theorem L_mheat {p : Program} {l : Launch} {e : Env} {s : State} {m : MethodId} {args : Array Value} {below : List Frame} {meth : Method} {c : Code} {Q : State → Prop} {D : va_G} {cy : Nat → ClassId} {b : Nat} {A : Nat → Prop} (hx : p.tables.exec = Jvm.exec) (hb : c.code = cX12_heat) (hml : c.maxLocals = 5) (hown : s.vm.findClass RX12 = some m.cls) (hts : ∀ w ∈ TB, w.before args s = true) (K : ∀ (μ : mM) (h0 : ∀ j, μ.1 86 j = 0) (H : Heap) (locs : List Loc), m_WA A D cy s b LAY μ H locs → ∀ ls : Array Slot, lv_has ls 5 [(0, .ref (b + 81)), (2, .long 0)] → W p l e (m_R 0 0 0) s m args below meth c H locs 0 0 Q (F0 m 79 ls [])) : ∀ (f : Nat) (y4 : Int32) (h4 : 0 ≤ y4.toInt ∧ y4.toInt ≤ 192) (hf : 193 ≤ y4.toInt + f) (μ : mM) (h0 : ∀ j, μ.1 86 j = 0) (H : Heap) (locs : List Loc), m_WA A D cy s b LAY μ H locs → ∀ ls : Array Slot, lv_has ls 5 [(0, .ref (b + 81)), (2, .long 0), (4, .int y4)] → W p l e (m_R 0 0 0) s m args below meth c H locs 0 0 Q (F0 m 54 ls []) := by
  intro f
  induction f with
  | zero => intro y4 h4 hf; exfalso; omega
  | succ f ih =>
    intro y4 h4 hf μ h0 H locs hW ls hl
    refine lv_iload hx hb dX12_heat_54 (lv_at hl 2 rfl) ?_
    refine lv_sipush (v := 192) hx hb dX12_heat_56 (by decide) ?_
    refine lv_icmp_ge (tgt := 79) hx hb dX12_heat_59 (by decide) (fun c1 => ?_) (fun c1 => ?_)
    · exact K μ h0 _ _  hW ls (lv_sub hl [0, 1] rfl)
    · have cc := m_nle (Y := 192) (by decide) c1
      refine lv_lload_n hx hb dX12_heat_62 rfl (lv_at hl 1 rfl) ?_
      refine lv_aload_n hx hb dX12_heat_63 rfl (lv_at hl 0 rfl) ?_
      refine m_getr hx hb hts hown hW (81) 13 (86) rfl rfl cw_12 rfl (by decide) k_X12_33 dX12_heat_64 ?_
      refine lv_iload hx hb dX12_heat_67 (lv_at hl 2 rfl) ?_
      refine m_iald hx hb hW (86) rfl (m_ixI rfl (by omega) (by omega)) dX12_heat_69 ?_
      refine lv_topi (fun x2 ex2 => ?_)
      have ex2 : x2 = 0 := by rw [ex2]; exact h0 _
      subst ex2
      refine lv_i2l hx hb dX12_heat_70 rfl ?_
      refine lv_topl (fun x3 ex3 => ?_)
      have ex3 : x3 = 0 := by rw [ex3]; decide
      subst ex3
      refine lv_ladd hx hb dX12_heat_71 ?_
      refine lv_topl (fun x4 ex4 => ?_)
      have ex4 : x4 = 0 := by rw [ex4]; decide
      subst ex4
      refine lv_lstore_n (lv' := [(2, .long 0), (0, .ref (b + 81)), (4, .int y4)]) hx hb dX12_heat_72 rfl hl (by decide) rfl (fun ls hl => ?_)
      obtain ⟨x5, ex5⟩ : ∃ z : Int32, z = y4 + 1 := ⟨_, rfl⟩
      refine lv_iinc (v := x5) (lv' := [(4, .int x5), (2, .long 0), (0, .ref (b + 81))]) hx hb dX12_heat_73 hl (k := 2) rfl (by rw [ex5]; rfl) (by decide) rfl (fun ls hl => ?_)
      refine lv_goto (tgt := 54) hx hb dX12_heat_76 (by decide) ?_
      exact ih x5 (by have := m_addI ex5 rfl (Y := 1) (by decide) (by omega) (by omega); omega) (by have := m_addI ex5 rfl (Y := 1) (by decide) (by omega) (by omega); omega) μ h0 _ _ hW ls (lv_sub hl [2, 1, 0] rfl)
set_option maxHeartbeats 4000000 in
set_option maxRecDepth 100000 in
theorem c_X12_heat (l : Launch) (D : va_G) (cy : Nat → ClassId) (b : Nat) (μ : mM) (h0 : ∀ j, μ.1 86 j = 0) (h1 : μ.2 98 0 = 0) (h2 : μ.2 99 0 = 0) (h3 : μ.2 100 0 = 0) (k : Int32) : m_Cl l yX12_heat cX12_heat 5 ((some .long)) 0 D cy b LAY μ [.ref (b + 81), .int k] (fun r ν => r = Fheat k) := by
  unfold m_Cl
  refine m_of (by decide) (Nat.le_of_ble_eq_true rfl) ?_
  intro p e s m below meth c hx hb hr hml hown hts hlocks _ hW ls hl
  have hown : s.vm.findClass RX12 = some m.cls := hown
  have hl : lv_has ls 5 [(0, .ref (b + 81)), (1, .int k)] := hl
  refine lv_aload_n hx hb dX12_heat_0 rfl (lv_at hl 0 rfl) ?_
  refine lv_iconst (v := 0) hx hb dX12_heat_1 (by decide) ?_
  refine m_puti hx hb hts hown hW (81) 0 rfl rfl cw_12 tyX12_ok nmX12 rfl (by decide) k_X12_167 rfl rfl rfl dX12_heat_2 (fun H locs hW _ => ?_)
  generalize hμ1 : m_si μ (81) 0 0 = μ1 at hW
  refine lv_iload_n hx hb dX12_heat_5 rfl (lv_at hl 1 rfl) ?_
  refine lv_if_ne (tgt := 16) hx hb dX12_heat_6 (by decide) (fun c2 => ?_) (fun c2 => ?_)
  · refine lv_iload_n hx hb dX12_heat_16 rfl (lv_at hl 1 rfl) ?_
    refine lv_iconst (v := 2) hx hb dX12_heat_17 (by decide) ?_
    refine lv_icmp_ne (tgt := 28) hx hb dX12_heat_18 (by decide) (fun c3 => ?_) (fun c3 => ?_)
    · refine lv_iload_n hx hb dX12_heat_28 rfl (lv_at hl 1 rfl) ?_
      refine lv_iconst (v := 3) hx hb dX12_heat_29 (by decide) ?_
      refine lv_icmp_ne (tgt := 40) hx hb dX12_heat_30 (by decide) (fun c4 => ?_) (fun c4 => ?_)
      · refine lv_iload_n hx hb dX12_heat_40 rfl (lv_at hl 1 rfl) ?_
        refine lv_iconst (v := 1) hx hb dX12_heat_41 (by decide) ?_
        refine lv_icmp_eq (tgt := 49) hx hb dX12_heat_42 (by decide) (fun c5 => ?_) (fun c5 => ?_)
        · refine lv_lconst (v := 0) hx hb dX12_heat_49 (by decide) ?_
          refine lv_lstore_n (lv' := [(2, .long 0), (0, .ref (b + 81)), (1, .int k)]) hx hb dX12_heat_50 rfl hl (by decide) rfl (fun ls hl => ?_)
          refine lv_iconst (v := 0) hx hb dX12_heat_51 (by decide) ?_
          refine lv_istore (lv' := [(4, .int 0), (2, .long 0), (0, .ref (b + 81)), (1, .int k)]) hx hb dX12_heat_52 hl (by decide) rfl (fun ls hl => ?_)
          refine L_mheat hx hb hml hown hts  (fun μ6 h06 H locs  hW ls hl => ?_) _ 0 (by decide) (by decide : (193 : Int) ≤ (0 : Int32).toInt + (193 : Nat)) μ1 (m_si1 hμ1 (by decide) h0) _ _ hW ls (lv_sub hl [2, 1, 0] rfl)
          refine lv_lload_n hx hb dX12_heat_79 rfl (lv_at hl 1 rfl) ?_
          exact m_lret hx hb hr hlocks hW (by simp only [m_eq0, m_eq1, m_eq2, m_eq3] at *; first | exact (if_pos (by omega)).symm | exact (if_neg (by omega)).symm) dX12_heat_80
        · refine lv_ldc2 hx hb hown (hts _ k_X12_381) dX12_heat_45 ?_
          exact m_lret hx hb hr hlocks hW (by simp only [m_eq0, m_eq1, m_eq2, m_eq3] at *; first | exact (if_pos (by omega)).symm | exact (if_neg (by omega)).symm) dX12_heat_48
      · refine lv_aload_n hx hb dX12_heat_33 rfl (lv_at hl 0 rfl) ?_
        refine m_getr hx hb hts hown hW (81) 27 (100) rfl rfl cw_12 rfl (by decide) k_X12_77 dX12_heat_34 ?_
        refine lv_iconst (v := 0) hx hb dX12_heat_37 (by decide) ?_
        refine m_lald hx hb hW (100) rfl (vp_in_iff.mpr ⟨by decide, by decide⟩) dX12_heat_38 ?_
        refine lv_topl (fun x7 ex7 => ?_)
        have ex7 : x7 = 0 := by rw [ex7, ← hμ1]; exact h3
        subst ex7
        exact m_lret hx hb hr hlocks hW (by simp only [m_eq0, m_eq1, m_eq2, m_eq3] at *; first | exact (if_pos (by omega)).symm | exact (if_neg (by omega)).symm) dX12_heat_39
    · refine lv_aload_n hx hb dX12_heat_21 rfl (lv_at hl 0 rfl) ?_
      refine m_getr hx hb hts hown hW (81) 26 (99) rfl rfl cw_12 rfl (by decide) k_X12_74 dX12_heat_22 ?_
      refine lv_iconst (v := 0) hx hb dX12_heat_25 (by decide) ?_
      refine m_lald hx hb hW (99) rfl (vp_in_iff.mpr ⟨by decide, by decide⟩) dX12_heat_26 ?_
      refine lv_topl (fun x8 ex8 => ?_)
      have ex8 : x8 = 0 := by rw [ex8, ← hμ1]; exact h2
      subst ex8
      exact m_lret hx hb hr hlocks hW (by simp only [m_eq0, m_eq1, m_eq2, m_eq3] at *; first | exact (if_pos (by omega)).symm | exact (if_neg (by omega)).symm) dX12_heat_27
  · refine lv_aload_n hx hb dX12_heat_9 rfl (lv_at hl 0 rfl) ?_
    refine m_getr hx hb hts hown hW (81) 25 (98) rfl rfl cw_12 rfl (by decide) k_X12_70 dX12_heat_10 ?_
    refine lv_iconst (v := 0) hx hb dX12_heat_13 (by decide) ?_
    refine m_lald hx hb hW (98) rfl (vp_in_iff.mpr ⟨by decide, by decide⟩) dX12_heat_14 ?_
    refine lv_topl (fun x9 ex9 => ?_)
    have ex9 : x9 = 0 := by rw [ex9, ← hμ1]; exact h1
    subst ex9
    exact m_lret hx hb hr hlocks hW (by simp only [m_eq0, m_eq1, m_eq2, m_eq3] at *; first | exact (if_pos (by omega)).symm | exact (if_neg (by omega)).symm) dX12_heat_15
set_option maxHeartbeats 4000000 in
set_option maxRecDepth 100000 in
theorem L_ones {p : Program} {l : Launch} {e : Env} {s : State} {m : MethodId} {args : Array Value} {below : List Frame} {meth : Method} {c : Code} {Q : State → Prop} {D : va_G} {cy : Nat → ClassId} {b : Nat} {A : Nat → Prop} (hx : p.tables.exec = Jvm.exec) (hb : c.code = cX12_ones) (hml : c.maxLocals = 4) (hown : s.vm.findClass RX12 = some m.cls) (hts : ∀ w ∈ TB, w.before args s = true) (μ0 : mM) (K : ∀ (μ : mM) (hm : μ = μ0) (H : Heap) (locs : List Loc) (y2 : Int32), m_WA A D cy s b LAY μ H locs → ∀ ls : Array Slot, lv_has ls 4 [(2, .int y2)] → W p l e (m_R 0 0 0) s m args below meth c H locs 0 0 Q (F0 m 21 ls [])) : ∀ (f : Nat) (y2 y3 : Int32) (n : Nat) (h3 : y3 = nI n) (hf : n + 1 ≤ f) (μ : mM) (hm : μ = μ0) (H : Heap) (locs : List Loc), m_WA A D cy s b LAY μ H locs → ∀ ls : Array Slot, lv_has ls 4 [(0, .ref (b + 81)), (2, .int y2), (3, .int y3)] → W p l e (m_R 0 0 0) s m args below meth c H locs 0 0 Q (F0 m 4 ls []) := by
  intro f
  induction f with
  | zero => intro y2 y3 n h3 hf; exfalso; omega
  | succ f ih =>
    intro y2 y3 n h3 hf μ hm H locs hW ls hl
    refine lv_iload_n hx hb dX12_ones_4 rfl (lv_at hl 2 rfl) ?_
    refine lv_if_eq (tgt := 21) hx hb dX12_ones_5 (by decide) (fun c1 => ?_) (fun c1 => ?_)
    · exact K μ hm _ _ y2 hW ls (lv_sub hl [1] rfl)
    · refine lv_iload_n hx hb dX12_ones_8 rfl (lv_at hl 1 rfl) ?_
      refine lv_iconst (v := 1) hx hb dX12_ones_9 (by decide) ?_
      refine lv_iadd hx hb dX12_ones_10 ?_
      refine lv_topi (fun x2 ex2 => ?_)
      refine lv_istore_n (lv' := [(2, .int x2), (0, .ref (b + 81)), (3, .int y3)]) hx hb dX12_ones_11 rfl hl (by decide) rfl (fun ls hl => ?_)
      refine lv_iload_n hx hb dX12_ones_12 rfl (lv_at hl 2 rfl) ?_
      refine lv_iload_n hx hb dX12_ones_13 rfl (lv_at hl 2 rfl) ?_
      refine lv_iconst (v := 1) hx hb dX12_ones_14 (by decide) ?_
      refine lv_isub hx hb dX12_ones_15 ?_
      refine lv_topi (fun x3 ex3 => ?_)
      refine lv_iand hx hb dX12_ones_16 ?_
      refine lv_topi (fun x4 ex4 => ?_)
      refine lv_istore_n (lv' := [(3, .int x4), (2, .int x2), (0, .ref (b + 81))]) hx hb dX12_ones_17 rfl hl (by decide) rfl (fun ls hl => ?_)
      refine lv_goto (tgt := 4) hx hb dX12_ones_18 (by decide) ?_
      exact ih x2 x4 (n &&& (n - 1)) (m_ones h3 ex3 ex4 c1).1 (by have := (m_ones h3 ex3 ex4 c1).2; omega) μ hm _ _ hW ls (lv_sub hl [2, 1, 0] rfl)
set_option maxHeartbeats 4000000 in
set_option maxRecDepth 100000 in
theorem c_X12_ones (l : Launch) (D : va_G) (cy : Nat → ClassId) (b : Nat) (μ : mM) (k : Int32) (hk : 0 ≤ k.toInt ∧ k.toInt ≤ 255) : m_Ci l yX12_ones cX12_ones 4 ((some .int)) 0 D cy b LAY μ [.ref (b + 81), .int k] (fun r ν => μ = ν ∧ True) := by
  unfold m_Ci
  refine m_of (by decide) (Nat.le_of_ble_eq_true rfl) ?_
  intro p e s m below meth c hx hb hr hml hown hts hlocks _ hW ls hl
  have hown : s.vm.findClass RX12 = some m.cls := hown
  have hl : lv_has ls 4 [(0, .ref (b + 81)), (1, .int k)] := hl
  obtain ⟨n, hn1, hn⟩ := nI_of (x := k) (by rw [Int32.lt_iff_toInt_lt]; show ¬ k.toInt < 0; omega)
  refine lv_iconst (v := 0) hx hb dX12_ones_0 (by decide) ?_
  refine lv_istore_n (lv' := [(2, .int 0), (0, .ref (b + 81)), (1, .int k)]) hx hb dX12_ones_1 rfl hl (by decide) rfl (fun ls hl => ?_)
  refine lv_iload_n hx hb dX12_ones_2 rfl (lv_at hl 2 rfl) ?_
  refine lv_istore_n (lv' := [(3, .int k), (2, .int 0), (0, .ref (b + 81)), (1, .int k)]) hx hb dX12_ones_3 rfl hl (by decide) rfl (fun ls hl => ?_)
  refine L_ones hx hb hml hown hts μ (fun μ1 hm1 H locs y2_1 hW ls hl => ?_) _ 0 k n hn (Nat.le_refl _) μ rfl _ _ hW ls (lv_sub hl [2, 1, 0] rfl)
  refine lv_iload_n hx hb dX12_ones_21 rfl (lv_at hl 0 rfl) ?_
  exact m_iret hx hb hr hlocks hW rfl (⟨by subst_vars; rfl, trivial⟩) dX12_ones_22
set_option maxHeartbeats 4000000 in
set_option maxRecDepth 100000 in
theorem c_X12_order (l : Launch) (D : va_G) (cy : Nat → ClassId) (b : Nat) (μ : mM) (h0 : μ.1 81 5 = 0) (k u : Int32) : m_Ci l yX12_order cX12_order 10 ((some .int)) 1 D cy b LAY μ [.ref (b + 81), .int k, .int u] (fun r ν => r = -1) := by
  unfold m_Ci
  refine m_of (by decide) (Nat.le_of_ble_eq_true rfl) ?_
  intro p e s m below meth c hx hb hr hml hown hts hlocks _ hW ls hl
  have hown : s.vm.findClass RX12 = some m.cls := hown
  have hl : lv_has ls 10 [(0, .ref (b + 81)), (1, .int k), (2, .int u)] := hl
  refine lv_aload_n hx hb dX12_order_0 rfl (lv_at hl 0 rfl) ?_
  refine lv_iconst (v := 0) hx hb dX12_order_1 (by decide) ?_
  refine m_puti hx hb hts hown hW (81) 0 rfl rfl cw_12 tyX12_ok nmX12 rfl (by decide) k_X12_167 rfl rfl rfl dX12_order_2 (fun H locs hW _ => ?_)
  generalize hμ1 : m_si μ (81) 0 0 = μ1 at hW
  refine lv_aload_n hx hb dX12_order_5 rfl (lv_at hl 0 rfl) ?_
  refine lv_iload_n hx hb dX12_order_6 rfl (lv_at hl 1 rfl) ?_
  refine lv_iconst (v := 1) hx hb dX12_order_7 (by decide) ?_
  refine lv_sipush (v := 255) hx hb dX12_order_8 (by decide) ?_
  refine m_aI hW (m_runV (As := [.int k, .int 1, .int 255]) (rest := []) hx hb hml hown hts hW (81) (c_X12_isIn l D cy b μ1 81 k 1 255 1 255 (by decide) (by decide)) mi_X12_isIn k_X12_170 rfl rfl rfl hl.1 rfl (Nat.le_of_ble_eq_true rfl) dX12_order_11 ⟨Nat.le_of_ble_eq_true rfl, Nat.le_of_ble_eq_true rfl⟩ ⟨Nat.le_of_ble_eq_true rfl, Nat.le_of_ble_eq_true rfl⟩) (fun x2 μ2 H locs q2 hW => ?_)
  obtain ⟨q2_m, q2⟩ := q2
  subst q2_m
  rcases q2 with ⟨rfl, q2⟩ | ⟨rfl, q2⟩
  · refine lv_if_eq (tgt := 43) hx hb dX12_order_14 (by decide) (fun c => False.elim (by revert c; decide)) (fun _ => ?_)
    refine lv_aload_n hx hb dX12_order_17 rfl (lv_at hl 0 rfl) ?_
    refine lv_iload_n hx hb dX12_order_18 rfl (lv_at hl 1 rfl) ?_
    refine m_aI hW (m_runV (As := [.int k]) (rest := []) hx hb hml hown hts hW (81) (c_X12_ones l D cy b μ1 k (by omega)) mi_X12_ones k_X12_383 rfl rfl rfl hl.1 rfl (Nat.le_of_ble_eq_true rfl) dX12_order_19 ⟨Nat.le_of_ble_eq_true rfl, Nat.le_of_ble_eq_true rfl⟩ ⟨Nat.le_of_ble_eq_true rfl, Nat.le_of_ble_eq_true rfl⟩) (fun x3 μ3 H locs q3 hW => ?_)
    obtain ⟨q3_m, q3⟩ := q3
    subst q3_m
    refine lv_iconst (v := 3) hx hb dX12_order_22 (by decide) ?_
    refine lv_icmp_gt (tgt := 43) hx hb dX12_order_23 (by decide) (fun c4 => ?_) (fun c4 => ?_)
    · refine lv_iconst (v := (-1)) hx hb dX12_order_43 (by decide) ?_
      exact m_iret hx hb hr hlocks hW rfl (rfl) dX12_order_44
    · refine lv_aload_n hx hb dX12_order_26 rfl (lv_at hl 0 rfl) ?_
      refine m_geti hx hb hts hown hW (81) 5 rfl rfl cw_12 rfl (by decide) k_X12_174 dX12_order_27 ?_
      refine lv_topi (fun x5 ex5 => ?_)
      have ex5 : x5 = 0 := by rw [ex5, ← hμ1]; exact h0
      subst ex5
      refine lv_if_eq (tgt := 43) hx hb dX12_order_30 (by decide) (fun _ => ?_) (fun c => False.elim (by revert c; decide))
      refine lv_iconst (v := (-1)) hx hb dX12_order_43 (by decide) ?_
      exact m_iret hx hb hr hlocks hW rfl (rfl) dX12_order_44
  · refine lv_if_eq (tgt := 43) hx hb dX12_order_14 (by decide) (fun _ => ?_) (fun c => False.elim (by revert c; decide))
    refine lv_iconst (v := (-1)) hx hb dX12_order_43 (by decide) ?_
    exact m_iret hx hb hr hlocks hW rfl (rfl) dX12_order_44
set_option maxHeartbeats 4000000 in
set_option maxRecDepth 100000 in
theorem c_X12_kind (l : Launch) (D : va_G) (cy : Nat → ClassId) (b : Nat) (μ : mM) (h0 : μ.1 81 62 = 0) (k u v : Int32) : m_Ci l yX12_kind cX12_kind 4 ((some .int)) 1 D cy b LAY μ [.ref (b + 81), .int k, .int u, .int v] (fun r ν => r = Fkind k u v) := by
  unfold m_Ci
  refine m_of (by decide) (Nat.le_of_ble_eq_true rfl) ?_
  intro p e s m below meth c hx hb hr hml hown hts hlocks _ hW ls hl
  have hown : s.vm.findClass RX12 = some m.cls := hown
  have hl : lv_has ls 4 [(0, .ref (b + 81)), (1, .int k), (2, .int u), (3, .int v)] := hl
  refine lv_aload_n hx hb dX12_kind_0 rfl (lv_at hl 0 rfl) ?_
  refine lv_iconst (v := 0) hx hb dX12_kind_1 (by decide) ?_
  refine m_puti hx hb hts hown hW (81) 0 rfl rfl cw_12 tyX12_ok nmX12 rfl (by decide) k_X12_167 rfl rfl rfl dX12_kind_2 (fun H locs hW _ => ?_)
  generalize hμ1 : m_si μ (81) 0 0 = μ1 at hW
  refine lv_aload_n hx hb dX12_kind_5 rfl (lv_at hl 0 rfl) ?_
  refine lv_iload_n hx hb dX12_kind_6 rfl (lv_at hl 1 rfl) ?_
  refine lv_iconst (v := 1) hx hb dX12_kind_7 (by decide) ?_
  refine lv_bipush (v := 40) hx hb dX12_kind_8 (by decide) ?_
  refine m_aI hW (m_runV (As := [.int k, .int 1, .int 40]) (rest := []) hx hb hml hown hts hW (81) (c_X12_isIn l D cy b μ1 81 k 1 40 1 40 (by decide) (by decide)) mi_X12_isIn k_X12_170 rfl rfl rfl hl.1 rfl (Nat.le_of_ble_eq_true rfl) dX12_kind_10 ⟨Nat.le_of_ble_eq_true rfl, Nat.le_of_ble_eq_true rfl⟩ ⟨Nat.le_of_ble_eq_true rfl, Nat.le_of_ble_eq_true rfl⟩) (fun x2 μ2 H locs q2 hW => ?_)
  obtain ⟨q2_m, q2⟩ := q2
  subst q2_m
  rcases q2 with ⟨rfl, q2⟩ | ⟨rfl, q2⟩
  · refine lv_if_eq (tgt := 48) hx hb dX12_kind_13 (by decide) (fun c => False.elim (by revert c; decide)) (fun _ => ?_)
    refine lv_aload_n hx hb dX12_kind_16 rfl (lv_at hl 0 rfl) ?_
    refine lv_iload_n hx hb dX12_kind_17 rfl (lv_at hl 2 rfl) ?_
    refine lv_iconst (v := 1) hx hb dX12_kind_18 (by decide) ?_
    refine lv_bipush (v := 40) hx hb dX12_kind_19 (by decide) ?_
    refine m_aI hW (m_runV (As := [.int u, .int 1, .int 40]) (rest := []) hx hb hml hown hts hW (81) (c_X12_isIn l D cy b μ1 81 u 1 40 1 40 (by decide) (by decide)) mi_X12_isIn k_X12_170 rfl rfl rfl hl.1 rfl (Nat.le_of_ble_eq_true rfl) dX12_kind_21 ⟨Nat.le_of_ble_eq_true rfl, Nat.le_of_ble_eq_true rfl⟩ ⟨Nat.le_of_ble_eq_true rfl, Nat.le_of_ble_eq_true rfl⟩) (fun x3 μ3 H locs q3 hW => ?_)
    obtain ⟨q3_m, q3⟩ := q3
    subst q3_m
    rcases q3 with ⟨rfl, q3⟩ | ⟨rfl, q3⟩
    · refine lv_if_eq (tgt := 48) hx hb dX12_kind_24 (by decide) (fun c => False.elim (by revert c; decide)) (fun _ => ?_)
      refine lv_aload_n hx hb dX12_kind_27 rfl (lv_at hl 0 rfl) ?_
      refine lv_iload_n hx hb dX12_kind_28 rfl (lv_at hl 3 rfl) ?_
      refine lv_iconst (v := 0) hx hb dX12_kind_29 (by decide) ?_
      refine lv_sipush (v := 999) hx hb dX12_kind_30 (by decide) ?_
      refine m_aI hW (m_runV (As := [.int v, .int 0, .int 999]) (rest := []) hx hb hml hown hts hW (81) (c_X12_isIn l D cy b μ1 81 v 0 999 0 999 (by decide) (by decide)) mi_X12_isIn k_X12_170 rfl rfl rfl hl.1 rfl (Nat.le_of_ble_eq_true rfl) dX12_kind_33 ⟨Nat.le_of_ble_eq_true rfl, Nat.le_of_ble_eq_true rfl⟩ ⟨Nat.le_of_ble_eq_true rfl, Nat.le_of_ble_eq_true rfl⟩) (fun x4 μ4 H locs q4 hW => ?_)
      obtain ⟨q4_m, q4⟩ := q4
      subst q4_m
      rcases q4 with ⟨rfl, q4⟩ | ⟨rfl, q4⟩
      · refine lv_if_eq (tgt := 48) hx hb dX12_kind_36 (by decide) (fun c => False.elim (by revert c; decide)) (fun _ => ?_)
        refine lv_aload_n hx hb dX12_kind_39 rfl (lv_at hl 0 rfl) ?_
        refine m_geti hx hb hts hown hW (81) 62 rfl rfl cw_12 rfl (by decide) k_X12_395 dX12_kind_40 ?_
        refine lv_topi (fun x5 ex5 => ?_)
        have ex5 : x5 = 0 := by rw [ex5, ← hμ1]; exact h0
        subst ex5
        refine lv_bipush (v := 6) hx hb dX12_kind_43 (by decide) ?_
        refine lv_icmp_ne (tgt := 50) hx hb dX12_kind_45 (by decide) (fun _ => ?_) (fun c => False.elim (by revert c; decide))
        refine lv_aload_n hx hb dX12_kind_50 rfl (lv_at hl 0 rfl) ?_
        refine m_getr hx hb hts hown hW (81) 63 (120) rfl rfl cw_12 rfl (by decide) k_X12_140 dX12_kind_51 ?_
        refine lv_aload_n hx hb dX12_kind_54 rfl (lv_at hl 0 rfl) ?_
        refine m_geti hx hb hts hown hW (81) 62 rfl rfl cw_12 rfl (by decide) k_X12_395 dX12_kind_55 ?_
        refine lv_topi (fun x6 ex6 => ?_)
        have ex6 : x6 = 0 := by rw [ex6, ← hμ1]; exact h0
        subst ex6
        refine lv_iload_n hx hb dX12_kind_58 rfl (lv_at hl 1 rfl) ?_
        refine m_iast hx hb hW (120) rfl (vp_in_iff.mpr ⟨by decide, by decide⟩) dX12_kind_59 (fun H locs hW _ => ?_)
        generalize hμ7 : m_si μ1 (120) (0 : Int32).toNatClampNeg k = μ7 at hW
        refine lv_aload_n hx hb dX12_kind_60 rfl (lv_at hl 0 rfl) ?_
        refine m_getr hx hb hts hown hW (81) 64 (121) rfl rfl cw_12 rfl (by decide) k_X12_143 dX12_kind_61 ?_
        refine lv_aload_n hx hb dX12_kind_64 rfl (lv_at hl 0 rfl) ?_
        refine m_geti hx hb hts hown hW (81) 62 rfl rfl cw_12 rfl (by decide) k_X12_395 dX12_kind_65 ?_
        refine lv_topi (fun x8 ex8 => ?_)
        have ex8 : x8 = 0 := by rw [ex8, ← hμ7, ← hμ1]; exact h0
        subst ex8
        refine lv_iload_n hx hb dX12_kind_68 rfl (lv_at hl 2 rfl) ?_
        refine m_iast hx hb hW (121) rfl (vp_in_iff.mpr ⟨by decide, by decide⟩) dX12_kind_69 (fun H locs hW _ => ?_)
        generalize hμ9 : m_si μ7 (121) (0 : Int32).toNatClampNeg u = μ9 at hW
        refine lv_aload_n hx hb dX12_kind_70 rfl (lv_at hl 0 rfl) ?_
        refine m_getr hx hb hts hown hW (81) 65 (122) rfl rfl cw_12 rfl (by decide) k_X12_146 dX12_kind_71 ?_
        refine lv_aload_n hx hb dX12_kind_74 rfl (lv_at hl 0 rfl) ?_
        refine m_geti hx hb hts hown hW (81) 62 rfl rfl cw_12 rfl (by decide) k_X12_395 dX12_kind_75 ?_
        refine lv_topi (fun x10 ex10 => ?_)
        have ex10 : x10 = 0 := by rw [ex10, ← hμ9, ← hμ7, ← hμ1]; exact h0
        subst ex10
        refine lv_iload_n hx hb dX12_kind_78 rfl (lv_at hl 3 rfl) ?_
        refine m_iast hx hb hW (122) rfl (vp_in_iff.mpr ⟨by decide, by decide⟩) dX12_kind_79 (fun H locs hW _ => ?_)
        generalize hμ11 : m_si μ9 (122) (0 : Int32).toNatClampNeg v = μ11 at hW
        refine lv_aload_n hx hb dX12_kind_80 rfl (lv_at hl 0 rfl) ?_
        refine lv_aload_n hx hb dX12_kind_81 rfl (lv_at hl 0 rfl) ?_
        refine m_geti hx hb hts hown hW (81) 62 rfl rfl cw_12 rfl (by decide) k_X12_395 dX12_kind_82 ?_
        refine lv_topi (fun x12 ex12 => ?_)
        have ex12 : x12 = 0 := by rw [ex12, ← hμ11, ← hμ9, ← hμ7, ← hμ1]; exact h0
        subst ex12
        refine lv_iconst (v := 1) hx hb dX12_kind_85 (by decide) ?_
        refine lv_iadd hx hb dX12_kind_86 ?_
        refine lv_topi (fun x13 ex13 => ?_)
        have ex13 : x13 = 1 := by rw [ex13]; decide
        subst ex13
        refine m_puti hx hb hts hown hW (81) 62 rfl rfl cw_12 tyX12_ok nmX12 rfl (by decide) k_X12_395 rfl rfl rfl dX12_kind_87 (fun H locs hW _ => ?_)
        generalize hμ14 : m_si μ11 (81) 62 1 = μ14 at hW
        refine lv_aload_n hx hb dX12_kind_90 rfl (lv_at hl 0 rfl) ?_
        refine m_geti hx hb hts hown hW (81) 62 rfl rfl cw_12 rfl (by decide) k_X12_395 dX12_kind_91 ?_
        refine lv_topi (fun x15 ex15 => ?_)
        have ex15 : x15 = 1 := by rw [ex15, ← hμ14]; first | rfl | exact if_pos ⟨rfl, rfl⟩
        subst ex15
        refine lv_iconst (v := 1) hx hb dX12_kind_94 (by decide) ?_
        refine lv_isub hx hb dX12_kind_95 ?_
        refine lv_topi (fun x16 ex16 => ?_)
        have ex16 : x16 = 0 := by rw [ex16]; decide
        subst ex16
        exact m_iret hx hb hr hlocks hW rfl ((if_pos (by omega)).symm) dX12_kind_96
      · refine lv_if_eq (tgt := 48) hx hb dX12_kind_36 (by decide) (fun _ => ?_) (fun c => False.elim (by revert c; decide))
        refine lv_iconst (v := (-1)) hx hb dX12_kind_48 (by decide) ?_
        exact m_iret hx hb hr hlocks hW rfl ((if_neg (by omega)).symm) dX12_kind_49
    · refine lv_if_eq (tgt := 48) hx hb dX12_kind_24 (by decide) (fun _ => ?_) (fun c => False.elim (by revert c; decide))
      refine lv_iconst (v := (-1)) hx hb dX12_kind_48 (by decide) ?_
      exact m_iret hx hb hr hlocks hW rfl ((if_neg (by omega)).symm) dX12_kind_49
  · refine lv_if_eq (tgt := 48) hx hb dX12_kind_13 (by decide) (fun _ => ?_) (fun c => False.elim (by revert c; decide))
    refine lv_iconst (v := (-1)) hx hb dX12_kind_48 (by decide) ?_
    exact m_iret hx hb hr hlocks hW rfl ((if_neg (by omega)).symm) dX12_kind_49
set_option maxHeartbeats 4000000 in
set_option maxRecDepth 100000 in
theorem L_most1 {p : Program} {l : Launch} {e : Env} {s : State} {m : MethodId} {args : Array Value} {below : List Frame} {meth : Method} {c : Code} {Q : State → Prop} {D : va_G} {cy : Nat → ClassId} {b : Nat} {A : Nat → Prop} (hx : p.tables.exec = Jvm.exec) (hb : c.code = cX12_mostOf) (hml : c.maxLocals = 6) (hown : s.vm.findClass RX12 = some m.cls) (hts : ∀ w ∈ TB, w.before args s = true) (μ0 : mM) (hz : ∀ j, μ0.1 123 j = 0) (k u : Int32) (hk : 1 ≤ k.toInt ∧ k.toInt ≤ 40) (hu : 1 ≤ u.toInt ∧ u.toInt ≤ 40) (K : ∀ (μ : mM) (hm : μ = μ0) (H : Heap) (locs : List Loc), m_WA A D cy s b LAY μ H locs → ∀ ls : Array Slot, lv_has ls 6 [(0, .ref (b + 81)), (1, .int k), (2, .int u), (3, .int 0)] → W p l e (m_R 0 0 0) s m args below meth c H locs 0 0 Q (F0 m 150 ls [])) : ∀ (f : Nat) (y4 : Int32) (h4 : 1 ≤ y4.toInt ∧ y4.toInt ≤ 41) (hf : 42 ≤ y4.toInt + f) (μ : mM) (hm : μ = μ0) (H : Heap) (locs : List Loc), m_WA A D cy s b LAY μ H locs → ∀ ls : Array Slot, lv_has ls 6 [(0, .ref (b + 81)), (1, .int k), (2, .int u), (3, .int 0), (4, .int y4)] → W p l e (m_R 0 0 0) s m args below meth c H locs 0 0 Q (F0 m 98 ls []) := by
  intro f
  induction f with
  | zero => intro y4 h4 hf; exfalso; omega
  | succ f ih =>
    intro y4 h4 hf μ hm H locs hW ls hl
    refine lv_iload hx hb dX12_mostOf_98 (lv_at hl 4 rfl) ?_
    refine lv_iload_n hx hb dX12_mostOf_100 rfl (lv_at hl 1 rfl) ?_
    refine lv_iconst (v := 2) hx hb dX12_mostOf_101 (by decide) ?_
    refine lv_idiv hx hb dX12_mostOf_102 (by decide) ?_
    refine lv_topi (fun x1 ex1 => ?_)
    have tx1 : x1.toInt = k.toInt / 2 := m_half ex1 (by omega)
    refine lv_icmp_gt (tgt := 150) hx hb dX12_mostOf_103 (by decide) (fun c2 => ?_) (fun c2 => ?_)
    · exact K μ hm _ _  hW ls (lv_sub hl [0, 1, 2, 3] rfl)
    · have cc := m_nlt tx1 c2
      refine lv_aload_n hx hb dX12_mostOf_106 rfl (lv_at hl 0 rfl) ?_
      refine m_getr hx hb hts hown hW (81) 66 (123) rfl rfl cw_12 rfl (by decide) k_X12_149 dX12_mostOf_107 ?_
      refine lv_bipush (v := 41) hx hb dX12_mostOf_110 (by decide) ?_
      refine lv_iload hx hb dX12_mostOf_112 (lv_at hl 4 rfl) ?_
      refine lv_imul hx hb dX12_mostOf_114 ?_
      refine lv_topi (fun x3 ex3 => ?_)
      have tx3 : x3.toInt = 41 * y4.toInt := m_mulI ex3 (by decide) rfl (by omega) (by omega)
      refine lv_iload_n hx hb dX12_mostOf_115 rfl (lv_at hl 2 rfl) ?_
      refine lv_iadd hx hb dX12_mostOf_116 ?_
      refine lv_topi (fun x4 ex4 => ?_)
      have tx4 : x4.toInt = (41 * y4.toInt) + u.toInt := m_addI ex4 tx3 rfl (by omega) (by omega)
      refine m_iald hx hb hW (123) rfl (m_ixI tx4 (by omega) (by omega)) dX12_mostOf_117 ?_
      refine lv_topi (fun x5 ex5 => ?_)
      have ex5 : x5 = 0 := by rw [ex5, hm]; exact hz _
      subst ex5
      refine lv_aload_n hx hb dX12_mostOf_118 rfl (lv_at hl 0 rfl) ?_
      refine m_getr hx hb hts hown hW (81) 66 (123) rfl rfl cw_12 rfl (by decide) k_X12_149 dX12_mostOf_119 ?_
      refine lv_bipush (v := 41) hx hb dX12_mostOf_122 (by decide) ?_
      refine lv_iload_n hx hb dX12_mostOf_124 rfl (lv_at hl 1 rfl) ?_
      refine lv_iload hx hb dX12_mostOf_125 (lv_at hl 4 rfl) ?_
      refine lv_isub hx hb dX12_mostOf_127 ?_
      refine lv_topi (fun x6 ex6 => ?_)
      have tx6 : x6.toInt = k.toInt - y4.toInt := m_subI ex6 rfl rfl (by omega) (by omega)
      refine lv_imul hx hb dX12_mostOf_128 ?_
      refine lv_topi (fun x7 ex7 => ?_)
      have tx7 : x7.toInt = 41 * (k.toInt - y4.toInt) := m_mulI ex7 (by decide) tx6 (by omega) (by omega)
      refine lv_iload_n hx hb dX12_mostOf_129 rfl (lv_at hl 2 rfl) ?_
      refine lv_iadd hx hb dX12_mostOf_130 ?_
      refine lv_topi (fun x8 ex8 => ?_)
      have tx8 : x8.toInt = (41 * (k.toInt - y4.toInt)) + u.toInt := m_addI ex8 tx7 rfl (by omega) (by omega)
      refine m_iald hx hb hW (123) rfl (m_ixI tx8 (by omega) (by omega)) dX12_mostOf_131 ?_
      refine lv_topi (fun x9 ex9 => ?_)
      have ex9 : x9 = 0 := by rw [ex9, hm]; exact hz _
      subst ex9
      refine lv_iadd hx hb dX12_mostOf_132 ?_
      refine lv_topi (fun x10 ex10 => ?_)
      have ex10 : x10 = 0 := by rw [ex10]; decide
      subst ex10
      refine lv_istore (lv' := [(5, .int 0), (0, .ref (b + 81)), (1, .int k), (2, .int u), (3, .int 0), (4, .int y4)]) hx hb dX12_mostOf_133 hl (by decide) rfl (fun ls hl => ?_)
      refine lv_iload hx hb dX12_mostOf_135 (lv_at hl 0 rfl) ?_
      refine lv_iload_n hx hb dX12_mostOf_137 rfl (lv_at hl 4 rfl) ?_
      refine lv_icmp_le (tgt := 144) hx hb dX12_mostOf_138 (by decide) (fun _ => ?_) (fun c => False.elim (by revert c; decide))
      obtain ⟨x11, ex11⟩ : ∃ z : Int32, z = y4 + 1 := ⟨_, rfl⟩
      refine lv_iinc (v := x11) (lv' := [(4, .int x11), (5, .int 0), (0, .ref (b + 81)), (1, .int k), (2, .int u), (3, .int 0)]) hx hb dX12_mostOf_144 hl (k := 5) rfl (by rw [ex11]; rfl) (by decide) rfl (fun ls hl => ?_)
      refine lv_goto (tgt := 98) hx hb dX12_mostOf_147 (by decide) ?_
      exact ih x11 (by have := m_addI ex11 rfl (Y := 1) (by decide) (by omega) (by omega); omega) (by have := m_addI ex11 rfl (Y := 1) (by decide) (by omega) (by omega); omega) μ hm _ _ hW ls (lv_sub hl [2, 3, 4, 5, 0] rfl)
set_option maxHeartbeats 4000000 in
set_option maxRecDepth 100000 in
theorem L_most2 {p : Program} {l : Launch} {e : Env} {s : State} {m : MethodId} {args : Array Value} {below : List Frame} {meth : Method} {c : Code} {Q : State → Prop} {D : va_G} {cy : Nat → ClassId} {b : Nat} {A : Nat → Prop} (hx : p.tables.exec = Jvm.exec) (hb : c.code = cX12_mostOf) (hml : c.maxLocals = 6) (hown : s.vm.findClass RX12 = some m.cls) (hts : ∀ w ∈ TB, w.before args s = true) (μ0 : mM) (hz : ∀ j, μ0.1 123 j = 0) (k u : Int32) (hk : 1 ≤ k.toInt ∧ k.toInt ≤ 40) (hu : 1 ≤ u.toInt ∧ u.toInt ≤ 40) (K : ∀ (μ : mM) (hm : μ = μ0) (H : Heap) (locs : List Loc), m_WA A D cy s b LAY μ H locs → ∀ ls : Array Slot, lv_has ls 6 [(0, .ref (b + 81)), (1, .int k), (2, .int u), (3, .int 0)] → W p l e (m_R 0 0 0) s m args below meth c H locs 0 0 Q (F0 m 205 ls [])) : ∀ (f : Nat) (y4 : Int32) (h4 : 1 ≤ y4.toInt ∧ y4.toInt ≤ 41) (hf : 42 ≤ y4.toInt + f) (μ : mM) (hm : μ = μ0) (H : Heap) (locs : List Loc), m_WA A D cy s b LAY μ H locs → ∀ ls : Array Slot, lv_has ls 6 [(0, .ref (b + 81)), (1, .int k), (2, .int u), (3, .int 0), (4, .int y4)] → W p l e (m_R 0 0 0) s m args below meth c H locs 0 0 Q (F0 m 153 ls []) := by
  intro f
  induction f with
  | zero => intro y4 h4 hf; exfalso; omega
  | succ f ih =>
    intro y4 h4 hf μ hm H locs hW ls hl
    refine lv_iload hx hb dX12_mostOf_153 (lv_at hl 4 rfl) ?_
    refine lv_iload_n hx hb dX12_mostOf_155 rfl (lv_at hl 2 rfl) ?_
    refine lv_iconst (v := 2) hx hb dX12_mostOf_156 (by decide) ?_
    refine lv_idiv hx hb dX12_mostOf_157 (by decide) ?_
    refine lv_topi (fun x1 ex1 => ?_)
    have tx1 : x1.toInt = u.toInt / 2 := m_half ex1 (by omega)
    refine lv_icmp_gt (tgt := 205) hx hb dX12_mostOf_158 (by decide) (fun c2 => ?_) (fun c2 => ?_)
    · exact K μ hm _ _  hW ls (lv_sub hl [0, 1, 2, 3] rfl)
    · have cc := m_nlt tx1 c2
      refine lv_aload_n hx hb dX12_mostOf_161 rfl (lv_at hl 0 rfl) ?_
      refine m_getr hx hb hts hown hW (81) 66 (123) rfl rfl cw_12 rfl (by decide) k_X12_149 dX12_mostOf_162 ?_
      refine lv_bipush (v := 41) hx hb dX12_mostOf_165 (by decide) ?_
      refine lv_iload_n hx hb dX12_mostOf_167 rfl (lv_at hl 1 rfl) ?_
      refine lv_imul hx hb dX12_mostOf_168 ?_
      refine lv_topi (fun x3 ex3 => ?_)
      have tx3 : x3.toInt = 41 * k.toInt := m_mulI ex3 (by decide) rfl (by omega) (by omega)
      refine lv_iload hx hb dX12_mostOf_169 (lv_at hl 4 rfl) ?_
      refine lv_iadd hx hb dX12_mostOf_171 ?_
      refine lv_topi (fun x4 ex4 => ?_)
      have tx4 : x4.toInt = (41 * k.toInt) + y4.toInt := m_addI ex4 tx3 rfl (by omega) (by omega)
      refine m_iald hx hb hW (123) rfl (m_ixI tx4 (by omega) (by omega)) dX12_mostOf_172 ?_
      refine lv_topi (fun x5 ex5 => ?_)
      have ex5 : x5 = 0 := by rw [ex5, hm]; exact hz _
      subst ex5
      refine lv_aload_n hx hb dX12_mostOf_173 rfl (lv_at hl 0 rfl) ?_
      refine m_getr hx hb hts hown hW (81) 66 (123) rfl rfl cw_12 rfl (by decide) k_X12_149 dX12_mostOf_174 ?_
      refine lv_bipush (v := 41) hx hb dX12_mostOf_177 (by decide) ?_
      refine lv_iload_n hx hb dX12_mostOf_179 rfl (lv_at hl 1 rfl) ?_
      refine lv_imul hx hb dX12_mostOf_180 ?_
      refine lv_topi (fun x6 ex6 => ?_)
      have tx6 : x6.toInt = 41 * k.toInt := m_mulI ex6 (by decide) rfl (by omega) (by omega)
      refine lv_iload_n hx hb dX12_mostOf_181 rfl (lv_at hl 2 rfl) ?_
      refine lv_iadd hx hb dX12_mostOf_182 ?_
      refine lv_topi (fun x7 ex7 => ?_)
      have tx7 : x7.toInt = (41 * k.toInt) + u.toInt := m_addI ex7 tx6 rfl (by omega) (by omega)
      refine lv_iload hx hb dX12_mostOf_183 (lv_at hl 4 rfl) ?_
      refine lv_isub hx hb dX12_mostOf_185 ?_
      refine lv_topi (fun x8 ex8 => ?_)
      have tx8 : x8.toInt = ((41 * k.toInt) + u.toInt) - y4.toInt := m_subI ex8 tx7 rfl (by omega) (by omega)
      refine m_iald hx hb hW (123) rfl (m_ixI tx8 (by omega) (by omega)) dX12_mostOf_186 ?_
      refine lv_topi (fun x9 ex9 => ?_)
      have ex9 : x9 = 0 := by rw [ex9, hm]; exact hz _
      subst ex9
      refine lv_iadd hx hb dX12_mostOf_187 ?_
      refine lv_topi (fun x10 ex10 => ?_)
      have ex10 : x10 = 0 := by rw [ex10]; decide
      subst ex10
      refine lv_istore (lv' := [(5, .int 0), (0, .ref (b + 81)), (1, .int k), (2, .int u), (3, .int 0), (4, .int y4)]) hx hb dX12_mostOf_188 hl (by decide) rfl (fun ls hl => ?_)
      refine lv_iload hx hb dX12_mostOf_190 (lv_at hl 0 rfl) ?_
      refine lv_iload_n hx hb dX12_mostOf_192 rfl (lv_at hl 4 rfl) ?_
      refine lv_icmp_le (tgt := 199) hx hb dX12_mostOf_193 (by decide) (fun _ => ?_) (fun c => False.elim (by revert c; decide))
      obtain ⟨x11, ex11⟩ : ∃ z : Int32, z = y4 + 1 := ⟨_, rfl⟩
      refine lv_iinc (v := x11) (lv' := [(4, .int x11), (5, .int 0), (0, .ref (b + 81)), (1, .int k), (2, .int u), (3, .int 0)]) hx hb dX12_mostOf_199 hl (k := 5) rfl (by rw [ex11]; rfl) (by decide) rfl (fun ls hl => ?_)
      refine lv_goto (tgt := 153) hx hb dX12_mostOf_202 (by decide) ?_
      exact ih x11 (by have := m_addI ex11 rfl (Y := 1) (by decide) (by omega) (by omega); omega) (by have := m_addI ex11 rfl (Y := 1) (by decide) (by omega) (by omega); omega) μ hm _ _ hW ls (lv_sub hl [2, 3, 4, 5, 0] rfl)
set_option maxHeartbeats 4000000 in
set_option maxRecDepth 100000 in
theorem c_X12_mostOf (l : Launch) (D : va_G) (cy : Nat → ClassId) (b : Nat) (μ : mM) (hz : ∀ j, μ.1 123 j = 0) (h0 : μ.1 81 62 = 0) (k u : Int32) (hk : 1 ≤ k.toInt ∧ k.toInt ≤ 40) (hu : 1 ≤ u.toInt ∧ u.toInt ≤ 40) : m_Ci l yX12_mostOf cX12_mostOf 6 ((some .int)) 0 D cy b LAY μ [.ref (b + 81), .int k, .int u] (fun r ν => μ = ν ∧ r = 0) := by
  unfold m_Ci
  refine m_of (by decide) (Nat.le_of_ble_eq_true rfl) ?_
  intro p e s m below meth c hx hb hr hml hown hts hlocks _ hW ls hl
  have hown : s.vm.findClass RX12 = some m.cls := hown
  have hl : lv_has ls 6 [(0, .ref (b + 81)), (1, .int k), (2, .int u)] := hl
  refine lv_iconst (v := 0) hx hb dX12_mostOf_0 (by decide) ?_
  refine lv_istore_n (lv' := [(3, .int 0), (0, .ref (b + 81)), (1, .int k), (2, .int u)]) hx hb dX12_mostOf_1 rfl hl (by decide) rfl (fun ls hl => ?_)
  refine lv_iconst (v := 0) hx hb dX12_mostOf_2 (by decide) ?_
  refine lv_istore (lv' := [(4, .int 0), (3, .int 0), (0, .ref (b + 81)), (1, .int k), (2, .int u)]) hx hb dX12_mostOf_3 hl (by decide) rfl (fun ls hl => ?_)
  refine lv_iload hx hb dX12_mostOf_5 (lv_at hl 0 rfl) ?_
  refine lv_aload_n hx hb dX12_mostOf_7 rfl (lv_at hl 2 rfl) ?_
  refine m_geti hx hb hts hown hW (81) 62 rfl rfl cw_12 rfl (by decide) k_X12_395 dX12_mostOf_8 ?_
  refine lv_topi (fun x1 ex1 => ?_)
  have ex1 : x1 = 0 := by rw [ex1]; exact h0
  subst ex1
  refine lv_icmp_ge (tgt := 95) hx hb dX12_mostOf_11 (by decide) (fun _ => ?_) (fun c => False.elim (by revert c; decide))
  refine lv_iconst (v := 1) hx hb dX12_mostOf_95 (by decide) ?_
  refine lv_istore (lv' := [(4, .int 1), (3, .int 0), (0, .ref (b + 81)), (1, .int k), (2, .int u)]) hx hb dX12_mostOf_96 hl (by decide) rfl (fun ls hl => ?_)
  refine L_most1 hx hb hml hown hts μ hz k u hk hu (fun μ2 hμ2 H locs  hW ls hl => ?_) _ 1 (by decide) (by decide : (42 : Int) ≤ (1 : Int32).toInt + (41 : Nat)) μ rfl _ _ hW ls (lv_sub hl [2, 3, 4, 1, 0] rfl)
  refine lv_iconst (v := 1) hx hb dX12_mostOf_150 (by decide) ?_
  refine lv_istore (lv' := [(4, .int 1), (0, .ref (b + 81)), (1, .int k), (2, .int u), (3, .int 0)]) hx hb dX12_mostOf_151 hl (by decide) rfl (fun ls hl => ?_)
  refine L_most2 hx hb hml hown hts μ hz k u hk hu (fun μ3 hμ3 H locs  hW ls hl => ?_) _ 1 (by decide) (by decide : (42 : Int) ≤ (1 : Int32).toInt + (41 : Nat)) μ2 hμ2 _ _ hW ls (lv_sub hl [1, 2, 3, 4, 0] rfl)
  refine lv_iload_n hx hb dX12_mostOf_205 rfl (lv_at hl 3 rfl) ?_
  exact m_iret hx hb hr hlocks hW rfl (⟨by subst_vars; rfl, rfl⟩) dX12_mostOf_206
set_option maxHeartbeats 4000000 in
set_option maxRecDepth 100000 in
theorem L_mfi {p : Program} {l : Launch} {e : Env} {s : State} {m : MethodId} {args : Array Value} {below : List Frame} {meth : Method} {c : Code} {Q : State → Prop} {D : va_G} {cy : Nat → ClassId} {b : Nat} {A : Nat → Prop} (hx : p.tables.exec = Jvm.exec) (hb : c.code = cX12_fill) (hml : c.maxLocals = 5) (hown : s.vm.findClass RX12 = some m.cls) (hts : ∀ w ∈ TB, w.before args s = true) (k u y3 : Int32) (hk : 1 ≤ k.toInt ∧ k.toInt ≤ 40) (hu : 1 ≤ u.toInt ∧ u.toInt ≤ 40) (h3 : 1 ≤ y3.toInt ∧ y3.toInt ≤ 40) (K : ∀ (μ : mM) (hz : ∀ j, μ.1 123 j = 0) (h0 : μ.1 81 62 = 0) (H : Heap) (locs : List Loc), m_WA A D cy s b LAY μ H locs → ∀ ls : Array Slot, lv_has ls 5 [(0, .ref (b + 81)), (1, .int k), (2, .int u), (3, .int y3)] → W p l e (m_R 1 0 0) s m args below meth c H locs 0 0 Q (F0 m 80 ls [])) : ∀ (f : Nat) (y4 : Int32) (h4 : 1 ≤ y4.toInt ∧ y4.toInt ≤ 41) (hf : 42 ≤ y4.toInt + f) (μ : mM) (hz : ∀ j, μ.1 123 j = 0) (h0 : μ.1 81 62 = 0) (H : Heap) (locs : List Loc), m_WA A D cy s b LAY μ H locs → ∀ ls : Array Slot, lv_has ls 5 [(0, .ref (b + 81)), (1, .int k), (2, .int u), (3, .int y3), (4, .int y4)] → W p l e (m_R 1 0 0) s m args below meth c H locs 0 0 Q (F0 m 49 ls []) := by
  intro f
  induction f with
  | zero => intro y4 h4 hf; exfalso; omega
  | succ f ih =>
    intro y4 h4 hf μ hz h0 H locs hW ls hl
    refine lv_iload hx hb dX12_fill_49 (lv_at hl 4 rfl) ?_
    refine lv_iload_n hx hb dX12_fill_51 rfl (lv_at hl 2 rfl) ?_
    refine lv_icmp_gt (tgt := 80) hx hb dX12_fill_52 (by decide) (fun c1 => ?_) (fun c1 => ?_)
    · exact K μ hz (h0) _ _  hW ls (lv_sub hl [0, 1, 2, 3] rfl)
    · have cc := m_nlt (Y := u.toInt) rfl c1
      refine lv_aload_n hx hb dX12_fill_55 rfl (lv_at hl 0 rfl) ?_
      refine m_getr hx hb hts hown hW (81) 66 (123) rfl rfl cw_12 rfl (by decide) k_X12_149 dX12_fill_56 ?_
      refine lv_bipush (v := 41) hx hb dX12_fill_59 (by decide) ?_
      refine lv_iload_n hx hb dX12_fill_61 rfl (lv_at hl 3 rfl) ?_
      refine lv_imul hx hb dX12_fill_62 ?_
      refine lv_topi (fun x2 ex2 => ?_)
      have tx2 : x2.toInt = 41 * y3.toInt := m_mulI ex2 (by decide) rfl (by omega) (by omega)
      refine lv_iload hx hb dX12_fill_63 (lv_at hl 4 rfl) ?_
      refine lv_iadd hx hb dX12_fill_65 ?_
      refine lv_topi (fun x3 ex3 => ?_)
      have tx3 : x3.toInt = (41 * y3.toInt) + y4.toInt := m_addI ex3 tx2 rfl (by omega) (by omega)
      refine lv_aload_n hx hb dX12_fill_66 rfl (lv_at hl 0 rfl) ?_
      refine lv_iload_n hx hb dX12_fill_67 rfl (lv_at hl 3 rfl) ?_
      refine lv_iload hx hb dX12_fill_68 (lv_at hl 4 rfl) ?_
      refine m_aI hW (m_runV (As := [.int y3, .int y4]) (rest := [.int x3, .ref (b + 123)]) hx hb hml hown hts hW (81) (c_X12_mostOf l D cy b μ hz (h0) y3 y4 h3 (by omega)) mi_X12_mostOf k_X12_398 rfl rfl rfl hl.1 rfl (Nat.le_of_ble_eq_true rfl) dX12_fill_70 ⟨Nat.le_of_ble_eq_true rfl, Nat.le_of_ble_eq_true rfl⟩ ⟨Nat.le_of_ble_eq_true rfl, Nat.le_of_ble_eq_true rfl⟩) (fun x4 μ4 H locs q4 hW => ?_)
      obtain ⟨q4_m, q4⟩ := q4
      subst q4_m
      subst q4
      refine m_iast hx hb hW (123) rfl (m_ixI tx3 (by omega) (by omega)) dX12_fill_73 (fun H locs hW _ => ?_)
      generalize hμ5 : m_si μ (123) (x3 : Int32).toNatClampNeg 0 = μ5 at hW
      obtain ⟨x6, ex6⟩ : ∃ z : Int32, z = y4 + 1 := ⟨_, rfl⟩
      refine lv_iinc (v := x6) (lv' := [(4, .int x6), (0, .ref (b + 81)), (1, .int k), (2, .int u), (3, .int y3)]) hx hb dX12_fill_74 hl (k := 4) rfl (by rw [ex6]; rfl) (by decide) rfl (fun ls hl => ?_)
      refine lv_goto (tgt := 49) hx hb dX12_fill_77 (by decide) ?_
      exact ih x6 (by have := m_addI ex6 rfl (Y := 1) (by decide) (by omega) (by omega); omega) (by have := m_addI ex6 rfl (Y := 1) (by decide) (by omega) (by omega); omega) μ5 (m_si0 hμ5 hz) (by rw [← hμ5]; exact h0) _ _ hW ls (lv_sub hl [1, 2, 3, 4, 0] rfl)
set_option maxHeartbeats 4000000 in
set_option maxRecDepth 100000 in
theorem L_mfo {p : Program} {l : Launch} {e : Env} {s : State} {m : MethodId} {args : Array Value} {below : List Frame} {meth : Method} {c : Code} {Q : State → Prop} {D : va_G} {cy : Nat → ClassId} {b : Nat} {A : Nat → Prop} (hx : p.tables.exec = Jvm.exec) (hb : c.code = cX12_fill) (hml : c.maxLocals = 5) (hown : s.vm.findClass RX12 = some m.cls) (hts : ∀ w ∈ TB, w.before args s = true) (k u : Int32) (hk : 1 ≤ k.toInt ∧ k.toInt ≤ 40) (hu : 1 ≤ u.toInt ∧ u.toInt ≤ 40) (K : ∀ (μ : mM) (hz : ∀ j, μ.1 123 j = 0) (h0 : μ.1 81 62 = 0) (H : Heap) (locs : List Loc), m_WA A D cy s b LAY μ H locs → ∀ ls : Array Slot, lv_has ls 5 [(0, .ref (b + 81)), (1, .int k), (2, .int u)] → W p l e (m_R 1 0 0) s m args below meth c H locs 0 0 Q (F0 m 86 ls [])) : ∀ (f : Nat) (y3 : Int32) (h3 : 1 ≤ y3.toInt ∧ y3.toInt ≤ 41) (hf : 42 ≤ y3.toInt + f) (μ : mM) (hz : ∀ j, μ.1 123 j = 0) (h0 : μ.1 81 62 = 0) (H : Heap) (locs : List Loc), m_WA A D cy s b LAY μ H locs → ∀ ls : Array Slot, lv_has ls 5 [(0, .ref (b + 81)), (1, .int k), (2, .int u), (3, .int y3)] → W p l e (m_R 1 0 0) s m args below meth c H locs 0 0 Q (F0 m 41 ls []) := by
  intro f
  induction f with
  | zero => intro y3 h3 hf; exfalso; omega
  | succ f ih =>
    intro y3 h3 hf μ hz h0 H locs hW ls hl
    refine lv_iload_n hx hb dX12_fill_41 rfl (lv_at hl 3 rfl) ?_
    refine lv_iload_n hx hb dX12_fill_42 rfl (lv_at hl 1 rfl) ?_
    refine lv_icmp_gt (tgt := 86) hx hb dX12_fill_43 (by decide) (fun c1 => ?_) (fun c1 => ?_)
    · exact K μ hz (h0) _ _  hW ls (lv_sub hl [0, 1, 2] rfl)
    · have cc := m_nlt (Y := k.toInt) rfl c1
      refine lv_iconst (v := 1) hx hb dX12_fill_46 (by decide) ?_
      refine lv_istore (lv' := [(4, .int 1), (0, .ref (b + 81)), (1, .int k), (2, .int u), (3, .int y3)]) hx hb dX12_fill_47 hl (by decide) rfl (fun ls hl => ?_)
      refine L_mfi hx hb hml hown hts k u y3 hk hu (by omega) (fun μ2 hz2 h02 H locs hW ls hl => ?_) _ 1 (by decide) (by decide : (42 : Int) ≤ (1 : Int32).toInt + (41 : Nat)) μ hz (h0) _ _ hW ls (lv_sub hl [1, 2, 3, 4, 0] rfl)
      obtain ⟨x3, ex3⟩ : ∃ z : Int32, z = y3 + 1 := ⟨_, rfl⟩
      refine lv_iinc (v := x3) (lv' := [(3, .int x3), (0, .ref (b + 81)), (1, .int k), (2, .int u)]) hx hb dX12_fill_80 hl (k := 3) rfl (by rw [ex3]; rfl) (by decide) rfl (fun ls hl => ?_)
      refine lv_goto (tgt := 41) hx hb dX12_fill_83 (by decide) ?_
      exact ih x3 (by have := m_addI ex3 rfl (Y := 1) (by decide) (by omega) (by omega); omega) (by have := m_addI ex3 rfl (Y := 1) (by decide) (by omega) (by omega); omega) μ2 hz2 (h02) _ _ hW ls (lv_sub hl [1, 2, 3, 0] rfl)
set_option maxHeartbeats 4000000 in
set_option maxRecDepth 100000 in
theorem c_X12_fill (l : Launch) (D : va_G) (cy : Nat → ClassId) (b : Nat) (μ : mM) (hz : ∀ j, μ.1 123 j = 0) (h0 : μ.1 81 62 = 0) (k u : Int32) : m_Ci l yX12_fill cX12_fill 5 ((some .int)) 1 D cy b LAY μ [.ref (b + 81), .int k, .int u] (fun r ν => r = Ffill k u) := by
  unfold m_Ci
  refine m_of (by decide) (Nat.le_of_ble_eq_true rfl) ?_
  intro p e s m below meth c hx hb hr hml hown hts hlocks _ hW ls hl
  have hown : s.vm.findClass RX12 = some m.cls := hown
  have hl : lv_has ls 5 [(0, .ref (b + 81)), (1, .int k), (2, .int u)] := hl
  refine lv_aload_n hx hb dX12_fill_0 rfl (lv_at hl 0 rfl) ?_
  refine lv_iconst (v := 0) hx hb dX12_fill_1 (by decide) ?_
  refine m_puti hx hb hts hown hW (81) 0 rfl rfl cw_12 tyX12_ok nmX12 rfl (by decide) k_X12_167 rfl rfl rfl dX12_fill_2 (fun H locs hW _ => ?_)
  generalize hμ1 : m_si μ (81) 0 0 = μ1 at hW
  refine lv_aload_n hx hb dX12_fill_5 rfl (lv_at hl 0 rfl) ?_
  refine lv_iload_n hx hb dX12_fill_6 rfl (lv_at hl 1 rfl) ?_
  refine lv_iconst (v := 0) hx hb dX12_fill_7 (by decide) ?_
  refine lv_bipush (v := 40) hx hb dX12_fill_8 (by decide) ?_
  refine m_aI hW (m_runV (As := [.int k, .int 0, .int 40]) (rest := []) hx hb hml hown hts hW (81) (c_X12_isIn l D cy b μ1 81 k 0 40 0 40 (by decide) (by decide)) mi_X12_isIn k_X12_170 rfl rfl rfl hl.1 rfl (Nat.le_of_ble_eq_true rfl) dX12_fill_10 ⟨Nat.le_of_ble_eq_true rfl, Nat.le_of_ble_eq_true rfl⟩ ⟨Nat.le_of_ble_eq_true rfl, Nat.le_of_ble_eq_true rfl⟩) (fun x2 μ2 H locs q2 hW => ?_)
  obtain ⟨q2_m, q2⟩ := q2
  subst q2_m
  rcases q2 with ⟨rfl, q2⟩ | ⟨rfl, q2⟩
  · refine lv_if_eq (tgt := 27) hx hb dX12_fill_13 (by decide) (fun c => False.elim (by revert c; decide)) (fun _ => ?_)
    refine lv_aload_n hx hb dX12_fill_16 rfl (lv_at hl 0 rfl) ?_
    refine lv_iload_n hx hb dX12_fill_17 rfl (lv_at hl 2 rfl) ?_
    refine lv_iconst (v := 0) hx hb dX12_fill_18 (by decide) ?_
    refine lv_bipush (v := 40) hx hb dX12_fill_19 (by decide) ?_
    refine m_aI hW (m_runV (As := [.int u, .int 0, .int 40]) (rest := []) hx hb hml hown hts hW (81) (c_X12_isIn l D cy b μ1 81 u 0 40 0 40 (by decide) (by decide)) mi_X12_isIn k_X12_170 rfl rfl rfl hl.1 rfl (Nat.le_of_ble_eq_true rfl) dX12_fill_21 ⟨Nat.le_of_ble_eq_true rfl, Nat.le_of_ble_eq_true rfl⟩ ⟨Nat.le_of_ble_eq_true rfl, Nat.le_of_ble_eq_true rfl⟩) (fun x3 μ3 H locs q3 hW => ?_)
    obtain ⟨q3_m, q3⟩ := q3
    subst q3_m
    rcases q3 with ⟨rfl, q3⟩ | ⟨rfl, q3⟩
    · refine lv_if_ne (tgt := 29) hx hb dX12_fill_24 (by decide) (fun _ => ?_) (fun c => False.elim (by revert c; decide))
      refine lv_iload_n hx hb dX12_fill_29 rfl (lv_at hl 1 rfl) ?_
      refine lv_if_eq (tgt := 37) hx hb dX12_fill_30 (by decide) (fun c4 => ?_) (fun c4 => ?_)
      · refine lv_iconst (v := 0) hx hb dX12_fill_37 (by decide) ?_
        exact m_iret hx hb hr hlocks hW rfl ((if_pos (by omega)).symm) dX12_fill_38
      · refine lv_iload_n hx hb dX12_fill_33 rfl (lv_at hl 2 rfl) ?_
        refine lv_if_ne (tgt := 39) hx hb dX12_fill_34 (by decide) (fun c5 => ?_) (fun c5 => ?_)
        · refine lv_iconst (v := 1) hx hb dX12_fill_39 (by decide) ?_
          refine lv_istore_n (lv' := [(3, .int 1), (0, .ref (b + 81)), (1, .int k), (2, .int u)]) hx hb dX12_fill_40 rfl hl (by decide) rfl (fun ls hl => ?_)
          refine L_mfo hx hb hml hown hts k u (m_pos c4 (by omega)) (m_pos2 c5 (by omega)) (fun μ6 hz6 h06 H locs hW ls hl => ?_) _ 1 (by decide) (by decide : (42 : Int) ≤ (1 : Int32).toInt + (41 : Nat)) μ1 (m_si1 hμ1 (by decide) hz) (by rw [← hμ1]; exact h0) _ _ hW ls (lv_sub hl [1, 2, 3, 0] rfl)
          refine lv_aload_n hx hb dX12_fill_86 rfl (lv_at hl 0 rfl) ?_
          refine m_getr hx hb hts hown hW (81) 66 (123) rfl rfl cw_12 rfl (by decide) k_X12_149 dX12_fill_87 ?_
          refine lv_bipush (v := 41) hx hb dX12_fill_90 (by decide) ?_
          refine lv_iload_n hx hb dX12_fill_92 rfl (lv_at hl 1 rfl) ?_
          refine lv_imul hx hb dX12_fill_93 ?_
          refine lv_topi (fun x7 ex7 => ?_)
          have tx7 : x7.toInt = 41 * k.toInt := m_mulI ex7 (by decide) rfl (by omega) (by omega)
          refine lv_iload_n hx hb dX12_fill_94 rfl (lv_at hl 2 rfl) ?_
          refine lv_iadd hx hb dX12_fill_95 ?_
          refine lv_topi (fun x8 ex8 => ?_)
          have tx8 : x8.toInt = (41 * k.toInt) + u.toInt := m_addI ex8 tx7 rfl (by omega) (by omega)
          refine m_iald hx hb hW (123) rfl (m_ixI tx8 (by omega) (by omega)) dX12_fill_96 ?_
          refine lv_topi (fun x9 ex9 => ?_)
          have ex9 : x9 = 0 := by rw [ex9]; exact hz6 _
          subst ex9
          exact m_iret hx hb hr hlocks hW rfl ((if_pos (by omega)).symm) dX12_fill_97
        · refine lv_iconst (v := 0) hx hb dX12_fill_37 (by decide) ?_
          exact m_iret hx hb hr hlocks hW rfl ((if_pos (by omega)).symm) dX12_fill_38
    · refine lv_if_ne (tgt := 29) hx hb dX12_fill_24 (by decide) (fun c => False.elim (by revert c; decide)) (fun _ => ?_)
      refine lv_iconst (v := (-1)) hx hb dX12_fill_27 (by decide) ?_
      exact m_iret hx hb hr hlocks hW rfl ((if_neg (by omega)).symm) dX12_fill_28
  · refine lv_if_eq (tgt := 27) hx hb dX12_fill_13 (by decide) (fun _ => ?_) (fun c => False.elim (by revert c; decide))
    refine lv_iconst (v := (-1)) hx hb dX12_fill_27 (by decide) ?_
    exact m_iret hx hb hr hlocks hW rfl ((if_neg (by omega)).symm) dX12_fill_28
set_option maxHeartbeats 4000000 in
set_option maxRecDepth 100000 in
theorem c_X12_test (l : Launch) (D : va_G) (cy : Nat → ClassId) (b : Nat) (μ : mM) (h0 : μ.1 81 67 = 0) (k u g w : Int32) (hg : g = 0 ∨ g = 1) : m_Ci l yX12_test cX12_test 5 ((some .boolean)) 1 D cy b LAY μ [.ref (b + 81), .int k, .int u, .int g, .int w] (fun r ν => r = Ftest k u w) := by
  unfold m_Ci
  refine m_of (by decide) (Nat.le_of_ble_eq_true rfl) ?_
  intro p e s m below meth c hx hb hr hml hown hts hlocks _ hW ls hl
  have hown : s.vm.findClass RX12 = some m.cls := hown
  have hl : lv_has ls 5 [(0, .ref (b + 81)), (1, .int k), (2, .int u), (3, .int g), (4, .int w)] := hl
  refine lv_aload_n hx hb dX12_test_0 rfl (lv_at hl 0 rfl) ?_
  refine lv_iconst (v := 0) hx hb dX12_test_1 (by decide) ?_
  refine m_puti hx hb hts hown hW (81) 0 rfl rfl cw_12 tyX12_ok nmX12 rfl (by decide) k_X12_167 rfl rfl rfl dX12_test_2 (fun H locs hW _ => ?_)
  generalize hμ1 : m_si μ (81) 0 0 = μ1 at hW
  refine lv_aload_n hx hb dX12_test_5 rfl (lv_at hl 0 rfl) ?_
  refine lv_iload_n hx hb dX12_test_6 rfl (lv_at hl 1 rfl) ?_
  refine lv_iconst (v := 0) hx hb dX12_test_7 (by decide) ?_
  refine lv_iconst (v := 3) hx hb dX12_test_8 (by decide) ?_
  refine m_aI hW (m_runV (As := [.int k, .int 0, .int 3]) (rest := []) hx hb hml hown hts hW (81) (c_X12_isIn l D cy b μ1 81 k 0 3 0 3 (by decide) (by decide)) mi_X12_isIn k_X12_170 rfl rfl rfl hl.1 rfl (Nat.le_of_ble_eq_true rfl) dX12_test_9 ⟨Nat.le_of_ble_eq_true rfl, Nat.le_of_ble_eq_true rfl⟩ ⟨Nat.le_of_ble_eq_true rfl, Nat.le_of_ble_eq_true rfl⟩) (fun x2 μ2 H locs q2 hW => ?_)
  obtain ⟨q2_m, q2⟩ := q2
  subst q2_m
  rcases q2 with ⟨rfl, q2⟩ | ⟨rfl, q2⟩
  · refine lv_if_eq (tgt := 71) hx hb dX12_test_12 (by decide) (fun c => False.elim (by revert c; decide)) (fun _ => ?_)
    refine lv_aload_n hx hb dX12_test_15 rfl (lv_at hl 0 rfl) ?_
    refine lv_iload_n hx hb dX12_test_16 rfl (lv_at hl 2 rfl) ?_
    refine lv_iconst (v := 1) hx hb dX12_test_17 (by decide) ?_
    refine lv_sipush (v := 9999) hx hb dX12_test_18 (by decide) ?_
    refine m_aI hW (m_runV (As := [.int u, .int 1, .int 9999]) (rest := []) hx hb hml hown hts hW (81) (c_X12_isIn l D cy b μ1 81 u 1 9999 1 9999 (by decide) (by decide)) mi_X12_isIn k_X12_170 rfl rfl rfl hl.1 rfl (Nat.le_of_ble_eq_true rfl) dX12_test_21 ⟨Nat.le_of_ble_eq_true rfl, Nat.le_of_ble_eq_true rfl⟩ ⟨Nat.le_of_ble_eq_true rfl, Nat.le_of_ble_eq_true rfl⟩) (fun x3 μ3 H locs q3 hW => ?_)
    obtain ⟨q3_m, q3⟩ := q3
    subst q3_m
    rcases q3 with ⟨rfl, q3⟩ | ⟨rfl, q3⟩
    · refine lv_if_eq (tgt := 71) hx hb dX12_test_24 (by decide) (fun c => False.elim (by revert c; decide)) (fun _ => ?_)
      refine lv_aload_n hx hb dX12_test_27 rfl (lv_at hl 0 rfl) ?_
      refine lv_iload hx hb dX12_test_28 (lv_at hl 4 rfl) ?_
      refine lv_aload_n hx hb dX12_test_30 rfl (lv_at hl 0 rfl) ?_
      refine m_geti hx hb hts hown hW (81) 67 rfl rfl cw_12 rfl (by decide) k_X12_401 dX12_test_31 ?_
      refine lv_topi (fun x4 ex4 => ?_)
      have ex4 : x4 = 0 := by rw [ex4, ← hμ1]; exact h0
      subst ex4
      refine lv_if_ne (tgt := 41) hx hb dX12_test_34 (by decide) (fun c => False.elim (by revert c; decide)) (fun _ => ?_)
      refine lv_iconst (v := 0) hx hb dX12_test_37 (by decide) ?_
      refine lv_goto (tgt := 52) hx hb dX12_test_38 (by decide) ?_
      refine lv_sipush (v := 999) hx hb dX12_test_52 (by decide) ?_
      refine m_aI hW (m_runV (As := [.int w, .int 0, .int 999]) (rest := []) hx hb hml hown hts hW (81) (c_X12_isIn l D cy b μ1 81 w 0 999 0 999 (by decide) (by decide)) mi_X12_isIn k_X12_170 rfl rfl rfl hl.1 rfl (Nat.le_of_ble_eq_true rfl) dX12_test_55 ⟨Nat.le_of_ble_eq_true rfl, Nat.le_of_ble_eq_true rfl⟩ ⟨Nat.le_of_ble_eq_true rfl, Nat.le_of_ble_eq_true rfl⟩) (fun x5 μ5 H locs q5 hW => ?_)
      obtain ⟨q5_m, q5⟩ := q5
      subst q5_m
      rcases q5 with ⟨rfl, q5⟩ | ⟨rfl, q5⟩
      · refine lv_if_eq (tgt := 71) hx hb dX12_test_58 (by decide) (fun c => False.elim (by revert c; decide)) (fun _ => ?_)
        refine lv_aload_n hx hb dX12_test_61 rfl (lv_at hl 0 rfl) ?_
        refine m_geti hx hb hts hown hW (81) 67 rfl rfl cw_12 rfl (by decide) k_X12_401 dX12_test_62 ?_
        refine lv_topi (fun x6 ex6 => ?_)
        have ex6 : x6 = 0 := by rw [ex6, ← hμ1]; exact h0
        subst ex6
        refine lv_sipush (v := 200) hx hb dX12_test_65 (by decide) ?_
        refine lv_icmp_ne (tgt := 73) hx hb dX12_test_68 (by decide) (fun _ => ?_) (fun c => False.elim (by revert c; decide))
        refine lv_aload_n hx hb dX12_test_73 rfl (lv_at hl 0 rfl) ?_
        refine m_getr hx hb hts hown hW (81) 68 (124) rfl rfl cw_12 rfl (by decide) k_X12_152 dX12_test_74 ?_
        refine lv_aload_n hx hb dX12_test_77 rfl (lv_at hl 0 rfl) ?_
        refine m_geti hx hb hts hown hW (81) 67 rfl rfl cw_12 rfl (by decide) k_X12_401 dX12_test_78 ?_
        refine lv_topi (fun x7 ex7 => ?_)
        have ex7 : x7 = 0 := by rw [ex7, ← hμ1]; exact h0
        subst ex7
        refine lv_iload_n hx hb dX12_test_81 rfl (lv_at hl 1 rfl) ?_
        refine m_iast hx hb hW (124) rfl (vp_in_iff.mpr ⟨by decide, by decide⟩) dX12_test_82 (fun H locs hW _ => ?_)
        generalize hμ8 : m_si μ1 (124) (0 : Int32).toNatClampNeg k = μ8 at hW
        refine lv_aload_n hx hb dX12_test_83 rfl (lv_at hl 0 rfl) ?_
        refine m_getr hx hb hts hown hW (81) 69 (125) rfl rfl cw_12 rfl (by decide) k_X12_155 dX12_test_84 ?_
        refine lv_aload_n hx hb dX12_test_87 rfl (lv_at hl 0 rfl) ?_
        refine m_geti hx hb hts hown hW (81) 67 rfl rfl cw_12 rfl (by decide) k_X12_401 dX12_test_88 ?_
        refine lv_topi (fun x9 ex9 => ?_)
        have ex9 : x9 = 0 := by rw [ex9, ← hμ8, ← hμ1]; exact h0
        subst ex9
        refine lv_iload_n hx hb dX12_test_91 rfl (lv_at hl 2 rfl) ?_
        refine m_iast hx hb hW (125) rfl (vp_in_iff.mpr ⟨by decide, by decide⟩) dX12_test_92 (fun H locs hW _ => ?_)
        generalize hμ10 : m_si μ8 (125) (0 : Int32).toNatClampNeg u = μ10 at hW
        refine lv_aload_n hx hb dX12_test_93 rfl (lv_at hl 0 rfl) ?_
        refine m_getr hx hb hts hown hW (81) 70 (126) rfl rfl cw_12 rfl (by decide) k_X12_158 dX12_test_94 ?_
        refine lv_aload_n hx hb dX12_test_97 rfl (lv_at hl 0 rfl) ?_
        refine m_geti hx hb hts hown hW (81) 67 rfl rfl cw_12 rfl (by decide) k_X12_401 dX12_test_98 ?_
        refine lv_topi (fun x11 ex11 => ?_)
        have ex11 : x11 = 0 := by rw [ex11, ← hμ10, ← hμ8, ← hμ1]; exact h0
        subst ex11
        refine lv_iload_n hx hb dX12_test_101 rfl (lv_at hl 3 rfl) ?_
        refine m_zast hx hb hW (126) rfl (vp_in_iff.mpr ⟨by decide, by decide⟩) (m_nb hg) dX12_test_102 (fun H locs hW _ => ?_)
        generalize hμ12 : m_si μ10 (126) (0 : Int32).toNatClampNeg g = μ12 at hW
        refine lv_aload_n hx hb dX12_test_103 rfl (lv_at hl 0 rfl) ?_
        refine m_getr hx hb hts hown hW (81) 71 (127) rfl rfl cw_12 rfl (by decide) k_X12_161 dX12_test_104 ?_
        refine lv_aload_n hx hb dX12_test_107 rfl (lv_at hl 0 rfl) ?_
        refine m_geti hx hb hts hown hW (81) 67 rfl rfl cw_12 rfl (by decide) k_X12_401 dX12_test_108 ?_
        refine lv_topi (fun x13 ex13 => ?_)
        have ex13 : x13 = 0 := by rw [ex13, ← hμ12, ← hμ10, ← hμ8, ← hμ1]; exact h0
        subst ex13
        refine lv_iload hx hb dX12_test_111 (lv_at hl 4 rfl) ?_
        refine m_iast hx hb hW (127) rfl (vp_in_iff.mpr ⟨by decide, by decide⟩) dX12_test_113 (fun H locs hW _ => ?_)
        generalize hμ14 : m_si μ12 (127) (0 : Int32).toNatClampNeg w = μ14 at hW
        refine lv_aload_n hx hb dX12_test_114 rfl (lv_at hl 0 rfl) ?_
        refine lv_aload_n hx hb dX12_test_115 rfl (lv_at hl 0 rfl) ?_
        refine m_geti hx hb hts hown hW (81) 67 rfl rfl cw_12 rfl (by decide) k_X12_401 dX12_test_116 ?_
        refine lv_topi (fun x15 ex15 => ?_)
        have ex15 : x15 = 0 := by rw [ex15, ← hμ14, ← hμ12, ← hμ10, ← hμ8, ← hμ1]; exact h0
        subst ex15
        refine lv_iconst (v := 1) hx hb dX12_test_119 (by decide) ?_
        refine lv_iadd hx hb dX12_test_120 ?_
        refine lv_topi (fun x16 ex16 => ?_)
        have ex16 : x16 = 1 := by rw [ex16]; decide
        subst ex16
        refine m_puti hx hb hts hown hW (81) 67 rfl rfl cw_12 tyX12_ok nmX12 rfl (by decide) k_X12_401 rfl rfl rfl dX12_test_121 (fun H locs hW _ => ?_)
        generalize hμ17 : m_si μ14 (81) 67 1 = μ17 at hW
        refine lv_iconst (v := 1) hx hb dX12_test_124 (by decide) ?_
        exact m_iret hx hb hr hlocks hW (by decide) ((if_pos (by omega)).symm) dX12_test_125
      · refine lv_if_eq (tgt := 71) hx hb dX12_test_58 (by decide) (fun _ => ?_) (fun c => False.elim (by revert c; decide))
        refine lv_iconst (v := 0) hx hb dX12_test_71 (by decide) ?_
        exact m_iret hx hb hr hlocks hW (by decide) ((if_neg (by omega)).symm) dX12_test_72
    · refine lv_if_eq (tgt := 71) hx hb dX12_test_24 (by decide) (fun _ => ?_) (fun c => False.elim (by revert c; decide))
      refine lv_iconst (v := 0) hx hb dX12_test_71 (by decide) ?_
      exact m_iret hx hb hr hlocks hW (by decide) ((if_neg (by omega)).symm) dX12_test_72
  · refine lv_if_eq (tgt := 71) hx hb dX12_test_12 (by decide) (fun _ => ?_) (fun c => False.elim (by revert c; decide))
    refine lv_iconst (v := 0) hx hb dX12_test_71 (by decide) ?_
    exact m_iret hx hb hr hlocks hW (by decide) ((if_neg (by omega)).symm) dX12_test_72
set_option maxHeartbeats 4000000 in
set_option maxRecDepth 100000 in
theorem c_X12_known (l : Launch) (D : va_G) (cy : Nat → ClassId) (b : Nat) (μ : mM) (h0 : μ.1 81 67 = 0) (k u v : Int32) : m_Ci l yX12_known cX12_known 7 ((some .int)) 1 D cy b LAY μ [.ref (b + 81), .int k, .int u, .int v] (fun r ν => r = Fknown k u v) := by
  unfold m_Ci
  refine m_of (by decide) (Nat.le_of_ble_eq_true rfl) ?_
  intro p e s m below meth c hx hb hr hml hown hts hlocks _ hW ls hl
  have hown : s.vm.findClass RX12 = some m.cls := hown
  have hl : lv_has ls 7 [(0, .ref (b + 81)), (1, .int k), (2, .int u), (3, .int v)] := hl
  refine lv_aload_n hx hb dX12_known_0 rfl (lv_at hl 0 rfl) ?_
  refine lv_iconst (v := 0) hx hb dX12_known_1 (by decide) ?_
  refine m_puti hx hb hts hown hW (81) 0 rfl rfl cw_12 tyX12_ok nmX12 rfl (by decide) k_X12_167 rfl rfl rfl dX12_known_2 (fun H locs hW _ => ?_)
  generalize hμ1 : m_si μ (81) 0 0 = μ1 at hW
  refine lv_aload_n hx hb dX12_known_5 rfl (lv_at hl 0 rfl) ?_
  refine lv_iload_n hx hb dX12_known_6 rfl (lv_at hl 1 rfl) ?_
  refine lv_iconst (v := 0) hx hb dX12_known_7 (by decide) ?_
  refine lv_iconst (v := 3) hx hb dX12_known_8 (by decide) ?_
  refine m_aI hW (m_runV (As := [.int k, .int 0, .int 3]) (rest := []) hx hb hml hown hts hW (81) (c_X12_isIn l D cy b μ1 81 k 0 3 0 3 (by decide) (by decide)) mi_X12_isIn k_X12_170 rfl rfl rfl hl.1 rfl (Nat.le_of_ble_eq_true rfl) dX12_known_9 ⟨Nat.le_of_ble_eq_true rfl, Nat.le_of_ble_eq_true rfl⟩ ⟨Nat.le_of_ble_eq_true rfl, Nat.le_of_ble_eq_true rfl⟩) (fun x2 μ2 H locs q2 hW => ?_)
  obtain ⟨q2_m, q2⟩ := q2
  subst q2_m
  rcases q2 with ⟨rfl, q2⟩ | ⟨rfl, q2⟩
  · refine lv_if_eq (tgt := 37) hx hb dX12_known_12 (by decide) (fun c => False.elim (by revert c; decide)) (fun _ => ?_)
    refine lv_aload_n hx hb dX12_known_15 rfl (lv_at hl 0 rfl) ?_
    refine lv_iload_n hx hb dX12_known_16 rfl (lv_at hl 2 rfl) ?_
    refine lv_iconst (v := 0) hx hb dX12_known_17 (by decide) ?_
    refine lv_sipush (v := 999) hx hb dX12_known_18 (by decide) ?_
    refine m_aI hW (m_runV (As := [.int u, .int 0, .int 999]) (rest := []) hx hb hml hown hts hW (81) (c_X12_isIn l D cy b μ1 81 u 0 999 0 999 (by decide) (by decide)) mi_X12_isIn k_X12_170 rfl rfl rfl hl.1 rfl (Nat.le_of_ble_eq_true rfl) dX12_known_21 ⟨Nat.le_of_ble_eq_true rfl, Nat.le_of_ble_eq_true rfl⟩ ⟨Nat.le_of_ble_eq_true rfl, Nat.le_of_ble_eq_true rfl⟩) (fun x3 μ3 H locs q3 hW => ?_)
    obtain ⟨q3_m, q3⟩ := q3
    subst q3_m
    rcases q3 with ⟨rfl, q3⟩ | ⟨rfl, q3⟩
    · refine lv_if_eq (tgt := 37) hx hb dX12_known_24 (by decide) (fun c => False.elim (by revert c; decide)) (fun _ => ?_)
      refine lv_aload_n hx hb dX12_known_27 rfl (lv_at hl 0 rfl) ?_
      refine lv_iload_n hx hb dX12_known_28 rfl (lv_at hl 3 rfl) ?_
      refine lv_iconst (v := 0) hx hb dX12_known_29 (by decide) ?_
      refine lv_iconst (v := 3) hx hb dX12_known_30 (by decide) ?_
      refine m_aI hW (m_runV (As := [.int v, .int 0, .int 3]) (rest := []) hx hb hml hown hts hW (81) (c_X12_isIn l D cy b μ1 81 v 0 3 0 3 (by decide) (by decide)) mi_X12_isIn k_X12_170 rfl rfl rfl hl.1 rfl (Nat.le_of_ble_eq_true rfl) dX12_known_31 ⟨Nat.le_of_ble_eq_true rfl, Nat.le_of_ble_eq_true rfl⟩ ⟨Nat.le_of_ble_eq_true rfl, Nat.le_of_ble_eq_true rfl⟩) (fun x4 μ4 H locs q4 hW => ?_)
      obtain ⟨q4_m, q4⟩ := q4
      subst q4_m
      rcases q4 with ⟨rfl, q4⟩ | ⟨rfl, q4⟩
      · refine lv_if_ne (tgt := 39) hx hb dX12_known_34 (by decide) (fun _ => ?_) (fun c => False.elim (by revert c; decide))
        refine lv_iconst (v := 1) hx hb dX12_known_39 (by decide) ?_
        refine lv_istore (lv' := [(4, .int 1), (0, .ref (b + 81)), (1, .int k), (2, .int u), (3, .int v)]) hx hb dX12_known_40 hl (by decide) rfl (fun ls hl => ?_)
        refine lv_sipush (v := 999) hx hb dX12_known_42 (by decide) ?_
        refine lv_istore (lv' := [(5, .int 999), (4, .int 1), (0, .ref (b + 81)), (1, .int k), (2, .int u), (3, .int v)]) hx hb dX12_known_45 hl (by decide) rfl (fun ls hl => ?_)
        refine lv_iconst (v := 0) hx hb dX12_known_47 (by decide) ?_
        refine lv_istore (lv' := [(6, .int 0), (5, .int 999), (4, .int 1), (0, .ref (b + 81)), (1, .int k), (2, .int u), (3, .int v)]) hx hb dX12_known_48 hl (by decide) rfl (fun ls hl => ?_)
        refine lv_iload hx hb dX12_known_50 (lv_at hl 0 rfl) ?_
        refine lv_aload_n hx hb dX12_known_52 rfl (lv_at hl 3 rfl) ?_
        refine m_geti hx hb hts hown hW (81) 67 rfl rfl cw_12 rfl (by decide) k_X12_401 dX12_known_53 ?_
        refine lv_topi (fun x5 ex5 => ?_)
        have ex5 : x5 = 0 := by rw [ex5, ← hμ1]; exact h0
        subst ex5
        refine lv_icmp_ge (tgt := 154) hx hb dX12_known_56 (by decide) (fun _ => ?_) (fun c => False.elim (by revert c; decide))
        refine lv_iload_n hx hb dX12_known_154 rfl (lv_at hl 6 rfl) ?_
        refine lv_if_ne (tgt := 161) hx hb dX12_known_155 (by decide) (fun c6 => ?_) (fun c6 => ?_)
        · refine lv_iload_n hx hb dX12_known_161 rfl (lv_at hl 6 rfl) ?_
          refine lv_iconst (v := 1) hx hb dX12_known_162 (by decide) ?_
          refine lv_icmp_ne (tgt := 169) hx hb dX12_known_163 (by decide) (fun c7 => ?_) (fun c7 => ?_)
          · refine lv_iload_n hx hb dX12_known_169 rfl (lv_at hl 6 rfl) ?_
            refine lv_iconst (v := 2) hx hb dX12_known_170 (by decide) ?_
            refine lv_icmp_ne (tgt := 187) hx hb dX12_known_171 (by decide) (fun c8 => ?_) (fun c8 => ?_)
            · refine lv_iload hx hb dX12_known_187 (lv_at hl 2 rfl) ?_
              refine lv_iload hx hb dX12_known_189 (lv_at hl 1 rfl) ?_
              refine lv_icmp_ge (tgt := 204) hx hb dX12_known_191 (by decide) (fun c => False.elim (by revert c; decide)) (fun _ => ?_)
              refine lv_iload hx hb dX12_known_194 (lv_at hl 2 rfl) ?_
              refine lv_iload hx hb dX12_known_196 (lv_at hl 1 rfl) ?_
              refine lv_iadd hx hb dX12_known_198 ?_
              refine lv_topi (fun x9 ex9 => ?_)
              have ex9 : x9 = 1000 := by rw [ex9]; decide
              subst ex9
              refine lv_iconst (v := 2) hx hb dX12_known_199 (by decide) ?_
              refine lv_idiv hx hb dX12_known_200 (by decide) ?_
              refine lv_topi (fun x10 ex10 => ?_)
              have ex10 : x10 = 500 := by rw [ex10]; decide
              subst ex10
              refine lv_goto (tgt := 205) hx hb dX12_known_201 (by decide) ?_
              exact m_iret hx hb hr hlocks hW rfl (by simp only [m_eq0, m_eq1, m_eq2, m_eq3] at *; first | exact (if_neg (by omega)).symm | exact ((if_pos (by omega)).trans (if_pos (by omega))).symm | exact ((if_pos (by omega)).trans ((if_neg (by omega)).trans (if_pos (by omega)))).symm | exact ((if_pos (by omega)).trans ((if_neg (by omega)).trans ((if_neg (by omega)).trans (if_pos (by omega))))).symm | exact ((if_pos (by omega)).trans ((if_neg (by omega)).trans ((if_neg (by omega)).trans ((if_neg (by omega)).trans (if_pos (by omega)))))).symm | exact ((if_pos (by omega)).trans ((if_neg (by omega)).trans ((if_neg (by omega)).trans ((if_neg (by omega)).trans (if_neg (by omega)))))).symm) dX12_known_205
            · refine lv_iload hx hb dX12_known_174 (lv_at hl 2 rfl) ?_
              refine lv_iload hx hb dX12_known_176 (lv_at hl 1 rfl) ?_
              refine lv_icmp_le (tgt := 185) hx hb dX12_known_178 (by decide) (fun _ => ?_) (fun c => False.elim (by revert c; decide))
              refine lv_iconst (v := 0) hx hb dX12_known_185 (by decide) ?_
              exact m_iret hx hb hr hlocks hW rfl (by simp only [m_eq0, m_eq1, m_eq2, m_eq3] at *; first | exact (if_neg (by omega)).symm | exact ((if_pos (by omega)).trans (if_pos (by omega))).symm | exact ((if_pos (by omega)).trans ((if_neg (by omega)).trans (if_pos (by omega)))).symm | exact ((if_pos (by omega)).trans ((if_neg (by omega)).trans ((if_neg (by omega)).trans (if_pos (by omega))))).symm | exact ((if_pos (by omega)).trans ((if_neg (by omega)).trans ((if_neg (by omega)).trans ((if_neg (by omega)).trans (if_pos (by omega)))))).symm | exact ((if_pos (by omega)).trans ((if_neg (by omega)).trans ((if_neg (by omega)).trans ((if_neg (by omega)).trans (if_neg (by omega)))))).symm) dX12_known_186
          · refine lv_iload hx hb dX12_known_166 (lv_at hl 1 rfl) ?_
            exact m_iret hx hb hr hlocks hW rfl (by simp only [m_eq0, m_eq1, m_eq2, m_eq3] at *; first | exact (if_neg (by omega)).symm | exact ((if_pos (by omega)).trans (if_pos (by omega))).symm | exact ((if_pos (by omega)).trans ((if_neg (by omega)).trans (if_pos (by omega)))).symm | exact ((if_pos (by omega)).trans ((if_neg (by omega)).trans ((if_neg (by omega)).trans (if_pos (by omega))))).symm | exact ((if_pos (by omega)).trans ((if_neg (by omega)).trans ((if_neg (by omega)).trans ((if_neg (by omega)).trans (if_pos (by omega)))))).symm | exact ((if_pos (by omega)).trans ((if_neg (by omega)).trans ((if_neg (by omega)).trans ((if_neg (by omega)).trans (if_neg (by omega)))))).symm) dX12_known_168
        · refine lv_iload hx hb dX12_known_158 (lv_at hl 2 rfl) ?_
          exact m_iret hx hb hr hlocks hW rfl (by simp only [m_eq0, m_eq1, m_eq2, m_eq3] at *; first | exact (if_neg (by omega)).symm | exact ((if_pos (by omega)).trans (if_pos (by omega))).symm | exact ((if_pos (by omega)).trans ((if_neg (by omega)).trans (if_pos (by omega)))).symm | exact ((if_pos (by omega)).trans ((if_neg (by omega)).trans ((if_neg (by omega)).trans (if_pos (by omega))))).symm | exact ((if_pos (by omega)).trans ((if_neg (by omega)).trans ((if_neg (by omega)).trans ((if_neg (by omega)).trans (if_pos (by omega)))))).symm | exact ((if_pos (by omega)).trans ((if_neg (by omega)).trans ((if_neg (by omega)).trans ((if_neg (by omega)).trans (if_neg (by omega)))))).symm) dX12_known_160
      · refine lv_if_ne (tgt := 39) hx hb dX12_known_34 (by decide) (fun c => False.elim (by revert c; decide)) (fun _ => ?_)
        refine lv_iconst (v := (-1)) hx hb dX12_known_37 (by decide) ?_
        exact m_iret hx hb hr hlocks hW rfl (by simp only [m_eq0, m_eq1, m_eq2, m_eq3] at *; first | exact (if_neg (by omega)).symm | exact ((if_pos (by omega)).trans (if_pos (by omega))).symm | exact ((if_pos (by omega)).trans ((if_neg (by omega)).trans (if_pos (by omega)))).symm | exact ((if_pos (by omega)).trans ((if_neg (by omega)).trans ((if_neg (by omega)).trans (if_pos (by omega))))).symm | exact ((if_pos (by omega)).trans ((if_neg (by omega)).trans ((if_neg (by omega)).trans ((if_neg (by omega)).trans (if_pos (by omega)))))).symm | exact ((if_pos (by omega)).trans ((if_neg (by omega)).trans ((if_neg (by omega)).trans ((if_neg (by omega)).trans (if_neg (by omega)))))).symm) dX12_known_38
    · refine lv_if_eq (tgt := 37) hx hb dX12_known_24 (by decide) (fun _ => ?_) (fun c => False.elim (by revert c; decide))
      refine lv_iconst (v := (-1)) hx hb dX12_known_37 (by decide) ?_
      exact m_iret hx hb hr hlocks hW rfl (by simp only [m_eq0, m_eq1, m_eq2, m_eq3] at *; first | exact (if_neg (by omega)).symm | exact ((if_pos (by omega)).trans (if_pos (by omega))).symm | exact ((if_pos (by omega)).trans ((if_neg (by omega)).trans (if_pos (by omega)))).symm | exact ((if_pos (by omega)).trans ((if_neg (by omega)).trans ((if_neg (by omega)).trans (if_pos (by omega))))).symm | exact ((if_pos (by omega)).trans ((if_neg (by omega)).trans ((if_neg (by omega)).trans ((if_neg (by omega)).trans (if_pos (by omega)))))).symm | exact ((if_pos (by omega)).trans ((if_neg (by omega)).trans ((if_neg (by omega)).trans ((if_neg (by omega)).trans (if_neg (by omega)))))).symm) dX12_known_38
  · refine lv_if_eq (tgt := 37) hx hb dX12_known_12 (by decide) (fun _ => ?_) (fun c => False.elim (by revert c; decide))
    refine lv_iconst (v := (-1)) hx hb dX12_known_37 (by decide) ?_
    exact m_iret hx hb hr hlocks hW rfl (by simp only [m_eq0, m_eq1, m_eq2, m_eq3] at *; first | exact (if_neg (by omega)).symm | exact ((if_pos (by omega)).trans (if_pos (by omega))).symm | exact ((if_pos (by omega)).trans ((if_neg (by omega)).trans (if_pos (by omega)))).symm | exact ((if_pos (by omega)).trans ((if_neg (by omega)).trans ((if_neg (by omega)).trans (if_pos (by omega))))).symm | exact ((if_pos (by omega)).trans ((if_neg (by omega)).trans ((if_neg (by omega)).trans ((if_neg (by omega)).trans (if_pos (by omega)))))).symm | exact ((if_pos (by omega)).trans ((if_neg (by omega)).trans ((if_neg (by omega)).trans ((if_neg (by omega)).trans (if_neg (by omega)))))).symm) dX12_known_38
set_option maxHeartbeats 4000000 in
set_option maxRecDepth 100000 in
theorem c_X12_sparks (l : Launch) (D : va_G) (cy : Nat → ClassId) (b : Nat) (μ : mM) (h0 : μ.1 81 35 = 0) : m_Ci l yX12_sparks cX12_sparks 2 ((some .int)) 0 D cy b LAY μ [.ref (b + 81)] (fun r ν => r = 0) := by
  unfold m_Ci
  refine m_of (by decide) (Nat.le_of_ble_eq_true rfl) ?_
  intro p e s m below meth c hx hb hr hml hown hts hlocks _ hW ls hl
  have hown : s.vm.findClass RX12 = some m.cls := hown
  have hl : lv_has ls 2 [(0, .ref (b + 81))] := hl
  refine lv_aload_n hx hb dX12_sparks_0 rfl (lv_at hl 0 rfl) ?_
  refine lv_iconst (v := 0) hx hb dX12_sparks_1 (by decide) ?_
  refine m_puti hx hb hts hown hW (81) 0 rfl rfl cw_12 tyX12_ok nmX12 rfl (by decide) k_X12_167 rfl rfl rfl dX12_sparks_2 (fun H locs hW _ => ?_)
  generalize hμ1 : m_si μ (81) 0 0 = μ1 at hW
  refine lv_iconst (v := 0) hx hb dX12_sparks_5 (by decide) ?_
  refine lv_istore_n (lv' := [(1, .int 0), (0, .ref (b + 81))]) hx hb dX12_sparks_6 rfl hl (by decide) rfl (fun ls hl => ?_)
  refine lv_iload_n hx hb dX12_sparks_7 rfl (lv_at hl 0 rfl) ?_
  refine lv_aload_n hx hb dX12_sparks_8 rfl (lv_at hl 1 rfl) ?_
  refine m_geti hx hb hts hown hW (81) 35 rfl rfl cw_12 rfl (by decide) k_X12_239 dX12_sparks_9 ?_
  refine lv_topi (fun x2 ex2 => ?_)
  have ex2 : x2 = 0 := by rw [ex2, ← hμ1]; exact h0
  subst ex2
  refine lv_icmp_ge (tgt := 33) hx hb dX12_sparks_12 (by decide) (fun _ => ?_) (fun c => False.elim (by revert c; decide))
  refine lv_aload_n hx hb dX12_sparks_33 rfl (lv_at hl 1 rfl) ?_
  refine lv_aload_n hx hb dX12_sparks_34 rfl (lv_at hl 1 rfl) ?_
  refine m_geti hx hb hts hown hW (81) 35 rfl rfl cw_12 rfl (by decide) k_X12_239 dX12_sparks_35 ?_
  refine lv_topi (fun x3 ex3 => ?_)
  have ex3 : x3 = 0 := by rw [ex3, ← hμ1]; exact h0
  subst ex3
  refine m_puti hx hb hts hown hW (81) 73 rfl rfl cw_12 tyX12_ok nmX12 rfl (by decide) k_X12_404 rfl rfl rfl dX12_sparks_38 (fun H locs hW _ => ?_)
  generalize hμ4 : m_si μ1 (81) 73 0 = μ4 at hW
  refine lv_aload_n hx hb dX12_sparks_41 rfl (lv_at hl 1 rfl) ?_
  refine lv_iconst (v := 0) hx hb dX12_sparks_42 (by decide) ?_
  refine m_puti hx hb hts hown hW (81) 35 rfl rfl cw_12 tyX12_ok nmX12 rfl (by decide) k_X12_239 rfl rfl rfl dX12_sparks_43 (fun H locs hW _ => ?_)
  generalize hμ5 : m_si μ4 (81) 35 0 = μ5 at hW
  refine lv_aload_n hx hb dX12_sparks_46 rfl (lv_at hl 1 rfl) ?_
  refine m_geti hx hb hts hown hW (81) 73 rfl rfl cw_12 rfl (by decide) k_X12_404 dX12_sparks_47 ?_
  refine lv_topi (fun x6 ex6 => ?_)
  have ex6 : x6 = 0 := by rw [ex6, ← hμ5, ← hμ4]; first | rfl | exact if_pos ⟨rfl, rfl⟩
  subst ex6
  exact m_iret hx hb hr hlocks hW rfl (rfl) dX12_sparks_50
set_option maxHeartbeats 4000000 in
set_option maxRecDepth 100000 in
theorem c_X12_lost (l : Launch) (D : va_G) (cy : Nat → ClassId) (b : Nat) (μ : mM) (h0 : μ.1 81 73 = 0) (k u : Int32) : m_Ci l yX12_lost cX12_lost 5 ((some .int)) 1 D cy b LAY μ [.ref (b + 81), .int k, .int u] (fun r ν => r = -1) := by
  unfold m_Ci
  refine m_of (by decide) (Nat.le_of_ble_eq_true rfl) ?_
  intro p e s m below meth c hx hb hr hml hown hts hlocks _ hW ls hl
  have hown : s.vm.findClass RX12 = some m.cls := hown
  have hl : lv_has ls 5 [(0, .ref (b + 81)), (1, .int k), (2, .int u)] := hl
  refine lv_aload_n hx hb dX12_lost_0 rfl (lv_at hl 0 rfl) ?_
  refine lv_iconst (v := 0) hx hb dX12_lost_1 (by decide) ?_
  refine m_puti hx hb hts hown hW (81) 0 rfl rfl cw_12 tyX12_ok nmX12 rfl (by decide) k_X12_167 rfl rfl rfl dX12_lost_2 (fun H locs hW _ => ?_)
  generalize hμ1 : m_si μ (81) 0 0 = μ1 at hW
  refine lv_aload_n hx hb dX12_lost_5 rfl (lv_at hl 0 rfl) ?_
  refine lv_iload_n hx hb dX12_lost_6 rfl (lv_at hl 1 rfl) ?_
  refine lv_iconst (v := 0) hx hb dX12_lost_7 (by decide) ?_
  refine lv_sipush (v := 256) hx hb dX12_lost_8 (by decide) ?_
  refine m_aI hW (m_runV (As := [.int k, .int 0, .int 256]) (rest := []) hx hb hml hown hts hW (81) (c_X12_isIn l D cy b μ1 81 k 0 256 0 256 (by decide) (by decide)) mi_X12_isIn k_X12_170 rfl rfl rfl hl.1 rfl (Nat.le_of_ble_eq_true rfl) dX12_lost_11 ⟨Nat.le_of_ble_eq_true rfl, Nat.le_of_ble_eq_true rfl⟩ ⟨Nat.le_of_ble_eq_true rfl, Nat.le_of_ble_eq_true rfl⟩) (fun x2 μ2 H locs q2 hW => ?_)
  obtain ⟨q2_m, q2⟩ := q2
  subst q2_m
  rcases q2 with ⟨rfl, q2⟩ | ⟨rfl, q2⟩
  · refine lv_if_eq (tgt := 28) hx hb dX12_lost_14 (by decide) (fun c => False.elim (by revert c; decide)) (fun _ => ?_)
    refine lv_aload_n hx hb dX12_lost_17 rfl (lv_at hl 0 rfl) ?_
    refine lv_iload_n hx hb dX12_lost_18 rfl (lv_at hl 2 rfl) ?_
    refine lv_iconst (v := 1) hx hb dX12_lost_19 (by decide) ?_
    refine lv_bipush (v := 99) hx hb dX12_lost_20 (by decide) ?_
    refine m_aI hW (m_runV (As := [.int u, .int 1, .int 99]) (rest := []) hx hb hml hown hts hW (81) (c_X12_isIn l D cy b μ1 81 u 1 99 1 99 (by decide) (by decide)) mi_X12_isIn k_X12_170 rfl rfl rfl hl.1 rfl (Nat.le_of_ble_eq_true rfl) dX12_lost_22 ⟨Nat.le_of_ble_eq_true rfl, Nat.le_of_ble_eq_true rfl⟩ ⟨Nat.le_of_ble_eq_true rfl, Nat.le_of_ble_eq_true rfl⟩) (fun x3 μ3 H locs q3 hW => ?_)
    obtain ⟨q3_m, q3⟩ := q3
    subst q3_m
    rcases q3 with ⟨rfl, q3⟩ | ⟨rfl, q3⟩
    · refine lv_if_ne (tgt := 30) hx hb dX12_lost_25 (by decide) (fun _ => ?_) (fun c => False.elim (by revert c; decide))
      refine lv_iconst (v := 0) hx hb dX12_lost_30 (by decide) ?_
      refine lv_istore_n (lv' := [(3, .int 0), (0, .ref (b + 81)), (1, .int k), (2, .int u)]) hx hb dX12_lost_31 rfl hl (by decide) rfl (fun ls hl => ?_)
      refine lv_iconst (v := 0) hx hb dX12_lost_32 (by decide) ?_
      refine lv_istore (lv' := [(4, .int 0), (3, .int 0), (0, .ref (b + 81)), (1, .int k), (2, .int u)]) hx hb dX12_lost_33 hl (by decide) rfl (fun ls hl => ?_)
      refine lv_iload hx hb dX12_lost_35 (lv_at hl 0 rfl) ?_
      refine lv_aload_n hx hb dX12_lost_37 rfl (lv_at hl 2 rfl) ?_
      refine m_geti hx hb hts hown hW (81) 73 rfl rfl cw_12 rfl (by decide) k_X12_404 dX12_lost_38 ?_
      refine lv_topi (fun x4 ex4 => ?_)
      have ex4 : x4 = 0 := by rw [ex4, ← hμ1]; exact h0
      subst ex4
      refine lv_icmp_ge (tgt := 81) hx hb dX12_lost_41 (by decide) (fun _ => ?_) (fun c => False.elim (by revert c; decide))
      refine lv_iconst (v := (-1)) hx hb dX12_lost_81 (by decide) ?_
      exact m_iret hx hb hr hlocks hW rfl (rfl) dX12_lost_82
    · refine lv_if_ne (tgt := 30) hx hb dX12_lost_25 (by decide) (fun c => False.elim (by revert c; decide)) (fun _ => ?_)
      refine lv_iconst (v := (-1)) hx hb dX12_lost_28 (by decide) ?_
      exact m_iret hx hb hr hlocks hW rfl (rfl) dX12_lost_29
  · refine lv_if_eq (tgt := 28) hx hb dX12_lost_14 (by decide) (fun _ => ?_) (fun c => False.elim (by revert c; decide))
    refine lv_iconst (v := (-1)) hx hb dX12_lost_28 (by decide) ?_
    exact m_iret hx hb hr hlocks hW rfl (rfl) dX12_lost_29
