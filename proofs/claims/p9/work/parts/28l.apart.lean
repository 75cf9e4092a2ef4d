set_option maxHeartbeats 4000000 in
set_option maxRecDepth 100000 in
theorem L_X8_takeNumber_f_5 {p : Program} {l : Launch} {e : Env} {s : State} {m : MethodId} {args : Array Value} {below : List Frame} {meth : Method} {c : Code} {D : va_G} {cy : Nat → ClassId} {b : Nat} (hx : p.tables.exec = Jvm.exec) (hb : c.code = cX8_takeNumber) (hr : meth.sig.returnType = ((some .int))) (hml : c.maxLocals = 5) (hown : s.vm.findClass RX8 = some m.cls) (hts : ∀ w ∈ TB, w.before args s = true) (hlocks : meth.locks = false) (S : Nat → Bool) (μ0 : mM) (hS11 : S 11 = true) (hS15 : S 15 = true) (hS16 : S 16 = true) (cn : Int32) (h_c : 0 ≤ cn.toInt ∧ cn.toInt ≤ 400) (t : Int32) (h_t : 0 ≤ t.toInt ∧ t.toInt ≤ 400) (fT K0 L0 V0 : Nat → Int32) (k : Int32) (h_k : 0 ≤ k.toInt ∧ k.toInt ≤ 400) (h_kt : k.toInt < t.toInt) : ∀ (f : Nat), ∀ (y3 y4 : Int32) (hy : 0 ≤ y3.toInt ∧ y3.toInt ≤ 400 ∧ k.toInt ≤ y3.toInt ∧ y3.toInt ≤ t.toInt) (hf : 400 - y3.toInt < (f : Int)) (μ : mM) (hI : IY S μ0 μ) (h31 : μ.1 31 1 = cn) (h33 : μ.1 33 1 = cn) (h35 : μ.1 35 1 = cn) (ht : μ.1 23 1 = t) (hfT : μ.1 24 = fT) (hK : μ.1 32 = K0) (hL : μ.1 34 = L0) (hV : μ.1 36 = V0) (hlet : bD (fT k.toNatClampNeg).toInt = true) (hsp : z_E bD fT t.toNatClampNeg y3.toNatClampNeg = z_E bD fT t.toNatClampNeg k.toNatClampNeg) (hnv : y4 = m_nv fT k.toNatClampNeg (y3.toNatClampNeg - k.toNatClampNeg)) (H : Heap) (locs : List Loc), m_WA (m_A b LAY) D cy s b LAY μ H locs → ∀ ls : Array Slot, lv_has ls 5 [(0, .ref (b + 30)), (1, .ref (b + 23)), (2, .int k), (3, .int y3), (4, .int y4)] → W p l e (m_R 2 0 0) s m args below meth c H locs 0 0 (MQ below (m_Qi D cy b LAY (fun r ν => IY S μ0 ν ∧ (r.toInt = (z_E bD fT t.toNatClampNeg k.toNatClampNeg : Nat) ∧ (ν.1 31 1).toInt = cn.toInt + 1 ∧ ν.1 33 1 = ν.1 31 1 ∧ ν.1 35 1 = ν.1 31 1 ∧ ∃ x y z : Int32, ν.1 32 = m_up K0 cn.toNatClampNeg x ∧ ν.1 34 = m_up L0 cn.toNatClampNeg y ∧ ν.1 36 = m_up V0 cn.toNatClampNeg z ∧ ((x.toInt = if z_E bD fT t.toNatClampNeg k.toNatClampNeg - k.toNatClampNeg ≤ 4 then 2 else 0) ∧ y = k ∧ z = m_nv fT k.toNatClampNeg (z_E bD fT t.toNatClampNeg k.toNatClampNeg - k.toNatClampNeg))))) args s 0 0 (m_A b LAY)) (F0 m 5 ls []) := by
  intro f
  induction f with
  | zero => intro y3 y4 hy hf; exfalso; omega
  | succ f ih =>
    intro y3 y4 hy hf μ hI h31 h33 h35 ht hfT hK hL hV hlet hsp hnv H locs hW ls hl
    refine lv_iload_n hx hb dX8_takeNumber_5 rfl (lv_at hl 3 rfl) ?_
    refine lv_aload_n hx hb dX8_takeNumber_6 rfl (lv_at hl 1 rfl) ?_
    refine m_geti hx hb hts hown hW (23) 1 rfl rfl cw_5 rfl (by decide) k_X8_26 dX8_takeNumber_7 ?_
    refine lv_topi (fun x1 ex1 => ?_)
    have ex1 : x1 = t := by rw [ex1]; exact ht
    have ex1 := ex1.symm
    subst ex1
    refine lv_icmp_ge (tgt := 48) hx hb dX8_takeNumber_10 (by decide) (fun c2 => ?_) (fun c2 => ?_)
    · have i2 := m_c3 (rfl : t.toInt = _) (rfl : y3.toInt = _) c2
      have hend : z_E bD fT t.toNatClampNeg k.toNatClampNeg = y3.toNatClampNeg := (by rw [← hsp]; exact z_E0 (fun q => by have q1 := q.1; have q2 := q.2; have := m_ckI (x := y3) (by omega); have := m_ckI (x := t) (by omega); omega))
      have hky : k.toInt < y3.toInt := by omega
      refine lv_aload_n hx hb dX8_takeNumber_48 rfl (lv_at hl 0 rfl) ?_
      refine lv_iload_n hx hb dX8_takeNumber_49 rfl (lv_at hl 3 rfl) ?_
      refine lv_iload_n hx hb dX8_takeNumber_50 rfl (lv_at hl 2 rfl) ?_
      refine lv_isub hx hb dX8_takeNumber_51 ?_
      refine lv_topi (fun x3 ex3 => ?_)
      have tx3 : x3.toInt = y3.toInt - k.toInt := m_subI ex3 (rfl : y3.toInt = _) (rfl : k.toInt = _) (by omega) (by omega)
      refine lv_iconst (v := 4) hx hb dX8_takeNumber_52 (by decide) ?_
      refine lv_icmp_gt (tgt := 60) hx hb dX8_takeNumber_53 (by decide) (fun c4 => ?_) (fun c4 => ?_)
      · have i4 := m_c1 (by decide : (4 : Int32).toInt = 4) (rfl : x3.toInt = _) c4
        refine lv_iconst (v := 0) hx hb dX8_takeNumber_60 (by decide) ?_
        refine lv_iload_n hx hb dX8_takeNumber_61 rfl (lv_at hl 2 rfl) ?_
        refine lv_iload hx hb dX8_takeNumber_62 (lv_at hl 4 rfl) ?_
        have l_0 : (0 : Int32).toInt = 0 := by decide
        refine m_aV hW (m_runV (As := [.int 0, .int k, .int y4]) (rest := []) hx hb hml hown hts hW (30) (g_X8_keep_f l D cy b (fun g => [11, 15, 16].contains g) μ rfl rfl rfl cn (by omega) 0 k y4 μ (IY.rf hI.1) (by exact h31) (by exact h33) (by exact h35)) mi_X8_keep k_X8_55 rfl rfl rfl hl.1 rfl (Nat.le_of_ble_eq_true rfl) dX8_takeNumber_64 ⟨Nat.le_of_ble_eq_true rfl, Nat.le_of_ble_eq_true rfl⟩ ⟨Nat.le_of_ble_eq_true rfl, Nat.le_of_ble_eq_true rfl⟩) (fun μ5 H locs q5 hW => ?_)
        obtain ⟨hJ5, q5⟩ := q5
        have hI := hI.tr hJ5 (m_subL (by simp [hS11, hS15, hS16]))
        obtain ⟨q5, q533, q535, q5K, q5L, q5V⟩ := q5
        obtain ⟨x6, hx6⟩ : ∃ z, μ5.1 31 1 = z := ⟨_, rfl⟩
        have bx6 : 0 ≤ x6.toInt ∧ x6.toInt ≤ 401 := by rw [← hx6]; exact hI.1 _ _ _ _ rfl
        rw [show μ5.1 31 1 = x6 from by exact hx6] at q5
        refine lv_iload_n hx hb dX8_takeNumber_67 rfl (lv_at hl 3 rfl) ?_
        exact m_iret hx hb hr hlocks hW rfl (⟨hI, ⟨(by rw [show (z_E bD fT t.toNatClampNeg k.toNatClampNeg) = y3.toNatClampNeg from hend]; exact (m_ckI (by omega)).symm), by rw [show μ5.1 31 1 = x6 from by exact hx6]; omega, by rw [show μ5.1 33 1 = x6 from by exact (q533.trans (by exact hx6)), show μ5.1 31 1 = x6 from by exact hx6], by rw [show μ5.1 35 1 = x6 from by exact (q535.trans (by exact hx6)), show μ5.1 31 1 = x6 from by exact hx6], 0, k, y4, by rw [show μ5.1 32 = m_up (μ.1 32) cn.toNatClampNeg 0 from q5K, hK], by rw [show μ5.1 34 = m_up (μ.1 34) cn.toNatClampNeg k from q5L, hL], by rw [show μ5.1 36 = m_up (μ.1 36) cn.toNatClampNeg y4 from q5V, hV], (by rw [hend]; have := m_ckI (x := y3) (by omega); have := m_ckI (x := k) (by omega); first | (rw [if_pos (by omega)]; rfl) | (rw [if_neg (by omega)]; rfl)), rfl, (by rw [hend]; exact hnv)⟩⟩) dX8_takeNumber_68
      · have i4 := m_c2 (by decide : (4 : Int32).toInt = 4) (rfl : x3.toInt = _) c4
        refine lv_iconst (v := 2) hx hb dX8_takeNumber_56 (by decide) ?_
        refine lv_goto (tgt := 61) hx hb dX8_takeNumber_57 (by decide) ?_
        refine lv_iload_n hx hb dX8_takeNumber_61 rfl (lv_at hl 2 rfl) ?_
        refine lv_iload hx hb dX8_takeNumber_62 (lv_at hl 4 rfl) ?_
        have l_2 : (2 : Int32).toInt = 2 := by decide
        refine m_aV hW (m_runV (As := [.int 2, .int k, .int y4]) (rest := []) hx hb hml hown hts hW (30) (g_X8_keep_f l D cy b (fun g => [11, 15, 16].contains g) μ rfl rfl rfl cn (by omega) 2 k y4 μ (IY.rf hI.1) (by exact h31) (by exact h33) (by exact h35)) mi_X8_keep k_X8_55 rfl rfl rfl hl.1 rfl (Nat.le_of_ble_eq_true rfl) dX8_takeNumber_64 ⟨Nat.le_of_ble_eq_true rfl, Nat.le_of_ble_eq_true rfl⟩ ⟨Nat.le_of_ble_eq_true rfl, Nat.le_of_ble_eq_true rfl⟩) (fun μ7 H locs q7 hW => ?_)
        obtain ⟨hJ7, q7⟩ := q7
        have hI := hI.tr hJ7 (m_subL (by simp [hS11, hS15, hS16]))
        obtain ⟨q7, q733, q735, q7K, q7L, q7V⟩ := q7
        obtain ⟨x8, hx8⟩ : ∃ z, μ7.1 31 1 = z := ⟨_, rfl⟩
        have bx8 : 0 ≤ x8.toInt ∧ x8.toInt ≤ 401 := by rw [← hx8]; exact hI.1 _ _ _ _ rfl
        rw [show μ7.1 31 1 = x8 from by exact hx8] at q7
        refine lv_iload_n hx hb dX8_takeNumber_67 rfl (lv_at hl 3 rfl) ?_
        exact m_iret hx hb hr hlocks hW rfl (⟨hI, ⟨(by rw [show (z_E bD fT t.toNatClampNeg k.toNatClampNeg) = y3.toNatClampNeg from hend]; exact (m_ckI (by omega)).symm), by rw [show μ7.1 31 1 = x8 from by exact hx8]; omega, by rw [show μ7.1 33 1 = x8 from by exact (q733.trans (by exact hx8)), show μ7.1 31 1 = x8 from by exact hx8], by rw [show μ7.1 35 1 = x8 from by exact (q735.trans (by exact hx8)), show μ7.1 31 1 = x8 from by exact hx8], 2, k, y4, by rw [show μ7.1 32 = m_up (μ.1 32) cn.toNatClampNeg 2 from q7K, hK], by rw [show μ7.1 34 = m_up (μ.1 34) cn.toNatClampNeg k from q7L, hL], by rw [show μ7.1 36 = m_up (μ.1 36) cn.toNatClampNeg y4 from q7V, hV], (by rw [hend]; have := m_ckI (x := y3) (by omega); have := m_ckI (x := k) (by omega); first | (rw [if_pos (by omega)]; rfl) | (rw [if_neg (by omega)]; rfl)), rfl, (by rw [hend]; exact hnv)⟩⟩) dX8_takeNumber_68
    · have i2 := m_c4 (rfl : t.toInt = _) (rfl : y3.toInt = _) c2
      refine lv_aload_n hx hb dX8_takeNumber_13 rfl (lv_at hl 1 rfl) ?_
      refine m_getr hx hb hts hown hW (23) 0 (24) rfl rfl cw_5 rfl (by decide) k_X8_30 dX8_takeNumber_14 ?_
      refine lv_iload_n hx hb dX8_takeNumber_17 rfl (lv_at hl 3 rfl) ?_
      refine m_iald hx hb hW (24) rfl (m_ixI (rfl : y3.toInt = _) (by omega) (by omega)) dX8_takeNumber_18 ?_
      refine lv_topi (fun x9 ex9 => ?_)
      have h_x9 : (fT y3.toNatClampNeg).toInt = x9.toInt := by rw [ex9, hfT]
      refine m_aI hW (m_runS (As := [.int x9]) (rest := []) hx hb hml hown hts hW (g_X8_isDigit_f l D cy b x9 μ hI.1) ms_X8_isDigit k_X8_42 rfl hl.1 rfl (Nat.le_of_ble_eq_true rfl) dX8_takeNumber_19 ⟨Nat.le_of_ble_eq_true rfl, Nat.le_of_ble_eq_true rfl⟩ ⟨Nat.le_of_ble_eq_true rfl, Nat.le_of_ble_eq_true rfl⟩) (fun x10 μ10 H locs q10 hW => ?_)
      obtain ⟨q10_m, q10⟩ := q10
      subst q10_m
      rcases q10 with ⟨rfl, q10⟩ | ⟨rfl, q10⟩
      · refine lv_if_eq (tgt := 48) hx hb dX8_takeNumber_22 (by decide) (fun c => False.elim (by revert c; decide)) (fun _ => ?_)
        refine lv_iload hx hb dX8_takeNumber_25 (lv_at hl 4 rfl) ?_
        refine lv_bipush (v := 10) hx hb dX8_takeNumber_27 (by decide) ?_
        refine lv_imul hx hb dX8_takeNumber_29 ?_
        refine lv_topi (fun x11 ex11 => ?_)
        refine lv_aload_n hx hb dX8_takeNumber_30 rfl (lv_at hl 1 rfl) ?_
        refine m_getr hx hb hts hown hW (23) 0 (24) rfl rfl cw_5 rfl (by decide) k_X8_30 dX8_takeNumber_31 ?_
        refine lv_iload_n hx hb dX8_takeNumber_34 rfl (lv_at hl 3 rfl) ?_
        refine m_iald hx hb hW (24) rfl (m_ixI (rfl : y3.toInt = _) (by omega) (by omega)) dX8_takeNumber_35 ?_
        refine lv_topi (fun x12 ex12 => ?_)
        have ex12 : x12 = x9 := by rw [ex12]; exact ex9.symm
        have ex12 := ex12.symm
        subst ex12
        refine lv_iadd hx hb dX8_takeNumber_36 ?_
        refine lv_topi (fun x13 ex13 => ?_)
        refine lv_bipush (v := 48) hx hb dX8_takeNumber_37 (by decide) ?_
        refine lv_isub hx hb dX8_takeNumber_39 ?_
        refine lv_topi (fun x14 ex14 => ?_)
        refine lv_istore (lv' := [(4, .int x14), (0, .ref (b + 30)), (1, .ref (b + 23)), (2, .int k), (3, .int y3)]) hx hb dX8_takeNumber_40 hl (by decide) rfl (fun ls hl => ?_)
        obtain ⟨x15, ex15⟩ : ∃ z : Int32, z = y3 + 1 := ⟨_, rfl⟩
        refine lv_iinc (v := x15) (lv' := [(3, .int x15), (4, .int x14), (0, .ref (b + 30)), (1, .ref (b + 23)), (2, .int k)]) hx hb dX8_takeNumber_42 hl (k := 4) rfl (by rw [ex15]; rfl) (by decide) rfl (fun ls hl => ?_)
        have tx15 : x15.toInt = y3.toInt + 1 := m_addI ex15 (rfl : y3.toInt = _) (by decide : (1 : Int32).toInt = 1) (by omega) (by omega)
        refine lv_goto (tgt := 5) hx hb dX8_takeNumber_45 (by decide) ?_
        exact ih x15 x14 (by omega) (by omega) μ hI (h31) (h33) (h35) (ht) (hfT) (hK) (hL) (hV) (hlet) ((by rw [m_cl1 (x := x15) (y := y3) (by omega) (by omega), ← hsp]; exact (z_E1 (by have := m_ckI (x := y3) (by omega); have := m_ckI (x := t) (by omega); omega) (by rw [h_x9]; exact bD_t.mpr (by omega))).symm)) ((by rw [m_cl1 (x := x15) (y := y3) (by omega) (by omega), show y3.toNatClampNeg + 1 - k.toNatClampNeg = (y3.toNatClampNeg - k.toNatClampNeg) + 1 from by have := m_ckI (x := y3) (by omega); have := m_ckI (x := k) (by omega); omega]; unfold m_nv; rw [← hnv, show k.toNatClampNeg + (y3.toNatClampNeg - k.toNatClampNeg) = y3.toNatClampNeg from by have := m_ckI (x := y3) (by omega); have := m_ckI (x := k) (by omega); omega, ← hfT, ← ex9, ← ex11, ← ex13, ← ex14])) _ _ hW ls (lv_sub hl [2, 3, 4, 0, 1] rfl)
      · refine lv_if_eq (tgt := 48) hx hb dX8_takeNumber_22 (by decide) (fun _ => ?_) (fun c => False.elim (by revert c; decide))
        have hend : z_E bD fT t.toNatClampNeg k.toNatClampNeg = y3.toNatClampNeg := (by rw [← hsp]; exact z_E0 (fun q => by have q1 := q.1; have q2 := q.2; have := m_ckI (x := y3) (by omega); have := m_ckI (x := t) (by omega); rw [h_x9] at q2; have q3 := bD_t.mp q2; omega))
        have hky : k.toInt < y3.toInt := by
          rcases (show k.toInt < y3.toInt ∨ k.toInt = y3.toInt by omega) with q | q
          · exact q
          have q2 : k = y3 := m_eqI q
          have q3 := bD_t.mp hlet
          rw [q2, h_x9] at q3
          omega
        refine lv_aload_n hx hb dX8_takeNumber_48 rfl (lv_at hl 0 rfl) ?_
        refine lv_iload_n hx hb dX8_takeNumber_49 rfl (lv_at hl 3 rfl) ?_
        refine lv_iload_n hx hb dX8_takeNumber_50 rfl (lv_at hl 2 rfl) ?_
        refine lv_isub hx hb dX8_takeNumber_51 ?_
        refine lv_topi (fun x16 ex16 => ?_)
        have tx16 : x16.toInt = y3.toInt - k.toInt := m_subI ex16 (rfl : y3.toInt = _) (rfl : k.toInt = _) (by omega) (by omega)
        refine lv_iconst (v := 4) hx hb dX8_takeNumber_52 (by decide) ?_
        refine lv_icmp_gt (tgt := 60) hx hb dX8_takeNumber_53 (by decide) (fun c17 => ?_) (fun c17 => ?_)
        · have i17 := m_c1 (by decide : (4 : Int32).toInt = 4) (rfl : x16.toInt = _) c17
          refine lv_iconst (v := 0) hx hb dX8_takeNumber_60 (by decide) ?_
          refine lv_iload_n hx hb dX8_takeNumber_61 rfl (lv_at hl 2 rfl) ?_
          refine lv_iload hx hb dX8_takeNumber_62 (lv_at hl 4 rfl) ?_
          have l_0 : (0 : Int32).toInt = 0 := by decide
          refine m_aV hW (m_runV (As := [.int 0, .int k, .int y4]) (rest := []) hx hb hml hown hts hW (30) (g_X8_keep_f l D cy b (fun g => [11, 15, 16].contains g) μ rfl rfl rfl cn (by omega) 0 k y4 μ (IY.rf hI.1) (by exact h31) (by exact h33) (by exact h35)) mi_X8_keep k_X8_55 rfl rfl rfl hl.1 rfl (Nat.le_of_ble_eq_true rfl) dX8_takeNumber_64 ⟨Nat.le_of_ble_eq_true rfl, Nat.le_of_ble_eq_true rfl⟩ ⟨Nat.le_of_ble_eq_true rfl, Nat.le_of_ble_eq_true rfl⟩) (fun μ18 H locs q18 hW => ?_)
          obtain ⟨hJ18, q18⟩ := q18
          have hI := hI.tr hJ18 (m_subL (by simp [hS11, hS15, hS16]))
          obtain ⟨q18, q1833, q1835, q18K, q18L, q18V⟩ := q18
          obtain ⟨x19, hx19⟩ : ∃ z, μ18.1 31 1 = z := ⟨_, rfl⟩
          have bx19 : 0 ≤ x19.toInt ∧ x19.toInt ≤ 401 := by rw [← hx19]; exact hI.1 _ _ _ _ rfl
          rw [show μ18.1 31 1 = x19 from by exact hx19] at q18
          refine lv_iload_n hx hb dX8_takeNumber_67 rfl (lv_at hl 3 rfl) ?_
          exact m_iret hx hb hr hlocks hW rfl (⟨hI, ⟨(by rw [show (z_E bD fT t.toNatClampNeg k.toNatClampNeg) = y3.toNatClampNeg from hend]; exact (m_ckI (by omega)).symm), by rw [show μ18.1 31 1 = x19 from by exact hx19]; omega, by rw [show μ18.1 33 1 = x19 from by exact (q1833.trans (by exact hx19)), show μ18.1 31 1 = x19 from by exact hx19], by rw [show μ18.1 35 1 = x19 from by exact (q1835.trans (by exact hx19)), show μ18.1 31 1 = x19 from by exact hx19], 0, k, y4, by rw [show μ18.1 32 = m_up (μ.1 32) cn.toNatClampNeg 0 from q18K, hK], by rw [show μ18.1 34 = m_up (μ.1 34) cn.toNatClampNeg k from q18L, hL], by rw [show μ18.1 36 = m_up (μ.1 36) cn.toNatClampNeg y4 from q18V, hV], (by rw [hend]; have := m_ckI (x := y3) (by omega); have := m_ckI (x := k) (by omega); first | (rw [if_pos (by omega)]; rfl) | (rw [if_neg (by omega)]; rfl)), rfl, (by rw [hend]; exact hnv)⟩⟩) dX8_takeNumber_68
        · have i17 := m_c2 (by decide : (4 : Int32).toInt = 4) (rfl : x16.toInt = _) c17
          refine lv_iconst (v := 2) hx hb dX8_takeNumber_56 (by decide) ?_
          refine lv_goto (tgt := 61) hx hb dX8_takeNumber_57 (by decide) ?_
          refine lv_iload_n hx hb dX8_takeNumber_61 rfl (lv_at hl 2 rfl) ?_
          refine lv_iload hx hb dX8_takeNumber_62 (lv_at hl 4 rfl) ?_
          have l_2 : (2 : Int32).toInt = 2 := by decide
          refine m_aV hW (m_runV (As := [.int 2, .int k, .int y4]) (rest := []) hx hb hml hown hts hW (30) (g_X8_keep_f l D cy b (fun g => [11, 15, 16].contains g) μ rfl rfl rfl cn (by omega) 2 k y4 μ (IY.rf hI.1) (by exact h31) (by exact h33) (by exact h35)) mi_X8_keep k_X8_55 rfl rfl rfl hl.1 rfl (Nat.le_of_ble_eq_true rfl) dX8_takeNumber_64 ⟨Nat.le_of_ble_eq_true rfl, Nat.le_of_ble_eq_true rfl⟩ ⟨Nat.le_of_ble_eq_true rfl, Nat.le_of_ble_eq_true rfl⟩) (fun μ20 H locs q20 hW => ?_)
          obtain ⟨hJ20, q20⟩ := q20
          have hI := hI.tr hJ20 (m_subL (by simp [hS11, hS15, hS16]))
          obtain ⟨q20, q2033, q2035, q20K, q20L, q20V⟩ := q20
          obtain ⟨x21, hx21⟩ : ∃ z, μ20.1 31 1 = z := ⟨_, rfl⟩
          have bx21 : 0 ≤ x21.toInt ∧ x21.toInt ≤ 401 := by rw [← hx21]; exact hI.1 _ _ _ _ rfl
          rw [show μ20.1 31 1 = x21 from by exact hx21] at q20
          refine lv_iload_n hx hb dX8_takeNumber_67 rfl (lv_at hl 3 rfl) ?_
          exact m_iret hx hb hr hlocks hW rfl (⟨hI, ⟨(by rw [show (z_E bD fT t.toNatClampNeg k.toNatClampNeg) = y3.toNatClampNeg from hend]; exact (m_ckI (by omega)).symm), by rw [show μ20.1 31 1 = x21 from by exact hx21]; omega, by rw [show μ20.1 33 1 = x21 from by exact (q2033.trans (by exact hx21)), show μ20.1 31 1 = x21 from by exact hx21], by rw [show μ20.1 35 1 = x21 from by exact (q2035.trans (by exact hx21)), show μ20.1 31 1 = x21 from by exact hx21], 2, k, y4, by rw [show μ20.1 32 = m_up (μ.1 32) cn.toNatClampNeg 2 from q20K, hK], by rw [show μ20.1 34 = m_up (μ.1 34) cn.toNatClampNeg k from q20L, hL], by rw [show μ20.1 36 = m_up (μ.1 36) cn.toNatClampNeg y4 from q20V, hV], (by rw [hend]; have := m_ckI (x := y3) (by omega); have := m_ckI (x := k) (by omega); first | (rw [if_pos (by omega)]; rfl) | (rw [if_neg (by omega)]; rfl)), rfl, (by rw [hend]; exact hnv)⟩⟩) dX8_takeNumber_68
set_option maxHeartbeats 4000000 in
set_option maxRecDepth 100000 in
theorem g_X8_takeNumber_f (l : Launch) (D : va_G) (cy : Nat → ClassId) (b : Nat) (S : Nat → Bool) (μ0 : mM) (hS11 : S 11 = true) (hS15 : S 15 = true) (hS16 : S 16 = true) (cn : Int32) (h_c : 0 ≤ cn.toInt ∧ cn.toInt ≤ 400) (t : Int32) (h_t : 0 ≤ t.toInt ∧ t.toInt ≤ 400) (fT K0 L0 V0 : Nat → Int32) (k : Int32) (h_k : 0 ≤ k.toInt ∧ k.toInt ≤ 400) (h_kt : k.toInt < t.toInt) (μ : mM) (hI : IY S μ0 μ) (h31 : μ.1 31 1 = cn) (h33 : μ.1 33 1 = cn) (h35 : μ.1 35 1 = cn) (ht : μ.1 23 1 = t) (hfT : μ.1 24 = fT) (hK : μ.1 32 = K0) (hL : μ.1 34 = L0) (hV : μ.1 36 = V0) (hlet : bD (fT k.toNatClampNeg).toInt = true) : m_Ci l yX8_takeNumber cX8_takeNumber 5 ((some .int)) 2 D cy b LAY μ [.ref (b + 30), .ref (b + 23), .int k] (fun r ν => IY S μ0 ν ∧ (r.toInt = (z_E bD fT t.toNatClampNeg k.toNatClampNeg : Nat) ∧ (ν.1 31 1).toInt = cn.toInt + 1 ∧ ν.1 33 1 = ν.1 31 1 ∧ ν.1 35 1 = ν.1 31 1 ∧ ∃ x y z : Int32, ν.1 32 = m_up K0 cn.toNatClampNeg x ∧ ν.1 34 = m_up L0 cn.toNatClampNeg y ∧ ν.1 36 = m_up V0 cn.toNatClampNeg z ∧ ((x.toInt = if z_E bD fT t.toNatClampNeg k.toNatClampNeg - k.toNatClampNeg ≤ 4 then 2 else 0) ∧ y = k ∧ z = m_nv fT k.toNatClampNeg (z_E bD fT t.toNatClampNeg k.toNatClampNeg - k.toNatClampNeg)))) := by
  unfold m_Ci
  refine m_of (by decide) (Nat.le_of_ble_eq_true rfl) ?_
  intro p e s m below meth c hx hb hr hml hown hts hlocks _ hW ls hl
  have hown : s.vm.findClass RX8 = some m.cls := hown
  have hl : lv_has ls 5 [(0, .ref (b + 30)), (1, .ref (b + 23)), (2, .int k)] := hl
  refine lv_iload_n hx hb dX8_takeNumber_0 rfl (lv_at hl 2 rfl) ?_
  refine lv_istore_n (lv' := [(3, .int k), (0, .ref (b + 30)), (1, .ref (b + 23)), (2, .int k)]) hx hb dX8_takeNumber_1 rfl hl (by decide) rfl (fun ls hl => ?_)
  refine lv_iconst (v := 0) hx hb dX8_takeNumber_2 (by decide) ?_
  refine lv_istore (lv' := [(4, .int 0), (3, .int k), (0, .ref (b + 30)), (1, .ref (b + 23)), (2, .int k)]) hx hb dX8_takeNumber_3 hl (by decide) rfl (fun ls hl => ?_)
  have l_0 : (0 : Int32).toInt = 0 := by decide
  exact L_X8_takeNumber_f_5 hx hb hr hml hown hts hlocks S μ0 hS11 hS15 hS16 cn h_c t h_t fT K0 L0 V0 k h_k h_kt  401 k 0 (by omega) (by omega) μ hI (h31) (h33) (h35) (ht) (hfT) (hK) (hL) (hV) (hlet) (rfl) ((by rw [Nat.sub_self]; rfl)) _ _ hW ls (lv_sub hl [2, 3, 4, 1, 0] rfl)
set_option maxHeartbeats 4000000 in
set_option maxRecDepth 100000 in
theorem L_X8_takeApart_f_28 {p : Program} {l : Launch} {e : Env} {s : State} {m : MethodId} {args : Array Value} {below : List Frame} {meth : Method} {c : Code} {D : va_G} {cy : Nat → ClassId} {b : Nat} (hx : p.tables.exec = Jvm.exec) (hb : c.code = cX8_takeApart) (hr : meth.sig.returnType = (none)) (hml : c.maxLocals = 5) (hown : s.vm.findClass RX8 = some m.cls) (hts : ∀ w ∈ TB, w.before args s = true) (hlocks : meth.locks = false) {oq oa ov : Nat} (hO : m_O (m_A b LAY) oq oa ov s s.heap) (S : Nat → Bool) (μ0 : mM) (hS11 : S 11 = true) (hS15 : S 15 = true) (hS16 : S 16 = true) (t : Int32) (h_t : 0 ≤ t.toInt ∧ t.toInt ≤ 400) (fT : Nat → Int32) : ∀ (f : Nat), ∀ (y2 y3 : Int32) (gc : Int32) (hy : 0 ≤ y2.toInt ∧ y2.toInt ≤ 400 ∧ 0 ≤ y3.toInt ∧ y3.toInt ≤ 400 ∧ y2.toInt ≤ t.toInt ∧ 0 ≤ gc.toInt ∧ gc.toInt ≤ y2.toInt ∧ y3.toInt ≤ y2.toInt) (hf : 400 - y3.toInt < (f : Int)) (μ : mM) (hI : IY S μ0 μ) (ht : μ.1 23 1 = t) (hfT : μ.1 24 = fT) (h31 : μ.1 31 1 = gc) (h33 : μ.1 33 1 = gc) (h35 : μ.1 35 1 = gc) (hta : m_TA (μ.1 32) (μ.1 34) (μ.1 36) fT t.toNatClampNeg gc.toNatClampNeg y2.toNatClampNeg) (H : Heap) (locs : List Loc), m_WA (m_A b LAY) D cy s b LAY μ H locs → ∀ ls : Array Slot, lv_has ls 5 [(0, .ref (b + 30)), (1, .ref (b + 23)), (2, .int y2), (3, .int y3)] → W p l e (m_R 7 0 0) s m args below meth c H locs 0 0 (MQ below (m_Qv D cy b LAY (fun ν => IY S μ0 ν ∧ (∃ cn : Nat, cn ≤ 400 ∧ (ν.1 31 1).toInt = cn + 1 ∧ (ν.1 33 1).toInt = cn + 1 ∧ (ν.1 35 1).toInt = cn + 1 ∧ m_TD (ν.1 32) (ν.1 34) (ν.1 36) fT t.toNatClampNeg cn))) args s 0 0 (m_A b LAY)) (F0 m 28 ls []) := by
  intro f
  induction f with
  | zero => intro y2 y3 gc hy hf; exfalso; omega
  | succ f ih =>
    intro y2 y3 gc hy hf μ hI ht hfT h31 h33 h35 hta H locs hW ls hl
    refine lv_iload_n hx hb dX8_takeApart_28 rfl (lv_at hl 3 rfl) ?_
    refine lv_sipush (v := 400) hx hb dX8_takeApart_29 (by decide) ?_
    refine lv_icmp_ge (tgt := 115) hx hb dX8_takeApart_32 (by decide) (fun c1 => ?_) (fun c1 => ?_)
    · have i1 := m_c3 (by decide : (400 : Int32).toInt = 400) (rfl : y3.toInt = _) c1
      refine lv_aload_n hx hb dX8_takeApart_115 rfl (lv_at hl 0 rfl) ?_
      refine lv_iconst (v := 1) hx hb dX8_takeApart_116 (by decide) ?_
      refine lv_aload_n hx hb dX8_takeApart_117 rfl (lv_at hl 1 rfl) ?_
      refine m_geti hx hb hts hown hW (23) 1 rfl rfl cw_5 rfl (by decide) k_X8_26 dX8_takeApart_118 ?_
      refine lv_topi (fun x2 ex2 => ?_)
      have ex2 : x2 = t := by rw [ex2]; exact ht
      have ex2 := ex2.symm
      subst ex2
      refine lv_iconst (v := 0) hx hb dX8_takeApart_121 (by decide) ?_
      have l_1 : (1 : Int32).toInt = 1 := by decide
      have l_0 : (0 : Int32).toInt = 0 := by decide
      refine m_aV hW (m_runV (As := [.int 1, .int t, .int 0]) (rest := []) hx hb hml hown hts hW (30) (g_X8_keep_f l D cy b (fun g => [11, 15, 16].contains g) μ rfl rfl rfl gc (by omega) 1 t 0 μ (IY.rf hI.1) (by exact h31) (by exact h33) (by exact h35)) mi_X8_keep k_X8_55 rfl rfl rfl hl.1 rfl (Nat.le_of_ble_eq_true rfl) dX8_takeApart_122 ⟨Nat.le_of_ble_eq_true rfl, Nat.le_of_ble_eq_true rfl⟩ ⟨Nat.le_of_ble_eq_true rfl, Nat.le_of_ble_eq_true rfl⟩) (fun μ3 H locs q3 hW => ?_)
      obtain ⟨hJ3, q3⟩ := q3
      have hI := hI.tr hJ3 (m_subL (by simp [hS11, hS15, hS16]))
      obtain ⟨q3, q333, q335, q3K, q3L, q3V⟩ := q3
      obtain ⟨x4, hx4⟩ : ∃ z, μ3.1 31 1 = z := ⟨_, rfl⟩
      have bx4 : 0 ≤ x4.toInt ∧ x4.toInt ≤ 401 := by rw [← hx4]; exact hI.1 _ _ _ _ rfl
      rw [show μ3.1 31 1 = x4 from by exact hx4] at q3
      exact m_vret hx hb hr hlocks hW (⟨hI, ⟨gc.toNatClampNeg, by have := m_ckI (x := gc) (by omega); have := m_ckI (x := y2) (by omega); have := m_ckI (x := t) (by omega); omega, by rw [show μ3.1 31 1 = x4 from by exact hx4]; have := m_ckI (x := gc) (by omega); have := m_ckI (x := y2) (by omega); have := m_ckI (x := t) (by omega); omega, by rw [show μ3.1 33 1 = x4 from by exact (q333.trans (by exact hx4))]; have := m_ckI (x := gc) (by omega); have := m_ckI (x := y2) (by omega); have := m_ckI (x := t) (by omega); omega, by rw [show μ3.1 35 1 = x4 from by exact (q335.trans (by exact hx4))]; have := m_ckI (x := gc) (by omega); have := m_ckI (x := y2) (by omega); have := m_ckI (x := t) (by omega); omega, by rw [show μ3.1 32 = m_up (μ.1 32) gc.toNatClampNeg 1 from q3K, show μ3.1 34 = m_up (μ.1 34) gc.toNatClampNeg t from q3L, show μ3.1 36 = m_up (μ.1 36) gc.toNatClampNeg 0 from q3V]; exact (show m_TA (μ.1 32) (μ.1 34) (μ.1 36) fT t.toNatClampNeg gc.toNatClampNeg t.toNatClampNeg from by rw [show t.toNatClampNeg = y2.toNatClampNeg from by have := m_ckI (x := gc) (by omega); have := m_ckI (x := y2) (by omega); have := m_ckI (x := t) (by omega); omega] at hta ⊢; exact hta).fin rfl ((m_ckI (by omega)).symm) rfl⟩⟩) dX8_takeApart_125
    · have i1 := m_c4 (by decide : (400 : Int32).toInt = 400) (rfl : y3.toInt = _) c1
      refine lv_iload_n hx hb dX8_takeApart_35 rfl (lv_at hl 2 rfl) ?_
      refine lv_aload_n hx hb dX8_takeApart_36 rfl (lv_at hl 1 rfl) ?_
      refine m_geti hx hb hts hown hW (23) 1 rfl rfl cw_5 rfl (by decide) k_X8_26 dX8_takeApart_37 ?_
      refine lv_topi (fun x5 ex5 => ?_)
      have ex5 : x5 = t := by rw [ex5]; exact ht
      have ex5 := ex5.symm
      subst ex5
      refine lv_icmp_ge (tgt := 115) hx hb dX8_takeApart_40 (by decide) (fun c6 => ?_) (fun c6 => ?_)
      · have i6 := m_c3 (rfl : t.toInt = _) (rfl : y2.toInt = _) c6
        refine lv_aload_n hx hb dX8_takeApart_115 rfl (lv_at hl 0 rfl) ?_
        refine lv_iconst (v := 1) hx hb dX8_takeApart_116 (by decide) ?_
        refine lv_aload_n hx hb dX8_takeApart_117 rfl (lv_at hl 1 rfl) ?_
        refine m_geti hx hb hts hown hW (23) 1 rfl rfl cw_5 rfl (by decide) k_X8_26 dX8_takeApart_118 ?_
        refine lv_topi (fun x7 ex7 => ?_)
        have ex7 : x7 = t := by rw [ex7]; exact ht
        have ex7 := ex7.symm
        subst ex7
        refine lv_iconst (v := 0) hx hb dX8_takeApart_121 (by decide) ?_
        have l_1 : (1 : Int32).toInt = 1 := by decide
        have l_0 : (0 : Int32).toInt = 0 := by decide
        refine m_aV hW (m_runV (As := [.int 1, .int t, .int 0]) (rest := []) hx hb hml hown hts hW (30) (g_X8_keep_f l D cy b (fun g => [11, 15, 16].contains g) μ rfl rfl rfl gc (by omega) 1 t 0 μ (IY.rf hI.1) (by exact h31) (by exact h33) (by exact h35)) mi_X8_keep k_X8_55 rfl rfl rfl hl.1 rfl (Nat.le_of_ble_eq_true rfl) dX8_takeApart_122 ⟨Nat.le_of_ble_eq_true rfl, Nat.le_of_ble_eq_true rfl⟩ ⟨Nat.le_of_ble_eq_true rfl, Nat.le_of_ble_eq_true rfl⟩) (fun μ8 H locs q8 hW => ?_)
        obtain ⟨hJ8, q8⟩ := q8
        have hI := hI.tr hJ8 (m_subL (by simp [hS11, hS15, hS16]))
        obtain ⟨q8, q833, q835, q8K, q8L, q8V⟩ := q8
        obtain ⟨x9, hx9⟩ : ∃ z, μ8.1 31 1 = z := ⟨_, rfl⟩
        have bx9 : 0 ≤ x9.toInt ∧ x9.toInt ≤ 401 := by rw [← hx9]; exact hI.1 _ _ _ _ rfl
        rw [show μ8.1 31 1 = x9 from by exact hx9] at q8
        exact m_vret hx hb hr hlocks hW (⟨hI, ⟨gc.toNatClampNeg, by have := m_ckI (x := gc) (by omega); have := m_ckI (x := y2) (by omega); have := m_ckI (x := t) (by omega); omega, by rw [show μ8.1 31 1 = x9 from by exact hx9]; have := m_ckI (x := gc) (by omega); have := m_ckI (x := y2) (by omega); have := m_ckI (x := t) (by omega); omega, by rw [show μ8.1 33 1 = x9 from by exact (q833.trans (by exact hx9))]; have := m_ckI (x := gc) (by omega); have := m_ckI (x := y2) (by omega); have := m_ckI (x := t) (by omega); omega, by rw [show μ8.1 35 1 = x9 from by exact (q835.trans (by exact hx9))]; have := m_ckI (x := gc) (by omega); have := m_ckI (x := y2) (by omega); have := m_ckI (x := t) (by omega); omega, by rw [show μ8.1 32 = m_up (μ.1 32) gc.toNatClampNeg 1 from q8K, show μ8.1 34 = m_up (μ.1 34) gc.toNatClampNeg t from q8L, show μ8.1 36 = m_up (μ.1 36) gc.toNatClampNeg 0 from q8V]; exact (show m_TA (μ.1 32) (μ.1 34) (μ.1 36) fT t.toNatClampNeg gc.toNatClampNeg t.toNatClampNeg from by rw [show t.toNatClampNeg = y2.toNatClampNeg from by have := m_ckI (x := gc) (by omega); have := m_ckI (x := y2) (by omega); have := m_ckI (x := t) (by omega); omega] at hta ⊢; exact hta).fin rfl ((m_ckI (by omega)).symm) rfl⟩⟩) dX8_takeApart_125
      · have i6 := m_c4 (rfl : t.toInt = _) (rfl : y2.toInt = _) c6
        refine lv_aload_n hx hb dX8_takeApart_43 rfl (lv_at hl 1 rfl) ?_
        refine m_getr hx hb hts hown hW (23) 0 (24) rfl rfl cw_5 rfl (by decide) k_X8_30 dX8_takeApart_44 ?_
        refine lv_iload_n hx hb dX8_takeApart_47 rfl (lv_at hl 2 rfl) ?_
        refine m_iald hx hb hW (24) rfl (m_ixI (rfl : y2.toInt = _) (by omega) (by omega)) dX8_takeApart_48 ?_
        refine lv_topi (fun x10 ex10 => ?_)
        have h_x10 : (fT y2.toNatClampNeg).toInt = x10.toInt := by rw [ex10, hfT]
        refine lv_istore (lv' := [(4, .int x10), (0, .ref (b + 30)), (1, .ref (b + 23)), (2, .int y2), (3, .int y3)]) hx hb dX8_takeApart_49 hl (by decide) rfl (fun ls hl => ?_)
        refine lv_iload hx hb dX8_takeApart_51 (lv_at hl 0 rfl) ?_
        refine m_aI hW (m_runS (As := [.int x10]) (rest := []) hx hb hml hown hts hW (g_X8_isLetter_f l D cy b x10 μ hI.1) ms_X8_isLetter k_X8_34 rfl hl.1 rfl (Nat.le_of_ble_eq_true rfl) dX8_takeApart_53 ⟨Nat.le_of_ble_eq_true rfl, Nat.le_of_ble_eq_true rfl⟩ ⟨Nat.le_of_ble_eq_true rfl, Nat.le_of_ble_eq_true rfl⟩) (fun x11 μ11 H locs q11 hW => ?_)
        obtain ⟨q11_m, q11⟩ := q11
        subst q11_m
        rcases q11 with ⟨rfl, q11⟩ | ⟨rfl, q11⟩
        · refine lv_if_eq (tgt := 69) hx hb dX8_takeApart_56 (by decide) (fun c => False.elim (by revert c; decide)) (fun _ => ?_)
          have hlt : bL (μ.1 24 y2.toNatClampNeg).toInt = true := by rw [← ex10]; exact bL_t.mpr (by omega)
          refine lv_aload_n hx hb dX8_takeApart_59 rfl (lv_at hl 1 rfl) ?_
          refine lv_aload_n hx hb dX8_takeApart_60 rfl (lv_at hl 2 rfl) ?_
          refine lv_iload_n hx hb dX8_takeApart_61 rfl (lv_at hl 3 rfl) ?_
          refine m_aI hW (m_runVO (As := [.ref (b + 23), .int y2]) (rest := []) hx hb hml hown hts hW hO (30) (g_X8_takeWord_f l D cy b oq oa ov (fun g => [11, 15, 16].contains g) μ rfl rfl rfl gc (by omega) t (by omega) (μ.1 24) (μ.1 32) (μ.1 34) (μ.1 36) y2 (by omega) (by omega) μ (IY.rf hI.1) (by exact h31) (by exact h33) (by exact h35) (by exact ht) rfl rfl rfl rfl hlt) mi_X8_takeWord k_X8_38 rfl rfl rfl hl.1 rfl (Nat.le_of_ble_eq_true rfl) dX8_takeApart_62 ⟨Nat.le_of_ble_eq_true rfl, Nat.le_of_ble_eq_true rfl⟩ ⟨Nat.le_of_ble_eq_true rfl, Nat.le_of_ble_eq_true rfl⟩) (fun x12 μ12 H locs q12 hW => ?_)
          obtain ⟨hJ12, q12⟩ := q12
          have hI := hI.tr hJ12 (m_subL (by simp [hS11, hS15, hS16]))
          obtain ⟨q12r, q12, q1233, q1235, q12x, q12y, q12z, q12K, q12L, q12V, q12c⟩ := q12
          obtain ⟨x13, hx13⟩ : ∃ z, μ12.1 31 1 = z := ⟨_, rfl⟩
          have bx13 : 0 ≤ x13.toInt ∧ x13.toInt ≤ 401 := by rw [← hx13]; exact hI.1 _ _ _ _ rfl
          rw [show μ12.1 31 1 = x13 from by exact hx13] at q12
          have hb_ := z_E_b (P := bL) (f := fT) (n := t.toNatClampNeg) (p := y2.toNatClampNeg) (by have := m_ckI (x := y2) (by omega); have := m_ckI (x := t) (by omega); omega)
          have hg_ := z_E_b (P := bL) (f := fT) (n := t.toNatClampNeg) (p := y2.toNatClampNeg + 1) (by have := m_ckI (x := y2) (by omega); have := m_ckI (x := t) (by omega); omega)
          have hh_ := z_E1 (P := bL) (f := fT) (n := t.toNatClampNeg) (p := y2.toNatClampNeg) (by have := m_ckI (x := y2) (by omega); have := m_ckI (x := t) (by omega); omega) (by rw [h_x10]; exact bL_t.mpr (by omega))
          have hr_ : x12.toInt = (z_E bL fT t.toNatClampNeg y2.toNatClampNeg : Nat) := by rw [← hfT]; exact q12r
          have bx12 : y2.toInt + 1 ≤ x12.toInt ∧ x12.toInt ≤ t.toInt := by have := m_ckI (x := y2) (by omega); have := m_ckI (x := t) (by omega); omega
          refine lv_istore_n (lv' := [(2, .int x12), (4, .int x10), (0, .ref (b + 30)), (1, .ref (b + 23)), (3, .int y3)]) hx hb dX8_takeApart_65 rfl hl (by decide) rfl (fun ls hl => ?_)
          refine lv_goto (tgt := 109) hx hb dX8_takeApart_66 (by decide) ?_
          obtain ⟨x14, ex14⟩ : ∃ z : Int32, z = y3 + 1 := ⟨_, rfl⟩
          refine lv_iinc (v := x14) (lv' := [(3, .int x14), (2, .int x12), (4, .int x10), (0, .ref (b + 30)), (1, .ref (b + 23))]) hx hb dX8_takeApart_109 hl (k := 4) rfl (by rw [ex14]; rfl) (by decide) rfl (fun ls hl => ?_)
          have tx14 : x14.toInt = y3.toInt + 1 := m_addI ex14 (rfl : y3.toInt = _) (by decide : (1 : Int32).toInt = 1) (by omega) (by omega)
          refine lv_goto (tgt := 28) hx hb dX8_takeApart_112 (by decide) ?_
          rw [hfT] at q12r q12c
          have hE : z_E bL fT t.toNatClampNeg y2.toNatClampNeg = z_E bL fT t.toNatClampNeg (y2.toNatClampNeg + 1) := z_E1 (by have := m_ckI (x := y2) (by omega); have := m_ckI (x := t) (by omega); omega) (by rw [h_x10]; exact bL_t.mpr (by omega))
          have hte : m_te fT t.toNatClampNeg y2.toNatClampNeg = z_E bL fT t.toNatClampNeg y2.toNatClampNeg := by rw [hE]; exact (by unfold m_te; rw [if_neg (by have := m_ckI (x := y2) (by omega); have := m_ckI (x := t) (by omega); omega), if_pos (by rw [h_x10]; exact bL_t.mpr (by omega))])
          have htk : q12x.toInt = m_tk fT t.toNatClampNeg y2.toNatClampNeg := by
            unfold m_tk
            rw [if_neg (by have := m_ckI (x := y2) (by omega); have := m_ckI (x := t) (by omega); omega), if_pos (by rw [h_x10]; exact bL_t.mpr (by omega)), hte]; exact q12c.1
          have htv : q12z = m_tv fT t.toNatClampNeg y2.toNatClampNeg := by
            unfold m_tv
            rw [if_neg (by rw [h_x10]; intro q; have := bD_t.mp q.2; omega)]; exact q12c.2.2
          exact ih x12 x14 x13 (by omega) (by omega) μ12 hI (by exact ((hJ12.2.1 23 1 rfl).trans (by exact ht))) (by rw [show μ12.1 24 = μ.1 24 from funext fun j => hJ12.2.1 24 j rfl]; exact hfT) (by exact hx13) (by exact (q1233.trans (by exact hx13))) (by exact (q1235.trans (by exact hx13))) ((by rw [show μ12.1 32 = m_up (μ.1 32) gc.toNatClampNeg q12x from q12K, show μ12.1 34 = m_up (μ.1 34) gc.toNatClampNeg q12y from q12L, show μ12.1 36 = m_up (μ.1 36) gc.toNatClampNeg q12z from q12V, m_cl1 (x := x13) (y := gc) (by omega) (by omega), show x12.toNatClampNeg = m_te fT t.toNatClampNeg y2.toNatClampNeg from by rw [hte]; have := m_ckI (x := x12) (by omega); omega]; exact hta.add (by have := m_ckI (x := y2) (by omega); have := m_ckI (x := t) (by omega); omega) (by rw [h_x10]; intro q; have := bB_t.mp q; omega) htk (by rw [q12c.2.1]; exact (m_ckI (by omega)).symm) htv)) _ _ hW ls (lv_sub hl [3, 4, 1, 0] rfl)
        · refine lv_if_eq (tgt := 69) hx hb dX8_takeApart_56 (by decide) (fun _ => ?_) (fun c => False.elim (by revert c; decide))
          refine lv_iload hx hb dX8_takeApart_69 (lv_at hl 0 rfl) ?_
          refine m_aI hW (m_runS (As := [.int x10]) (rest := []) hx hb hml hown hts hW (g_X8_isDigit_f l D cy b x10 μ hI.1) ms_X8_isDigit k_X8_42 rfl hl.1 rfl (Nat.le_of_ble_eq_true rfl) dX8_takeApart_71 ⟨Nat.le_of_ble_eq_true rfl, Nat.le_of_ble_eq_true rfl⟩ ⟨Nat.le_of_ble_eq_true rfl, Nat.le_of_ble_eq_true rfl⟩) (fun x15 μ15 H locs q15 hW => ?_)
          obtain ⟨q15_m, q15⟩ := q15
          subst q15_m
          rcases q15 with ⟨rfl, q15⟩ | ⟨rfl, q15⟩
          · refine lv_if_eq (tgt := 87) hx hb dX8_takeApart_74 (by decide) (fun c => False.elim (by revert c; decide)) (fun _ => ?_)
            have hlt : bD (μ.1 24 y2.toNatClampNeg).toInt = true := by rw [← ex10]; exact bD_t.mpr (by omega)
            refine lv_aload_n hx hb dX8_takeApart_77 rfl (lv_at hl 1 rfl) ?_
            refine lv_aload_n hx hb dX8_takeApart_78 rfl (lv_at hl 2 rfl) ?_
            refine lv_iload_n hx hb dX8_takeApart_79 rfl (lv_at hl 3 rfl) ?_
            refine m_aI hW (m_runV (As := [.ref (b + 23), .int y2]) (rest := []) hx hb hml hown hts hW (30) (g_X8_takeNumber_f l D cy b (fun g => [11, 15, 16].contains g) μ rfl rfl rfl gc (by omega) t (by omega) (μ.1 24) (μ.1 32) (μ.1 34) (μ.1 36) y2 (by omega) (by omega) μ (IY.rf hI.1) (by exact h31) (by exact h33) (by exact h35) (by exact ht) rfl rfl rfl rfl hlt) mi_X8_takeNumber k_X8_45 rfl rfl rfl hl.1 rfl (Nat.le_of_ble_eq_true rfl) dX8_takeApart_80 ⟨Nat.le_of_ble_eq_true rfl, Nat.le_of_ble_eq_true rfl⟩ ⟨Nat.le_of_ble_eq_true rfl, Nat.le_of_ble_eq_true rfl⟩) (fun x16 μ16 H locs q16 hW => ?_)
            obtain ⟨hJ16, q16⟩ := q16
            have hI := hI.tr hJ16 (m_subL (by simp [hS11, hS15, hS16]))
            obtain ⟨q16r, q16, q1633, q1635, q16x, q16y, q16z, q16K, q16L, q16V, q16c⟩ := q16
            obtain ⟨x17, hx17⟩ : ∃ z, μ16.1 31 1 = z := ⟨_, rfl⟩
            have bx17 : 0 ≤ x17.toInt ∧ x17.toInt ≤ 401 := by rw [← hx17]; exact hI.1 _ _ _ _ rfl
            rw [show μ16.1 31 1 = x17 from by exact hx17] at q16
            have hb_ := z_E_b (P := bD) (f := fT) (n := t.toNatClampNeg) (p := y2.toNatClampNeg) (by have := m_ckI (x := y2) (by omega); have := m_ckI (x := t) (by omega); omega)
            have hg_ := z_E_b (P := bD) (f := fT) (n := t.toNatClampNeg) (p := y2.toNatClampNeg + 1) (by have := m_ckI (x := y2) (by omega); have := m_ckI (x := t) (by omega); omega)
            have hh_ := z_E1 (P := bD) (f := fT) (n := t.toNatClampNeg) (p := y2.toNatClampNeg) (by have := m_ckI (x := y2) (by omega); have := m_ckI (x := t) (by omega); omega) (by rw [h_x10]; exact bD_t.mpr (by omega))
            have hr_ : x16.toInt = (z_E bD fT t.toNatClampNeg y2.toNatClampNeg : Nat) := by rw [← hfT]; exact q16r
            have bx16 : y2.toInt + 1 ≤ x16.toInt ∧ x16.toInt ≤ t.toInt := by have := m_ckI (x := y2) (by omega); have := m_ckI (x := t) (by omega); omega
            refine lv_istore_n (lv' := [(2, .int x16), (4, .int x10), (0, .ref (b + 30)), (1, .ref (b + 23)), (3, .int y3)]) hx hb dX8_takeApart_83 rfl hl (by decide) rfl (fun ls hl => ?_)
            refine lv_goto (tgt := 109) hx hb dX8_takeApart_84 (by decide) ?_
            obtain ⟨x18, ex18⟩ : ∃ z : Int32, z = y3 + 1 := ⟨_, rfl⟩
            refine lv_iinc (v := x18) (lv' := [(3, .int x18), (2, .int x16), (4, .int x10), (0, .ref (b + 30)), (1, .ref (b + 23))]) hx hb dX8_takeApart_109 hl (k := 4) rfl (by rw [ex18]; rfl) (by decide) rfl (fun ls hl => ?_)
            have tx18 : x18.toInt = y3.toInt + 1 := m_addI ex18 (rfl : y3.toInt = _) (by decide : (1 : Int32).toInt = 1) (by omega) (by omega)
            refine lv_goto (tgt := 28) hx hb dX8_takeApart_112 (by decide) ?_
            rw [hfT] at q16r q16c
            have hE : z_E bD fT t.toNatClampNeg y2.toNatClampNeg = z_E bD fT t.toNatClampNeg (y2.toNatClampNeg + 1) := z_E1 (by have := m_ckI (x := y2) (by omega); have := m_ckI (x := t) (by omega); omega) (by rw [h_x10]; exact bD_t.mpr (by omega))
            have hte : m_te fT t.toNatClampNeg y2.toNatClampNeg = z_E bD fT t.toNatClampNeg y2.toNatClampNeg := by rw [hE]; exact (by unfold m_te; rw [if_neg (by have := m_ckI (x := y2) (by omega); have := m_ckI (x := t) (by omega); omega), if_neg (by rw [h_x10]; intro q; have := bL_t.mp q; omega), if_pos (by rw [h_x10]; exact bD_t.mpr (by omega))])
            have htk : q16x.toInt = m_tk fT t.toNatClampNeg y2.toNatClampNeg := by
              unfold m_tk
              rw [if_neg (by have := m_ckI (x := y2) (by omega); have := m_ckI (x := t) (by omega); omega), if_neg (by rw [h_x10]; intro q; have := bL_t.mp q; omega), if_pos (by rw [h_x10]; exact bD_t.mpr (by omega)), hte]; exact q16c.1
            have htv : q16z = m_tv fT t.toNatClampNeg y2.toNatClampNeg := by
              unfold m_tv
              rw [if_pos ⟨by have := m_ckI (x := y2) (by omega); have := m_ckI (x := t) (by omega); omega, by rw [h_x10]; exact bD_t.mpr (by omega)⟩, hte]; exact q16c.2.2
            exact ih x16 x18 x17 (by omega) (by omega) μ16 hI (by exact ((hJ16.2.1 23 1 rfl).trans (by exact ht))) (by rw [show μ16.1 24 = μ.1 24 from funext fun j => hJ16.2.1 24 j rfl]; exact hfT) (by exact hx17) (by exact (q1633.trans (by exact hx17))) (by exact (q1635.trans (by exact hx17))) ((by rw [show μ16.1 32 = m_up (μ.1 32) gc.toNatClampNeg q16x from q16K, show μ16.1 34 = m_up (μ.1 34) gc.toNatClampNeg q16y from q16L, show μ16.1 36 = m_up (μ.1 36) gc.toNatClampNeg q16z from q16V, m_cl1 (x := x17) (y := gc) (by omega) (by omega), show x16.toNatClampNeg = m_te fT t.toNatClampNeg y2.toNatClampNeg from by rw [hte]; have := m_ckI (x := x16) (by omega); omega]; exact hta.add (by have := m_ckI (x := y2) (by omega); have := m_ckI (x := t) (by omega); omega) (by rw [h_x10]; intro q; have := bB_t.mp q; omega) htk (by rw [q16c.2.1]; exact (m_ckI (by omega)).symm) htv)) _ _ hW ls (lv_sub hl [3, 4, 1, 0] rfl)
          · refine lv_if_eq (tgt := 87) hx hb dX8_takeApart_74 (by decide) (fun _ => ?_) (fun c => False.elim (by revert c; decide))
            refine lv_iload hx hb dX8_takeApart_87 (lv_at hl 0 rfl) ?_
            refine m_aI hW (m_runS (As := [.int x10]) (rest := []) hx hb hml hown hts hW (g_X8_isBlank_f l D cy b x10 μ hI.1) ms_X8_isBlank k_X8_48 rfl hl.1 rfl (Nat.le_of_ble_eq_true rfl) dX8_takeApart_89 ⟨Nat.le_of_ble_eq_true rfl, Nat.le_of_ble_eq_true rfl⟩ ⟨Nat.le_of_ble_eq_true rfl, Nat.le_of_ble_eq_true rfl⟩) (fun x19 μ19 H locs q19 hW => ?_)
            obtain ⟨q19_m, q19⟩ := q19
            subst q19_m
            rcases q19 with ⟨rfl, q19⟩ | ⟨rfl, q19⟩
            · refine lv_if_ne (tgt := 106) hx hb dX8_takeApart_92 (by decide) (fun _ => ?_) (fun c => False.elim (by revert c; decide))
              obtain ⟨x20, ex20⟩ : ∃ z : Int32, z = y2 + 1 := ⟨_, rfl⟩
              refine lv_iinc (v := x20) (lv' := [(2, .int x20), (4, .int x10), (0, .ref (b + 30)), (1, .ref (b + 23)), (3, .int y3)]) hx hb dX8_takeApart_106 hl (k := 3) rfl (by rw [ex20]; rfl) (by decide) rfl (fun ls hl => ?_)
              have tx20 : x20.toInt = y2.toInt + 1 := m_addI ex20 (rfl : y2.toInt = _) (by decide : (1 : Int32).toInt = 1) (by omega) (by omega)
              obtain ⟨x21, ex21⟩ : ∃ z : Int32, z = y3 + 1 := ⟨_, rfl⟩
              refine lv_iinc (v := x21) (lv' := [(3, .int x21), (2, .int x20), (4, .int x10), (0, .ref (b + 30)), (1, .ref (b + 23))]) hx hb dX8_takeApart_109 hl (k := 4) rfl (by rw [ex21]; rfl) (by decide) rfl (fun ls hl => ?_)
              have tx21 : x21.toInt = y3.toInt + 1 := m_addI ex21 (rfl : y3.toInt = _) (by decide : (1 : Int32).toInt = 1) (by omega) (by omega)
              refine lv_goto (tgt := 28) hx hb dX8_takeApart_112 (by decide) ?_
              exact ih x20 x21 gc (by omega) (by omega) μ hI (by exact ht) (hfT) (by exact h31) (by exact h33) (by exact h35) ((by rw [m_cl1 (x := x20) (y := y2) (by omega) (by omega)]; exact hta.skip (by have := m_ckI (x := y2) (by omega); have := m_ckI (x := t) (by omega); omega) (by rw [h_x10]; exact bB_t.mpr (by omega)))) _ _ hW ls (lv_sub hl [3, 4, 1, 0] rfl)
            · refine lv_if_ne (tgt := 106) hx hb dX8_takeApart_92 (by decide) (fun c => False.elim (by revert c; decide)) (fun _ => ?_)
              refine lv_aload_n hx hb dX8_takeApart_95 rfl (lv_at hl 1 rfl) ?_
              refine lv_iload hx hb dX8_takeApart_96 (lv_at hl 0 rfl) ?_
              refine m_aI hW (m_runS (As := [.int x10]) (rest := [.ref (b + 30)]) hx hb hml hown hts hW (g_X8_kindOfSign_f l D cy b x10 μ hI.1) ms_X8_kindOfSign k_X8_51 rfl hl.1 rfl (Nat.le_of_ble_eq_true rfl) dX8_takeApart_98 ⟨Nat.le_of_ble_eq_true rfl, Nat.le_of_ble_eq_true rfl⟩ ⟨Nat.le_of_ble_eq_true rfl, Nat.le_of_ble_eq_true rfl⟩) (fun x22 μ22 H locs q22 hW => ?_)
              obtain ⟨q22_m, q22⟩ := q22
              subst q22_m
              refine lv_iload_n hx hb dX8_takeApart_101 rfl (lv_at hl 3 rfl) ?_
              refine lv_iconst (v := 0) hx hb dX8_takeApart_102 (by decide) ?_
              have l_0 : (0 : Int32).toInt = 0 := by decide
              refine m_aV hW (m_runV (As := [.int x22, .int y2, .int 0]) (rest := []) hx hb hml hown hts hW (30) (g_X8_keep_f l D cy b (fun g => [11, 15, 16].contains g) μ rfl rfl rfl gc (by omega) x22 y2 0 μ (IY.rf hI.1) (by exact h31) (by exact h33) (by exact h35)) mi_X8_keep k_X8_55 rfl rfl rfl hl.1 rfl (Nat.le_of_ble_eq_true rfl) dX8_takeApart_103 ⟨Nat.le_of_ble_eq_true rfl, Nat.le_of_ble_eq_true rfl⟩ ⟨Nat.le_of_ble_eq_true rfl, Nat.le_of_ble_eq_true rfl⟩) (fun μ23 H locs q23 hW => ?_)
              obtain ⟨hJ23, q23⟩ := q23
              have hI := hI.tr hJ23 (m_subL (by simp [hS11, hS15, hS16]))
              obtain ⟨q23, q2333, q2335, q23K, q23L, q23V⟩ := q23
              obtain ⟨x24, hx24⟩ : ∃ z, μ23.1 31 1 = z := ⟨_, rfl⟩
              have bx24 : 0 ≤ x24.toInt ∧ x24.toInt ≤ 401 := by rw [← hx24]; exact hI.1 _ _ _ _ rfl
              rw [show μ23.1 31 1 = x24 from by exact hx24] at q23
              obtain ⟨x25, ex25⟩ : ∃ z : Int32, z = y2 + 1 := ⟨_, rfl⟩
              refine lv_iinc (v := x25) (lv' := [(2, .int x25), (4, .int x10), (0, .ref (b + 30)), (1, .ref (b + 23)), (3, .int y3)]) hx hb dX8_takeApart_106 hl (k := 3) rfl (by rw [ex25]; rfl) (by decide) rfl (fun ls hl => ?_)
              have tx25 : x25.toInt = y2.toInt + 1 := m_addI ex25 (rfl : y2.toInt = _) (by decide : (1 : Int32).toInt = 1) (by omega) (by omega)
              obtain ⟨x26, ex26⟩ : ∃ z : Int32, z = y3 + 1 := ⟨_, rfl⟩
              refine lv_iinc (v := x26) (lv' := [(3, .int x26), (2, .int x25), (4, .int x10), (0, .ref (b + 30)), (1, .ref (b + 23))]) hx hb dX8_takeApart_109 hl (k := 4) rfl (by rw [ex26]; rfl) (by decide) rfl (fun ls hl => ?_)
              have tx26 : x26.toInt = y3.toInt + 1 := m_addI ex26 (rfl : y3.toInt = _) (by decide : (1 : Int32).toInt = 1) (by omega) (by omega)
              refine lv_goto (tgt := 28) hx hb dX8_takeApart_112 (by decide) ?_
              exact ih x25 x26 x24 (by omega) (by omega) μ23 hI (by exact ((hJ23.2.1 23 1 rfl).trans (by exact ht))) (by rw [show μ23.1 24 = μ.1 24 from funext fun j => hJ23.2.1 24 j rfl]; exact hfT) (by exact hx24) (by exact (q2333.trans (by exact hx24))) (by exact (q2335.trans (by exact hx24))) ((by rw [show μ23.1 32 = m_up (μ.1 32) gc.toNatClampNeg x22 from q23K, show μ23.1 34 = m_up (μ.1 34) gc.toNatClampNeg y2 from q23L, show μ23.1 36 = m_up (μ.1 36) gc.toNatClampNeg 0 from q23V, m_cl1 (x := x24) (y := gc) (by omega) (by omega), m_cl1 (x := x25) (y := y2) (by omega) (by omega)]; have hq := hta.add (x := x22) (y := y2) (z := 0) (by have := m_ckI (x := y2) (by omega); have := m_ckI (x := t) (by omega); omega) (by rw [h_x10]; intro q; have := bB_t.mp q; omega) (by unfold m_tk; rw [if_neg (by have := m_ckI (x := y2) (by omega); have := m_ckI (x := t) (by omega); omega), if_neg (by rw [h_x10]; intro q; have := bL_t.mp q; omega), if_neg (by rw [h_x10]; intro q; have := bD_t.mp q; omega), h_x10]; exact q22) ((m_ckI (by omega)).symm) (by unfold m_tv; rw [if_neg (by rw [h_x10]; intro q; have := bD_t.mp q.2; omega)]); rw [show m_te fT t.toNatClampNeg y2.toNatClampNeg = y2.toNatClampNeg + 1 from by unfold m_te; rw [if_neg (by have := m_ckI (x := y2) (by omega); have := m_ckI (x := t) (by omega); omega), if_neg (by rw [h_x10]; intro q; have := bL_t.mp q; omega), if_neg (by rw [h_x10]; intro q; have := bD_t.mp q; omega)]] at hq; exact hq)) _ _ hW ls (lv_sub hl [3, 4, 1, 0] rfl)
set_option maxHeartbeats 4000000 in
set_option maxRecDepth 100000 in
theorem g_X8_takeApart_f (l : Launch) (D : va_G) (cy : Nat → ClassId) (b oq oa ov : Nat) (S : Nat → Bool) (μ0 : mM) (hS11 : S 11 = true) (hS15 : S 15 = true) (hS16 : S 16 = true) (t : Int32) (h_t : 0 ≤ t.toInt ∧ t.toInt ≤ 400) (fT : Nat → Int32) (μ : mM) (hI : IY S μ0 μ) (ht : μ.1 23 1 = t) (hfT : μ.1 24 = fT) : m_CvO l yX8_takeApart cX8_takeApart 5 (none) 7 D cy b oq oa ov μ [.ref (b + 30), .ref (b + 23)] (fun ν => IY S μ0 ν ∧ (∃ cn : Nat, cn ≤ 400 ∧ (ν.1 31 1).toInt = cn + 1 ∧ (ν.1 33 1).toInt = cn + 1 ∧ (ν.1 35 1).toInt = cn + 1 ∧ m_TD (ν.1 32) (ν.1 34) (ν.1 36) fT t.toNatClampNeg cn)) := by
  unfold m_CvO
  refine m_ofO (by decide) (Nat.le_of_ble_eq_true rfl) ?_
  intro p e s m below meth c hx hb hr hml hown hts hlocks _ hW hO ls hl
  have hown : s.vm.findClass RX8 = some m.cls := hown
  have hl : lv_has ls 5 [(0, .ref (b + 30)), (1, .ref (b + 23))] := hl
  refine lv_aload_n hx hb dX8_takeApart_0 rfl (lv_at hl 0 rfl) ?_
  refine m_getr hx hb hts hown hW (30) 0 (31) rfl rfl cw_8 rfl (by decide) k_X8_14 dX8_takeApart_1 ?_
  refine lv_iconst (v := 0) hx hb dX8_takeApart_4 (by decide) ?_
  refine m_puti hx hb hts hown hW (31) 1 rfl rfl cw_5 tyX5_ok nmX5 rfl (by decide) k_X8_26 rfl rfl rfl dX8_takeApart_5 (fun H locs hW _ => ?_)
  generalize hμ1 : m_si μ (31) 1 0 = μ1 at hW
  have hI := hI.si1 hμ1 rfl (by decide) hS11
  refine lv_aload_n hx hb dX8_takeApart_8 rfl (lv_at hl 0 rfl) ?_
  refine m_getr hx hb hts hown hW (30) 1 (33) rfl rfl cw_8 rfl (by decide) k_X8_20 dX8_takeApart_9 ?_
  refine lv_iconst (v := 0) hx hb dX8_takeApart_12 (by decide) ?_
  refine m_puti hx hb hts hown hW (33) 1 rfl rfl cw_5 tyX5_ok nmX5 rfl (by decide) k_X8_26 rfl rfl rfl dX8_takeApart_13 (fun H locs hW _ => ?_)
  generalize hμ2 : m_si μ1 (33) 1 0 = μ2 at hW
  have hI := hI.si1 hμ2 rfl (by decide) hS15
  refine lv_aload_n hx hb dX8_takeApart_16 rfl (lv_at hl 0 rfl) ?_
  refine m_getr hx hb hts hown hW (30) 2 (35) rfl rfl cw_8 rfl (by decide) k_X8_23 dX8_takeApart_17 ?_
  refine lv_iconst (v := 0) hx hb dX8_takeApart_20 (by decide) ?_
  refine m_puti hx hb hts hown hW (35) 1 rfl rfl cw_5 tyX5_ok nmX5 rfl (by decide) k_X8_26 rfl rfl rfl dX8_takeApart_21 (fun H locs hW _ => ?_)
  generalize hμ3 : m_si μ2 (35) 1 0 = μ3 at hW
  have hI := hI.si1 hμ3 rfl (by decide) hS16
  refine lv_iconst (v := 0) hx hb dX8_takeApart_24 (by decide) ?_
  refine lv_istore_n (lv' := [(2, .int 0), (0, .ref (b + 30)), (1, .ref (b + 23))]) hx hb dX8_takeApart_25 rfl hl (by decide) rfl (fun ls hl => ?_)
  refine lv_iconst (v := 0) hx hb dX8_takeApart_26 (by decide) ?_
  refine lv_istore_n (lv' := [(3, .int 0), (2, .int 0), (0, .ref (b + 30)), (1, .ref (b + 23))]) hx hb dX8_takeApart_27 rfl hl (by decide) rfl (fun ls hl => ?_)
  have l_0 : (0 : Int32).toInt = 0 := by decide
  exact L_X8_takeApart_f_28 hx hb hr hml hown hts hlocks hO S μ0 hS11 hS15 hS16 t h_t fT  401 0 0 0 (by omega) (by omega) μ3 hI (by rw [← hμ3, ← hμ2, ← hμ1]; exact ht) (by rw [show μ3.1 24 = μ2.1 24 from by rw [← hμ3]; exact m_si_row (by decide), show μ2.1 24 = μ1.1 24 from by rw [← hμ2]; exact m_si_row (by decide), show μ1.1 24 = μ.1 24 from by rw [← hμ1]; exact m_si_row (by decide)]; exact hfT) (by rw [← hμ3, ← hμ2, ← hμ1]; first | rfl | exact if_pos ⟨rfl, rfl⟩) (by rw [← hμ3, ← hμ2]; first | rfl | exact if_pos ⟨rfl, rfl⟩) (by rw [← hμ3]; first | rfl | exact if_pos ⟨rfl, rfl⟩) (m_TA.z) _ _ hW ls (lv_sub hl [2, 3, 1, 0] rfl)
