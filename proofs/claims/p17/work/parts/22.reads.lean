theorem m_w82 {μ : mM} (h : IX μ) {i v : Int32} (e : v = μ.1 107 i.toNatClampNeg) : i.toInt = 82 → v.toInt = 32 := by
  intro hi
  have h1 := h 107 82 32 32 rfl
  have h2 : i.toNatClampNeg = 82 := by
    show i.toInt.toNat = 82
    omega
  rw [h2] at e
  rw [e]
  omega
set_option maxHeartbeats 4000000 in
set_option maxRecDepth 100000 in
theorem g_X12_raw (l : Launch) (D : va_G) (cy : Nat → ClassId) (b : Nat) (k : Int32) (h_k : 0 ≤ k.toInt ∧ k.toInt ≤ 400) (μ : mM) (hI : IX μ) : m_Ci l yX12_raw cX12_raw 2 ((some .int)) 0 D cy b LAY μ [.ref (b + 81), .int k] (fun r ν => μ = ν ∧ ((r = -1 ∧ ((μ.1 81 35).toInt ≤ k.toInt)) ∨ (r = μ.1 106 k.toNatClampNeg ∧ (k.toInt < (μ.1 81 35).toInt ∧ k.toInt ≤ 399 ∧ 0 ≤ r.toInt ∧ r.toInt ≤ 255)))) := by
  unfold m_Ci
  refine m_of (by decide) (Nat.le_of_ble_eq_true rfl) ?_
  intro p e s m below meth c hx hb hr hml hown hts hlocks _ hW ls hl
  have hown : s.vm.findClass RX12 = some m.cls := hown
  have hl : lv_has ls 2 [(0, .ref (b + 81)), (1, .int k)] := hl
  obtain ⟨tv, htv⟩ : ∃ z, μ.1 81 35 = z := ⟨_, rfl⟩
  have btv := hI _ _ _ _ (rfl : bX 81 35 = some (0, 400))
  rw [htv] at btv ⊢
  refine lv_iload_n hx hb dX12_raw_0 rfl (lv_at hl 1 rfl) ?_
  refine lv_aload_n hx hb dX12_raw_1 rfl (lv_at hl 0 rfl) ?_
  refine m_geti hx hb hts hown hW (81) 35 rfl rfl cw_12 rfl (by decide) k_X12_239 dX12_raw_2 ?_
  refine lv_topi (fun x1 ex1 => ?_)
  have ex1 : x1 = tv := by rw [ex1]; exact htv
  have ex1 := ex1.symm
  subst ex1
  refine lv_icmp_ge (tgt := 17) hx hb dX12_raw_5 (by decide) (fun c2 => ?_) (fun c2 => ?_)
  · have i2 := m_c3 (rfl : tv.toInt = _) (rfl : k.toInt = _) c2
    refine lv_iconst (v := (-1)) hx hb dX12_raw_17 (by decide) ?_
    exact m_iret hx hb hr hlocks hW rfl (⟨rfl, Or.inl ⟨rfl, by omega⟩⟩) dX12_raw_18
  · have i2 := m_c4 (rfl : tv.toInt = _) (rfl : k.toInt = _) c2
    refine lv_aload_n hx hb dX12_raw_8 rfl (lv_at hl 0 rfl) ?_
    refine m_getr hx hb hts hown hW (81) 34 (106) rfl rfl cw_12 rfl (by decide) k_X12_95 dX12_raw_9 ?_
    refine lv_iload_n hx hb dX12_raw_12 rfl (lv_at hl 1 rfl) ?_
    refine m_iald hx hb hW (106) rfl (m_ixI (rfl : k.toInt = _) (by omega) (by omega)) dX12_raw_13 ?_
    refine lv_topi (fun x3 ex3 => ?_)
    have bx3 : 0 ≤ x3.toInt ∧ x3.toInt ≤ 255 := by rw [ex3]; exact hI _ _ _ _ rfl
    refine lv_goto (tgt := 18) hx hb dX12_raw_14 (by decide) ?_
    exact m_iret hx hb hr hlocks hW rfl (⟨rfl, Or.inr ⟨ex3, by omega⟩⟩) dX12_raw_18
set_option maxHeartbeats 4000000 in
set_option maxRecDepth 100000 in
theorem g_X12_isLetter (l : Launch) (D : va_G) (cy : Nat → ClassId) (b : Nat) (k : Int32) (μ : mM) (hI : IX μ) : m_Ci l yX12_isLetter cX12_isLetter 2 ((some .boolean)) 1 D cy b LAY μ [.ref (b + 81), .int k] (fun r ν => μ = ν ∧ ((r = 1 ∧ (65 ≤ k.toInt)) ∨ (r = 0 ∧ (True)))) := by
  unfold m_Ci
  refine m_of (by decide) (Nat.le_of_ble_eq_true rfl) ?_
  intro p e s m below meth c hx hb hr hml hown hts hlocks _ hW ls hl
  have hown : s.vm.findClass RX12 = some m.cls := hown
  have hl : lv_has ls 2 [(0, .ref (b + 81)), (1, .int k)] := hl
  refine lv_aload_n hx hb dX12_isLetter_0 rfl (lv_at hl 0 rfl) ?_
  refine lv_iload_n hx hb dX12_isLetter_1 rfl (lv_at hl 1 rfl) ?_
  refine lv_bipush (v := 97) hx hb dX12_isLetter_2 (by decide) ?_
  refine lv_bipush (v := 122) hx hb dX12_isLetter_4 (by decide) ?_
  have l_97 : (97 : Int32).toInt = 97 := by decide
  have l_122 : (122 : Int32).toInt = 122 := by decide
  refine m_aI hW (m_runV (As := [.int k, .int 97, .int 122]) (rest := []) hx hb hml hown hts hW (81) (g_X12_isIn l D cy b k 97 122 μ hI) mi_X12_isIn k_X12_170 rfl rfl rfl hl.1 rfl (Nat.le_of_ble_eq_true rfl) dX12_isLetter_6 ⟨Nat.le_of_ble_eq_true rfl, Nat.le_of_ble_eq_true rfl⟩ ⟨Nat.le_of_ble_eq_true rfl, Nat.le_of_ble_eq_true rfl⟩) (fun x1 μ1 H locs q1 hW => ?_)
  obtain ⟨q1_m, q1⟩ := q1
  subst q1_m
  rcases q1 with ⟨rfl, q1⟩ | ⟨rfl, q1⟩
  · refine lv_if_ne (tgt := 24) hx hb dX12_isLetter_9 (by decide) (fun _ => ?_) (fun c => False.elim (by revert c; decide))
    refine lv_iconst (v := 1) hx hb dX12_isLetter_24 (by decide) ?_
    refine lv_goto (tgt := 29) hx hb dX12_isLetter_25 (by decide) ?_
    exact m_iret hx hb hr hlocks hW (by decide) (⟨rfl, Or.inl ⟨rfl, by omega⟩⟩) dX12_isLetter_29
  · refine lv_if_ne (tgt := 24) hx hb dX12_isLetter_9 (by decide) (fun c => False.elim (by revert c; decide)) (fun _ => ?_)
    refine lv_aload_n hx hb dX12_isLetter_12 rfl (lv_at hl 0 rfl) ?_
    refine lv_iload_n hx hb dX12_isLetter_13 rfl (lv_at hl 1 rfl) ?_
    refine lv_bipush (v := 65) hx hb dX12_isLetter_14 (by decide) ?_
    refine lv_bipush (v := 90) hx hb dX12_isLetter_16 (by decide) ?_
    have l_65 : (65 : Int32).toInt = 65 := by decide
    have l_90 : (90 : Int32).toInt = 90 := by decide
    refine m_aI hW (m_runV (As := [.int k, .int 65, .int 90]) (rest := []) hx hb hml hown hts hW (81) (g_X12_isIn l D cy b k 65 90 μ hI) mi_X12_isIn k_X12_170 rfl rfl rfl hl.1 rfl (Nat.le_of_ble_eq_true rfl) dX12_isLetter_18 ⟨Nat.le_of_ble_eq_true rfl, Nat.le_of_ble_eq_true rfl⟩ ⟨Nat.le_of_ble_eq_true rfl, Nat.le_of_ble_eq_true rfl⟩) (fun x2 μ2 H locs q2 hW => ?_)
    obtain ⟨q2_m, q2⟩ := q2
    subst q2_m
    rcases q2 with ⟨rfl, q2⟩ | ⟨rfl, q2⟩
    · refine lv_if_eq (tgt := 28) hx hb dX12_isLetter_21 (by decide) (fun c => False.elim (by revert c; decide)) (fun _ => ?_)
      refine lv_iconst (v := 1) hx hb dX12_isLetter_24 (by decide) ?_
      refine lv_goto (tgt := 29) hx hb dX12_isLetter_25 (by decide) ?_
      exact m_iret hx hb hr hlocks hW (by decide) (⟨rfl, Or.inl ⟨rfl, by omega⟩⟩) dX12_isLetter_29
    · refine lv_if_eq (tgt := 28) hx hb dX12_isLetter_21 (by decide) (fun _ => ?_) (fun c => False.elim (by revert c; decide))
      refine lv_iconst (v := 0) hx hb dX12_isLetter_28 (by decide) ?_
      exact m_iret hx hb hr hlocks hW (by decide) (⟨rfl, Or.inr ⟨rfl, trivial⟩⟩) dX12_isLetter_29
set_option maxHeartbeats 4000000 in
set_option maxRecDepth 100000 in
theorem g_X12_isDigit (l : Launch) (D : va_G) (cy : Nat → ClassId) (b : Nat) (k : Int32) (μ : mM) (hI : IX μ) : m_Ci l yX12_isDigit cX12_isDigit 2 ((some .boolean)) 1 D cy b LAY μ [.ref (b + 81), .int k] (fun r ν => μ = ν ∧ ((r = 1 ∧ (48 ≤ k.toInt ∧ k.toInt ≤ 57)) ∨ (r = 0 ∧ (True)))) := by
  unfold m_Ci
  refine m_of (by decide) (Nat.le_of_ble_eq_true rfl) ?_
  intro p e s m below meth c hx hb hr hml hown hts hlocks _ hW ls hl
  have hown : s.vm.findClass RX12 = some m.cls := hown
  have hl : lv_has ls 2 [(0, .ref (b + 81)), (1, .int k)] := hl
  refine lv_aload_n hx hb dX12_isDigit_0 rfl (lv_at hl 0 rfl) ?_
  refine lv_iload_n hx hb dX12_isDigit_1 rfl (lv_at hl 1 rfl) ?_
  refine lv_bipush (v := 48) hx hb dX12_isDigit_2 (by decide) ?_
  refine lv_bipush (v := 57) hx hb dX12_isDigit_4 (by decide) ?_
  have l_48 : (48 : Int32).toInt = 48 := by decide
  have l_57 : (57 : Int32).toInt = 57 := by decide
  refine m_aI hW (m_runV (As := [.int k, .int 48, .int 57]) (rest := []) hx hb hml hown hts hW (81) (g_X12_isIn l D cy b k 48 57 μ hI) mi_X12_isIn k_X12_170 rfl rfl rfl hl.1 rfl (Nat.le_of_ble_eq_true rfl) dX12_isDigit_6 ⟨Nat.le_of_ble_eq_true rfl, Nat.le_of_ble_eq_true rfl⟩ ⟨Nat.le_of_ble_eq_true rfl, Nat.le_of_ble_eq_true rfl⟩) (fun x1 μ1 H locs q1 hW => ?_)
  obtain ⟨q1_m, q1⟩ := q1
  subst q1_m
  rcases q1 with ⟨rfl, q1⟩ | ⟨rfl, q1⟩
  · exact m_iret hx hb hr hlocks hW (by decide) (⟨rfl, Or.inl ⟨rfl, by omega⟩⟩) dX12_isDigit_9
  · exact m_iret hx hb hr hlocks hW (by decide) (⟨rfl, Or.inr ⟨rfl, trivial⟩⟩) dX12_isDigit_9
set_option maxHeartbeats 4000000 in
set_option maxRecDepth 100000 in
theorem g_X12_isMarkSign (l : Launch) (D : va_G) (cy : Nat → ClassId) (b : Nat) (k : Int32) (μ : mM) (hI : IX μ) : m_Ci l yX12_isMarkSign cX12_isMarkSign 2 ((some .boolean)) 0 D cy b LAY μ [.ref (b + 81), .int k] (fun r ν => μ = ν ∧ ((r = 1 ∧ (True)) ∨ (r = 0 ∧ (True)))) := by
  unfold m_Ci
  refine m_of (by decide) (Nat.le_of_ble_eq_true rfl) ?_
  intro p e s m below meth c hx hb hr hml hown hts hlocks _ hW ls hl
  have hown : s.vm.findClass RX12 = some m.cls := hown
  have hl : lv_has ls 2 [(0, .ref (b + 81)), (1, .int k)] := hl
  refine lv_iload_n hx hb dX12_isMarkSign_0 rfl (lv_at hl 1 rfl) ?_
  refine lv_bipush (v := 59) hx hb dX12_isMarkSign_1 (by decide) ?_
  refine lv_icmp_eq (tgt := 36) hx hb dX12_isMarkSign_3 (by decide) (fun c1 => ?_) (fun c1 => ?_)
  · have i1 := m_c5 (rfl : k.toInt = _) (by decide : (59 : Int32).toInt = 59) c1
    refine lv_iconst (v := 1) hx hb dX12_isMarkSign_36 (by decide) ?_
    refine lv_goto (tgt := 41) hx hb dX12_isMarkSign_37 (by decide) ?_
    exact m_iret hx hb hr hlocks hW (by decide) (⟨rfl, Or.inl ⟨rfl, trivial⟩⟩) dX12_isMarkSign_41
  · have i1 := m_c6 (rfl : k.toInt = _) (by decide : (59 : Int32).toInt = 59) c1
    refine lv_iload_n hx hb dX12_isMarkSign_6 rfl (lv_at hl 1 rfl) ?_
    refine lv_bipush (v := 43) hx hb dX12_isMarkSign_7 (by decide) ?_
    refine lv_icmp_eq (tgt := 36) hx hb dX12_isMarkSign_9 (by decide) (fun c2 => ?_) (fun c2 => ?_)
    · have i2 := m_c5 (rfl : k.toInt = _) (by decide : (43 : Int32).toInt = 43) c2
      refine lv_iconst (v := 1) hx hb dX12_isMarkSign_36 (by decide) ?_
      refine lv_goto (tgt := 41) hx hb dX12_isMarkSign_37 (by decide) ?_
      exact m_iret hx hb hr hlocks hW (by decide) (⟨rfl, Or.inl ⟨rfl, trivial⟩⟩) dX12_isMarkSign_41
    · have i2 := m_c6 (rfl : k.toInt = _) (by decide : (43 : Int32).toInt = 43) c2
      refine lv_iload_n hx hb dX12_isMarkSign_12 rfl (lv_at hl 1 rfl) ?_
      refine lv_bipush (v := 45) hx hb dX12_isMarkSign_13 (by decide) ?_
      refine lv_icmp_eq (tgt := 36) hx hb dX12_isMarkSign_15 (by decide) (fun c3 => ?_) (fun c3 => ?_)
      · have i3 := m_c5 (rfl : k.toInt = _) (by decide : (45 : Int32).toInt = 45) c3
        refine lv_iconst (v := 1) hx hb dX12_isMarkSign_36 (by decide) ?_
        refine lv_goto (tgt := 41) hx hb dX12_isMarkSign_37 (by decide) ?_
        exact m_iret hx hb hr hlocks hW (by decide) (⟨rfl, Or.inl ⟨rfl, trivial⟩⟩) dX12_isMarkSign_41
      · have i3 := m_c6 (rfl : k.toInt = _) (by decide : (45 : Int32).toInt = 45) c3
        refine lv_iload_n hx hb dX12_isMarkSign_18 rfl (lv_at hl 1 rfl) ?_
        refine lv_bipush (v := 60) hx hb dX12_isMarkSign_19 (by decide) ?_
        refine lv_icmp_eq (tgt := 36) hx hb dX12_isMarkSign_21 (by decide) (fun c4 => ?_) (fun c4 => ?_)
        · have i4 := m_c5 (rfl : k.toInt = _) (by decide : (60 : Int32).toInt = 60) c4
          refine lv_iconst (v := 1) hx hb dX12_isMarkSign_36 (by decide) ?_
          refine lv_goto (tgt := 41) hx hb dX12_isMarkSign_37 (by decide) ?_
          exact m_iret hx hb hr hlocks hW (by decide) (⟨rfl, Or.inl ⟨rfl, trivial⟩⟩) dX12_isMarkSign_41
        · have i4 := m_c6 (rfl : k.toInt = _) (by decide : (60 : Int32).toInt = 60) c4
          refine lv_iload_n hx hb dX12_isMarkSign_24 rfl (lv_at hl 1 rfl) ?_
          refine lv_bipush (v := 61) hx hb dX12_isMarkSign_25 (by decide) ?_
          refine lv_icmp_eq (tgt := 36) hx hb dX12_isMarkSign_27 (by decide) (fun c5 => ?_) (fun c5 => ?_)
          · have i5 := m_c5 (rfl : k.toInt = _) (by decide : (61 : Int32).toInt = 61) c5
            refine lv_iconst (v := 1) hx hb dX12_isMarkSign_36 (by decide) ?_
            refine lv_goto (tgt := 41) hx hb dX12_isMarkSign_37 (by decide) ?_
            exact m_iret hx hb hr hlocks hW (by decide) (⟨rfl, Or.inl ⟨rfl, trivial⟩⟩) dX12_isMarkSign_41
          · have i5 := m_c6 (rfl : k.toInt = _) (by decide : (61 : Int32).toInt = 61) c5
            refine lv_iload_n hx hb dX12_isMarkSign_30 rfl (lv_at hl 1 rfl) ?_
            refine lv_bipush (v := 62) hx hb dX12_isMarkSign_31 (by decide) ?_
            refine lv_icmp_ne (tgt := 40) hx hb dX12_isMarkSign_33 (by decide) (fun c6 => ?_) (fun c6 => ?_)
            · have i6 := m_c6 (rfl : k.toInt = _) (by decide : (62 : Int32).toInt = 62) c6
              refine lv_iconst (v := 0) hx hb dX12_isMarkSign_40 (by decide) ?_
              exact m_iret hx hb hr hlocks hW (by decide) (⟨rfl, Or.inr ⟨rfl, trivial⟩⟩) dX12_isMarkSign_41
            · have i6 := m_c5 (rfl : k.toInt = _) (by decide : (62 : Int32).toInt = 62) c6
              refine lv_iconst (v := 1) hx hb dX12_isMarkSign_36 (by decide) ?_
              refine lv_goto (tgt := 41) hx hb dX12_isMarkSign_37 (by decide) ?_
              exact m_iret hx hb hr hlocks hW (by decide) (⟨rfl, Or.inl ⟨rfl, trivial⟩⟩) dX12_isMarkSign_41
set_option maxHeartbeats 4000000 in
set_option maxRecDepth 100000 in
theorem L_X12_wordAt_93 {p : Program} {l : Launch} {e : Env} {s : State} {m : MethodId} {args : Array Value} {below : List Frame} {meth : Method} {c : Code} {D : va_G} {cy : Nat → ClassId} {b : Nat} (hx : p.tables.exec = Jvm.exec) (hb : c.code = cX12_wordAt) (hr : meth.sig.returnType = ((some .int))) (hml : c.maxLocals = 6) (hown : s.vm.findClass RX12 = some m.cls) (hts : ∀ w ∈ TB, w.before args s = true) (hlocks : meth.locks = false) (μ1 : mM) (k u : Int32) (h_k : 0 ≤ k.toInt ∧ k.toInt ≤ 400) (h_u : 0 ≤ u.toInt ∧ u.toInt ≤ 400) (F5 : Nat) (O5 : ∀ (y3 y4 : Int32) (hy : -1 ≤ y3.toInt ∧ y3.toInt ≤ 82 ∧ 0 ≤ y4.toInt ∧ y4.toInt ≤ 82 ∧ y3.toInt ≤ y4.toInt) (hf : 82 - y4.toInt < (F5 : Int)) (μ : mM) (hI : IX μ) (hm : μ = μ1) (hl_ : ∀ j : Nat, k.toInt ≤ j → (j : Int) < u.toInt → 65 ≤ (μ.1 106 j).toInt) (H : Heap) (locs : List Loc), m_WA (m_A b LAY) D cy s b LAY μ H locs → ∀ ls : Array Slot, lv_has ls 6 [(0, .ref (b + 81)), (1, .int k), (2, .int u), (3, .int y3), (4, .int y4)] → W p l e (m_R 0 0 0) s m args below meth c H locs 0 0 (MQ below (m_Qi D cy b LAY (fun r ν => μ1 = ν ∧ (-1 ≤ r.toInt ∧ r.toInt ≤ 82))) args s 0 0 (m_A b LAY)) (F0 m 5 ls [])) : ∀ (f : Nat), ∀ (y3 y4 : Int32) (hy : 82 - y4.toInt < (F5 : Int) + 1 ∧ -1 ≤ y3.toInt ∧ y3.toInt ≤ 82 ∧ 0 ≤ y4.toInt ∧ y4.toInt ≤ 82 ∧ -1 ≤ y3.toInt ∧ y3.toInt ≤ 82 ∧ 0 ≤ y4.toInt ∧ y4.toInt ≤ 82 ∧ y3.toInt ≤ y4.toInt ∧ 82 - y4.toInt < F5) (hf : 82 - y4.toInt < (f : Int)) (μ : mM) (hI : IX μ) (hm : μ = μ1) (hl_ : ∀ j : Nat, k.toInt ≤ j → (j : Int) < u.toInt → 65 ≤ (μ.1 106 j).toInt) (H : Heap) (locs : List Loc), m_WA (m_A b LAY) D cy s b LAY μ H locs → ∀ ls : Array Slot, lv_has ls 6 [(0, .ref (b + 81)), (1, .int k), (2, .int u), (3, .int y3), (4, .int y4)] → W p l e (m_R 0 0 0) s m args below meth c H locs 0 0 (MQ below (m_Qi D cy b LAY (fun r ν => μ1 = ν ∧ (-1 ≤ r.toInt ∧ r.toInt ≤ 82))) args s 0 0 (m_A b LAY)) (F0 m 93 ls []) := by
  intro f
  induction f with
  | zero => intro y3 y4 hy hf; exfalso; omega
  | succ f ih =>
    intro y3 y4 hy hf μ hI hm hl_ H locs hW ls hl
    refine lv_aload_n hx hb dX12_wordAt_93 rfl (lv_at hl 0 rfl) ?_
    refine m_getr hx hb hts hown hW (81) 40 (107) rfl rfl cw_12 rfl (by decide) k_X12_98 dX12_wordAt_94 ?_
    refine lv_iload hx hb dX12_wordAt_97 (lv_at hl 4 rfl) ?_
    refine m_iald hx hb hW (107) rfl (m_ixI (rfl : y4.toInt = _) (by omega) (by omega)) dX12_wordAt_99 ?_
    refine lv_topi (fun x1 ex1 => ?_)
    have wx1 := m_w82 hI ex1
    refine lv_bipush (v := 32) hx hb dX12_wordAt_100 (by decide) ?_
    refine lv_icmp_eq (tgt := 114) hx hb dX12_wordAt_102 (by decide) (fun c2 => ?_) (fun c2 => ?_)
    · have i2 := m_c5 (rfl : x1.toInt = _) (by decide : (32 : Int32).toInt = 32) c2
      refine lv_goto (tgt := 5) hx hb dX12_wordAt_114 (by decide) ?_
      exact O5 y3 y4 (by omega) (by omega) μ hI hm (hl_) _ _ hW ls (lv_sub hl [0, 1, 2, 3, 4] rfl)
    · have i2 := m_c6 (rfl : x1.toInt = _) (by decide : (32 : Int32).toInt = 32) c2
      refine lv_iload hx hb dX12_wordAt_105 (lv_at hl 4 rfl) ?_
      refine lv_iconst (v := 1) hx hb dX12_wordAt_107 (by decide) ?_
      refine lv_iadd hx hb dX12_wordAt_108 ?_
      refine lv_topi (fun x3 ex3 => ?_)
      have tx3 : x3.toInt = y4.toInt + 1 := m_addI ex3 (rfl : y4.toInt = _) (by decide : (1 : Int32).toInt = 1) (by omega) (by omega)
      refine lv_istore (lv' := [(4, .int x3), (0, .ref (b + 81)), (1, .int k), (2, .int u), (3, .int y3)]) hx hb dX12_wordAt_109 hl (by decide) rfl (fun ls hl => ?_)
      refine lv_goto (tgt := 93) hx hb dX12_wordAt_111 (by decide) ?_
      exact ih y3 x3 (by omega) (by omega) μ hI hm (hl_) _ _ hW ls (lv_sub hl [1, 2, 3, 4, 0] rfl)
set_option maxHeartbeats 4000000 in
set_option maxRecDepth 100000 in
theorem L_X12_wordAt_19 {p : Program} {l : Launch} {e : Env} {s : State} {m : MethodId} {args : Array Value} {below : List Frame} {meth : Method} {c : Code} {D : va_G} {cy : Nat → ClassId} {b : Nat} (hx : p.tables.exec = Jvm.exec) (hb : c.code = cX12_wordAt) (hr : meth.sig.returnType = ((some .int))) (hml : c.maxLocals = 6) (hown : s.vm.findClass RX12 = some m.cls) (hts : ∀ w ∈ TB, w.before args s = true) (hlocks : meth.locks = false) (μ1 : mM) (k u : Int32) (h_k : 0 ≤ k.toInt ∧ k.toInt ≤ 400) (h_u : 0 ≤ u.toInt ∧ u.toInt ≤ 400) (F5 : Nat) (O5 : ∀ (y3 y4 : Int32) (hy : -1 ≤ y3.toInt ∧ y3.toInt ≤ 82 ∧ 0 ≤ y4.toInt ∧ y4.toInt ≤ 82 ∧ y3.toInt ≤ y4.toInt) (hf : 82 - y4.toInt < (F5 : Int)) (μ : mM) (hI : IX μ) (hm : μ = μ1) (hl_ : ∀ j : Nat, k.toInt ≤ j → (j : Int) < u.toInt → 65 ≤ (μ.1 106 j).toInt) (H : Heap) (locs : List Loc), m_WA (m_A b LAY) D cy s b LAY μ H locs → ∀ ls : Array Slot, lv_has ls 6 [(0, .ref (b + 81)), (1, .int k), (2, .int u), (3, .int y3), (4, .int y4)] → W p l e (m_R 0 0 0) s m args below meth c H locs 0 0 (MQ below (m_Qi D cy b LAY (fun r ν => μ1 = ν ∧ (-1 ≤ r.toInt ∧ r.toInt ≤ 82))) args s 0 0 (m_A b LAY)) (F0 m 5 ls [])) : ∀ (f : Nat), ∀ (y3 y4 y5 : Int32) (hy : 82 - y4.toInt < (F5 : Int) + 1 ∧ 0 ≤ y3.toInt ∧ y3.toInt ≤ 82 ∧ 0 ≤ y4.toInt ∧ y4.toInt ≤ 81 ∧ 0 ≤ y5.toInt ∧ y5.toInt ≤ 81 ∧ -1 ≤ y3.toInt ∧ y3.toInt ≤ 82 ∧ 0 ≤ y4.toInt ∧ y4.toInt ≤ 82 ∧ y3.toInt ≤ y4.toInt + 1 ∧ y4.toInt + 1 + y5.toInt ≤ 82) (hf : 82 - y5.toInt < (f : Int)) (μ : mM) (hI : IX μ) (hm : μ = μ1) (hl_ : ∀ j : Nat, k.toInt ≤ j → (j : Int) < u.toInt → 65 ≤ (μ.1 106 j).toInt) (H : Heap) (locs : List Loc), m_WA (m_A b LAY) D cy s b LAY μ H locs → ∀ ls : Array Slot, lv_has ls 6 [(0, .ref (b + 81)), (1, .int k), (2, .int u), (3, .int y3), (4, .int y4), (5, .int y5)] → W p l e (m_R 0 0 0) s m args below meth c H locs 0 0 (MQ below (m_Qi D cy b LAY (fun r ν => μ1 = ν ∧ (-1 ≤ r.toInt ∧ r.toInt ≤ 82))) args s 0 0 (m_A b LAY)) (F0 m 19 ls []) := by
  intro f
  induction f with
  | zero => intro y3 y4 y5 hy hf; exfalso; omega
  | succ f ih =>
    intro y3 y4 y5 hy hf μ hI hm hl_ H locs hW ls hl
    refine lv_iload_n hx hb dX12_wordAt_19 rfl (lv_at hl 1 rfl) ?_
    refine lv_iload hx hb dX12_wordAt_20 (lv_at hl 5 rfl) ?_
    refine lv_iadd hx hb dX12_wordAt_22 ?_
    refine lv_topi (fun x1 ex1 => ?_)
    have tx1 : x1.toInt = k.toInt + y5.toInt := m_addI ex1 (rfl : k.toInt = _) (rfl : y5.toInt = _) (by omega) (by omega)
    refine lv_iload_n hx hb dX12_wordAt_23 rfl (lv_at hl 2 rfl) ?_
    refine lv_icmp_ge (tgt := 60) hx hb dX12_wordAt_24 (by decide) (fun c2 => ?_) (fun c2 => ?_)
    · have i2 := m_c3 (rfl : u.toInt = _) (rfl : x1.toInt = _) c2
      refine lv_iload_n hx hb dX12_wordAt_60 rfl (lv_at hl 1 rfl) ?_
      refine lv_iload hx hb dX12_wordAt_61 (lv_at hl 5 rfl) ?_
      refine lv_iadd hx hb dX12_wordAt_63 ?_
      refine lv_topi (fun x3 ex3 => ?_)
      have ex3 : x3 = x1 := ex3.trans ex1.symm
      have ex3 := ex3.symm
      subst ex3
      refine lv_iload_n hx hb dX12_wordAt_64 rfl (lv_at hl 2 rfl) ?_
      refine lv_icmp_ne (tgt := 87) hx hb dX12_wordAt_65 (by decide) (fun c4 => ?_) (fun c4 => ?_)
      · have i4 := m_c6 (rfl : x1.toInt = _) (rfl : u.toInt = _) c4
        refine lv_iload hx hb dX12_wordAt_87 (lv_at hl 4 rfl) ?_
        refine lv_iconst (v := 1) hx hb dX12_wordAt_89 (by decide) ?_
        refine lv_iadd hx hb dX12_wordAt_90 ?_
        refine lv_topi (fun x5 ex5 => ?_)
        have tx5 : x5.toInt = y4.toInt + 1 := m_addI ex5 (rfl : y4.toInt = _) (by decide : (1 : Int32).toInt = 1) (by omega) (by omega)
        refine lv_istore (lv' := [(4, .int x5), (0, .ref (b + 81)), (1, .int k), (2, .int u), (3, .int y3), (5, .int y5)]) hx hb dX12_wordAt_91 hl (by decide) rfl (fun ls hl => ?_)
        exact L_X12_wordAt_93 hx hb hr hml hown hts hlocks μ1 k u h_k h_u F5 O5 83 y3 x5 (by omega) (by omega) μ hI hm (hl_) _ _ hW ls (lv_sub hl [1, 2, 3, 4, 0] rfl)
      · have i4 := m_c5 (rfl : x1.toInt = _) (rfl : u.toInt = _) c4
        refine lv_aload_n hx hb dX12_wordAt_68 rfl (lv_at hl 0 rfl) ?_
        refine m_getr hx hb hts hown hW (81) 40 (107) rfl rfl cw_12 rfl (by decide) k_X12_98 dX12_wordAt_69 ?_
        refine lv_iload hx hb dX12_wordAt_72 (lv_at hl 4 rfl) ?_
        refine lv_iconst (v := 1) hx hb dX12_wordAt_74 (by decide) ?_
        refine lv_iadd hx hb dX12_wordAt_75 ?_
        refine lv_topi (fun x6 ex6 => ?_)
        have tx6 : x6.toInt = y4.toInt + 1 := m_addI ex6 (rfl : y4.toInt = _) (by decide : (1 : Int32).toInt = 1) (by omega) (by omega)
        refine lv_iload hx hb dX12_wordAt_76 (lv_at hl 5 rfl) ?_
        refine lv_iadd hx hb dX12_wordAt_78 ?_
        refine lv_topi (fun x7 ex7 => ?_)
        have tx7 : x7.toInt = x6.toInt + y5.toInt := m_addI ex7 (rfl : x6.toInt = _) (rfl : y5.toInt = _) (by omega) (by omega)
        refine m_iald hx hb hW (107) rfl (m_ixI (rfl : x7.toInt = _) (by omega) (by omega)) dX12_wordAt_79 ?_
        refine lv_topi (fun x8 ex8 => ?_)
        have wx8 := m_w82 hI ex8
        refine lv_bipush (v := 32) hx hb dX12_wordAt_80 (by decide) ?_
        refine lv_icmp_ne (tgt := 87) hx hb dX12_wordAt_82 (by decide) (fun c9 => ?_) (fun c9 => ?_)
        · have i9 := m_c6 (rfl : x8.toInt = _) (by decide : (32 : Int32).toInt = 32) c9
          refine lv_iload hx hb dX12_wordAt_87 (lv_at hl 4 rfl) ?_
          refine lv_iconst (v := 1) hx hb dX12_wordAt_89 (by decide) ?_
          refine lv_iadd hx hb dX12_wordAt_90 ?_
          refine lv_topi (fun x10 ex10 => ?_)
          have ex10 : x10 = x6 := ex10.trans ex6.symm
          have ex10 := ex10.symm
          subst ex10
          refine lv_istore (lv' := [(4, .int x6), (0, .ref (b + 81)), (1, .int k), (2, .int u), (3, .int y3), (5, .int y5)]) hx hb dX12_wordAt_91 hl (by decide) rfl (fun ls hl => ?_)
          exact L_X12_wordAt_93 hx hb hr hml hown hts hlocks μ1 k u h_k h_u F5 O5 83 y3 x6 (by omega) (by omega) μ hI hm (hl_) _ _ hW ls (lv_sub hl [1, 2, 3, 4, 0] rfl)
        · have i9 := m_c5 (rfl : x8.toInt = _) (by decide : (32 : Int32).toInt = 32) c9
          refine lv_iload_n hx hb dX12_wordAt_85 rfl (lv_at hl 3 rfl) ?_
          exact m_iret hx hb hr hlocks hW rfl (⟨hm.symm, by omega⟩) dX12_wordAt_86
    · have i2 := m_c4 (rfl : u.toInt = _) (rfl : x1.toInt = _) c2
      refine lv_aload_n hx hb dX12_wordAt_27 rfl (lv_at hl 0 rfl) ?_
      refine m_getr hx hb hts hown hW (81) 40 (107) rfl rfl cw_12 rfl (by decide) k_X12_98 dX12_wordAt_28 ?_
      refine lv_iload hx hb dX12_wordAt_31 (lv_at hl 4 rfl) ?_
      refine lv_iconst (v := 1) hx hb dX12_wordAt_33 (by decide) ?_
      refine lv_iadd hx hb dX12_wordAt_34 ?_
      refine lv_topi (fun x11 ex11 => ?_)
      have tx11 : x11.toInt = y4.toInt + 1 := m_addI ex11 (rfl : y4.toInt = _) (by decide : (1 : Int32).toInt = 1) (by omega) (by omega)
      refine lv_iload hx hb dX12_wordAt_35 (lv_at hl 5 rfl) ?_
      refine lv_iadd hx hb dX12_wordAt_37 ?_
      refine lv_topi (fun x12 ex12 => ?_)
      have tx12 : x12.toInt = x11.toInt + y5.toInt := m_addI ex12 (rfl : x11.toInt = _) (rfl : y5.toInt = _) (by omega) (by omega)
      refine m_iald hx hb hW (107) rfl (m_ixI (rfl : x12.toInt = _) (by omega) (by omega)) dX12_wordAt_38 ?_
      refine lv_topi (fun x13 ex13 => ?_)
      have wx13 := m_w82 hI ex13
      refine lv_aload_n hx hb dX12_wordAt_39 rfl (lv_at hl 0 rfl) ?_
      refine m_getr hx hb hts hown hW (81) 34 (106) rfl rfl cw_12 rfl (by decide) k_X12_95 dX12_wordAt_40 ?_
      refine lv_iload_n hx hb dX12_wordAt_43 rfl (lv_at hl 1 rfl) ?_
      refine lv_iload hx hb dX12_wordAt_44 (lv_at hl 5 rfl) ?_
      refine lv_iadd hx hb dX12_wordAt_46 ?_
      refine lv_topi (fun x14 ex14 => ?_)
      have ex14 : x14 = x1 := ex14.trans ex1.symm
      have ex14 := ex14.symm
      subst ex14
      refine m_iald hx hb hW (106) rfl (m_ixI (rfl : x1.toInt = _) (by omega) (by omega)) dX12_wordAt_47 ?_
      refine lv_topi (fun x15 ex15 => ?_)
      have bx15 : 0 ≤ x15.toInt ∧ x15.toInt ≤ 255 := by rw [ex15]; exact hI _ _ _ _ rfl
      have lx15 : 65 ≤ x15.toInt := by rw [ex15]; exact hl_ _ (by rw [m_ckI (x := x1) (by omega)]; omega) (by rw [m_ckI (x := x1) (by omega)]; omega)
      refine lv_icmp_ne (tgt := 60) hx hb dX12_wordAt_48 (by decide) (fun c16 => ?_) (fun c16 => ?_)
      · have i16 := m_c6 (rfl : x13.toInt = _) (rfl : x15.toInt = _) c16
        refine lv_iload_n hx hb dX12_wordAt_60 rfl (lv_at hl 1 rfl) ?_
        refine lv_iload hx hb dX12_wordAt_61 (lv_at hl 5 rfl) ?_
        refine lv_iadd hx hb dX12_wordAt_63 ?_
        refine lv_topi (fun x17 ex17 => ?_)
        have ex17 : x17 = x1 := ex17.trans ex1.symm
        have ex17 := ex17.symm
        subst ex17
        refine lv_iload_n hx hb dX12_wordAt_64 rfl (lv_at hl 2 rfl) ?_
        refine lv_icmp_ne (tgt := 87) hx hb dX12_wordAt_65 (by decide) (fun c18 => ?_) (fun c18 => ?_)
        · have i18 := m_c6 (rfl : x1.toInt = _) (rfl : u.toInt = _) c18
          refine lv_iload hx hb dX12_wordAt_87 (lv_at hl 4 rfl) ?_
          refine lv_iconst (v := 1) hx hb dX12_wordAt_89 (by decide) ?_
          refine lv_iadd hx hb dX12_wordAt_90 ?_
          refine lv_topi (fun x19 ex19 => ?_)
          have ex19 : x19 = x11 := ex19.trans ex11.symm
          have ex19 := ex19.symm
          subst ex19
          refine lv_istore (lv' := [(4, .int x11), (0, .ref (b + 81)), (1, .int k), (2, .int u), (3, .int y3), (5, .int y5)]) hx hb dX12_wordAt_91 hl (by decide) rfl (fun ls hl => ?_)
          exact L_X12_wordAt_93 hx hb hr hml hown hts hlocks μ1 k u h_k h_u F5 O5 83 y3 x11 (by omega) (by omega) μ hI hm (hl_) _ _ hW ls (lv_sub hl [1, 2, 3, 4, 0] rfl)
        · have i18 := m_c5 (rfl : x1.toInt = _) (rfl : u.toInt = _) c18
          refine lv_aload_n hx hb dX12_wordAt_68 rfl (lv_at hl 0 rfl) ?_
          refine m_getr hx hb hts hown hW (81) 40 (107) rfl rfl cw_12 rfl (by decide) k_X12_98 dX12_wordAt_69 ?_
          refine lv_iload hx hb dX12_wordAt_72 (lv_at hl 4 rfl) ?_
          refine lv_iconst (v := 1) hx hb dX12_wordAt_74 (by decide) ?_
          refine lv_iadd hx hb dX12_wordAt_75 ?_
          refine lv_topi (fun x20 ex20 => ?_)
          have ex20 : x20 = x11 := ex20.trans ex11.symm
          have ex20 := ex20.symm
          subst ex20
          refine lv_iload hx hb dX12_wordAt_76 (lv_at hl 5 rfl) ?_
          refine lv_iadd hx hb dX12_wordAt_78 ?_
          refine lv_topi (fun x21 ex21 => ?_)
          have ex21 : x21 = x12 := ex21.trans ex12.symm
          have ex21 := ex21.symm
          subst ex21
          refine m_iald hx hb hW (107) rfl (m_ixI (rfl : x12.toInt = _) (by omega) (by omega)) dX12_wordAt_79 ?_
          refine lv_topi (fun x22 ex22 => ?_)
          have ex22 : x22 = x13 := by rw [ex22]; exact ex13.symm
          have ex22 := ex22.symm
          subst ex22
          refine lv_bipush (v := 32) hx hb dX12_wordAt_80 (by decide) ?_
          refine lv_icmp_ne (tgt := 87) hx hb dX12_wordAt_82 (by decide) (fun c23 => ?_) (fun c23 => ?_)
          · have i23 := m_c6 (rfl : x13.toInt = _) (by decide : (32 : Int32).toInt = 32) c23
            refine lv_iload hx hb dX12_wordAt_87 (lv_at hl 4 rfl) ?_
            refine lv_iconst (v := 1) hx hb dX12_wordAt_89 (by decide) ?_
            refine lv_iadd hx hb dX12_wordAt_90 ?_
            refine lv_topi (fun x24 ex24 => ?_)
            have ex24 : x24 = x11 := ex24.trans ex11.symm
            have ex24 := ex24.symm
            subst ex24
            refine lv_istore (lv' := [(4, .int x11), (0, .ref (b + 81)), (1, .int k), (2, .int u), (3, .int y3), (5, .int y5)]) hx hb dX12_wordAt_91 hl (by decide) rfl (fun ls hl => ?_)
            exact L_X12_wordAt_93 hx hb hr hml hown hts hlocks μ1 k u h_k h_u F5 O5 83 y3 x11 (by omega) (by omega) μ hI hm (hl_) _ _ hW ls (lv_sub hl [1, 2, 3, 4, 0] rfl)
          · have i23 := m_c5 (rfl : x13.toInt = _) (by decide : (32 : Int32).toInt = 32) c23
            refine lv_iload_n hx hb dX12_wordAt_85 rfl (lv_at hl 3 rfl) ?_
            exact m_iret hx hb hr hlocks hW rfl (⟨hm.symm, by omega⟩) dX12_wordAt_86
      · have i16 := m_c5 (rfl : x13.toInt = _) (rfl : x15.toInt = _) c16
        refine lv_iload hx hb dX12_wordAt_51 (lv_at hl 5 rfl) ?_
        refine lv_iconst (v := 1) hx hb dX12_wordAt_53 (by decide) ?_
        refine lv_iadd hx hb dX12_wordAt_54 ?_
        refine lv_topi (fun x25 ex25 => ?_)
        have tx25 : x25.toInt = y5.toInt + 1 := m_addI ex25 (rfl : y5.toInt = _) (by decide : (1 : Int32).toInt = 1) (by omega) (by omega)
        refine lv_istore (lv' := [(5, .int x25), (0, .ref (b + 81)), (1, .int k), (2, .int u), (3, .int y3), (4, .int y4)]) hx hb dX12_wordAt_55 hl (by decide) rfl (fun ls hl => ?_)
        refine lv_goto (tgt := 19) hx hb dX12_wordAt_57 (by decide) ?_
        exact ih y3 y4 x25 (by omega) (by omega) μ hI hm (hl_) _ _ hW ls (lv_sub hl [1, 2, 3, 4, 5, 0] rfl)
set_option maxHeartbeats 4000000 in
set_option maxRecDepth 100000 in
theorem L_X12_wordAt_5 {p : Program} {l : Launch} {e : Env} {s : State} {m : MethodId} {args : Array Value} {below : List Frame} {meth : Method} {c : Code} {D : va_G} {cy : Nat → ClassId} {b : Nat} (hx : p.tables.exec = Jvm.exec) (hb : c.code = cX12_wordAt) (hr : meth.sig.returnType = ((some .int))) (hml : c.maxLocals = 6) (hown : s.vm.findClass RX12 = some m.cls) (hts : ∀ w ∈ TB, w.before args s = true) (hlocks : meth.locks = false) (μ1 : mM) (k u : Int32) (h_k : 0 ≤ k.toInt ∧ k.toInt ≤ 400) (h_u : 0 ≤ u.toInt ∧ u.toInt ≤ 400) : ∀ (f : Nat), ∀ (y3 y4 : Int32) (hy : -1 ≤ y3.toInt ∧ y3.toInt ≤ 82 ∧ 0 ≤ y4.toInt ∧ y4.toInt ≤ 82 ∧ y3.toInt ≤ y4.toInt) (hf : 82 - y4.toInt < (f : Int)) (μ : mM) (hI : IX μ) (hm : μ = μ1) (hl_ : ∀ j : Nat, k.toInt ≤ j → (j : Int) < u.toInt → 65 ≤ (μ.1 106 j).toInt) (H : Heap) (locs : List Loc), m_WA (m_A b LAY) D cy s b LAY μ H locs → ∀ ls : Array Slot, lv_has ls 6 [(0, .ref (b + 81)), (1, .int k), (2, .int u), (3, .int y3), (4, .int y4)] → W p l e (m_R 0 0 0) s m args below meth c H locs 0 0 (MQ below (m_Qi D cy b LAY (fun r ν => μ1 = ν ∧ (-1 ≤ r.toInt ∧ r.toInt ≤ 82))) args s 0 0 (m_A b LAY)) (F0 m 5 ls []) := by
  intro f
  induction f with
  | zero => intro y3 y4 hy hf; exfalso; omega
  | succ f ih =>
    intro y3 y4 hy hf μ hI hm hl_ H locs hW ls hl
    refine lv_iload hx hb dX12_wordAt_5 (lv_at hl 4 rfl) ?_
    refine lv_bipush (v := 82) hx hb dX12_wordAt_7 (by decide) ?_
    refine lv_icmp_ge (tgt := 117) hx hb dX12_wordAt_9 (by decide) (fun c1 => ?_) (fun c1 => ?_)
    · have i1 := m_c3 (by decide : (82 : Int32).toInt = 82) (rfl : y4.toInt = _) c1
      refine lv_iconst (v := (-1)) hx hb dX12_wordAt_117 (by decide) ?_
      exact m_iret hx hb hr hlocks hW rfl (⟨hm.symm, by decide⟩) dX12_wordAt_118
    · have i1 := m_c4 (by decide : (82 : Int32).toInt = 82) (rfl : y4.toInt = _) c1
      refine lv_iconst (v := 0) hx hb dX12_wordAt_12 (by decide) ?_
      refine lv_istore (lv' := [(5, .int 0), (0, .ref (b + 81)), (1, .int k), (2, .int u), (3, .int y3), (4, .int y4)]) hx hb dX12_wordAt_13 hl (by decide) rfl (fun ls hl => ?_)
      refine lv_iload_n hx hb dX12_wordAt_15 rfl (lv_at hl 4 rfl) ?_
      refine lv_iconst (v := 1) hx hb dX12_wordAt_16 (by decide) ?_
      refine lv_iadd hx hb dX12_wordAt_17 ?_
      refine lv_topi (fun x2 ex2 => ?_)
      have tx2 : x2.toInt = y3.toInt + 1 := m_addI ex2 (rfl : y3.toInt = _) (by decide : (1 : Int32).toInt = 1) (by omega) (by omega)
      refine lv_istore_n (lv' := [(3, .int x2), (5, .int 0), (0, .ref (b + 81)), (1, .int k), (2, .int u), (4, .int y4)]) hx hb dX12_wordAt_18 rfl hl (by decide) rfl (fun ls hl => ?_)
      have l_0 : (0 : Int32).toInt = 0 := by decide
      exact L_X12_wordAt_19 hx hb hr hml hown hts hlocks μ1 k u h_k h_u f ih 83 x2 y4 0 (by omega) (by omega) μ hI hm (hl_) _ _ hW ls (lv_sub hl [2, 3, 4, 0, 5, 1] rfl)
set_option maxHeartbeats 4000000 in
set_option maxRecDepth 100000 in
theorem g_X12_wordAt (l : Launch) (D : va_G) (cy : Nat → ClassId) (b : Nat) (k u : Int32) (h_k : 0 ≤ k.toInt ∧ k.toInt ≤ 400) (h_u : 0 ≤ u.toInt ∧ u.toInt ≤ 400) (μ : mM) (hI : IX μ) (hl_ : ∀ j : Nat, k.toInt ≤ j → (j : Int) < u.toInt → 65 ≤ (μ.1 106 j).toInt) : m_Ci l yX12_wordAt cX12_wordAt 6 ((some .int)) 0 D cy b LAY μ [.ref (b + 81), .int k, .int u] (fun r ν => μ = ν ∧ (-1 ≤ r.toInt ∧ r.toInt ≤ 82)) := by
  unfold m_Ci
  refine m_of (by decide) (Nat.le_of_ble_eq_true rfl) ?_
  intro p e s m below meth c hx hb hr hml hown hts hlocks _ hW ls hl
  have hown : s.vm.findClass RX12 = some m.cls := hown
  have hl : lv_has ls 6 [(0, .ref (b + 81)), (1, .int k), (2, .int u)] := hl
  refine lv_iconst (v := (-1)) hx hb dX12_wordAt_0 (by decide) ?_
  refine lv_istore_n (lv' := [(3, .int (-1)), (0, .ref (b + 81)), (1, .int k), (2, .int u)]) hx hb dX12_wordAt_1 rfl hl (by decide) rfl (fun ls hl => ?_)
  refine lv_iconst (v := 0) hx hb dX12_wordAt_2 (by decide) ?_
  refine lv_istore (lv' := [(4, .int 0), (3, .int (-1)), (0, .ref (b + 81)), (1, .int k), (2, .int u)]) hx hb dX12_wordAt_3 hl (by decide) rfl (fun ls hl => ?_)
  have l_m1 : ((-1) : Int32).toInt = (-1) := by decide
  have l_0 : (0 : Int32).toInt = 0 := by decide
  exact L_X12_wordAt_5 hx hb hr hml hown hts hlocks μ k u h_k h_u  83 (-1) 0 (by omega) (by omega) μ hI rfl (hl_) _ _ hW ls (lv_sub hl [2, 3, 4, 1, 0] rfl)
set_option maxHeartbeats 4000000 in
set_option maxRecDepth 100000 in
theorem L_X12_reads_171 {p : Program} {l : Launch} {e : Env} {s : State} {m : MethodId} {args : Array Value} {below : List Frame} {meth : Method} {c : Code} {D : va_G} {cy : Nat → ClassId} {b : Nat} (hx : p.tables.exec = Jvm.exec) (hb : c.code = cX12_reads) (hr : meth.sig.returnType = (none)) (hml : c.maxLocals = 2) (hown : s.vm.findClass RX12 = some m.cls) (hts : ∀ w ∈ TB, w.before args s = true) (hlocks : meth.locks = false) (S : Nat → Bool) (μ0 : mM) (hS24 : S 24 = true) (av : Int32) (h_av : 0 ≤ av.toInt ∧ av.toInt ≤ 400) : ∀ (f : Nat), ∀ (ga : Int32) (fv : Int32) (tk : Int32) (vv : Int32) (hy : av.toInt ≤ fv.toInt ∧ 0 ≤ fv.toInt ∧ fv.toInt + 1 ≤ ga.toInt ∧ ga.toInt ≤ 400 ∧ tk.toInt = 1 ∧ 0 ≤ vv.toInt ∧ vv.toInt ≤ 99999) (hf : 400 - ga.toInt < (f : Int)) (μ : mM) (hI : IY S μ0 μ) (h_ga : μ.1 81 36 = ga) (h_fv : μ.1 81 37 = fv) (h_tk : μ.1 81 38 = tk) (h_vv : μ.1 81 39 = vv) (H : Heap) (locs : List Loc), m_WA (m_A b LAY) D cy s b LAY μ H locs → ∀ ls : Array Slot, lv_has ls 2 [(0, .ref (b + 81))] → W p l e (m_R 2 0 0) s m args below meth c H locs 0 0 (MQ below (m_Qv D cy b LAY (fun ν => IY S μ0 ν ∧ (av.toInt ≤ (ν.1 81 37).toInt ∧ (ν.1 81 37).toInt ≤ (ν.1 81 36).toInt ∧ ((ν.1 81 38).toInt = 0 ∨ (ν.1 81 37).toInt + 1 ≤ (ν.1 81 36).toInt) ∧ ((ν.1 81 38).toInt = 3 → 0 ≤ (ν.1 81 39).toInt)))) args s 0 0 (m_A b LAY)) (F0 m 171 ls []) := by
  intro f
  induction f with
  | zero => intro  ga fv tk vv hy hf; exfalso; omega
  | succ f ih =>
    intro  ga fv tk vv hy hf μ hI h_ga h_fv h_tk h_vv H locs hW ls hl
    refine lv_aload_n hx hb dX12_reads_171 rfl (lv_at hl 0 rfl) ?_
    refine lv_aload_n hx hb dX12_reads_172 rfl (lv_at hl 0 rfl) ?_
    refine lv_aload_n hx hb dX12_reads_173 rfl (lv_at hl 0 rfl) ?_
    refine m_geti hx hb hts hown hW (81) 36 rfl rfl cw_12 rfl (by decide) k_X12_245 dX12_reads_174 ?_
    refine lv_topi (fun x1 ex1 => ?_)
    have ex1 : x1 = ga := by rw [ex1]; exact h_ga
    have ex1 := ex1.symm
    subst ex1
    refine m_aI hW (m_runV (As := [.int ga]) (rest := [.ref (b + 81)]) hx hb hml hown hts hW (81) (g_X12_raw l D cy b ga (by omega) μ hI.1) mi_X12_raw k_X12_248 rfl rfl rfl hl.1 rfl (Nat.le_of_ble_eq_true rfl) dX12_reads_177 ⟨Nat.le_of_ble_eq_true rfl, Nat.le_of_ble_eq_true rfl⟩ ⟨Nat.le_of_ble_eq_true rfl, Nat.le_of_ble_eq_true rfl⟩) (fun x2 μ2 H locs q2 hW => ?_)
    obtain ⟨q2_m, q2⟩ := q2
    subst q2_m
    rcases q2 with ⟨rfl, q2⟩ | q2
    · have l_m1 : ((-1) : Int32).toInt = (-1) := by decide
      refine m_aI hW (m_runV (As := [.int (-1)]) (rest := []) hx hb hml hown hts hW (81) (g_X12_isDigit l D cy b (-1) μ hI.1) mi_X12_isDigit k_X12_267 rfl rfl rfl hl.1 rfl (Nat.le_of_ble_eq_true rfl) dX12_reads_180 ⟨Nat.le_of_ble_eq_true rfl, Nat.le_of_ble_eq_true rfl⟩ ⟨Nat.le_of_ble_eq_true rfl, Nat.le_of_ble_eq_true rfl⟩) (fun x3 μ3 H locs q3 hW => ?_)
      obtain ⟨q3_m, q3⟩ := q3
      subst q3_m
      rcases q3 with ⟨rfl, q3⟩ | ⟨rfl, q3⟩
      · exfalso; omega
      · refine lv_if_eq (tgt := 239) hx hb dX12_reads_183 (by decide) (fun _ => ?_) (fun c => False.elim (by revert c; decide))
        refine lv_aload_n hx hb dX12_reads_239 rfl (lv_at hl 0 rfl) ?_
        refine m_geti hx hb hts hown hW (81) 36 rfl rfl cw_12 rfl (by decide) k_X12_245 dX12_reads_240 ?_
        refine lv_topi (fun x4 ex4 => ?_)
        have ex4 : x4 = ga := by rw [ex4]; exact h_ga
        have ex4 := ex4.symm
        subst ex4
        refine lv_aload_n hx hb dX12_reads_243 rfl (lv_at hl 0 rfl) ?_
        refine m_geti hx hb hts hown hW (81) 37 rfl rfl cw_12 rfl (by decide) k_X12_251 dX12_reads_244 ?_
        refine lv_topi (fun x5 ex5 => ?_)
        have ex5 : x5 = fv := by rw [ex5]; exact h_fv
        have ex5 := ex5.symm
        subst ex5
        refine lv_isub hx hb dX12_reads_247 ?_
        refine lv_topi (fun x6 ex6 => ?_)
        have tx6 : x6.toInt = ga.toInt - fv.toInt := m_subI ex6 (rfl : ga.toInt = _) (rfl : fv.toInt = _) (by omega) (by omega)
        refine lv_iconst (v := 5) hx hb dX12_reads_248 (by decide) ?_
        refine lv_icmp_ge (tgt := 273) hx hb dX12_reads_249 (by decide) (fun c7 => ?_) (fun c7 => ?_)
        · have i7 := m_c3 (by decide : (5 : Int32).toInt = 5) (rfl : x6.toInt = _) c7
          exact m_vret hx hb hr hlocks hW (⟨hI, by rw [show μ.1 81 36 = ga from by exact h_ga, show μ.1 81 37 = fv from by exact h_fv, show μ.1 81 38 = tk from by exact h_tk, show μ.1 81 39 = vv from by exact h_vv]; omega⟩) dX12_reads_273
        · have i7 := m_c4 (by decide : (5 : Int32).toInt = 5) (rfl : x6.toInt = _) c7
          refine lv_aload_n hx hb dX12_reads_252 rfl (lv_at hl 0 rfl) ?_
          refine lv_iconst (v := 3) hx hb dX12_reads_253 (by decide) ?_
          refine m_puti hx hb hts hown hW (81) 38 rfl rfl cw_12 tyX12_ok nmX12 rfl (by decide) k_X12_254 rfl rfl rfl dX12_reads_254 (fun H locs hW _ => ?_)
          generalize hμ8 : m_si μ (81) 38 3 = μ8 at hW
          have hI := hI.si1 hμ8 rfl (by decide) hS24
          refine lv_goto (tgt := 273) hx hb dX12_reads_257 (by decide) ?_
          have l_3 : (3 : Int32).toInt = 3 := by decide
          exact m_vret hx hb hr hlocks hW (⟨hI, by rw [show μ8.1 81 36 = ga from by rw [← hμ8]; exact h_ga, show μ8.1 81 37 = fv from by rw [← hμ8]; exact h_fv, show μ8.1 81 38 = 3 from by rw [← hμ8]; first | rfl | exact if_pos ⟨rfl, rfl⟩, show μ8.1 81 39 = vv from by rw [← hμ8]; exact h_vv]; omega⟩) dX12_reads_273
    · have bx2 := q2.2
      refine m_aI hW (m_runV (As := [.int x2]) (rest := []) hx hb hml hown hts hW (81) (g_X12_isDigit l D cy b x2 μ hI.1) mi_X12_isDigit k_X12_267 rfl rfl rfl hl.1 rfl (Nat.le_of_ble_eq_true rfl) dX12_reads_180 ⟨Nat.le_of_ble_eq_true rfl, Nat.le_of_ble_eq_true rfl⟩ ⟨Nat.le_of_ble_eq_true rfl, Nat.le_of_ble_eq_true rfl⟩) (fun x9 μ9 H locs q9 hW => ?_)
      obtain ⟨q9_m, q9⟩ := q9
      subst q9_m
      rcases q9 with ⟨rfl, q9⟩ | ⟨rfl, q9⟩
      · refine lv_if_eq (tgt := 239) hx hb dX12_reads_183 (by decide) (fun c => False.elim (by revert c; decide)) (fun _ => ?_)
        refine lv_aload_n hx hb dX12_reads_186 rfl (lv_at hl 0 rfl) ?_
        refine lv_aload_n hx hb dX12_reads_187 rfl (lv_at hl 0 rfl) ?_
        refine m_geti hx hb hts hown hW (81) 39 rfl rfl cw_12 rfl (by decide) k_X12_257 dX12_reads_188 ?_
        refine lv_topi (fun x10 ex10 => ?_)
        have ex10 : x10 = vv := by rw [ex10]; exact h_vv
        have ex10 := ex10.symm
        subst ex10
        refine lv_sipush (v := 10000) hx hb dX12_reads_191 (by decide) ?_
        refine lv_icmp_ge (tgt := 219) hx hb dX12_reads_194 (by decide) (fun c11 => ?_) (fun c11 => ?_)
        · have i11 := m_c3 (by decide : (10000 : Int32).toInt = 10000) (rfl : vv.toInt = _) c11
          refine lv_aload_n hx hb dX12_reads_219 rfl (lv_at hl 0 rfl) ?_
          refine m_geti hx hb hts hown hW (81) 39 rfl rfl cw_12 rfl (by decide) k_X12_257 dX12_reads_220 ?_
          refine lv_topi (fun x12 ex12 => ?_)
          have ex12 : x12 = vv := by rw [ex12]; exact h_vv
          have ex12 := ex12.symm
          subst ex12
          refine m_puti hx hb hts hown hW (81) 39 rfl rfl cw_12 tyX12_ok nmX12 rfl (by decide) k_X12_257 rfl rfl rfl dX12_reads_223 (fun H locs hW _ => ?_)
          generalize hμ13 : m_si μ (81) 39 vv = μ13 at hW
          have hI := hI.si1 hμ13 rfl (by omega) hS24
          refine lv_aload_n hx hb dX12_reads_226 rfl (lv_at hl 0 rfl) ?_
          refine lv_aload_n hx hb dX12_reads_227 rfl (lv_at hl 0 rfl) ?_
          refine m_geti hx hb hts hown hW (81) 36 rfl rfl cw_12 rfl (by decide) k_X12_245 dX12_reads_228 ?_
          refine lv_topi (fun x14 ex14 => ?_)
          have ex14 : x14 = ga := by rw [ex14, ← hμ13]; exact h_ga
          have ex14 := ex14.symm
          subst ex14
          refine lv_iconst (v := 1) hx hb dX12_reads_231 (by decide) ?_
          refine lv_iadd hx hb dX12_reads_232 ?_
          refine lv_topi (fun x15 ex15 => ?_)
          have tx15 : x15.toInt = ga.toInt + 1 := m_addI ex15 (rfl : ga.toInt = _) (by decide : (1 : Int32).toInt = 1) (by omega) (by omega)
          refine m_puti hx hb hts hown hW (81) 36 rfl rfl cw_12 tyX12_ok nmX12 rfl (by decide) k_X12_245 rfl rfl rfl dX12_reads_233 (fun H locs hW _ => ?_)
          generalize hμ16 : m_si μ13 (81) 36 x15 = μ16 at hW
          have hI := hI.si1 hμ16 rfl (by omega) hS24
          refine lv_goto (tgt := 171) hx hb dX12_reads_236 (by decide) ?_
          exact ih  x15 fv tk vv (by omega) (by omega) μ16 hI (by rw [← hμ16]; first | rfl | exact if_pos ⟨rfl, rfl⟩) (by rw [← hμ16, ← hμ13]; exact h_fv) (by rw [← hμ16, ← hμ13]; exact h_tk) (by rw [← hμ16, ← hμ13]; first | rfl | exact if_pos ⟨rfl, rfl⟩) _ _ hW ls (lv_sub hl [0] rfl)
        · have i11 := m_c4 (by decide : (10000 : Int32).toInt = 10000) (rfl : vv.toInt = _) c11
          refine lv_bipush (v := 10) hx hb dX12_reads_197 (by decide) ?_
          refine lv_aload_n hx hb dX12_reads_199 rfl (lv_at hl 0 rfl) ?_
          refine m_geti hx hb hts hown hW (81) 39 rfl rfl cw_12 rfl (by decide) k_X12_257 dX12_reads_200 ?_
          refine lv_topi (fun x17 ex17 => ?_)
          have ex17 : x17 = vv := by rw [ex17]; exact h_vv
          have ex17 := ex17.symm
          subst ex17
          refine lv_imul hx hb dX12_reads_203 ?_
          refine lv_topi (fun x18 ex18 => ?_)
          have tx18 : x18.toInt = 10 * vv.toInt := m_mulI ex18 (by decide : (10 : Int32).toInt = 10) (rfl : vv.toInt = _) (by omega) (by omega)
          refine lv_aload_n hx hb dX12_reads_204 rfl (lv_at hl 0 rfl) ?_
          refine lv_aload_n hx hb dX12_reads_205 rfl (lv_at hl 0 rfl) ?_
          refine m_geti hx hb hts hown hW (81) 36 rfl rfl cw_12 rfl (by decide) k_X12_245 dX12_reads_206 ?_
          refine lv_topi (fun x19 ex19 => ?_)
          have ex19 : x19 = ga := by rw [ex19]; exact h_ga
          have ex19 := ex19.symm
          subst ex19
          refine m_aI hW (m_runV (As := [.int ga]) (rest := [.int x18, .ref (b + 81)]) hx hb hml hown hts hW (81) (g_X12_raw l D cy b ga (by omega) μ hI.1) mi_X12_raw k_X12_248 rfl rfl rfl hl.1 rfl (Nat.le_of_ble_eq_true rfl) dX12_reads_209 ⟨Nat.le_of_ble_eq_true rfl, Nat.le_of_ble_eq_true rfl⟩ ⟨Nat.le_of_ble_eq_true rfl, Nat.le_of_ble_eq_true rfl⟩) (fun x20 μ20 H locs q20 hW => ?_)
          obtain ⟨q20_m, q20⟩ := q20
          subst q20_m
          rcases q20 with q20 | q20
          · exfalso; omega
          have hq20 := q2.1.trans q20.1.symm
          subst hq20
          refine lv_iadd hx hb dX12_reads_212 ?_
          refine lv_topi (fun x21 ex21 => ?_)
          have tx21 : x21.toInt = x18.toInt + x2.toInt := m_addI ex21 (rfl : x18.toInt = _) (rfl : x2.toInt = _) (by omega) (by omega)
          refine lv_bipush (v := 48) hx hb dX12_reads_213 (by decide) ?_
          refine lv_isub hx hb dX12_reads_215 ?_
          refine lv_topi (fun x22 ex22 => ?_)
          have tx22 : x22.toInt = x21.toInt - 48 := m_subI ex22 (rfl : x21.toInt = _) (by decide : (48 : Int32).toInt = 48) (by omega) (by omega)
          refine lv_goto (tgt := 223) hx hb dX12_reads_216 (by decide) ?_
          refine m_puti hx hb hts hown hW (81) 39 rfl rfl cw_12 tyX12_ok nmX12 rfl (by decide) k_X12_257 rfl rfl rfl dX12_reads_223 (fun H locs hW _ => ?_)
          generalize hμ23 : m_si μ (81) 39 x22 = μ23 at hW
          have hI := hI.si1 hμ23 rfl (by omega) hS24
          refine lv_aload_n hx hb dX12_reads_226 rfl (lv_at hl 0 rfl) ?_
          refine lv_aload_n hx hb dX12_reads_227 rfl (lv_at hl 0 rfl) ?_
          refine m_geti hx hb hts hown hW (81) 36 rfl rfl cw_12 rfl (by decide) k_X12_245 dX12_reads_228 ?_
          refine lv_topi (fun x24 ex24 => ?_)
          have ex24 : x24 = ga := by rw [ex24, ← hμ23]; exact h_ga
          have ex24 := ex24.symm
          subst ex24
          refine lv_iconst (v := 1) hx hb dX12_reads_231 (by decide) ?_
          refine lv_iadd hx hb dX12_reads_232 ?_
          refine lv_topi (fun x25 ex25 => ?_)
          have tx25 : x25.toInt = ga.toInt + 1 := m_addI ex25 (rfl : ga.toInt = _) (by decide : (1 : Int32).toInt = 1) (by omega) (by omega)
          refine m_puti hx hb hts hown hW (81) 36 rfl rfl cw_12 tyX12_ok nmX12 rfl (by decide) k_X12_245 rfl rfl rfl dX12_reads_233 (fun H locs hW _ => ?_)
          generalize hμ26 : m_si μ23 (81) 36 x25 = μ26 at hW
          have hI := hI.si1 hμ26 rfl (by omega) hS24
          refine lv_goto (tgt := 171) hx hb dX12_reads_236 (by decide) ?_
          exact ih  x25 fv tk x22 (by omega) (by omega) μ26 hI (by rw [← hμ26]; first | rfl | exact if_pos ⟨rfl, rfl⟩) (by rw [← hμ26, ← hμ23]; exact h_fv) (by rw [← hμ26, ← hμ23]; exact h_tk) (by rw [← hμ26, ← hμ23]; first | rfl | exact if_pos ⟨rfl, rfl⟩) _ _ hW ls (lv_sub hl [0] rfl)
      · refine lv_if_eq (tgt := 239) hx hb dX12_reads_183 (by decide) (fun _ => ?_) (fun c => False.elim (by revert c; decide))
        refine lv_aload_n hx hb dX12_reads_239 rfl (lv_at hl 0 rfl) ?_
        refine m_geti hx hb hts hown hW (81) 36 rfl rfl cw_12 rfl (by decide) k_X12_245 dX12_reads_240 ?_
        refine lv_topi (fun x27 ex27 => ?_)
        have ex27 : x27 = ga := by rw [ex27]; exact h_ga
        have ex27 := ex27.symm
        subst ex27
        refine lv_aload_n hx hb dX12_reads_243 rfl (lv_at hl 0 rfl) ?_
        refine m_geti hx hb hts hown hW (81) 37 rfl rfl cw_12 rfl (by decide) k_X12_251 dX12_reads_244 ?_
        refine lv_topi (fun x28 ex28 => ?_)
        have ex28 : x28 = fv := by rw [ex28]; exact h_fv
        have ex28 := ex28.symm
        subst ex28
        refine lv_isub hx hb dX12_reads_247 ?_
        refine lv_topi (fun x29 ex29 => ?_)
        have tx29 : x29.toInt = ga.toInt - fv.toInt := m_subI ex29 (rfl : ga.toInt = _) (rfl : fv.toInt = _) (by omega) (by omega)
        refine lv_iconst (v := 5) hx hb dX12_reads_248 (by decide) ?_
        refine lv_icmp_ge (tgt := 273) hx hb dX12_reads_249 (by decide) (fun c30 => ?_) (fun c30 => ?_)
        · have i30 := m_c3 (by decide : (5 : Int32).toInt = 5) (rfl : x29.toInt = _) c30
          exact m_vret hx hb hr hlocks hW (⟨hI, by rw [show μ.1 81 36 = ga from by exact h_ga, show μ.1 81 37 = fv from by exact h_fv, show μ.1 81 38 = tk from by exact h_tk, show μ.1 81 39 = vv from by exact h_vv]; omega⟩) dX12_reads_273
        · have i30 := m_c4 (by decide : (5 : Int32).toInt = 5) (rfl : x29.toInt = _) c30
          refine lv_aload_n hx hb dX12_reads_252 rfl (lv_at hl 0 rfl) ?_
          refine lv_iconst (v := 3) hx hb dX12_reads_253 (by decide) ?_
          refine m_puti hx hb hts hown hW (81) 38 rfl rfl cw_12 tyX12_ok nmX12 rfl (by decide) k_X12_254 rfl rfl rfl dX12_reads_254 (fun H locs hW _ => ?_)
          generalize hμ31 : m_si μ (81) 38 3 = μ31 at hW
          have hI := hI.si1 hμ31 rfl (by decide) hS24
          refine lv_goto (tgt := 273) hx hb dX12_reads_257 (by decide) ?_
          have l_3 : (3 : Int32).toInt = 3 := by decide
          exact m_vret hx hb hr hlocks hW (⟨hI, by rw [show μ31.1 81 36 = ga from by rw [← hμ31]; exact h_ga, show μ31.1 81 37 = fv from by rw [← hμ31]; exact h_fv, show μ31.1 81 38 = 3 from by rw [← hμ31]; first | rfl | exact if_pos ⟨rfl, rfl⟩, show μ31.1 81 39 = vv from by rw [← hμ31]; exact h_vv]; omega⟩) dX12_reads_273
set_option maxHeartbeats 4000000 in
set_option maxRecDepth 100000 in
theorem L_X12_reads_95 {p : Program} {l : Launch} {e : Env} {s : State} {m : MethodId} {args : Array Value} {below : List Frame} {meth : Method} {c : Code} {D : va_G} {cy : Nat → ClassId} {b : Nat} (hx : p.tables.exec = Jvm.exec) (hb : c.code = cX12_reads) (hr : meth.sig.returnType = (none)) (hml : c.maxLocals = 2) (hown : s.vm.findClass RX12 = some m.cls) (hts : ∀ w ∈ TB, w.before args s = true) (hlocks : meth.locks = false) (S : Nat → Bool) (μ0 : mM) (hS24 : S 24 = true) (av : Int32) (h_av : 0 ≤ av.toInt ∧ av.toInt ≤ 400) : ∀ (f : Nat), ∀ (ga : Int32) (fv : Int32) (tk : Int32) (hy : av.toInt ≤ fv.toInt ∧ 0 ≤ fv.toInt ∧ fv.toInt + 1 ≤ ga.toInt ∧ ga.toInt ≤ 400 ∧ tk.toInt = 1) (hf : 400 - ga.toInt < (f : Int)) (μ : mM) (hI : IY S μ0 μ) (h_ga : μ.1 81 36 = ga) (h_fv : μ.1 81 37 = fv) (h_tk : μ.1 81 38 = tk) (hl_ : ∀ j : Nat, fv.toInt ≤ j → (j : Int) < ga.toInt → 65 ≤ (μ.1 106 j).toInt) (H : Heap) (locs : List Loc), m_WA (m_A b LAY) D cy s b LAY μ H locs → ∀ ls : Array Slot, lv_has ls 2 [(0, .ref (b + 81))] → W p l e (m_R 2 0 0) s m args below meth c H locs 0 0 (MQ below (m_Qv D cy b LAY (fun ν => IY S μ0 ν ∧ (av.toInt ≤ (ν.1 81 37).toInt ∧ (ν.1 81 37).toInt ≤ (ν.1 81 36).toInt ∧ ((ν.1 81 38).toInt = 0 ∨ (ν.1 81 37).toInt + 1 ≤ (ν.1 81 36).toInt) ∧ ((ν.1 81 38).toInt = 3 → 0 ≤ (ν.1 81 39).toInt)))) args s 0 0 (m_A b LAY)) (F0 m 95 ls []) := by
  intro f
  induction f with
  | zero => intro  ga fv tk hy hf; exfalso; omega
  | succ f ih =>
    intro  ga fv tk hy hf μ hI h_ga h_fv h_tk hl_ H locs hW ls hl
    refine lv_aload_n hx hb dX12_reads_95 rfl (lv_at hl 0 rfl) ?_
    refine lv_aload_n hx hb dX12_reads_96 rfl (lv_at hl 0 rfl) ?_
    refine lv_aload_n hx hb dX12_reads_97 rfl (lv_at hl 0 rfl) ?_
    refine m_geti hx hb hts hown hW (81) 36 rfl rfl cw_12 rfl (by decide) k_X12_245 dX12_reads_98 ?_
    refine lv_topi (fun x1 ex1 => ?_)
    have ex1 : x1 = ga := by rw [ex1]; exact h_ga
    have ex1 := ex1.symm
    subst ex1
    refine m_aI hW (m_runV (As := [.int ga]) (rest := [.ref (b + 81)]) hx hb hml hown hts hW (81) (g_X12_raw l D cy b ga (by omega) μ hI.1) mi_X12_raw k_X12_248 rfl rfl rfl hl.1 rfl (Nat.le_of_ble_eq_true rfl) dX12_reads_101 ⟨Nat.le_of_ble_eq_true rfl, Nat.le_of_ble_eq_true rfl⟩ ⟨Nat.le_of_ble_eq_true rfl, Nat.le_of_ble_eq_true rfl⟩) (fun x2 μ2 H locs q2 hW => ?_)
    obtain ⟨q2_m, q2⟩ := q2
    subst q2_m
    rcases q2 with ⟨rfl, q2⟩ | q2
    · have l_m1 : ((-1) : Int32).toInt = (-1) := by decide
      refine m_aI hW (m_runV (As := [.int (-1)]) (rest := []) hx hb hml hown hts hW (81) (g_X12_isLetter l D cy b (-1) μ hI.1) mi_X12_isLetter k_X12_260 rfl rfl rfl hl.1 rfl (Nat.le_of_ble_eq_true rfl) dX12_reads_104 ⟨Nat.le_of_ble_eq_true rfl, Nat.le_of_ble_eq_true rfl⟩ ⟨Nat.le_of_ble_eq_true rfl, Nat.le_of_ble_eq_true rfl⟩) (fun x3 μ3 H locs q3 hW => ?_)
      obtain ⟨q3_m, q3⟩ := q3
      subst q3_m
      rcases q3 with ⟨rfl, q3⟩ | ⟨rfl, q3⟩
      · exfalso; omega
      · refine lv_if_eq (tgt := 123) hx hb dX12_reads_107 (by decide) (fun _ => ?_) (fun c => False.elim (by revert c; decide))
        refine lv_aload_n hx hb dX12_reads_123 rfl (lv_at hl 0 rfl) ?_
        refine lv_aload_n hx hb dX12_reads_124 rfl (lv_at hl 0 rfl) ?_
        refine lv_aload_n hx hb dX12_reads_125 rfl (lv_at hl 0 rfl) ?_
        refine m_geti hx hb hts hown hW (81) 37 rfl rfl cw_12 rfl (by decide) k_X12_251 dX12_reads_126 ?_
        refine lv_topi (fun x4 ex4 => ?_)
        have ex4 : x4 = fv := by rw [ex4]; exact h_fv
        have ex4 := ex4.symm
        subst ex4
        refine lv_aload_n hx hb dX12_reads_129 rfl (lv_at hl 0 rfl) ?_
        refine m_geti hx hb hts hown hW (81) 36 rfl rfl cw_12 rfl (by decide) k_X12_245 dX12_reads_130 ?_
        refine lv_topi (fun x5 ex5 => ?_)
        have ex5 : x5 = ga := by rw [ex5]; exact h_ga
        have ex5 := ex5.symm
        subst ex5
        refine m_aI hW (m_runV (As := [.int fv, .int ga]) (rest := [.ref (b + 81)]) hx hb hml hown hts hW (81) (g_X12_wordAt l D cy b fv ga (by omega) (by omega) μ hI.1 (hl_)) mi_X12_wordAt k_X12_263 rfl rfl rfl hl.1 rfl (Nat.le_of_ble_eq_true rfl) dX12_reads_133 ⟨Nat.le_of_ble_eq_true rfl, Nat.le_of_ble_eq_true rfl⟩ ⟨Nat.le_of_ble_eq_true rfl, Nat.le_of_ble_eq_true rfl⟩) (fun x6 μ6 H locs q6 hW => ?_)
        obtain ⟨q6_m, q6⟩ := q6
        subst q6_m
        refine m_puti hx hb hts hown hW (81) 39 rfl rfl cw_12 tyX12_ok nmX12 rfl (by decide) k_X12_257 rfl rfl rfl dX12_reads_136 (fun H locs hW _ => ?_)
        generalize hμ7 : m_si μ (81) 39 x6 = μ7 at hW
        have hI := hI.si1 hμ7 rfl (by omega) hS24
        refine lv_aload_n hx hb dX12_reads_139 rfl (lv_at hl 0 rfl) ?_
        refine m_geti hx hb hts hown hW (81) 39 rfl rfl cw_12 rfl (by decide) k_X12_257 dX12_reads_140 ?_
        refine lv_topi (fun x8 ex8 => ?_)
        have ex8 : x8 = x6 := by rw [ex8, ← hμ7]; first | rfl | exact if_pos ⟨rfl, rfl⟩
        have ex8 := ex8.symm
        subst ex8
        refine lv_iconst (v := (-1)) hx hb dX12_reads_143 (by decide) ?_
        refine lv_icmp_eq (tgt := 273) hx hb dX12_reads_144 (by decide) (fun c9 => ?_) (fun c9 => ?_)
        · have i9 := m_c5 (rfl : x6.toInt = _) (by decide : ((-1) : Int32).toInt = (-1)) c9
          exact m_vret hx hb hr hlocks hW (⟨hI, by rw [show μ7.1 81 36 = ga from by rw [← hμ7]; exact h_ga, show μ7.1 81 37 = fv from by rw [← hμ7]; exact h_fv, show μ7.1 81 38 = tk from by rw [← hμ7]; exact h_tk, show μ7.1 81 39 = x6 from by rw [← hμ7]; first | rfl | exact if_pos ⟨rfl, rfl⟩]; omega⟩) dX12_reads_273
        · have i9 := m_c6 (rfl : x6.toInt = _) (by decide : ((-1) : Int32).toInt = (-1)) c9
          refine lv_aload_n hx hb dX12_reads_147 rfl (lv_at hl 0 rfl) ?_
          refine lv_iconst (v := 2) hx hb dX12_reads_148 (by decide) ?_
          refine m_puti hx hb hts hown hW (81) 38 rfl rfl cw_12 tyX12_ok nmX12 rfl (by decide) k_X12_254 rfl rfl rfl dX12_reads_149 (fun H locs hW _ => ?_)
          generalize hμ10 : m_si μ7 (81) 38 2 = μ10 at hW
          have hI := hI.si1 hμ10 rfl (by decide) hS24
          refine lv_goto (tgt := 273) hx hb dX12_reads_152 (by decide) ?_
          have l_2 : (2 : Int32).toInt = 2 := by decide
          exact m_vret hx hb hr hlocks hW (⟨hI, by rw [show μ10.1 81 36 = ga from by rw [← hμ10, ← hμ7]; exact h_ga, show μ10.1 81 37 = fv from by rw [← hμ10, ← hμ7]; exact h_fv, show μ10.1 81 38 = 2 from by rw [← hμ10]; first | rfl | exact if_pos ⟨rfl, rfl⟩, show μ10.1 81 39 = x6 from by rw [← hμ10, ← hμ7]; first | rfl | exact if_pos ⟨rfl, rfl⟩]; omega⟩) dX12_reads_273
    · have bx2 := q2.2
      refine m_aI hW (m_runV (As := [.int x2]) (rest := []) hx hb hml hown hts hW (81) (g_X12_isLetter l D cy b x2 μ hI.1) mi_X12_isLetter k_X12_260 rfl rfl rfl hl.1 rfl (Nat.le_of_ble_eq_true rfl) dX12_reads_104 ⟨Nat.le_of_ble_eq_true rfl, Nat.le_of_ble_eq_true rfl⟩ ⟨Nat.le_of_ble_eq_true rfl, Nat.le_of_ble_eq_true rfl⟩) (fun x11 μ11 H locs q11 hW => ?_)
      obtain ⟨q11_m, q11⟩ := q11
      subst q11_m
      rcases q11 with ⟨rfl, q11⟩ | ⟨rfl, q11⟩
      · refine lv_if_eq (tgt := 123) hx hb dX12_reads_107 (by decide) (fun c => False.elim (by revert c; decide)) (fun _ => ?_)
        refine lv_aload_n hx hb dX12_reads_110 rfl (lv_at hl 0 rfl) ?_
        refine lv_aload_n hx hb dX12_reads_111 rfl (lv_at hl 0 rfl) ?_
        refine m_geti hx hb hts hown hW (81) 36 rfl rfl cw_12 rfl (by decide) k_X12_245 dX12_reads_112 ?_
        refine lv_topi (fun x12 ex12 => ?_)
        have ex12 : x12 = ga := by rw [ex12]; exact h_ga
        have ex12 := ex12.symm
        subst ex12
        refine lv_iconst (v := 1) hx hb dX12_reads_115 (by decide) ?_
        refine lv_iadd hx hb dX12_reads_116 ?_
        refine lv_topi (fun x13 ex13 => ?_)
        have tx13 : x13.toInt = ga.toInt + 1 := m_addI ex13 (rfl : ga.toInt = _) (by decide : (1 : Int32).toInt = 1) (by omega) (by omega)
        refine m_puti hx hb hts hown hW (81) 36 rfl rfl cw_12 tyX12_ok nmX12 rfl (by decide) k_X12_245 rfl rfl rfl dX12_reads_117 (fun H locs hW _ => ?_)
        generalize hμ14 : m_si μ (81) 36 x13 = μ14 at hW
        have hI := hI.si1 hμ14 rfl (by omega) hS24
        refine lv_goto (tgt := 95) hx hb dX12_reads_120 (by decide) ?_
        have hl15 : ∀ j : Nat, fv.toInt ≤ j → (j : Int) < x13.toInt → 65 ≤ (μ14.1 106 j).toInt := by
          intro j h1 h2
          rw [show μ14.1 106 = μ.1 106 from by rw [← hμ14, m_si_row (by decide)]]
          by_cases hj : j = ga.toNatClampNeg
          · rw [hj, ← q2.1]
            omega
          · exact hl_ j h1 (by have := m_ckI (x := ga) (by omega); omega)
        exact ih  x13 fv tk (by omega) (by omega) μ14 hI (by rw [← hμ14]; first | rfl | exact if_pos ⟨rfl, rfl⟩) (by rw [← hμ14]; exact h_fv) (by rw [← hμ14]; exact h_tk) (hl15) _ _ hW ls (lv_sub hl [0] rfl)
      · refine lv_if_eq (tgt := 123) hx hb dX12_reads_107 (by decide) (fun _ => ?_) (fun c => False.elim (by revert c; decide))
        refine lv_aload_n hx hb dX12_reads_123 rfl (lv_at hl 0 rfl) ?_
        refine lv_aload_n hx hb dX12_reads_124 rfl (lv_at hl 0 rfl) ?_
        refine lv_aload_n hx hb dX12_reads_125 rfl (lv_at hl 0 rfl) ?_
        refine m_geti hx hb hts hown hW (81) 37 rfl rfl cw_12 rfl (by decide) k_X12_251 dX12_reads_126 ?_
        refine lv_topi (fun x16 ex16 => ?_)
        have ex16 : x16 = fv := by rw [ex16]; exact h_fv
        have ex16 := ex16.symm
        subst ex16
        refine lv_aload_n hx hb dX12_reads_129 rfl (lv_at hl 0 rfl) ?_
        refine m_geti hx hb hts hown hW (81) 36 rfl rfl cw_12 rfl (by decide) k_X12_245 dX12_reads_130 ?_
        refine lv_topi (fun x17 ex17 => ?_)
        have ex17 : x17 = ga := by rw [ex17]; exact h_ga
        have ex17 := ex17.symm
        subst ex17
        refine m_aI hW (m_runV (As := [.int fv, .int ga]) (rest := [.ref (b + 81)]) hx hb hml hown hts hW (81) (g_X12_wordAt l D cy b fv ga (by omega) (by omega) μ hI.1 (hl_)) mi_X12_wordAt k_X12_263 rfl rfl rfl hl.1 rfl (Nat.le_of_ble_eq_true rfl) dX12_reads_133 ⟨Nat.le_of_ble_eq_true rfl, Nat.le_of_ble_eq_true rfl⟩ ⟨Nat.le_of_ble_eq_true rfl, Nat.le_of_ble_eq_true rfl⟩) (fun x18 μ18 H locs q18 hW => ?_)
        obtain ⟨q18_m, q18⟩ := q18
        subst q18_m
        refine m_puti hx hb hts hown hW (81) 39 rfl rfl cw_12 tyX12_ok nmX12 rfl (by decide) k_X12_257 rfl rfl rfl dX12_reads_136 (fun H locs hW _ => ?_)
        generalize hμ19 : m_si μ (81) 39 x18 = μ19 at hW
        have hI := hI.si1 hμ19 rfl (by omega) hS24
        refine lv_aload_n hx hb dX12_reads_139 rfl (lv_at hl 0 rfl) ?_
        refine m_geti hx hb hts hown hW (81) 39 rfl rfl cw_12 rfl (by decide) k_X12_257 dX12_reads_140 ?_
        refine lv_topi (fun x20 ex20 => ?_)
        have ex20 : x20 = x18 := by rw [ex20, ← hμ19]; first | rfl | exact if_pos ⟨rfl, rfl⟩
        have ex20 := ex20.symm
        subst ex20
        refine lv_iconst (v := (-1)) hx hb dX12_reads_143 (by decide) ?_
        refine lv_icmp_eq (tgt := 273) hx hb dX12_reads_144 (by decide) (fun c21 => ?_) (fun c21 => ?_)
        · have i21 := m_c5 (rfl : x18.toInt = _) (by decide : ((-1) : Int32).toInt = (-1)) c21
          exact m_vret hx hb hr hlocks hW (⟨hI, by rw [show μ19.1 81 36 = ga from by rw [← hμ19]; exact h_ga, show μ19.1 81 37 = fv from by rw [← hμ19]; exact h_fv, show μ19.1 81 38 = tk from by rw [← hμ19]; exact h_tk, show μ19.1 81 39 = x18 from by rw [← hμ19]; first | rfl | exact if_pos ⟨rfl, rfl⟩]; omega⟩) dX12_reads_273
        · have i21 := m_c6 (rfl : x18.toInt = _) (by decide : ((-1) : Int32).toInt = (-1)) c21
          refine lv_aload_n hx hb dX12_reads_147 rfl (lv_at hl 0 rfl) ?_
          refine lv_iconst (v := 2) hx hb dX12_reads_148 (by decide) ?_
          refine m_puti hx hb hts hown hW (81) 38 rfl rfl cw_12 tyX12_ok nmX12 rfl (by decide) k_X12_254 rfl rfl rfl dX12_reads_149 (fun H locs hW _ => ?_)
          generalize hμ22 : m_si μ19 (81) 38 2 = μ22 at hW
          have hI := hI.si1 hμ22 rfl (by decide) hS24
          refine lv_goto (tgt := 273) hx hb dX12_reads_152 (by decide) ?_
          have l_2 : (2 : Int32).toInt = 2 := by decide
          exact m_vret hx hb hr hlocks hW (⟨hI, by rw [show μ22.1 81 36 = ga from by rw [← hμ22, ← hμ19]; exact h_ga, show μ22.1 81 37 = fv from by rw [← hμ22, ← hμ19]; exact h_fv, show μ22.1 81 38 = 2 from by rw [← hμ22]; first | rfl | exact if_pos ⟨rfl, rfl⟩, show μ22.1 81 39 = x18 from by rw [← hμ22, ← hμ19]; first | rfl | exact if_pos ⟨rfl, rfl⟩]; omega⟩) dX12_reads_273
set_option maxHeartbeats 4000000 in
set_option maxRecDepth 100000 in
theorem L_X12_reads_0 {p : Program} {l : Launch} {e : Env} {s : State} {m : MethodId} {args : Array Value} {below : List Frame} {meth : Method} {c : Code} {D : va_G} {cy : Nat → ClassId} {b : Nat} (hx : p.tables.exec = Jvm.exec) (hb : c.code = cX12_reads) (hr : meth.sig.returnType = (none)) (hml : c.maxLocals = 2) (hown : s.vm.findClass RX12 = some m.cls) (hts : ∀ w ∈ TB, w.before args s = true) (hlocks : meth.locks = false) (S : Nat → Bool) (μ0 : mM) (hS24 : S 24 = true) (av : Int32) (h_av : 0 ≤ av.toInt ∧ av.toInt ≤ 400) : ∀ (f : Nat), ∀ (ga : Int32) (hy : av.toInt ≤ ga.toInt ∧ ga.toInt ≤ 400 ∧ 0 ≤ ga.toInt) (hf : 400 - ga.toInt < (f : Int)) (μ : mM) (hI : IY S μ0 μ) (h_ga : μ.1 81 36 = ga) (H : Heap) (locs : List Loc), m_WA (m_A b LAY) D cy s b LAY μ H locs → ∀ ls : Array Slot, lv_has ls 2 [(0, .ref (b + 81))] → W p l e (m_R 2 0 0) s m args below meth c H locs 0 0 (MQ below (m_Qv D cy b LAY (fun ν => IY S μ0 ν ∧ (av.toInt ≤ (ν.1 81 37).toInt ∧ (ν.1 81 37).toInt ≤ (ν.1 81 36).toInt ∧ ((ν.1 81 38).toInt = 0 ∨ (ν.1 81 37).toInt + 1 ≤ (ν.1 81 36).toInt) ∧ ((ν.1 81 38).toInt = 3 → 0 ≤ (ν.1 81 39).toInt)))) args s 0 0 (m_A b LAY)) (F0 m 0 ls []) := by
  intro f
  induction f with
  | zero => intro  ga hy hf; exfalso; omega
  | succ f ih =>
    intro  ga hy hf μ hI h_ga H locs hW ls hl
    refine lv_aload_n hx hb dX12_reads_0 rfl (lv_at hl 0 rfl) ?_
    refine lv_aload_n hx hb dX12_reads_1 rfl (lv_at hl 0 rfl) ?_
    refine m_geti hx hb hts hown hW (81) 36 rfl rfl cw_12 rfl (by decide) k_X12_245 dX12_reads_2 ?_
    refine lv_topi (fun x1 ex1 => ?_)
    have ex1 : x1 = ga := by rw [ex1]; exact h_ga
    have ex1 := ex1.symm
    subst ex1
    refine m_aI hW (m_runV (As := [.int ga]) (rest := []) hx hb hml hown hts hW (81) (g_X12_raw l D cy b ga (by omega) μ hI.1) mi_X12_raw k_X12_248 rfl rfl rfl hl.1 rfl (Nat.le_of_ble_eq_true rfl) dX12_reads_5 ⟨Nat.le_of_ble_eq_true rfl, Nat.le_of_ble_eq_true rfl⟩ ⟨Nat.le_of_ble_eq_true rfl, Nat.le_of_ble_eq_true rfl⟩) (fun x2 μ2 H locs q2 hW => ?_)
    obtain ⟨q2_m, q2⟩ := q2
    subst q2_m
    rcases q2 with ⟨rfl, q2⟩ | q2
    · refine lv_bipush (v := 32) hx hb dX12_reads_8 (by decide) ?_
      refine lv_icmp_eq (tgt := 26) hx hb dX12_reads_10 (by decide) (fun c => False.elim (by revert c; decide)) (fun _ => ?_)
      refine lv_aload_n hx hb dX12_reads_13 rfl (lv_at hl 0 rfl) ?_
      refine lv_aload_n hx hb dX12_reads_14 rfl (lv_at hl 0 rfl) ?_
      refine m_geti hx hb hts hown hW (81) 36 rfl rfl cw_12 rfl (by decide) k_X12_245 dX12_reads_15 ?_
      refine lv_topi (fun x3 ex3 => ?_)
      have ex3 : x3 = ga := by rw [ex3]; exact h_ga
      have ex3 := ex3.symm
      subst ex3
      refine m_aI hW (m_runV (As := [.int ga]) (rest := []) hx hb hml hown hts hW (81) (g_X12_raw l D cy b ga (by omega) μ hI.1) mi_X12_raw k_X12_248 rfl rfl rfl hl.1 rfl (Nat.le_of_ble_eq_true rfl) dX12_reads_18 ⟨Nat.le_of_ble_eq_true rfl, Nat.le_of_ble_eq_true rfl⟩ ⟨Nat.le_of_ble_eq_true rfl, Nat.le_of_ble_eq_true rfl⟩) (fun x4 μ4 H locs q4 hW => ?_)
      obtain ⟨q4_m, q4⟩ := q4
      subst q4_m
      rcases q4 with ⟨rfl, q4⟩ | q4
      rotate_left
      · exfalso; omega
      refine lv_bipush (v := 10) hx hb dX12_reads_21 (by decide) ?_
      refine lv_icmp_ne (tgt := 39) hx hb dX12_reads_23 (by decide) (fun _ => ?_) (fun c => False.elim (by revert c; decide))
      refine lv_aload_n hx hb dX12_reads_39 rfl (lv_at hl 0 rfl) ?_
      refine lv_aload_n hx hb dX12_reads_40 rfl (lv_at hl 0 rfl) ?_
      refine m_geti hx hb hts hown hW (81) 36 rfl rfl cw_12 rfl (by decide) k_X12_245 dX12_reads_41 ?_
      refine lv_topi (fun x5 ex5 => ?_)
      have ex5 : x5 = ga := by rw [ex5]; exact h_ga
      have ex5 := ex5.symm
      subst ex5
      refine m_puti hx hb hts hown hW (81) 37 rfl rfl cw_12 tyX12_ok nmX12 rfl (by decide) k_X12_251 rfl rfl rfl dX12_reads_44 (fun H locs hW _ => ?_)
      generalize hμ6 : m_si μ (81) 37 ga = μ6 at hW
      have hI := hI.si1 hμ6 rfl (by omega) hS24
      refine lv_aload_n hx hb dX12_reads_47 rfl (lv_at hl 0 rfl) ?_
      refine lv_iconst (v := 1) hx hb dX12_reads_48 (by decide) ?_
      refine m_puti hx hb hts hown hW (81) 38 rfl rfl cw_12 tyX12_ok nmX12 rfl (by decide) k_X12_254 rfl rfl rfl dX12_reads_49 (fun H locs hW _ => ?_)
      generalize hμ7 : m_si μ6 (81) 38 1 = μ7 at hW
      have hI := hI.si1 hμ7 rfl (by decide) hS24
      refine lv_aload_n hx hb dX12_reads_52 rfl (lv_at hl 0 rfl) ?_
      refine lv_aload_n hx hb dX12_reads_53 rfl (lv_at hl 0 rfl) ?_
      refine m_geti hx hb hts hown hW (81) 36 rfl rfl cw_12 rfl (by decide) k_X12_245 dX12_reads_54 ?_
      refine lv_topi (fun x8 ex8 => ?_)
      have ex8 : x8 = ga := by rw [ex8, ← hμ7, ← hμ6]; exact h_ga
      have ex8 := ex8.symm
      subst ex8
      refine m_aI hW (m_runV (As := [.int ga]) (rest := []) hx hb hml hown hts hW (81) (g_X12_raw l D cy b ga (by omega) μ7 hI.1) mi_X12_raw k_X12_248 rfl rfl rfl hl.1 rfl (Nat.le_of_ble_eq_true rfl) dX12_reads_57 ⟨Nat.le_of_ble_eq_true rfl, Nat.le_of_ble_eq_true rfl⟩ ⟨Nat.le_of_ble_eq_true rfl, Nat.le_of_ble_eq_true rfl⟩) (fun x9 μ9 H locs q9 hW => ?_)
      obtain ⟨q9_m, q9⟩ := q9
      subst q9_m
      rcases q9 with ⟨rfl, q9⟩ | q9
      · refine lv_istore_n (lv' := [(1, .int (-1)), (0, .ref (b + 81))]) hx hb dX12_reads_60 rfl hl (by decide) rfl (fun ls hl => ?_)
        refine lv_iload_n hx hb dX12_reads_61 rfl (lv_at hl 0 rfl) ?_
        refine lv_iconst (v := (-1)) hx hb dX12_reads_62 (by decide) ?_
        refine lv_icmp_ne (tgt := 72) hx hb dX12_reads_63 (by decide) (fun c => False.elim (by revert c; decide)) (fun _ => ?_)
        refine lv_aload_n hx hb dX12_reads_66 rfl (lv_at hl 1 rfl) ?_
        refine lv_iconst (v := 0) hx hb dX12_reads_67 (by decide) ?_
        refine m_puti hx hb hts hown hW (81) 38 rfl rfl cw_12 tyX12_ok nmX12 rfl (by decide) k_X12_254 rfl rfl rfl dX12_reads_68 (fun H locs hW _ => ?_)
        generalize hμ10 : m_si μ7 (81) 38 0 = μ10 at hW
        have hI := hI.si1 hμ10 rfl (by decide) hS24
        have l_0 : (0 : Int32).toInt = 0 := by decide
        obtain ⟨x11, hx11⟩ : ∃ z, μ10.1 81 39 = z := ⟨_, rfl⟩
        have bx11 : -1 ≤ x11.toInt ∧ x11.toInt ≤ 99999 := by rw [← hx11]; exact hI.1 _ _ _ _ rfl
        exact m_vret hx hb hr hlocks hW (⟨hI, by rw [show μ10.1 81 36 = ga from by rw [← hμ10, ← hμ7, ← hμ6]; exact h_ga, show μ10.1 81 37 = ga from by rw [← hμ10, ← hμ7, ← hμ6]; first | rfl | exact if_pos ⟨rfl, rfl⟩, show μ10.1 81 38 = 0 from by rw [← hμ10]; first | rfl | exact if_pos ⟨rfl, rfl⟩, show μ10.1 81 39 = x11 from by exact hx11]; omega⟩) dX12_reads_71
      · have bx9 := q9.2
        refine lv_istore_n (lv' := [(1, .int x9), (0, .ref (b + 81))]) hx hb dX12_reads_60 rfl hl (by decide) rfl (fun ls hl => ?_)
        refine lv_iload_n hx hb dX12_reads_61 rfl (lv_at hl 0 rfl) ?_
        refine lv_iconst (v := (-1)) hx hb dX12_reads_62 (by decide) ?_
        refine lv_icmp_ne (tgt := 72) hx hb dX12_reads_63 (by decide) (fun c12 => ?_) (fun c12 => ?_)
        · have i12 := m_c6 (rfl : x9.toInt = _) (by decide : ((-1) : Int32).toInt = (-1)) c12
          refine lv_aload_n hx hb dX12_reads_72 rfl (lv_at hl 1 rfl) ?_
          refine lv_aload_n hx hb dX12_reads_73 rfl (lv_at hl 1 rfl) ?_
          refine m_geti hx hb hts hown hW (81) 36 rfl rfl cw_12 rfl (by decide) k_X12_245 dX12_reads_74 ?_
          refine lv_topi (fun x13 ex13 => ?_)
          have ex13 : x13 = ga := by rw [ex13, ← hμ7, ← hμ6]; exact h_ga
          have ex13 := ex13.symm
          subst ex13
          refine lv_iconst (v := 1) hx hb dX12_reads_77 (by decide) ?_
          refine lv_iadd hx hb dX12_reads_78 ?_
          refine lv_topi (fun x14 ex14 => ?_)
          have tx14 : x14.toInt = ga.toInt + 1 := m_addI ex14 (rfl : ga.toInt = _) (by decide : (1 : Int32).toInt = 1) (by omega) (by omega)
          refine m_puti hx hb hts hown hW (81) 36 rfl rfl cw_12 tyX12_ok nmX12 rfl (by decide) k_X12_245 rfl rfl rfl dX12_reads_79 (fun H locs hW _ => ?_)
          generalize hμ15 : m_si μ7 (81) 36 x14 = μ15 at hW
          have hI := hI.si1 hμ15 rfl (by omega) hS24
          refine lv_aload_n hx hb dX12_reads_82 rfl (lv_at hl 1 rfl) ?_
          refine lv_iload_n hx hb dX12_reads_83 rfl (lv_at hl 0 rfl) ?_
          refine m_puti hx hb hts hown hW (81) 39 rfl rfl cw_12 tyX12_ok nmX12 rfl (by decide) k_X12_257 rfl rfl rfl dX12_reads_84 (fun H locs hW _ => ?_)
          generalize hμ16 : m_si μ15 (81) 39 x9 = μ16 at hW
          have hI := hI.si1 hμ16 rfl (by omega) hS24
          refine lv_aload_n hx hb dX12_reads_87 rfl (lv_at hl 1 rfl) ?_
          refine lv_iload_n hx hb dX12_reads_88 rfl (lv_at hl 0 rfl) ?_
          refine m_aI hW (m_runV (As := [.int x9]) (rest := []) hx hb hml hown hts hW (81) (g_X12_isLetter l D cy b x9 μ16 hI.1) mi_X12_isLetter k_X12_260 rfl rfl rfl hl.1 rfl (Nat.le_of_ble_eq_true rfl) dX12_reads_89 ⟨Nat.le_of_ble_eq_true rfl, Nat.le_of_ble_eq_true rfl⟩ ⟨Nat.le_of_ble_eq_true rfl, Nat.le_of_ble_eq_true rfl⟩) (fun x17 μ17 H locs q17 hW => ?_)
          obtain ⟨q17_m, q17⟩ := q17
          subst q17_m
          rcases q17 with ⟨rfl, q17⟩ | ⟨rfl, q17⟩
          · refine lv_if_eq (tgt := 155) hx hb dX12_reads_92 (by decide) (fun c => False.elim (by revert c; decide)) (fun _ => ?_)
            have l_1 : (1 : Int32).toInt = 1 := by decide
            have hl18 : ∀ j : Nat, ga.toInt ≤ j → (j : Int) < x14.toInt → 65 ≤ (μ16.1 106 j).toInt := by
              intro j h1 h2
              rw [show μ16.1 106 = μ15.1 106 from by rw [← hμ16, m_si_row (by decide)], show μ15.1 106 = μ7.1 106 from by rw [← hμ15, m_si_row (by decide)]]
              have hj : j = ga.toNatClampNeg := by have := m_ckI (x := ga) (by omega); omega
              rw [hj, ← q9.1]
              omega
            exact L_X12_reads_95 hx hb hr hml hown hts hlocks S μ0 hS24 av h_av  401  x14 ga 1 (by omega) (by omega) μ16 hI (by rw [← hμ16, ← hμ15]; first | rfl | exact if_pos ⟨rfl, rfl⟩) (by rw [← hμ16, ← hμ15, ← hμ7, ← hμ6]; first | rfl | exact if_pos ⟨rfl, rfl⟩) (by rw [← hμ16, ← hμ15, ← hμ7]; first | rfl | exact if_pos ⟨rfl, rfl⟩) (hl18) _ _ hW ls (lv_sub hl [1] rfl)
          · refine lv_if_eq (tgt := 155) hx hb dX12_reads_92 (by decide) (fun _ => ?_) (fun c => False.elim (by revert c; decide))
            refine lv_aload_n hx hb dX12_reads_155 rfl (lv_at hl 1 rfl) ?_
            refine lv_iload_n hx hb dX12_reads_156 rfl (lv_at hl 0 rfl) ?_
            refine m_aI hW (m_runV (As := [.int x9]) (rest := []) hx hb hml hown hts hW (81) (g_X12_isDigit l D cy b x9 μ16 hI.1) mi_X12_isDigit k_X12_267 rfl rfl rfl hl.1 rfl (Nat.le_of_ble_eq_true rfl) dX12_reads_157 ⟨Nat.le_of_ble_eq_true rfl, Nat.le_of_ble_eq_true rfl⟩ ⟨Nat.le_of_ble_eq_true rfl, Nat.le_of_ble_eq_true rfl⟩) (fun x19 μ19 H locs q19 hW => ?_)
            obtain ⟨q19_m, q19⟩ := q19
            subst q19_m
            rcases q19 with ⟨rfl, q19⟩ | ⟨rfl, q19⟩
            · refine lv_if_eq (tgt := 260) hx hb dX12_reads_160 (by decide) (fun c => False.elim (by revert c; decide)) (fun _ => ?_)
              refine lv_aload_n hx hb dX12_reads_163 rfl (lv_at hl 1 rfl) ?_
              refine lv_iload_n hx hb dX12_reads_164 rfl (lv_at hl 0 rfl) ?_
              refine lv_bipush (v := 48) hx hb dX12_reads_165 (by decide) ?_
              refine lv_isub hx hb dX12_reads_167 ?_
              refine lv_topi (fun x20 ex20 => ?_)
              have tx20 : x20.toInt = x9.toInt - 48 := m_subI ex20 (rfl : x9.toInt = _) (by decide : (48 : Int32).toInt = 48) (by omega) (by omega)
              refine m_puti hx hb hts hown hW (81) 39 rfl rfl cw_12 tyX12_ok nmX12 rfl (by decide) k_X12_257 rfl rfl rfl dX12_reads_168 (fun H locs hW _ => ?_)
              generalize hμ21 : m_si μ16 (81) 39 x20 = μ21 at hW
              have hI := hI.si1 hμ21 rfl (by omega) hS24
              have l_1 : (1 : Int32).toInt = 1 := by decide
              exact L_X12_reads_171 hx hb hr hml hown hts hlocks S μ0 hS24 av h_av  401  x14 ga 1 x20 (by omega) (by omega) μ21 hI (by rw [← hμ21, ← hμ16, ← hμ15]; first | rfl | exact if_pos ⟨rfl, rfl⟩) (by rw [← hμ21, ← hμ16, ← hμ15, ← hμ7, ← hμ6]; first | rfl | exact if_pos ⟨rfl, rfl⟩) (by rw [← hμ21, ← hμ16, ← hμ15, ← hμ7]; first | rfl | exact if_pos ⟨rfl, rfl⟩) (by rw [← hμ21]; first | rfl | exact if_pos ⟨rfl, rfl⟩) _ _ hW ls (lv_sub hl [1] rfl)
            · refine lv_if_eq (tgt := 260) hx hb dX12_reads_160 (by decide) (fun _ => ?_) (fun c => False.elim (by revert c; decide))
              refine lv_aload_n hx hb dX12_reads_260 rfl (lv_at hl 1 rfl) ?_
              refine lv_iload_n hx hb dX12_reads_261 rfl (lv_at hl 0 rfl) ?_
              refine m_aI hW (m_runV (As := [.int x9]) (rest := []) hx hb hml hown hts hW (81) (g_X12_isMarkSign l D cy b x9 μ16 hI.1) mi_X12_isMarkSign k_X12_270 rfl rfl rfl hl.1 rfl (Nat.le_of_ble_eq_true rfl) dX12_reads_262 ⟨Nat.le_of_ble_eq_true rfl, Nat.le_of_ble_eq_true rfl⟩ ⟨Nat.le_of_ble_eq_true rfl, Nat.le_of_ble_eq_true rfl⟩) (fun x22 μ22 H locs q22 hW => ?_)
              obtain ⟨q22_m, q22⟩ := q22
              subst q22_m
              rcases q22 with ⟨rfl, q22⟩ | ⟨rfl, q22⟩
              · refine lv_if_eq (tgt := 273) hx hb dX12_reads_265 (by decide) (fun c => False.elim (by revert c; decide)) (fun _ => ?_)
                refine lv_aload_n hx hb dX12_reads_268 rfl (lv_at hl 1 rfl) ?_
                refine lv_iconst (v := 4) hx hb dX12_reads_269 (by decide) ?_
                refine m_puti hx hb hts hown hW (81) 38 rfl rfl cw_12 tyX12_ok nmX12 rfl (by decide) k_X12_254 rfl rfl rfl dX12_reads_270 (fun H locs hW _ => ?_)
                generalize hμ23 : m_si μ16 (81) 38 4 = μ23 at hW
                have hI := hI.si1 hμ23 rfl (by decide) hS24
                have l_4 : (4 : Int32).toInt = 4 := by decide
                exact m_vret hx hb hr hlocks hW (⟨hI, by rw [show μ23.1 81 36 = x14 from by rw [← hμ23, ← hμ16, ← hμ15]; first | rfl | exact if_pos ⟨rfl, rfl⟩, show μ23.1 81 37 = ga from by rw [← hμ23, ← hμ16, ← hμ15, ← hμ7, ← hμ6]; first | rfl | exact if_pos ⟨rfl, rfl⟩, show μ23.1 81 38 = 4 from by rw [← hμ23]; first | rfl | exact if_pos ⟨rfl, rfl⟩, show μ23.1 81 39 = x9 from by rw [← hμ23, ← hμ16]; first | rfl | exact if_pos ⟨rfl, rfl⟩]; omega⟩) dX12_reads_273
              · refine lv_if_eq (tgt := 273) hx hb dX12_reads_265 (by decide) (fun _ => ?_) (fun c => False.elim (by revert c; decide))
                have l_1 : (1 : Int32).toInt = 1 := by decide
                exact m_vret hx hb hr hlocks hW (⟨hI, by rw [show μ16.1 81 36 = x14 from by rw [← hμ16, ← hμ15]; first | rfl | exact if_pos ⟨rfl, rfl⟩, show μ16.1 81 37 = ga from by rw [← hμ16, ← hμ15, ← hμ7, ← hμ6]; first | rfl | exact if_pos ⟨rfl, rfl⟩, show μ16.1 81 38 = 1 from by rw [← hμ16, ← hμ15, ← hμ7]; first | rfl | exact if_pos ⟨rfl, rfl⟩, show μ16.1 81 39 = x9 from by rw [← hμ16]; first | rfl | exact if_pos ⟨rfl, rfl⟩]; omega⟩) dX12_reads_273
        · have i12 := m_c5 (rfl : x9.toInt = _) (by decide : ((-1) : Int32).toInt = (-1)) c12
          exfalso; omega
    · have bx2 := q2.2
      refine lv_bipush (v := 32) hx hb dX12_reads_8 (by decide) ?_
      refine lv_icmp_eq (tgt := 26) hx hb dX12_reads_10 (by decide) (fun c24 => ?_) (fun c24 => ?_)
      · have i24 := m_c5 (rfl : x2.toInt = _) (by decide : (32 : Int32).toInt = 32) c24
        refine lv_aload_n hx hb dX12_reads_26 rfl (lv_at hl 0 rfl) ?_
        refine lv_aload_n hx hb dX12_reads_27 rfl (lv_at hl 0 rfl) ?_
        refine m_geti hx hb hts hown hW (81) 36 rfl rfl cw_12 rfl (by decide) k_X12_245 dX12_reads_28 ?_
        refine lv_topi (fun x25 ex25 => ?_)
        have ex25 : x25 = ga := by rw [ex25]; exact h_ga
        have ex25 := ex25.symm
        subst ex25
        refine lv_iconst (v := 1) hx hb dX12_reads_31 (by decide) ?_
        refine lv_iadd hx hb dX12_reads_32 ?_
        refine lv_topi (fun x26 ex26 => ?_)
        have tx26 : x26.toInt = ga.toInt + 1 := m_addI ex26 (rfl : ga.toInt = _) (by decide : (1 : Int32).toInt = 1) (by omega) (by omega)
        refine m_puti hx hb hts hown hW (81) 36 rfl rfl cw_12 tyX12_ok nmX12 rfl (by decide) k_X12_245 rfl rfl rfl dX12_reads_33 (fun H locs hW _ => ?_)
        generalize hμ27 : m_si μ (81) 36 x26 = μ27 at hW
        have hI := hI.si1 hμ27 rfl (by omega) hS24
        refine lv_goto (tgt := 0) hx hb dX12_reads_36 (by decide) ?_
        exact ih  x26 (by omega) (by omega) μ27 hI (by rw [← hμ27]; first | rfl | exact if_pos ⟨rfl, rfl⟩) _ _ hW ls (lv_sub hl [0] rfl)
      · have i24 := m_c6 (rfl : x2.toInt = _) (by decide : (32 : Int32).toInt = 32) c24
        refine lv_aload_n hx hb dX12_reads_13 rfl (lv_at hl 0 rfl) ?_
        refine lv_aload_n hx hb dX12_reads_14 rfl (lv_at hl 0 rfl) ?_
        refine m_geti hx hb hts hown hW (81) 36 rfl rfl cw_12 rfl (by decide) k_X12_245 dX12_reads_15 ?_
        refine lv_topi (fun x28 ex28 => ?_)
        have ex28 : x28 = ga := by rw [ex28]; exact h_ga
        have ex28 := ex28.symm
        subst ex28
        refine m_aI hW (m_runV (As := [.int ga]) (rest := []) hx hb hml hown hts hW (81) (g_X12_raw l D cy b ga (by omega) μ hI.1) mi_X12_raw k_X12_248 rfl rfl rfl hl.1 rfl (Nat.le_of_ble_eq_true rfl) dX12_reads_18 ⟨Nat.le_of_ble_eq_true rfl, Nat.le_of_ble_eq_true rfl⟩ ⟨Nat.le_of_ble_eq_true rfl, Nat.le_of_ble_eq_true rfl⟩) (fun x29 μ29 H locs q29 hW => ?_)
        obtain ⟨q29_m, q29⟩ := q29
        subst q29_m
        rcases q29 with q29 | q29
        · exfalso; omega
        have hq29 := q2.1.trans q29.1.symm
        subst hq29
        refine lv_bipush (v := 10) hx hb dX12_reads_21 (by decide) ?_
        refine lv_icmp_ne (tgt := 39) hx hb dX12_reads_23 (by decide) (fun c30 => ?_) (fun c30 => ?_)
        · have i30 := m_c6 (rfl : x2.toInt = _) (by decide : (10 : Int32).toInt = 10) c30
          refine lv_aload_n hx hb dX12_reads_39 rfl (lv_at hl 0 rfl) ?_
          refine lv_aload_n hx hb dX12_reads_40 rfl (lv_at hl 0 rfl) ?_
          refine m_geti hx hb hts hown hW (81) 36 rfl rfl cw_12 rfl (by decide) k_X12_245 dX12_reads_41 ?_
          refine lv_topi (fun x31 ex31 => ?_)
          have ex31 : x31 = ga := by rw [ex31]; exact h_ga
          have ex31 := ex31.symm
          subst ex31
          refine m_puti hx hb hts hown hW (81) 37 rfl rfl cw_12 tyX12_ok nmX12 rfl (by decide) k_X12_251 rfl rfl rfl dX12_reads_44 (fun H locs hW _ => ?_)
          generalize hμ32 : m_si μ (81) 37 ga = μ32 at hW
          have hI := hI.si1 hμ32 rfl (by omega) hS24
          refine lv_aload_n hx hb dX12_reads_47 rfl (lv_at hl 0 rfl) ?_
          refine lv_iconst (v := 1) hx hb dX12_reads_48 (by decide) ?_
          refine m_puti hx hb hts hown hW (81) 38 rfl rfl cw_12 tyX12_ok nmX12 rfl (by decide) k_X12_254 rfl rfl rfl dX12_reads_49 (fun H locs hW _ => ?_)
          generalize hμ33 : m_si μ32 (81) 38 1 = μ33 at hW
          have hI := hI.si1 hμ33 rfl (by decide) hS24
          refine lv_aload_n hx hb dX12_reads_52 rfl (lv_at hl 0 rfl) ?_
          refine lv_aload_n hx hb dX12_reads_53 rfl (lv_at hl 0 rfl) ?_
          refine m_geti hx hb hts hown hW (81) 36 rfl rfl cw_12 rfl (by decide) k_X12_245 dX12_reads_54 ?_
          refine lv_topi (fun x34 ex34 => ?_)
          have ex34 : x34 = ga := by rw [ex34, ← hμ33, ← hμ32]; exact h_ga
          have ex34 := ex34.symm
          subst ex34
          refine m_aI hW (m_runV (As := [.int ga]) (rest := []) hx hb hml hown hts hW (81) (g_X12_raw l D cy b ga (by omega) μ33 hI.1) mi_X12_raw k_X12_248 rfl rfl rfl hl.1 rfl (Nat.le_of_ble_eq_true rfl) dX12_reads_57 ⟨Nat.le_of_ble_eq_true rfl, Nat.le_of_ble_eq_true rfl⟩ ⟨Nat.le_of_ble_eq_true rfl, Nat.le_of_ble_eq_true rfl⟩) (fun x35 μ35 H locs q35 hW => ?_)
          obtain ⟨q35_m, q35⟩ := q35
          subst q35_m
          rcases q35 with ⟨rfl, q35⟩ | q35
          · refine lv_istore_n (lv' := [(1, .int (-1)), (0, .ref (b + 81))]) hx hb dX12_reads_60 rfl hl (by decide) rfl (fun ls hl => ?_)
            refine lv_iload_n hx hb dX12_reads_61 rfl (lv_at hl 0 rfl) ?_
            refine lv_iconst (v := (-1)) hx hb dX12_reads_62 (by decide) ?_
            refine lv_icmp_ne (tgt := 72) hx hb dX12_reads_63 (by decide) (fun c => False.elim (by revert c; decide)) (fun _ => ?_)
            refine lv_aload_n hx hb dX12_reads_66 rfl (lv_at hl 1 rfl) ?_
            refine lv_iconst (v := 0) hx hb dX12_reads_67 (by decide) ?_
            refine m_puti hx hb hts hown hW (81) 38 rfl rfl cw_12 tyX12_ok nmX12 rfl (by decide) k_X12_254 rfl rfl rfl dX12_reads_68 (fun H locs hW _ => ?_)
            generalize hμ36 : m_si μ33 (81) 38 0 = μ36 at hW
            have hI := hI.si1 hμ36 rfl (by decide) hS24
            have l_0 : (0 : Int32).toInt = 0 := by decide
            obtain ⟨x37, hx37⟩ : ∃ z, μ36.1 81 39 = z := ⟨_, rfl⟩
            have bx37 : -1 ≤ x37.toInt ∧ x37.toInt ≤ 99999 := by rw [← hx37]; exact hI.1 _ _ _ _ rfl
            exact m_vret hx hb hr hlocks hW (⟨hI, by rw [show μ36.1 81 36 = ga from by rw [← hμ36, ← hμ33, ← hμ32]; exact h_ga, show μ36.1 81 37 = ga from by rw [← hμ36, ← hμ33, ← hμ32]; first | rfl | exact if_pos ⟨rfl, rfl⟩, show μ36.1 81 38 = 0 from by rw [← hμ36]; first | rfl | exact if_pos ⟨rfl, rfl⟩, show μ36.1 81 39 = x37 from by exact hx37]; omega⟩) dX12_reads_71
          · have bx35 := q35.2
            refine lv_istore_n (lv' := [(1, .int x35), (0, .ref (b + 81))]) hx hb dX12_reads_60 rfl hl (by decide) rfl (fun ls hl => ?_)
            refine lv_iload_n hx hb dX12_reads_61 rfl (lv_at hl 0 rfl) ?_
            refine lv_iconst (v := (-1)) hx hb dX12_reads_62 (by decide) ?_
            refine lv_icmp_ne (tgt := 72) hx hb dX12_reads_63 (by decide) (fun c38 => ?_) (fun c38 => ?_)
            · have i38 := m_c6 (rfl : x35.toInt = _) (by decide : ((-1) : Int32).toInt = (-1)) c38
              refine lv_aload_n hx hb dX12_reads_72 rfl (lv_at hl 1 rfl) ?_
              refine lv_aload_n hx hb dX12_reads_73 rfl (lv_at hl 1 rfl) ?_
              refine m_geti hx hb hts hown hW (81) 36 rfl rfl cw_12 rfl (by decide) k_X12_245 dX12_reads_74 ?_
              refine lv_topi (fun x39 ex39 => ?_)
              have ex39 : x39 = ga := by rw [ex39, ← hμ33, ← hμ32]; exact h_ga
              have ex39 := ex39.symm
              subst ex39
              refine lv_iconst (v := 1) hx hb dX12_reads_77 (by decide) ?_
              refine lv_iadd hx hb dX12_reads_78 ?_
              refine lv_topi (fun x40 ex40 => ?_)
              have tx40 : x40.toInt = ga.toInt + 1 := m_addI ex40 (rfl : ga.toInt = _) (by decide : (1 : Int32).toInt = 1) (by omega) (by omega)
              refine m_puti hx hb hts hown hW (81) 36 rfl rfl cw_12 tyX12_ok nmX12 rfl (by decide) k_X12_245 rfl rfl rfl dX12_reads_79 (fun H locs hW _ => ?_)
              generalize hμ41 : m_si μ33 (81) 36 x40 = μ41 at hW
              have hI := hI.si1 hμ41 rfl (by omega) hS24
              refine lv_aload_n hx hb dX12_reads_82 rfl (lv_at hl 1 rfl) ?_
              refine lv_iload_n hx hb dX12_reads_83 rfl (lv_at hl 0 rfl) ?_
              refine m_puti hx hb hts hown hW (81) 39 rfl rfl cw_12 tyX12_ok nmX12 rfl (by decide) k_X12_257 rfl rfl rfl dX12_reads_84 (fun H locs hW _ => ?_)
              generalize hμ42 : m_si μ41 (81) 39 x35 = μ42 at hW
              have hI := hI.si1 hμ42 rfl (by omega) hS24
              refine lv_aload_n hx hb dX12_reads_87 rfl (lv_at hl 1 rfl) ?_
              refine lv_iload_n hx hb dX12_reads_88 rfl (lv_at hl 0 rfl) ?_
              refine m_aI hW (m_runV (As := [.int x35]) (rest := []) hx hb hml hown hts hW (81) (g_X12_isLetter l D cy b x35 μ42 hI.1) mi_X12_isLetter k_X12_260 rfl rfl rfl hl.1 rfl (Nat.le_of_ble_eq_true rfl) dX12_reads_89 ⟨Nat.le_of_ble_eq_true rfl, Nat.le_of_ble_eq_true rfl⟩ ⟨Nat.le_of_ble_eq_true rfl, Nat.le_of_ble_eq_true rfl⟩) (fun x43 μ43 H locs q43 hW => ?_)
              obtain ⟨q43_m, q43⟩ := q43
              subst q43_m
              rcases q43 with ⟨rfl, q43⟩ | ⟨rfl, q43⟩
              · refine lv_if_eq (tgt := 155) hx hb dX12_reads_92 (by decide) (fun c => False.elim (by revert c; decide)) (fun _ => ?_)
                have l_1 : (1 : Int32).toInt = 1 := by decide
                have hl44 : ∀ j : Nat, ga.toInt ≤ j → (j : Int) < x40.toInt → 65 ≤ (μ42.1 106 j).toInt := by
                  intro j h1 h2
                  rw [show μ42.1 106 = μ41.1 106 from by rw [← hμ42, m_si_row (by decide)], show μ41.1 106 = μ33.1 106 from by rw [← hμ41, m_si_row (by decide)]]
                  have hj : j = ga.toNatClampNeg := by have := m_ckI (x := ga) (by omega); omega
                  rw [hj, ← q35.1]
                  omega
                exact L_X12_reads_95 hx hb hr hml hown hts hlocks S μ0 hS24 av h_av  401  x40 ga 1 (by omega) (by omega) μ42 hI (by rw [← hμ42, ← hμ41]; first | rfl | exact if_pos ⟨rfl, rfl⟩) (by rw [← hμ42, ← hμ41, ← hμ33, ← hμ32]; first | rfl | exact if_pos ⟨rfl, rfl⟩) (by rw [← hμ42, ← hμ41, ← hμ33]; first | rfl | exact if_pos ⟨rfl, rfl⟩) (hl44) _ _ hW ls (lv_sub hl [1] rfl)
              · refine lv_if_eq (tgt := 155) hx hb dX12_reads_92 (by decide) (fun _ => ?_) (fun c => False.elim (by revert c; decide))
                refine lv_aload_n hx hb dX12_reads_155 rfl (lv_at hl 1 rfl) ?_
                refine lv_iload_n hx hb dX12_reads_156 rfl (lv_at hl 0 rfl) ?_
                refine m_aI hW (m_runV (As := [.int x35]) (rest := []) hx hb hml hown hts hW (81) (g_X12_isDigit l D cy b x35 μ42 hI.1) mi_X12_isDigit k_X12_267 rfl rfl rfl hl.1 rfl (Nat.le_of_ble_eq_true rfl) dX12_reads_157 ⟨Nat.le_of_ble_eq_true rfl, Nat.le_of_ble_eq_true rfl⟩ ⟨Nat.le_of_ble_eq_true rfl, Nat.le_of_ble_eq_true rfl⟩) (fun x45 μ45 H locs q45 hW => ?_)
                obtain ⟨q45_m, q45⟩ := q45
                subst q45_m
                rcases q45 with ⟨rfl, q45⟩ | ⟨rfl, q45⟩
                · refine lv_if_eq (tgt := 260) hx hb dX12_reads_160 (by decide) (fun c => False.elim (by revert c; decide)) (fun _ => ?_)
                  refine lv_aload_n hx hb dX12_reads_163 rfl (lv_at hl 1 rfl) ?_
                  refine lv_iload_n hx hb dX12_reads_164 rfl (lv_at hl 0 rfl) ?_
                  refine lv_bipush (v := 48) hx hb dX12_reads_165 (by decide) ?_
                  refine lv_isub hx hb dX12_reads_167 ?_
                  refine lv_topi (fun x46 ex46 => ?_)
                  have tx46 : x46.toInt = x35.toInt - 48 := m_subI ex46 (rfl : x35.toInt = _) (by decide : (48 : Int32).toInt = 48) (by omega) (by omega)
                  refine m_puti hx hb hts hown hW (81) 39 rfl rfl cw_12 tyX12_ok nmX12 rfl (by decide) k_X12_257 rfl rfl rfl dX12_reads_168 (fun H locs hW _ => ?_)
                  generalize hμ47 : m_si μ42 (81) 39 x46 = μ47 at hW
                  have hI := hI.si1 hμ47 rfl (by omega) hS24
                  have l_1 : (1 : Int32).toInt = 1 := by decide
                  exact L_X12_reads_171 hx hb hr hml hown hts hlocks S μ0 hS24 av h_av  401  x40 ga 1 x46 (by omega) (by omega) μ47 hI (by rw [← hμ47, ← hμ42, ← hμ41]; first | rfl | exact if_pos ⟨rfl, rfl⟩) (by rw [← hμ47, ← hμ42, ← hμ41, ← hμ33, ← hμ32]; first | rfl | exact if_pos ⟨rfl, rfl⟩) (by rw [← hμ47, ← hμ42, ← hμ41, ← hμ33]; first | rfl | exact if_pos ⟨rfl, rfl⟩) (by rw [← hμ47]; first | rfl | exact if_pos ⟨rfl, rfl⟩) _ _ hW ls (lv_sub hl [1] rfl)
                · refine lv_if_eq (tgt := 260) hx hb dX12_reads_160 (by decide) (fun _ => ?_) (fun c => False.elim (by revert c; decide))
                  refine lv_aload_n hx hb dX12_reads_260 rfl (lv_at hl 1 rfl) ?_
                  refine lv_iload_n hx hb dX12_reads_261 rfl (lv_at hl 0 rfl) ?_
                  refine m_aI hW (m_runV (As := [.int x35]) (rest := []) hx hb hml hown hts hW (81) (g_X12_isMarkSign l D cy b x35 μ42 hI.1) mi_X12_isMarkSign k_X12_270 rfl rfl rfl hl.1 rfl (Nat.le_of_ble_eq_true rfl) dX12_reads_262 ⟨Nat.le_of_ble_eq_true rfl, Nat.le_of_ble_eq_true rfl⟩ ⟨Nat.le_of_ble_eq_true rfl, Nat.le_of_ble_eq_true rfl⟩) (fun x48 μ48 H locs q48 hW => ?_)
                  obtain ⟨q48_m, q48⟩ := q48
                  subst q48_m
                  rcases q48 with ⟨rfl, q48⟩ | ⟨rfl, q48⟩
                  · refine lv_if_eq (tgt := 273) hx hb dX12_reads_265 (by decide) (fun c => False.elim (by revert c; decide)) (fun _ => ?_)
                    refine lv_aload_n hx hb dX12_reads_268 rfl (lv_at hl 1 rfl) ?_
                    refine lv_iconst (v := 4) hx hb dX12_reads_269 (by decide) ?_
                    refine m_puti hx hb hts hown hW (81) 38 rfl rfl cw_12 tyX12_ok nmX12 rfl (by decide) k_X12_254 rfl rfl rfl dX12_reads_270 (fun H locs hW _ => ?_)
                    generalize hμ49 : m_si μ42 (81) 38 4 = μ49 at hW
                    have hI := hI.si1 hμ49 rfl (by decide) hS24
                    have l_4 : (4 : Int32).toInt = 4 := by decide
                    exact m_vret hx hb hr hlocks hW (⟨hI, by rw [show μ49.1 81 36 = x40 from by rw [← hμ49, ← hμ42, ← hμ41]; first | rfl | exact if_pos ⟨rfl, rfl⟩, show μ49.1 81 37 = ga from by rw [← hμ49, ← hμ42, ← hμ41, ← hμ33, ← hμ32]; first | rfl | exact if_pos ⟨rfl, rfl⟩, show μ49.1 81 38 = 4 from by rw [← hμ49]; first | rfl | exact if_pos ⟨rfl, rfl⟩, show μ49.1 81 39 = x35 from by rw [← hμ49, ← hμ42]; first | rfl | exact if_pos ⟨rfl, rfl⟩]; omega⟩) dX12_reads_273
                  · refine lv_if_eq (tgt := 273) hx hb dX12_reads_265 (by decide) (fun _ => ?_) (fun c => False.elim (by revert c; decide))
                    have l_1 : (1 : Int32).toInt = 1 := by decide
                    exact m_vret hx hb hr hlocks hW (⟨hI, by rw [show μ42.1 81 36 = x40 from by rw [← hμ42, ← hμ41]; first | rfl | exact if_pos ⟨rfl, rfl⟩, show μ42.1 81 37 = ga from by rw [← hμ42, ← hμ41, ← hμ33, ← hμ32]; first | rfl | exact if_pos ⟨rfl, rfl⟩, show μ42.1 81 38 = 1 from by rw [← hμ42, ← hμ41, ← hμ33]; first | rfl | exact if_pos ⟨rfl, rfl⟩, show μ42.1 81 39 = x35 from by rw [← hμ42]; first | rfl | exact if_pos ⟨rfl, rfl⟩]; omega⟩) dX12_reads_273
            · have i38 := m_c5 (rfl : x35.toInt = _) (by decide : ((-1) : Int32).toInt = (-1)) c38
              exfalso; omega
        · have i30 := m_c5 (rfl : x2.toInt = _) (by decide : (10 : Int32).toInt = 10) c30
          refine lv_aload_n hx hb dX12_reads_26 rfl (lv_at hl 0 rfl) ?_
          refine lv_aload_n hx hb dX12_reads_27 rfl (lv_at hl 0 rfl) ?_
          refine m_geti hx hb hts hown hW (81) 36 rfl rfl cw_12 rfl (by decide) k_X12_245 dX12_reads_28 ?_
          refine lv_topi (fun x50 ex50 => ?_)
          have ex50 : x50 = ga := by rw [ex50]; exact h_ga
          have ex50 := ex50.symm
          subst ex50
          refine lv_iconst (v := 1) hx hb dX12_reads_31 (by decide) ?_
          refine lv_iadd hx hb dX12_reads_32 ?_
          refine lv_topi (fun x51 ex51 => ?_)
          have tx51 : x51.toInt = ga.toInt + 1 := m_addI ex51 (rfl : ga.toInt = _) (by decide : (1 : Int32).toInt = 1) (by omega) (by omega)
          refine m_puti hx hb hts hown hW (81) 36 rfl rfl cw_12 tyX12_ok nmX12 rfl (by decide) k_X12_245 rfl rfl rfl dX12_reads_33 (fun H locs hW _ => ?_)
          generalize hμ52 : m_si μ (81) 36 x51 = μ52 at hW
          have hI := hI.si1 hμ52 rfl (by omega) hS24
          refine lv_goto (tgt := 0) hx hb dX12_reads_36 (by decide) ?_
          exact ih  x51 (by omega) (by omega) μ52 hI (by rw [← hμ52]; first | rfl | exact if_pos ⟨rfl, rfl⟩) _ _ hW ls (lv_sub hl [0] rfl)
set_option maxHeartbeats 4000000 in
set_option maxRecDepth 100000 in
theorem g_X12_reads (l : Launch) (D : va_G) (cy : Nat → ClassId) (b : Nat) (S : Nat → Bool) (μ0 : mM) (hS24 : S 24 = true) (av : Int32) (h_av : 0 ≤ av.toInt ∧ av.toInt ≤ 400) (μ : mM) (hI : IY S μ0 μ) (ha : μ.1 81 36 = av) : m_Cv l yX12_reads cX12_reads 2 (none) 2 D cy b LAY μ [.ref (b + 81)] (fun ν => IY S μ0 ν ∧ (av.toInt ≤ (ν.1 81 37).toInt ∧ (ν.1 81 37).toInt ≤ (ν.1 81 36).toInt ∧ ((ν.1 81 38).toInt = 0 ∨ (ν.1 81 37).toInt + 1 ≤ (ν.1 81 36).toInt) ∧ ((ν.1 81 38).toInt = 3 → 0 ≤ (ν.1 81 39).toInt))) := by
  unfold m_Cv
  refine m_of (by decide) (Nat.le_of_ble_eq_true rfl) ?_
  intro p e s m below meth c hx hb hr hml hown hts hlocks _ hW ls hl
  have hown : s.vm.findClass RX12 = some m.cls := hown
  have hl : lv_has ls 2 [(0, .ref (b + 81))] := hl
  exact L_X12_reads_0 hx hb hr hml hown hts hlocks S μ0 hS24 av h_av  401  av (by omega) (by omega) μ hI (by exact ha) _ _ hW ls (lv_sub hl [0] rfl)
