-- THE REFERENCE'S TOKENS
def m_TV (kd : Int) (vl tok v : Int32) : Prop := (kd = 1 ∧ tok.toInt = 0) ∨ (kd = 0 ∧ tok.toInt = 1) ∨ (kd = 2 ∧ tok.toInt = 3 ∧ v = vl) ∨ ((3 ≤ kd ∧ kd ≤ 8) ∧ tok.toInt = 4 ∧ m_sk v.toInt = kd) ∨ (∃ q : Nat, q < 19 ∧ tok.toInt = 2 ∧ v.toInt = q ∧ kd = 9 + (m_sg q : Nat))
theorem m_wk_M0 {f : Nat → Int32} {a b : Nat} (h : ∀ j, j < 19 → ¬ m_EQ f a b (m_kw j)) : m_wk f a b = 0 := m_wk_no (fun j hj hE => by
  obtain ⟨q, h1, h2⟩ := m_sg_on j hj
  refine h q h1 ?_
  rw [(m_kw_kx q h1).1, h2]
  exact hE)
theorem m_wk_M1 {f : Nat → Int32} {a b q : Nat} (hq : q < 19) (h : m_EQ f a b (m_kw q)) : m_wk f a b = 9 + (m_sg q : Nat) := by
  have := m_kw_kx q hq
  rw [this.1] at h
  exact m_wk_is this.2 h
theorem m_sk_b {c : Int} (h : c = 59 ∨ c = 43 ∨ c = 45 ∨ c = 60 ∨ c = 61 ∨ c = 62) : 3 ≤ m_sk c ∧ m_sk c ≤ 8 := by
  rcases h with rfl | rfl | rfl | rfl | rfl | rfl <;> decide
theorem m_sk_0 {c : Int} (h : ¬ (c = 59 ∨ c = 43 ∨ c = 45 ∨ c = 60 ∨ c = 61 ∨ c = 62)) : m_sk c = 0 := by
  unfold m_sk
  rw [if_neg (by omega), if_neg (by omega), if_neg (by omega), if_neg (by omega), if_neg (by omega), if_neg (by omega)]
set_option maxHeartbeats 4000000 in
set_option maxRecDepth 100000 in
theorem g_X12_isLetter_f (l : Launch) (D : va_G) (cy : Nat → ClassId) (b : Nat) (k : Int32) (μ : mM) (hI : IX μ) : m_Ci l yX12_isLetter cX12_isLetter 2 ((some .boolean)) 1 D cy b LAY μ [.ref (b + 81), .int k] (fun r ν => μ = ν ∧ ((r = 1 ∧ ((97 ≤ k.toInt ∧ k.toInt ≤ 122) ∨ (65 ≤ k.toInt ∧ k.toInt ≤ 90))) ∨ (r = 0 ∧ (¬ ((97 ≤ k.toInt ∧ k.toInt ≤ 122) ∨ (65 ≤ k.toInt ∧ k.toInt ≤ 90)))))) := by
  unfold m_Ci
  refine m_of (by decide) (Nat.le_of_ble_eq_true rfl) ?_
  intro p e s m below meth c hx hb hr hml hown hts hlocks _ hW ls hl
  have hown : s.vm.findClass RX12 = some m.cls := hown
  have hl : lv_has ls 2 [(0, .ref (b + 81)), (1, .int k)] := hl
  refine lv_aload_n hx hb dX12_isLetter_0 rfl (lv_at hl 0 rfl) ?_
  refine lv_iload_n hx hb dX12_isLetter_1 rfl (lv_at hl 1 rfl) ?_
  refine lv_bipush (v := 97) hx hb dX12_isLetter_2 (by decide) ?_
  refine lv_bipush (v := 122) hx hb dX12_isLetter_4 (by decide) ?_
  have l_97 : (97 : Int32).toInt = 97 := by decide
  have l_122 : (122 : Int32).toInt = 122 := by decide
  refine m_aI hW (m_runV (As := [.int k, .int 97, .int 122]) (rest := []) hx hb hml hown hts hW (81) (g_X12_isIn l D cy b k 97 122 μ hI) mi_X12_isIn k_X12_170 rfl rfl rfl hl.1 rfl (Nat.le_of_ble_eq_true rfl) dX12_isLetter_6 ⟨Nat.le_of_ble_eq_true rfl, Nat.le_of_ble_eq_true rfl⟩ ⟨Nat.le_of_ble_eq_true rfl, Nat.le_of_ble_eq_true rfl⟩) (fun x1 μ1 H locs q1 hW => ?_)
  obtain ⟨q1_m, q1⟩ := q1
  subst q1_m
  rcases q1 with ⟨rfl, q1⟩ | ⟨rfl, q1⟩
  · refine lv_if_ne (tgt := 24) hx hb dX12_isLetter_9 (by decide) (fun _ => ?_) (fun c => False.elim (by revert c; decide))
    refine lv_iconst (v := 1) hx hb dX12_isLetter_24 (by decide) ?_
    refine lv_goto (tgt := 29) hx hb dX12_isLetter_25 (by decide) ?_
    exact m_iret hx hb hr hlocks hW (by decide) (⟨rfl, Or.inl ⟨rfl, by omega⟩⟩) dX12_isLetter_29
  · refine lv_if_ne (tgt := 24) hx hb dX12_isLetter_9 (by decide) (fun c => False.elim (by revert c; decide)) (fun _ => ?_)
    refine lv_aload_n hx hb dX12_isLetter_12 rfl (lv_at hl 0 rfl) ?_
    refine lv_iload_n hx hb dX12_isLetter_13 rfl (lv_at hl 1 rfl) ?_
    refine lv_bipush (v := 65) hx hb dX12_isLetter_14 (by decide) ?_
    refine lv_bipush (v := 90) hx hb dX12_isLetter_16 (by decide) ?_
    have l_65 : (65 : Int32).toInt = 65 := by decide
    have l_90 : (90 : Int32).toInt = 90 := by decide
    refine m_aI hW (m_runV (As := [.int k, .int 65, .int 90]) (rest := []) hx hb hml hown hts hW (81) (g_X12_isIn l D cy b k 65 90 μ hI) mi_X12_isIn k_X12_170 rfl rfl rfl hl.1 rfl (Nat.le_of_ble_eq_true rfl) dX12_isLetter_18 ⟨Nat.le_of_ble_eq_true rfl, Nat.le_of_ble_eq_true rfl⟩ ⟨Nat.le_of_ble_eq_true rfl, Nat.le_of_ble_eq_true rfl⟩) (fun x2 μ2 H locs q2 hW => ?_)
    obtain ⟨q2_m, q2⟩ := q2
    subst q2_m
    rcases q2 with ⟨rfl, q2⟩ | ⟨rfl, q2⟩
    · refine lv_if_eq (tgt := 28) hx hb dX12_isLetter_21 (by decide) (fun c => False.elim (by revert c; decide)) (fun _ => ?_)
      refine lv_iconst (v := 1) hx hb dX12_isLetter_24 (by decide) ?_
      refine lv_goto (tgt := 29) hx hb dX12_isLetter_25 (by decide) ?_
      exact m_iret hx hb hr hlocks hW (by decide) (⟨rfl, Or.inl ⟨rfl, by omega⟩⟩) dX12_isLetter_29
    · refine lv_if_eq (tgt := 28) hx hb dX12_isLetter_21 (by decide) (fun _ => ?_) (fun c => False.elim (by revert c; decide))
      refine lv_iconst (v := 0) hx hb dX12_isLetter_28 (by decide) ?_
      exact m_iret hx hb hr hlocks hW (by decide) (⟨rfl, Or.inr ⟨rfl, by omega⟩⟩) dX12_isLetter_29
set_option maxHeartbeats 4000000 in
set_option maxRecDepth 100000 in
theorem g_X12_isDigit_f (l : Launch) (D : va_G) (cy : Nat → ClassId) (b : Nat) (k : Int32) (μ : mM) (hI : IX μ) : m_Ci l yX12_isDigit cX12_isDigit 2 ((some .boolean)) 1 D cy b LAY μ [.ref (b + 81), .int k] (fun r ν => μ = ν ∧ ((r = 1 ∧ (48 ≤ k.toInt ∧ k.toInt ≤ 57)) ∨ (r = 0 ∧ (¬ (48 ≤ k.toInt ∧ k.toInt ≤ 57))))) := by
  unfold m_Ci
  refine m_of (by decide) (Nat.le_of_ble_eq_true rfl) ?_
  intro p e s m below meth c hx hb hr hml hown hts hlocks _ hW ls hl
  have hown : s.vm.findClass RX12 = some m.cls := hown
  have hl : lv_has ls 2 [(0, .ref (b + 81)), (1, .int k)] := hl
  refine lv_aload_n hx hb dX12_isDigit_0 rfl (lv_at hl 0 rfl) ?_
  refine lv_iload_n hx hb dX12_isDigit_1 rfl (lv_at hl 1 rfl) ?_
  refine lv_bipush (v := 48) hx hb dX12_isDigit_2 (by decide) ?_
  refine lv_bipush (v := 57) hx hb dX12_isDigit_4 (by decide) ?_
  have l_48 : (48 : Int32).toInt = 48 := by decide
  have l_57 : (57 : Int32).toInt = 57 := by decide
  refine m_aI hW (m_runV (As := [.int k, .int 48, .int 57]) (rest := []) hx hb hml hown hts hW (81) (g_X12_isIn l D cy b k 48 57 μ hI) mi_X12_isIn k_X12_170 rfl rfl rfl hl.1 rfl (Nat.le_of_ble_eq_true rfl) dX12_isDigit_6 ⟨Nat.le_of_ble_eq_true rfl, Nat.le_of_ble_eq_true rfl⟩ ⟨Nat.le_of_ble_eq_true rfl, Nat.le_of_ble_eq_true rfl⟩) (fun x1 μ1 H locs q1 hW => ?_)
  obtain ⟨q1_m, q1⟩ := q1
  subst q1_m
  rcases q1 with ⟨rfl, q1⟩ | ⟨rfl, q1⟩
  · exact m_iret hx hb hr hlocks hW (by decide) (⟨rfl, Or.inl ⟨rfl, by omega⟩⟩) dX12_isDigit_9
  · exact m_iret hx hb hr hlocks hW (by decide) (⟨rfl, Or.inr ⟨rfl, by omega⟩⟩) dX12_isDigit_9
set_option maxHeartbeats 4000000 in
set_option maxRecDepth 100000 in
theorem g_X12_isMarkSign_f (l : Launch) (D : va_G) (cy : Nat → ClassId) (b : Nat) (k : Int32) (μ : mM) (hI : IX μ) : m_Ci l yX12_isMarkSign cX12_isMarkSign 2 ((some .boolean)) 0 D cy b LAY μ [.ref (b + 81), .int k] (fun r ν => μ = ν ∧ ((r = 1 ∧ (k.toInt = 59 ∨ k.toInt = 43 ∨ k.toInt = 45 ∨ k.toInt = 60 ∨ k.toInt = 61 ∨ k.toInt = 62)) ∨ (r = 0 ∧ (¬ (k.toInt = 59 ∨ k.toInt = 43 ∨ k.toInt = 45 ∨ k.toInt = 60 ∨ k.toInt = 61 ∨ k.toInt = 62))))) := by
  unfold m_Ci
  refine m_of (by decide) (Nat.le_of_ble_eq_true rfl) ?_
  intro p e s m below meth c hx hb hr hml hown hts hlocks _ hW ls hl
  have hown : s.vm.findClass RX12 = some m.cls := hown
  have hl : lv_has ls 2 [(0, .ref (b + 81)), (1, .int k)] := hl
  refine lv_iload_n hx hb dX12_isMarkSign_0 rfl (lv_at hl 1 rfl) ?_
  refine lv_bipush (v := 59) hx hb dX12_isMarkSign_1 (by decide) ?_
  refine lv_icmp_eq (tgt := 36) hx hb dX12_isMarkSign_3 (by decide) (fun c1 => ?_) (fun c1 => ?_)
  · have i1 := m_c5 (rfl : k.toInt = _) (by decide : (59 : Int32).toInt = 59) c1
    refine lv_iconst (v := 1) hx hb dX12_isMarkSign_36 (by decide) ?_
    refine lv_goto (tgt := 41) hx hb dX12_isMarkSign_37 (by decide) ?_
    exact m_iret hx hb hr hlocks hW (by decide) (⟨rfl, Or.inl ⟨rfl, by omega⟩⟩) dX12_isMarkSign_41
  · have i1 := m_c6 (rfl : k.toInt = _) (by decide : (59 : Int32).toInt = 59) c1
    refine lv_iload_n hx hb dX12_isMarkSign_6 rfl (lv_at hl 1 rfl) ?_
    refine lv_bipush (v := 43) hx hb dX12_isMarkSign_7 (by decide) ?_
    refine lv_icmp_eq (tgt := 36) hx hb dX12_isMarkSign_9 (by decide) (fun c2 => ?_) (fun c2 => ?_)
    · have i2 := m_c5 (rfl : k.toInt = _) (by decide : (43 : Int32).toInt = 43) c2
      refine lv_iconst (v := 1) hx hb dX12_isMarkSign_36 (by decide) ?_
      refine lv_goto (tgt := 41) hx hb dX12_isMarkSign_37 (by decide) ?_
      exact m_iret hx hb hr hlocks hW (by decide) (⟨rfl, Or.inl ⟨rfl, by omega⟩⟩) dX12_isMarkSign_41
    · have i2 := m_c6 (rfl : k.toInt = _) (by decide : (43 : Int32).toInt = 43) c2
      refine lv_iload_n hx hb dX12_isMarkSign_12 rfl (lv_at hl 1 rfl) ?_
      refine lv_bipush (v := 45) hx hb dX12_isMarkSign_13 (by decide) ?_
      refine lv_icmp_eq (tgt := 36) hx hb dX12_isMarkSign_15 (by decide) (fun c3 => ?_) (fun c3 => ?_)
      · have i3 := m_c5 (rfl : k.toInt = _) (by decide : (45 : Int32).toInt = 45) c3
        refine lv_iconst (v := 1) hx hb dX12_isMarkSign_36 (by decide) ?_
        refine lv_goto (tgt := 41) hx hb dX12_isMarkSign_37 (by decide) ?_
        exact m_iret hx hb hr hlocks hW (by decide) (⟨rfl, Or.inl ⟨rfl, by omega⟩⟩) dX12_isMarkSign_41
      · have i3 := m_c6 (rfl : k.toInt = _) (by decide : (45 : Int32).toInt = 45) c3
        refine lv_iload_n hx hb dX12_isMarkSign_18 rfl (lv_at hl 1 rfl) ?_
        refine lv_bipush (v := 60) hx hb dX12_isMarkSign_19 (by decide) ?_
        refine lv_icmp_eq (tgt := 36) hx hb dX12_isMarkSign_21 (by decide) (fun c4 => ?_) (fun c4 => ?_)
        · have i4 := m_c5 (rfl : k.toInt = _) (by decide : (60 : Int32).toInt = 60) c4
          refine lv_iconst (v := 1) hx hb dX12_isMarkSign_36 (by decide) ?_
          refine lv_goto (tgt := 41) hx hb dX12_isMarkSign_37 (by decide) ?_
          exact m_iret hx hb hr hlocks hW (by decide) (⟨rfl, Or.inl ⟨rfl, by omega⟩⟩) dX12_isMarkSign_41
        · have i4 := m_c6 (rfl : k.toInt = _) (by decide : (60 : Int32).toInt = 60) c4
          refine lv_iload_n hx hb dX12_isMarkSign_24 rfl (lv_at hl 1 rfl) ?_
          refine lv_bipush (v := 61) hx hb dX12_isMarkSign_25 (by decide) ?_
          refine lv_icmp_eq (tgt := 36) hx hb dX12_isMarkSign_27 (by decide) (fun c5 => ?_) (fun c5 => ?_)
          · have i5 := m_c5 (rfl : k.toInt = _) (by decide : (61 : Int32).toInt = 61) c5
            refine lv_iconst (v := 1) hx hb dX12_isMarkSign_36 (by decide) ?_
            refine lv_goto (tgt := 41) hx hb dX12_isMarkSign_37 (by decide) ?_
            exact m_iret hx hb hr hlocks hW (by decide) (⟨rfl, Or.inl ⟨rfl, by omega⟩⟩) dX12_isMarkSign_41
          · have i5 := m_c6 (rfl : k.toInt = _) (by decide : (61 : Int32).toInt = 61) c5
            refine lv_iload_n hx hb dX12_isMarkSign_30 rfl (lv_at hl 1 rfl) ?_
            refine lv_bipush (v := 62) hx hb dX12_isMarkSign_31 (by decide) ?_
            refine lv_icmp_ne (tgt := 40) hx hb dX12_isMarkSign_33 (by decide) (fun c6 => ?_) (fun c6 => ?_)
            · have i6 := m_c6 (rfl : k.toInt = _) (by decide : (62 : Int32).toInt = 62) c6
              refine lv_iconst (v := 0) hx hb dX12_isMarkSign_40 (by decide) ?_
              exact m_iret hx hb hr hlocks hW (by decide) (⟨rfl, Or.inr ⟨rfl, by omega⟩⟩) dX12_isMarkSign_41
            · have i6 := m_c5 (rfl : k.toInt = _) (by decide : (62 : Int32).toInt = 62) c6
              refine lv_iconst (v := 1) hx hb dX12_isMarkSign_36 (by decide) ?_
              refine lv_goto (tgt := 41) hx hb dX12_isMarkSign_37 (by decide) ?_
              exact m_iret hx hb hr hlocks hW (by decide) (⟨rfl, Or.inl ⟨rfl, by omega⟩⟩) dX12_isMarkSign_41
set_option maxHeartbeats 4000000 in
set_option maxRecDepth 100000 in
theorem L_X12_reads_f_171 {p : Program} {l : Launch} {e : Env} {s : State} {m : MethodId} {args : Array Value} {below : List Frame} {meth : Method} {c : Code} {D : va_G} {cy : Nat → ClassId} {b : Nat} (hx : p.tables.exec = Jvm.exec) (hb : c.code = cX12_reads) (hr : meth.sig.returnType = (none)) (hml : c.maxLocals = 2) (hown : s.vm.findClass RX12 = some m.cls) (hts : ∀ w ∈ TB, w.before args s = true) (hlocks : meth.locks = false) (S : Nat → Bool) (μ0 : mM) (hS24 : S 24 = true) (av t : Int32) (h_av : 0 ≤ av.toInt ∧ av.toInt ≤ t.toInt ∧ t.toInt ≤ 400) (fT : Nat → Int32) : ∀ (f : Nat), ∀ (ga : Int32) (fv : Int32) (tk : Int32) (vv : Int32) (hy : av.toInt ≤ fv.toInt ∧ 0 ≤ fv.toInt ∧ fv.toInt + 1 ≤ ga.toInt ∧ ga.toInt ≤ t.toInt ∧ tk.toInt = 1 ∧ 0 ≤ vv.toInt ∧ vv.toInt ≤ 99999) (hf : 400 - ga.toInt < (f : Int)) (μ : mM) (hI : IY S μ0 μ) (h_ga : μ.1 81 36 = ga) (h_fv : μ.1 81 37 = fv) (h_tk : μ.1 81 38 = tk) (h_vv : μ.1 81 39 = vv) (htp : μ.1 81 35 = t) (hfT : μ.1 106 = fT) (hRW : m_RW μ) (hq : (m_q fT t.toNatClampNeg av.toNatClampNeg) = fv.toNatClampNeg) (hbd : bD (fT fv.toNatClampNeg).toInt = true) (hsp : z_E bD fT t.toNatClampNeg ga.toNatClampNeg = z_E bD fT t.toNatClampNeg (fv.toNatClampNeg + 1)) (hdg : m_dg fT fv.toNatClampNeg (ga.toNatClampNeg - fv.toNatClampNeg)) (hnv : ga.toInt - fv.toInt ≤ 4 → vv = m_nv fT fv.toNatClampNeg (ga.toNatClampNeg - fv.toNatClampNeg)) (H : Heap) (locs : List Loc), m_WA (m_A b LAY) D cy s b LAY μ H locs → ∀ ls : Array Slot, lv_has ls 2 [(0, .ref (b + 81))] → W p l e (m_R 2 0 0) s m args below meth c H locs 0 0 (MQ below (m_Qv D cy b LAY (fun ν => IY S μ0 ν ∧ ((av.toInt ≤ (ν.1 81 37).toInt ∧ (ν.1 81 37).toInt ≤ (ν.1 81 36).toInt ∧ ((ν.1 81 38).toInt = 0 ∨ (ν.1 81 37).toInt + 1 ≤ (ν.1 81 36).toInt) ∧ ((ν.1 81 38).toInt = 3 → 0 ≤ (ν.1 81 39).toInt)) ∧ (ν.1 81 37).toInt = ((m_q fT t.toNatClampNeg av.toNatClampNeg) : Nat) ∧ (ν.1 81 36).toInt = (m_te fT t.toNatClampNeg (m_q fT t.toNatClampNeg av.toNatClampNeg) : Nat) ∧ m_TV (m_tk fT t.toNatClampNeg (m_q fT t.toNatClampNeg av.toNatClampNeg)) (m_tv fT t.toNatClampNeg (m_q fT t.toNatClampNeg av.toNatClampNeg)) (ν.1 81 38) (ν.1 81 39)))) args s 0 0 (m_A b LAY)) (F0 m 171 ls []) := by
  intro f
  induction f with
  | zero => intro  ga fv tk vv hy hf; exfalso; omega
  | succ f ih =>
    intro  ga fv tk vv hy hf μ hI h_ga h_fv h_tk h_vv htp hfT hRW hq hbd hsp hdg hnv H locs hW ls hl
    refine lv_aload_n hx hb dX12_reads_171 rfl (lv_at hl 0 rfl) ?_
    refine lv_aload_n hx hb dX12_reads_172 rfl (lv_at hl 0 rfl) ?_
    refine lv_aload_n hx hb dX12_reads_173 rfl (lv_at hl 0 rfl) ?_
    refine m_geti hx hb hts hown hW (81) 36 rfl rfl cw_12 rfl (by decide) k_X12_245 dX12_reads_174 ?_
    refine lv_topi (fun x1 ex1 => ?_)
    have ex1 : x1 = ga := by rw [ex1]; exact h_ga
    have ex1 := ex1.symm
    subst ex1
    refine m_aI hW (m_runV (As := [.int ga]) (rest := [.ref (b + 81)]) hx hb hml hown hts hW (81) (g_X12_raw l D cy b ga (by omega) μ hI.1) mi_X12_raw k_X12_248 rfl rfl rfl hl.1 rfl (Nat.le_of_ble_eq_true rfl) dX12_reads_177 ⟨Nat.le_of_ble_eq_true rfl, Nat.le_of_ble_eq_true rfl⟩ ⟨Nat.le_of_ble_eq_true rfl, Nat.le_of_ble_eq_true rfl⟩) (fun x2 μ2 H locs q2 hW => ?_)
    obtain ⟨q2_m, q2⟩ := q2
    subst q2_m
    rw [show μ.1 81 35 = t from by exact htp] at q2
    rw [show μ.1 106 = fT from hfT] at q2
    rcases q2 with ⟨rfl, q2⟩ | q2
    · have l_m1 : ((-1) : Int32).toInt = (-1) := by decide
      refine m_aI hW (m_runV (As := [.int (-1)]) (rest := []) hx hb hml hown hts hW (81) (g_X12_isDigit_f l D cy b (-1) μ hI.1) mi_X12_isDigit k_X12_267 rfl rfl rfl hl.1 rfl (Nat.le_of_ble_eq_true rfl) dX12_reads_180 ⟨Nat.le_of_ble_eq_true rfl, Nat.le_of_ble_eq_true rfl⟩ ⟨Nat.le_of_ble_eq_true rfl, Nat.le_of_ble_eq_true rfl⟩) (fun x3 μ3 H locs q3 hW => ?_)
      obtain ⟨q3_m, q3⟩ := q3
      subst q3_m
      rcases q3 with ⟨rfl, q3⟩ | ⟨rfl, q3⟩
      · exfalso; omega
      · refine lv_if_eq (tgt := 239) hx hb dX12_reads_183 (by decide) (fun _ => ?_) (fun c => False.elim (by revert c; decide))
        have hend : z_E bD fT t.toNatClampNeg (fv.toNatClampNeg + 1) = ga.toNatClampNeg := by rw [← hsp]; exact z_E0 (fun z => by have z1 := z.1; have := m_ckI (x := ga) (by omega); have := m_ckI (x := t) (by omega); omega)
        have hnl : ¬ bL (fT fv.toNatClampNeg).toInt = true := fun z => by have z1 := bL_t.mp z; have z2 := bD_t.mp hbd; omega
        have hte : m_te fT t.toNatClampNeg fv.toNatClampNeg = ga.toNatClampNeg := by unfold m_te; rw [if_neg (by have := m_ckI (x := fv) (by omega); have := m_ckI (x := t) (by omega); omega), if_neg hnl, if_pos hbd]; exact hend
        refine lv_aload_n hx hb dX12_reads_239 rfl (lv_at hl 0 rfl) ?_
        refine m_geti hx hb hts hown hW (81) 36 rfl rfl cw_12 rfl (by decide) k_X12_245 dX12_reads_240 ?_
        refine lv_topi (fun x4 ex4 => ?_)
        have ex4 : x4 = ga := by rw [ex4]; exact h_ga
        have ex4 := ex4.symm
        subst ex4
        refine lv_aload_n hx hb dX12_reads_243 rfl (lv_at hl 0 rfl) ?_
        refine m_geti hx hb hts hown hW (81) 37 rfl rfl cw_12 rfl (by decide) k_X12_251 dX12_reads_244 ?_
        refine lv_topi (fun x5 ex5 => ?_)
        have ex5 : x5 = fv := by rw [ex5]; exact h_fv
        have ex5 := ex5.symm
        subst ex5
        refine lv_isub hx hb dX12_reads_247 ?_
        refine lv_topi (fun x6 ex6 => ?_)
        have tx6 : x6.toInt = ga.toInt - fv.toInt := m_subI ex6 (rfl : ga.toInt = _) (rfl : fv.toInt = _) (by omega) (by omega)
        refine lv_iconst (v := 5) hx hb dX12_reads_248 (by decide) ?_
        refine lv_icmp_ge (tgt := 273) hx hb dX12_reads_249 (by decide) (fun c7 => ?_) (fun c7 => ?_)
        · have i7 := m_c3 (by decide : (5 : Int32).toInt = 5) (rfl : x6.toInt = _) c7
          exact m_vret hx hb hr hlocks hW (⟨hI, ⟨by rw [show μ.1 81 36 = ga from by exact h_ga, show μ.1 81 37 = fv from by exact h_fv, show μ.1 81 38 = tk from by exact h_tk, show μ.1 81 39 = vv from by exact h_vv]; omega, ⟨by rw [show μ.1 81 37 = fv from by exact h_fv, hq]; exact (m_ckI (by omega)).symm, by rw [show μ.1 81 36 = ga from by exact h_ga, hq, hte]; exact (m_ckI (by omega)).symm, by rw [hq, show m_tk fT t.toNatClampNeg fv.toNatClampNeg = (if ga.toNatClampNeg - fv.toNatClampNeg ≤ 4 then 2 else 0) from by unfold m_tk; rw [if_neg (by have := m_ckI (x := fv) (by omega); have := m_ckI (x := t) (by omega); omega), if_neg hnl, if_pos hbd, hte], show μ.1 81 38 = tk from by exact h_tk, show μ.1 81 39 = vv from by exact h_vv]; exact Or.inr (Or.inl ⟨if_neg (by have := m_ckI (x := ga) (by omega); have := m_ckI (x := fv) (by omega); omega), (by omega)⟩)⟩⟩⟩) dX12_reads_273
        · have i7 := m_c4 (by decide : (5 : Int32).toInt = 5) (rfl : x6.toInt = _) c7
          refine lv_aload_n hx hb dX12_reads_252 rfl (lv_at hl 0 rfl) ?_
          refine lv_iconst (v := 3) hx hb dX12_reads_253 (by decide) ?_
          refine m_puti hx hb hts hown hW (81) 38 rfl rfl cw_12 tyX12_ok nmX12 rfl (by decide) k_X12_254 rfl rfl rfl dX12_reads_254 (fun H locs hW _ => ?_)
          generalize hμ8 : m_si μ (81) 38 3 = μ8 at hW
          have hI := hI.si1 hμ8 rfl (by decide) hS24
          refine lv_goto (tgt := 273) hx hb dX12_reads_257 (by decide) ?_
          have l_3 : (3 : Int32).toInt = 3 := by decide
          exact m_vret hx hb hr hlocks hW (⟨hI, ⟨by rw [show μ8.1 81 36 = ga from by rw [← hμ8]; exact h_ga, show μ8.1 81 37 = fv from by rw [← hμ8]; exact h_fv, show μ8.1 81 38 = 3 from by rw [← hμ8]; first | rfl | exact if_pos ⟨rfl, rfl⟩, show μ8.1 81 39 = vv from by rw [← hμ8]; exact h_vv]; omega, ⟨by rw [show μ8.1 81 37 = fv from by rw [← hμ8]; exact h_fv, hq]; exact (m_ckI (by omega)).symm, by rw [show μ8.1 81 36 = ga from by rw [← hμ8]; exact h_ga, hq, hte]; exact (m_ckI (by omega)).symm, by rw [hq, show m_tk fT t.toNatClampNeg fv.toNatClampNeg = (if ga.toNatClampNeg - fv.toNatClampNeg ≤ 4 then 2 else 0) from by unfold m_tk; rw [if_neg (by have := m_ckI (x := fv) (by omega); have := m_ckI (x := t) (by omega); omega), if_neg hnl, if_pos hbd, hte], show μ8.1 81 38 = 3 from by rw [← hμ8]; first | rfl | exact if_pos ⟨rfl, rfl⟩, show μ8.1 81 39 = vv from by rw [← hμ8]; exact h_vv]; exact Or.inr (Or.inr (Or.inl ⟨if_pos (by have := m_ckI (x := ga) (by omega); have := m_ckI (x := fv) (by omega); omega), rfl, by unfold m_tv; rw [if_pos ⟨by have := m_ckI (x := fv) (by omega); have := m_ckI (x := t) (by omega); omega, hbd⟩, hte]; exact hnv (by omega)⟩))⟩⟩⟩) dX12_reads_273
    · have bx2 := q2.2
      refine m_aI hW (m_runV (As := [.int x2]) (rest := []) hx hb hml hown hts hW (81) (g_X12_isDigit_f l D cy b x2 μ hI.1) mi_X12_isDigit k_X12_267 rfl rfl rfl hl.1 rfl (Nat.le_of_ble_eq_true rfl) dX12_reads_180 ⟨Nat.le_of_ble_eq_true rfl, Nat.le_of_ble_eq_true rfl⟩ ⟨Nat.le_of_ble_eq_true rfl, Nat.le_of_ble_eq_true rfl⟩) (fun x9 μ9 H locs q9 hW => ?_)
      obtain ⟨q9_m, q9⟩ := q9
      subst q9_m
      rcases q9 with ⟨rfl, q9⟩ | ⟨rfl, q9⟩
      · refine lv_if_eq (tgt := 239) hx hb dX12_reads_183 (by decide) (fun c => False.elim (by revert c; decide)) (fun _ => ?_)
        refine lv_aload_n hx hb dX12_reads_186 rfl (lv_at hl 0 rfl) ?_
        refine lv_aload_n hx hb dX12_reads_187 rfl (lv_at hl 0 rfl) ?_
        refine m_geti hx hb hts hown hW (81) 39 rfl rfl cw_12 rfl (by decide) k_X12_257 dX12_reads_188 ?_
        refine lv_topi (fun x10 ex10 => ?_)
        have ex10 : x10 = vv := by rw [ex10]; exact h_vv
        have ex10 := ex10.symm
        subst ex10
        refine lv_sipush (v := 10000) hx hb dX12_reads_191 (by decide) ?_
        refine lv_icmp_ge (tgt := 219) hx hb dX12_reads_194 (by decide) (fun c11 => ?_) (fun c11 => ?_)
        · have i11 := m_c3 (by decide : (10000 : Int32).toInt = 10000) (rfl : vv.toInt = _) c11
          refine lv_aload_n hx hb dX12_reads_219 rfl (lv_at hl 0 rfl) ?_
          refine m_geti hx hb hts hown hW (81) 39 rfl rfl cw_12 rfl (by decide) k_X12_257 dX12_reads_220 ?_
          refine lv_topi (fun x12 ex12 => ?_)
          have ex12 : x12 = vv := by rw [ex12]; exact h_vv
          have ex12 := ex12.symm
          subst ex12
          refine m_puti hx hb hts hown hW (81) 39 rfl rfl cw_12 tyX12_ok nmX12 rfl (by decide) k_X12_257 rfl rfl rfl dX12_reads_223 (fun H locs hW _ => ?_)
          generalize hμ13 : m_si μ (81) 39 vv = μ13 at hW
          have hI := hI.si1 hμ13 rfl (by omega) hS24
          refine lv_aload_n hx hb dX12_reads_226 rfl (lv_at hl 0 rfl) ?_
          refine lv_aload_n hx hb dX12_reads_227 rfl (lv_at hl 0 rfl) ?_
          refine m_geti hx hb hts hown hW (81) 36 rfl rfl cw_12 rfl (by decide) k_X12_245 dX12_reads_228 ?_
          refine lv_topi (fun x14 ex14 => ?_)
          have ex14 : x14 = ga := by rw [ex14, ← hμ13]; exact h_ga
          have ex14 := ex14.symm
          subst ex14
          refine lv_iconst (v := 1) hx hb dX12_reads_231 (by decide) ?_
          refine lv_iadd hx hb dX12_reads_232 ?_
          refine lv_topi (fun x15 ex15 => ?_)
          have tx15 : x15.toInt = ga.toInt + 1 := m_addI ex15 (rfl : ga.toInt = _) (by decide : (1 : Int32).toInt = 1) (by omega) (by omega)
          refine m_puti hx hb hts hown hW (81) 36 rfl rfl cw_12 tyX12_ok nmX12 rfl (by decide) k_X12_245 rfl rfl rfl dX12_reads_233 (fun H locs hW _ => ?_)
          generalize hμ16 : m_si μ13 (81) 36 x15 = μ16 at hW
          have hI := hI.si1 hμ16 rfl (by omega) hS24
          refine lv_goto (tgt := 171) hx hb dX12_reads_236 (by decide) ?_
          have hck : x15.toNatClampNeg = ga.toNatClampNeg + 1 := m_cl1 (by omega) (by omega)
          have hk1 : ga.toNatClampNeg + 1 - fv.toNatClampNeg = (ga.toNatClampNeg - fv.toNatClampNeg) + 1 := by have := m_ckI (x := ga) (by omega); have := m_ckI (x := fv) (by omega); omega
          have hdg1 : m_dg fT fv.toNatClampNeg (ga.toNatClampNeg + 1 - fv.toNatClampNeg) := fun j hj => (Classical.em (j = ga.toNatClampNeg - fv.toNatClampNeg)).elim (fun z => by rw [z, show fv.toNatClampNeg + (ga.toNatClampNeg - fv.toNatClampNeg) = ga.toNatClampNeg from by have := m_ckI (x := ga) (by omega); have := m_ckI (x := fv) (by omega); omega, ← q2.1]; omega) (fun z => hdg j (by omega))
          exact ih  x15 fv tk vv (by omega) (by omega) μ16 hI (by rw [← hμ16]; first | rfl | exact if_pos ⟨rfl, rfl⟩) (by rw [← hμ16, ← hμ13]; exact h_fv) (by rw [← hμ16, ← hμ13]; exact h_tk) (by rw [← hμ16, ← hμ13]; first | rfl | exact if_pos ⟨rfl, rfl⟩) (by rw [← hμ16, ← hμ13]; exact htp) (by rw [show μ16.1 106 = μ13.1 106 from by rw [← hμ16]; exact m_si_row (by decide), show μ13.1 106 = μ.1 106 from by rw [← hμ13]; exact m_si_row (by decide)]; exact hfT) ((fun i hi => by rw [show μ16.1 107 = μ13.1 107 from by rw [← hμ16]; exact m_si_row (by decide), show μ13.1 107 = μ.1 107 from by rw [← hμ13]; exact m_si_row (by decide)]; exact hRW i hi)) (hq) (hbd) ((by rw [hck, ← hsp]; exact (z_E1 (by have := m_ckI (x := ga) (by omega); have := m_ckI (x := t) (by omega); omega) (by rw [← q2.1]; exact bD_t.mpr (by omega))).symm)) ((by rw [hck]; exact hdg1)) ((fun h4 => by exfalso; have h5 := hnv (by omega); have h6 := m_nv_b (f := fT) (a := fv.toNatClampNeg) (k := ga.toNatClampNeg - fv.toNatClampNeg) (by have := m_ckI (x := ga) (by omega); have := m_ckI (x := fv) (by omega); omega) hdg; rw [← h5] at h6; omega)) _ _ hW ls (lv_sub hl [0] rfl)
        · have i11 := m_c4 (by decide : (10000 : Int32).toInt = 10000) (rfl : vv.toInt = _) c11
          refine lv_bipush (v := 10) hx hb dX12_reads_197 (by decide) ?_
          refine lv_aload_n hx hb dX12_reads_199 rfl (lv_at hl 0 rfl) ?_
          refine m_geti hx hb hts hown hW (81) 39 rfl rfl cw_12 rfl (by decide) k_X12_257 dX12_reads_200 ?_
          refine lv_topi (fun x17 ex17 => ?_)
          have ex17 : x17 = vv := by rw [ex17]; exact h_vv
          have ex17 := ex17.symm
          subst ex17
          refine lv_imul hx hb dX12_reads_203 ?_
          refine lv_topi (fun x18 ex18 => ?_)
          have tx18 : x18.toInt = 10 * vv.toInt := m_mulI ex18 (by decide : (10 : Int32).toInt = 10) (rfl : vv.toInt = _) (by omega) (by omega)
          refine lv_aload_n hx hb dX12_reads_204 rfl (lv_at hl 0 rfl) ?_
          refine lv_aload_n hx hb dX12_reads_205 rfl (lv_at hl 0 rfl) ?_
          refine m_geti hx hb hts hown hW (81) 36 rfl rfl cw_12 rfl (by decide) k_X12_245 dX12_reads_206 ?_
          refine lv_topi (fun x19 ex19 => ?_)
          have ex19 : x19 = ga := by rw [ex19]; exact h_ga
          have ex19 := ex19.symm
          subst ex19
          refine m_aI hW (m_runV (As := [.int ga]) (rest := [.int x18, .ref (b + 81)]) hx hb hml hown hts hW (81) (g_X12_raw l D cy b ga (by omega) μ hI.1) mi_X12_raw k_X12_248 rfl rfl rfl hl.1 rfl (Nat.le_of_ble_eq_true rfl) dX12_reads_209 ⟨Nat.le_of_ble_eq_true rfl, Nat.le_of_ble_eq_true rfl⟩ ⟨Nat.le_of_ble_eq_true rfl, Nat.le_of_ble_eq_true rfl⟩) (fun x20 μ20 H locs q20 hW => ?_)
          obtain ⟨q20_m, q20⟩ := q20
          subst q20_m
          rw [show μ.1 81 35 = t from by exact htp] at q20
          rw [show μ.1 106 = fT from hfT] at q20
          rcases q20 with q20 | q20
          · exfalso; omega
          have hq20 := q2.1.trans q20.1.symm
          subst hq20
          refine lv_iadd hx hb dX12_reads_212 ?_
          refine lv_topi (fun x21 ex21 => ?_)
          have tx21 : x21.toInt = x18.toInt + x2.toInt := m_addI ex21 (rfl : x18.toInt = _) (rfl : x2.toInt = _) (by omega) (by omega)
          refine lv_bipush (v := 48) hx hb dX12_reads_213 (by decide) ?_
          refine lv_isub hx hb dX12_reads_215 ?_
          refine lv_topi (fun x22 ex22 => ?_)
          have tx22 : x22.toInt = x21.toInt - 48 := m_subI ex22 (rfl : x21.toInt = _) (by decide : (48 : Int32).toInt = 48) (by omega) (by omega)
          refine lv_goto (tgt := 223) hx hb dX12_reads_216 (by decide) ?_
          refine m_puti hx hb hts hown hW (81) 39 rfl rfl cw_12 tyX12_ok nmX12 rfl (by decide) k_X12_257 rfl rfl rfl dX12_reads_223 (fun H locs hW _ => ?_)
          generalize hμ23 : m_si μ (81) 39 x22 = μ23 at hW
          have hI := hI.si1 hμ23 rfl (by omega) hS24
          refine lv_aload_n hx hb dX12_reads_226 rfl (lv_at hl 0 rfl) ?_
          refine lv_aload_n hx hb dX12_reads_227 rfl (lv_at hl 0 rfl) ?_
          refine m_geti hx hb hts hown hW (81) 36 rfl rfl cw_12 rfl (by decide) k_X12_245 dX12_reads_228 ?_
          refine lv_topi (fun x24 ex24 => ?_)
          have ex24 : x24 = ga := by rw [ex24, ← hμ23]; exact h_ga
          have ex24 := ex24.symm
          subst ex24
          refine lv_iconst (v := 1) hx hb dX12_reads_231 (by decide) ?_
          refine lv_iadd hx hb dX12_reads_232 ?_
          refine lv_topi (fun x25 ex25 => ?_)
          have tx25 : x25.toInt = ga.toInt + 1 := m_addI ex25 (rfl : ga.toInt = _) (by decide : (1 : Int32).toInt = 1) (by omega) (by omega)
          refine m_puti hx hb hts hown hW (81) 36 rfl rfl cw_12 tyX12_ok nmX12 rfl (by decide) k_X12_245 rfl rfl rfl dX12_reads_233 (fun H locs hW _ => ?_)
          generalize hμ26 : m_si μ23 (81) 36 x25 = μ26 at hW
          have hI := hI.si1 hμ26 rfl (by omega) hS24
          refine lv_goto (tgt := 171) hx hb dX12_reads_236 (by decide) ?_
          have hck : x25.toNatClampNeg = ga.toNatClampNeg + 1 := m_cl1 (by omega) (by omega)
          have hk1 : ga.toNatClampNeg + 1 - fv.toNatClampNeg = (ga.toNatClampNeg - fv.toNatClampNeg) + 1 := by have := m_ckI (x := ga) (by omega); have := m_ckI (x := fv) (by omega); omega
          have hdg1 : m_dg fT fv.toNatClampNeg (ga.toNatClampNeg + 1 - fv.toNatClampNeg) := fun j hj => (Classical.em (j = ga.toNatClampNeg - fv.toNatClampNeg)).elim (fun z => by rw [z, show fv.toNatClampNeg + (ga.toNatClampNeg - fv.toNatClampNeg) = ga.toNatClampNeg from by have := m_ckI (x := ga) (by omega); have := m_ckI (x := fv) (by omega); omega, ← q2.1]; omega) (fun z => hdg j (by omega))
          exact ih  x25 fv tk x22 (by omega) (by omega) μ26 hI (by rw [← hμ26]; first | rfl | exact if_pos ⟨rfl, rfl⟩) (by rw [← hμ26, ← hμ23]; exact h_fv) (by rw [← hμ26, ← hμ23]; exact h_tk) (by rw [← hμ26, ← hμ23]; first | rfl | exact if_pos ⟨rfl, rfl⟩) (by rw [← hμ26, ← hμ23]; exact htp) (by rw [show μ26.1 106 = μ23.1 106 from by rw [← hμ26]; exact m_si_row (by decide), show μ23.1 106 = μ.1 106 from by rw [← hμ23]; exact m_si_row (by decide)]; exact hfT) ((fun i hi => by rw [show μ26.1 107 = μ23.1 107 from by rw [← hμ26]; exact m_si_row (by decide), show μ23.1 107 = μ.1 107 from by rw [← hμ23]; exact m_si_row (by decide)]; exact hRW i hi)) (hq) (hbd) ((by rw [hck, ← hsp]; exact (z_E1 (by have := m_ckI (x := ga) (by omega); have := m_ckI (x := t) (by omega); omega) (by rw [← q2.1]; exact bD_t.mpr (by omega))).symm)) ((by rw [hck]; exact hdg1)) ((fun h4 => by rw [hck, hk1]; unfold m_nv; rw [← hnv (by omega), show fv.toNatClampNeg + (ga.toNatClampNeg - fv.toNatClampNeg) = ga.toNatClampNeg from by have := m_ckI (x := ga) (by omega); have := m_ckI (x := fv) (by omega); omega, ← q2.1, Int32.mul_comm, ← ex18, ← ex21, ← ex22])) _ _ hW ls (lv_sub hl [0] rfl)
      · refine lv_if_eq (tgt := 239) hx hb dX12_reads_183 (by decide) (fun _ => ?_) (fun c => False.elim (by revert c; decide))
        have hend : z_E bD fT t.toNatClampNeg (fv.toNatClampNeg + 1) = ga.toNatClampNeg := by rw [← hsp]; exact z_E0 (fun z => by have z2 := z.2; rw [← q2.1] at z2; have z3 := bD_t.mp z2; omega)
        have hnl : ¬ bL (fT fv.toNatClampNeg).toInt = true := fun z => by have z1 := bL_t.mp z; have z2 := bD_t.mp hbd; omega
        have hte : m_te fT t.toNatClampNeg fv.toNatClampNeg = ga.toNatClampNeg := by unfold m_te; rw [if_neg (by have := m_ckI (x := fv) (by omega); have := m_ckI (x := t) (by omega); omega), if_neg hnl, if_pos hbd]; exact hend
        refine lv_aload_n hx hb dX12_reads_239 rfl (lv_at hl 0 rfl) ?_
        refine m_geti hx hb hts hown hW (81) 36 rfl rfl cw_12 rfl (by decide) k_X12_245 dX12_reads_240 ?_
        refine lv_topi (fun x27 ex27 => ?_)
        have ex27 : x27 = ga := by rw [ex27]; exact h_ga
        have ex27 := ex27.symm
        subst ex27
        refine lv_aload_n hx hb dX12_reads_243 rfl (lv_at hl 0 rfl) ?_
        refine m_geti hx hb hts hown hW (81) 37 rfl rfl cw_12 rfl (by decide) k_X12_251 dX12_reads_244 ?_
        refine lv_topi (fun x28 ex28 => ?_)
        have ex28 : x28 = fv := by rw [ex28]; exact h_fv
        have ex28 := ex28.symm
        subst ex28
        refine lv_isub hx hb dX12_reads_247 ?_
        refine lv_topi (fun x29 ex29 => ?_)
        have tx29 : x29.toInt = ga.toInt - fv.toInt := m_subI ex29 (rfl : ga.toInt = _) (rfl : fv.toInt = _) (by omega) (by omega)
        refine lv_iconst (v := 5) hx hb dX12_reads_248 (by decide) ?_
        refine lv_icmp_ge (tgt := 273) hx hb dX12_reads_249 (by decide) (fun c30 => ?_) (fun c30 => ?_)
        · have i30 := m_c3 (by decide : (5 : Int32).toInt = 5) (rfl : x29.toInt = _) c30
          exact m_vret hx hb hr hlocks hW (⟨hI, ⟨by rw [show μ.1 81 36 = ga from by exact h_ga, show μ.1 81 37 = fv from by exact h_fv, show μ.1 81 38 = tk from by exact h_tk, show μ.1 81 39 = vv from by exact h_vv]; omega, ⟨by rw [show μ.1 81 37 = fv from by exact h_fv, hq]; exact (m_ckI (by omega)).symm, by rw [show μ.1 81 36 = ga from by exact h_ga, hq, hte]; exact (m_ckI (by omega)).symm, by rw [hq, show m_tk fT t.toNatClampNeg fv.toNatClampNeg = (if ga.toNatClampNeg - fv.toNatClampNeg ≤ 4 then 2 else 0) from by unfold m_tk; rw [if_neg (by have := m_ckI (x := fv) (by omega); have := m_ckI (x := t) (by omega); omega), if_neg hnl, if_pos hbd, hte], show μ.1 81 38 = tk from by exact h_tk, show μ.1 81 39 = vv from by exact h_vv]; exact Or.inr (Or.inl ⟨if_neg (by have := m_ckI (x := ga) (by omega); have := m_ckI (x := fv) (by omega); omega), (by omega)⟩)⟩⟩⟩) dX12_reads_273
        · have i30 := m_c4 (by decide : (5 : Int32).toInt = 5) (rfl : x29.toInt = _) c30
          refine lv_aload_n hx hb dX12_reads_252 rfl (lv_at hl 0 rfl) ?_
          refine lv_iconst (v := 3) hx hb dX12_reads_253 (by decide) ?_
          refine m_puti hx hb hts hown hW (81) 38 rfl rfl cw_12 tyX12_ok nmX12 rfl (by decide) k_X12_254 rfl rfl rfl dX12_reads_254 (fun H locs hW _ => ?_)
          generalize hμ31 : m_si μ (81) 38 3 = μ31 at hW
          have hI := hI.si1 hμ31 rfl (by decide) hS24
          refine lv_goto (tgt := 273) hx hb dX12_reads_257 (by decide) ?_
          have l_3 : (3 : Int32).toInt = 3 := by decide
          exact m_vret hx hb hr hlocks hW (⟨hI, ⟨by rw [show μ31.1 81 36 = ga from by rw [← hμ31]; exact h_ga, show μ31.1 81 37 = fv from by rw [← hμ31]; exact h_fv, show μ31.1 81 38 = 3 from by rw [← hμ31]; first | rfl | exact if_pos ⟨rfl, rfl⟩, show μ31.1 81 39 = vv from by rw [← hμ31]; exact h_vv]; omega, ⟨by rw [show μ31.1 81 37 = fv from by rw [← hμ31]; exact h_fv, hq]; exact (m_ckI (by omega)).symm, by rw [show μ31.1 81 36 = ga from by rw [← hμ31]; exact h_ga, hq, hte]; exact (m_ckI (by omega)).symm, by rw [hq, show m_tk fT t.toNatClampNeg fv.toNatClampNeg = (if ga.toNatClampNeg - fv.toNatClampNeg ≤ 4 then 2 else 0) from by unfold m_tk; rw [if_neg (by have := m_ckI (x := fv) (by omega); have := m_ckI (x := t) (by omega); omega), if_neg hnl, if_pos hbd, hte], show μ31.1 81 38 = 3 from by rw [← hμ31]; first | rfl | exact if_pos ⟨rfl, rfl⟩, show μ31.1 81 39 = vv from by rw [← hμ31]; exact h_vv]; exact Or.inr (Or.inr (Or.inl ⟨if_pos (by have := m_ckI (x := ga) (by omega); have := m_ckI (x := fv) (by omega); omega), rfl, by unfold m_tv; rw [if_pos ⟨by have := m_ckI (x := fv) (by omega); have := m_ckI (x := t) (by omega); omega, hbd⟩, hte]; exact hnv (by omega)⟩))⟩⟩⟩) dX12_reads_273
set_option maxHeartbeats 4000000 in
set_option maxRecDepth 100000 in
theorem L_X12_reads_f_95 {p : Program} {l : Launch} {e : Env} {s : State} {m : MethodId} {args : Array Value} {below : List Frame} {meth : Method} {c : Code} {D : va_G} {cy : Nat → ClassId} {b : Nat} (hx : p.tables.exec = Jvm.exec) (hb : c.code = cX12_reads) (hr : meth.sig.returnType = (none)) (hml : c.maxLocals = 2) (hown : s.vm.findClass RX12 = some m.cls) (hts : ∀ w ∈ TB, w.before args s = true) (hlocks : meth.locks = false) (S : Nat → Bool) (μ0 : mM) (hS24 : S 24 = true) (av t : Int32) (h_av : 0 ≤ av.toInt ∧ av.toInt ≤ t.toInt ∧ t.toInt ≤ 400) (fT : Nat → Int32) : ∀ (f : Nat), ∀ (ga : Int32) (fv : Int32) (tk : Int32) (hy : av.toInt ≤ fv.toInt ∧ 0 ≤ fv.toInt ∧ fv.toInt + 1 ≤ ga.toInt ∧ ga.toInt ≤ t.toInt ∧ tk.toInt = 1) (hf : 400 - ga.toInt < (f : Int)) (μ : mM) (hI : IY S μ0 μ) (h_ga : μ.1 81 36 = ga) (h_fv : μ.1 81 37 = fv) (h_tk : μ.1 81 38 = tk) (htp : μ.1 81 35 = t) (hfT : μ.1 106 = fT) (hRW : m_RW μ) (hl_ : ∀ j : Nat, fv.toInt ≤ j → (j : Int) < ga.toInt → 65 ≤ (fT j).toInt) (hq : (m_q fT t.toNatClampNeg av.toNatClampNeg) = fv.toNatClampNeg) (hbl : bL (fT fv.toNatClampNeg).toInt = true) (hsp : z_E bL fT t.toNatClampNeg ga.toNatClampNeg = z_E bL fT t.toNatClampNeg (fv.toNatClampNeg + 1)) (H : Heap) (locs : List Loc), m_WA (m_A b LAY) D cy s b LAY μ H locs → ∀ ls : Array Slot, lv_has ls 2 [(0, .ref (b + 81))] → W p l e (m_R 2 0 0) s m args below meth c H locs 0 0 (MQ below (m_Qv D cy b LAY (fun ν => IY S μ0 ν ∧ ((av.toInt ≤ (ν.1 81 37).toInt ∧ (ν.1 81 37).toInt ≤ (ν.1 81 36).toInt ∧ ((ν.1 81 38).toInt = 0 ∨ (ν.1 81 37).toInt + 1 ≤ (ν.1 81 36).toInt) ∧ ((ν.1 81 38).toInt = 3 → 0 ≤ (ν.1 81 39).toInt)) ∧ (ν.1 81 37).toInt = ((m_q fT t.toNatClampNeg av.toNatClampNeg) : Nat) ∧ (ν.1 81 36).toInt = (m_te fT t.toNatClampNeg (m_q fT t.toNatClampNeg av.toNatClampNeg) : Nat) ∧ m_TV (m_tk fT t.toNatClampNeg (m_q fT t.toNatClampNeg av.toNatClampNeg)) (m_tv fT t.toNatClampNeg (m_q fT t.toNatClampNeg av.toNatClampNeg)) (ν.1 81 38) (ν.1 81 39)))) args s 0 0 (m_A b LAY)) (F0 m 95 ls []) := by
  intro f
  induction f with
  | zero => intro  ga fv tk hy hf; exfalso; omega
  | succ f ih =>
    intro  ga fv tk hy hf μ hI h_ga h_fv h_tk htp hfT hRW hl_ hq hbl hsp H locs hW ls hl
    refine lv_aload_n hx hb dX12_reads_95 rfl (lv_at hl 0 rfl) ?_
    refine lv_aload_n hx hb dX12_reads_96 rfl (lv_at hl 0 rfl) ?_
    refine lv_aload_n hx hb dX12_reads_97 rfl (lv_at hl 0 rfl) ?_
    refine m_geti hx hb hts hown hW (81) 36 rfl rfl cw_12 rfl (by decide) k_X12_245 dX12_reads_98 ?_
    refine lv_topi (fun x1 ex1 => ?_)
    have ex1 : x1 = ga := by rw [ex1]; exact h_ga
    have ex1 := ex1.symm
    subst ex1
    refine m_aI hW (m_runV (As := [.int ga]) (rest := [.ref (b + 81)]) hx hb hml hown hts hW (81) (g_X12_raw l D cy b ga (by omega) μ hI.1) mi_X12_raw k_X12_248 rfl rfl rfl hl.1 rfl (Nat.le_of_ble_eq_true rfl) dX12_reads_101 ⟨Nat.le_of_ble_eq_true rfl, Nat.le_of_ble_eq_true rfl⟩ ⟨Nat.le_of_ble_eq_true rfl, Nat.le_of_ble_eq_true rfl⟩) (fun x2 μ2 H locs q2 hW => ?_)
    obtain ⟨q2_m, q2⟩ := q2
    subst q2_m
    rw [show μ.1 81 35 = t from by exact htp] at q2
    rw [show μ.1 106 = fT from hfT] at q2
    rcases q2 with ⟨rfl, q2⟩ | q2
    · have l_m1 : ((-1) : Int32).toInt = (-1) := by decide
      refine m_aI hW (m_runV (As := [.int (-1)]) (rest := []) hx hb hml hown hts hW (81) (g_X12_isLetter_f l D cy b (-1) μ hI.1) mi_X12_isLetter k_X12_260 rfl rfl rfl hl.1 rfl (Nat.le_of_ble_eq_true rfl) dX12_reads_104 ⟨Nat.le_of_ble_eq_true rfl, Nat.le_of_ble_eq_true rfl⟩ ⟨Nat.le_of_ble_eq_true rfl, Nat.le_of_ble_eq_true rfl⟩) (fun x3 μ3 H locs q3 hW => ?_)
      obtain ⟨q3_m, q3⟩ := q3
      subst q3_m
      rcases q3 with ⟨rfl, q3⟩ | ⟨rfl, q3⟩
      · exfalso; omega
      · refine lv_if_eq (tgt := 123) hx hb dX12_reads_107 (by decide) (fun _ => ?_) (fun c => False.elim (by revert c; decide))
        have hend : z_E bL fT t.toNatClampNeg (fv.toNatClampNeg + 1) = ga.toNatClampNeg := by rw [← hsp]; exact z_E0 (fun z => by have z1 := z.1; have := m_ckI (x := ga) (by omega); have := m_ckI (x := t) (by omega); omega)
        have hte : m_te fT t.toNatClampNeg fv.toNatClampNeg = ga.toNatClampNeg := by unfold m_te; rw [if_neg (by have := m_ckI (x := fv) (by omega); have := m_ckI (x := t) (by omega); omega), if_pos hbl]; exact hend
        refine lv_aload_n hx hb dX12_reads_123 rfl (lv_at hl 0 rfl) ?_
        refine lv_aload_n hx hb dX12_reads_124 rfl (lv_at hl 0 rfl) ?_
        refine lv_aload_n hx hb dX12_reads_125 rfl (lv_at hl 0 rfl) ?_
        refine m_geti hx hb hts hown hW (81) 37 rfl rfl cw_12 rfl (by decide) k_X12_251 dX12_reads_126 ?_
        refine lv_topi (fun x4 ex4 => ?_)
        have ex4 : x4 = fv := by rw [ex4]; exact h_fv
        have ex4 := ex4.symm
        subst ex4
        refine lv_aload_n hx hb dX12_reads_129 rfl (lv_at hl 0 rfl) ?_
        refine m_geti hx hb hts hown hW (81) 36 rfl rfl cw_12 rfl (by decide) k_X12_245 dX12_reads_130 ?_
        refine lv_topi (fun x5 ex5 => ?_)
        have ex5 : x5 = ga := by rw [ex5]; exact h_ga
        have ex5 := ex5.symm
        subst ex5
        refine m_aI hW (m_runV (As := [.int fv, .int ga]) (rest := [.ref (b + 81)]) hx hb hml hown hts hW (81) (g_X12_wordAt_f l D cy b (μ.1 106) fv ga (by omega) (by omega) (by omega) μ hI.1 (fun j h1 h2 => by rw [hfT]; exact hl_ j h1 h2) rfl hRW) mi_X12_wordAt k_X12_263 rfl rfl rfl hl.1 rfl (Nat.le_of_ble_eq_true rfl) dX12_reads_133 ⟨Nat.le_of_ble_eq_true rfl, Nat.le_of_ble_eq_true rfl⟩ ⟨Nat.le_of_ble_eq_true rfl, Nat.le_of_ble_eq_true rfl⟩) (fun x6 μ6 H locs q6 hW => ?_)
        obtain ⟨q6_m, q6⟩ := q6
        subst q6_m
        rw [hfT] at q6
        have bx6 : -1 ≤ x6.toInt ∧ x6.toInt ≤ 18 := q6.elim (fun z => by rw [z.1]; decide) (fun ⟨qn, z1, z2, z3⟩ => by omega)
        refine m_puti hx hb hts hown hW (81) 39 rfl rfl cw_12 tyX12_ok nmX12 rfl (by decide) k_X12_257 rfl rfl rfl dX12_reads_136 (fun H locs hW _ => ?_)
        generalize hμ7 : m_si μ (81) 39 x6 = μ7 at hW
        have hI := hI.si1 hμ7 rfl (by omega) hS24
        refine lv_aload_n hx hb dX12_reads_139 rfl (lv_at hl 0 rfl) ?_
        refine m_geti hx hb hts hown hW (81) 39 rfl rfl cw_12 rfl (by decide) k_X12_257 dX12_reads_140 ?_
        refine lv_topi (fun x8 ex8 => ?_)
        have ex8 : x8 = x6 := by rw [ex8, ← hμ7]; first | rfl | exact if_pos ⟨rfl, rfl⟩
        have ex8 := ex8.symm
        subst ex8
        refine lv_iconst (v := (-1)) hx hb dX12_reads_143 (by decide) ?_
        refine lv_icmp_eq (tgt := 273) hx hb dX12_reads_144 (by decide) (fun c9 => ?_) (fun c9 => ?_)
        · have i9 := m_c5 (rfl : x6.toInt = _) (by decide : ((-1) : Int32).toInt = (-1)) c9
          exact m_vret hx hb hr hlocks hW (⟨hI, ⟨by rw [show μ7.1 81 36 = ga from by rw [← hμ7]; exact h_ga, show μ7.1 81 37 = fv from by rw [← hμ7]; exact h_fv, show μ7.1 81 38 = tk from by rw [← hμ7]; exact h_tk, show μ7.1 81 39 = x6 from by rw [← hμ7]; first | rfl | exact if_pos ⟨rfl, rfl⟩]; omega, ⟨by rw [show μ7.1 81 37 = fv from by rw [← hμ7]; exact h_fv, hq]; exact (m_ckI (by omega)).symm, by rw [show μ7.1 81 36 = ga from by rw [← hμ7]; exact h_ga, hq, hte]; exact (m_ckI (by omega)).symm, by rw [hq, show m_tk fT t.toNatClampNeg fv.toNatClampNeg = m_wk fT fv.toNatClampNeg ga.toNatClampNeg from by unfold m_tk; rw [if_neg (by have := m_ckI (x := fv) (by omega); have := m_ckI (x := t) (by omega); omega), if_pos hbl, hte], show μ7.1 81 38 = tk from by rw [← hμ7]; exact h_tk, show μ7.1 81 39 = x6 from by rw [← hμ7]; first | rfl | exact if_pos ⟨rfl, rfl⟩]; exact Or.inr (Or.inl ⟨q6.elim (fun z => m_wk_M0 z.2) (fun ⟨qn, z1, z2, z3⟩ => absurd z2 (by omega)), (by omega)⟩)⟩⟩⟩) dX12_reads_273
        · have i9 := m_c6 (rfl : x6.toInt = _) (by decide : ((-1) : Int32).toInt = (-1)) c9
          refine lv_aload_n hx hb dX12_reads_147 rfl (lv_at hl 0 rfl) ?_
          refine lv_iconst (v := 2) hx hb dX12_reads_148 (by decide) ?_
          refine m_puti hx hb hts hown hW (81) 38 rfl rfl cw_12 tyX12_ok nmX12 rfl (by decide) k_X12_254 rfl rfl rfl dX12_reads_149 (fun H locs hW _ => ?_)
          generalize hμ10 : m_si μ7 (81) 38 2 = μ10 at hW
          have hI := hI.si1 hμ10 rfl (by decide) hS24
          refine lv_goto (tgt := 273) hx hb dX12_reads_152 (by decide) ?_
          have l_2 : (2 : Int32).toInt = 2 := by decide
          exact m_vret hx hb hr hlocks hW (⟨hI, ⟨by rw [show μ10.1 81 36 = ga from by rw [← hμ10, ← hμ7]; exact h_ga, show μ10.1 81 37 = fv from by rw [← hμ10, ← hμ7]; exact h_fv, show μ10.1 81 38 = 2 from by rw [← hμ10]; first | rfl | exact if_pos ⟨rfl, rfl⟩, show μ10.1 81 39 = x6 from by rw [← hμ10, ← hμ7]; first | rfl | exact if_pos ⟨rfl, rfl⟩]; omega, ⟨by rw [show μ10.1 81 37 = fv from by rw [← hμ10, ← hμ7]; exact h_fv, hq]; exact (m_ckI (by omega)).symm, by rw [show μ10.1 81 36 = ga from by rw [← hμ10, ← hμ7]; exact h_ga, hq, hte]; exact (m_ckI (by omega)).symm, by rw [hq, show m_tk fT t.toNatClampNeg fv.toNatClampNeg = m_wk fT fv.toNatClampNeg ga.toNatClampNeg from by unfold m_tk; rw [if_neg (by have := m_ckI (x := fv) (by omega); have := m_ckI (x := t) (by omega); omega), if_pos hbl, hte], show μ10.1 81 38 = 2 from by rw [← hμ10]; first | rfl | exact if_pos ⟨rfl, rfl⟩, show μ10.1 81 39 = x6 from by rw [← hμ10, ← hμ7]; first | rfl | exact if_pos ⟨rfl, rfl⟩]; exact (q6.elim (fun z => absurd z.1 (by assumption)) (fun ⟨qn, z1, z2, z3⟩ => Or.inr (Or.inr (Or.inr (Or.inr ⟨qn, z1, rfl, z2, m_wk_M1 z1 z3⟩)))))⟩⟩⟩) dX12_reads_273
    · have bx2 := q2.2
      refine m_aI hW (m_runV (As := [.int x2]) (rest := []) hx hb hml hown hts hW (81) (g_X12_isLetter_f l D cy b x2 μ hI.1) mi_X12_isLetter k_X12_260 rfl rfl rfl hl.1 rfl (Nat.le_of_ble_eq_true rfl) dX12_reads_104 ⟨Nat.le_of_ble_eq_true rfl, Nat.le_of_ble_eq_true rfl⟩ ⟨Nat.le_of_ble_eq_true rfl, Nat.le_of_ble_eq_true rfl⟩) (fun x11 μ11 H locs q11 hW => ?_)
      obtain ⟨q11_m, q11⟩ := q11
      subst q11_m
      rcases q11 with ⟨rfl, q11⟩ | ⟨rfl, q11⟩
      · refine lv_if_eq (tgt := 123) hx hb dX12_reads_107 (by decide) (fun c => False.elim (by revert c; decide)) (fun _ => ?_)
        refine lv_aload_n hx hb dX12_reads_110 rfl (lv_at hl 0 rfl) ?_
        refine lv_aload_n hx hb dX12_reads_111 rfl (lv_at hl 0 rfl) ?_
        refine m_geti hx hb hts hown hW (81) 36 rfl rfl cw_12 rfl (by decide) k_X12_245 dX12_reads_112 ?_
        refine lv_topi (fun x12 ex12 => ?_)
        have ex12 : x12 = ga := by rw [ex12]; exact h_ga
        have ex12 := ex12.symm
        subst ex12
        refine lv_iconst (v := 1) hx hb dX12_reads_115 (by decide) ?_
        refine lv_iadd hx hb dX12_reads_116 ?_
        refine lv_topi (fun x13 ex13 => ?_)
        have tx13 : x13.toInt = ga.toInt + 1 := m_addI ex13 (rfl : ga.toInt = _) (by decide : (1 : Int32).toInt = 1) (by omega) (by omega)
        refine m_puti hx hb hts hown hW (81) 36 rfl rfl cw_12 tyX12_ok nmX12 rfl (by decide) k_X12_245 rfl rfl rfl dX12_reads_117 (fun H locs hW _ => ?_)
        generalize hμ14 : m_si μ (81) 36 x13 = μ14 at hW
        have hI := hI.si1 hμ14 rfl (by omega) hS24
        refine lv_goto (tgt := 95) hx hb dX12_reads_120 (by decide) ?_
        exact ih  x13 fv tk (by omega) (by omega) μ14 hI (by rw [← hμ14]; first | rfl | exact if_pos ⟨rfl, rfl⟩) (by rw [← hμ14]; exact h_fv) (by rw [← hμ14]; exact h_tk) (by rw [← hμ14]; exact htp) (by rw [show μ14.1 106 = μ.1 106 from by rw [← hμ14]; exact m_si_row (by decide)]; exact hfT) ((fun i hi => by rw [show μ14.1 107 = μ.1 107 from by rw [← hμ14]; exact m_si_row (by decide)]; exact hRW i hi)) ((fun j h1 h2 => (Classical.em (j = ga.toNatClampNeg)).elim (fun z => by rw [z, ← q2.1]; omega) (fun z => hl_ j h1 (by have := m_ckI (x := ga) (by omega); have := m_ckI (x := x13) (by omega); omega)))) (hq) (hbl) ((by rw [m_cl1 (x := x13) (y := ga) (by omega) (by omega), ← hsp]; exact (z_E1 (by have := m_ckI (x := ga) (by omega); have := m_ckI (x := t) (by omega); omega) (by rw [← q2.1]; exact bL_t.mpr (by omega))).symm)) _ _ hW ls (lv_sub hl [0] rfl)
      · refine lv_if_eq (tgt := 123) hx hb dX12_reads_107 (by decide) (fun _ => ?_) (fun c => False.elim (by revert c; decide))
        have hend : z_E bL fT t.toNatClampNeg (fv.toNatClampNeg + 1) = ga.toNatClampNeg := by rw [← hsp]; exact z_E0 (fun z => by have z2 := z.2; rw [← q2.1] at z2; have z3 := bL_t.mp z2; omega)
        have hte : m_te fT t.toNatClampNeg fv.toNatClampNeg = ga.toNatClampNeg := by unfold m_te; rw [if_neg (by have := m_ckI (x := fv) (by omega); have := m_ckI (x := t) (by omega); omega), if_pos hbl]; exact hend
        refine lv_aload_n hx hb dX12_reads_123 rfl (lv_at hl 0 rfl) ?_
        refine lv_aload_n hx hb dX12_reads_124 rfl (lv_at hl 0 rfl) ?_
        refine lv_aload_n hx hb dX12_reads_125 rfl (lv_at hl 0 rfl) ?_
        refine m_geti hx hb hts hown hW (81) 37 rfl rfl cw_12 rfl (by decide) k_X12_251 dX12_reads_126 ?_
        refine lv_topi (fun x15 ex15 => ?_)
        have ex15 : x15 = fv := by rw [ex15]; exact h_fv
        have ex15 := ex15.symm
        subst ex15
        refine lv_aload_n hx hb dX12_reads_129 rfl (lv_at hl 0 rfl) ?_
        refine m_geti hx hb hts hown hW (81) 36 rfl rfl cw_12 rfl (by decide) k_X12_245 dX12_reads_130 ?_
        refine lv_topi (fun x16 ex16 => ?_)
        have ex16 : x16 = ga := by rw [ex16]; exact h_ga
        have ex16 := ex16.symm
        subst ex16
        refine m_aI hW (m_runV (As := [.int fv, .int ga]) (rest := [.ref (b + 81)]) hx hb hml hown hts hW (81) (g_X12_wordAt_f l D cy b (μ.1 106) fv ga (by omega) (by omega) (by omega) μ hI.1 (fun j h1 h2 => by rw [hfT]; exact hl_ j h1 h2) rfl hRW) mi_X12_wordAt k_X12_263 rfl rfl rfl hl.1 rfl (Nat.le_of_ble_eq_true rfl) dX12_reads_133 ⟨Nat.le_of_ble_eq_true rfl, Nat.le_of_ble_eq_true rfl⟩ ⟨Nat.le_of_ble_eq_true rfl, Nat.le_of_ble_eq_true rfl⟩) (fun x17 μ17 H locs q17 hW => ?_)
        obtain ⟨q17_m, q17⟩ := q17
        subst q17_m
        rw [hfT] at q17
        have bx17 : -1 ≤ x17.toInt ∧ x17.toInt ≤ 18 := q17.elim (fun z => by rw [z.1]; decide) (fun ⟨qn, z1, z2, z3⟩ => by omega)
        refine m_puti hx hb hts hown hW (81) 39 rfl rfl cw_12 tyX12_ok nmX12 rfl (by decide) k_X12_257 rfl rfl rfl dX12_reads_136 (fun H locs hW _ => ?_)
        generalize hμ18 : m_si μ (81) 39 x17 = μ18 at hW
        have hI := hI.si1 hμ18 rfl (by omega) hS24
        refine lv_aload_n hx hb dX12_reads_139 rfl (lv_at hl 0 rfl) ?_
        refine m_geti hx hb hts hown hW (81) 39 rfl rfl cw_12 rfl (by decide) k_X12_257 dX12_reads_140 ?_
        refine lv_topi (fun x19 ex19 => ?_)
        have ex19 : x19 = x17 := by rw [ex19, ← hμ18]; first | rfl | exact if_pos ⟨rfl, rfl⟩
        have ex19 := ex19.symm
        subst ex19
        refine lv_iconst (v := (-1)) hx hb dX12_reads_143 (by decide) ?_
        refine lv_icmp_eq (tgt := 273) hx hb dX12_reads_144 (by decide) (fun c20 => ?_) (fun c20 => ?_)
        · have i20 := m_c5 (rfl : x17.toInt = _) (by decide : ((-1) : Int32).toInt = (-1)) c20
          exact m_vret hx hb hr hlocks hW (⟨hI, ⟨by rw [show μ18.1 81 36 = ga from by rw [← hμ18]; exact h_ga, show μ18.1 81 37 = fv from by rw [← hμ18]; exact h_fv, show μ18.1 81 38 = tk from by rw [← hμ18]; exact h_tk, show μ18.1 81 39 = x17 from by rw [← hμ18]; first | rfl | exact if_pos ⟨rfl, rfl⟩]; omega, ⟨by rw [show μ18.1 81 37 = fv from by rw [← hμ18]; exact h_fv, hq]; exact (m_ckI (by omega)).symm, by rw [show μ18.1 81 36 = ga from by rw [← hμ18]; exact h_ga, hq, hte]; exact (m_ckI (by omega)).symm, by rw [hq, show m_tk fT t.toNatClampNeg fv.toNatClampNeg = m_wk fT fv.toNatClampNeg ga.toNatClampNeg from by unfold m_tk; rw [if_neg (by have := m_ckI (x := fv) (by omega); have := m_ckI (x := t) (by omega); omega), if_pos hbl, hte], show μ18.1 81 38 = tk from by rw [← hμ18]; exact h_tk, show μ18.1 81 39 = x17 from by rw [← hμ18]; first | rfl | exact if_pos ⟨rfl, rfl⟩]; exact Or.inr (Or.inl ⟨q17.elim (fun z => m_wk_M0 z.2) (fun ⟨qn, z1, z2, z3⟩ => absurd z2 (by omega)), (by omega)⟩)⟩⟩⟩) dX12_reads_273
        · have i20 := m_c6 (rfl : x17.toInt = _) (by decide : ((-1) : Int32).toInt = (-1)) c20
          refine lv_aload_n hx hb dX12_reads_147 rfl (lv_at hl 0 rfl) ?_
          refine lv_iconst (v := 2) hx hb dX12_reads_148 (by decide) ?_
          refine m_puti hx hb hts hown hW (81) 38 rfl rfl cw_12 tyX12_ok nmX12 rfl (by decide) k_X12_254 rfl rfl rfl dX12_reads_149 (fun H locs hW _ => ?_)
          generalize hμ21 : m_si μ18 (81) 38 2 = μ21 at hW
          have hI := hI.si1 hμ21 rfl (by decide) hS24
          refine lv_goto (tgt := 273) hx hb dX12_reads_152 (by decide) ?_
          have l_2 : (2 : Int32).toInt = 2 := by decide
          exact m_vret hx hb hr hlocks hW (⟨hI, ⟨by rw [show μ21.1 81 36 = ga from by rw [← hμ21, ← hμ18]; exact h_ga, show μ21.1 81 37 = fv from by rw [← hμ21, ← hμ18]; exact h_fv, show μ21.1 81 38 = 2 from by rw [← hμ21]; first | rfl | exact if_pos ⟨rfl, rfl⟩, show μ21.1 81 39 = x17 from by rw [← hμ21, ← hμ18]; first | rfl | exact if_pos ⟨rfl, rfl⟩]; omega, ⟨by rw [show μ21.1 81 37 = fv from by rw [← hμ21, ← hμ18]; exact h_fv, hq]; exact (m_ckI (by omega)).symm, by rw [show μ21.1 81 36 = ga from by rw [← hμ21, ← hμ18]; exact h_ga, hq, hte]; exact (m_ckI (by omega)).symm, by rw [hq, show m_tk fT t.toNatClampNeg fv.toNatClampNeg = m_wk fT fv.toNatClampNeg ga.toNatClampNeg from by unfold m_tk; rw [if_neg (by have := m_ckI (x := fv) (by omega); have := m_ckI (x := t) (by omega); omega), if_pos hbl, hte], show μ21.1 81 38 = 2 from by rw [← hμ21]; first | rfl | exact if_pos ⟨rfl, rfl⟩, show μ21.1 81 39 = x17 from by rw [← hμ21, ← hμ18]; first | rfl | exact if_pos ⟨rfl, rfl⟩]; exact (q17.elim (fun z => absurd z.1 (by assumption)) (fun ⟨qn, z1, z2, z3⟩ => Or.inr (Or.inr (Or.inr (Or.inr ⟨qn, z1, rfl, z2, m_wk_M1 z1 z3⟩)))))⟩⟩⟩) dX12_reads_273
set_option maxHeartbeats 4000000 in
set_option maxRecDepth 100000 in
theorem L_X12_reads_f_0 {p : Program} {l : Launch} {e : Env} {s : State} {m : MethodId} {args : Array Value} {below : List Frame} {meth : Method} {c : Code} {D : va_G} {cy : Nat → ClassId} {b : Nat} (hx : p.tables.exec = Jvm.exec) (hb : c.code = cX12_reads) (hr : meth.sig.returnType = (none)) (hml : c.maxLocals = 2) (hown : s.vm.findClass RX12 = some m.cls) (hts : ∀ w ∈ TB, w.before args s = true) (hlocks : meth.locks = false) (S : Nat → Bool) (μ0 : mM) (hS24 : S 24 = true) (av t : Int32) (h_av : 0 ≤ av.toInt ∧ av.toInt ≤ t.toInt ∧ t.toInt ≤ 400) (fT : Nat → Int32) : ∀ (f : Nat), ∀ (ga : Int32) (hy : av.toInt ≤ ga.toInt ∧ ga.toInt ≤ t.toInt ∧ 0 ≤ ga.toInt) (hf : 400 - ga.toInt < (f : Int)) (μ : mM) (hI : IY S μ0 μ) (h_ga : μ.1 81 36 = ga) (htp : μ.1 81 35 = t) (hfT : μ.1 106 = fT) (hRW : m_RW μ) (hsp : z_E bB fT t.toNatClampNeg ga.toNatClampNeg = z_E bB fT t.toNatClampNeg av.toNatClampNeg) (H : Heap) (locs : List Loc), m_WA (m_A b LAY) D cy s b LAY μ H locs → ∀ ls : Array Slot, lv_has ls 2 [(0, .ref (b + 81))] → W p l e (m_R 2 0 0) s m args below meth c H locs 0 0 (MQ below (m_Qv D cy b LAY (fun ν => IY S μ0 ν ∧ ((av.toInt ≤ (ν.1 81 37).toInt ∧ (ν.1 81 37).toInt ≤ (ν.1 81 36).toInt ∧ ((ν.1 81 38).toInt = 0 ∨ (ν.1 81 37).toInt + 1 ≤ (ν.1 81 36).toInt) ∧ ((ν.1 81 38).toInt = 3 → 0 ≤ (ν.1 81 39).toInt)) ∧ (ν.1 81 37).toInt = ((m_q fT t.toNatClampNeg av.toNatClampNeg) : Nat) ∧ (ν.1 81 36).toInt = (m_te fT t.toNatClampNeg (m_q fT t.toNatClampNeg av.toNatClampNeg) : Nat) ∧ m_TV (m_tk fT t.toNatClampNeg (m_q fT t.toNatClampNeg av.toNatClampNeg)) (m_tv fT t.toNatClampNeg (m_q fT t.toNatClampNeg av.toNatClampNeg)) (ν.1 81 38) (ν.1 81 39)))) args s 0 0 (m_A b LAY)) (F0 m 0 ls []) := by
  intro f
  induction f with
  | zero => intro  ga hy hf; exfalso; omega
  | succ f ih =>
    intro  ga hy hf μ hI h_ga htp hfT hRW hsp H locs hW ls hl
    refine lv_aload_n hx hb dX12_reads_0 rfl (lv_at hl 0 rfl) ?_
    refine lv_aload_n hx hb dX12_reads_1 rfl (lv_at hl 0 rfl) ?_
    refine m_geti hx hb hts hown hW (81) 36 rfl rfl cw_12 rfl (by decide) k_X12_245 dX12_reads_2 ?_
    refine lv_topi (fun x1 ex1 => ?_)
    have ex1 : x1 = ga := by rw [ex1]; exact h_ga
    have ex1 := ex1.symm
    subst ex1
    refine m_aI hW (m_runV (As := [.int ga]) (rest := []) hx hb hml hown hts hW (81) (g_X12_raw l D cy b ga (by omega) μ hI.1) mi_X12_raw k_X12_248 rfl rfl rfl hl.1 rfl (Nat.le_of_ble_eq_true rfl) dX12_reads_5 ⟨Nat.le_of_ble_eq_true rfl, Nat.le_of_ble_eq_true rfl⟩ ⟨Nat.le_of_ble_eq_true rfl, Nat.le_of_ble_eq_true rfl⟩) (fun x2 μ2 H locs q2 hW => ?_)
    obtain ⟨q2_m, q2⟩ := q2
    subst q2_m
    rw [show μ.1 81 35 = t from by exact htp] at q2
    rw [show μ.1 106 = fT from hfT] at q2
    rcases q2 with ⟨rfl, q2⟩ | q2
    · refine lv_bipush (v := 32) hx hb dX12_reads_8 (by decide) ?_
      refine lv_icmp_eq (tgt := 26) hx hb dX12_reads_10 (by decide) (fun c => False.elim (by revert c; decide)) (fun _ => ?_)
      refine lv_aload_n hx hb dX12_reads_13 rfl (lv_at hl 0 rfl) ?_
      refine lv_aload_n hx hb dX12_reads_14 rfl (lv_at hl 0 rfl) ?_
      refine m_geti hx hb hts hown hW (81) 36 rfl rfl cw_12 rfl (by decide) k_X12_245 dX12_reads_15 ?_
      refine lv_topi (fun x3 ex3 => ?_)
      have ex3 : x3 = ga := by rw [ex3]; exact h_ga
      have ex3 := ex3.symm
      subst ex3
      refine m_aI hW (m_runV (As := [.int ga]) (rest := []) hx hb hml hown hts hW (81) (g_X12_raw l D cy b ga (by omega) μ hI.1) mi_X12_raw k_X12_248 rfl rfl rfl hl.1 rfl (Nat.le_of_ble_eq_true rfl) dX12_reads_18 ⟨Nat.le_of_ble_eq_true rfl, Nat.le_of_ble_eq_true rfl⟩ ⟨Nat.le_of_ble_eq_true rfl, Nat.le_of_ble_eq_true rfl⟩) (fun x4 μ4 H locs q4 hW => ?_)
      obtain ⟨q4_m, q4⟩ := q4
      subst q4_m
      rw [show μ.1 81 35 = t from by exact htp] at q4
      rw [show μ.1 106 = fT from hfT] at q4
      rcases q4 with ⟨rfl, q4⟩ | q4
      rotate_left
      · exfalso; omega
      refine lv_bipush (v := 10) hx hb dX12_reads_21 (by decide) ?_
      refine lv_icmp_ne (tgt := 39) hx hb dX12_reads_23 (by decide) (fun _ => ?_) (fun c => False.elim (by revert c; decide))
      have hq : (m_q fT t.toNatClampNeg av.toNatClampNeg) = ga.toNatClampNeg := by
        unfold m_q
        rw [← hsp]
        exact z_E0 (fun z => by have z1 := z.1; have := m_ckI (x := ga) (by omega); have := m_ckI (x := t) (by omega); omega)
      refine lv_aload_n hx hb dX12_reads_39 rfl (lv_at hl 0 rfl) ?_
      refine lv_aload_n hx hb dX12_reads_40 rfl (lv_at hl 0 rfl) ?_
      refine m_geti hx hb hts hown hW (81) 36 rfl rfl cw_12 rfl (by decide) k_X12_245 dX12_reads_41 ?_
      refine lv_topi (fun x5 ex5 => ?_)
      have ex5 : x5 = ga := by rw [ex5]; exact h_ga
      have ex5 := ex5.symm
      subst ex5
      refine m_puti hx hb hts hown hW (81) 37 rfl rfl cw_12 tyX12_ok nmX12 rfl (by decide) k_X12_251 rfl rfl rfl dX12_reads_44 (fun H locs hW _ => ?_)
      generalize hμ6 : m_si μ (81) 37 ga = μ6 at hW
      have hI := hI.si1 hμ6 rfl (by omega) hS24
      refine lv_aload_n hx hb dX12_reads_47 rfl (lv_at hl 0 rfl) ?_
      refine lv_iconst (v := 1) hx hb dX12_reads_48 (by decide) ?_
      refine m_puti hx hb hts hown hW (81) 38 rfl rfl cw_12 tyX12_ok nmX12 rfl (by decide) k_X12_254 rfl rfl rfl dX12_reads_49 (fun H locs hW _ => ?_)
      generalize hμ7 : m_si μ6 (81) 38 1 = μ7 at hW
      have hI := hI.si1 hμ7 rfl (by decide) hS24
      refine lv_aload_n hx hb dX12_reads_52 rfl (lv_at hl 0 rfl) ?_
      refine lv_aload_n hx hb dX12_reads_53 rfl (lv_at hl 0 rfl) ?_
      refine m_geti hx hb hts hown hW (81) 36 rfl rfl cw_12 rfl (by decide) k_X12_245 dX12_reads_54 ?_
      refine lv_topi (fun x8 ex8 => ?_)
      have ex8 : x8 = ga := by rw [ex8, ← hμ7, ← hμ6]; exact h_ga
      have ex8 := ex8.symm
      subst ex8
      refine m_aI hW (m_runV (As := [.int ga]) (rest := []) hx hb hml hown hts hW (81) (g_X12_raw l D cy b ga (by omega) μ7 hI.1) mi_X12_raw k_X12_248 rfl rfl rfl hl.1 rfl (Nat.le_of_ble_eq_true rfl) dX12_reads_57 ⟨Nat.le_of_ble_eq_true rfl, Nat.le_of_ble_eq_true rfl⟩ ⟨Nat.le_of_ble_eq_true rfl, Nat.le_of_ble_eq_true rfl⟩) (fun x9 μ9 H locs q9 hW => ?_)
      obtain ⟨q9_m, q9⟩ := q9
      subst q9_m
      rw [show μ7.1 81 35 = t from by rw [← hμ7, ← hμ6]; exact htp] at q9
      rw [show μ7.1 106 = fT from by rw [show μ7.1 106 = μ6.1 106 from by rw [← hμ7]; exact m_si_row (by decide), show μ6.1 106 = μ.1 106 from by rw [← hμ6]; exact m_si_row (by decide)]; exact hfT] at q9
      rcases q9 with ⟨rfl, q9⟩ | q9
      · refine lv_istore_n (lv' := [(1, .int (-1)), (0, .ref (b + 81))]) hx hb dX12_reads_60 rfl hl (by decide) rfl (fun ls hl => ?_)
        refine lv_iload_n hx hb dX12_reads_61 rfl (lv_at hl 0 rfl) ?_
        refine lv_iconst (v := (-1)) hx hb dX12_reads_62 (by decide) ?_
        refine lv_icmp_ne (tgt := 72) hx hb dX12_reads_63 (by decide) (fun c => False.elim (by revert c; decide)) (fun _ => ?_)
        refine lv_aload_n hx hb dX12_reads_66 rfl (lv_at hl 1 rfl) ?_
        refine lv_iconst (v := 0) hx hb dX12_reads_67 (by decide) ?_
        refine m_puti hx hb hts hown hW (81) 38 rfl rfl cw_12 tyX12_ok nmX12 rfl (by decide) k_X12_254 rfl rfl rfl dX12_reads_68 (fun H locs hW _ => ?_)
        generalize hμ10 : m_si μ7 (81) 38 0 = μ10 at hW
        have hI := hI.si1 hμ10 rfl (by decide) hS24
        have l_0 : (0 : Int32).toInt = 0 := by decide
        obtain ⟨x11, hx11⟩ : ∃ z, μ10.1 81 39 = z := ⟨_, rfl⟩
        have bx11 : -1 ≤ x11.toInt ∧ x11.toInt ≤ 99999 := by rw [← hx11]; exact hI.1 _ _ _ _ rfl
        exact m_vret hx hb hr hlocks hW (⟨hI, ⟨by rw [show μ10.1 81 36 = ga from by rw [← hμ10, ← hμ7, ← hμ6]; exact h_ga, show μ10.1 81 37 = ga from by rw [← hμ10, ← hμ7, ← hμ6]; first | rfl | exact if_pos ⟨rfl, rfl⟩, show μ10.1 81 38 = 0 from by rw [← hμ10]; first | rfl | exact if_pos ⟨rfl, rfl⟩, show μ10.1 81 39 = x11 from by exact hx11]; omega, ⟨by rw [show μ10.1 81 37 = ga from by rw [← hμ10, ← hμ7, ← hμ6]; first | rfl | exact if_pos ⟨rfl, rfl⟩, hq]; exact (m_ckI (by omega)).symm, by rw [show μ10.1 81 36 = ga from by rw [← hμ10, ← hμ7, ← hμ6]; exact h_ga, hq]; unfold m_te; rw [if_pos (by have := m_ckI (x := ga) (by omega); have := m_ckI (x := t) (by omega); omega)]; exact (m_ckI (by omega)).symm, by rw [hq, show μ10.1 81 38 = 0 from by rw [← hμ10]; first | rfl | exact if_pos ⟨rfl, rfl⟩, show μ10.1 81 39 = x11 from by exact hx11]; exact Or.inl ⟨by unfold m_tk; rw [if_pos (by have := m_ckI (x := ga) (by omega); have := m_ckI (x := t) (by omega); omega)], rfl⟩⟩⟩⟩) dX12_reads_71
      · have bx9 := q9.2
        refine lv_istore_n (lv' := [(1, .int x9), (0, .ref (b + 81))]) hx hb dX12_reads_60 rfl hl (by decide) rfl (fun ls hl => ?_)
        refine lv_iload_n hx hb dX12_reads_61 rfl (lv_at hl 0 rfl) ?_
        refine lv_iconst (v := (-1)) hx hb dX12_reads_62 (by decide) ?_
        refine lv_icmp_ne (tgt := 72) hx hb dX12_reads_63 (by decide) (fun c12 => ?_) (fun c12 => ?_)
        · have i12 := m_c6 (rfl : x9.toInt = _) (by decide : ((-1) : Int32).toInt = (-1)) c12
          refine lv_aload_n hx hb dX12_reads_72 rfl (lv_at hl 1 rfl) ?_
          refine lv_aload_n hx hb dX12_reads_73 rfl (lv_at hl 1 rfl) ?_
          refine m_geti hx hb hts hown hW (81) 36 rfl rfl cw_12 rfl (by decide) k_X12_245 dX12_reads_74 ?_
          refine lv_topi (fun x13 ex13 => ?_)
          have ex13 : x13 = ga := by rw [ex13, ← hμ7, ← hμ6]; exact h_ga
          have ex13 := ex13.symm
          subst ex13
          refine lv_iconst (v := 1) hx hb dX12_reads_77 (by decide) ?_
          refine lv_iadd hx hb dX12_reads_78 ?_
          refine lv_topi (fun x14 ex14 => ?_)
          have tx14 : x14.toInt = ga.toInt + 1 := m_addI ex14 (rfl : ga.toInt = _) (by decide : (1 : Int32).toInt = 1) (by omega) (by omega)
          refine m_puti hx hb hts hown hW (81) 36 rfl rfl cw_12 tyX12_ok nmX12 rfl (by decide) k_X12_245 rfl rfl rfl dX12_reads_79 (fun H locs hW _ => ?_)
          generalize hμ15 : m_si μ7 (81) 36 x14 = μ15 at hW
          have hI := hI.si1 hμ15 rfl (by omega) hS24
          refine lv_aload_n hx hb dX12_reads_82 rfl (lv_at hl 1 rfl) ?_
          refine lv_iload_n hx hb dX12_reads_83 rfl (lv_at hl 0 rfl) ?_
          refine m_puti hx hb hts hown hW (81) 39 rfl rfl cw_12 tyX12_ok nmX12 rfl (by decide) k_X12_257 rfl rfl rfl dX12_reads_84 (fun H locs hW _ => ?_)
          generalize hμ16 : m_si μ15 (81) 39 x9 = μ16 at hW
          have hI := hI.si1 hμ16 rfl (by omega) hS24
          refine lv_aload_n hx hb dX12_reads_87 rfl (lv_at hl 1 rfl) ?_
          refine lv_iload_n hx hb dX12_reads_88 rfl (lv_at hl 0 rfl) ?_
          refine m_aI hW (m_runV (As := [.int x9]) (rest := []) hx hb hml hown hts hW (81) (g_X12_isLetter_f l D cy b x9 μ16 hI.1) mi_X12_isLetter k_X12_260 rfl rfl rfl hl.1 rfl (Nat.le_of_ble_eq_true rfl) dX12_reads_89 ⟨Nat.le_of_ble_eq_true rfl, Nat.le_of_ble_eq_true rfl⟩ ⟨Nat.le_of_ble_eq_true rfl, Nat.le_of_ble_eq_true rfl⟩) (fun x17 μ17 H locs q17 hW => ?_)
          obtain ⟨q17_m, q17⟩ := q17
          subst q17_m
          rcases q17 with ⟨rfl, q17⟩ | ⟨rfl, q17⟩
          · refine lv_if_eq (tgt := 155) hx hb dX12_reads_92 (by decide) (fun c => False.elim (by revert c; decide)) (fun _ => ?_)
            have l_1 : (1 : Int32).toInt = 1 := by decide
            have hbl : bL (fT ga.toNatClampNeg).toInt = true := by rw [← q9.1]; exact bL_t.mpr (by omega)
            exact L_X12_reads_f_95 hx hb hr hml hown hts hlocks S μ0 hS24 av t h_av fT  401  x14 ga 1 (by omega) (by omega) μ16 hI (by rw [← hμ16, ← hμ15]; first | rfl | exact if_pos ⟨rfl, rfl⟩) (by rw [← hμ16, ← hμ15, ← hμ7, ← hμ6]; first | rfl | exact if_pos ⟨rfl, rfl⟩) (by rw [← hμ16, ← hμ15, ← hμ7]; first | rfl | exact if_pos ⟨rfl, rfl⟩) (by rw [← hμ16, ← hμ15, ← hμ7, ← hμ6]; exact htp) (by rw [show μ16.1 106 = μ15.1 106 from by rw [← hμ16]; exact m_si_row (by decide), show μ15.1 106 = μ7.1 106 from by rw [← hμ15]; exact m_si_row (by decide), show μ7.1 106 = μ6.1 106 from by rw [← hμ7]; exact m_si_row (by decide), show μ6.1 106 = μ.1 106 from by rw [← hμ6]; exact m_si_row (by decide)]; exact hfT) ((fun i hi => by rw [show μ16.1 107 = μ15.1 107 from by rw [← hμ16]; exact m_si_row (by decide), show μ15.1 107 = μ7.1 107 from by rw [← hμ15]; exact m_si_row (by decide), show μ7.1 107 = μ6.1 107 from by rw [← hμ7]; exact m_si_row (by decide), show μ6.1 107 = μ.1 107 from by rw [← hμ6]; exact m_si_row (by decide)]; exact hRW i hi)) ((fun j h1 h2 => by rw [show j = ga.toNatClampNeg from by have := m_ckI (x := ga) (by omega); have := m_ckI (x := x14) (by omega); omega, ← q9.1]; omega)) (hq) (hbl) ((by rw [m_cl1 (x := x14) (y := ga) (by omega) (by omega)])) _ _ hW ls (lv_sub hl [1] rfl)
          · refine lv_if_eq (tgt := 155) hx hb dX12_reads_92 (by decide) (fun _ => ?_) (fun c => False.elim (by revert c; decide))
            refine lv_aload_n hx hb dX12_reads_155 rfl (lv_at hl 1 rfl) ?_
            refine lv_iload_n hx hb dX12_reads_156 rfl (lv_at hl 0 rfl) ?_
            refine m_aI hW (m_runV (As := [.int x9]) (rest := []) hx hb hml hown hts hW (81) (g_X12_isDigit_f l D cy b x9 μ16 hI.1) mi_X12_isDigit k_X12_267 rfl rfl rfl hl.1 rfl (Nat.le_of_ble_eq_true rfl) dX12_reads_157 ⟨Nat.le_of_ble_eq_true rfl, Nat.le_of_ble_eq_true rfl⟩ ⟨Nat.le_of_ble_eq_true rfl, Nat.le_of_ble_eq_true rfl⟩) (fun x18 μ18 H locs q18 hW => ?_)
            obtain ⟨q18_m, q18⟩ := q18
            subst q18_m
            rcases q18 with ⟨rfl, q18⟩ | ⟨rfl, q18⟩
            · refine lv_if_eq (tgt := 260) hx hb dX12_reads_160 (by decide) (fun c => False.elim (by revert c; decide)) (fun _ => ?_)
              refine lv_aload_n hx hb dX12_reads_163 rfl (lv_at hl 1 rfl) ?_
              refine lv_iload_n hx hb dX12_reads_164 rfl (lv_at hl 0 rfl) ?_
              refine lv_bipush (v := 48) hx hb dX12_reads_165 (by decide) ?_
              refine lv_isub hx hb dX12_reads_167 ?_
              refine lv_topi (fun x19 ex19 => ?_)
              have tx19 : x19.toInt = x9.toInt - 48 := m_subI ex19 (rfl : x9.toInt = _) (by decide : (48 : Int32).toInt = 48) (by omega) (by omega)
              refine m_puti hx hb hts hown hW (81) 39 rfl rfl cw_12 tyX12_ok nmX12 rfl (by decide) k_X12_257 rfl rfl rfl dX12_reads_168 (fun H locs hW _ => ?_)
              generalize hμ20 : m_si μ16 (81) 39 x19 = μ20 at hW
              have hI := hI.si1 hμ20 rfl (by omega) hS24
              have l_1 : (1 : Int32).toInt = 1 := by decide
              have hbd : bD (fT ga.toNatClampNeg).toInt = true := by rw [← q9.1]; exact bD_t.mpr (by omega)
              have hck : x14.toNatClampNeg = ga.toNatClampNeg + 1 := m_cl1 (by omega) (by omega)
              have hnv0 : m_nv fT ga.toNatClampNeg 1 = x19 := by show (0 : Int32) * 10 + fT (ga.toNatClampNeg + 0) - 48 = _; rw [Nat.add_zero, ← q9.1, Int32.zero_mul, Int32.zero_add, ex19]
              exact L_X12_reads_f_171 hx hb hr hml hown hts hlocks S μ0 hS24 av t h_av fT  401  x14 ga 1 x19 (by omega) (by omega) μ20 hI (by rw [← hμ20, ← hμ16, ← hμ15]; first | rfl | exact if_pos ⟨rfl, rfl⟩) (by rw [← hμ20, ← hμ16, ← hμ15, ← hμ7, ← hμ6]; first | rfl | exact if_pos ⟨rfl, rfl⟩) (by rw [← hμ20, ← hμ16, ← hμ15, ← hμ7]; first | rfl | exact if_pos ⟨rfl, rfl⟩) (by rw [← hμ20]; first | rfl | exact if_pos ⟨rfl, rfl⟩) (by rw [← hμ20, ← hμ16, ← hμ15, ← hμ7, ← hμ6]; exact htp) (by rw [show μ20.1 106 = μ16.1 106 from by rw [← hμ20]; exact m_si_row (by decide), show μ16.1 106 = μ15.1 106 from by rw [← hμ16]; exact m_si_row (by decide), show μ15.1 106 = μ7.1 106 from by rw [← hμ15]; exact m_si_row (by decide), show μ7.1 106 = μ6.1 106 from by rw [← hμ7]; exact m_si_row (by decide), show μ6.1 106 = μ.1 106 from by rw [← hμ6]; exact m_si_row (by decide)]; exact hfT) ((fun i hi => by rw [show μ20.1 107 = μ16.1 107 from by rw [← hμ20]; exact m_si_row (by decide), show μ16.1 107 = μ15.1 107 from by rw [← hμ16]; exact m_si_row (by decide), show μ15.1 107 = μ7.1 107 from by rw [← hμ15]; exact m_si_row (by decide), show μ7.1 107 = μ6.1 107 from by rw [← hμ7]; exact m_si_row (by decide), show μ6.1 107 = μ.1 107 from by rw [← hμ6]; exact m_si_row (by decide)]; exact hRW i hi)) (hq) (hbd) ((by rw [hck])) ((by rw [hck, show ga.toNatClampNeg + 1 - ga.toNatClampNeg = 1 from by omega]; exact fun j hj => by rw [show ga.toNatClampNeg + j = ga.toNatClampNeg from by omega]; exact bD_t.mp hbd)) ((fun _ => by rw [hck, show ga.toNatClampNeg + 1 - ga.toNatClampNeg = 1 from by omega]; exact hnv0.symm)) _ _ hW ls (lv_sub hl [1] rfl)
            · refine lv_if_eq (tgt := 260) hx hb dX12_reads_160 (by decide) (fun _ => ?_) (fun c => False.elim (by revert c; decide))
              refine lv_aload_n hx hb dX12_reads_260 rfl (lv_at hl 1 rfl) ?_
              refine lv_iload_n hx hb dX12_reads_261 rfl (lv_at hl 0 rfl) ?_
              refine m_aI hW (m_runV (As := [.int x9]) (rest := []) hx hb hml hown hts hW (81) (g_X12_isMarkSign_f l D cy b x9 μ16 hI.1) mi_X12_isMarkSign k_X12_270 rfl rfl rfl hl.1 rfl (Nat.le_of_ble_eq_true rfl) dX12_reads_262 ⟨Nat.le_of_ble_eq_true rfl, Nat.le_of_ble_eq_true rfl⟩ ⟨Nat.le_of_ble_eq_true rfl, Nat.le_of_ble_eq_true rfl⟩) (fun x21 μ21 H locs q21 hW => ?_)
              obtain ⟨q21_m, q21⟩ := q21
              subst q21_m
              rcases q21 with ⟨rfl, q21⟩ | ⟨rfl, q21⟩
              · refine lv_if_eq (tgt := 273) hx hb dX12_reads_265 (by decide) (fun c => False.elim (by revert c; decide)) (fun _ => ?_)
                refine lv_aload_n hx hb dX12_reads_268 rfl (lv_at hl 1 rfl) ?_
                refine lv_iconst (v := 4) hx hb dX12_reads_269 (by decide) ?_
                refine m_puti hx hb hts hown hW (81) 38 rfl rfl cw_12 tyX12_ok nmX12 rfl (by decide) k_X12_254 rfl rfl rfl dX12_reads_270 (fun H locs hW _ => ?_)
                generalize hμ22 : m_si μ16 (81) 38 4 = μ22 at hW
                have hI := hI.si1 hμ22 rfl (by decide) hS24
                have l_4 : (4 : Int32).toInt = 4 := by decide
                exact m_vret hx hb hr hlocks hW (⟨hI, ⟨by rw [show μ22.1 81 36 = x14 from by rw [← hμ22, ← hμ16, ← hμ15]; first | rfl | exact if_pos ⟨rfl, rfl⟩, show μ22.1 81 37 = ga from by rw [← hμ22, ← hμ16, ← hμ15, ← hμ7, ← hμ6]; first | rfl | exact if_pos ⟨rfl, rfl⟩, show μ22.1 81 38 = 4 from by rw [← hμ22]; first | rfl | exact if_pos ⟨rfl, rfl⟩, show μ22.1 81 39 = x9 from by rw [← hμ22, ← hμ16]; first | rfl | exact if_pos ⟨rfl, rfl⟩]; omega, ⟨by rw [show μ22.1 81 37 = ga from by rw [← hμ22, ← hμ16, ← hμ15, ← hμ7, ← hμ6]; first | rfl | exact if_pos ⟨rfl, rfl⟩, hq]; exact (m_ckI (by omega)).symm, by rw [show μ22.1 81 36 = x14 from by rw [← hμ22, ← hμ16, ← hμ15]; first | rfl | exact if_pos ⟨rfl, rfl⟩, hq]; unfold m_te; rw [if_neg (by have := m_ckI (x := ga) (by omega); have := m_ckI (x := t) (by omega); omega), if_neg (by rw [← q9.1]; intro z; have := bL_t.mp z; omega), if_neg (by rw [← q9.1]; intro z; have := bD_t.mp z; omega)]; have := m_cl1 (x := x14) (y := ga) (by omega) (by omega); have := m_ckI (x := x14) (by omega); omega, by rw [hq, show m_tk fT t.toNatClampNeg ga.toNatClampNeg = m_sk x9.toInt from by unfold m_tk; rw [if_neg (by have := m_ckI (x := ga) (by omega); have := m_ckI (x := t) (by omega); omega), if_neg (by rw [← q9.1]; intro z; have := bL_t.mp z; omega), if_neg (by rw [← q9.1]; intro z; have := bD_t.mp z; omega), ← q9.1], show μ22.1 81 38 = 4 from by rw [← hμ22]; first | rfl | exact if_pos ⟨rfl, rfl⟩, show μ22.1 81 39 = x9 from by rw [← hμ22, ← hμ16]; first | rfl | exact if_pos ⟨rfl, rfl⟩]; exact Or.inr (Or.inr (Or.inr (Or.inl ⟨m_sk_b (by omega), rfl, rfl⟩)))⟩⟩⟩) dX12_reads_273
              · refine lv_if_eq (tgt := 273) hx hb dX12_reads_265 (by decide) (fun _ => ?_) (fun c => False.elim (by revert c; decide))
                have l_1 : (1 : Int32).toInt = 1 := by decide
                exact m_vret hx hb hr hlocks hW (⟨hI, ⟨by rw [show μ16.1 81 36 = x14 from by rw [← hμ16, ← hμ15]; first | rfl | exact if_pos ⟨rfl, rfl⟩, show μ16.1 81 37 = ga from by rw [← hμ16, ← hμ15, ← hμ7, ← hμ6]; first | rfl | exact if_pos ⟨rfl, rfl⟩, show μ16.1 81 38 = 1 from by rw [← hμ16, ← hμ15, ← hμ7]; first | rfl | exact if_pos ⟨rfl, rfl⟩, show μ16.1 81 39 = x9 from by rw [← hμ16]; first | rfl | exact if_pos ⟨rfl, rfl⟩]; omega, ⟨by rw [show μ16.1 81 37 = ga from by rw [← hμ16, ← hμ15, ← hμ7, ← hμ6]; first | rfl | exact if_pos ⟨rfl, rfl⟩, hq]; exact (m_ckI (by omega)).symm, by rw [show μ16.1 81 36 = x14 from by rw [← hμ16, ← hμ15]; first | rfl | exact if_pos ⟨rfl, rfl⟩, hq]; unfold m_te; rw [if_neg (by have := m_ckI (x := ga) (by omega); have := m_ckI (x := t) (by omega); omega), if_neg (by rw [← q9.1]; intro z; have := bL_t.mp z; omega), if_neg (by rw [← q9.1]; intro z; have := bD_t.mp z; omega)]; have := m_cl1 (x := x14) (y := ga) (by omega) (by omega); have := m_ckI (x := x14) (by omega); omega, by rw [hq, show m_tk fT t.toNatClampNeg ga.toNatClampNeg = m_sk x9.toInt from by unfold m_tk; rw [if_neg (by have := m_ckI (x := ga) (by omega); have := m_ckI (x := t) (by omega); omega), if_neg (by rw [← q9.1]; intro z; have := bL_t.mp z; omega), if_neg (by rw [← q9.1]; intro z; have := bD_t.mp z; omega), ← q9.1], show μ16.1 81 38 = 1 from by rw [← hμ16, ← hμ15, ← hμ7]; first | rfl | exact if_pos ⟨rfl, rfl⟩, show μ16.1 81 39 = x9 from by rw [← hμ16]; first | rfl | exact if_pos ⟨rfl, rfl⟩]; exact Or.inr (Or.inl ⟨m_sk_0 (by omega), rfl⟩)⟩⟩⟩) dX12_reads_273
        · have i12 := m_c5 (rfl : x9.toInt = _) (by decide : ((-1) : Int32).toInt = (-1)) c12
          exfalso; omega
    · have bx2 := q2.2
      refine lv_bipush (v := 32) hx hb dX12_reads_8 (by decide) ?_
      refine lv_icmp_eq (tgt := 26) hx hb dX12_reads_10 (by decide) (fun c23 => ?_) (fun c23 => ?_)
      · have i23 := m_c5 (rfl : x2.toInt = _) (by decide : (32 : Int32).toInt = 32) c23
        refine lv_aload_n hx hb dX12_reads_26 rfl (lv_at hl 0 rfl) ?_
        refine lv_aload_n hx hb dX12_reads_27 rfl (lv_at hl 0 rfl) ?_
        refine m_geti hx hb hts hown hW (81) 36 rfl rfl cw_12 rfl (by decide) k_X12_245 dX12_reads_28 ?_
        refine lv_topi (fun x24 ex24 => ?_)
        have ex24 : x24 = ga := by rw [ex24]; exact h_ga
        have ex24 := ex24.symm
        subst ex24
        refine lv_iconst (v := 1) hx hb dX12_reads_31 (by decide) ?_
        refine lv_iadd hx hb dX12_reads_32 ?_
        refine lv_topi (fun x25 ex25 => ?_)
        have tx25 : x25.toInt = ga.toInt + 1 := m_addI ex25 (rfl : ga.toInt = _) (by decide : (1 : Int32).toInt = 1) (by omega) (by omega)
        refine m_puti hx hb hts hown hW (81) 36 rfl rfl cw_12 tyX12_ok nmX12 rfl (by decide) k_X12_245 rfl rfl rfl dX12_reads_33 (fun H locs hW _ => ?_)
        generalize hμ26 : m_si μ (81) 36 x25 = μ26 at hW
        have hI := hI.si1 hμ26 rfl (by omega) hS24
        refine lv_goto (tgt := 0) hx hb dX12_reads_36 (by decide) ?_
        exact ih  x25 (by omega) (by omega) μ26 hI (by rw [← hμ26]; first | rfl | exact if_pos ⟨rfl, rfl⟩) (by rw [← hμ26]; exact htp) (by rw [show μ26.1 106 = μ.1 106 from by rw [← hμ26]; exact m_si_row (by decide)]; exact hfT) ((fun i hi => by rw [show μ26.1 107 = μ.1 107 from by rw [← hμ26]; exact m_si_row (by decide)]; exact hRW i hi)) ((by rw [m_cl1 (x := x25) (y := ga) (by omega) (by omega), ← hsp]; exact (z_E1 (by have := m_ckI (x := ga) (by omega); have := m_ckI (x := t) (by omega); omega) (by rw [← q2.1]; exact bB_t.mpr (by omega))).symm)) _ _ hW ls (lv_sub hl [0] rfl)
      · have i23 := m_c6 (rfl : x2.toInt = _) (by decide : (32 : Int32).toInt = 32) c23
        refine lv_aload_n hx hb dX12_reads_13 rfl (lv_at hl 0 rfl) ?_
        refine lv_aload_n hx hb dX12_reads_14 rfl (lv_at hl 0 rfl) ?_
        refine m_geti hx hb hts hown hW (81) 36 rfl rfl cw_12 rfl (by decide) k_X12_245 dX12_reads_15 ?_
        refine lv_topi (fun x27 ex27 => ?_)
        have ex27 : x27 = ga := by rw [ex27]; exact h_ga
        have ex27 := ex27.symm
        subst ex27
        refine m_aI hW (m_runV (As := [.int ga]) (rest := []) hx hb hml hown hts hW (81) (g_X12_raw l D cy b ga (by omega) μ hI.1) mi_X12_raw k_X12_248 rfl rfl rfl hl.1 rfl (Nat.le_of_ble_eq_true rfl) dX12_reads_18 ⟨Nat.le_of_ble_eq_true rfl, Nat.le_of_ble_eq_true rfl⟩ ⟨Nat.le_of_ble_eq_true rfl, Nat.le_of_ble_eq_true rfl⟩) (fun x28 μ28 H locs q28 hW => ?_)
        obtain ⟨q28_m, q28⟩ := q28
        subst q28_m
        rw [show μ.1 81 35 = t from by exact htp] at q28
        rw [show μ.1 106 = fT from hfT] at q28
        rcases q28 with q28 | q28
        · exfalso; omega
        have hq28 := q2.1.trans q28.1.symm
        subst hq28
        refine lv_bipush (v := 10) hx hb dX12_reads_21 (by decide) ?_
        refine lv_icmp_ne (tgt := 39) hx hb dX12_reads_23 (by decide) (fun c29 => ?_) (fun c29 => ?_)
        · have i29 := m_c6 (rfl : x2.toInt = _) (by decide : (10 : Int32).toInt = 10) c29
          have hq : (m_q fT t.toNatClampNeg av.toNatClampNeg) = ga.toNatClampNeg := by
            unfold m_q
            rw [← hsp]
            exact z_E0 (fun z => by have z2 := z.2; rw [← q2.1] at z2; have z3 := bB_t.mp z2; omega)
          refine lv_aload_n hx hb dX12_reads_39 rfl (lv_at hl 0 rfl) ?_
          refine lv_aload_n hx hb dX12_reads_40 rfl (lv_at hl 0 rfl) ?_
          refine m_geti hx hb hts hown hW (81) 36 rfl rfl cw_12 rfl (by decide) k_X12_245 dX12_reads_41 ?_
          refine lv_topi (fun x30 ex30 => ?_)
          have ex30 : x30 = ga := by rw [ex30]; exact h_ga
          have ex30 := ex30.symm
          subst ex30
          refine m_puti hx hb hts hown hW (81) 37 rfl rfl cw_12 tyX12_ok nmX12 rfl (by decide) k_X12_251 rfl rfl rfl dX12_reads_44 (fun H locs hW _ => ?_)
          generalize hμ31 : m_si μ (81) 37 ga = μ31 at hW
          have hI := hI.si1 hμ31 rfl (by omega) hS24
          refine lv_aload_n hx hb dX12_reads_47 rfl (lv_at hl 0 rfl) ?_
          refine lv_iconst (v := 1) hx hb dX12_reads_48 (by decide) ?_
          refine m_puti hx hb hts hown hW (81) 38 rfl rfl cw_12 tyX12_ok nmX12 rfl (by decide) k_X12_254 rfl rfl rfl dX12_reads_49 (fun H locs hW _ => ?_)
          generalize hμ32 : m_si μ31 (81) 38 1 = μ32 at hW
          have hI := hI.si1 hμ32 rfl (by decide) hS24
          refine lv_aload_n hx hb dX12_reads_52 rfl (lv_at hl 0 rfl) ?_
          refine lv_aload_n hx hb dX12_reads_53 rfl (lv_at hl 0 rfl) ?_
          refine m_geti hx hb hts hown hW (81) 36 rfl rfl cw_12 rfl (by decide) k_X12_245 dX12_reads_54 ?_
          refine lv_topi (fun x33 ex33 => ?_)
          have ex33 : x33 = ga := by rw [ex33, ← hμ32, ← hμ31]; exact h_ga
          have ex33 := ex33.symm
          subst ex33
          refine m_aI hW (m_runV (As := [.int ga]) (rest := []) hx hb hml hown hts hW (81) (g_X12_raw l D cy b ga (by omega) μ32 hI.1) mi_X12_raw k_X12_248 rfl rfl rfl hl.1 rfl (Nat.le_of_ble_eq_true rfl) dX12_reads_57 ⟨Nat.le_of_ble_eq_true rfl, Nat.le_of_ble_eq_true rfl⟩ ⟨Nat.le_of_ble_eq_true rfl, Nat.le_of_ble_eq_true rfl⟩) (fun x34 μ34 H locs q34 hW => ?_)
          obtain ⟨q34_m, q34⟩ := q34
          subst q34_m
          rw [show μ32.1 81 35 = t from by rw [← hμ32, ← hμ31]; exact htp] at q34
          rw [show μ32.1 106 = fT from by rw [show μ32.1 106 = μ31.1 106 from by rw [← hμ32]; exact m_si_row (by decide), show μ31.1 106 = μ.1 106 from by rw [← hμ31]; exact m_si_row (by decide)]; exact hfT] at q34
          rcases q34 with ⟨rfl, q34⟩ | q34
          · refine lv_istore_n (lv' := [(1, .int (-1)), (0, .ref (b + 81))]) hx hb dX12_reads_60 rfl hl (by decide) rfl (fun ls hl => ?_)
            refine lv_iload_n hx hb dX12_reads_61 rfl (lv_at hl 0 rfl) ?_
            refine lv_iconst (v := (-1)) hx hb dX12_reads_62 (by decide) ?_
            refine lv_icmp_ne (tgt := 72) hx hb dX12_reads_63 (by decide) (fun c => False.elim (by revert c; decide)) (fun _ => ?_)
            refine lv_aload_n hx hb dX12_reads_66 rfl (lv_at hl 1 rfl) ?_
            refine lv_iconst (v := 0) hx hb dX12_reads_67 (by decide) ?_
            refine m_puti hx hb hts hown hW (81) 38 rfl rfl cw_12 tyX12_ok nmX12 rfl (by decide) k_X12_254 rfl rfl rfl dX12_reads_68 (fun H locs hW _ => ?_)
            generalize hμ35 : m_si μ32 (81) 38 0 = μ35 at hW
            have hI := hI.si1 hμ35 rfl (by decide) hS24
            have l_0 : (0 : Int32).toInt = 0 := by decide
            obtain ⟨x36, hx36⟩ : ∃ z, μ35.1 81 39 = z := ⟨_, rfl⟩
            have bx36 : -1 ≤ x36.toInt ∧ x36.toInt ≤ 99999 := by rw [← hx36]; exact hI.1 _ _ _ _ rfl
            exact m_vret hx hb hr hlocks hW (⟨hI, ⟨by rw [show μ35.1 81 36 = ga from by rw [← hμ35, ← hμ32, ← hμ31]; exact h_ga, show μ35.1 81 37 = ga from by rw [← hμ35, ← hμ32, ← hμ31]; first | rfl | exact if_pos ⟨rfl, rfl⟩, show μ35.1 81 38 = 0 from by rw [← hμ35]; first | rfl | exact if_pos ⟨rfl, rfl⟩, show μ35.1 81 39 = x36 from by exact hx36]; omega, ⟨by rw [show μ35.1 81 37 = ga from by rw [← hμ35, ← hμ32, ← hμ31]; first | rfl | exact if_pos ⟨rfl, rfl⟩, hq]; exact (m_ckI (by omega)).symm, by rw [show μ35.1 81 36 = ga from by rw [← hμ35, ← hμ32, ← hμ31]; exact h_ga, hq]; unfold m_te; rw [if_pos (by have := m_ckI (x := ga) (by omega); have := m_ckI (x := t) (by omega); omega)]; exact (m_ckI (by omega)).symm, by rw [hq, show μ35.1 81 38 = 0 from by rw [← hμ35]; first | rfl | exact if_pos ⟨rfl, rfl⟩, show μ35.1 81 39 = x36 from by exact hx36]; exact Or.inl ⟨by unfold m_tk; rw [if_pos (by have := m_ckI (x := ga) (by omega); have := m_ckI (x := t) (by omega); omega)], rfl⟩⟩⟩⟩) dX12_reads_71
          · have bx34 := q34.2
            refine lv_istore_n (lv' := [(1, .int x34), (0, .ref (b + 81))]) hx hb dX12_reads_60 rfl hl (by decide) rfl (fun ls hl => ?_)
            refine lv_iload_n hx hb dX12_reads_61 rfl (lv_at hl 0 rfl) ?_
            refine lv_iconst (v := (-1)) hx hb dX12_reads_62 (by decide) ?_
            refine lv_icmp_ne (tgt := 72) hx hb dX12_reads_63 (by decide) (fun c37 => ?_) (fun c37 => ?_)
            · have i37 := m_c6 (rfl : x34.toInt = _) (by decide : ((-1) : Int32).toInt = (-1)) c37
              refine lv_aload_n hx hb dX12_reads_72 rfl (lv_at hl 1 rfl) ?_
              refine lv_aload_n hx hb dX12_reads_73 rfl (lv_at hl 1 rfl) ?_
              refine m_geti hx hb hts hown hW (81) 36 rfl rfl cw_12 rfl (by decide) k_X12_245 dX12_reads_74 ?_
              refine lv_topi (fun x38 ex38 => ?_)
              have ex38 : x38 = ga := by rw [ex38, ← hμ32, ← hμ31]; exact h_ga
              have ex38 := ex38.symm
              subst ex38
              refine lv_iconst (v := 1) hx hb dX12_reads_77 (by decide) ?_
              refine lv_iadd hx hb dX12_reads_78 ?_
              refine lv_topi (fun x39 ex39 => ?_)
              have tx39 : x39.toInt = ga.toInt + 1 := m_addI ex39 (rfl : ga.toInt = _) (by decide : (1 : Int32).toInt = 1) (by omega) (by omega)
              refine m_puti hx hb hts hown hW (81) 36 rfl rfl cw_12 tyX12_ok nmX12 rfl (by decide) k_X12_245 rfl rfl rfl dX12_reads_79 (fun H locs hW _ => ?_)
              generalize hμ40 : m_si μ32 (81) 36 x39 = μ40 at hW
              have hI := hI.si1 hμ40 rfl (by omega) hS24
              refine lv_aload_n hx hb dX12_reads_82 rfl (lv_at hl 1 rfl) ?_
              refine lv_iload_n hx hb dX12_reads_83 rfl (lv_at hl 0 rfl) ?_
              refine m_puti hx hb hts hown hW (81) 39 rfl rfl cw_12 tyX12_ok nmX12 rfl (by decide) k_X12_257 rfl rfl rfl dX12_reads_84 (fun H locs hW _ => ?_)
              generalize hμ41 : m_si μ40 (81) 39 x34 = μ41 at hW
              have hI := hI.si1 hμ41 rfl (by omega) hS24
              refine lv_aload_n hx hb dX12_reads_87 rfl (lv_at hl 1 rfl) ?_
              refine lv_iload_n hx hb dX12_reads_88 rfl (lv_at hl 0 rfl) ?_
              refine m_aI hW (m_runV (As := [.int x34]) (rest := []) hx hb hml hown hts hW (81) (g_X12_isLetter_f l D cy b x34 μ41 hI.1) mi_X12_isLetter k_X12_260 rfl rfl rfl hl.1 rfl (Nat.le_of_ble_eq_true rfl) dX12_reads_89 ⟨Nat.le_of_ble_eq_true rfl, Nat.le_of_ble_eq_true rfl⟩ ⟨Nat.le_of_ble_eq_true rfl, Nat.le_of_ble_eq_true rfl⟩) (fun x42 μ42 H locs q42 hW => ?_)
              obtain ⟨q42_m, q42⟩ := q42
              subst q42_m
              rcases q42 with ⟨rfl, q42⟩ | ⟨rfl, q42⟩
              · refine lv_if_eq (tgt := 155) hx hb dX12_reads_92 (by decide) (fun c => False.elim (by revert c; decide)) (fun _ => ?_)
                have l_1 : (1 : Int32).toInt = 1 := by decide
                have hbl : bL (fT ga.toNatClampNeg).toInt = true := by rw [← q34.1]; exact bL_t.mpr (by omega)
                exact L_X12_reads_f_95 hx hb hr hml hown hts hlocks S μ0 hS24 av t h_av fT  401  x39 ga 1 (by omega) (by omega) μ41 hI (by rw [← hμ41, ← hμ40]; first | rfl | exact if_pos ⟨rfl, rfl⟩) (by rw [← hμ41, ← hμ40, ← hμ32, ← hμ31]; first | rfl | exact if_pos ⟨rfl, rfl⟩) (by rw [← hμ41, ← hμ40, ← hμ32]; first | rfl | exact if_pos ⟨rfl, rfl⟩) (by rw [← hμ41, ← hμ40, ← hμ32, ← hμ31]; exact htp) (by rw [show μ41.1 106 = μ40.1 106 from by rw [← hμ41]; exact m_si_row (by decide), show μ40.1 106 = μ32.1 106 from by rw [← hμ40]; exact m_si_row (by decide), show μ32.1 106 = μ31.1 106 from by rw [← hμ32]; exact m_si_row (by decide), show μ31.1 106 = μ.1 106 from by rw [← hμ31]; exact m_si_row (by decide)]; exact hfT) ((fun i hi => by rw [show μ41.1 107 = μ40.1 107 from by rw [← hμ41]; exact m_si_row (by decide), show μ40.1 107 = μ32.1 107 from by rw [← hμ40]; exact m_si_row (by decide), show μ32.1 107 = μ31.1 107 from by rw [← hμ32]; exact m_si_row (by decide), show μ31.1 107 = μ.1 107 from by rw [← hμ31]; exact m_si_row (by decide)]; exact hRW i hi)) ((fun j h1 h2 => by rw [show j = ga.toNatClampNeg from by have := m_ckI (x := ga) (by omega); have := m_ckI (x := x39) (by omega); omega, ← q34.1]; omega)) (hq) (hbl) ((by rw [m_cl1 (x := x39) (y := ga) (by omega) (by omega)])) _ _ hW ls (lv_sub hl [1] rfl)
              · refine lv_if_eq (tgt := 155) hx hb dX12_reads_92 (by decide) (fun _ => ?_) (fun c => False.elim (by revert c; decide))
                refine lv_aload_n hx hb dX12_reads_155 rfl (lv_at hl 1 rfl) ?_
                refine lv_iload_n hx hb dX12_reads_156 rfl (lv_at hl 0 rfl) ?_
                refine m_aI hW (m_runV (As := [.int x34]) (rest := []) hx hb hml hown hts hW (81) (g_X12_isDigit_f l D cy b x34 μ41 hI.1) mi_X12_isDigit k_X12_267 rfl rfl rfl hl.1 rfl (Nat.le_of_ble_eq_true rfl) dX12_reads_157 ⟨Nat.le_of_ble_eq_true rfl, Nat.le_of_ble_eq_true rfl⟩ ⟨Nat.le_of_ble_eq_true rfl, Nat.le_of_ble_eq_true rfl⟩) (fun x43 μ43 H locs q43 hW => ?_)
                obtain ⟨q43_m, q43⟩ := q43
                subst q43_m
                rcases q43 with ⟨rfl, q43⟩ | ⟨rfl, q43⟩
                · refine lv_if_eq (tgt := 260) hx hb dX12_reads_160 (by decide) (fun c => False.elim (by revert c; decide)) (fun _ => ?_)
                  refine lv_aload_n hx hb dX12_reads_163 rfl (lv_at hl 1 rfl) ?_
                  refine lv_iload_n hx hb dX12_reads_164 rfl (lv_at hl 0 rfl) ?_
                  refine lv_bipush (v := 48) hx hb dX12_reads_165 (by decide) ?_
                  refine lv_isub hx hb dX12_reads_167 ?_
                  refine lv_topi (fun x44 ex44 => ?_)
                  have tx44 : x44.toInt = x34.toInt - 48 := m_subI ex44 (rfl : x34.toInt = _) (by decide : (48 : Int32).toInt = 48) (by omega) (by omega)
                  refine m_puti hx hb hts hown hW (81) 39 rfl rfl cw_12 tyX12_ok nmX12 rfl (by decide) k_X12_257 rfl rfl rfl dX12_reads_168 (fun H locs hW _ => ?_)
                  generalize hμ45 : m_si μ41 (81) 39 x44 = μ45 at hW
                  have hI := hI.si1 hμ45 rfl (by omega) hS24
                  have l_1 : (1 : Int32).toInt = 1 := by decide
                  have hbd : bD (fT ga.toNatClampNeg).toInt = true := by rw [← q34.1]; exact bD_t.mpr (by omega)
                  have hck : x39.toNatClampNeg = ga.toNatClampNeg + 1 := m_cl1 (by omega) (by omega)
                  have hnv0 : m_nv fT ga.toNatClampNeg 1 = x44 := by show (0 : Int32) * 10 + fT (ga.toNatClampNeg + 0) - 48 = _; rw [Nat.add_zero, ← q34.1, Int32.zero_mul, Int32.zero_add, ex44]
                  exact L_X12_reads_f_171 hx hb hr hml hown hts hlocks S μ0 hS24 av t h_av fT  401  x39 ga 1 x44 (by omega) (by omega) μ45 hI (by rw [← hμ45, ← hμ41, ← hμ40]; first | rfl | exact if_pos ⟨rfl, rfl⟩) (by rw [← hμ45, ← hμ41, ← hμ40, ← hμ32, ← hμ31]; first | rfl | exact if_pos ⟨rfl, rfl⟩) (by rw [← hμ45, ← hμ41, ← hμ40, ← hμ32]; first | rfl | exact if_pos ⟨rfl, rfl⟩) (by rw [← hμ45]; first | rfl | exact if_pos ⟨rfl, rfl⟩) (by rw [← hμ45, ← hμ41, ← hμ40, ← hμ32, ← hμ31]; exact htp) (by rw [show μ45.1 106 = μ41.1 106 from by rw [← hμ45]; exact m_si_row (by decide), show μ41.1 106 = μ40.1 106 from by rw [← hμ41]; exact m_si_row (by decide), show μ40.1 106 = μ32.1 106 from by rw [← hμ40]; exact m_si_row (by decide), show μ32.1 106 = μ31.1 106 from by rw [← hμ32]; exact m_si_row (by decide), show μ31.1 106 = μ.1 106 from by rw [← hμ31]; exact m_si_row (by decide)]; exact hfT) ((fun i hi => by rw [show μ45.1 107 = μ41.1 107 from by rw [← hμ45]; exact m_si_row (by decide), show μ41.1 107 = μ40.1 107 from by rw [← hμ41]; exact m_si_row (by decide), show μ40.1 107 = μ32.1 107 from by rw [← hμ40]; exact m_si_row (by decide), show μ32.1 107 = μ31.1 107 from by rw [← hμ32]; exact m_si_row (by decide), show μ31.1 107 = μ.1 107 from by rw [← hμ31]; exact m_si_row (by decide)]; exact hRW i hi)) (hq) (hbd) ((by rw [hck])) ((by rw [hck, show ga.toNatClampNeg + 1 - ga.toNatClampNeg = 1 from by omega]; exact fun j hj => by rw [show ga.toNatClampNeg + j = ga.toNatClampNeg from by omega]; exact bD_t.mp hbd)) ((fun _ => by rw [hck, show ga.toNatClampNeg + 1 - ga.toNatClampNeg = 1 from by omega]; exact hnv0.symm)) _ _ hW ls (lv_sub hl [1] rfl)
                · refine lv_if_eq (tgt := 260) hx hb dX12_reads_160 (by decide) (fun _ => ?_) (fun c => False.elim (by revert c; decide))
                  refine lv_aload_n hx hb dX12_reads_260 rfl (lv_at hl 1 rfl) ?_
                  refine lv_iload_n hx hb dX12_reads_261 rfl (lv_at hl 0 rfl) ?_
                  refine m_aI hW (m_runV (As := [.int x34]) (rest := []) hx hb hml hown hts hW (81) (g_X12_isMarkSign_f l D cy b x34 μ41 hI.1) mi_X12_isMarkSign k_X12_270 rfl rfl rfl hl.1 rfl (Nat.le_of_ble_eq_true rfl) dX12_reads_262 ⟨Nat.le_of_ble_eq_true rfl, Nat.le_of_ble_eq_true rfl⟩ ⟨Nat.le_of_ble_eq_true rfl, Nat.le_of_ble_eq_true rfl⟩) (fun x46 μ46 H locs q46 hW => ?_)
                  obtain ⟨q46_m, q46⟩ := q46
                  subst q46_m
                  rcases q46 with ⟨rfl, q46⟩ | ⟨rfl, q46⟩
                  · refine lv_if_eq (tgt := 273) hx hb dX12_reads_265 (by decide) (fun c => False.elim (by revert c; decide)) (fun _ => ?_)
                    refine lv_aload_n hx hb dX12_reads_268 rfl (lv_at hl 1 rfl) ?_
                    refine lv_iconst (v := 4) hx hb dX12_reads_269 (by decide) ?_
                    refine m_puti hx hb hts hown hW (81) 38 rfl rfl cw_12 tyX12_ok nmX12 rfl (by decide) k_X12_254 rfl rfl rfl dX12_reads_270 (fun H locs hW _ => ?_)
                    generalize hμ47 : m_si μ41 (81) 38 4 = μ47 at hW
                    have hI := hI.si1 hμ47 rfl (by decide) hS24
                    have l_4 : (4 : Int32).toInt = 4 := by decide
                    exact m_vret hx hb hr hlocks hW (⟨hI, ⟨by rw [show μ47.1 81 36 = x39 from by rw [← hμ47, ← hμ41, ← hμ40]; first | rfl | exact if_pos ⟨rfl, rfl⟩, show μ47.1 81 37 = ga from by rw [← hμ47, ← hμ41, ← hμ40, ← hμ32, ← hμ31]; first | rfl | exact if_pos ⟨rfl, rfl⟩, show μ47.1 81 38 = 4 from by rw [← hμ47]; first | rfl | exact if_pos ⟨rfl, rfl⟩, show μ47.1 81 39 = x34 from by rw [← hμ47, ← hμ41]; first | rfl | exact if_pos ⟨rfl, rfl⟩]; omega, ⟨by rw [show μ47.1 81 37 = ga from by rw [← hμ47, ← hμ41, ← hμ40, ← hμ32, ← hμ31]; first | rfl | exact if_pos ⟨rfl, rfl⟩, hq]; exact (m_ckI (by omega)).symm, by rw [show μ47.1 81 36 = x39 from by rw [← hμ47, ← hμ41, ← hμ40]; first | rfl | exact if_pos ⟨rfl, rfl⟩, hq]; unfold m_te; rw [if_neg (by have := m_ckI (x := ga) (by omega); have := m_ckI (x := t) (by omega); omega), if_neg (by rw [← q34.1]; intro z; have := bL_t.mp z; omega), if_neg (by rw [← q34.1]; intro z; have := bD_t.mp z; omega)]; have := m_cl1 (x := x39) (y := ga) (by omega) (by omega); have := m_ckI (x := x39) (by omega); omega, by rw [hq, show m_tk fT t.toNatClampNeg ga.toNatClampNeg = m_sk x34.toInt from by unfold m_tk; rw [if_neg (by have := m_ckI (x := ga) (by omega); have := m_ckI (x := t) (by omega); omega), if_neg (by rw [← q34.1]; intro z; have := bL_t.mp z; omega), if_neg (by rw [← q34.1]; intro z; have := bD_t.mp z; omega), ← q34.1], show μ47.1 81 38 = 4 from by rw [← hμ47]; first | rfl | exact if_pos ⟨rfl, rfl⟩, show μ47.1 81 39 = x34 from by rw [← hμ47, ← hμ41]; first | rfl | exact if_pos ⟨rfl, rfl⟩]; exact Or.inr (Or.inr (Or.inr (Or.inl ⟨m_sk_b (by omega), rfl, rfl⟩)))⟩⟩⟩) dX12_reads_273
                  · refine lv_if_eq (tgt := 273) hx hb dX12_reads_265 (by decide) (fun _ => ?_) (fun c => False.elim (by revert c; decide))
                    have l_1 : (1 : Int32).toInt = 1 := by decide
                    exact m_vret hx hb hr hlocks hW (⟨hI, ⟨by rw [show μ41.1 81 36 = x39 from by rw [← hμ41, ← hμ40]; first | rfl | exact if_pos ⟨rfl, rfl⟩, show μ41.1 81 37 = ga from by rw [← hμ41, ← hμ40, ← hμ32, ← hμ31]; first | rfl | exact if_pos ⟨rfl, rfl⟩, show μ41.1 81 38 = 1 from by rw [← hμ41, ← hμ40, ← hμ32]; first | rfl | exact if_pos ⟨rfl, rfl⟩, show μ41.1 81 39 = x34 from by rw [← hμ41]; first | rfl | exact if_pos ⟨rfl, rfl⟩]; omega, ⟨by rw [show μ41.1 81 37 = ga from by rw [← hμ41, ← hμ40, ← hμ32, ← hμ31]; first | rfl | exact if_pos ⟨rfl, rfl⟩, hq]; exact (m_ckI (by omega)).symm, by rw [show μ41.1 81 36 = x39 from by rw [← hμ41, ← hμ40]; first | rfl | exact if_pos ⟨rfl, rfl⟩, hq]; unfold m_te; rw [if_neg (by have := m_ckI (x := ga) (by omega); have := m_ckI (x := t) (by omega); omega), if_neg (by rw [← q34.1]; intro z; have := bL_t.mp z; omega), if_neg (by rw [← q34.1]; intro z; have := bD_t.mp z; omega)]; have := m_cl1 (x := x39) (y := ga) (by omega) (by omega); have := m_ckI (x := x39) (by omega); omega, by rw [hq, show m_tk fT t.toNatClampNeg ga.toNatClampNeg = m_sk x34.toInt from by unfold m_tk; rw [if_neg (by have := m_ckI (x := ga) (by omega); have := m_ckI (x := t) (by omega); omega), if_neg (by rw [← q34.1]; intro z; have := bL_t.mp z; omega), if_neg (by rw [← q34.1]; intro z; have := bD_t.mp z; omega), ← q34.1], show μ41.1 81 38 = 1 from by rw [← hμ41, ← hμ40, ← hμ32]; first | rfl | exact if_pos ⟨rfl, rfl⟩, show μ41.1 81 39 = x34 from by rw [← hμ41]; first | rfl | exact if_pos ⟨rfl, rfl⟩]; exact Or.inr (Or.inl ⟨m_sk_0 (by omega), rfl⟩)⟩⟩⟩) dX12_reads_273
            · have i37 := m_c5 (rfl : x34.toInt = _) (by decide : ((-1) : Int32).toInt = (-1)) c37
              exfalso; omega
        · have i29 := m_c5 (rfl : x2.toInt = _) (by decide : (10 : Int32).toInt = 10) c29
          refine lv_aload_n hx hb dX12_reads_26 rfl (lv_at hl 0 rfl) ?_
          refine lv_aload_n hx hb dX12_reads_27 rfl (lv_at hl 0 rfl) ?_
          refine m_geti hx hb hts hown hW (81) 36 rfl rfl cw_12 rfl (by decide) k_X12_245 dX12_reads_28 ?_
          refine lv_topi (fun x48 ex48 => ?_)
          have ex48 : x48 = ga := by rw [ex48]; exact h_ga
          have ex48 := ex48.symm
          subst ex48
          refine lv_iconst (v := 1) hx hb dX12_reads_31 (by decide) ?_
          refine lv_iadd hx hb dX12_reads_32 ?_
          refine lv_topi (fun x49 ex49 => ?_)
          have tx49 : x49.toInt = ga.toInt + 1 := m_addI ex49 (rfl : ga.toInt = _) (by decide : (1 : Int32).toInt = 1) (by omega) (by omega)
          refine m_puti hx hb hts hown hW (81) 36 rfl rfl cw_12 tyX12_ok nmX12 rfl (by decide) k_X12_245 rfl rfl rfl dX12_reads_33 (fun H locs hW _ => ?_)
          generalize hμ50 : m_si μ (81) 36 x49 = μ50 at hW
          have hI := hI.si1 hμ50 rfl (by omega) hS24
          refine lv_goto (tgt := 0) hx hb dX12_reads_36 (by decide) ?_
          exact ih  x49 (by omega) (by omega) μ50 hI (by rw [← hμ50]; first | rfl | exact if_pos ⟨rfl, rfl⟩) (by rw [← hμ50]; exact htp) (by rw [show μ50.1 106 = μ.1 106 from by rw [← hμ50]; exact m_si_row (by decide)]; exact hfT) ((fun i hi => by rw [show μ50.1 107 = μ.1 107 from by rw [← hμ50]; exact m_si_row (by decide)]; exact hRW i hi)) ((by rw [m_cl1 (x := x49) (y := ga) (by omega) (by omega), ← hsp]; exact (z_E1 (by have := m_ckI (x := ga) (by omega); have := m_ckI (x := t) (by omega); omega) (by rw [← q2.1]; exact bB_t.mpr (by omega))).symm)) _ _ hW ls (lv_sub hl [0] rfl)
set_option maxHeartbeats 4000000 in
set_option maxRecDepth 100000 in
theorem g_X12_reads_f (l : Launch) (D : va_G) (cy : Nat → ClassId) (b : Nat) (S : Nat → Bool) (μ0 : mM) (hS24 : S 24 = true) (av t : Int32) (h_av : 0 ≤ av.toInt ∧ av.toInt ≤ t.toInt ∧ t.toInt ≤ 400) (fT : Nat → Int32) (μ : mM) (hI : IY S μ0 μ) (ha : μ.1 81 36 = av) (htp : μ.1 81 35 = t) (hfT : μ.1 106 = fT) (hRW : m_RW μ) : m_Cv l yX12_reads cX12_reads 2 (none) 2 D cy b LAY μ [.ref (b + 81)] (fun ν => IY S μ0 ν ∧ ((av.toInt ≤ (ν.1 81 37).toInt ∧ (ν.1 81 37).toInt ≤ (ν.1 81 36).toInt ∧ ((ν.1 81 38).toInt = 0 ∨ (ν.1 81 37).toInt + 1 ≤ (ν.1 81 36).toInt) ∧ ((ν.1 81 38).toInt = 3 → 0 ≤ (ν.1 81 39).toInt)) ∧ (ν.1 81 37).toInt = ((m_q fT t.toNatClampNeg av.toNatClampNeg) : Nat) ∧ (ν.1 81 36).toInt = (m_te fT t.toNatClampNeg (m_q fT t.toNatClampNeg av.toNatClampNeg) : Nat) ∧ m_TV (m_tk fT t.toNatClampNeg (m_q fT t.toNatClampNeg av.toNatClampNeg)) (m_tv fT t.toNatClampNeg (m_q fT t.toNatClampNeg av.toNatClampNeg)) (ν.1 81 38) (ν.1 81 39))) := by
  unfold m_Cv
  refine m_of (by decide) (Nat.le_of_ble_eq_true rfl) ?_
  intro p e s m below meth c hx hb hr hml hown hts hlocks _ hW ls hl
  have hown : s.vm.findClass RX12 = some m.cls := hown
  have hl : lv_has ls 2 [(0, .ref (b + 81))] := hl
  exact L_X12_reads_f_0 hx hb hr hml hown hts hlocks S μ0 hS24 av t h_av fT  401  av (by omega) (by omega) μ hI (by exact ha) (by exact htp) (hfT) (hRW) (rfl) _ _ hW ls (lv_sub hl [0] rfl)
