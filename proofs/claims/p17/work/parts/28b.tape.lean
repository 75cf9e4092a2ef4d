def bt (x : Int32) (i : Nat) : Bool := x.toBitVec.getLsbD i
theorem b_ext {x y : Int32} (h : ∀ i, i < 32 → bt x i = bt y i) : x = y := Int32.toBitVec_inj.mp (BitVec.eq_of_getLsbD_eq (fun i hi => h i hi))
theorem b_and (x y : Int32) (i : Nat) : bt (x &&& y) i = (bt x i && bt y i) := by unfold bt; rw [Int32.toBitVec_and, BitVec.getLsbD_and]
theorem b_big {x : Int32} {i : Nat} (h : 32 ≤ i) : bt x i = false := BitVec.getLsbD_of_ge _ _ h
theorem b_255 (i : Nat) : bt 255 i = decide (i < 8) := by
  rcases Nat.lt_or_ge i 32 with h | h
  · exact (by decide +kernel : ∀ i, i < 32 → bt 255 i = decide (i < 8)) i h
  · rw [b_big h, decide_eq_false (by omega)]
theorem s_l : ∀ n, n < 32 → ((nI n &&& 31).toBitVec.smod 32).toNat = n := by decide +kernel
theorem s_u : ∀ n, n < 32 → (((nI n).toUInt32 &&& Int32.toUInt32 31).toBitVec % 32).toNat = n := by decide +kernel
theorem b_ushr (n : Nat) (hn : n < 32) (x : Int32) (i : Nat) : bt ((x.toUInt32 >>> ((nI n).toUInt32 &&& Int32.toUInt32 31)).toInt32) i = bt x (n + i) := by
  show (x.toUInt32 >>> ((nI n).toUInt32 &&& Int32.toUInt32 31)).toBitVec.getLsbD i = x.toUInt32.toBitVec.getLsbD (n + i)
  rw [UInt32.toBitVec_shiftRight]
  show (x.toUInt32.toBitVec >>> (((nI n).toUInt32 &&& Int32.toUInt32 31).toBitVec % 32).toNat).getLsbD i = _
  rw [s_u n hn, BitVec.getLsbD_ushiftRight]
theorem b_sshr (n : Nat) (hn : n < 32) (x : Int32) {i : Nat} (hi : i < 32) : bt (x >>> (nI n &&& 31)) i = if n + i < 32 then bt x (n + i) else bt x 31 := by
  unfold bt
  rw [Int32.toBitVec_shiftRight]
  show (x.toBitVec.sshiftRight ((nI n &&& 31).toBitVec.smod 32).toNat).getLsbD i = _
  rw [s_l n hn, BitVec.getLsbD_sshiftRight, BitVec.msb_eq_getLsbD_last]
  simp [hi]
-- ROWS AS FUNCTIONS
def m_up (f : Nat → Int32) (n : Nat) (v : Int32) : Nat → Int32 := fun i => if i = n then v else f i
theorem m_si_up {μ : mM} {k j : Nat} {v : Int32} : (m_si μ k j v).1 k = m_up (μ.1 k) j v := by
  funext i
  show (if k = k ∧ i = j then v else μ.1 k i) = if i = j then v else μ.1 k i
  simp
theorem m_up_at {f : Nat → Int32} {n : Nat} {v : Int32} : m_up f n v n = v := if_pos rfl
theorem m_up_ne {f : Nat → Int32} {n i : Nat} {v : Int32} (h : i ≠ n) : m_up f n v i = f i := if_neg h
/-- two rows alike below n -/
def m_al (n : Nat) (f g : Nat → Int32) : Prop := ∀ i, i < n → f i = g i
theorem m_al.up {n : Nat} {f g : Nat → Int32} {v w : Int32} (h : m_al n f g) (hv : v = w) : m_al (n + 1) (m_up f n v) (m_up g n w) := by
  intro i hi
  by_cases q : i = n
  · subst q
    rw [m_up_at, m_up_at]
    exact hv
  · rw [m_up_ne q, m_up_ne q]
    exact h i (by omega)
theorem m_al.le {n k : Nat} {f g : Nat → Int32} (h : m_al n f g) (hk : k ≤ n) : m_al k f g := fun i hi => h i (by omega)
-- BYTES
def m_ub (v sh : Int32) : Int32 := (v.toUInt32 >>> (sh.toUInt32 &&& Int32.toUInt32 31)).toInt32 &&& 255
def m_sb (v sh : Int32) : Int32 := (v >>> (sh &&& 31)) &&& 255
theorem m_byte (n : Nat) (hn : n ≤ 24) (v : Int32) : m_ub v (nI n) = m_sb v (nI n) := by
  refine b_ext (fun i hi => ?_)
  unfold m_ub m_sb
  rw [b_and, b_and, b_ushr n (by omega), b_sshr n (by omega) v hi, b_255]
  by_cases q : i < 8
  · rw [if_pos (by omega)]
  · rw [decide_eq_false q, Bool.and_false, Bool.and_false]
def m_f4 (B : Int32 → Int32 → Int32) (f : Nat → Int32) (t : Nat) (v : Int32) : Nat → Int32 := m_up (m_up (m_up (m_up f t (B v 24)) (t + 1) (B v 16)) (t + 2) (B v 8)) (t + 3) (B v 0)
theorem m_al.f4 {n : Nat} {f g : Nat → Int32} {v : Int32} (h : m_al n f g) : m_al (n + 4) (m_f4 m_ub f n v) (m_f4 m_sb g n v) :=
  (((h.up (m_byte 24 (by omega) v)).up (m_byte 16 (by omega) v)).up (m_byte 8 (by omega) v)).up (m_byte 0 (by omega) v)
def m_f20 (B : Int32 → Int32 → Int32) (f : Nat → Int32) (t : Nat) (a b c d e : Int32) : Nat → Int32 := m_f4 B (m_f4 B (m_f4 B (m_f4 B (m_f4 B f t a) (t + 4) b) (t + 8) c) (t + 12) d) (t + 16) e
theorem m_al.f20 {n : Nat} {f g : Nat → Int32} {a b c d e : Int32} (h : m_al n f g) : m_al (n + 20) (m_f20 m_ub f n a b c d e) (m_f20 m_sb g n a b c d e) := ((((h.f4).f4).f4).f4).f4
theorem m_eqI {x y : Int32} (h : x.toInt = y.toInt) : x = y := Int32.toInt_inj.mp h
set_option maxHeartbeats 4000000 in
set_option maxRecDepth 100000 in
theorem g_X5_add_f (l : Launch) (D : va_G) (cy : Nat → ClassId) (b : Nat) (S : Nat → Bool) (μ0 : mM) (hS3 : S 3 = true) (t : Int32) (h_t : 0 ≤ t.toInt ∧ t.toInt ≤ 399) (v : Int32) (μ : mM) (hI : IY S μ0 μ) (ht : μ.1 23 1 = t) : m_Cv l yX5_add cX5_add 2 (none) 0 D cy b LAY μ [.ref (b + 23), .int v] (fun ν => IY S μ0 ν ∧ ((ν.1 23 1).toInt = t.toInt + 1 ∧ ν.1 24 = m_up (μ.1 24) t.toNatClampNeg v)) := by
  unfold m_Cv
  refine m_of (by decide) (Nat.le_of_ble_eq_true rfl) ?_
  intro p e s m below meth c hx hb hr hml hown hts hlocks _ hW ls hl
  have hown : s.vm.findClass RX5 = some m.cls := hown
  have hl : lv_has ls 2 [(0, .ref (b + 23)), (1, .int v)] := hl
  refine lv_aload_n hx hb dX5_add_0 rfl (lv_at hl 0 rfl) ?_
  refine m_geti hx hb hts hown hW (23) 1 rfl rfl cw_5 rfl (by decide) k_X5_9 dX5_add_1 ?_
  refine lv_topi (fun x1 ex1 => ?_)
  have ex1 : x1 = t := by rw [ex1]; exact ht
  have ex1 := ex1.symm
  subst ex1
  refine lv_aload_n hx hb dX5_add_4 rfl (lv_at hl 0 rfl) ?_
  refine m_getr hx hb hts hown hW (23) 0 (24) rfl rfl cw_5 rfl (by decide) k_X5_21 dX5_add_5 ?_
  refine m_alen hx hb hW (24) rfl dX5_add_8 ?_
  refine lv_topi (fun x2 ex2 => ?_)
  have ex2 : x2 = 400 := by rw [ex2]; rfl
  have ex2 := ex2.symm
  subst ex2
  refine lv_icmp_ge (tgt := 32) hx hb dX5_add_9 (by decide) (fun c3 => ?_) (fun c3 => ?_)
  · have i3 := m_c3 (by decide : (400 : Int32).toInt = 400) (rfl : t.toInt = _) c3
    exfalso; omega
  · have i3 := m_c4 (by decide : (400 : Int32).toInt = 400) (rfl : t.toInt = _) c3
    refine lv_aload_n hx hb dX5_add_12 rfl (lv_at hl 0 rfl) ?_
    refine m_getr hx hb hts hown hW (23) 0 (24) rfl rfl cw_5 rfl (by decide) k_X5_21 dX5_add_13 ?_
    refine lv_aload_n hx hb dX5_add_16 rfl (lv_at hl 0 rfl) ?_
    refine m_geti hx hb hts hown hW (23) 1 rfl rfl cw_5 rfl (by decide) k_X5_9 dX5_add_17 ?_
    refine lv_topi (fun x4 ex4 => ?_)
    have ex4 : x4 = t := by rw [ex4]; exact ht
    have ex4 := ex4.symm
    subst ex4
    refine lv_iload_n hx hb dX5_add_20 rfl (lv_at hl 1 rfl) ?_
    refine m_iast hx hb hW (24) rfl (m_ixI (rfl : t.toInt = _) (by omega) (by omega)) dX5_add_21 (fun H locs hW _ => ?_)
    generalize hμ5 : m_si μ (24) (t : Int32).toNatClampNeg v = μ5 at hW
    have hI := hI.si0 hμ5 rfl hS3
    refine lv_aload_n hx hb dX5_add_22 rfl (lv_at hl 0 rfl) ?_
    refine lv_dup hx hb dX5_add_23 rfl ?_
    refine m_geti hx hb hts hown hW (23) 1 rfl rfl cw_5 rfl (by decide) k_X5_9 dX5_add_24 ?_
    refine lv_topi (fun x6 ex6 => ?_)
    have ex6 : x6 = t := by rw [ex6, ← hμ5]; exact ht
    have ex6 := ex6.symm
    subst ex6
    refine lv_iconst (v := 1) hx hb dX5_add_27 (by decide) ?_
    refine lv_iadd hx hb dX5_add_28 ?_
    refine lv_topi (fun x7 ex7 => ?_)
    have tx7 : x7.toInt = t.toInt + 1 := m_addI ex7 (rfl : t.toInt = _) (by decide : (1 : Int32).toInt = 1) (by omega) (by omega)
    refine m_puti hx hb hts hown hW (23) 1 rfl rfl cw_5 tyX5_ok nmX5 rfl (by decide) k_X5_9 rfl rfl rfl dX5_add_29 (fun H locs hW _ => ?_)
    generalize hμ8 : m_si μ5 (23) 1 x7 = μ8 at hW
    have hI := hI.si1 hμ8 rfl (by omega) hS3
    exact m_vret hx hb hr hlocks hW (⟨hI, ⟨by rw [show μ8.1 23 1 = x7 from by rw [← hμ8]; first | rfl | exact if_pos ⟨rfl, rfl⟩]; omega, by rw [show μ8.1 24 = μ5.1 24 from by rw [← hμ8]; exact m_si_row (by decide), show μ5.1 24 = m_up (μ.1 24) (t : Int32).toNatClampNeg v from by rw [← hμ5]; exact m_si_up]⟩⟩) dX5_add_32
set_option maxHeartbeats 4000000 in
set_option maxRecDepth 100000 in
theorem g_X5_addBytes_f (l : Launch) (D : va_G) (cy : Nat → ClassId) (b : Nat) (S : Nat → Bool) (μ0 : mM) (hS3 : S 3 = true) (t : Int32) (h_t : 0 ≤ t.toInt ∧ t.toInt ≤ 396) (v : Int32) (μ : mM) (hI : IY S μ0 μ) (ht : μ.1 23 1 = t) : m_Cv l yX5_addBytes cX5_addBytes 3 (none) 1 D cy b LAY μ [.ref (b + 23), .int v] (fun ν => IY S μ0 ν ∧ ((ν.1 23 1).toInt = t.toInt + 4 ∧ ν.1 24 = m_f4 m_ub (μ.1 24) t.toNatClampNeg v)) := by
  unfold m_Cv
  refine m_of (by decide) (Nat.le_of_ble_eq_true rfl) ?_
  intro p e s m below meth c hx hb hr hml hown hts hlocks _ hW ls hl
  have hown : s.vm.findClass RX5 = some m.cls := hown
  have hl : lv_has ls 3 [(0, .ref (b + 23)), (1, .int v)] := hl
  refine lv_bipush (v := 24) hx hb dX5_addBytes_0 (by decide) ?_
  refine lv_istore_n (lv' := [(2, .int 24), (0, .ref (b + 23)), (1, .int v)]) hx hb dX5_addBytes_2 rfl hl (by decide) rfl (fun ls hl => ?_)
  refine lv_iload_n hx hb dX5_addBytes_3 rfl (lv_at hl 0 rfl) ?_
  refine lv_if_lt (tgt := 24) hx hb dX5_addBytes_4 (by decide) (fun c => False.elim (by revert c; decide)) (fun _ => ?_)
  refine lv_aload_n hx hb dX5_addBytes_7 rfl (lv_at hl 1 rfl) ?_
  refine lv_iload_n hx hb dX5_addBytes_8 rfl (lv_at hl 2 rfl) ?_
  refine lv_iload_n hx hb dX5_addBytes_9 rfl (lv_at hl 0 rfl) ?_
  refine lv_iushr hx hb dX5_addBytes_10 rfl ?_
  refine lv_topi (fun x1 ex1 => ?_)
  refine lv_sipush (v := 255) hx hb dX5_addBytes_11 (by decide) ?_
  refine lv_iand hx hb dX5_addBytes_14 ?_
  refine lv_topi (fun x2 ex2 => ?_)
  have bx2 : 0 ≤ x2.toInt ∧ x2.toInt ≤ 255 := m_andN (n := 255) ex2 rfl (by decide)
  refine m_aV hW (m_runV (As := [.int x2]) (rest := []) hx hb hml hown hts hW (23) (g_X5_add_f l D cy b S μ0 hS3 t (by omega) x2 μ hI (by exact ht)) mi_X5_add k_X5_25 rfl rfl rfl hl.1 rfl (Nat.le_of_ble_eq_true rfl) dX5_addBytes_15 ⟨Nat.le_of_ble_eq_true rfl, Nat.le_of_ble_eq_true rfl⟩ ⟨Nat.le_of_ble_eq_true rfl, Nat.le_of_ble_eq_true rfl⟩) (fun μ3 H locs q3 hW => ?_)
  obtain ⟨hI, q3⟩ := q3
  obtain ⟨q3, q3r⟩ := q3
  obtain ⟨x4, hx4⟩ : ∃ z, μ3.1 23 1 = z := ⟨_, rfl⟩
  have bx4 : 0 ≤ x4.toInt ∧ x4.toInt ≤ 400 := by rw [← hx4]; exact hI.1 _ _ _ _ rfl
  rw [show μ3.1 23 1 = x4 from by exact hx4] at q3
  refine lv_iinc (v := 16) (lv' := [(2, .int 16), (0, .ref (b + 23)), (1, .int v)]) hx hb dX5_addBytes_18 hl (k := 0) rfl (by decide) (by decide) rfl (fun ls hl => ?_)
  refine lv_goto (tgt := 3) hx hb dX5_addBytes_21 (by decide) ?_
  refine lv_iload_n hx hb dX5_addBytes_3 rfl (lv_at hl 0 rfl) ?_
  refine lv_if_lt (tgt := 24) hx hb dX5_addBytes_4 (by decide) (fun c => False.elim (by revert c; decide)) (fun _ => ?_)
  refine lv_aload_n hx hb dX5_addBytes_7 rfl (lv_at hl 1 rfl) ?_
  refine lv_iload_n hx hb dX5_addBytes_8 rfl (lv_at hl 2 rfl) ?_
  refine lv_iload_n hx hb dX5_addBytes_9 rfl (lv_at hl 0 rfl) ?_
  refine lv_iushr hx hb dX5_addBytes_10 rfl ?_
  refine lv_topi (fun x5 ex5 => ?_)
  refine lv_sipush (v := 255) hx hb dX5_addBytes_11 (by decide) ?_
  refine lv_iand hx hb dX5_addBytes_14 ?_
  refine lv_topi (fun x6 ex6 => ?_)
  have bx6 : 0 ≤ x6.toInt ∧ x6.toInt ≤ 255 := m_andN (n := 255) ex6 rfl (by decide)
  refine m_aV hW (m_runV (As := [.int x6]) (rest := []) hx hb hml hown hts hW (23) (g_X5_add_f l D cy b S μ0 hS3 x4 (by omega) x6 μ3 hI (by exact hx4)) mi_X5_add k_X5_25 rfl rfl rfl hl.1 rfl (Nat.le_of_ble_eq_true rfl) dX5_addBytes_15 ⟨Nat.le_of_ble_eq_true rfl, Nat.le_of_ble_eq_true rfl⟩ ⟨Nat.le_of_ble_eq_true rfl, Nat.le_of_ble_eq_true rfl⟩) (fun μ7 H locs q7 hW => ?_)
  obtain ⟨hI, q7⟩ := q7
  obtain ⟨q7, q7r⟩ := q7
  obtain ⟨x8, hx8⟩ : ∃ z, μ7.1 23 1 = z := ⟨_, rfl⟩
  have bx8 : 0 ≤ x8.toInt ∧ x8.toInt ≤ 400 := by rw [← hx8]; exact hI.1 _ _ _ _ rfl
  rw [show μ7.1 23 1 = x8 from by exact hx8] at q7
  refine lv_iinc (v := 8) (lv' := [(2, .int 8), (0, .ref (b + 23)), (1, .int v)]) hx hb dX5_addBytes_18 hl (k := 0) rfl (by decide) (by decide) rfl (fun ls hl => ?_)
  refine lv_goto (tgt := 3) hx hb dX5_addBytes_21 (by decide) ?_
  refine lv_iload_n hx hb dX5_addBytes_3 rfl (lv_at hl 0 rfl) ?_
  refine lv_if_lt (tgt := 24) hx hb dX5_addBytes_4 (by decide) (fun c => False.elim (by revert c; decide)) (fun _ => ?_)
  refine lv_aload_n hx hb dX5_addBytes_7 rfl (lv_at hl 1 rfl) ?_
  refine lv_iload_n hx hb dX5_addBytes_8 rfl (lv_at hl 2 rfl) ?_
  refine lv_iload_n hx hb dX5_addBytes_9 rfl (lv_at hl 0 rfl) ?_
  refine lv_iushr hx hb dX5_addBytes_10 rfl ?_
  refine lv_topi (fun x9 ex9 => ?_)
  refine lv_sipush (v := 255) hx hb dX5_addBytes_11 (by decide) ?_
  refine lv_iand hx hb dX5_addBytes_14 ?_
  refine lv_topi (fun x10 ex10 => ?_)
  have bx10 : 0 ≤ x10.toInt ∧ x10.toInt ≤ 255 := m_andN (n := 255) ex10 rfl (by decide)
  refine m_aV hW (m_runV (As := [.int x10]) (rest := []) hx hb hml hown hts hW (23) (g_X5_add_f l D cy b S μ0 hS3 x8 (by omega) x10 μ7 hI (by exact hx8)) mi_X5_add k_X5_25 rfl rfl rfl hl.1 rfl (Nat.le_of_ble_eq_true rfl) dX5_addBytes_15 ⟨Nat.le_of_ble_eq_true rfl, Nat.le_of_ble_eq_true rfl⟩ ⟨Nat.le_of_ble_eq_true rfl, Nat.le_of_ble_eq_true rfl⟩) (fun μ11 H locs q11 hW => ?_)
  obtain ⟨hI, q11⟩ := q11
  obtain ⟨q11, q11r⟩ := q11
  obtain ⟨x12, hx12⟩ : ∃ z, μ11.1 23 1 = z := ⟨_, rfl⟩
  have bx12 : 0 ≤ x12.toInt ∧ x12.toInt ≤ 400 := by rw [← hx12]; exact hI.1 _ _ _ _ rfl
  rw [show μ11.1 23 1 = x12 from by exact hx12] at q11
  refine lv_iinc (v := 0) (lv' := [(2, .int 0), (0, .ref (b + 23)), (1, .int v)]) hx hb dX5_addBytes_18 hl (k := 0) rfl (by decide) (by decide) rfl (fun ls hl => ?_)
  refine lv_goto (tgt := 3) hx hb dX5_addBytes_21 (by decide) ?_
  refine lv_iload_n hx hb dX5_addBytes_3 rfl (lv_at hl 0 rfl) ?_
  refine lv_if_lt (tgt := 24) hx hb dX5_addBytes_4 (by decide) (fun c => False.elim (by revert c; decide)) (fun _ => ?_)
  refine lv_aload_n hx hb dX5_addBytes_7 rfl (lv_at hl 1 rfl) ?_
  refine lv_iload_n hx hb dX5_addBytes_8 rfl (lv_at hl 2 rfl) ?_
  refine lv_iload_n hx hb dX5_addBytes_9 rfl (lv_at hl 0 rfl) ?_
  refine lv_iushr hx hb dX5_addBytes_10 rfl ?_
  refine lv_topi (fun x13 ex13 => ?_)
  refine lv_sipush (v := 255) hx hb dX5_addBytes_11 (by decide) ?_
  refine lv_iand hx hb dX5_addBytes_14 ?_
  refine lv_topi (fun x14 ex14 => ?_)
  have bx14 : 0 ≤ x14.toInt ∧ x14.toInt ≤ 255 := m_andN (n := 255) ex14 rfl (by decide)
  refine m_aV hW (m_runV (As := [.int x14]) (rest := []) hx hb hml hown hts hW (23) (g_X5_add_f l D cy b S μ0 hS3 x12 (by omega) x14 μ11 hI (by exact hx12)) mi_X5_add k_X5_25 rfl rfl rfl hl.1 rfl (Nat.le_of_ble_eq_true rfl) dX5_addBytes_15 ⟨Nat.le_of_ble_eq_true rfl, Nat.le_of_ble_eq_true rfl⟩ ⟨Nat.le_of_ble_eq_true rfl, Nat.le_of_ble_eq_true rfl⟩) (fun μ15 H locs q15 hW => ?_)
  obtain ⟨hI, q15⟩ := q15
  obtain ⟨q15, q15r⟩ := q15
  obtain ⟨x16, hx16⟩ : ∃ z, μ15.1 23 1 = z := ⟨_, rfl⟩
  have bx16 : 0 ≤ x16.toInt ∧ x16.toInt ≤ 400 := by rw [← hx16]; exact hI.1 _ _ _ _ rfl
  rw [show μ15.1 23 1 = x16 from by exact hx16] at q15
  refine lv_iinc (v := (-8)) (lv' := [(2, .int (-8)), (0, .ref (b + 23)), (1, .int v)]) hx hb dX5_addBytes_18 hl (k := 0) rfl (by decide) (by decide) rfl (fun ls hl => ?_)
  refine lv_goto (tgt := 3) hx hb dX5_addBytes_21 (by decide) ?_
  refine lv_iload_n hx hb dX5_addBytes_3 rfl (lv_at hl 0 rfl) ?_
  refine lv_if_lt (tgt := 24) hx hb dX5_addBytes_4 (by decide) (fun _ => ?_) (fun c => False.elim (by revert c; decide))
  exact m_vret hx hb hr hlocks hW (⟨hI, ⟨by rw [show μ15.1 23 1 = x16 from by exact hx16]; omega, by rw [show μ15.1 24 = m_up (μ11.1 24) x12.toNatClampNeg x14 from q15r, show μ11.1 24 = m_up (μ7.1 24) x8.toNatClampNeg x10 from q11r, show μ7.1 24 = m_up (μ3.1 24) x4.toNatClampNeg x6 from q7r, show μ3.1 24 = m_up (μ.1 24) t.toNatClampNeg x2 from q3r, show x4.toNatClampNeg = t.toNatClampNeg + 1 from by have := m_ckI (x := x4) (by omega); have := m_ckI (x := t) (by omega); omega, show x8.toNatClampNeg = t.toNatClampNeg + 2 from by have := m_ckI (x := x8) (by omega); have := m_ckI (x := t) (by omega); omega, show x12.toNatClampNeg = t.toNatClampNeg + 3 from by have := m_ckI (x := x12) (by omega); have := m_ckI (x := t) (by omega); omega, ex2, ex1, ex6, ex5, ex10, ex9, ex14, ex13]; rfl⟩⟩) dX5_addBytes_24
set_option maxHeartbeats 4000000 in
set_option maxRecDepth 100000 in
theorem g_X12_puts_f (l : Launch) (D : va_G) (cy : Nat → ClassId) (b : Nat) (S : Nat → Bool) (μ0 : mM) (hS23 : S 23 = true) (t : Int32) (h_t : 0 ≤ t.toInt ∧ t.toInt ≤ 396) (v : Int32) (μ : mM) (hI : IY S μ0 μ) (ht : μ.1 81 35 = t) : m_Cv l yX12_puts cX12_puts 3 (none) 0 D cy b LAY μ [.ref (b + 81), .int v] (fun ν => IY S μ0 ν ∧ ((ν.1 81 35).toInt = t.toInt + 4 ∧ ν.1 106 = m_f4 m_sb (μ.1 106) t.toNatClampNeg v)) := by
  unfold m_Cv
  refine m_of (by decide) (Nat.le_of_ble_eq_true rfl) ?_
  intro p e s m below meth c hx hb hr hml hown hts hlocks _ hW ls hl
  have hown : s.vm.findClass RX12 = some m.cls := hown
  have hl : lv_has ls 3 [(0, .ref (b + 81)), (1, .int v)] := hl
  refine lv_bipush (v := 24) hx hb dX12_puts_0 (by decide) ?_
  refine lv_istore_n (lv' := [(2, .int 24), (0, .ref (b + 81)), (1, .int v)]) hx hb dX12_puts_2 rfl hl (by decide) rfl (fun ls hl => ?_)
  refine lv_iload_n hx hb dX12_puts_3 rfl (lv_at hl 0 rfl) ?_
  refine lv_if_lt (tgt := 39) hx hb dX12_puts_4 (by decide) (fun c => False.elim (by revert c; decide)) (fun _ => ?_)
  refine lv_aload_n hx hb dX12_puts_7 rfl (lv_at hl 1 rfl) ?_
  refine m_getr hx hb hts hown hW (81) 34 (106) rfl rfl cw_12 rfl (by decide) k_X12_95 dX12_puts_8 ?_
  refine lv_aload_n hx hb dX12_puts_11 rfl (lv_at hl 1 rfl) ?_
  refine m_geti hx hb hts hown hW (81) 35 rfl rfl cw_12 rfl (by decide) k_X12_239 dX12_puts_12 ?_
  refine lv_topi (fun x1 ex1 => ?_)
  have ex1 : x1 = t := by rw [ex1]; exact ht
  have ex1 := ex1.symm
  subst ex1
  refine lv_iload_n hx hb dX12_puts_15 rfl (lv_at hl 2 rfl) ?_
  refine lv_iload_n hx hb dX12_puts_16 rfl (lv_at hl 0 rfl) ?_
  refine lv_ishr hx hb dX12_puts_17 ?_
  refine lv_topi (fun x2 ex2 => ?_)
  refine lv_sipush (v := 255) hx hb dX12_puts_18 (by decide) ?_
  refine lv_iand hx hb dX12_puts_21 ?_
  refine lv_topi (fun x3 ex3 => ?_)
  have bx3 : 0 ≤ x3.toInt ∧ x3.toInt ≤ 255 := m_andN (n := 255) ex3 rfl (by decide)
  refine m_iast hx hb hW (106) rfl (m_ixI (rfl : t.toInt = _) (by omega) (by omega)) dX12_puts_22 (fun H locs hW _ => ?_)
  generalize hμ4 : m_si μ (106) (t : Int32).toNatClampNeg x3 = μ4 at hW
  have hI := hI.si1 hμ4 rfl (by omega) hS23
  refine lv_aload_n hx hb dX12_puts_23 rfl (lv_at hl 1 rfl) ?_
  refine lv_aload_n hx hb dX12_puts_24 rfl (lv_at hl 1 rfl) ?_
  refine m_geti hx hb hts hown hW (81) 35 rfl rfl cw_12 rfl (by decide) k_X12_239 dX12_puts_25 ?_
  refine lv_topi (fun x5 ex5 => ?_)
  have ex5 : x5 = t := by rw [ex5, ← hμ4]; exact ht
  have ex5 := ex5.symm
  subst ex5
  refine lv_iconst (v := 1) hx hb dX12_puts_28 (by decide) ?_
  refine lv_iadd hx hb dX12_puts_29 ?_
  refine lv_topi (fun x6 ex6 => ?_)
  have tx6 : x6.toInt = t.toInt + 1 := m_addI ex6 (rfl : t.toInt = _) (by decide : (1 : Int32).toInt = 1) (by omega) (by omega)
  refine m_puti hx hb hts hown hW (81) 35 rfl rfl cw_12 tyX12_ok nmX12 rfl (by decide) k_X12_239 rfl rfl rfl dX12_puts_30 (fun H locs hW _ => ?_)
  generalize hμ7 : m_si μ4 (81) 35 x6 = μ7 at hW
  have hI := hI.si1 hμ7 rfl (by omega) hS23
  refine lv_iinc (v := 16) (lv' := [(2, .int 16), (0, .ref (b + 81)), (1, .int v)]) hx hb dX12_puts_33 hl (k := 0) rfl (by decide) (by decide) rfl (fun ls hl => ?_)
  refine lv_goto (tgt := 3) hx hb dX12_puts_36 (by decide) ?_
  refine lv_iload_n hx hb dX12_puts_3 rfl (lv_at hl 0 rfl) ?_
  refine lv_if_lt (tgt := 39) hx hb dX12_puts_4 (by decide) (fun c => False.elim (by revert c; decide)) (fun _ => ?_)
  refine lv_aload_n hx hb dX12_puts_7 rfl (lv_at hl 1 rfl) ?_
  refine m_getr hx hb hts hown hW (81) 34 (106) rfl rfl cw_12 rfl (by decide) k_X12_95 dX12_puts_8 ?_
  refine lv_aload_n hx hb dX12_puts_11 rfl (lv_at hl 1 rfl) ?_
  refine m_geti hx hb hts hown hW (81) 35 rfl rfl cw_12 rfl (by decide) k_X12_239 dX12_puts_12 ?_
  refine lv_topi (fun x8 ex8 => ?_)
  have ex8 : x8 = x6 := by rw [ex8, ← hμ7]; first | rfl | exact if_pos ⟨rfl, rfl⟩
  have ex8 := ex8.symm
  subst ex8
  refine lv_iload_n hx hb dX12_puts_15 rfl (lv_at hl 2 rfl) ?_
  refine lv_iload_n hx hb dX12_puts_16 rfl (lv_at hl 0 rfl) ?_
  refine lv_ishr hx hb dX12_puts_17 ?_
  refine lv_topi (fun x9 ex9 => ?_)
  refine lv_sipush (v := 255) hx hb dX12_puts_18 (by decide) ?_
  refine lv_iand hx hb dX12_puts_21 ?_
  refine lv_topi (fun x10 ex10 => ?_)
  have bx10 : 0 ≤ x10.toInt ∧ x10.toInt ≤ 255 := m_andN (n := 255) ex10 rfl (by decide)
  refine m_iast hx hb hW (106) rfl (m_ixI (rfl : x6.toInt = _) (by omega) (by omega)) dX12_puts_22 (fun H locs hW _ => ?_)
  generalize hμ11 : m_si μ7 (106) (x6 : Int32).toNatClampNeg x10 = μ11 at hW
  have hI := hI.si1 hμ11 rfl (by omega) hS23
  refine lv_aload_n hx hb dX12_puts_23 rfl (lv_at hl 1 rfl) ?_
  refine lv_aload_n hx hb dX12_puts_24 rfl (lv_at hl 1 rfl) ?_
  refine m_geti hx hb hts hown hW (81) 35 rfl rfl cw_12 rfl (by decide) k_X12_239 dX12_puts_25 ?_
  refine lv_topi (fun x12 ex12 => ?_)
  have ex12 : x12 = x6 := by rw [ex12, ← hμ11, ← hμ7]; first | rfl | exact if_pos ⟨rfl, rfl⟩
  have ex12 := ex12.symm
  subst ex12
  refine lv_iconst (v := 1) hx hb dX12_puts_28 (by decide) ?_
  refine lv_iadd hx hb dX12_puts_29 ?_
  refine lv_topi (fun x13 ex13 => ?_)
  have tx13 : x13.toInt = x6.toInt + 1 := m_addI ex13 (rfl : x6.toInt = _) (by decide : (1 : Int32).toInt = 1) (by omega) (by omega)
  refine m_puti hx hb hts hown hW (81) 35 rfl rfl cw_12 tyX12_ok nmX12 rfl (by decide) k_X12_239 rfl rfl rfl dX12_puts_30 (fun H locs hW _ => ?_)
  generalize hμ14 : m_si μ11 (81) 35 x13 = μ14 at hW
  have hI := hI.si1 hμ14 rfl (by omega) hS23
  refine lv_iinc (v := 8) (lv' := [(2, .int 8), (0, .ref (b + 81)), (1, .int v)]) hx hb dX12_puts_33 hl (k := 0) rfl (by decide) (by decide) rfl (fun ls hl => ?_)
  refine lv_goto (tgt := 3) hx hb dX12_puts_36 (by decide) ?_
  refine lv_iload_n hx hb dX12_puts_3 rfl (lv_at hl 0 rfl) ?_
  refine lv_if_lt (tgt := 39) hx hb dX12_puts_4 (by decide) (fun c => False.elim (by revert c; decide)) (fun _ => ?_)
  refine lv_aload_n hx hb dX12_puts_7 rfl (lv_at hl 1 rfl) ?_
  refine m_getr hx hb hts hown hW (81) 34 (106) rfl rfl cw_12 rfl (by decide) k_X12_95 dX12_puts_8 ?_
  refine lv_aload_n hx hb dX12_puts_11 rfl (lv_at hl 1 rfl) ?_
  refine m_geti hx hb hts hown hW (81) 35 rfl rfl cw_12 rfl (by decide) k_X12_239 dX12_puts_12 ?_
  refine lv_topi (fun x15 ex15 => ?_)
  have ex15 : x15 = x13 := by rw [ex15, ← hμ14]; first | rfl | exact if_pos ⟨rfl, rfl⟩
  have ex15 := ex15.symm
  subst ex15
  refine lv_iload_n hx hb dX12_puts_15 rfl (lv_at hl 2 rfl) ?_
  refine lv_iload_n hx hb dX12_puts_16 rfl (lv_at hl 0 rfl) ?_
  refine lv_ishr hx hb dX12_puts_17 ?_
  refine lv_topi (fun x16 ex16 => ?_)
  refine lv_sipush (v := 255) hx hb dX12_puts_18 (by decide) ?_
  refine lv_iand hx hb dX12_puts_21 ?_
  refine lv_topi (fun x17 ex17 => ?_)
  have bx17 : 0 ≤ x17.toInt ∧ x17.toInt ≤ 255 := m_andN (n := 255) ex17 rfl (by decide)
  refine m_iast hx hb hW (106) rfl (m_ixI (rfl : x13.toInt = _) (by omega) (by omega)) dX12_puts_22 (fun H locs hW _ => ?_)
  generalize hμ18 : m_si μ14 (106) (x13 : Int32).toNatClampNeg x17 = μ18 at hW
  have hI := hI.si1 hμ18 rfl (by omega) hS23
  refine lv_aload_n hx hb dX12_puts_23 rfl (lv_at hl 1 rfl) ?_
  refine lv_aload_n hx hb dX12_puts_24 rfl (lv_at hl 1 rfl) ?_
  refine m_geti hx hb hts hown hW (81) 35 rfl rfl cw_12 rfl (by decide) k_X12_239 dX12_puts_25 ?_
  refine lv_topi (fun x19 ex19 => ?_)
  have ex19 : x19 = x13 := by rw [ex19, ← hμ18, ← hμ14]; first | rfl | exact if_pos ⟨rfl, rfl⟩
  have ex19 := ex19.symm
  subst ex19
  refine lv_iconst (v := 1) hx hb dX12_puts_28 (by decide) ?_
  refine lv_iadd hx hb dX12_puts_29 ?_
  refine lv_topi (fun x20 ex20 => ?_)
  have tx20 : x20.toInt = x13.toInt + 1 := m_addI ex20 (rfl : x13.toInt = _) (by decide : (1 : Int32).toInt = 1) (by omega) (by omega)
  refine m_puti hx hb hts hown hW (81) 35 rfl rfl cw_12 tyX12_ok nmX12 rfl (by decide) k_X12_239 rfl rfl rfl dX12_puts_30 (fun H locs hW _ => ?_)
  generalize hμ21 : m_si μ18 (81) 35 x20 = μ21 at hW
  have hI := hI.si1 hμ21 rfl (by omega) hS23
  refine lv_iinc (v := 0) (lv' := [(2, .int 0), (0, .ref (b + 81)), (1, .int v)]) hx hb dX12_puts_33 hl (k := 0) rfl (by decide) (by decide) rfl (fun ls hl => ?_)
  refine lv_goto (tgt := 3) hx hb dX12_puts_36 (by decide) ?_
  refine lv_iload_n hx hb dX12_puts_3 rfl (lv_at hl 0 rfl) ?_
  refine lv_if_lt (tgt := 39) hx hb dX12_puts_4 (by decide) (fun c => False.elim (by revert c; decide)) (fun _ => ?_)
  refine lv_aload_n hx hb dX12_puts_7 rfl (lv_at hl 1 rfl) ?_
  refine m_getr hx hb hts hown hW (81) 34 (106) rfl rfl cw_12 rfl (by decide) k_X12_95 dX12_puts_8 ?_
  refine lv_aload_n hx hb dX12_puts_11 rfl (lv_at hl 1 rfl) ?_
  refine m_geti hx hb hts hown hW (81) 35 rfl rfl cw_12 rfl (by decide) k_X12_239 dX12_puts_12 ?_
  refine lv_topi (fun x22 ex22 => ?_)
  have ex22 : x22 = x20 := by rw [ex22, ← hμ21]; first | rfl | exact if_pos ⟨rfl, rfl⟩
  have ex22 := ex22.symm
  subst ex22
  refine lv_iload_n hx hb dX12_puts_15 rfl (lv_at hl 2 rfl) ?_
  refine lv_iload_n hx hb dX12_puts_16 rfl (lv_at hl 0 rfl) ?_
  refine lv_ishr hx hb dX12_puts_17 ?_
  refine lv_topi (fun x23 ex23 => ?_)
  refine lv_sipush (v := 255) hx hb dX12_puts_18 (by decide) ?_
  refine lv_iand hx hb dX12_puts_21 ?_
  refine lv_topi (fun x24 ex24 => ?_)
  have bx24 : 0 ≤ x24.toInt ∧ x24.toInt ≤ 255 := m_andN (n := 255) ex24 rfl (by decide)
  refine m_iast hx hb hW (106) rfl (m_ixI (rfl : x20.toInt = _) (by omega) (by omega)) dX12_puts_22 (fun H locs hW _ => ?_)
  generalize hμ25 : m_si μ21 (106) (x20 : Int32).toNatClampNeg x24 = μ25 at hW
  have hI := hI.si1 hμ25 rfl (by omega) hS23
  refine lv_aload_n hx hb dX12_puts_23 rfl (lv_at hl 1 rfl) ?_
  refine lv_aload_n hx hb dX12_puts_24 rfl (lv_at hl 1 rfl) ?_
  refine m_geti hx hb hts hown hW (81) 35 rfl rfl cw_12 rfl (by decide) k_X12_239 dX12_puts_25 ?_
  refine lv_topi (fun x26 ex26 => ?_)
  have ex26 : x26 = x20 := by rw [ex26, ← hμ25, ← hμ21]; first | rfl | exact if_pos ⟨rfl, rfl⟩
  have ex26 := ex26.symm
  subst ex26
  refine lv_iconst (v := 1) hx hb dX12_puts_28 (by decide) ?_
  refine lv_iadd hx hb dX12_puts_29 ?_
  refine lv_topi (fun x27 ex27 => ?_)
  have tx27 : x27.toInt = x20.toInt + 1 := m_addI ex27 (rfl : x20.toInt = _) (by decide : (1 : Int32).toInt = 1) (by omega) (by omega)
  refine m_puti hx hb hts hown hW (81) 35 rfl rfl cw_12 tyX12_ok nmX12 rfl (by decide) k_X12_239 rfl rfl rfl dX12_puts_30 (fun H locs hW _ => ?_)
  generalize hμ28 : m_si μ25 (81) 35 x27 = μ28 at hW
  have hI := hI.si1 hμ28 rfl (by omega) hS23
  refine lv_iinc (v := (-8)) (lv' := [(2, .int (-8)), (0, .ref (b + 81)), (1, .int v)]) hx hb dX12_puts_33 hl (k := 0) rfl (by decide) (by decide) rfl (fun ls hl => ?_)
  refine lv_goto (tgt := 3) hx hb dX12_puts_36 (by decide) ?_
  refine lv_iload_n hx hb dX12_puts_3 rfl (lv_at hl 0 rfl) ?_
  refine lv_if_lt (tgt := 39) hx hb dX12_puts_4 (by decide) (fun _ => ?_) (fun c => False.elim (by revert c; decide))
  exact m_vret hx hb hr hlocks hW (⟨hI, ⟨by rw [show μ28.1 81 35 = x27 from by rw [← hμ28]; first | rfl | exact if_pos ⟨rfl, rfl⟩]; omega, by rw [show μ28.1 106 = μ25.1 106 from by rw [← hμ28]; exact m_si_row (by decide), show μ25.1 106 = m_up (μ21.1 106) (x20 : Int32).toNatClampNeg x24 from by rw [← hμ25]; exact m_si_up, show μ21.1 106 = μ18.1 106 from by rw [← hμ21]; exact m_si_row (by decide), show μ18.1 106 = m_up (μ14.1 106) (x13 : Int32).toNatClampNeg x17 from by rw [← hμ18]; exact m_si_up, show μ14.1 106 = μ11.1 106 from by rw [← hμ14]; exact m_si_row (by decide), show μ11.1 106 = m_up (μ7.1 106) (x6 : Int32).toNatClampNeg x10 from by rw [← hμ11]; exact m_si_up, show μ7.1 106 = μ4.1 106 from by rw [← hμ7]; exact m_si_row (by decide), show μ4.1 106 = m_up (μ.1 106) (t : Int32).toNatClampNeg x3 from by rw [← hμ4]; exact m_si_up, show x6.toNatClampNeg = t.toNatClampNeg + 1 from by have := m_ckI (x := x6) (by omega); have := m_ckI (x := t) (by omega); omega, show x13.toNatClampNeg = t.toNatClampNeg + 2 from by have := m_ckI (x := x13) (by omega); have := m_ckI (x := t) (by omega); omega, show x20.toNatClampNeg = t.toNatClampNeg + 3 from by have := m_ckI (x := x20) (by omega); have := m_ckI (x := t) (by omega); omega, ex3, ex2, ex10, ex9, ex17, ex16, ex24, ex23]; rfl⟩⟩) dX12_puts_39
set_option maxHeartbeats 4000000 in
set_option maxRecDepth 100000 in
theorem g_X11_feed_f (l : Launch) (D : va_G) (cy : Nat → ClassId) (b : Nat) (S : Nat → Bool) (μ0 : mM) (hS3 : S 3 = true) (t : Int32) (h_t : 0 ≤ t.toInt ∧ t.toInt ≤ 400) (k u v w z : Int32) (μ : mM) (hI : IY S μ0 μ) (ht : μ.1 23 1 = t) : m_Ci l yX11_feed cX11_feed 6 ((some .int)) 2 D cy b LAY μ [.ref (b + 0), .int k, .int u, .int v, .int w, .int z] (fun r ν => IY S μ0 ν ∧ ((r = -1 ∧ 380 < t.toInt ∧ ν.1 23 1 = t ∧ ν.1 24 = μ.1 24) ∨ (t.toInt ≤ 380 ∧ r = ν.1 23 1 ∧ (ν.1 23 1).toInt = t.toInt + 20 ∧ ν.1 24 = m_f20 m_ub (μ.1 24) t.toNatClampNeg k u v w z))) := by
  unfold m_Ci
  refine m_of (by decide) (Nat.le_of_ble_eq_true rfl) ?_
  intro p e s m below meth c hx hb hr hml hown hts hlocks _ hW ls hl
  have hown : s.vm.findClass RX11 = some m.cls := hown
  have hl : lv_has ls 6 [(0, .ref (b + 0)), (1, .int k), (2, .int u), (3, .int v), (4, .int w), (5, .int z)] := hl
  refine lv_aload_n hx hb dX11_feed_0 rfl (lv_at hl 0 rfl) ?_
  refine m_getr hx hb hts hown hW (0) 1 (23) rfl rfl cw_11 rfl (by decide) k_X11_21 dX11_feed_1 ?_
  refine m_geti hx hb hts hown hW (23) 1 rfl rfl cw_5 rfl (by decide) k_X11_99 dX11_feed_4 ?_
  refine lv_topi (fun x1 ex1 => ?_)
  have ex1 : x1 = t := by rw [ex1]; exact ht
  have ex1 := ex1.symm
  subst ex1
  refine lv_bipush (v := 20) hx hb dX11_feed_7 (by decide) ?_
  refine lv_iadd hx hb dX11_feed_9 ?_
  refine lv_topi (fun x2 ex2 => ?_)
  have tx2 : x2.toInt = t.toInt + 20 := m_addI ex2 (rfl : t.toInt = _) (by decide : (20 : Int32).toInt = 20) (by omega) (by omega)
  refine lv_sipush (v := 400) hx hb dX11_feed_10 (by decide) ?_
  refine lv_icmp_le (tgt := 18) hx hb dX11_feed_13 (by decide) (fun c3 => ?_) (fun c3 => ?_)
  · have i3 := m_c3 (rfl : x2.toInt = _) (by decide : (400 : Int32).toInt = 400) c3
    refine lv_aload_n hx hb dX11_feed_18 rfl (lv_at hl 0 rfl) ?_
    refine m_getr hx hb hts hown hW (0) 1 (23) rfl rfl cw_11 rfl (by decide) k_X11_21 dX11_feed_19 ?_
    refine lv_iload_n hx hb dX11_feed_22 rfl (lv_at hl 1 rfl) ?_
    refine m_aV hW (m_runV (As := [.int k]) (rest := []) hx hb hml hown hts hW (23) (g_X5_addBytes_f l D cy b S μ0 hS3 t (by omega) k μ hI (by exact ht)) mi_X5_addBytes k_X11_102 rfl rfl rfl hl.1 rfl (Nat.le_of_ble_eq_true rfl) dX11_feed_23 ⟨Nat.le_of_ble_eq_true rfl, Nat.le_of_ble_eq_true rfl⟩ ⟨Nat.le_of_ble_eq_true rfl, Nat.le_of_ble_eq_true rfl⟩) (fun μ4 H locs q4 hW => ?_)
    obtain ⟨hI, q4⟩ := q4
    obtain ⟨q4, q4r⟩ := q4
    obtain ⟨x5, hx5⟩ : ∃ z, μ4.1 23 1 = z := ⟨_, rfl⟩
    have bx5 : 0 ≤ x5.toInt ∧ x5.toInt ≤ 400 := by rw [← hx5]; exact hI.1 _ _ _ _ rfl
    rw [show μ4.1 23 1 = x5 from by exact hx5] at q4
    refine lv_aload_n hx hb dX11_feed_26 rfl (lv_at hl 0 rfl) ?_
    refine m_getr hx hb hts hown hW (0) 1 (23) rfl rfl cw_11 rfl (by decide) k_X11_21 dX11_feed_27 ?_
    refine lv_iload_n hx hb dX11_feed_30 rfl (lv_at hl 2 rfl) ?_
    refine m_aV hW (m_runV (As := [.int u]) (rest := []) hx hb hml hown hts hW (23) (g_X5_addBytes_f l D cy b S μ0 hS3 x5 (by omega) u μ4 hI (by exact hx5)) mi_X5_addBytes k_X11_102 rfl rfl rfl hl.1 rfl (Nat.le_of_ble_eq_true rfl) dX11_feed_31 ⟨Nat.le_of_ble_eq_true rfl, Nat.le_of_ble_eq_true rfl⟩ ⟨Nat.le_of_ble_eq_true rfl, Nat.le_of_ble_eq_true rfl⟩) (fun μ6 H locs q6 hW => ?_)
    obtain ⟨hI, q6⟩ := q6
    obtain ⟨q6, q6r⟩ := q6
    obtain ⟨x7, hx7⟩ : ∃ z, μ6.1 23 1 = z := ⟨_, rfl⟩
    have bx7 : 0 ≤ x7.toInt ∧ x7.toInt ≤ 400 := by rw [← hx7]; exact hI.1 _ _ _ _ rfl
    rw [show μ6.1 23 1 = x7 from by exact hx7] at q6
    refine lv_aload_n hx hb dX11_feed_34 rfl (lv_at hl 0 rfl) ?_
    refine m_getr hx hb hts hown hW (0) 1 (23) rfl rfl cw_11 rfl (by decide) k_X11_21 dX11_feed_35 ?_
    refine lv_iload_n hx hb dX11_feed_38 rfl (lv_at hl 3 rfl) ?_
    refine m_aV hW (m_runV (As := [.int v]) (rest := []) hx hb hml hown hts hW (23) (g_X5_addBytes_f l D cy b S μ0 hS3 x7 (by omega) v μ6 hI (by exact hx7)) mi_X5_addBytes k_X11_102 rfl rfl rfl hl.1 rfl (Nat.le_of_ble_eq_true rfl) dX11_feed_39 ⟨Nat.le_of_ble_eq_true rfl, Nat.le_of_ble_eq_true rfl⟩ ⟨Nat.le_of_ble_eq_true rfl, Nat.le_of_ble_eq_true rfl⟩) (fun μ8 H locs q8 hW => ?_)
    obtain ⟨hI, q8⟩ := q8
    obtain ⟨q8, q8r⟩ := q8
    obtain ⟨x9, hx9⟩ : ∃ z, μ8.1 23 1 = z := ⟨_, rfl⟩
    have bx9 : 0 ≤ x9.toInt ∧ x9.toInt ≤ 400 := by rw [← hx9]; exact hI.1 _ _ _ _ rfl
    rw [show μ8.1 23 1 = x9 from by exact hx9] at q8
    refine lv_aload_n hx hb dX11_feed_42 rfl (lv_at hl 0 rfl) ?_
    refine m_getr hx hb hts hown hW (0) 1 (23) rfl rfl cw_11 rfl (by decide) k_X11_21 dX11_feed_43 ?_
    refine lv_iload hx hb dX11_feed_46 (lv_at hl 4 rfl) ?_
    refine m_aV hW (m_runV (As := [.int w]) (rest := []) hx hb hml hown hts hW (23) (g_X5_addBytes_f l D cy b S μ0 hS3 x9 (by omega) w μ8 hI (by exact hx9)) mi_X5_addBytes k_X11_102 rfl rfl rfl hl.1 rfl (Nat.le_of_ble_eq_true rfl) dX11_feed_48 ⟨Nat.le_of_ble_eq_true rfl, Nat.le_of_ble_eq_true rfl⟩ ⟨Nat.le_of_ble_eq_true rfl, Nat.le_of_ble_eq_true rfl⟩) (fun μ10 H locs q10 hW => ?_)
    obtain ⟨hI, q10⟩ := q10
    obtain ⟨q10, q10r⟩ := q10
    obtain ⟨x11, hx11⟩ : ∃ z, μ10.1 23 1 = z := ⟨_, rfl⟩
    have bx11 : 0 ≤ x11.toInt ∧ x11.toInt ≤ 400 := by rw [← hx11]; exact hI.1 _ _ _ _ rfl
    rw [show μ10.1 23 1 = x11 from by exact hx11] at q10
    refine lv_aload_n hx hb dX11_feed_51 rfl (lv_at hl 0 rfl) ?_
    refine m_getr hx hb hts hown hW (0) 1 (23) rfl rfl cw_11 rfl (by decide) k_X11_21 dX11_feed_52 ?_
    refine lv_iload hx hb dX11_feed_55 (lv_at hl 5 rfl) ?_
    refine m_aV hW (m_runV (As := [.int z]) (rest := []) hx hb hml hown hts hW (23) (g_X5_addBytes_f l D cy b S μ0 hS3 x11 (by omega) z μ10 hI (by exact hx11)) mi_X5_addBytes k_X11_102 rfl rfl rfl hl.1 rfl (Nat.le_of_ble_eq_true rfl) dX11_feed_57 ⟨Nat.le_of_ble_eq_true rfl, Nat.le_of_ble_eq_true rfl⟩ ⟨Nat.le_of_ble_eq_true rfl, Nat.le_of_ble_eq_true rfl⟩) (fun μ12 H locs q12 hW => ?_)
    obtain ⟨hI, q12⟩ := q12
    obtain ⟨q12, q12r⟩ := q12
    obtain ⟨x13, hx13⟩ : ∃ z, μ12.1 23 1 = z := ⟨_, rfl⟩
    have bx13 : 0 ≤ x13.toInt ∧ x13.toInt ≤ 400 := by rw [← hx13]; exact hI.1 _ _ _ _ rfl
    rw [show μ12.1 23 1 = x13 from by exact hx13] at q12
    refine lv_aload_n hx hb dX11_feed_60 rfl (lv_at hl 0 rfl) ?_
    refine m_getr hx hb hts hown hW (0) 1 (23) rfl rfl cw_11 rfl (by decide) k_X11_21 dX11_feed_61 ?_
    refine m_geti hx hb hts hown hW (23) 1 rfl rfl cw_5 rfl (by decide) k_X11_99 dX11_feed_64 ?_
    refine lv_topi (fun x14 ex14 => ?_)
    have ex14 : x14 = x13 := by rw [ex14]; exact hx13
    have ex14 := ex14.symm
    subst ex14
    exact m_iret hx hb hr hlocks hW rfl (⟨hI, Or.inr ⟨by omega, by rw [show μ12.1 23 1 = x13 from by exact hx13], by rw [show μ12.1 23 1 = x13 from by exact hx13]; omega, by rw [show μ12.1 24 = m_f4 m_ub (μ10.1 24) x11.toNatClampNeg z from q12r, show μ10.1 24 = m_f4 m_ub (μ8.1 24) x9.toNatClampNeg w from q10r, show μ8.1 24 = m_f4 m_ub (μ6.1 24) x7.toNatClampNeg v from q8r, show μ6.1 24 = m_f4 m_ub (μ4.1 24) x5.toNatClampNeg u from q6r, show μ4.1 24 = m_f4 m_ub (μ.1 24) t.toNatClampNeg k from q4r, show x5.toNatClampNeg = t.toNatClampNeg + 4 from by have := m_ckI (x := x5) (by omega); have := m_ckI (x := t) (by omega); omega, show x7.toNatClampNeg = t.toNatClampNeg + 8 from by have := m_ckI (x := x7) (by omega); have := m_ckI (x := t) (by omega); omega, show x9.toNatClampNeg = t.toNatClampNeg + 12 from by have := m_ckI (x := x9) (by omega); have := m_ckI (x := t) (by omega); omega, show x11.toNatClampNeg = t.toNatClampNeg + 16 from by have := m_ckI (x := x11) (by omega); have := m_ckI (x := t) (by omega); omega]; rfl⟩⟩) dX11_feed_67
  · have i3 := m_c4 (rfl : x2.toInt = _) (by decide : (400 : Int32).toInt = 400) c3
    refine lv_iconst (v := (-1)) hx hb dX11_feed_16 (by decide) ?_
    exact m_iret hx hb hr hlocks hW rfl (⟨hI, Or.inl ⟨rfl, by omega, by rw [show μ.1 23 1 = t from by exact ht], rfl⟩⟩) dX11_feed_17
set_option maxHeartbeats 4000000 in
set_option maxRecDepth 100000 in
theorem g_X12_feed_f (l : Launch) (D : va_G) (cy : Nat → ClassId) (b : Nat) (S : Nat → Bool) (μ0 : mM) (hS20 : S 20 = true) (hS23 : S 23 = true) (t : Int32) (h_t : 0 ≤ t.toInt ∧ t.toInt ≤ 400) (k u v w z : Int32) (μ : mM) (hI : IY S μ0 μ) (ht : μ.1 81 35 = t) : m_Ci l yX12_feed cX12_feed 6 ((some .int)) 1 D cy b LAY μ [.ref (b + 81), .int k, .int u, .int v, .int w, .int z] (fun r ν => IY S μ0 ν ∧ ((r = -1 ∧ 380 < t.toInt ∧ ν.1 81 35 = t ∧ ν.1 106 = μ.1 106) ∨ (t.toInt ≤ 380 ∧ r = ν.1 81 35 ∧ (ν.1 81 35).toInt = t.toInt + 20 ∧ ν.1 106 = m_f20 m_sb (μ.1 106) t.toNatClampNeg k u v w z))) := by
  unfold m_Ci
  refine m_of (by decide) (Nat.le_of_ble_eq_true rfl) ?_
  intro p e s m below meth c hx hb hr hml hown hts hlocks _ hW ls hl
  have hown : s.vm.findClass RX12 = some m.cls := hown
  have hl : lv_has ls 6 [(0, .ref (b + 81)), (1, .int k), (2, .int u), (3, .int v), (4, .int w), (5, .int z)] := hl
  refine lv_aload_n hx hb dX12_feed_0 rfl (lv_at hl 0 rfl) ?_
  refine lv_iconst (v := 0) hx hb dX12_feed_1 (by decide) ?_
  refine m_puti hx hb hts hown hW (81) 0 rfl rfl cw_12 tyX12_ok nmX12 rfl (by decide) k_X12_167 rfl rfl rfl dX12_feed_2 (fun H locs hW _ => ?_)
  generalize hμ1 : m_si μ (81) 0 0 = μ1 at hW
  have hI := hI.si0 hμ1 rfl hS20
  refine lv_aload_n hx hb dX12_feed_5 rfl (lv_at hl 0 rfl) ?_
  refine m_geti hx hb hts hown hW (81) 35 rfl rfl cw_12 rfl (by decide) k_X12_239 dX12_feed_6 ?_
  refine lv_topi (fun x2 ex2 => ?_)
  have ex2 : x2 = t := by rw [ex2, ← hμ1]; exact ht
  have ex2 := ex2.symm
  subst ex2
  refine lv_sipush (v := 380) hx hb dX12_feed_9 (by decide) ?_
  refine lv_icmp_le (tgt := 17) hx hb dX12_feed_12 (by decide) (fun c3 => ?_) (fun c3 => ?_)
  · have i3 := m_c3 (rfl : t.toInt = _) (by decide : (380 : Int32).toInt = 380) c3
    refine lv_aload_n hx hb dX12_feed_17 rfl (lv_at hl 0 rfl) ?_
    refine lv_iload_n hx hb dX12_feed_18 rfl (lv_at hl 1 rfl) ?_
    refine m_aV hW (m_runV (As := [.int k]) (rest := []) hx hb hml hown hts hW (81) (g_X12_puts_f l D cy b S μ0 hS23 t (by omega) k μ1 hI (by rw [← hμ1]; exact ht)) mi_X12_puts k_X12_242 rfl rfl rfl hl.1 rfl (Nat.le_of_ble_eq_true rfl) dX12_feed_19 ⟨Nat.le_of_ble_eq_true rfl, Nat.le_of_ble_eq_true rfl⟩ ⟨Nat.le_of_ble_eq_true rfl, Nat.le_of_ble_eq_true rfl⟩) (fun μ4 H locs q4 hW => ?_)
    obtain ⟨hI, q4⟩ := q4
    obtain ⟨q4, q4r⟩ := q4
    obtain ⟨x5, hx5⟩ : ∃ z, μ4.1 81 35 = z := ⟨_, rfl⟩
    have bx5 : 0 ≤ x5.toInt ∧ x5.toInt ≤ 400 := by rw [← hx5]; exact hI.1 _ _ _ _ rfl
    rw [show μ4.1 81 35 = x5 from by exact hx5] at q4
    refine lv_aload_n hx hb dX12_feed_22 rfl (lv_at hl 0 rfl) ?_
    refine lv_iload_n hx hb dX12_feed_23 rfl (lv_at hl 2 rfl) ?_
    refine m_aV hW (m_runV (As := [.int u]) (rest := []) hx hb hml hown hts hW (81) (g_X12_puts_f l D cy b S μ0 hS23 x5 (by omega) u μ4 hI (by exact hx5)) mi_X12_puts k_X12_242 rfl rfl rfl hl.1 rfl (Nat.le_of_ble_eq_true rfl) dX12_feed_24 ⟨Nat.le_of_ble_eq_true rfl, Nat.le_of_ble_eq_true rfl⟩ ⟨Nat.le_of_ble_eq_true rfl, Nat.le_of_ble_eq_true rfl⟩) (fun μ6 H locs q6 hW => ?_)
    obtain ⟨hI, q6⟩ := q6
    obtain ⟨q6, q6r⟩ := q6
    obtain ⟨x7, hx7⟩ : ∃ z, μ6.1 81 35 = z := ⟨_, rfl⟩
    have bx7 : 0 ≤ x7.toInt ∧ x7.toInt ≤ 400 := by rw [← hx7]; exact hI.1 _ _ _ _ rfl
    rw [show μ6.1 81 35 = x7 from by exact hx7] at q6
    refine lv_aload_n hx hb dX12_feed_27 rfl (lv_at hl 0 rfl) ?_
    refine lv_iload_n hx hb dX12_feed_28 rfl (lv_at hl 3 rfl) ?_
    refine m_aV hW (m_runV (As := [.int v]) (rest := []) hx hb hml hown hts hW (81) (g_X12_puts_f l D cy b S μ0 hS23 x7 (by omega) v μ6 hI (by exact hx7)) mi_X12_puts k_X12_242 rfl rfl rfl hl.1 rfl (Nat.le_of_ble_eq_true rfl) dX12_feed_29 ⟨Nat.le_of_ble_eq_true rfl, Nat.le_of_ble_eq_true rfl⟩ ⟨Nat.le_of_ble_eq_true rfl, Nat.le_of_ble_eq_true rfl⟩) (fun μ8 H locs q8 hW => ?_)
    obtain ⟨hI, q8⟩ := q8
    obtain ⟨q8, q8r⟩ := q8
    obtain ⟨x9, hx9⟩ : ∃ z, μ8.1 81 35 = z := ⟨_, rfl⟩
    have bx9 : 0 ≤ x9.toInt ∧ x9.toInt ≤ 400 := by rw [← hx9]; exact hI.1 _ _ _ _ rfl
    rw [show μ8.1 81 35 = x9 from by exact hx9] at q8
    refine lv_aload_n hx hb dX12_feed_32 rfl (lv_at hl 0 rfl) ?_
    refine lv_iload hx hb dX12_feed_33 (lv_at hl 4 rfl) ?_
    refine m_aV hW (m_runV (As := [.int w]) (rest := []) hx hb hml hown hts hW (81) (g_X12_puts_f l D cy b S μ0 hS23 x9 (by omega) w μ8 hI (by exact hx9)) mi_X12_puts k_X12_242 rfl rfl rfl hl.1 rfl (Nat.le_of_ble_eq_true rfl) dX12_feed_35 ⟨Nat.le_of_ble_eq_true rfl, Nat.le_of_ble_eq_true rfl⟩ ⟨Nat.le_of_ble_eq_true rfl, Nat.le_of_ble_eq_true rfl⟩) (fun μ10 H locs q10 hW => ?_)
    obtain ⟨hI, q10⟩ := q10
    obtain ⟨q10, q10r⟩ := q10
    obtain ⟨x11, hx11⟩ : ∃ z, μ10.1 81 35 = z := ⟨_, rfl⟩
    have bx11 : 0 ≤ x11.toInt ∧ x11.toInt ≤ 400 := by rw [← hx11]; exact hI.1 _ _ _ _ rfl
    rw [show μ10.1 81 35 = x11 from by exact hx11] at q10
    refine lv_aload_n hx hb dX12_feed_38 rfl (lv_at hl 0 rfl) ?_
    refine lv_iload hx hb dX12_feed_39 (lv_at hl 5 rfl) ?_
    refine m_aV hW (m_runV (As := [.int z]) (rest := []) hx hb hml hown hts hW (81) (g_X12_puts_f l D cy b S μ0 hS23 x11 (by omega) z μ10 hI (by exact hx11)) mi_X12_puts k_X12_242 rfl rfl rfl hl.1 rfl (Nat.le_of_ble_eq_true rfl) dX12_feed_41 ⟨Nat.le_of_ble_eq_true rfl, Nat.le_of_ble_eq_true rfl⟩ ⟨Nat.le_of_ble_eq_true rfl, Nat.le_of_ble_eq_true rfl⟩) (fun μ12 H locs q12 hW => ?_)
    obtain ⟨hI, q12⟩ := q12
    obtain ⟨q12, q12r⟩ := q12
    obtain ⟨x13, hx13⟩ : ∃ z, μ12.1 81 35 = z := ⟨_, rfl⟩
    have bx13 : 0 ≤ x13.toInt ∧ x13.toInt ≤ 400 := by rw [← hx13]; exact hI.1 _ _ _ _ rfl
    rw [show μ12.1 81 35 = x13 from by exact hx13] at q12
    refine lv_aload_n hx hb dX12_feed_44 rfl (lv_at hl 0 rfl) ?_
    refine m_geti hx hb hts hown hW (81) 35 rfl rfl cw_12 rfl (by decide) k_X12_239 dX12_feed_45 ?_
    refine lv_topi (fun x14 ex14 => ?_)
    have ex14 : x14 = x13 := by rw [ex14]; exact hx13
    have ex14 := ex14.symm
    subst ex14
    exact m_iret hx hb hr hlocks hW rfl (⟨hI, Or.inr ⟨by omega, by rw [show μ12.1 81 35 = x13 from by exact hx13], by rw [show μ12.1 81 35 = x13 from by exact hx13]; omega, by rw [show μ12.1 106 = m_f4 m_sb (μ10.1 106) x11.toNatClampNeg z from q12r, show μ10.1 106 = m_f4 m_sb (μ8.1 106) x9.toNatClampNeg w from q10r, show μ8.1 106 = m_f4 m_sb (μ6.1 106) x7.toNatClampNeg v from q8r, show μ6.1 106 = m_f4 m_sb (μ4.1 106) x5.toNatClampNeg u from q6r, show μ4.1 106 = m_f4 m_sb (μ1.1 106) t.toNatClampNeg k from q4r, show μ1.1 106 = μ.1 106 from by rw [← hμ1]; exact m_si_row (by decide), show x5.toNatClampNeg = t.toNatClampNeg + 4 from by have := m_ckI (x := x5) (by omega); have := m_ckI (x := t) (by omega); omega, show x7.toNatClampNeg = t.toNatClampNeg + 8 from by have := m_ckI (x := x7) (by omega); have := m_ckI (x := t) (by omega); omega, show x9.toNatClampNeg = t.toNatClampNeg + 12 from by have := m_ckI (x := x9) (by omega); have := m_ckI (x := t) (by omega); omega, show x11.toNatClampNeg = t.toNatClampNeg + 16 from by have := m_ckI (x := x11) (by omega); have := m_ckI (x := t) (by omega); omega]; rfl⟩⟩) dX12_feed_48
  · have i3 := m_c4 (rfl : t.toInt = _) (by decide : (380 : Int32).toInt = 380) c3
    refine lv_iconst (v := (-1)) hx hb dX12_feed_15 (by decide) ?_
    exact m_iret hx hb hr hlocks hW rfl (⟨hI, Or.inl ⟨rfl, by omega, by rw [show μ1.1 81 35 = t from by rw [← hμ1]; exact ht], by rw [show μ1.1 106 = μ.1 106 from by rw [← hμ1]; exact m_si_row (by decide)]⟩⟩) dX12_feed_16
set_option maxHeartbeats 4000000 in
set_option maxRecDepth 100000 in
theorem g_X11_end_f (l : Launch) (D : va_G) (cy : Nat → ClassId) (b : Nat) (S : Nat → Bool) (μ0 : mM) (hS3 : S 3 = true) (t : Int32) (h_t : 0 ≤ t.toInt ∧ t.toInt ≤ 400) (k : Int32) (μ : mM) (hI : IY S μ0 μ) (ht : μ.1 23 1 = t) : m_Ci l yX11_end cX11_end 2 ((some .boolean)) 1 D cy b LAY μ [.ref (b + 0), .int k] (fun r ν => IY S μ0 ν ∧ (((r = 1 ∧ (0 ≤ k.toInt ∧ k.toInt ≤ t.toInt) ∧ ν.1 23 1 = k) ∨ (r = 0 ∧ ¬ (0 ≤ k.toInt ∧ k.toInt ≤ t.toInt) ∧ ν.1 23 1 = t)) ∧ ν.1 24 = μ.1 24)) := by
  unfold m_Ci
  refine m_of (by decide) (Nat.le_of_ble_eq_true rfl) ?_
  intro p e s m below meth c hx hb hr hml hown hts hlocks _ hW ls hl
  have hown : s.vm.findClass RX11 = some m.cls := hown
  have hl : lv_has ls 2 [(0, .ref (b + 0)), (1, .int k)] := hl
  refine lv_iload_n hx hb dX11_end_0 rfl (lv_at hl 1 rfl) ?_
  refine lv_iconst (v := 0) hx hb dX11_end_1 (by decide) ?_
  refine lv_aload_n hx hb dX11_end_2 rfl (lv_at hl 0 rfl) ?_
  refine m_getr hx hb hts hown hW (0) 1 (23) rfl rfl cw_11 rfl (by decide) k_X11_21 dX11_end_3 ?_
  refine m_geti hx hb hts hown hW (23) 1 rfl rfl cw_5 rfl (by decide) k_X11_99 dX11_end_6 ?_
  refine lv_topi (fun x1 ex1 => ?_)
  have ex1 : x1 = t := by rw [ex1]; exact ht
  have ex1 := ex1.symm
  subst ex1
  have l_0 : (0 : Int32).toInt = 0 := by decide
  refine m_aI hW (m_runS (As := [.int k, .int 0, .int t]) (rest := []) hx hb hml hown hts hW (g_X11_within l D cy b k 0 t μ hI.1) ms_X11_within k_X11_81 rfl hl.1 rfl (Nat.le_of_ble_eq_true rfl) dX11_end_9 ⟨Nat.le_of_ble_eq_true rfl, Nat.le_of_ble_eq_true rfl⟩ ⟨Nat.le_of_ble_eq_true rfl, Nat.le_of_ble_eq_true rfl⟩) (fun x2 μ2 H locs q2 hW => ?_)
  obtain ⟨q2_m, q2⟩ := q2
  subst q2_m
  rcases q2 with ⟨rfl, q2⟩ | ⟨rfl, q2⟩
  · refine lv_if_ne (tgt := 17) hx hb dX11_end_12 (by decide) (fun _ => ?_) (fun c => False.elim (by revert c; decide))
    refine lv_aload_n hx hb dX11_end_17 rfl (lv_at hl 0 rfl) ?_
    refine m_getr hx hb hts hown hW (0) 1 (23) rfl rfl cw_11 rfl (by decide) k_X11_21 dX11_end_18 ?_
    refine lv_iload_n hx hb dX11_end_21 rfl (lv_at hl 1 rfl) ?_
    refine m_puti hx hb hts hown hW (23) 1 rfl rfl cw_5 tyX5_ok nmX5 rfl (by decide) k_X11_99 rfl rfl rfl dX11_end_22 (fun H locs hW _ => ?_)
    generalize hμ3 : m_si μ (23) 1 k = μ3 at hW
    have hI := hI.si1 hμ3 rfl (by omega) hS3
    refine lv_iconst (v := 1) hx hb dX11_end_25 (by decide) ?_
    exact m_iret hx hb hr hlocks hW (by decide) (⟨hI, ⟨Or.inl ⟨rfl, by omega, by rw [show μ3.1 23 1 = k from by rw [← hμ3]; first | rfl | exact if_pos ⟨rfl, rfl⟩]⟩, by rw [show μ3.1 24 = μ.1 24 from by rw [← hμ3]; exact m_si_row (by decide)]⟩⟩) dX11_end_26
  · refine lv_if_ne (tgt := 17) hx hb dX11_end_12 (by decide) (fun c => False.elim (by revert c; decide)) (fun _ => ?_)
    refine lv_iconst (v := 0) hx hb dX11_end_15 (by decide) ?_
    exact m_iret hx hb hr hlocks hW (by decide) (⟨hI, ⟨Or.inr ⟨rfl, by omega, by rw [show μ.1 23 1 = t from by exact ht]⟩, rfl⟩⟩) dX11_end_16
set_option maxHeartbeats 4000000 in
set_option maxRecDepth 100000 in
theorem g_X12_end_f (l : Launch) (D : va_G) (cy : Nat → ClassId) (b : Nat) (S : Nat → Bool) (μ0 : mM) (hS20 : S 20 = true) (hS23 : S 23 = true) (t : Int32) (h_t : 0 ≤ t.toInt ∧ t.toInt ≤ 400) (k : Int32) (μ : mM) (hI : IY S μ0 μ) (ht : μ.1 81 35 = t) : m_Ci l yX12_end cX12_end 2 ((some .boolean)) 1 D cy b LAY μ [.ref (b + 81), .int k] (fun r ν => IY S μ0 ν ∧ (((r = 1 ∧ (0 ≤ k.toInt ∧ k.toInt ≤ t.toInt) ∧ ν.1 81 35 = k) ∨ (r = 0 ∧ ¬ (0 ≤ k.toInt ∧ k.toInt ≤ t.toInt) ∧ ν.1 81 35 = t)) ∧ ν.1 106 = μ.1 106)) := by
  unfold m_Ci
  refine m_of (by decide) (Nat.le_of_ble_eq_true rfl) ?_
  intro p e s m below meth c hx hb hr hml hown hts hlocks _ hW ls hl
  have hown : s.vm.findClass RX12 = some m.cls := hown
  have hl : lv_has ls 2 [(0, .ref (b + 81)), (1, .int k)] := hl
  refine lv_aload_n hx hb dX12_end_0 rfl (lv_at hl 0 rfl) ?_
  refine lv_iconst (v := 0) hx hb dX12_end_1 (by decide) ?_
  refine m_puti hx hb hts hown hW (81) 0 rfl rfl cw_12 tyX12_ok nmX12 rfl (by decide) k_X12_167 rfl rfl rfl dX12_end_2 (fun H locs hW _ => ?_)
  generalize hμ1 : m_si μ (81) 0 0 = μ1 at hW
  have hI := hI.si0 hμ1 rfl hS20
  refine lv_aload_n hx hb dX12_end_5 rfl (lv_at hl 0 rfl) ?_
  refine lv_iload_n hx hb dX12_end_6 rfl (lv_at hl 1 rfl) ?_
  refine lv_iconst (v := 0) hx hb dX12_end_7 (by decide) ?_
  refine lv_aload_n hx hb dX12_end_8 rfl (lv_at hl 0 rfl) ?_
  refine m_geti hx hb hts hown hW (81) 35 rfl rfl cw_12 rfl (by decide) k_X12_239 dX12_end_9 ?_
  refine lv_topi (fun x2 ex2 => ?_)
  have ex2 : x2 = t := by rw [ex2, ← hμ1]; exact ht
  have ex2 := ex2.symm
  subst ex2
  have l_0 : (0 : Int32).toInt = 0 := by decide
  refine m_aI hW (m_runV (As := [.int k, .int 0, .int t]) (rest := []) hx hb hml hown hts hW (81) (g_X12_isIn l D cy b k 0 t μ1 hI.1) mi_X12_isIn k_X12_170 rfl rfl rfl hl.1 rfl (Nat.le_of_ble_eq_true rfl) dX12_end_12 ⟨Nat.le_of_ble_eq_true rfl, Nat.le_of_ble_eq_true rfl⟩ ⟨Nat.le_of_ble_eq_true rfl, Nat.le_of_ble_eq_true rfl⟩) (fun x3 μ3 H locs q3 hW => ?_)
  obtain ⟨q3_m, q3⟩ := q3
  subst q3_m
  rcases q3 with ⟨rfl, q3⟩ | ⟨rfl, q3⟩
  · refine lv_if_ne (tgt := 20) hx hb dX12_end_15 (by decide) (fun _ => ?_) (fun c => False.elim (by revert c; decide))
    refine lv_aload_n hx hb dX12_end_20 rfl (lv_at hl 0 rfl) ?_
    refine lv_iload_n hx hb dX12_end_21 rfl (lv_at hl 1 rfl) ?_
    refine m_puti hx hb hts hown hW (81) 35 rfl rfl cw_12 tyX12_ok nmX12 rfl (by decide) k_X12_239 rfl rfl rfl dX12_end_22 (fun H locs hW _ => ?_)
    generalize hμ4 : m_si μ1 (81) 35 k = μ4 at hW
    have hI := hI.si1 hμ4 rfl (by omega) hS23
    refine lv_iconst (v := 1) hx hb dX12_end_25 (by decide) ?_
    exact m_iret hx hb hr hlocks hW (by decide) (⟨hI, ⟨Or.inl ⟨rfl, by omega, by rw [show μ4.1 81 35 = k from by rw [← hμ4]; first | rfl | exact if_pos ⟨rfl, rfl⟩]⟩, by rw [show μ4.1 106 = μ1.1 106 from by rw [← hμ4]; exact m_si_row (by decide), show μ1.1 106 = μ.1 106 from by rw [← hμ1]; exact m_si_row (by decide)]⟩⟩) dX12_end_26
  · refine lv_if_ne (tgt := 20) hx hb dX12_end_15 (by decide) (fun c => False.elim (by revert c; decide)) (fun _ => ?_)
    refine lv_iconst (v := 0) hx hb dX12_end_18 (by decide) ?_
    exact m_iret hx hb hr hlocks hW (by decide) (⟨hI, ⟨Or.inr ⟨rfl, by omega, by rw [show μ1.1 81 35 = t from by rw [← hμ1]; exact ht]⟩, by rw [show μ1.1 106 = μ.1 106 from by rw [← hμ1]; exact m_si_row (by decide)]⟩⟩) dX12_end_19
