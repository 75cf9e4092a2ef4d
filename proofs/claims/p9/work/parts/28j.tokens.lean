-- THE CLASS'S WORDS
def m_px (q : Nat) : Nat := [0, 3, 7, 10, 13, 18, 24, 30, 33, 39, 43, 48, 54, 59, 65, 69, 71, 73, 78, 82].getD q 0
def m_lx (q : Nat) : Nat := (m_kx q).length
theorem m_kc_in : ∀ q, q < 19 → ∀ i, i < m_lx q → (kwV.getD (m_px q + i) 0).toInt ≠ 32 ∧ (kwV.getD (m_px q + i) 0).toInt = (m_kx q).getD i 0 := by decide +kernel
theorem m_kc_end : ∀ q, q < 19 → (kwV.getD (m_px q + m_lx q) 0).toInt = 32 ∧ m_px (q + 1) = m_px q + m_lx q + 1 ∧ m_px (q + 1) ≤ 82 := by decide +kernel
theorem m_px19 : m_px 19 = 82 := rfl
def m_sg (q : Nat) : Nat := [0, 1, 2, 3, 4, 5, 6, 8, 9, 7, 10, 11, 12, 13, 14, 15, 16, 17, 18].getD q 0
theorem m_kw_kx : ∀ q, q < 19 → m_kw q = m_kx (m_sg q) ∧ m_sg q < 19 := by decide +kernel
theorem m_sg_on : ∀ j, j < 19 → ∃ q, q < 19 ∧ m_sg q = j := by decide +kernel
theorem m_kx_inj : ∀ i, i < 19 → ∀ j, j < 19 → m_kx i = m_kx j → i = j := by decide +kernel
/-- the kind of the word from a to b, as the class numbers it -/
noncomputable def m_wk (f : Nat → Int32) (a b : Nat) : Int := @dite Int (∃ j, j < 19 ∧ m_EQ f a b (m_kx j)) (Classical.propDecidable _) (fun h => 9 + (Classical.choose h : Nat)) (fun _ => 0)
theorem m_wk_is {f : Nat → Int32} {a b j : Nat} (hj : j < 19) (h : m_EQ f a b (m_kx j)) : m_wk f a b = 9 + j := by
  have he : ∃ j, j < 19 ∧ m_EQ f a b (m_kx j) := ⟨j, hj, h⟩
  unfold m_wk
  rw [dif_pos he]
  have hs := Classical.choose_spec he
  rw [m_kx_inj _ hs.1 _ hj (hs.2.uniq h)]
theorem m_wk_no {f : Nat → Int32} {a b : Nat} (h : ∀ j, j < 19 → ¬ m_EQ f a b (m_kx j)) : m_wk f a b = 0 := by
  unfold m_wk
  rw [dif_neg (fun ⟨j, h1, h2⟩ => h j h1 h2)]
theorem m_wk_b (f : Nat → Int32) (a b : Nat) : m_wk f a b = 0 ∨ (9 ≤ m_wk f a b ∧ m_wk f a b ≤ 27) := by
  by_cases q : ∃ j, j < 19 ∧ m_EQ f a b (m_kx j)
  · obtain ⟨j, h1, h2⟩ := q
    rw [m_wk_is h1 h2]
    omega
  · exact Or.inl (m_wk_no (fun j h1 h2 => q ⟨j, h1, h2⟩))
theorem m_wk_al {f g : Nat → Int32} {a b n : Nat} (hg : m_al n f g) (hb : b ≤ n) : m_wk f a b = m_wk g a b := by
  have hg' : m_al n g f := fun i hi => (hg i hi).symm
  by_cases q : ∃ j, j < 19 ∧ m_EQ f a b (m_kx j)
  · obtain ⟨j, h1, h2⟩ := q
    rw [m_wk_is h1 h2, m_wk_is h1 (h2.al hg hb)]
  · rw [m_wk_no (fun j h1 h2 => q ⟨j, h1, h2⟩), m_wk_no (fun j h1 h2 => q ⟨j, h1, h2.al hg' hb⟩)]
set_option maxHeartbeats 4000000 in
set_option maxRecDepth 100000 in
theorem g_X5_at_t (l : Launch) (D : va_G) (cy : Nat → ClassId) (b : Nat) (t : Int32) (h_t : 0 ≤ t.toInt ∧ t.toInt ≤ 400) (fR : Nat → Int32) (u : Int32) (μ : mM) (hI : IX μ) (ht : μ.1 23 1 = t) (hfR : μ.1 24 = fR) : m_Ci l yX5_at cX5_at 2 ((some .int)) 0 D cy b LAY μ [.ref (b + 23), .int u] (fun r ν => μ = ν ∧ (((0 ≤ u.toInt ∧ u.toInt < t.toInt) ∧ r = fR u.toNatClampNeg) ∨ (¬ (0 ≤ u.toInt ∧ u.toInt < t.toInt) ∧ r = -1))) := by
  unfold m_Ci
  refine m_of (by decide) (Nat.le_of_ble_eq_true rfl) ?_
  intro p e s m below meth c hx hb hr hml hown hts hlocks _ hW ls hl
  have hown : s.vm.findClass RX5 = some m.cls := hown
  have hl : lv_has ls 2 [(0, .ref (b + 23)), (1, .int u)] := hl
  refine lv_iload_n hx hb dX5_at_0 rfl (lv_at hl 1 rfl) ?_
  refine lv_if_lt (tgt := 21) hx hb dX5_at_1 (by decide) (fun c1 => ?_) (fun c1 => ?_)
  · have i1 := m_c1 (rfl : u.toInt = _) (by decide : (0 : Int32).toInt = 0) c1
    refine lv_iconst (v := (-1)) hx hb dX5_at_21 (by decide) ?_
    exact m_iret hx hb hr hlocks hW rfl (⟨rfl, Or.inr ⟨by omega, rfl⟩⟩) dX5_at_22
  · have i1 := m_c2 (rfl : u.toInt = _) (by decide : (0 : Int32).toInt = 0) c1
    refine lv_iload_n hx hb dX5_at_4 rfl (lv_at hl 1 rfl) ?_
    refine lv_aload_n hx hb dX5_at_5 rfl (lv_at hl 0 rfl) ?_
    refine m_geti hx hb hts hown hW (23) 1 rfl rfl cw_5 rfl (by decide) k_X5_9 dX5_at_6 ?_
    refine lv_topi (fun x2 ex2 => ?_)
    have ex2 : x2 = t := by rw [ex2]; exact ht
    have ex2 := ex2.symm
    subst ex2
    refine lv_icmp_ge (tgt := 21) hx hb dX5_at_9 (by decide) (fun c3 => ?_) (fun c3 => ?_)
    · have i3 := m_c3 (rfl : t.toInt = _) (rfl : u.toInt = _) c3
      refine lv_iconst (v := (-1)) hx hb dX5_at_21 (by decide) ?_
      exact m_iret hx hb hr hlocks hW rfl (⟨rfl, Or.inr ⟨by omega, rfl⟩⟩) dX5_at_22
    · have i3 := m_c4 (rfl : t.toInt = _) (rfl : u.toInt = _) c3
      refine lv_aload_n hx hb dX5_at_12 rfl (lv_at hl 0 rfl) ?_
      refine m_getr hx hb hts hown hW (23) 0 (24) rfl rfl cw_5 rfl (by decide) k_X5_21 dX5_at_13 ?_
      refine lv_iload_n hx hb dX5_at_16 rfl (lv_at hl 1 rfl) ?_
      refine m_iald hx hb hW (24) rfl (m_ixI (rfl : u.toInt = _) (by omega) (by omega)) dX5_at_17 ?_
      refine lv_topi (fun x4 ex4 => ?_)
      refine lv_goto (tgt := 22) hx hb dX5_at_18 (by decide) ?_
      exact m_iret hx hb hr hlocks hW rfl (⟨rfl, Or.inl ⟨by omega, by rw [ex4, hfR]⟩⟩) dX5_at_22
set_option maxHeartbeats 4000000 in
set_option maxRecDepth 100000 in
theorem L_X8_kindOfWord_f_12 {p : Program} {l : Launch} {e : Env} {s : State} {m : MethodId} {args : Array Value} {below : List Frame} {meth : Method} {c : Code} {D : va_G} {cy : Nat → ClassId} {b : Nat} (hx : p.tables.exec = Jvm.exec) (hb : c.code = cX8_kindOfWord) (hr : meth.sig.returnType = ((some .int))) (hml : c.maxLocals = 8) (hown : s.vm.findClass RX8 = some m.cls) (hts : ∀ w ∈ TB, w.before args s = true) (hlocks : meth.locks = false) {oq oa ov : Nat} (hO : m_O (m_A b LAY) oq oa ov s s.heap) (μ1 : mM) (t : Int32) (h_t : 0 ≤ t.toInt ∧ t.toInt ≤ 400) (fT : Nat → Int32) (k u : Int32) (h_k : 0 ≤ k.toInt ∧ k.toInt ≤ 400) (h_u : 0 ≤ u.toInt ∧ u.toInt ≤ 400) (h_ku : k.toInt < u.toInt ∧ u.toInt ≤ t.toInt) : ∀ (f : Nat), ∀ (y3 y4 y5 y6 : Int32) (gq : Nat) (hy : 0 ≤ y3.toInt ∧ y3.toInt ≤ 100 ∧ 0 ≤ y4.toInt ∧ y4.toInt ≤ 800 ∧ 0 ≤ y5.toInt ∧ y5.toInt ≤ 1 ∧ 0 ≤ y6.toInt ∧ y6.toInt ≤ 82 ∧ gq ≤ 19 ∧ y3.toInt = 9 + (gq : Int) ∧ y6.toInt = m_px gq + (y4.toInt - k.toInt) ∧ k.toInt ≤ y4.toInt ∧ (gq < 19 → y4.toInt - k.toInt ≤ m_lx gq) ∧ (gq = 19 → y4.toInt = k.toInt)) (hf : 82 - y6.toInt < (f : Int)) (μ : mM) (hI : IX μ) (hm : μ = μ1) (ht : μ.1 23 1 = t) (hfT : μ.1 24 = fT) (hnq : ∀ j, j < gq → ¬ m_EQ fT k.toNatClampNeg u.toNatClampNeg (m_kx j)) (hsm : (y5.toInt = 1 ∧ ∀ j : Nat, (j : Int) < y4.toInt - k.toInt → k.toInt + j < u.toInt ∧ (fT (k.toNatClampNeg + j)).toInt = (m_kx gq).getD j 0) ∨ (y5.toInt = 0 ∧ ¬ m_EQ fT k.toNatClampNeg u.toNatClampNeg (m_kx gq))) (H : Heap) (locs : List Loc), m_WA (m_A b LAY) D cy s b LAY μ H locs → ∀ ls : Array Slot, lv_has ls 8 [(0, .ref (b + 23)), (1, .int k), (2, .int u), (3, .int y3), (4, .int y4), (5, .int y5), (6, .int y6)] → W p l e (m_R 5 0 0) s m args below meth c H locs 0 0 (MQ below (m_Qi D cy b LAY (fun r ν => μ1 = ν ∧ (r.toInt = m_wk fT k.toNatClampNeg u.toNatClampNeg))) args s 0 0 (m_A b LAY)) (F0 m 12 ls []) := by
  intro f
  induction f with
  | zero => intro y3 y4 y5 y6 gq hy hf; exfalso; omega
  | succ f ih =>
    intro y3 y4 y5 y6 gq hy hf μ hI hm ht hfT hnq hsm H locs hW ls hl
    have p0 : m_px 0 = 0 := rfl
    have F1 := m_kc_in gq
    have F2 := m_kc_end gq
    have p19 : gq = 19 → m_px gq = 82 := fun h => by rw [h]; rfl
    refine lv_iload hx hb dX8_kindOfWord_12 (lv_at hl 6 rfl) ?_
    refine va_ldcS hx hb hown hO.r dX8_kindOfWord_14 ?_
    refine m_aI hW (m_runVA (As := []) (rest := [.int y6]) hx hb hml hown hts hW hO (g_J0_length_8abf5 l D cy b oq oa ov μ hI) mi_J0_length_8abf5 k_X8_68 rfl rfl hl.1 rfl (Nat.le_of_ble_eq_true rfl) dX8_kindOfWord_16 ⟨Nat.le_of_ble_eq_true rfl, Nat.le_of_ble_eq_true rfl⟩ ⟨Nat.le_of_ble_eq_true rfl, Nat.le_of_ble_eq_true rfl⟩) (fun x1 μ1 H locs q1 hW => ?_)
    obtain ⟨q1_m, q1⟩ := q1
    subst q1_m
    have q1 := q1.symm
    subst q1
    refine lv_icmp_ge (tgt := 101) hx hb dX8_kindOfWord_19 (by decide) (fun c2 => ?_) (fun c2 => ?_)
    · have i2 := m_c3 (by decide : (82 : Int32).toInt = 82) (rfl : y6.toInt = _) c2
      refine lv_iconst (v := 0) hx hb dX8_kindOfWord_101 (by decide) ?_
      exact m_iret hx hb hr hlocks hW rfl (⟨hm.symm, (by rw [m_wk_no (fun j hj => hnq j (by omega))]; rfl)⟩) dX8_kindOfWord_102
    · have i2 := m_c4 (by decide : (82 : Int32).toInt = 82) (rfl : y6.toInt = _) c2
      refine va_ldcS hx hb hown hO.r dX8_kindOfWord_22 ?_
      refine lv_iload hx hb dX8_kindOfWord_24 (lv_at hl 6 rfl) ?_
      refine m_aI hW (m_runVA (As := [.int y6]) (rest := []) hx hb hml hown hts hW hO (g_J0_charAt_5068e l D cy b oq oa ov y6 (by omega) μ hI) mi_J0_charAt_5068e k_X8_74 rfl rfl hl.1 rfl (Nat.le_of_ble_eq_true rfl) dX8_kindOfWord_26 ⟨Nat.le_of_ble_eq_true rfl, Nat.le_of_ble_eq_true rfl⟩ ⟨Nat.le_of_ble_eq_true rfl, Nat.le_of_ble_eq_true rfl⟩) (fun x3 μ3 H locs q3 hW => ?_)
      obtain ⟨q3_m, q3⟩ := q3
      subst q3_m
      have wx3 : x3 = kwV.getD y6.toNatClampNeg 0 := q3
      rw [show y6.toNatClampNeg = m_px gq + (y4.toNatClampNeg - k.toNatClampNeg) from by have := m_ckI (x := y6) (by omega); have := m_ckI (x := y4) (by omega); have := m_ckI (x := k) (by omega); omega] at wx3
      have ax3 : y4.toInt - k.toInt < m_lx gq → x3.toInt ≠ 32 ∧ x3.toInt = (m_kx gq).getD (y4.toNatClampNeg - k.toNatClampNeg) 0 := fun h => by rw [wx3]; exact F1 (by omega) _ (by have := m_ckI (x := y4) (by omega); have := m_ckI (x := k) (by omega); omega)
      have ax32 : y4.toInt - k.toInt < m_lx gq → x3.toInt ≠ 32 := fun h => (ax3 h).1
      have dx3 : y4.toInt - k.toInt = m_lx gq → x3.toInt = 32 := fun h => by rw [wx3, show y4.toNatClampNeg - k.toNatClampNeg = m_lx gq from by have := m_ckI (x := y4) (by omega); have := m_ckI (x := k) (by omega); omega]; exact (F2 (by omega)).1
      refine lv_istore (lv' := [(7, .int x3), (0, .ref (b + 23)), (1, .int k), (2, .int u), (3, .int y3), (4, .int y4), (5, .int y5), (6, .int y6)]) hx hb dX8_kindOfWord_29 hl (by decide) rfl (fun ls hl => ?_)
      refine lv_iload hx hb dX8_kindOfWord_31 (lv_at hl 0 rfl) ?_
      refine lv_bipush (v := 32) hx hb dX8_kindOfWord_33 (by decide) ?_
      refine lv_icmp_eq (tgt := 73) hx hb dX8_kindOfWord_35 (by decide) (fun c4 => ?_) (fun c4 => ?_)
      · have i4 := m_c5 (rfl : x3.toInt = _) (by decide : (32 : Int32).toInt = 32) c4
        refine lv_iload hx hb dX8_kindOfWord_73 (lv_at hl 6 rfl) ?_
        refine lv_if_eq (tgt := 86) hx hb dX8_kindOfWord_75 (by decide) (fun c5 => ?_) (fun c5 => ?_)
        · have i5 := m_c5 (rfl : y5.toInt = _) (by decide : (0 : Int32).toInt = 0) c5
          obtain ⟨x6, ex6⟩ : ∃ z : Int32, z = y3 + 1 := ⟨_, rfl⟩
          refine lv_iinc (v := x6) (lv' := [(3, .int x6), (7, .int x3), (0, .ref (b + 23)), (1, .int k), (2, .int u), (4, .int y4), (5, .int y5), (6, .int y6)]) hx hb dX8_kindOfWord_86 hl (k := 4) rfl (by rw [ex6]; rfl) (by decide) rfl (fun ls hl => ?_)
          have tx6 : x6.toInt = y3.toInt + 1 := m_addI ex6 (rfl : y3.toInt = _) (by decide : (1 : Int32).toInt = 1) (by omega) (by omega)
          refine lv_iload_n hx hb dX8_kindOfWord_89 rfl (lv_at hl 3 rfl) ?_
          refine lv_istore (lv' := [(4, .int k), (3, .int x6), (7, .int x3), (0, .ref (b + 23)), (1, .int k), (2, .int u), (5, .int y5), (6, .int y6)]) hx hb dX8_kindOfWord_90 hl (by decide) rfl (fun ls hl => ?_)
          refine lv_iconst (v := 1) hx hb dX8_kindOfWord_92 (by decide) ?_
          refine lv_istore (lv' := [(5, .int 1), (4, .int k), (3, .int x6), (7, .int x3), (0, .ref (b + 23)), (1, .int k), (2, .int u), (6, .int y6)]) hx hb dX8_kindOfWord_93 hl (by decide) rfl (fun ls hl => ?_)
          obtain ⟨x7, ex7⟩ : ∃ z : Int32, z = y6 + 1 := ⟨_, rfl⟩
          refine lv_iinc (v := x7) (lv' := [(6, .int x7), (5, .int 1), (4, .int k), (3, .int x6), (7, .int x3), (0, .ref (b + 23)), (1, .int k), (2, .int u)]) hx hb dX8_kindOfWord_95 hl (k := 7) rfl (by rw [ex7]; rfl) (by decide) rfl (fun ls hl => ?_)
          have tx7 : x7.toInt = y6.toInt + 1 := m_addI ex7 (rfl : y6.toInt = _) (by decide : (1 : Int32).toInt = 1) (by omega) (by omega)
          refine lv_goto (tgt := 12) hx hb dX8_kindOfWord_98 (by decide) ?_
          have l_1 : (1 : Int32).toInt = 1 := by decide
          have hne : ¬ m_EQ fT k.toNatClampNeg u.toNatClampNeg (m_kx gq) := by
            intro hE
            have hb := hE.1
            have hkl : (m_kx gq).length = m_lx gq := rfl
            have ck_k := m_ckI (x := k) (by omega)
            have ck_u := m_ckI (x := u) (by omega)
            have ck_y := m_ckI (x := y4) (by omega)
            rcases hsm with ⟨s1, s2⟩ | ⟨s1, s2⟩
            · omega
            · exact s2 hE
          exact ih x6 k 1 x7 (gq + 1) (by omega) (by omega) μ hI hm (ht) (hfT) (fun j hj => (Classical.em (j = gq)).elim (fun q => by rw [q]; exact hne) (fun q => hnq j (by omega))) (Or.inl ⟨rfl, fun j hj => absurd hj (by omega)⟩) _ _ hW ls (lv_sub hl [5, 6, 7, 3, 2, 1, 0] rfl)
        · have i5 := m_c6 (rfl : y5.toInt = _) (by decide : (0 : Int32).toInt = 0) c5
          refine lv_iload hx hb dX8_kindOfWord_78 (lv_at hl 5 rfl) ?_
          refine lv_iload_n hx hb dX8_kindOfWord_80 rfl (lv_at hl 3 rfl) ?_
          refine lv_icmp_ne (tgt := 86) hx hb dX8_kindOfWord_81 (by decide) (fun c8 => ?_) (fun c8 => ?_)
          · have i8 := m_c6 (rfl : y4.toInt = _) (rfl : u.toInt = _) c8
            obtain ⟨x9, ex9⟩ : ∃ z : Int32, z = y3 + 1 := ⟨_, rfl⟩
            refine lv_iinc (v := x9) (lv' := [(3, .int x9), (7, .int x3), (0, .ref (b + 23)), (1, .int k), (2, .int u), (4, .int y4), (5, .int y5), (6, .int y6)]) hx hb dX8_kindOfWord_86 hl (k := 4) rfl (by rw [ex9]; rfl) (by decide) rfl (fun ls hl => ?_)
            have tx9 : x9.toInt = y3.toInt + 1 := m_addI ex9 (rfl : y3.toInt = _) (by decide : (1 : Int32).toInt = 1) (by omega) (by omega)
            refine lv_iload_n hx hb dX8_kindOfWord_89 rfl (lv_at hl 3 rfl) ?_
            refine lv_istore (lv' := [(4, .int k), (3, .int x9), (7, .int x3), (0, .ref (b + 23)), (1, .int k), (2, .int u), (5, .int y5), (6, .int y6)]) hx hb dX8_kindOfWord_90 hl (by decide) rfl (fun ls hl => ?_)
            refine lv_iconst (v := 1) hx hb dX8_kindOfWord_92 (by decide) ?_
            refine lv_istore (lv' := [(5, .int 1), (4, .int k), (3, .int x9), (7, .int x3), (0, .ref (b + 23)), (1, .int k), (2, .int u), (6, .int y6)]) hx hb dX8_kindOfWord_93 hl (by decide) rfl (fun ls hl => ?_)
            obtain ⟨x10, ex10⟩ : ∃ z : Int32, z = y6 + 1 := ⟨_, rfl⟩
            refine lv_iinc (v := x10) (lv' := [(6, .int x10), (5, .int 1), (4, .int k), (3, .int x9), (7, .int x3), (0, .ref (b + 23)), (1, .int k), (2, .int u)]) hx hb dX8_kindOfWord_95 hl (k := 7) rfl (by rw [ex10]; rfl) (by decide) rfl (fun ls hl => ?_)
            have tx10 : x10.toInt = y6.toInt + 1 := m_addI ex10 (rfl : y6.toInt = _) (by decide : (1 : Int32).toInt = 1) (by omega) (by omega)
            refine lv_goto (tgt := 12) hx hb dX8_kindOfWord_98 (by decide) ?_
            have l_1 : (1 : Int32).toInt = 1 := by decide
            have hne : ¬ m_EQ fT k.toNatClampNeg u.toNatClampNeg (m_kx gq) := by
              intro hE
              have hb := hE.1
              have hkl : (m_kx gq).length = m_lx gq := rfl
              have ck_k := m_ckI (x := k) (by omega)
              have ck_u := m_ckI (x := u) (by omega)
              have ck_y := m_ckI (x := y4) (by omega)
              rcases hsm with ⟨s1, s2⟩ | ⟨s1, s2⟩
              · omega
              · exact s2 hE
            exact ih x9 k 1 x10 (gq + 1) (by omega) (by omega) μ hI hm (ht) (hfT) (fun j hj => (Classical.em (j = gq)).elim (fun q => by rw [q]; exact hne) (fun q => hnq j (by omega))) (Or.inl ⟨rfl, fun j hj => absurd hj (by omega)⟩) _ _ hW ls (lv_sub hl [5, 6, 7, 3, 2, 1, 0] rfl)
          · have i8 := m_c5 (rfl : y4.toInt = _) (rfl : u.toInt = _) c8
            refine lv_iload_n hx hb dX8_kindOfWord_84 rfl (lv_at hl 4 rfl) ?_
            exact m_iret hx hb hr hlocks hW rfl (⟨hm.symm, (by have s2 := (hsm.resolve_right (fun z => by omega)).2; rw [m_wk_is (j := gq) (by omega) ⟨by have hkl : (m_kx gq).length = m_lx gq := rfl; have := m_ckI (x := k) (by omega); have := m_ckI (x := u) (by omega); have := m_ckI (x := y4) (by omega); omega, fun j hj => (s2 j (by have hkl : (m_kx gq).length = m_lx gq := rfl; have := m_ckI (x := k) (by omega); have := m_ckI (x := y4) (by omega); omega)).2⟩]; omega)⟩) dX8_kindOfWord_85
      · have i4 := m_c6 (rfl : x3.toInt = _) (by decide : (32 : Int32).toInt = 32) c4
        refine lv_iload hx hb dX8_kindOfWord_38 (lv_at hl 6 rfl) ?_
        refine lv_if_eq (tgt := 64) hx hb dX8_kindOfWord_40 (by decide) (fun c11 => ?_) (fun c11 => ?_)
        · have i11 := m_c5 (rfl : y5.toInt = _) (by decide : (0 : Int32).toInt = 0) c11
          refine lv_iconst (v := 0) hx hb dX8_kindOfWord_64 (by decide) ?_
          refine lv_istore (lv' := [(5, .int 0), (7, .int x3), (0, .ref (b + 23)), (1, .int k), (2, .int u), (3, .int y3), (4, .int y4), (6, .int y6)]) hx hb dX8_kindOfWord_65 hl (by decide) rfl (fun ls hl => ?_)
          obtain ⟨x12, ex12⟩ : ∃ z : Int32, z = y4 + 1 := ⟨_, rfl⟩
          refine lv_iinc (v := x12) (lv' := [(4, .int x12), (5, .int 0), (7, .int x3), (0, .ref (b + 23)), (1, .int k), (2, .int u), (3, .int y3), (6, .int y6)]) hx hb dX8_kindOfWord_67 hl (k := 6) rfl (by rw [ex12]; rfl) (by decide) rfl (fun ls hl => ?_)
          have tx12 : x12.toInt = y4.toInt + 1 := m_addI ex12 (rfl : y4.toInt = _) (by decide : (1 : Int32).toInt = 1) (by omega) (by omega)
          refine lv_goto (tgt := 95) hx hb dX8_kindOfWord_70 (by decide) ?_
          obtain ⟨x13, ex13⟩ : ∃ z : Int32, z = y6 + 1 := ⟨_, rfl⟩
          refine lv_iinc (v := x13) (lv' := [(6, .int x13), (4, .int x12), (5, .int 0), (7, .int x3), (0, .ref (b + 23)), (1, .int k), (2, .int u), (3, .int y3)]) hx hb dX8_kindOfWord_95 hl (k := 7) rfl (by rw [ex13]; rfl) (by decide) rfl (fun ls hl => ?_)
          have tx13 : x13.toInt = y6.toInt + 1 := m_addI ex13 (rfl : y6.toInt = _) (by decide : (1 : Int32).toInt = 1) (by omega) (by omega)
          refine lv_goto (tgt := 12) hx hb dX8_kindOfWord_98 (by decide) ?_
          have l_0 : (0 : Int32).toInt = 0 := by decide
          have hne : ¬ m_EQ fT k.toNatClampNeg u.toNatClampNeg (m_kx gq) := by
            intro hE
            have hb := hE.1
            have hkl : (m_kx gq).length = m_lx gq := rfl
            have ck_k := m_ckI (x := k) (by omega)
            have ck_u := m_ckI (x := u) (by omega)
            have ck_y := m_ckI (x := y4) (by omega)
            rcases hsm with ⟨s1, s2⟩ | ⟨s1, s2⟩
            rotate_left
            · exact s2 hE
            have hl := hE.2 (y4.toNatClampNeg - k.toNatClampNeg) (by omega)
            have := (ax3 (by omega)).2
            omega
          exact ih y3 x12 0 x13 gq (by omega) (by omega) μ hI hm (ht) (hfT) (hnq) (Or.inr ⟨rfl, hne⟩) _ _ hW ls (lv_sub hl [4, 5, 6, 7, 1, 2, 0] rfl)
        · have i11 := m_c6 (rfl : y5.toInt = _) (by decide : (0 : Int32).toInt = 0) c11
          refine lv_iload hx hb dX8_kindOfWord_43 (lv_at hl 5 rfl) ?_
          refine lv_iload_n hx hb dX8_kindOfWord_45 rfl (lv_at hl 3 rfl) ?_
          refine lv_icmp_ge (tgt := 64) hx hb dX8_kindOfWord_46 (by decide) (fun c14 => ?_) (fun c14 => ?_)
          · have i14 := m_c3 (rfl : u.toInt = _) (rfl : y4.toInt = _) c14
            refine lv_iconst (v := 0) hx hb dX8_kindOfWord_64 (by decide) ?_
            refine lv_istore (lv' := [(5, .int 0), (7, .int x3), (0, .ref (b + 23)), (1, .int k), (2, .int u), (3, .int y3), (4, .int y4), (6, .int y6)]) hx hb dX8_kindOfWord_65 hl (by decide) rfl (fun ls hl => ?_)
            obtain ⟨x15, ex15⟩ : ∃ z : Int32, z = y4 + 1 := ⟨_, rfl⟩
            refine lv_iinc (v := x15) (lv' := [(4, .int x15), (5, .int 0), (7, .int x3), (0, .ref (b + 23)), (1, .int k), (2, .int u), (3, .int y3), (6, .int y6)]) hx hb dX8_kindOfWord_67 hl (k := 6) rfl (by rw [ex15]; rfl) (by decide) rfl (fun ls hl => ?_)
            have tx15 : x15.toInt = y4.toInt + 1 := m_addI ex15 (rfl : y4.toInt = _) (by decide : (1 : Int32).toInt = 1) (by omega) (by omega)
            refine lv_goto (tgt := 95) hx hb dX8_kindOfWord_70 (by decide) ?_
            obtain ⟨x16, ex16⟩ : ∃ z : Int32, z = y6 + 1 := ⟨_, rfl⟩
            refine lv_iinc (v := x16) (lv' := [(6, .int x16), (4, .int x15), (5, .int 0), (7, .int x3), (0, .ref (b + 23)), (1, .int k), (2, .int u), (3, .int y3)]) hx hb dX8_kindOfWord_95 hl (k := 7) rfl (by rw [ex16]; rfl) (by decide) rfl (fun ls hl => ?_)
            have tx16 : x16.toInt = y6.toInt + 1 := m_addI ex16 (rfl : y6.toInt = _) (by decide : (1 : Int32).toInt = 1) (by omega) (by omega)
            refine lv_goto (tgt := 12) hx hb dX8_kindOfWord_98 (by decide) ?_
            have l_0 : (0 : Int32).toInt = 0 := by decide
            have hne : ¬ m_EQ fT k.toNatClampNeg u.toNatClampNeg (m_kx gq) := by
              intro hE
              have hb := hE.1
              have hkl : (m_kx gq).length = m_lx gq := rfl
              have ck_k := m_ckI (x := k) (by omega)
              have ck_u := m_ckI (x := u) (by omega)
              have ck_y := m_ckI (x := y4) (by omega)
              rcases hsm with ⟨s1, s2⟩ | ⟨s1, s2⟩
              rotate_left
              · exact s2 hE
              have hl := hE.2 (y4.toNatClampNeg - k.toNatClampNeg) (by omega)
              have := (ax3 (by omega)).2
              omega
            exact ih y3 x15 0 x16 gq (by omega) (by omega) μ hI hm (ht) (hfT) (hnq) (Or.inr ⟨rfl, hne⟩) _ _ hW ls (lv_sub hl [4, 5, 6, 7, 1, 2, 0] rfl)
          · have i14 := m_c4 (rfl : u.toInt = _) (rfl : y4.toInt = _) c14
            refine lv_aload_n hx hb dX8_kindOfWord_49 rfl (lv_at hl 1 rfl) ?_
            refine lv_iload hx hb dX8_kindOfWord_50 (lv_at hl 5 rfl) ?_
            refine m_aI hW (m_runV (As := [.int y4]) (rest := []) hx hb hml hown hts hW (23) (g_X5_at_t l D cy b t (by omega) (μ.1 24) y4 μ hI (by exact ht) rfl) mi_X5_at k_X8_78 rfl rfl rfl hl.1 rfl (Nat.le_of_ble_eq_true rfl) dX8_kindOfWord_52 ⟨Nat.le_of_ble_eq_true rfl, Nat.le_of_ble_eq_true rfl⟩ ⟨Nat.le_of_ble_eq_true rfl, Nat.le_of_ble_eq_true rfl⟩) (fun x17 μ17 H locs q17 hW => ?_)
            obtain ⟨q17_m, q17⟩ := q17
            subst q17_m
            refine lv_iload hx hb dX8_kindOfWord_55 (lv_at hl 0 rfl) ?_
            refine lv_icmp_ne (tgt := 64) hx hb dX8_kindOfWord_57 (by decide) (fun c18 => ?_) (fun c18 => ?_)
            · have i18 := m_c6 (rfl : x17.toInt = _) (rfl : x3.toInt = _) c18
              refine lv_iconst (v := 0) hx hb dX8_kindOfWord_64 (by decide) ?_
              refine lv_istore (lv' := [(5, .int 0), (7, .int x3), (0, .ref (b + 23)), (1, .int k), (2, .int u), (3, .int y3), (4, .int y4), (6, .int y6)]) hx hb dX8_kindOfWord_65 hl (by decide) rfl (fun ls hl => ?_)
              obtain ⟨x19, ex19⟩ : ∃ z : Int32, z = y4 + 1 := ⟨_, rfl⟩
              refine lv_iinc (v := x19) (lv' := [(4, .int x19), (5, .int 0), (7, .int x3), (0, .ref (b + 23)), (1, .int k), (2, .int u), (3, .int y3), (6, .int y6)]) hx hb dX8_kindOfWord_67 hl (k := 6) rfl (by rw [ex19]; rfl) (by decide) rfl (fun ls hl => ?_)
              have tx19 : x19.toInt = y4.toInt + 1 := m_addI ex19 (rfl : y4.toInt = _) (by decide : (1 : Int32).toInt = 1) (by omega) (by omega)
              refine lv_goto (tgt := 95) hx hb dX8_kindOfWord_70 (by decide) ?_
              obtain ⟨x20, ex20⟩ : ∃ z : Int32, z = y6 + 1 := ⟨_, rfl⟩
              refine lv_iinc (v := x20) (lv' := [(6, .int x20), (4, .int x19), (5, .int 0), (7, .int x3), (0, .ref (b + 23)), (1, .int k), (2, .int u), (3, .int y3)]) hx hb dX8_kindOfWord_95 hl (k := 7) rfl (by rw [ex20]; rfl) (by decide) rfl (fun ls hl => ?_)
              have tx20 : x20.toInt = y6.toInt + 1 := m_addI ex20 (rfl : y6.toInt = _) (by decide : (1 : Int32).toInt = 1) (by omega) (by omega)
              refine lv_goto (tgt := 12) hx hb dX8_kindOfWord_98 (by decide) ?_
              have l_0 : (0 : Int32).toInt = 0 := by decide
              have hne : ¬ m_EQ fT k.toNatClampNeg u.toNatClampNeg (m_kx gq) := by
                intro hE
                have hb := hE.1
                have hkl : (m_kx gq).length = m_lx gq := rfl
                have ck_k := m_ckI (x := k) (by omega)
                have ck_u := m_ckI (x := u) (by omega)
                have ck_y := m_ckI (x := y4) (by omega)
                rcases hsm with ⟨s1, s2⟩ | ⟨s1, s2⟩
                rotate_left
                · exact s2 hE
                have hl := hE.2 (y4.toNatClampNeg - k.toNatClampNeg) (by omega)
                have := (ax3 (by omega)).2
                rcases q17 with ⟨q1, q2⟩ | ⟨q1, q2⟩
                · rw [show k.toNatClampNeg + (y4.toNatClampNeg - k.toNatClampNeg) = y4.toNatClampNeg from by omega, ← hfT, ← q2] at hl
                  omega
                · omega
              exact ih y3 x19 0 x20 gq (by omega) (by omega) μ hI hm (ht) (hfT) (hnq) (Or.inr ⟨rfl, hne⟩) _ _ hW ls (lv_sub hl [4, 5, 6, 7, 1, 2, 0] rfl)
            · have i18 := m_c5 (rfl : x17.toInt = _) (rfl : x3.toInt = _) c18
              refine lv_iconst (v := 1) hx hb dX8_kindOfWord_60 (by decide) ?_
              refine lv_goto (tgt := 65) hx hb dX8_kindOfWord_61 (by decide) ?_
              refine lv_istore (lv' := [(5, .int 1), (7, .int x3), (0, .ref (b + 23)), (1, .int k), (2, .int u), (3, .int y3), (4, .int y4), (6, .int y6)]) hx hb dX8_kindOfWord_65 hl (by decide) rfl (fun ls hl => ?_)
              obtain ⟨x21, ex21⟩ : ∃ z : Int32, z = y4 + 1 := ⟨_, rfl⟩
              refine lv_iinc (v := x21) (lv' := [(4, .int x21), (5, .int 1), (7, .int x3), (0, .ref (b + 23)), (1, .int k), (2, .int u), (3, .int y3), (6, .int y6)]) hx hb dX8_kindOfWord_67 hl (k := 6) rfl (by rw [ex21]; rfl) (by decide) rfl (fun ls hl => ?_)
              have tx21 : x21.toInt = y4.toInt + 1 := m_addI ex21 (rfl : y4.toInt = _) (by decide : (1 : Int32).toInt = 1) (by omega) (by omega)
              refine lv_goto (tgt := 95) hx hb dX8_kindOfWord_70 (by decide) ?_
              obtain ⟨x22, ex22⟩ : ∃ z : Int32, z = y6 + 1 := ⟨_, rfl⟩
              refine lv_iinc (v := x22) (lv' := [(6, .int x22), (4, .int x21), (5, .int 1), (7, .int x3), (0, .ref (b + 23)), (1, .int k), (2, .int u), (3, .int y3)]) hx hb dX8_kindOfWord_95 hl (k := 7) rfl (by rw [ex22]; rfl) (by decide) rfl (fun ls hl => ?_)
              have tx22 : x22.toInt = y6.toInt + 1 := m_addI ex22 (rfl : y6.toInt = _) (by decide : (1 : Int32).toInt = 1) (by omega) (by omega)
              refine lv_goto (tgt := 12) hx hb dX8_kindOfWord_98 (by decide) ?_
              have l_1 : (1 : Int32).toInt = 1 := by decide
              have hx_ : (fT (k.toNatClampNeg + (y4.toNatClampNeg - k.toNatClampNeg))).toInt = (m_kx gq).getD (y4.toNatClampNeg - k.toNatClampNeg) 0 := by
                have ck_k := m_ckI (x := k) (by omega)
                have ck_y := m_ckI (x := y4) (by omega)
                rcases q17 with ⟨q1, q2⟩ | ⟨q1, q2⟩
                · rw [show k.toNatClampNeg + (y4.toNatClampNeg - k.toNatClampNeg) = y4.toNatClampNeg from by omega, ← hfT, ← q2]
                  have := (ax3 (by omega)).2
                  omega
                · exact absurd q1 (by omega)
              have hs1 := hsm.resolve_right (fun z => by omega)
              exact ih y3 x21 1 x22 gq (by omega) (by omega) μ hI hm (ht) (hfT) (hnq) (Or.inl ⟨rfl, fun j hj => (Classical.em (j = y4.toNatClampNeg - k.toNatClampNeg)).elim (fun q => by rw [q]; exact ⟨by have := m_ckI (x := y4) (by omega); have := m_ckI (x := k) (by omega); omega, hx_⟩) (fun q => hs1.2 j (by have := m_ckI (x := y4) (by omega); have := m_ckI (x := k) (by omega); omega))⟩) _ _ hW ls (lv_sub hl [4, 5, 6, 7, 1, 2, 0] rfl)
set_option maxHeartbeats 4000000 in
set_option maxRecDepth 100000 in
theorem g_X8_kindOfWord_f (l : Launch) (D : va_G) (cy : Nat → ClassId) (b oq oa ov : Nat) (t : Int32) (h_t : 0 ≤ t.toInt ∧ t.toInt ≤ 400) (fT : Nat → Int32) (k u : Int32) (h_k : 0 ≤ k.toInt ∧ k.toInt ≤ 400) (h_u : 0 ≤ u.toInt ∧ u.toInt ≤ 400) (h_ku : k.toInt < u.toInt ∧ u.toInt ≤ t.toInt) (μ : mM) (hI : IX μ) (ht : μ.1 23 1 = t) (hfT : μ.1 24 = fT) : m_CiO l yX8_kindOfWord cX8_kindOfWord 8 ((some .int)) 5 D cy b oq oa ov μ [.ref (b + 23), .int k, .int u] (fun r ν => μ = ν ∧ (r.toInt = m_wk fT k.toNatClampNeg u.toNatClampNeg)) := by
  unfold m_CiO
  refine m_ofO (by decide) (Nat.le_of_ble_eq_true rfl) ?_
  intro p e s m below meth c hx hb hr hml hown hts hlocks _ hW hO ls hl
  have hown : s.vm.findClass RX8 = some m.cls := hown
  have hl : lv_has ls 8 [(0, .ref (b + 23)), (1, .int k), (2, .int u)] := hl
  have p0 : m_px 0 = 0 := rfl
  refine lv_bipush (v := 9) hx hb dX8_kindOfWord_0 (by decide) ?_
  refine lv_istore_n (lv' := [(3, .int 9), (0, .ref (b + 23)), (1, .int k), (2, .int u)]) hx hb dX8_kindOfWord_2 rfl hl (by decide) rfl (fun ls hl => ?_)
  refine lv_iload_n hx hb dX8_kindOfWord_3 rfl (lv_at hl 2 rfl) ?_
  refine lv_istore (lv' := [(4, .int k), (3, .int 9), (0, .ref (b + 23)), (1, .int k), (2, .int u)]) hx hb dX8_kindOfWord_4 hl (by decide) rfl (fun ls hl => ?_)
  refine lv_iconst (v := 1) hx hb dX8_kindOfWord_6 (by decide) ?_
  refine lv_istore (lv' := [(5, .int 1), (4, .int k), (3, .int 9), (0, .ref (b + 23)), (1, .int k), (2, .int u)]) hx hb dX8_kindOfWord_7 hl (by decide) rfl (fun ls hl => ?_)
  refine lv_iconst (v := 0) hx hb dX8_kindOfWord_9 (by decide) ?_
  refine lv_istore (lv' := [(6, .int 0), (5, .int 1), (4, .int k), (3, .int 9), (0, .ref (b + 23)), (1, .int k), (2, .int u)]) hx hb dX8_kindOfWord_10 hl (by decide) rfl (fun ls hl => ?_)
  have l_9 : (9 : Int32).toInt = 9 := by decide
  have l_1 : (1 : Int32).toInt = 1 := by decide
  have l_0 : (0 : Int32).toInt = 0 := by decide
  exact L_X8_kindOfWord_f_12 hx hb hr hml hown hts hlocks hO μ t h_t fT k u h_k h_u h_ku  83 9 k 1 0 0 (by omega) (by omega) μ hI rfl (ht) (hfT) (fun j hj => absurd hj (Nat.not_lt_zero j)) (Or.inl ⟨rfl, fun j hj => absurd hj (by omega)⟩) _ _ hW ls (lv_sub hl [4, 5, 6, 3, 2, 1, 0] rfl)
