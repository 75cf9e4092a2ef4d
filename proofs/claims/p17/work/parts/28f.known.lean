-- KNOWN
def m_kq (fs fd : Nat → Int32) (s d : Int32) (n : Nat) : Prop := (fs n).toInt = s.toInt ∧ (fd n).toInt ≤ d.toInt
def m_lw (fs fh fd fc : Nat → Int32) (s d : Int32) : Nat → Int
  | 0 => 1
  | n + 1 => if (fs n).toInt = s.toInt ∧ (fd n).toInt ≤ d.toInt ∧ (fc n).toInt = 0 then max (m_lw fs fh fd fc s d n) ((fh n).toInt + 1) else m_lw fs fh fd fc s d n
def m_mt (fs fh fd fc : Nat → Int32) (s d : Int32) : Nat → Int
  | 0 => 999
  | n + 1 => if (fs n).toInt = s.toInt ∧ (fd n).toInt ≤ d.toInt ∧ (fc n).toInt ≠ 0 then min (m_mt fs fh fd fc s d n) ((fh n).toInt) else m_mt fs fh fd fc s d n
theorem m_lw1 {fs fh fd fc : Nat → Int32} {s d : Int32} {n : Nat} (h : (fs n).toInt = s.toInt ∧ (fd n).toInt ≤ d.toInt ∧ (fc n).toInt = 0) : m_lw fs fh fd fc s d (n + 1) = max (m_lw fs fh fd fc s d n) ((fh n).toInt + 1) := by
  show (if _ then _ else _) = _
  rw [if_pos h]
theorem m_lw0 {fs fh fd fc : Nat → Int32} {s d : Int32} {n : Nat} (h : ¬ ((fs n).toInt = s.toInt ∧ (fd n).toInt ≤ d.toInt ∧ (fc n).toInt = 0)) : m_lw fs fh fd fc s d (n + 1) = m_lw fs fh fd fc s d n := by
  show (if _ then _ else _) = _
  rw [if_neg h]
theorem m_mt1 {fs fh fd fc : Nat → Int32} {s d : Int32} {n : Nat} (h : (fs n).toInt = s.toInt ∧ (fd n).toInt ≤ d.toInt ∧ (fc n).toInt ≠ 0) : m_mt fs fh fd fc s d (n + 1) = min (m_mt fs fh fd fc s d n) ((fh n).toInt) := by
  show (if _ then _ else _) = _
  rw [if_pos h]
theorem m_mt0 {fs fh fd fc : Nat → Int32} {s d : Int32} {n : Nat} (h : ¬ ((fs n).toInt = s.toInt ∧ (fd n).toInt ≤ d.toInt ∧ (fc n).toInt ≠ 0)) : m_mt fs fh fd fc s d (n + 1) = m_mt fs fh fd fc s d n := by
  show (if _ then _ else _) = _
  rw [if_neg h]
theorem m_lw_al {fs fh fd fc gs gh gd gc : Nat → Int32} {s d : Int32} : ∀ n, m_al n fs gs → m_al n fh gh → m_al n fd gd → m_al n fc gc → m_lw fs fh fd fc s d n = m_lw gs gh gd gc s d n
  | 0, _, _, _, _ => rfl
  | n + 1, h1, h2, h3, h4 => by
    unfold m_lw
    rw [h1 n (by omega), h2 n (by omega), h3 n (by omega), h4 n (by omega), m_lw_al n (h1.le (by omega)) (h2.le (by omega)) (h3.le (by omega)) (h4.le (by omega))]
theorem m_mt_al {fs fh fd fc gs gh gd gc : Nat → Int32} {s d : Int32} : ∀ n, m_al n fs gs → m_al n fh gh → m_al n fd gd → m_al n fc gc → m_mt fs fh fd fc s d n = m_mt gs gh gd gc s d n
  | 0, _, _, _, _ => rfl
  | n + 1, h1, h2, h3, h4 => by
    unfold m_mt
    rw [h1 n (by omega), h2 n (by omega), h3 n (by omega), h4 n (by omega), m_mt_al n (h1.le (by omega)) (h2.le (by omega)) (h3.le (by omega)) (h4.le (by omega))]
def m_hb (n : Nat) (f : Nat → Int32) : Prop := ∀ i, i < n → 1 ≤ (f i).toInt ∧ (f i).toInt ≤ 9999
/-- the answer -/
def m_kn (l g w : Int) : Int := if w = 0 then l else if w = 1 then g else if w = 2 then (if g < l then 1 else 0) else if w = 3 then (if l < g then (l + g) / 2 else -1) else -1
set_option maxHeartbeats 4000000 in
set_option maxRecDepth 100000 in
theorem L_X7_leastMelt_f_5 {p : Program} {l : Launch} {e : Env} {s : State} {m : MethodId} {args : Array Value} {below : List Frame} {meth : Method} {c : Code} {D : va_G} {cy : Nat → ClassId} {b : Nat} (hx : p.tables.exec = Jvm.exec) (hb : c.code = cX7_leastMelt) (hr : meth.sig.returnType = ((some .int))) (hml : c.maxLocals = 5) (hown : s.vm.findClass RX7 = some m.cls) (hts : ∀ w ∈ TB, w.before args s = true) (hlocks : meth.locks = false) (μ1 : mM) (t : Int32) (h_t : 0 ≤ t.toInt ∧ t.toInt ≤ 200) (fs fh fd fc : Nat → Int32) (k u : Int32) : ∀ (f : Nat), ∀ (y3 y4 : Int32) (hy : 1 ≤ y3.toInt ∧ y3.toInt ≤ 10000 ∧ 0 ≤ y4.toInt ∧ y4.toInt ≤ 200 ∧ y4.toInt ≤ t.toInt) (hf : 200 - y4.toInt < (f : Int)) (μ : mM) (hI : IX μ) (hm : μ = μ1) (ht : μ.1 76 4 = t) (hfs : μ.1 77 = fs) (hfh : μ.1 78 = fh) (hfd : μ.1 79 = fd) (hfc : μ.1 80 = fc) (hhb : m_hb t.toNatClampNeg fh) (hsp : y3.toInt = m_lw fs fh fd fc k u y4.toNatClampNeg) (H : Heap) (locs : List Loc), m_WA (m_A b LAY) D cy s b LAY μ H locs → ∀ ls : Array Slot, lv_has ls 5 [(0, .ref (b + 76)), (1, .int k), (2, .int u), (3, .int y3), (4, .int y4)] → W p l e (m_R 1 0 0) s m args below meth c H locs 0 0 (MQ below (m_Qi D cy b LAY (fun r ν => μ1 = ν ∧ (r.toInt = m_lw fs fh fd fc k u t.toNatClampNeg ∧ 1 ≤ r.toInt ∧ r.toInt ≤ 10000))) args s 0 0 (m_A b LAY)) (F0 m 5 ls []) := by
  intro f
  induction f with
  | zero => intro y3 y4 hy hf; exfalso; omega
  | succ f ih =>
    intro y3 y4 hy hf μ hI hm ht hfs hfh hfd hfc hhb hsp H locs hW ls hl
    refine lv_iload hx hb dX7_leastMelt_5 (lv_at hl 4 rfl) ?_
    refine lv_aload_n hx hb dX7_leastMelt_7 rfl (lv_at hl 0 rfl) ?_
    refine m_geti hx hb hts hown hW (76) 4 rfl rfl cw_7 rfl (by decide) k_X7_25 dX7_leastMelt_8 ?_
    refine lv_topi (fun x1 ex1 => ?_)
    have ex1 : x1 = t := by rw [ex1]; exact ht
    have ex1 := ex1.symm
    subst ex1
    refine lv_icmp_ge (tgt := 66) hx hb dX7_leastMelt_11 (by decide) (fun c2 => ?_) (fun c2 => ?_)
    · have i2 := m_c3 (rfl : t.toInt = _) (rfl : y4.toInt = _) c2
      refine lv_iload_n hx hb dX7_leastMelt_66 rfl (lv_at hl 3 rfl) ?_
      exact m_iret hx hb hr hlocks hW rfl (⟨hm.symm, ⟨(by rw [show t.toNatClampNeg = y4.toNatClampNeg from by have := m_ckI (x := y4) (by omega); have := m_ckI (x := t) (by omega); omega]; exact hsp), by omega⟩⟩) dX7_leastMelt_67
    · have i2 := m_c4 (rfl : t.toInt = _) (rfl : y4.toInt = _) c2
      refine lv_aload_n hx hb dX7_leastMelt_14 rfl (lv_at hl 0 rfl) ?_
      refine m_getr hx hb hts hown hW (76) 0 (77) rfl rfl cw_7 rfl (by decide) k_X7_11 dX7_leastMelt_15 ?_
      refine lv_iload hx hb dX7_leastMelt_18 (lv_at hl 4 rfl) ?_
      refine m_iald hx hb hW (77) rfl (m_ixI (rfl : y4.toInt = _) (by omega) (by omega)) dX7_leastMelt_20 ?_
      refine lv_topi (fun x3 ex3 => ?_)
      have fx3 : (fs y4.toNatClampNeg).toInt = x3.toInt := by rw [ex3, hfs]
      refine lv_iload_n hx hb dX7_leastMelt_21 rfl (lv_at hl 1 rfl) ?_
      refine lv_icmp_ne (tgt := 60) hx hb dX7_leastMelt_22 (by decide) (fun c4 => ?_) (fun c4 => ?_)
      · have i4 := m_c6 (rfl : x3.toInt = _) (rfl : k.toInt = _) c4
        obtain ⟨x5, ex5⟩ : ∃ z : Int32, z = y4 + 1 := ⟨_, rfl⟩
        refine lv_iinc (v := x5) (lv' := [(4, .int x5), (0, .ref (b + 76)), (1, .int k), (2, .int u), (3, .int y3)]) hx hb dX7_leastMelt_60 hl (k := 4) rfl (by rw [ex5]; rfl) (by decide) rfl (fun ls hl => ?_)
        have tx5 : x5.toInt = y4.toInt + 1 := m_addI ex5 (rfl : y4.toInt = _) (by decide : (1 : Int32).toInt = 1) (by omega) (by omega)
        refine lv_goto (tgt := 5) hx hb dX7_leastMelt_63 (by decide) ?_
        exact ih y3 x5 (by omega) (by omega) μ hI hm (by exact ht) (hfs) (hfh) (hfd) (hfc) (hhb) ((by rw [m_cl1 (x := x5) (y := y4) (by omega) (by omega)]; first | (rw [m_lw1 (by omega)]; omega) | (rw [m_lw0 (by omega)]; omega))) _ _ hW ls (lv_sub hl [1, 2, 3, 4, 0] rfl)
      · have i4 := m_c5 (rfl : x3.toInt = _) (rfl : k.toInt = _) c4
        refine lv_aload_n hx hb dX7_leastMelt_25 rfl (lv_at hl 0 rfl) ?_
        refine m_getr hx hb hts hown hW (76) 2 (79) rfl rfl cw_7 rfl (by decide) k_X7_18 dX7_leastMelt_26 ?_
        refine lv_iload hx hb dX7_leastMelt_29 (lv_at hl 4 rfl) ?_
        refine m_iald hx hb hW (79) rfl (m_ixI (rfl : y4.toInt = _) (by omega) (by omega)) dX7_leastMelt_31 ?_
        refine lv_topi (fun x6 ex6 => ?_)
        have fx6 : (fd y4.toNatClampNeg).toInt = x6.toInt := by rw [ex6, hfd]
        refine lv_iload_n hx hb dX7_leastMelt_32 rfl (lv_at hl 2 rfl) ?_
        refine lv_icmp_gt (tgt := 60) hx hb dX7_leastMelt_33 (by decide) (fun c7 => ?_) (fun c7 => ?_)
        · have i7 := m_c1 (rfl : u.toInt = _) (rfl : x6.toInt = _) c7
          obtain ⟨x8, ex8⟩ : ∃ z : Int32, z = y4 + 1 := ⟨_, rfl⟩
          refine lv_iinc (v := x8) (lv' := [(4, .int x8), (0, .ref (b + 76)), (1, .int k), (2, .int u), (3, .int y3)]) hx hb dX7_leastMelt_60 hl (k := 4) rfl (by rw [ex8]; rfl) (by decide) rfl (fun ls hl => ?_)
          have tx8 : x8.toInt = y4.toInt + 1 := m_addI ex8 (rfl : y4.toInt = _) (by decide : (1 : Int32).toInt = 1) (by omega) (by omega)
          refine lv_goto (tgt := 5) hx hb dX7_leastMelt_63 (by decide) ?_
          exact ih y3 x8 (by omega) (by omega) μ hI hm (by exact ht) (hfs) (hfh) (hfd) (hfc) (hhb) ((by rw [m_cl1 (x := x8) (y := y4) (by omega) (by omega)]; first | (rw [m_lw1 (by omega)]; omega) | (rw [m_lw0 (by omega)]; omega))) _ _ hW ls (lv_sub hl [1, 2, 3, 4, 0] rfl)
        · have i7 := m_c2 (rfl : u.toInt = _) (rfl : x6.toInt = _) c7
          refine lv_aload_n hx hb dX7_leastMelt_36 rfl (lv_at hl 0 rfl) ?_
          refine m_getr hx hb hts hown hW (76) 3 (80) rfl rfl cw_7 rfl (by decide) k_X7_21 dX7_leastMelt_37 ?_
          refine lv_iload hx hb dX7_leastMelt_40 (lv_at hl 4 rfl) ?_
          refine m_zald hx hb hW (80) rfl (m_ixI (rfl : y4.toInt = _) (by omega) (by omega)) dX7_leastMelt_42 ?_
          refine lv_topi (fun x9 ex9 => ?_)
          have bx9 : 0 ≤ x9.toInt ∧ x9.toInt ≤ 1 := by rw [ex9]; exact hI _ _ _ _ rfl
          have fx9 : (fc y4.toNatClampNeg).toInt = x9.toInt := by rw [ex9, hfc]
          refine lv_if_ne (tgt := 60) hx hb dX7_leastMelt_43 (by decide) (fun c10 => ?_) (fun c10 => ?_)
          · have i10 := m_c6 (rfl : x9.toInt = _) (by decide : (0 : Int32).toInt = 0) c10
            obtain ⟨x11, ex11⟩ : ∃ z : Int32, z = y4 + 1 := ⟨_, rfl⟩
            refine lv_iinc (v := x11) (lv' := [(4, .int x11), (0, .ref (b + 76)), (1, .int k), (2, .int u), (3, .int y3)]) hx hb dX7_leastMelt_60 hl (k := 4) rfl (by rw [ex11]; rfl) (by decide) rfl (fun ls hl => ?_)
            have tx11 : x11.toInt = y4.toInt + 1 := m_addI ex11 (rfl : y4.toInt = _) (by decide : (1 : Int32).toInt = 1) (by omega) (by omega)
            refine lv_goto (tgt := 5) hx hb dX7_leastMelt_63 (by decide) ?_
            exact ih y3 x11 (by omega) (by omega) μ hI hm (by exact ht) (hfs) (hfh) (hfd) (hfc) (hhb) ((by rw [m_cl1 (x := x11) (y := y4) (by omega) (by omega)]; first | (rw [m_lw1 (by omega)]; omega) | (rw [m_lw0 (by omega)]; omega))) _ _ hW ls (lv_sub hl [1, 2, 3, 4, 0] rfl)
          · have i10 := m_c5 (rfl : x9.toInt = _) (by decide : (0 : Int32).toInt = 0) c10
            refine lv_iload_n hx hb dX7_leastMelt_46 rfl (lv_at hl 3 rfl) ?_
            refine lv_aload_n hx hb dX7_leastMelt_47 rfl (lv_at hl 0 rfl) ?_
            refine m_getr hx hb hts hown hW (76) 1 (78) rfl rfl cw_7 rfl (by decide) k_X7_15 dX7_leastMelt_48 ?_
            refine lv_iload hx hb dX7_leastMelt_51 (lv_at hl 4 rfl) ?_
            refine m_iald hx hb hW (78) rfl (m_ixI (rfl : y4.toInt = _) (by omega) (by omega)) dX7_leastMelt_53 ?_
            refine lv_topi (fun x12 ex12 => ?_)
            have fx12 : (fh y4.toNatClampNeg).toInt = x12.toInt := by rw [ex12, hfh]
            have gx12 := hhb y4.toNatClampNeg (by have := m_ckI (x := y4) (by omega); have := m_ckI (x := t) (by omega); omega)
            rw [fx12] at gx12
            refine lv_iconst (v := 1) hx hb dX7_leastMelt_54 (by decide) ?_
            refine lv_iadd hx hb dX7_leastMelt_55 ?_
            refine lv_topi (fun x13 ex13 => ?_)
            have tx13 : x13.toInt = x12.toInt + 1 := m_addI ex13 (rfl : x12.toInt = _) (by decide : (1 : Int32).toInt = 1) (by omega) (by omega)
            refine va_mmax hx hb (hml.trans hl.1.symm) hown (hts _ k_X7_36) (hts _ kM_max_s) (hts _ kM_n) (hts _ kM_max_c) (Nat.le_of_ble_eq_true rfl) (Nat.le_of_ble_eq_true rfl) (Nat.le_of_ble_eq_true rfl) (Nat.le_of_ble_eq_true rfl) dX7_leastMelt_56 ?_
            refine lv_topi (fun x14 ex14 => ?_)
            have tx14 : x14.toInt = max (y3.toInt) (x13.toInt) := m_max ex14 (rfl : y3.toInt = _) (rfl : x13.toInt = _)
            refine lv_istore_n (lv' := [(3, .int x14), (0, .ref (b + 76)), (1, .int k), (2, .int u), (4, .int y4)]) hx hb dX7_leastMelt_59 rfl hl (by decide) rfl (fun ls hl => ?_)
            obtain ⟨x15, ex15⟩ : ∃ z : Int32, z = y4 + 1 := ⟨_, rfl⟩
            refine lv_iinc (v := x15) (lv' := [(4, .int x15), (3, .int x14), (0, .ref (b + 76)), (1, .int k), (2, .int u)]) hx hb dX7_leastMelt_60 hl (k := 4) rfl (by rw [ex15]; rfl) (by decide) rfl (fun ls hl => ?_)
            have tx15 : x15.toInt = y4.toInt + 1 := m_addI ex15 (rfl : y4.toInt = _) (by decide : (1 : Int32).toInt = 1) (by omega) (by omega)
            refine lv_goto (tgt := 5) hx hb dX7_leastMelt_63 (by decide) ?_
            exact ih x14 x15 (by omega) (by omega) μ hI hm (by exact ht) (hfs) (hfh) (hfd) (hfc) (hhb) ((by rw [m_cl1 (x := x15) (y := y4) (by omega) (by omega)]; first | (rw [m_lw1 (by omega)]; omega) | (rw [m_lw0 (by omega)]; omega))) _ _ hW ls (lv_sub hl [2, 3, 4, 1, 0] rfl)
set_option maxHeartbeats 4000000 in
set_option maxRecDepth 100000 in
theorem g_X7_leastMelt_f (l : Launch) (D : va_G) (cy : Nat → ClassId) (b : Nat) (t : Int32) (h_t : 0 ≤ t.toInt ∧ t.toInt ≤ 200) (fs fh fd fc : Nat → Int32) (k u : Int32) (μ : mM) (hI : IX μ) (ht : μ.1 76 4 = t) (hfs : μ.1 77 = fs) (hfh : μ.1 78 = fh) (hfd : μ.1 79 = fd) (hfc : μ.1 80 = fc) (hhb : m_hb t.toNatClampNeg fh) : m_Ci l yX7_leastMelt cX7_leastMelt 5 ((some .int)) 1 D cy b LAY μ [.ref (b + 76), .int k, .int u] (fun r ν => μ = ν ∧ (r.toInt = m_lw fs fh fd fc k u t.toNatClampNeg ∧ 1 ≤ r.toInt ∧ r.toInt ≤ 10000)) := by
  unfold m_Ci
  refine m_of (by decide) (Nat.le_of_ble_eq_true rfl) ?_
  intro p e s m below meth c hx hb hr hml hown hts hlocks _ hW ls hl
  have hown : s.vm.findClass RX7 = some m.cls := hown
  have hl : lv_has ls 5 [(0, .ref (b + 76)), (1, .int k), (2, .int u)] := hl
  refine lv_iconst (v := 1) hx hb dX7_leastMelt_0 (by decide) ?_
  refine lv_istore_n (lv' := [(3, .int 1), (0, .ref (b + 76)), (1, .int k), (2, .int u)]) hx hb dX7_leastMelt_1 rfl hl (by decide) rfl (fun ls hl => ?_)
  refine lv_iconst (v := 0) hx hb dX7_leastMelt_2 (by decide) ?_
  refine lv_istore (lv' := [(4, .int 0), (3, .int 1), (0, .ref (b + 76)), (1, .int k), (2, .int u)]) hx hb dX7_leastMelt_3 hl (by decide) rfl (fun ls hl => ?_)
  have l_1 : (1 : Int32).toInt = 1 := by decide
  have l_0 : (0 : Int32).toInt = 0 := by decide
  exact L_X7_leastMelt_f_5 hx hb hr hml hown hts hlocks μ t h_t fs fh fd fc k u  201 1 0 (by omega) (by omega) μ hI rfl (by exact ht) (hfs) (hfh) (hfd) (hfc) (hhb) (rfl) _ _ hW ls (lv_sub hl [2, 3, 4, 1, 0] rfl)
set_option maxHeartbeats 4000000 in
set_option maxRecDepth 100000 in
theorem L_X7_greatestMelt_f_7 {p : Program} {l : Launch} {e : Env} {s : State} {m : MethodId} {args : Array Value} {below : List Frame} {meth : Method} {c : Code} {D : va_G} {cy : Nat → ClassId} {b : Nat} (hx : p.tables.exec = Jvm.exec) (hb : c.code = cX7_greatestMelt) (hr : meth.sig.returnType = ((some .int))) (hml : c.maxLocals = 5) (hown : s.vm.findClass RX7 = some m.cls) (hts : ∀ w ∈ TB, w.before args s = true) (hlocks : meth.locks = false) (μ1 : mM) (t : Int32) (h_t : 0 ≤ t.toInt ∧ t.toInt ≤ 200) (fs fh fd fc : Nat → Int32) (k u : Int32) : ∀ (f : Nat), ∀ (y3 y4 : Int32) (hy : 1 ≤ y3.toInt ∧ y3.toInt ≤ 10000 ∧ 0 ≤ y4.toInt ∧ y4.toInt ≤ 200 ∧ y4.toInt ≤ t.toInt) (hf : 200 - y4.toInt < (f : Int)) (μ : mM) (hI : IX μ) (hm : μ = μ1) (ht : μ.1 76 4 = t) (hfs : μ.1 77 = fs) (hfh : μ.1 78 = fh) (hfd : μ.1 79 = fd) (hfc : μ.1 80 = fc) (hhb : m_hb t.toNatClampNeg fh) (hsp : y3.toInt = m_mt fs fh fd fc k u y4.toNatClampNeg) (H : Heap) (locs : List Loc), m_WA (m_A b LAY) D cy s b LAY μ H locs → ∀ ls : Array Slot, lv_has ls 5 [(0, .ref (b + 76)), (1, .int k), (2, .int u), (3, .int y3), (4, .int y4)] → W p l e (m_R 1 0 0) s m args below meth c H locs 0 0 (MQ below (m_Qi D cy b LAY (fun r ν => μ1 = ν ∧ (r.toInt = m_mt fs fh fd fc k u t.toNatClampNeg ∧ 1 ≤ r.toInt ∧ r.toInt ≤ 10000))) args s 0 0 (m_A b LAY)) (F0 m 7 ls []) := by
  intro f
  induction f with
  | zero => intro y3 y4 hy hf; exfalso; omega
  | succ f ih =>
    intro y3 y4 hy hf μ hI hm ht hfs hfh hfd hfc hhb hsp H locs hW ls hl
    refine lv_iload hx hb dX7_greatestMelt_7 (lv_at hl 4 rfl) ?_
    refine lv_aload_n hx hb dX7_greatestMelt_9 rfl (lv_at hl 0 rfl) ?_
    refine m_geti hx hb hts hown hW (76) 4 rfl rfl cw_7 rfl (by decide) k_X7_25 dX7_greatestMelt_10 ?_
    refine lv_topi (fun x1 ex1 => ?_)
    have ex1 : x1 = t := by rw [ex1]; exact ht
    have ex1 := ex1.symm
    subst ex1
    refine lv_icmp_ge (tgt := 66) hx hb dX7_greatestMelt_13 (by decide) (fun c2 => ?_) (fun c2 => ?_)
    · have i2 := m_c3 (rfl : t.toInt = _) (rfl : y4.toInt = _) c2
      refine lv_iload_n hx hb dX7_greatestMelt_66 rfl (lv_at hl 3 rfl) ?_
      exact m_iret hx hb hr hlocks hW rfl (⟨hm.symm, ⟨(by rw [show t.toNatClampNeg = y4.toNatClampNeg from by have := m_ckI (x := y4) (by omega); have := m_ckI (x := t) (by omega); omega]; exact hsp), by omega⟩⟩) dX7_greatestMelt_67
    · have i2 := m_c4 (rfl : t.toInt = _) (rfl : y4.toInt = _) c2
      refine lv_aload_n hx hb dX7_greatestMelt_16 rfl (lv_at hl 0 rfl) ?_
      refine m_getr hx hb hts hown hW (76) 0 (77) rfl rfl cw_7 rfl (by decide) k_X7_11 dX7_greatestMelt_17 ?_
      refine lv_iload hx hb dX7_greatestMelt_20 (lv_at hl 4 rfl) ?_
      refine m_iald hx hb hW (77) rfl (m_ixI (rfl : y4.toInt = _) (by omega) (by omega)) dX7_greatestMelt_22 ?_
      refine lv_topi (fun x3 ex3 => ?_)
      have fx3 : (fs y4.toNatClampNeg).toInt = x3.toInt := by rw [ex3, hfs]
      refine lv_iload_n hx hb dX7_greatestMelt_23 rfl (lv_at hl 1 rfl) ?_
      refine lv_icmp_ne (tgt := 60) hx hb dX7_greatestMelt_24 (by decide) (fun c4 => ?_) (fun c4 => ?_)
      · have i4 := m_c6 (rfl : x3.toInt = _) (rfl : k.toInt = _) c4
        obtain ⟨x5, ex5⟩ : ∃ z : Int32, z = y4 + 1 := ⟨_, rfl⟩
        refine lv_iinc (v := x5) (lv' := [(4, .int x5), (0, .ref (b + 76)), (1, .int k), (2, .int u), (3, .int y3)]) hx hb dX7_greatestMelt_60 hl (k := 4) rfl (by rw [ex5]; rfl) (by decide) rfl (fun ls hl => ?_)
        have tx5 : x5.toInt = y4.toInt + 1 := m_addI ex5 (rfl : y4.toInt = _) (by decide : (1 : Int32).toInt = 1) (by omega) (by omega)
        refine lv_goto (tgt := 7) hx hb dX7_greatestMelt_63 (by decide) ?_
        exact ih y3 x5 (by omega) (by omega) μ hI hm (by exact ht) (hfs) (hfh) (hfd) (hfc) (hhb) ((by rw [m_cl1 (x := x5) (y := y4) (by omega) (by omega)]; first | (rw [m_mt1 (by omega)]; omega) | (rw [m_mt0 (by omega)]; omega))) _ _ hW ls (lv_sub hl [1, 2, 3, 4, 0] rfl)
      · have i4 := m_c5 (rfl : x3.toInt = _) (rfl : k.toInt = _) c4
        refine lv_aload_n hx hb dX7_greatestMelt_27 rfl (lv_at hl 0 rfl) ?_
        refine m_getr hx hb hts hown hW (76) 2 (79) rfl rfl cw_7 rfl (by decide) k_X7_18 dX7_greatestMelt_28 ?_
        refine lv_iload hx hb dX7_greatestMelt_31 (lv_at hl 4 rfl) ?_
        refine m_iald hx hb hW (79) rfl (m_ixI (rfl : y4.toInt = _) (by omega) (by omega)) dX7_greatestMelt_33 ?_
        refine lv_topi (fun x6 ex6 => ?_)
        have fx6 : (fd y4.toNatClampNeg).toInt = x6.toInt := by rw [ex6, hfd]
        refine lv_iload_n hx hb dX7_greatestMelt_34 rfl (lv_at hl 2 rfl) ?_
        refine lv_icmp_gt (tgt := 60) hx hb dX7_greatestMelt_35 (by decide) (fun c7 => ?_) (fun c7 => ?_)
        · have i7 := m_c1 (rfl : u.toInt = _) (rfl : x6.toInt = _) c7
          obtain ⟨x8, ex8⟩ : ∃ z : Int32, z = y4 + 1 := ⟨_, rfl⟩
          refine lv_iinc (v := x8) (lv' := [(4, .int x8), (0, .ref (b + 76)), (1, .int k), (2, .int u), (3, .int y3)]) hx hb dX7_greatestMelt_60 hl (k := 4) rfl (by rw [ex8]; rfl) (by decide) rfl (fun ls hl => ?_)
          have tx8 : x8.toInt = y4.toInt + 1 := m_addI ex8 (rfl : y4.toInt = _) (by decide : (1 : Int32).toInt = 1) (by omega) (by omega)
          refine lv_goto (tgt := 7) hx hb dX7_greatestMelt_63 (by decide) ?_
          exact ih y3 x8 (by omega) (by omega) μ hI hm (by exact ht) (hfs) (hfh) (hfd) (hfc) (hhb) ((by rw [m_cl1 (x := x8) (y := y4) (by omega) (by omega)]; first | (rw [m_mt1 (by omega)]; omega) | (rw [m_mt0 (by omega)]; omega))) _ _ hW ls (lv_sub hl [1, 2, 3, 4, 0] rfl)
        · have i7 := m_c2 (rfl : u.toInt = _) (rfl : x6.toInt = _) c7
          refine lv_aload_n hx hb dX7_greatestMelt_38 rfl (lv_at hl 0 rfl) ?_
          refine m_getr hx hb hts hown hW (76) 3 (80) rfl rfl cw_7 rfl (by decide) k_X7_21 dX7_greatestMelt_39 ?_
          refine lv_iload hx hb dX7_greatestMelt_42 (lv_at hl 4 rfl) ?_
          refine m_zald hx hb hW (80) rfl (m_ixI (rfl : y4.toInt = _) (by omega) (by omega)) dX7_greatestMelt_44 ?_
          refine lv_topi (fun x9 ex9 => ?_)
          have bx9 : 0 ≤ x9.toInt ∧ x9.toInt ≤ 1 := by rw [ex9]; exact hI _ _ _ _ rfl
          have fx9 : (fc y4.toNatClampNeg).toInt = x9.toInt := by rw [ex9, hfc]
          refine lv_if_eq (tgt := 60) hx hb dX7_greatestMelt_45 (by decide) (fun c10 => ?_) (fun c10 => ?_)
          · have i10 := m_c5 (rfl : x9.toInt = _) (by decide : (0 : Int32).toInt = 0) c10
            obtain ⟨x11, ex11⟩ : ∃ z : Int32, z = y4 + 1 := ⟨_, rfl⟩
            refine lv_iinc (v := x11) (lv' := [(4, .int x11), (0, .ref (b + 76)), (1, .int k), (2, .int u), (3, .int y3)]) hx hb dX7_greatestMelt_60 hl (k := 4) rfl (by rw [ex11]; rfl) (by decide) rfl (fun ls hl => ?_)
            have tx11 : x11.toInt = y4.toInt + 1 := m_addI ex11 (rfl : y4.toInt = _) (by decide : (1 : Int32).toInt = 1) (by omega) (by omega)
            refine lv_goto (tgt := 7) hx hb dX7_greatestMelt_63 (by decide) ?_
            exact ih y3 x11 (by omega) (by omega) μ hI hm (by exact ht) (hfs) (hfh) (hfd) (hfc) (hhb) ((by rw [m_cl1 (x := x11) (y := y4) (by omega) (by omega)]; first | (rw [m_mt1 (by omega)]; omega) | (rw [m_mt0 (by omega)]; omega))) _ _ hW ls (lv_sub hl [1, 2, 3, 4, 0] rfl)
          · have i10 := m_c6 (rfl : x9.toInt = _) (by decide : (0 : Int32).toInt = 0) c10
            refine lv_iload_n hx hb dX7_greatestMelt_48 rfl (lv_at hl 3 rfl) ?_
            refine lv_aload_n hx hb dX7_greatestMelt_49 rfl (lv_at hl 0 rfl) ?_
            refine m_getr hx hb hts hown hW (76) 1 (78) rfl rfl cw_7 rfl (by decide) k_X7_15 dX7_greatestMelt_50 ?_
            refine lv_iload hx hb dX7_greatestMelt_53 (lv_at hl 4 rfl) ?_
            refine m_iald hx hb hW (78) rfl (m_ixI (rfl : y4.toInt = _) (by omega) (by omega)) dX7_greatestMelt_55 ?_
            refine lv_topi (fun x12 ex12 => ?_)
            have fx12 : (fh y4.toNatClampNeg).toInt = x12.toInt := by rw [ex12, hfh]
            have gx12 := hhb y4.toNatClampNeg (by have := m_ckI (x := y4) (by omega); have := m_ckI (x := t) (by omega); omega)
            rw [fx12] at gx12
            refine va_mmin hx hb (hml.trans hl.1.symm) hown (hts _ k_X7_42) (hts _ kM_min_s) (hts _ kM_n) (hts _ kM_min_c) (Nat.le_of_ble_eq_true rfl) (Nat.le_of_ble_eq_true rfl) (Nat.le_of_ble_eq_true rfl) (Nat.le_of_ble_eq_true rfl) dX7_greatestMelt_56 ?_
            refine lv_topi (fun x13 ex13 => ?_)
            have tx13 : x13.toInt = min (y3.toInt) (x12.toInt) := m_min ex13 (rfl : y3.toInt = _) (rfl : x12.toInt = _)
            refine lv_istore_n (lv' := [(3, .int x13), (0, .ref (b + 76)), (1, .int k), (2, .int u), (4, .int y4)]) hx hb dX7_greatestMelt_59 rfl hl (by decide) rfl (fun ls hl => ?_)
            obtain ⟨x14, ex14⟩ : ∃ z : Int32, z = y4 + 1 := ⟨_, rfl⟩
            refine lv_iinc (v := x14) (lv' := [(4, .int x14), (3, .int x13), (0, .ref (b + 76)), (1, .int k), (2, .int u)]) hx hb dX7_greatestMelt_60 hl (k := 4) rfl (by rw [ex14]; rfl) (by decide) rfl (fun ls hl => ?_)
            have tx14 : x14.toInt = y4.toInt + 1 := m_addI ex14 (rfl : y4.toInt = _) (by decide : (1 : Int32).toInt = 1) (by omega) (by omega)
            refine lv_goto (tgt := 7) hx hb dX7_greatestMelt_63 (by decide) ?_
            exact ih x13 x14 (by omega) (by omega) μ hI hm (by exact ht) (hfs) (hfh) (hfd) (hfc) (hhb) ((by rw [m_cl1 (x := x14) (y := y4) (by omega) (by omega)]; first | (rw [m_mt1 (by omega)]; omega) | (rw [m_mt0 (by omega)]; omega))) _ _ hW ls (lv_sub hl [2, 3, 4, 1, 0] rfl)
set_option maxHeartbeats 4000000 in
set_option maxRecDepth 100000 in
theorem g_X7_greatestMelt_f (l : Launch) (D : va_G) (cy : Nat → ClassId) (b : Nat) (t : Int32) (h_t : 0 ≤ t.toInt ∧ t.toInt ≤ 200) (fs fh fd fc : Nat → Int32) (k u : Int32) (μ : mM) (hI : IX μ) (ht : μ.1 76 4 = t) (hfs : μ.1 77 = fs) (hfh : μ.1 78 = fh) (hfd : μ.1 79 = fd) (hfc : μ.1 80 = fc) (hhb : m_hb t.toNatClampNeg fh) : m_Ci l yX7_greatestMelt cX7_greatestMelt 5 ((some .int)) 1 D cy b LAY μ [.ref (b + 76), .int k, .int u] (fun r ν => μ = ν ∧ (r.toInt = m_mt fs fh fd fc k u t.toNatClampNeg ∧ 1 ≤ r.toInt ∧ r.toInt ≤ 10000)) := by
  unfold m_Ci
  refine m_of (by decide) (Nat.le_of_ble_eq_true rfl) ?_
  intro p e s m below meth c hx hb hr hml hown hts hlocks _ hW ls hl
  have hown : s.vm.findClass RX7 = some m.cls := hown
  have hl : lv_has ls 5 [(0, .ref (b + 76)), (1, .int k), (2, .int u)] := hl
  refine lv_sipush (v := 999) hx hb dX7_greatestMelt_0 (by decide) ?_
  refine lv_istore_n (lv' := [(3, .int 999), (0, .ref (b + 76)), (1, .int k), (2, .int u)]) hx hb dX7_greatestMelt_3 rfl hl (by decide) rfl (fun ls hl => ?_)
  refine lv_iconst (v := 0) hx hb dX7_greatestMelt_4 (by decide) ?_
  refine lv_istore (lv' := [(4, .int 0), (3, .int 999), (0, .ref (b + 76)), (1, .int k), (2, .int u)]) hx hb dX7_greatestMelt_5 hl (by decide) rfl (fun ls hl => ?_)
  have l_999 : (999 : Int32).toInt = 999 := by decide
  have l_0 : (0 : Int32).toInt = 0 := by decide
  exact L_X7_greatestMelt_f_7 hx hb hr hml hown hts hlocks μ t h_t fs fh fd fc k u  201 999 0 (by omega) (by omega) μ hI rfl (by exact ht) (hfs) (hfh) (hfd) (hfc) (hhb) (rfl) _ _ hW ls (lv_sub hl [2, 3, 4, 1, 0] rfl)
set_option maxHeartbeats 4000000 in
set_option maxRecDepth 100000 in
theorem g_X11_known_f (l : Launch) (D : va_G) (cy : Nat → ClassId) (b : Nat) (t : Int32) (h_t : 0 ≤ t.toInt ∧ t.toInt ≤ 200) (fs fh fd fc : Nat → Int32) (k u v : Int32) (μ : mM) (hI : IX μ) (ht : μ.1 76 4 = t) (hfs : μ.1 77 = fs) (hfh : μ.1 78 = fh) (hfd : μ.1 79 = fd) (hfc : μ.1 80 = fc) (hhb : m_hb t.toNatClampNeg fh) : m_Ci l yX11_known cX11_known 6 ((some .int)) 2 D cy b LAY μ [.ref (b + 0), .int k, .int u, .int v] (fun r ν => μ = ν ∧ (((0 ≤ k.toInt ∧ k.toInt ≤ 3 ∧ 0 ≤ u.toInt ∧ u.toInt ≤ 999) ∧ r.toInt = m_kn (m_lw fs fh fd fc k u t.toNatClampNeg) (m_mt fs fh fd fc k u t.toNatClampNeg) v.toInt) ∨ (¬ (0 ≤ k.toInt ∧ k.toInt ≤ 3 ∧ 0 ≤ u.toInt ∧ u.toInt ≤ 999) ∧ r = -1))) := by
  unfold m_Ci
  refine m_of (by decide) (Nat.le_of_ble_eq_true rfl) ?_
  intro p e s m below meth c hx hb hr hml hown hts hlocks _ hW ls hl
  have hown : s.vm.findClass RX11 = some m.cls := hown
  have hl : lv_has ls 6 [(0, .ref (b + 0)), (1, .int k), (2, .int u), (3, .int v)] := hl
  refine lv_iload_n hx hb dX11_known_0 rfl (lv_at hl 1 rfl) ?_
  refine lv_iconst (v := 0) hx hb dX11_known_1 (by decide) ?_
  refine lv_iconst (v := 3) hx hb dX11_known_2 (by decide) ?_
  have l_0 : (0 : Int32).toInt = 0 := by decide
  have l_3 : (3 : Int32).toInt = 3 := by decide
  refine m_aI hW (m_runS (As := [.int k, .int 0, .int 3]) (rest := []) hx hb hml hown hts hW (g_X11_within l D cy b k 0 3 μ hI) ms_X11_within k_X11_81 rfl hl.1 rfl (Nat.le_of_ble_eq_true rfl) dX11_known_3 ⟨Nat.le_of_ble_eq_true rfl, Nat.le_of_ble_eq_true rfl⟩ ⟨Nat.le_of_ble_eq_true rfl, Nat.le_of_ble_eq_true rfl⟩) (fun x1 μ1 H locs q1 hW => ?_)
  obtain ⟨q1_m, q1⟩ := q1
  subst q1_m
  rcases q1 with ⟨rfl, q1⟩ | ⟨rfl, q1⟩
  · refine lv_if_eq (tgt := 20) hx hb dX11_known_6 (by decide) (fun c => False.elim (by revert c; decide)) (fun _ => ?_)
    refine lv_iload_n hx hb dX11_known_9 rfl (lv_at hl 2 rfl) ?_
    refine lv_iconst (v := 0) hx hb dX11_known_10 (by decide) ?_
    refine lv_sipush (v := 999) hx hb dX11_known_11 (by decide) ?_
    have l_999 : (999 : Int32).toInt = 999 := by decide
    refine m_aI hW (m_runS (As := [.int u, .int 0, .int 999]) (rest := []) hx hb hml hown hts hW (g_X11_within l D cy b u 0 999 μ hI) ms_X11_within k_X11_81 rfl hl.1 rfl (Nat.le_of_ble_eq_true rfl) dX11_known_14 ⟨Nat.le_of_ble_eq_true rfl, Nat.le_of_ble_eq_true rfl⟩ ⟨Nat.le_of_ble_eq_true rfl, Nat.le_of_ble_eq_true rfl⟩) (fun x2 μ2 H locs q2 hW => ?_)
    obtain ⟨q2_m, q2⟩ := q2
    subst q2_m
    rcases q2 with ⟨rfl, q2⟩ | ⟨rfl, q2⟩
    · refine lv_if_ne (tgt := 22) hx hb dX11_known_17 (by decide) (fun _ => ?_) (fun c => False.elim (by revert c; decide))
      refine lv_aload_n hx hb dX11_known_22 rfl (lv_at hl 0 rfl) ?_
      refine m_getr hx hb hts hown hW (0) 8 (76) rfl rfl cw_11 rfl (by decide) k_X11_66 dX11_known_23 ?_
      refine lv_iload_n hx hb dX11_known_26 rfl (lv_at hl 1 rfl) ?_
      refine lv_iload_n hx hb dX11_known_27 rfl (lv_at hl 2 rfl) ?_
      refine m_aI hW (m_runV (As := [.int k, .int u]) (rest := []) hx hb hml hown hts hW (76) (g_X7_leastMelt_f l D cy b t (by omega) (μ.1 77) (μ.1 78) (μ.1 79) (μ.1 80) k u μ hI (by exact ht) rfl rfl rfl rfl (by rw [hfh]; exact hhb)) mi_X7_leastMelt k_X11_258 rfl rfl rfl hl.1 rfl (Nat.le_of_ble_eq_true rfl) dX11_known_28 ⟨Nat.le_of_ble_eq_true rfl, Nat.le_of_ble_eq_true rfl⟩ ⟨Nat.le_of_ble_eq_true rfl, Nat.le_of_ble_eq_true rfl⟩) (fun x3 μ3 H locs q3 hW => ?_)
      obtain ⟨q3_m, q3⟩ := q3
      subst q3_m
      rw [hfs, hfh, hfd, hfc] at q3
      have bx3 : 1 ≤ x3.toInt ∧ x3.toInt ≤ 10000 := q3.2
      refine lv_istore (lv' := [(4, .int x3), (0, .ref (b + 0)), (1, .int k), (2, .int u), (3, .int v)]) hx hb dX11_known_31 hl (by decide) rfl (fun ls hl => ?_)
      refine lv_aload_n hx hb dX11_known_33 rfl (lv_at hl 1 rfl) ?_
      refine m_getr hx hb hts hown hW (0) 8 (76) rfl rfl cw_11 rfl (by decide) k_X11_66 dX11_known_34 ?_
      refine lv_iload_n hx hb dX11_known_37 rfl (lv_at hl 2 rfl) ?_
      refine lv_iload_n hx hb dX11_known_38 rfl (lv_at hl 3 rfl) ?_
      refine m_aI hW (m_runV (As := [.int k, .int u]) (rest := []) hx hb hml hown hts hW (76) (g_X7_greatestMelt_f l D cy b t (by omega) (μ.1 77) (μ.1 78) (μ.1 79) (μ.1 80) k u μ hI (by exact ht) rfl rfl rfl rfl (by rw [hfh]; exact hhb)) mi_X7_greatestMelt k_X11_261 rfl rfl rfl hl.1 rfl (Nat.le_of_ble_eq_true rfl) dX11_known_39 ⟨Nat.le_of_ble_eq_true rfl, Nat.le_of_ble_eq_true rfl⟩ ⟨Nat.le_of_ble_eq_true rfl, Nat.le_of_ble_eq_true rfl⟩) (fun x4 μ4 H locs q4 hW => ?_)
      obtain ⟨q4_m, q4⟩ := q4
      subst q4_m
      rw [hfs, hfh, hfd, hfc] at q4
      have bx4 : 1 ≤ x4.toInt ∧ x4.toInt ≤ 10000 := q4.2
      refine lv_istore (lv' := [(5, .int x4), (4, .int x3), (0, .ref (b + 0)), (1, .int k), (2, .int u), (3, .int v)]) hx hb dX11_known_42 hl (by decide) rfl (fun ls hl => ?_)
      refine lv_iload_n hx hb dX11_known_44 rfl (lv_at hl 5 rfl) ?_
      by_cases c5 : v.toInt < 0 ∨ 3 < v.toInt
      · refine lv_tableOut (tgt := 114) hx hb dX11_known_45 c5 (by decide) ?_
        refine lv_iconst (v := (-1)) hx hb dX11_known_114 (by decide) ?_
        exact m_iret hx hb hr hlocks hW rfl (⟨rfl, Or.inl ⟨by omega, (by rw [← q3.1, ← q4.1]; unfold m_kn; first | (rw [if_pos (by omega)]) | (rw [if_neg (by omega), if_pos (by omega)]) | (rw [if_neg (by omega), if_neg (by omega), if_pos (by omega)]; first | (rw [if_pos (by omega)]; rfl) | (rw [if_neg (by omega)]; rfl)) | (rw [if_neg (by omega), if_neg (by omega), if_neg (by omega), if_pos (by omega)]; first | (rw [if_pos (by omega)]; omega) | (rw [if_neg (by omega)]; rfl)) | (rw [if_neg (by omega), if_neg (by omega), if_neg (by omega), if_neg (by omega)]; rfl))⟩⟩) dX11_known_115
      · have q5 : v.toInt = 0 ∨ v.toInt = 1 ∨ v.toInt = 2 ∨ v.toInt = 3 := by omega
        rcases q5 with q5 | q5 | q5 | q5
        · refine lv_tableIn (off := 31) (tgt := 76) hx hb dX11_known_45 (fun z => c5 (Or.inl z)) (fun z => c5 (Or.inr z)) (by rw [q5]; rfl) (by decide) ?_
          refine lv_iload hx hb dX11_known_76 (lv_at hl 1 rfl) ?_
          exact m_iret hx hb hr hlocks hW rfl (⟨rfl, Or.inl ⟨by omega, (by rw [← q3.1, ← q4.1]; unfold m_kn; first | (rw [if_pos (by omega)]) | (rw [if_neg (by omega), if_pos (by omega)]) | (rw [if_neg (by omega), if_neg (by omega), if_pos (by omega)]; first | (rw [if_pos (by omega)]; rfl) | (rw [if_neg (by omega)]; rfl)) | (rw [if_neg (by omega), if_neg (by omega), if_neg (by omega), if_pos (by omega)]; first | (rw [if_pos (by omega)]; omega) | (rw [if_neg (by omega)]; rfl)) | (rw [if_neg (by omega), if_neg (by omega), if_neg (by omega), if_neg (by omega)]; rfl))⟩⟩) dX11_known_78
        · refine lv_tableIn (off := 34) (tgt := 79) hx hb dX11_known_45 (fun z => c5 (Or.inl z)) (fun z => c5 (Or.inr z)) (by rw [q5]; rfl) (by decide) ?_
          refine lv_iload hx hb dX11_known_79 (lv_at hl 0 rfl) ?_
          exact m_iret hx hb hr hlocks hW rfl (⟨rfl, Or.inl ⟨by omega, (by rw [← q3.1, ← q4.1]; unfold m_kn; first | (rw [if_pos (by omega)]) | (rw [if_neg (by omega), if_pos (by omega)]) | (rw [if_neg (by omega), if_neg (by omega), if_pos (by omega)]; first | (rw [if_pos (by omega)]; rfl) | (rw [if_neg (by omega)]; rfl)) | (rw [if_neg (by omega), if_neg (by omega), if_neg (by omega), if_pos (by omega)]; first | (rw [if_pos (by omega)]; omega) | (rw [if_neg (by omega)]; rfl)) | (rw [if_neg (by omega), if_neg (by omega), if_neg (by omega), if_neg (by omega)]; rfl))⟩⟩) dX11_known_81
        · refine lv_tableIn (off := 37) (tgt := 82) hx hb dX11_known_45 (fun z => c5 (Or.inl z)) (fun z => c5 (Or.inr z)) (by rw [q5]; rfl) (by decide) ?_
          refine lv_iload hx hb dX11_known_82 (lv_at hl 1 rfl) ?_
          refine lv_iload hx hb dX11_known_84 (lv_at hl 0 rfl) ?_
          refine lv_icmp_le (tgt := 93) hx hb dX11_known_86 (by decide) (fun c6 => ?_) (fun c6 => ?_)
          · have i6 := m_c3 (rfl : x3.toInt = _) (rfl : x4.toInt = _) c6
            refine lv_iconst (v := 0) hx hb dX11_known_93 (by decide) ?_
            exact m_iret hx hb hr hlocks hW rfl (⟨rfl, Or.inl ⟨by omega, (by rw [← q3.1, ← q4.1]; unfold m_kn; first | (rw [if_pos (by omega)]) | (rw [if_neg (by omega), if_pos (by omega)]) | (rw [if_neg (by omega), if_neg (by omega), if_pos (by omega)]; first | (rw [if_pos (by omega)]; rfl) | (rw [if_neg (by omega)]; rfl)) | (rw [if_neg (by omega), if_neg (by omega), if_neg (by omega), if_pos (by omega)]; first | (rw [if_pos (by omega)]; omega) | (rw [if_neg (by omega)]; rfl)) | (rw [if_neg (by omega), if_neg (by omega), if_neg (by omega), if_neg (by omega)]; rfl))⟩⟩) dX11_known_94
          · have i6 := m_c4 (rfl : x3.toInt = _) (rfl : x4.toInt = _) c6
            refine lv_iconst (v := 1) hx hb dX11_known_89 (by decide) ?_
            refine lv_goto (tgt := 94) hx hb dX11_known_90 (by decide) ?_
            exact m_iret hx hb hr hlocks hW rfl (⟨rfl, Or.inl ⟨by omega, (by rw [← q3.1, ← q4.1]; unfold m_kn; first | (rw [if_pos (by omega)]) | (rw [if_neg (by omega), if_pos (by omega)]) | (rw [if_neg (by omega), if_neg (by omega), if_pos (by omega)]; first | (rw [if_pos (by omega)]; rfl) | (rw [if_neg (by omega)]; rfl)) | (rw [if_neg (by omega), if_neg (by omega), if_neg (by omega), if_pos (by omega)]; first | (rw [if_pos (by omega)]; omega) | (rw [if_neg (by omega)]; rfl)) | (rw [if_neg (by omega), if_neg (by omega), if_neg (by omega), if_neg (by omega)]; rfl))⟩⟩) dX11_known_94
        · refine lv_tableIn (off := 50) (tgt := 95) hx hb dX11_known_45 (fun z => c5 (Or.inl z)) (fun z => c5 (Or.inr z)) (by rw [q5]; rfl) (by decide) ?_
          refine lv_iload hx hb dX11_known_95 (lv_at hl 1 rfl) ?_
          refine lv_iload hx hb dX11_known_97 (lv_at hl 0 rfl) ?_
          refine lv_icmp_ge (tgt := 112) hx hb dX11_known_99 (by decide) (fun c7 => ?_) (fun c7 => ?_)
          · have i7 := m_c3 (rfl : x4.toInt = _) (rfl : x3.toInt = _) c7
            refine lv_iconst (v := (-1)) hx hb dX11_known_112 (by decide) ?_
            exact m_iret hx hb hr hlocks hW rfl (⟨rfl, Or.inl ⟨by omega, (by rw [← q3.1, ← q4.1]; unfold m_kn; first | (rw [if_pos (by omega)]) | (rw [if_neg (by omega), if_pos (by omega)]) | (rw [if_neg (by omega), if_neg (by omega), if_pos (by omega)]; first | (rw [if_pos (by omega)]; rfl) | (rw [if_neg (by omega)]; rfl)) | (rw [if_neg (by omega), if_neg (by omega), if_neg (by omega), if_pos (by omega)]; first | (rw [if_pos (by omega)]; omega) | (rw [if_neg (by omega)]; rfl)) | (rw [if_neg (by omega), if_neg (by omega), if_neg (by omega), if_neg (by omega)]; rfl))⟩⟩) dX11_known_113
          · have i7 := m_c4 (rfl : x4.toInt = _) (rfl : x3.toInt = _) c7
            refine lv_iload hx hb dX11_known_102 (lv_at hl 1 rfl) ?_
            refine lv_iload hx hb dX11_known_104 (lv_at hl 0 rfl) ?_
            refine lv_iadd hx hb dX11_known_106 ?_
            refine lv_topi (fun x8 ex8 => ?_)
            have tx8 : x8.toInt = x3.toInt + x4.toInt := m_addI ex8 (rfl : x3.toInt = _) (rfl : x4.toInt = _) (by omega) (by omega)
            refine lv_iconst (v := 2) hx hb dX11_known_107 (by decide) ?_
            refine lv_idiv hx hb dX11_known_108 (by decide) ?_
            refine lv_topi (fun x9 ex9 => ?_)
            have tx9 : x9.toInt = x8.toInt / 2 := m_divI ex9 (rfl : x8.toInt = _) (by decide : (2 : Int32).toInt = 2) (by omega) (by decide)
            refine lv_goto (tgt := 113) hx hb dX11_known_109 (by decide) ?_
            exact m_iret hx hb hr hlocks hW rfl (⟨rfl, Or.inl ⟨by omega, (by rw [← q3.1, ← q4.1]; unfold m_kn; first | (rw [if_pos (by omega)]) | (rw [if_neg (by omega), if_pos (by omega)]) | (rw [if_neg (by omega), if_neg (by omega), if_pos (by omega)]; first | (rw [if_pos (by omega)]; rfl) | (rw [if_neg (by omega)]; rfl)) | (rw [if_neg (by omega), if_neg (by omega), if_neg (by omega), if_pos (by omega)]; first | (rw [if_pos (by omega)]; omega) | (rw [if_neg (by omega)]; rfl)) | (rw [if_neg (by omega), if_neg (by omega), if_neg (by omega), if_neg (by omega)]; rfl))⟩⟩) dX11_known_113
    · refine lv_if_ne (tgt := 22) hx hb dX11_known_17 (by decide) (fun c => False.elim (by revert c; decide)) (fun _ => ?_)
      refine lv_iconst (v := (-1)) hx hb dX11_known_20 (by decide) ?_
      exact m_iret hx hb hr hlocks hW rfl (⟨rfl, Or.inr ⟨by omega, rfl⟩⟩) dX11_known_21
  · refine lv_if_eq (tgt := 20) hx hb dX11_known_6 (by decide) (fun _ => ?_) (fun c => False.elim (by revert c; decide))
    refine lv_iconst (v := (-1)) hx hb dX11_known_20 (by decide) ?_
    exact m_iret hx hb hr hlocks hW rfl (⟨rfl, Or.inr ⟨by omega, rfl⟩⟩) dX11_known_21
theorem m_knO {fs fh fd fc : Nat → Int32} {k u v t : Int32} (h : ¬ (0 ≤ k.toInt ∧ k.toInt ≤ 3 ∧ 0 ≤ u.toInt ∧ u.toInt ≤ 999 ∧ 0 ≤ v.toInt ∧ v.toInt ≤ 3)) : ((0 ≤ k.toInt ∧ k.toInt ≤ 3 ∧ 0 ≤ u.toInt ∧ u.toInt ≤ 999) ∧ (-1 : Int32).toInt = m_kn (m_lw fs fh fd fc k u t.toNatClampNeg) (m_mt fs fh fd fc k u t.toNatClampNeg) v.toInt) ∨ (¬ (0 ≤ k.toInt ∧ k.toInt ≤ 3 ∧ 0 ≤ u.toInt ∧ u.toInt ≤ 999) ∧ (-1 : Int32) = -1) := by
  by_cases q : 0 ≤ k.toInt ∧ k.toInt ≤ 3 ∧ 0 ≤ u.toInt ∧ u.toInt ≤ 999
  · refine Or.inl ⟨q, ?_⟩
    unfold m_kn
    rw [if_neg (by omega), if_neg (by omega), if_neg (by omega), if_neg (by omega)]
    rfl
  · exact Or.inr ⟨q, rfl⟩
set_option maxHeartbeats 4000000 in
set_option maxRecDepth 100000 in
theorem L_X12_known_f_50 {p : Program} {l : Launch} {e : Env} {s : State} {m : MethodId} {args : Array Value} {below : List Frame} {meth : Method} {c : Code} {D : va_G} {cy : Nat → ClassId} {b : Nat} (hx : p.tables.exec = Jvm.exec) (hb : c.code = cX12_known) (hr : meth.sig.returnType = ((some .int))) (hml : c.maxLocals = 7) (hown : s.vm.findClass RX12 = some m.cls) (hts : ∀ w ∈ TB, w.before args s = true) (hlocks : meth.locks = false) (S : Nat → Bool) (μ0 : mM) (hS20 : S 20 = true) (t : Int32) (h_t : 0 ≤ t.toInt ∧ t.toInt ≤ 200) (fs fh fd fc : Nat → Int32) (k u v : Int32) : ∀ (f : Nat), ∀ (y4 y5 y6 : Int32) (hy : 1 ≤ y4.toInt ∧ y4.toInt ≤ 10000 ∧ 1 ≤ y5.toInt ∧ y5.toInt ≤ 10000 ∧ 0 ≤ y6.toInt ∧ y6.toInt ≤ 200 ∧ 0 ≤ k.toInt ∧ k.toInt ≤ 3 ∧ 0 ≤ u.toInt ∧ u.toInt ≤ 999 ∧ 0 ≤ v.toInt ∧ v.toInt ≤ 3 ∧ y6.toInt ≤ t.toInt) (hf : 200 - y6.toInt < (f : Int)) (μ : mM) (hI : IY S μ0 μ) (ht : μ.1 81 67 = t) (hfs : μ.1 124 = fs) (hfh : μ.1 125 = fh) (hfd : μ.1 127 = fd) (hfc : μ.1 126 = fc) (hhb : m_hb t.toNatClampNeg fh) (hs1 : y4.toInt = m_lw fs fh fd fc k u y6.toNatClampNeg) (hs2 : y5.toInt = m_mt fs fh fd fc k u y6.toNatClampNeg) (H : Heap) (locs : List Loc), m_WA (m_A b LAY) D cy s b LAY μ H locs → ∀ ls : Array Slot, lv_has ls 7 [(0, .ref (b + 81)), (1, .int k), (2, .int u), (3, .int v), (4, .int y4), (5, .int y5), (6, .int y6)] → W p l e (m_R 1 0 0) s m args below meth c H locs 0 0 (MQ below (m_Qi D cy b LAY (fun r ν => IY S μ0 ν ∧ (((0 ≤ k.toInt ∧ k.toInt ≤ 3 ∧ 0 ≤ u.toInt ∧ u.toInt ≤ 999) ∧ r.toInt = m_kn (m_lw fs fh fd fc k u t.toNatClampNeg) (m_mt fs fh fd fc k u t.toNatClampNeg) v.toInt) ∨ (¬ (0 ≤ k.toInt ∧ k.toInt ≤ 3 ∧ 0 ≤ u.toInt ∧ u.toInt ≤ 999) ∧ r = -1)))) args s 0 0 (m_A b LAY)) (F0 m 50 ls []) := by
  intro f
  induction f with
  | zero => intro y4 y5 y6 hy hf; exfalso; omega
  | succ f ih =>
    intro y4 y5 y6 hy hf μ hI ht hfs hfh hfd hfc hhb hs1 hs2 H locs hW ls hl
    refine lv_iload hx hb dX12_known_50 (lv_at hl 6 rfl) ?_
    refine lv_aload_n hx hb dX12_known_52 rfl (lv_at hl 0 rfl) ?_
    refine m_geti hx hb hts hown hW (81) 67 rfl rfl cw_12 rfl (by decide) k_X12_401 dX12_known_53 ?_
    refine lv_topi (fun x1 ex1 => ?_)
    have ex1 : x1 = t := by rw [ex1]; exact ht
    have ex1 := ex1.symm
    subst ex1
    refine lv_icmp_ge (tgt := 154) hx hb dX12_known_56 (by decide) (fun c2 => ?_) (fun c2 => ?_)
    · have i2 := m_c3 (rfl : t.toInt = _) (rfl : y6.toInt = _) c2
      refine lv_iload_n hx hb dX12_known_154 rfl (lv_at hl 3 rfl) ?_
      refine lv_if_ne (tgt := 161) hx hb dX12_known_155 (by decide) (fun c3 => ?_) (fun c3 => ?_)
      · have i3 := m_c6 (rfl : v.toInt = _) (by decide : (0 : Int32).toInt = 0) c3
        refine lv_iload_n hx hb dX12_known_161 rfl (lv_at hl 3 rfl) ?_
        refine lv_iconst (v := 1) hx hb dX12_known_162 (by decide) ?_
        refine lv_icmp_ne (tgt := 169) hx hb dX12_known_163 (by decide) (fun c4 => ?_) (fun c4 => ?_)
        · have i4 := m_c6 (rfl : v.toInt = _) (by decide : (1 : Int32).toInt = 1) c4
          refine lv_iload_n hx hb dX12_known_169 rfl (lv_at hl 3 rfl) ?_
          refine lv_iconst (v := 2) hx hb dX12_known_170 (by decide) ?_
          refine lv_icmp_ne (tgt := 187) hx hb dX12_known_171 (by decide) (fun c5 => ?_) (fun c5 => ?_)
          · have i5 := m_c6 (rfl : v.toInt = _) (by decide : (2 : Int32).toInt = 2) c5
            refine lv_iload hx hb dX12_known_187 (lv_at hl 4 rfl) ?_
            refine lv_iload hx hb dX12_known_189 (lv_at hl 5 rfl) ?_
            refine lv_icmp_ge (tgt := 204) hx hb dX12_known_191 (by decide) (fun c6 => ?_) (fun c6 => ?_)
            · have i6 := m_c3 (rfl : y5.toInt = _) (rfl : y4.toInt = _) c6
              refine lv_iconst (v := (-1)) hx hb dX12_known_204 (by decide) ?_
              exact m_iret hx hb hr hlocks hW rfl (⟨hI, Or.inl ⟨by omega, (by rw [show m_lw fs fh fd fc k u t.toNatClampNeg = y4.toInt from by rw [show t.toNatClampNeg = y6.toNatClampNeg from by have := m_ckI (x := y6) (by omega); have := m_ckI (x := t) (by omega); omega]; exact hs1.symm, show m_mt fs fh fd fc k u t.toNatClampNeg = y5.toInt from by rw [show t.toNatClampNeg = y6.toNatClampNeg from by have := m_ckI (x := y6) (by omega); have := m_ckI (x := t) (by omega); omega]; exact hs2.symm]; unfold m_kn; first | (rw [if_pos (by omega)]) | (rw [if_neg (by omega), if_pos (by omega)]) | (rw [if_neg (by omega), if_neg (by omega), if_pos (by omega)]; first | (rw [if_pos (by omega)]; rfl) | (rw [if_neg (by omega)]; rfl)) | (rw [if_neg (by omega), if_neg (by omega), if_neg (by omega), if_pos (by omega)]; first | (rw [if_pos (by omega)]; omega) | (rw [if_neg (by omega)]; rfl)) | (rw [if_neg (by omega), if_neg (by omega), if_neg (by omega), if_neg (by omega)]; rfl))⟩⟩) dX12_known_205
            · have i6 := m_c4 (rfl : y5.toInt = _) (rfl : y4.toInt = _) c6
              refine lv_iload hx hb dX12_known_194 (lv_at hl 4 rfl) ?_
              refine lv_iload hx hb dX12_known_196 (lv_at hl 5 rfl) ?_
              refine lv_iadd hx hb dX12_known_198 ?_
              refine lv_topi (fun x7 ex7 => ?_)
              have tx7 : x7.toInt = y4.toInt + y5.toInt := m_addI ex7 (rfl : y4.toInt = _) (rfl : y5.toInt = _) (by omega) (by omega)
              refine lv_iconst (v := 2) hx hb dX12_known_199 (by decide) ?_
              refine lv_idiv hx hb dX12_known_200 (by decide) ?_
              refine lv_topi (fun x8 ex8 => ?_)
              have tx8 : x8.toInt = x7.toInt / 2 := m_divI ex8 (rfl : x7.toInt = _) (by decide : (2 : Int32).toInt = 2) (by omega) (by decide)
              refine lv_goto (tgt := 205) hx hb dX12_known_201 (by decide) ?_
              exact m_iret hx hb hr hlocks hW rfl (⟨hI, Or.inl ⟨by omega, (by rw [show m_lw fs fh fd fc k u t.toNatClampNeg = y4.toInt from by rw [show t.toNatClampNeg = y6.toNatClampNeg from by have := m_ckI (x := y6) (by omega); have := m_ckI (x := t) (by omega); omega]; exact hs1.symm, show m_mt fs fh fd fc k u t.toNatClampNeg = y5.toInt from by rw [show t.toNatClampNeg = y6.toNatClampNeg from by have := m_ckI (x := y6) (by omega); have := m_ckI (x := t) (by omega); omega]; exact hs2.symm]; unfold m_kn; first | (rw [if_pos (by omega)]) | (rw [if_neg (by omega), if_pos (by omega)]) | (rw [if_neg (by omega), if_neg (by omega), if_pos (by omega)]; first | (rw [if_pos (by omega)]; rfl) | (rw [if_neg (by omega)]; rfl)) | (rw [if_neg (by omega), if_neg (by omega), if_neg (by omega), if_pos (by omega)]; first | (rw [if_pos (by omega)]; omega) | (rw [if_neg (by omega)]; rfl)) | (rw [if_neg (by omega), if_neg (by omega), if_neg (by omega), if_neg (by omega)]; rfl))⟩⟩) dX12_known_205
          · have i5 := m_c5 (rfl : v.toInt = _) (by decide : (2 : Int32).toInt = 2) c5
            refine lv_iload hx hb dX12_known_174 (lv_at hl 4 rfl) ?_
            refine lv_iload hx hb dX12_known_176 (lv_at hl 5 rfl) ?_
            refine lv_icmp_le (tgt := 185) hx hb dX12_known_178 (by decide) (fun c9 => ?_) (fun c9 => ?_)
            · have i9 := m_c3 (rfl : y4.toInt = _) (rfl : y5.toInt = _) c9
              refine lv_iconst (v := 0) hx hb dX12_known_185 (by decide) ?_
              exact m_iret hx hb hr hlocks hW rfl (⟨hI, Or.inl ⟨by omega, (by rw [show m_lw fs fh fd fc k u t.toNatClampNeg = y4.toInt from by rw [show t.toNatClampNeg = y6.toNatClampNeg from by have := m_ckI (x := y6) (by omega); have := m_ckI (x := t) (by omega); omega]; exact hs1.symm, show m_mt fs fh fd fc k u t.toNatClampNeg = y5.toInt from by rw [show t.toNatClampNeg = y6.toNatClampNeg from by have := m_ckI (x := y6) (by omega); have := m_ckI (x := t) (by omega); omega]; exact hs2.symm]; unfold m_kn; first | (rw [if_pos (by omega)]) | (rw [if_neg (by omega), if_pos (by omega)]) | (rw [if_neg (by omega), if_neg (by omega), if_pos (by omega)]; first | (rw [if_pos (by omega)]; rfl) | (rw [if_neg (by omega)]; rfl)) | (rw [if_neg (by omega), if_neg (by omega), if_neg (by omega), if_pos (by omega)]; first | (rw [if_pos (by omega)]; omega) | (rw [if_neg (by omega)]; rfl)) | (rw [if_neg (by omega), if_neg (by omega), if_neg (by omega), if_neg (by omega)]; rfl))⟩⟩) dX12_known_186
            · have i9 := m_c4 (rfl : y4.toInt = _) (rfl : y5.toInt = _) c9
              refine lv_iconst (v := 1) hx hb dX12_known_181 (by decide) ?_
              refine lv_goto (tgt := 186) hx hb dX12_known_182 (by decide) ?_
              exact m_iret hx hb hr hlocks hW rfl (⟨hI, Or.inl ⟨by omega, (by rw [show m_lw fs fh fd fc k u t.toNatClampNeg = y4.toInt from by rw [show t.toNatClampNeg = y6.toNatClampNeg from by have := m_ckI (x := y6) (by omega); have := m_ckI (x := t) (by omega); omega]; exact hs1.symm, show m_mt fs fh fd fc k u t.toNatClampNeg = y5.toInt from by rw [show t.toNatClampNeg = y6.toNatClampNeg from by have := m_ckI (x := y6) (by omega); have := m_ckI (x := t) (by omega); omega]; exact hs2.symm]; unfold m_kn; first | (rw [if_pos (by omega)]) | (rw [if_neg (by omega), if_pos (by omega)]) | (rw [if_neg (by omega), if_neg (by omega), if_pos (by omega)]; first | (rw [if_pos (by omega)]; rfl) | (rw [if_neg (by omega)]; rfl)) | (rw [if_neg (by omega), if_neg (by omega), if_neg (by omega), if_pos (by omega)]; first | (rw [if_pos (by omega)]; omega) | (rw [if_neg (by omega)]; rfl)) | (rw [if_neg (by omega), if_neg (by omega), if_neg (by omega), if_neg (by omega)]; rfl))⟩⟩) dX12_known_186
        · have i4 := m_c5 (rfl : v.toInt = _) (by decide : (1 : Int32).toInt = 1) c4
          refine lv_iload hx hb dX12_known_166 (lv_at hl 5 rfl) ?_
          exact m_iret hx hb hr hlocks hW rfl (⟨hI, Or.inl ⟨by omega, (by rw [show m_lw fs fh fd fc k u t.toNatClampNeg = y4.toInt from by rw [show t.toNatClampNeg = y6.toNatClampNeg from by have := m_ckI (x := y6) (by omega); have := m_ckI (x := t) (by omega); omega]; exact hs1.symm, show m_mt fs fh fd fc k u t.toNatClampNeg = y5.toInt from by rw [show t.toNatClampNeg = y6.toNatClampNeg from by have := m_ckI (x := y6) (by omega); have := m_ckI (x := t) (by omega); omega]; exact hs2.symm]; unfold m_kn; first | (rw [if_pos (by omega)]) | (rw [if_neg (by omega), if_pos (by omega)]) | (rw [if_neg (by omega), if_neg (by omega), if_pos (by omega)]; first | (rw [if_pos (by omega)]; rfl) | (rw [if_neg (by omega)]; rfl)) | (rw [if_neg (by omega), if_neg (by omega), if_neg (by omega), if_pos (by omega)]; first | (rw [if_pos (by omega)]; omega) | (rw [if_neg (by omega)]; rfl)) | (rw [if_neg (by omega), if_neg (by omega), if_neg (by omega), if_neg (by omega)]; rfl))⟩⟩) dX12_known_168
      · have i3 := m_c5 (rfl : v.toInt = _) (by decide : (0 : Int32).toInt = 0) c3
        refine lv_iload hx hb dX12_known_158 (lv_at hl 4 rfl) ?_
        exact m_iret hx hb hr hlocks hW rfl (⟨hI, Or.inl ⟨by omega, (by rw [show m_lw fs fh fd fc k u t.toNatClampNeg = y4.toInt from by rw [show t.toNatClampNeg = y6.toNatClampNeg from by have := m_ckI (x := y6) (by omega); have := m_ckI (x := t) (by omega); omega]; exact hs1.symm, show m_mt fs fh fd fc k u t.toNatClampNeg = y5.toInt from by rw [show t.toNatClampNeg = y6.toNatClampNeg from by have := m_ckI (x := y6) (by omega); have := m_ckI (x := t) (by omega); omega]; exact hs2.symm]; unfold m_kn; first | (rw [if_pos (by omega)]) | (rw [if_neg (by omega), if_pos (by omega)]) | (rw [if_neg (by omega), if_neg (by omega), if_pos (by omega)]; first | (rw [if_pos (by omega)]; rfl) | (rw [if_neg (by omega)]; rfl)) | (rw [if_neg (by omega), if_neg (by omega), if_neg (by omega), if_pos (by omega)]; first | (rw [if_pos (by omega)]; omega) | (rw [if_neg (by omega)]; rfl)) | (rw [if_neg (by omega), if_neg (by omega), if_neg (by omega), if_neg (by omega)]; rfl))⟩⟩) dX12_known_160
    · have i2 := m_c4 (rfl : t.toInt = _) (rfl : y6.toInt = _) c2
      refine lv_aload_n hx hb dX12_known_59 rfl (lv_at hl 0 rfl) ?_
      refine m_getr hx hb hts hown hW (81) 68 (124) rfl rfl cw_12 rfl (by decide) k_X12_152 dX12_known_60 ?_
      refine lv_iload hx hb dX12_known_63 (lv_at hl 6 rfl) ?_
      refine m_iald hx hb hW (124) rfl (m_ixI (rfl : y6.toInt = _) (by omega) (by omega)) dX12_known_65 ?_
      refine lv_topi (fun x10 ex10 => ?_)
      have fx10 : (fs y6.toNatClampNeg).toInt = x10.toInt := by rw [ex10, hfs]
      refine lv_iload_n hx hb dX12_known_66 rfl (lv_at hl 1 rfl) ?_
      refine lv_icmp_ne (tgt := 148) hx hb dX12_known_67 (by decide) (fun c11 => ?_) (fun c11 => ?_)
      · have i11 := m_c6 (rfl : x10.toInt = _) (rfl : k.toInt = _) c11
        obtain ⟨x12, ex12⟩ : ∃ z : Int32, z = y6 + 1 := ⟨_, rfl⟩
        refine lv_iinc (v := x12) (lv' := [(6, .int x12), (0, .ref (b + 81)), (1, .int k), (2, .int u), (3, .int v), (4, .int y4), (5, .int y5)]) hx hb dX12_known_148 hl (k := 6) rfl (by rw [ex12]; rfl) (by decide) rfl (fun ls hl => ?_)
        have tx12 : x12.toInt = y6.toInt + 1 := m_addI ex12 (rfl : y6.toInt = _) (by decide : (1 : Int32).toInt = 1) (by omega) (by omega)
        refine lv_goto (tgt := 50) hx hb dX12_known_151 (by decide) ?_
        exact ih y4 y5 x12 (by omega) (by omega) μ hI (by exact ht) (hfs) (hfh) (hfd) (hfc) (hhb) ((by rw [m_cl1 (x := x12) (y := y6) (by omega) (by omega)]; first | (rw [m_lw1 (by omega)]; omega) | (rw [m_lw0 (by omega)]; omega))) ((by rw [m_cl1 (x := x12) (y := y6) (by omega) (by omega)]; first | (rw [m_mt1 (by omega)]; omega) | (rw [m_mt0 (by omega)]; omega))) _ _ hW ls (lv_sub hl [1, 2, 3, 4, 5, 6, 0] rfl)
      · have i11 := m_c5 (rfl : x10.toInt = _) (rfl : k.toInt = _) c11
        refine lv_aload_n hx hb dX12_known_70 rfl (lv_at hl 0 rfl) ?_
        refine m_getr hx hb hts hown hW (81) 71 (127) rfl rfl cw_12 rfl (by decide) k_X12_161 dX12_known_71 ?_
        refine lv_iload hx hb dX12_known_74 (lv_at hl 6 rfl) ?_
        refine m_iald hx hb hW (127) rfl (m_ixI (rfl : y6.toInt = _) (by omega) (by omega)) dX12_known_76 ?_
        refine lv_topi (fun x13 ex13 => ?_)
        have fx13 : (fd y6.toNatClampNeg).toInt = x13.toInt := by rw [ex13, hfd]
        refine lv_iload_n hx hb dX12_known_77 rfl (lv_at hl 2 rfl) ?_
        refine lv_icmp_le (tgt := 84) hx hb dX12_known_78 (by decide) (fun c14 => ?_) (fun c14 => ?_)
        · have i14 := m_c3 (rfl : x13.toInt = _) (rfl : u.toInt = _) c14
          refine lv_aload_n hx hb dX12_known_84 rfl (lv_at hl 0 rfl) ?_
          refine m_getr hx hb hts hown hW (81) 70 (126) rfl rfl cw_12 rfl (by decide) k_X12_158 dX12_known_85 ?_
          refine lv_iload hx hb dX12_known_88 (lv_at hl 6 rfl) ?_
          refine m_zald hx hb hW (126) rfl (m_ixI (rfl : y6.toInt = _) (by omega) (by omega)) dX12_known_90 ?_
          refine lv_topi (fun x15 ex15 => ?_)
          have bx15 : 0 ≤ x15.toInt ∧ x15.toInt ≤ 1 := by rw [ex15]; exact hI.1 _ _ _ _ rfl
          have fx15 : (fc y6.toNatClampNeg).toInt = x15.toInt := by rw [ex15, hfc]
          refine lv_if_eq (tgt := 115) hx hb dX12_known_91 (by decide) (fun c16 => ?_) (fun c16 => ?_)
          · have i16 := m_c5 (rfl : x15.toInt = _) (by decide : (0 : Int32).toInt = 0) c16
            refine lv_aload_n hx hb dX12_known_115 rfl (lv_at hl 0 rfl) ?_
            refine m_getr hx hb hts hown hW (81) 70 (126) rfl rfl cw_12 rfl (by decide) k_X12_158 dX12_known_116 ?_
            refine lv_iload hx hb dX12_known_119 (lv_at hl 6 rfl) ?_
            refine m_zald hx hb hW (126) rfl (m_ixI (rfl : y6.toInt = _) (by omega) (by omega)) dX12_known_121 ?_
            refine lv_topi (fun x17 ex17 => ?_)
            have ex17 : x17 = x15 := by rw [ex17]; exact ex15.symm
            have ex17 := ex17.symm
            subst ex17
            refine lv_if_ne (tgt := 148) hx hb dX12_known_122 (by decide) (fun c18 => ?_) (fun c18 => ?_)
            · have i18 := m_c6 (rfl : x15.toInt = _) (by decide : (0 : Int32).toInt = 0) c18
              exfalso; omega
            · have i18 := m_c5 (rfl : x15.toInt = _) (by decide : (0 : Int32).toInt = 0) c18
              refine lv_aload_n hx hb dX12_known_125 rfl (lv_at hl 0 rfl) ?_
              refine m_getr hx hb hts hown hW (81) 69 (125) rfl rfl cw_12 rfl (by decide) k_X12_155 dX12_known_126 ?_
              refine lv_iload hx hb dX12_known_129 (lv_at hl 6 rfl) ?_
              refine m_iald hx hb hW (125) rfl (m_ixI (rfl : y6.toInt = _) (by omega) (by omega)) dX12_known_131 ?_
              refine lv_topi (fun x19 ex19 => ?_)
              have fx19 : (fh y6.toNatClampNeg).toInt = x19.toInt := by rw [ex19, hfh]
              have gx19 := hhb y6.toNatClampNeg (by have := m_ckI (x := y6) (by omega); have := m_ckI (x := t) (by omega); omega)
              rw [fx19] at gx19
              refine lv_iload hx hb dX12_known_132 (lv_at hl 4 rfl) ?_
              refine lv_icmp_lt (tgt := 148) hx hb dX12_known_134 (by decide) (fun c20 => ?_) (fun c20 => ?_)
              · have i20 := m_c1 (rfl : x19.toInt = _) (rfl : y4.toInt = _) c20
                obtain ⟨x21, ex21⟩ : ∃ z : Int32, z = y6 + 1 := ⟨_, rfl⟩
                refine lv_iinc (v := x21) (lv' := [(6, .int x21), (0, .ref (b + 81)), (1, .int k), (2, .int u), (3, .int v), (4, .int y4), (5, .int y5)]) hx hb dX12_known_148 hl (k := 6) rfl (by rw [ex21]; rfl) (by decide) rfl (fun ls hl => ?_)
                have tx21 : x21.toInt = y6.toInt + 1 := m_addI ex21 (rfl : y6.toInt = _) (by decide : (1 : Int32).toInt = 1) (by omega) (by omega)
                refine lv_goto (tgt := 50) hx hb dX12_known_151 (by decide) ?_
                exact ih y4 y5 x21 (by omega) (by omega) μ hI (by exact ht) (hfs) (hfh) (hfd) (hfc) (hhb) ((by rw [m_cl1 (x := x21) (y := y6) (by omega) (by omega)]; first | (rw [m_lw1 (by omega)]; omega) | (rw [m_lw0 (by omega)]; omega))) ((by rw [m_cl1 (x := x21) (y := y6) (by omega) (by omega)]; first | (rw [m_mt1 (by omega)]; omega) | (rw [m_mt0 (by omega)]; omega))) _ _ hW ls (lv_sub hl [1, 2, 3, 4, 5, 6, 0] rfl)
              · have i20 := m_c2 (rfl : x19.toInt = _) (rfl : y4.toInt = _) c20
                refine lv_aload_n hx hb dX12_known_137 rfl (lv_at hl 0 rfl) ?_
                refine m_getr hx hb hts hown hW (81) 69 (125) rfl rfl cw_12 rfl (by decide) k_X12_155 dX12_known_138 ?_
                refine lv_iload hx hb dX12_known_141 (lv_at hl 6 rfl) ?_
                refine m_iald hx hb hW (125) rfl (m_ixI (rfl : y6.toInt = _) (by omega) (by omega)) dX12_known_143 ?_
                refine lv_topi (fun x22 ex22 => ?_)
                have ex22 : x22 = x19 := by rw [ex22]; exact ex19.symm
                have ex22 := ex22.symm
                subst ex22
                refine lv_iconst (v := 1) hx hb dX12_known_144 (by decide) ?_
                refine lv_iadd hx hb dX12_known_145 ?_
                refine lv_topi (fun x23 ex23 => ?_)
                have tx23 : x23.toInt = x19.toInt + 1 := m_addI ex23 (rfl : x19.toInt = _) (by decide : (1 : Int32).toInt = 1) (by omega) (by omega)
                refine lv_istore (lv' := [(4, .int x23), (0, .ref (b + 81)), (1, .int k), (2, .int u), (3, .int v), (5, .int y5), (6, .int y6)]) hx hb dX12_known_146 hl (by decide) rfl (fun ls hl => ?_)
                obtain ⟨x24, ex24⟩ : ∃ z : Int32, z = y6 + 1 := ⟨_, rfl⟩
                refine lv_iinc (v := x24) (lv' := [(6, .int x24), (4, .int x23), (0, .ref (b + 81)), (1, .int k), (2, .int u), (3, .int v), (5, .int y5)]) hx hb dX12_known_148 hl (k := 6) rfl (by rw [ex24]; rfl) (by decide) rfl (fun ls hl => ?_)
                have tx24 : x24.toInt = y6.toInt + 1 := m_addI ex24 (rfl : y6.toInt = _) (by decide : (1 : Int32).toInt = 1) (by omega) (by omega)
                refine lv_goto (tgt := 50) hx hb dX12_known_151 (by decide) ?_
                exact ih x23 y5 x24 (by omega) (by omega) μ hI (by exact ht) (hfs) (hfh) (hfd) (hfc) (hhb) ((by rw [m_cl1 (x := x24) (y := y6) (by omega) (by omega)]; first | (rw [m_lw1 (by omega)]; omega) | (rw [m_lw0 (by omega)]; omega))) ((by rw [m_cl1 (x := x24) (y := y6) (by omega) (by omega)]; first | (rw [m_mt1 (by omega)]; omega) | (rw [m_mt0 (by omega)]; omega))) _ _ hW ls (lv_sub hl [2, 3, 4, 5, 1, 6, 0] rfl)
          · have i16 := m_c6 (rfl : x15.toInt = _) (by decide : (0 : Int32).toInt = 0) c16
            refine lv_aload_n hx hb dX12_known_94 rfl (lv_at hl 0 rfl) ?_
            refine m_getr hx hb hts hown hW (81) 69 (125) rfl rfl cw_12 rfl (by decide) k_X12_155 dX12_known_95 ?_
            refine lv_iload hx hb dX12_known_98 (lv_at hl 6 rfl) ?_
            refine m_iald hx hb hW (125) rfl (m_ixI (rfl : y6.toInt = _) (by omega) (by omega)) dX12_known_100 ?_
            refine lv_topi (fun x25 ex25 => ?_)
            have fx25 : (fh y6.toNatClampNeg).toInt = x25.toInt := by rw [ex25, hfh]
            have gx25 := hhb y6.toNatClampNeg (by have := m_ckI (x := y6) (by omega); have := m_ckI (x := t) (by omega); omega)
            rw [fx25] at gx25
            refine lv_iload hx hb dX12_known_101 (lv_at hl 5 rfl) ?_
            refine lv_icmp_ge (tgt := 115) hx hb dX12_known_103 (by decide) (fun c26 => ?_) (fun c26 => ?_)
            · have i26 := m_c3 (rfl : y5.toInt = _) (rfl : x25.toInt = _) c26
              refine lv_aload_n hx hb dX12_known_115 rfl (lv_at hl 0 rfl) ?_
              refine m_getr hx hb hts hown hW (81) 70 (126) rfl rfl cw_12 rfl (by decide) k_X12_158 dX12_known_116 ?_
              refine lv_iload hx hb dX12_known_119 (lv_at hl 6 rfl) ?_
              refine m_zald hx hb hW (126) rfl (m_ixI (rfl : y6.toInt = _) (by omega) (by omega)) dX12_known_121 ?_
              refine lv_topi (fun x27 ex27 => ?_)
              have ex27 : x27 = x15 := by rw [ex27]; exact ex15.symm
              have ex27 := ex27.symm
              subst ex27
              refine lv_if_ne (tgt := 148) hx hb dX12_known_122 (by decide) (fun c28 => ?_) (fun c28 => ?_)
              · have i28 := m_c6 (rfl : x15.toInt = _) (by decide : (0 : Int32).toInt = 0) c28
                obtain ⟨x29, ex29⟩ : ∃ z : Int32, z = y6 + 1 := ⟨_, rfl⟩
                refine lv_iinc (v := x29) (lv' := [(6, .int x29), (0, .ref (b + 81)), (1, .int k), (2, .int u), (3, .int v), (4, .int y4), (5, .int y5)]) hx hb dX12_known_148 hl (k := 6) rfl (by rw [ex29]; rfl) (by decide) rfl (fun ls hl => ?_)
                have tx29 : x29.toInt = y6.toInt + 1 := m_addI ex29 (rfl : y6.toInt = _) (by decide : (1 : Int32).toInt = 1) (by omega) (by omega)
                refine lv_goto (tgt := 50) hx hb dX12_known_151 (by decide) ?_
                exact ih y4 y5 x29 (by omega) (by omega) μ hI (by exact ht) (hfs) (hfh) (hfd) (hfc) (hhb) ((by rw [m_cl1 (x := x29) (y := y6) (by omega) (by omega)]; first | (rw [m_lw1 (by omega)]; omega) | (rw [m_lw0 (by omega)]; omega))) ((by rw [m_cl1 (x := x29) (y := y6) (by omega) (by omega)]; first | (rw [m_mt1 (by omega)]; omega) | (rw [m_mt0 (by omega)]; omega))) _ _ hW ls (lv_sub hl [1, 2, 3, 4, 5, 6, 0] rfl)
              · have i28 := m_c5 (rfl : x15.toInt = _) (by decide : (0 : Int32).toInt = 0) c28
                exfalso; omega
            · have i26 := m_c4 (rfl : y5.toInt = _) (rfl : x25.toInt = _) c26
              refine lv_aload_n hx hb dX12_known_106 rfl (lv_at hl 0 rfl) ?_
              refine m_getr hx hb hts hown hW (81) 69 (125) rfl rfl cw_12 rfl (by decide) k_X12_155 dX12_known_107 ?_
              refine lv_iload hx hb dX12_known_110 (lv_at hl 6 rfl) ?_
              refine m_iald hx hb hW (125) rfl (m_ixI (rfl : y6.toInt = _) (by omega) (by omega)) dX12_known_112 ?_
              refine lv_topi (fun x30 ex30 => ?_)
              have ex30 : x30 = x25 := by rw [ex30]; exact ex25.symm
              have ex30 := ex30.symm
              subst ex30
              refine lv_istore (lv' := [(5, .int x25), (0, .ref (b + 81)), (1, .int k), (2, .int u), (3, .int v), (4, .int y4), (6, .int y6)]) hx hb dX12_known_113 hl (by decide) rfl (fun ls hl => ?_)
              refine lv_aload_n hx hb dX12_known_115 rfl (lv_at hl 1 rfl) ?_
              refine m_getr hx hb hts hown hW (81) 70 (126) rfl rfl cw_12 rfl (by decide) k_X12_158 dX12_known_116 ?_
              refine lv_iload hx hb dX12_known_119 (lv_at hl 6 rfl) ?_
              refine m_zald hx hb hW (126) rfl (m_ixI (rfl : y6.toInt = _) (by omega) (by omega)) dX12_known_121 ?_
              refine lv_topi (fun x31 ex31 => ?_)
              have ex31 : x31 = x15 := by rw [ex31]; exact ex15.symm
              have ex31 := ex31.symm
              subst ex31
              refine lv_if_ne (tgt := 148) hx hb dX12_known_122 (by decide) (fun c32 => ?_) (fun c32 => ?_)
              · have i32 := m_c6 (rfl : x15.toInt = _) (by decide : (0 : Int32).toInt = 0) c32
                obtain ⟨x33, ex33⟩ : ∃ z : Int32, z = y6 + 1 := ⟨_, rfl⟩
                refine lv_iinc (v := x33) (lv' := [(6, .int x33), (5, .int x25), (0, .ref (b + 81)), (1, .int k), (2, .int u), (3, .int v), (4, .int y4)]) hx hb dX12_known_148 hl (k := 6) rfl (by rw [ex33]; rfl) (by decide) rfl (fun ls hl => ?_)
                have tx33 : x33.toInt = y6.toInt + 1 := m_addI ex33 (rfl : y6.toInt = _) (by decide : (1 : Int32).toInt = 1) (by omega) (by omega)
                refine lv_goto (tgt := 50) hx hb dX12_known_151 (by decide) ?_
                exact ih y4 x25 x33 (by omega) (by omega) μ hI (by exact ht) (hfs) (hfh) (hfd) (hfc) (hhb) ((by rw [m_cl1 (x := x33) (y := y6) (by omega) (by omega)]; first | (rw [m_lw1 (by omega)]; omega) | (rw [m_lw0 (by omega)]; omega))) ((by rw [m_cl1 (x := x33) (y := y6) (by omega) (by omega)]; first | (rw [m_mt1 (by omega)]; omega) | (rw [m_mt0 (by omega)]; omega))) _ _ hW ls (lv_sub hl [2, 3, 4, 5, 6, 1, 0] rfl)
              · have i32 := m_c5 (rfl : x15.toInt = _) (by decide : (0 : Int32).toInt = 0) c32
                exfalso; omega
        · have i14 := m_c4 (rfl : x13.toInt = _) (rfl : u.toInt = _) c14
          refine lv_goto (tgt := 148) hx hb dX12_known_81 (by decide) ?_
          obtain ⟨x34, ex34⟩ : ∃ z : Int32, z = y6 + 1 := ⟨_, rfl⟩
          refine lv_iinc (v := x34) (lv' := [(6, .int x34), (0, .ref (b + 81)), (1, .int k), (2, .int u), (3, .int v), (4, .int y4), (5, .int y5)]) hx hb dX12_known_148 hl (k := 6) rfl (by rw [ex34]; rfl) (by decide) rfl (fun ls hl => ?_)
          have tx34 : x34.toInt = y6.toInt + 1 := m_addI ex34 (rfl : y6.toInt = _) (by decide : (1 : Int32).toInt = 1) (by omega) (by omega)
          refine lv_goto (tgt := 50) hx hb dX12_known_151 (by decide) ?_
          exact ih y4 y5 x34 (by omega) (by omega) μ hI (by exact ht) (hfs) (hfh) (hfd) (hfc) (hhb) ((by rw [m_cl1 (x := x34) (y := y6) (by omega) (by omega)]; first | (rw [m_lw1 (by omega)]; omega) | (rw [m_lw0 (by omega)]; omega))) ((by rw [m_cl1 (x := x34) (y := y6) (by omega) (by omega)]; first | (rw [m_mt1 (by omega)]; omega) | (rw [m_mt0 (by omega)]; omega))) _ _ hW ls (lv_sub hl [1, 2, 3, 4, 5, 6, 0] rfl)
set_option maxHeartbeats 4000000 in
set_option maxRecDepth 100000 in
theorem g_X12_known_f (l : Launch) (D : va_G) (cy : Nat → ClassId) (b : Nat) (S : Nat → Bool) (μ0 : mM) (hS20 : S 20 = true) (t : Int32) (h_t : 0 ≤ t.toInt ∧ t.toInt ≤ 200) (fs fh fd fc : Nat → Int32) (k u v : Int32) (μ : mM) (hI : IY S μ0 μ) (ht : μ.1 81 67 = t) (hfs : μ.1 124 = fs) (hfh : μ.1 125 = fh) (hfd : μ.1 127 = fd) (hfc : μ.1 126 = fc) (hhb : m_hb t.toNatClampNeg fh) : m_Ci l yX12_known cX12_known 7 ((some .int)) 1 D cy b LAY μ [.ref (b + 81), .int k, .int u, .int v] (fun r ν => IY S μ0 ν ∧ (((0 ≤ k.toInt ∧ k.toInt ≤ 3 ∧ 0 ≤ u.toInt ∧ u.toInt ≤ 999) ∧ r.toInt = m_kn (m_lw fs fh fd fc k u t.toNatClampNeg) (m_mt fs fh fd fc k u t.toNatClampNeg) v.toInt) ∨ (¬ (0 ≤ k.toInt ∧ k.toInt ≤ 3 ∧ 0 ≤ u.toInt ∧ u.toInt ≤ 999) ∧ r = -1))) := by
  unfold m_Ci
  refine m_of (by decide) (Nat.le_of_ble_eq_true rfl) ?_
  intro p e s m below meth c hx hb hr hml hown hts hlocks _ hW ls hl
  have hown : s.vm.findClass RX12 = some m.cls := hown
  have hl : lv_has ls 7 [(0, .ref (b + 81)), (1, .int k), (2, .int u), (3, .int v)] := hl
  refine lv_aload_n hx hb dX12_known_0 rfl (lv_at hl 0 rfl) ?_
  refine lv_iconst (v := 0) hx hb dX12_known_1 (by decide) ?_
  refine m_puti hx hb hts hown hW (81) 0 rfl rfl cw_12 tyX12_ok nmX12 rfl (by decide) k_X12_167 rfl rfl rfl dX12_known_2 (fun H locs hW _ => ?_)
  generalize hμ1 : m_si μ (81) 0 0 = μ1 at hW
  have hI := hI.si0 hμ1 rfl hS20
  refine lv_aload_n hx hb dX12_known_5 rfl (lv_at hl 0 rfl) ?_
  refine lv_iload_n hx hb dX12_known_6 rfl (lv_at hl 1 rfl) ?_
  refine lv_iconst (v := 0) hx hb dX12_known_7 (by decide) ?_
  refine lv_iconst (v := 3) hx hb dX12_known_8 (by decide) ?_
  have l_0 : (0 : Int32).toInt = 0 := by decide
  have l_3 : (3 : Int32).toInt = 3 := by decide
  refine m_aI hW (m_runV (As := [.int k, .int 0, .int 3]) (rest := []) hx hb hml hown hts hW (81) (g_X12_isIn l D cy b k 0 3 μ1 hI.1) mi_X12_isIn k_X12_170 rfl rfl rfl hl.1 rfl (Nat.le_of_ble_eq_true rfl) dX12_known_9 ⟨Nat.le_of_ble_eq_true rfl, Nat.le_of_ble_eq_true rfl⟩ ⟨Nat.le_of_ble_eq_true rfl, Nat.le_of_ble_eq_true rfl⟩) (fun x2 μ2 H locs q2 hW => ?_)
  obtain ⟨q2_m, q2⟩ := q2
  subst q2_m
  rcases q2 with ⟨rfl, q2⟩ | ⟨rfl, q2⟩
  · refine lv_if_eq (tgt := 37) hx hb dX12_known_12 (by decide) (fun c => False.elim (by revert c; decide)) (fun _ => ?_)
    refine lv_aload_n hx hb dX12_known_15 rfl (lv_at hl 0 rfl) ?_
    refine lv_iload_n hx hb dX12_known_16 rfl (lv_at hl 2 rfl) ?_
    refine lv_iconst (v := 0) hx hb dX12_known_17 (by decide) ?_
    refine lv_sipush (v := 999) hx hb dX12_known_18 (by decide) ?_
    have l_999 : (999 : Int32).toInt = 999 := by decide
    refine m_aI hW (m_runV (As := [.int u, .int 0, .int 999]) (rest := []) hx hb hml hown hts hW (81) (g_X12_isIn l D cy b u 0 999 μ1 hI.1) mi_X12_isIn k_X12_170 rfl rfl rfl hl.1 rfl (Nat.le_of_ble_eq_true rfl) dX12_known_21 ⟨Nat.le_of_ble_eq_true rfl, Nat.le_of_ble_eq_true rfl⟩ ⟨Nat.le_of_ble_eq_true rfl, Nat.le_of_ble_eq_true rfl⟩) (fun x3 μ3 H locs q3 hW => ?_)
    obtain ⟨q3_m, q3⟩ := q3
    subst q3_m
    rcases q3 with ⟨rfl, q3⟩ | ⟨rfl, q3⟩
    · refine lv_if_eq (tgt := 37) hx hb dX12_known_24 (by decide) (fun c => False.elim (by revert c; decide)) (fun _ => ?_)
      refine lv_aload_n hx hb dX12_known_27 rfl (lv_at hl 0 rfl) ?_
      refine lv_iload_n hx hb dX12_known_28 rfl (lv_at hl 3 rfl) ?_
      refine lv_iconst (v := 0) hx hb dX12_known_29 (by decide) ?_
      refine lv_iconst (v := 3) hx hb dX12_known_30 (by decide) ?_
      refine m_aI hW (m_runV (As := [.int v, .int 0, .int 3]) (rest := []) hx hb hml hown hts hW (81) (g_X12_isIn l D cy b v 0 3 μ1 hI.1) mi_X12_isIn k_X12_170 rfl rfl rfl hl.1 rfl (Nat.le_of_ble_eq_true rfl) dX12_known_31 ⟨Nat.le_of_ble_eq_true rfl, Nat.le_of_ble_eq_true rfl⟩ ⟨Nat.le_of_ble_eq_true rfl, Nat.le_of_ble_eq_true rfl⟩) (fun x4 μ4 H locs q4 hW => ?_)
      obtain ⟨q4_m, q4⟩ := q4
      subst q4_m
      rcases q4 with ⟨rfl, q4⟩ | ⟨rfl, q4⟩
      · refine lv_if_ne (tgt := 39) hx hb dX12_known_34 (by decide) (fun _ => ?_) (fun c => False.elim (by revert c; decide))
        refine lv_iconst (v := 1) hx hb dX12_known_39 (by decide) ?_
        refine lv_istore (lv' := [(4, .int 1), (0, .ref (b + 81)), (1, .int k), (2, .int u), (3, .int v)]) hx hb dX12_known_40 hl (by decide) rfl (fun ls hl => ?_)
        refine lv_sipush (v := 999) hx hb dX12_known_42 (by decide) ?_
        refine lv_istore (lv' := [(5, .int 999), (4, .int 1), (0, .ref (b + 81)), (1, .int k), (2, .int u), (3, .int v)]) hx hb dX12_known_45 hl (by decide) rfl (fun ls hl => ?_)
        refine lv_iconst (v := 0) hx hb dX12_known_47 (by decide) ?_
        refine lv_istore (lv' := [(6, .int 0), (5, .int 999), (4, .int 1), (0, .ref (b + 81)), (1, .int k), (2, .int u), (3, .int v)]) hx hb dX12_known_48 hl (by decide) rfl (fun ls hl => ?_)
        have l_1 : (1 : Int32).toInt = 1 := by decide
        exact L_X12_known_f_50 hx hb hr hml hown hts hlocks S μ0 hS20 t h_t fs fh fd fc k u v  201 1 999 0 (by omega) (by omega) μ1 hI (by rw [← hμ1]; exact ht) (by rw [show μ1.1 124 = μ.1 124 from by rw [← hμ1]; exact m_si_row (by decide)]; exact hfs) (by rw [show μ1.1 125 = μ.1 125 from by rw [← hμ1]; exact m_si_row (by decide)]; exact hfh) (by rw [show μ1.1 127 = μ.1 127 from by rw [← hμ1]; exact m_si_row (by decide)]; exact hfd) (by rw [show μ1.1 126 = μ.1 126 from by rw [← hμ1]; exact m_si_row (by decide)]; exact hfc) (hhb) (rfl) (rfl) _ _ hW ls (lv_sub hl [3, 4, 5, 6, 2, 1, 0] rfl)
      · refine lv_if_ne (tgt := 39) hx hb dX12_known_34 (by decide) (fun c => False.elim (by revert c; decide)) (fun _ => ?_)
        refine lv_iconst (v := (-1)) hx hb dX12_known_37 (by decide) ?_
        exact m_iret hx hb hr hlocks hW rfl (⟨hI, m_knO (by omega)⟩) dX12_known_38
    · refine lv_if_eq (tgt := 37) hx hb dX12_known_24 (by decide) (fun _ => ?_) (fun c => False.elim (by revert c; decide))
      refine lv_iconst (v := (-1)) hx hb dX12_known_37 (by decide) ?_
      exact m_iret hx hb hr hlocks hW rfl (⟨hI, m_knO (by omega)⟩) dX12_known_38
  · refine lv_if_eq (tgt := 37) hx hb dX12_known_12 (by decide) (fun _ => ?_) (fun c => False.elim (by revert c; decide))
    refine lv_iconst (v := (-1)) hx hb dX12_known_37 (by decide) ?_
    exact m_iret hx hb hr hlocks hW rfl (⟨hI, m_knO (by omega)⟩) dX12_known_38
theorem m_RP.lost {μ : mM} {r1 r2 a1 a2 : Int32} (h : m_RP μ) (hX : ((0 ≤ a1.toInt ∧ a1.toInt ≤ 256 ∧ 1 ≤ a2.toInt ∧ a2.toInt ≤ 99) ∧ r1 = m_lr (μ.1 26) a1 a2 (μ.1 25 1).toNatClampNeg 0 0) ∨ (¬ (0 ≤ a1.toInt ∧ a1.toInt ≤ 256 ∧ 1 ≤ a2.toInt ∧ a2.toInt ≤ 99) ∧ r1 = -1)) (hM : ((0 ≤ a1.toInt ∧ a1.toInt ≤ 256 ∧ 1 ≤ a2.toInt ∧ a2.toInt ≤ 99) ∧ r2 = m_lr (μ.1 128) a1 a2 (μ.1 81 73).toNatClampNeg 0 0) ∨ (¬ (0 ≤ a1.toInt ∧ a1.toInt ≤ 256 ∧ 1 ≤ a2.toInt ∧ a2.toInt ≤ 99) ∧ r2 = -1)) : r1 = r2 := by
  obtain ⟨h1, h2⟩ := h
  rw [h1, m_lr_al (g := μ.1 128) _ _ _ (by rw [Nat.zero_add]; exact h2)] at hX
  rcases hX with ⟨x1, x2⟩ | ⟨x1, x2⟩ <;> rcases hM with ⟨y1, y2⟩ | ⟨y1, y2⟩
  · rw [x2, y2]
  · exact absurd x1 y1
  · exact absurd y1 x1
  · rw [x2, y2]
theorem m_RE.known {μ : mM} {r1 r2 a1 a2 a3 : Int32} (h : m_RE μ) (hX : ((0 ≤ a1.toInt ∧ a1.toInt ≤ 3 ∧ 0 ≤ a2.toInt ∧ a2.toInt ≤ 999) ∧ r1.toInt = m_kn (m_lw (μ.1 77) (μ.1 78) (μ.1 79) (μ.1 80) a1 a2 (μ.1 76 4).toNatClampNeg) (m_mt (μ.1 77) (μ.1 78) (μ.1 79) (μ.1 80) a1 a2 (μ.1 76 4).toNatClampNeg) a3.toInt) ∨ (¬ (0 ≤ a1.toInt ∧ a1.toInt ≤ 3 ∧ 0 ≤ a2.toInt ∧ a2.toInt ≤ 999) ∧ r1 = -1)) (hM : ((0 ≤ a1.toInt ∧ a1.toInt ≤ 3 ∧ 0 ≤ a2.toInt ∧ a2.toInt ≤ 999) ∧ r2.toInt = m_kn (m_lw (μ.1 124) (μ.1 125) (μ.1 127) (μ.1 126) a1 a2 (μ.1 81 67).toNatClampNeg) (m_mt (μ.1 124) (μ.1 125) (μ.1 127) (μ.1 126) a1 a2 (μ.1 81 67).toNatClampNeg) a3.toInt) ∨ (¬ (0 ≤ a1.toInt ∧ a1.toInt ≤ 3 ∧ 0 ≤ a2.toInt ∧ a2.toInt ≤ 999) ∧ r2 = -1)) : r1 = r2 := by
  obtain ⟨h1, h5, k1, k2, k3, k4, k5⟩ := h
  rw [h1, m_lw_al _ k1 k2 k3 k4, m_mt_al _ k1 k2 k3 k4] at hX
  rcases hX with ⟨x1, x2⟩ | ⟨x1, x2⟩ <;> rcases hM with ⟨y1, y2⟩ | ⟨y1, y2⟩
  · exact m_eqI (by rw [x2, y2])
  · exact absurd x1 y1
  · exact absurd y1 x1
  · rw [x2, y2]
theorem m_hbM {μ : mM} (h : m_RE μ) : m_hb (μ.1 81 67).toNatClampNeg (μ.1 125) := h.2.2.2.2.2.2
theorem m_hbX {μ : mM} (h : m_RE μ) : m_hb (μ.1 76 4).toNatClampNeg (μ.1 78) := by
  intro i hi
  rw [h.1] at hi
  rw [h.2.2.2.1 i hi]
  exact m_hbM h i hi
