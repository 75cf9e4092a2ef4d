-- LOST
def m_lr (f : Nat → Int32) (b k : Int32) : Nat → Nat → Int32 → Int32
  | 0, _, _ => -1
  | m + 1, i, run => if (if (f i).toInt < b.toInt then run + 1 else 0) = k then nI i - k + 1 else m_lr f b k m (i + 1) (if (f i).toInt < b.toInt then run + 1 else 0)
theorem m_nIc {x : Int32} (h : 0 ≤ x.toInt) : nI x.toNatClampNeg = x := by
  have h1 := m_ckI h
  have h2 := m_rng x
  exact m_eqI (by rw [nI_toInt (by omega)]; exact h1)
theorem m_lr1 {f : Nat → Int32} {b k t i run z rn : Int32} (hi : 0 ≤ i.toInt) (hit : i.toInt < t.toInt) (hz : z = f i.toNatClampNeg) (hr : (z.toInt < b.toInt ∧ rn = run + 1) ∨ (b.toInt ≤ z.toInt ∧ rn = 0)) : m_lr f b k (t.toNatClampNeg - i.toNatClampNeg) i.toNatClampNeg run = if rn = k then i - k + 1 else m_lr f b k (t.toNatClampNeg - (i.toNatClampNeg + 1)) (i.toNatClampNeg + 1) rn := by
  have c1 := m_ckI hi
  have c2 := m_ckI (x := t) (by omega)
  rw [show t.toNatClampNeg - i.toNatClampNeg = (t.toNatClampNeg - (i.toNatClampNeg + 1)) + 1 from by omega]
  show (if (if (f i.toNatClampNeg).toInt < b.toInt then run + 1 else 0) = k then nI i.toNatClampNeg - k + 1 else _) = _
  rw [← hz, m_nIc hi]
  rcases hr with ⟨h1, h2⟩ | ⟨h1, h2⟩
  · rw [if_pos h1, ← h2]
  · rw [if_neg (show ¬ z.toInt < b.toInt by omega), ← h2]
theorem m_lr_ret {f : Nat → Int32} {b k t i run z rn : Int32} (hi : 0 ≤ i.toInt) (hit : i.toInt < t.toInt) (hz : z = f i.toNatClampNeg) (hr : (z.toInt < b.toInt ∧ rn = run + 1) ∨ (b.toInt ≤ z.toInt ∧ rn = 0)) (hk : rn = k) : m_lr f b k (t.toNatClampNeg - i.toNatClampNeg) i.toNatClampNeg run = i - k + 1 := by
  rw [m_lr1 hi hit hz hr, if_pos hk]
theorem m_lr_go {f : Nat → Int32} {b k t i run z rn j : Int32} (hi : 0 ≤ i.toInt) (hit : i.toInt < t.toInt) (hz : z = f i.toNatClampNeg) (hr : (z.toInt < b.toInt ∧ rn = run + 1) ∨ (b.toInt ≤ z.toInt ∧ rn = 0)) (hk : ¬ rn = k) (hj : j.toInt = i.toInt + 1) : m_lr f b k (t.toNatClampNeg - j.toNatClampNeg) j.toNatClampNeg rn = m_lr f b k (t.toNatClampNeg - i.toNatClampNeg) i.toNatClampNeg run := by
  rw [m_lr1 hi hit hz hr, if_neg hk, m_cl1 hj hi]
theorem m_lr_end {f : Nat → Int32} {b k t i run : Int32} (hi : 0 ≤ i.toInt) (h : t.toInt ≤ i.toInt) : m_lr f b k (t.toNatClampNeg - i.toNatClampNeg) i.toNatClampNeg run = -1 := by
  rw [show t.toNatClampNeg - i.toNatClampNeg = 0 from by have := m_ckI hi; have : t.toNatClampNeg = t.toInt.toNat := rfl; omega]
  rfl
theorem m_lr_al {f g : Nat → Int32} {b k : Int32} : ∀ (m i : Nat) (run : Int32), m_al (i + m) f g → m_lr f b k m i run = m_lr g b k m i run
  | 0, _, _, _ => rfl
  | m + 1, i, run, h => by
    unfold m_lr
    rw [h i (by omega), m_lr_al m (i + 1) _ (fun j hj => h j (by omega))]
set_option maxHeartbeats 4000000 in
set_option maxRecDepth 100000 in
theorem L_X5_firstRunBelow_f_5 {p : Program} {l : Launch} {e : Env} {s : State} {m : MethodId} {args : Array Value} {below : List Frame} {meth : Method} {c : Code} {D : va_G} {cy : Nat → ClassId} {b : Nat} (hx : p.tables.exec = Jvm.exec) (hb : c.code = cX5_firstRunBelow) (hr : meth.sig.returnType = ((some .int))) (hml : c.maxLocals = 5) (hown : s.vm.findClass RX5 = some m.cls) (hts : ∀ w ∈ TB, w.before args s = true) (hlocks : meth.locks = false) (μ1 : mM) (t : Int32) (h_t : 0 ≤ t.toInt ∧ t.toInt ≤ 400) (fS : Nat → Int32) (u v : Int32) : ∀ (f : Nat), ∀ (y3 y4 : Int32) (hy : 0 ≤ y4.toInt ∧ y4.toInt ≤ 400) (hf : 400 - y4.toInt < (f : Int)) (μ : mM) (hI : IX μ) (hm : μ = μ1) (ht : μ.1 25 1 = t) (hfS : μ.1 26 = fS) (hsp : m_lr fS u v (t.toNatClampNeg - y4.toNatClampNeg) y4.toNatClampNeg y3 = m_lr fS u v t.toNatClampNeg 0 0) (H : Heap) (locs : List Loc), m_WA (m_A b LAY) D cy s b LAY μ H locs → ∀ ls : Array Slot, lv_has ls 5 [(0, .ref (b + 25)), (1, .int u), (2, .int v), (3, .int y3), (4, .int y4)] → W p l e (m_R 0 0 0) s m args below meth c H locs 0 0 (MQ below (m_Qi D cy b LAY (fun r ν => μ1 = ν ∧ (r = m_lr fS u v t.toNatClampNeg 0 0))) args s 0 0 (m_A b LAY)) (F0 m 5 ls []) := by
  intro f
  induction f with
  | zero => intro y3 y4 hy hf; exfalso; omega
  | succ f ih =>
    intro y3 y4 hy hf μ hI hm ht hfS hsp H locs hW ls hl
    refine lv_iload hx hb dX5_firstRunBelow_5 (lv_at hl 4 rfl) ?_
    refine lv_aload_n hx hb dX5_firstRunBelow_7 rfl (lv_at hl 0 rfl) ?_
    refine m_geti hx hb hts hown hW (25) 1 rfl rfl cw_5 rfl (by decide) k_X5_9 dX5_firstRunBelow_8 ?_
    refine lv_topi (fun x1 ex1 => ?_)
    have ex1 : x1 = t := by rw [ex1]; exact ht
    have ex1 := ex1.symm
    subst ex1
    refine lv_icmp_ge (tgt := 51) hx hb dX5_firstRunBelow_11 (by decide) (fun c2 => ?_) (fun c2 => ?_)
    · have i2 := m_c3 (rfl : t.toInt = _) (rfl : y4.toInt = _) c2
      refine lv_iconst (v := (-1)) hx hb dX5_firstRunBelow_51 (by decide) ?_
      exact m_iret hx hb hr hlocks hW rfl (⟨hm.symm, ((m_lr_end (by omega) (by omega)).symm.trans hsp)⟩) dX5_firstRunBelow_52
    · have i2 := m_c4 (rfl : t.toInt = _) (rfl : y4.toInt = _) c2
      refine lv_aload_n hx hb dX5_firstRunBelow_14 rfl (lv_at hl 0 rfl) ?_
      refine m_getr hx hb hts hown hW (25) 0 (26) rfl rfl cw_5 rfl (by decide) k_X5_21 dX5_firstRunBelow_15 ?_
      refine lv_iload hx hb dX5_firstRunBelow_18 (lv_at hl 4 rfl) ?_
      refine m_iald hx hb hW (26) rfl (m_ixI (rfl : y4.toInt = _) (by omega) (by omega)) dX5_firstRunBelow_20 ?_
      refine lv_topi (fun x3 ex3 => ?_)
      refine lv_iload_n hx hb dX5_firstRunBelow_21 rfl (lv_at hl 1 rfl) ?_
      refine lv_icmp_ge (tgt := 31) hx hb dX5_firstRunBelow_22 (by decide) (fun c4 => ?_) (fun c4 => ?_)
      · have i4 := m_c3 (rfl : u.toInt = _) (rfl : x3.toInt = _) c4
        refine lv_iconst (v := 0) hx hb dX5_firstRunBelow_31 (by decide) ?_
        refine lv_istore_n (lv' := [(3, .int 0), (0, .ref (b + 25)), (1, .int u), (2, .int v), (4, .int y4)]) hx hb dX5_firstRunBelow_32 rfl hl (by decide) rfl (fun ls hl => ?_)
        refine lv_iload_n hx hb dX5_firstRunBelow_33 rfl (lv_at hl 0 rfl) ?_
        refine lv_iload_n hx hb dX5_firstRunBelow_34 rfl (lv_at hl 3 rfl) ?_
        refine lv_icmp_ne (tgt := 45) hx hb dX5_firstRunBelow_35 (by decide) (fun c5 => ?_) (fun c5 => ?_)
        · have i5 := m_c6 (by decide : (0 : Int32).toInt = 0) (rfl : v.toInt = _) c5
          obtain ⟨x6, ex6⟩ : ∃ z : Int32, z = y4 + 1 := ⟨_, rfl⟩
          refine lv_iinc (v := x6) (lv' := [(4, .int x6), (3, .int 0), (0, .ref (b + 25)), (1, .int u), (2, .int v)]) hx hb dX5_firstRunBelow_45 hl (k := 4) rfl (by rw [ex6]; rfl) (by decide) rfl (fun ls hl => ?_)
          have tx6 : x6.toInt = y4.toInt + 1 := m_addI ex6 (rfl : y4.toInt = _) (by decide : (1 : Int32).toInt = 1) (by omega) (by omega)
          refine lv_goto (tgt := 5) hx hb dX5_firstRunBelow_48 (by decide) ?_
          have l_0 : (0 : Int32).toInt = 0 := by decide
          exact ih 0 x6 (by omega) (by omega) μ hI hm (by exact ht) (hfS) ((m_lr_go (z := x3) (by omega) (by omega) (by rw [ex3, hfS]) (Or.inr ⟨by omega, rfl⟩) (by assumption) (by omega)).trans hsp) _ _ hW ls (lv_sub hl [2, 3, 4, 1, 0] rfl)
        · have i5 := m_c5 (by decide : (0 : Int32).toInt = 0) (rfl : v.toInt = _) c5
          refine lv_iload hx hb dX5_firstRunBelow_38 (lv_at hl 4 rfl) ?_
          refine lv_iload_n hx hb dX5_firstRunBelow_40 rfl (lv_at hl 3 rfl) ?_
          refine lv_isub hx hb dX5_firstRunBelow_41 ?_
          refine lv_topi (fun x7 ex7 => ?_)
          have tx7 : x7.toInt = y4.toInt - v.toInt := m_subI ex7 (rfl : y4.toInt = _) (rfl : v.toInt = _) (by omega) (by omega)
          refine lv_iconst (v := 1) hx hb dX5_firstRunBelow_42 (by decide) ?_
          refine lv_iadd hx hb dX5_firstRunBelow_43 ?_
          refine lv_topi (fun x8 ex8 => ?_)
          have tx8 : x8.toInt = x7.toInt + 1 := m_addI ex8 (rfl : x7.toInt = _) (by decide : (1 : Int32).toInt = 1) (by omega) (by omega)
          exact m_iret hx hb hr hlocks hW rfl (⟨hm.symm, (by rw [← hsp, ex8, ex7]; exact (m_lr_ret (z := x3) (rn := 0) (by omega) (by omega) (by rw [ex3, hfS]) (Or.inr ⟨by omega, rfl⟩) (by assumption)).symm)⟩) dX5_firstRunBelow_44
      · have i4 := m_c4 (rfl : u.toInt = _) (rfl : x3.toInt = _) c4
        refine lv_iload_n hx hb dX5_firstRunBelow_25 rfl (lv_at hl 3 rfl) ?_
        refine lv_iconst (v := 1) hx hb dX5_firstRunBelow_26 (by decide) ?_
        refine lv_iadd hx hb dX5_firstRunBelow_27 ?_
        refine lv_topi (fun x9 ex9 => ?_)
        refine lv_goto (tgt := 32) hx hb dX5_firstRunBelow_28 (by decide) ?_
        refine lv_istore_n (lv' := [(3, .int x9), (0, .ref (b + 25)), (1, .int u), (2, .int v), (4, .int y4)]) hx hb dX5_firstRunBelow_32 rfl hl (by decide) rfl (fun ls hl => ?_)
        refine lv_iload_n hx hb dX5_firstRunBelow_33 rfl (lv_at hl 0 rfl) ?_
        refine lv_iload_n hx hb dX5_firstRunBelow_34 rfl (lv_at hl 3 rfl) ?_
        refine lv_icmp_ne (tgt := 45) hx hb dX5_firstRunBelow_35 (by decide) (fun c10 => ?_) (fun c10 => ?_)
        · have i10 := m_c6 (rfl : x9.toInt = _) (rfl : v.toInt = _) c10
          obtain ⟨x11, ex11⟩ : ∃ z : Int32, z = y4 + 1 := ⟨_, rfl⟩
          refine lv_iinc (v := x11) (lv' := [(4, .int x11), (3, .int x9), (0, .ref (b + 25)), (1, .int u), (2, .int v)]) hx hb dX5_firstRunBelow_45 hl (k := 4) rfl (by rw [ex11]; rfl) (by decide) rfl (fun ls hl => ?_)
          have tx11 : x11.toInt = y4.toInt + 1 := m_addI ex11 (rfl : y4.toInt = _) (by decide : (1 : Int32).toInt = 1) (by omega) (by omega)
          refine lv_goto (tgt := 5) hx hb dX5_firstRunBelow_48 (by decide) ?_
          exact ih x9 x11 (by omega) (by omega) μ hI hm (by exact ht) (hfS) ((m_lr_go (z := x3) (by omega) (by omega) (by rw [ex3, hfS]) (Or.inl ⟨by omega, ex9⟩) (by assumption) (by omega)).trans hsp) _ _ hW ls (lv_sub hl [2, 3, 4, 1, 0] rfl)
        · have i10 := m_c5 (rfl : x9.toInt = _) (rfl : v.toInt = _) c10
          refine lv_iload hx hb dX5_firstRunBelow_38 (lv_at hl 4 rfl) ?_
          refine lv_iload_n hx hb dX5_firstRunBelow_40 rfl (lv_at hl 3 rfl) ?_
          refine lv_isub hx hb dX5_firstRunBelow_41 ?_
          refine lv_topi (fun x12 ex12 => ?_)
          refine lv_iconst (v := 1) hx hb dX5_firstRunBelow_42 (by decide) ?_
          refine lv_iadd hx hb dX5_firstRunBelow_43 ?_
          refine lv_topi (fun x13 ex13 => ?_)
          exact m_iret hx hb hr hlocks hW rfl (⟨hm.symm, (by rw [← hsp, ex13, ex12]; exact (m_lr_ret (z := x3) (rn := x9) (by omega) (by omega) (by rw [ex3, hfS]) (Or.inl ⟨by omega, ex9⟩) (by assumption)).symm)⟩) dX5_firstRunBelow_44
set_option maxHeartbeats 4000000 in
set_option maxRecDepth 100000 in
theorem g_X5_firstRunBelow_f (l : Launch) (D : va_G) (cy : Nat → ClassId) (b : Nat) (t : Int32) (h_t : 0 ≤ t.toInt ∧ t.toInt ≤ 400) (fS : Nat → Int32) (u v : Int32) (μ : mM) (hI : IX μ) (ht : μ.1 25 1 = t) (hfS : μ.1 26 = fS) : m_Ci l yX5_firstRunBelow cX5_firstRunBelow 5 ((some .int)) 0 D cy b LAY μ [.ref (b + 25), .int u, .int v] (fun r ν => μ = ν ∧ (r = m_lr fS u v t.toNatClampNeg 0 0)) := by
  unfold m_Ci
  refine m_of (by decide) (Nat.le_of_ble_eq_true rfl) ?_
  intro p e s m below meth c hx hb hr hml hown hts hlocks _ hW ls hl
  have hown : s.vm.findClass RX5 = some m.cls := hown
  have hl : lv_has ls 5 [(0, .ref (b + 25)), (1, .int u), (2, .int v)] := hl
  refine lv_iconst (v := 0) hx hb dX5_firstRunBelow_0 (by decide) ?_
  refine lv_istore_n (lv' := [(3, .int 0), (0, .ref (b + 25)), (1, .int u), (2, .int v)]) hx hb dX5_firstRunBelow_1 rfl hl (by decide) rfl (fun ls hl => ?_)
  refine lv_iconst (v := 0) hx hb dX5_firstRunBelow_2 (by decide) ?_
  refine lv_istore (lv' := [(4, .int 0), (3, .int 0), (0, .ref (b + 25)), (1, .int u), (2, .int v)]) hx hb dX5_firstRunBelow_3 hl (by decide) rfl (fun ls hl => ?_)
  have l_0 : (0 : Int32).toInt = 0 := by decide
  exact L_X5_firstRunBelow_f_5 hx hb hr hml hown hts hlocks μ t h_t fS u v  401 0 0 (by omega) (by omega) μ hI rfl (by exact ht) (hfS) (rfl) _ _ hW ls (lv_sub hl [2, 3, 4, 1, 0] rfl)
set_option maxHeartbeats 4000000 in
set_option maxRecDepth 100000 in
theorem g_X11_lost_f (l : Launch) (D : va_G) (cy : Nat → ClassId) (b : Nat) (t : Int32) (h_t : 0 ≤ t.toInt ∧ t.toInt ≤ 400) (fS : Nat → Int32) (k u : Int32) (μ : mM) (hI : IX μ) (ht : μ.1 25 1 = t) (hfS : μ.1 26 = fS) : m_Ci l yX11_lost cX11_lost 3 ((some .int)) 1 D cy b LAY μ [.ref (b + 0), .int k, .int u] (fun r ν => μ = ν ∧ (((0 ≤ k.toInt ∧ k.toInt ≤ 256 ∧ 1 ≤ u.toInt ∧ u.toInt ≤ 99) ∧ r = m_lr fS k u t.toNatClampNeg 0 0) ∨ (¬ (0 ≤ k.toInt ∧ k.toInt ≤ 256 ∧ 1 ≤ u.toInt ∧ u.toInt ≤ 99) ∧ r = -1))) := by
  unfold m_Ci
  refine m_of (by decide) (Nat.le_of_ble_eq_true rfl) ?_
  intro p e s m below meth c hx hb hr hml hown hts hlocks _ hW ls hl
  have hown : s.vm.findClass RX11 = some m.cls := hown
  have hl : lv_has ls 3 [(0, .ref (b + 0)), (1, .int k), (2, .int u)] := hl
  refine lv_iload_n hx hb dX11_lost_0 rfl (lv_at hl 1 rfl) ?_
  refine lv_iconst (v := 0) hx hb dX11_lost_1 (by decide) ?_
  refine lv_sipush (v := 256) hx hb dX11_lost_2 (by decide) ?_
  have l_0 : (0 : Int32).toInt = 0 := by decide
  have l_256 : (256 : Int32).toInt = 256 := by decide
  refine m_aI hW (m_runS (As := [.int k, .int 0, .int 256]) (rest := []) hx hb hml hown hts hW (g_X11_within l D cy b k 0 256 μ hI) ms_X11_within k_X11_81 rfl hl.1 rfl (Nat.le_of_ble_eq_true rfl) dX11_lost_5 ⟨Nat.le_of_ble_eq_true rfl, Nat.le_of_ble_eq_true rfl⟩ ⟨Nat.le_of_ble_eq_true rfl, Nat.le_of_ble_eq_true rfl⟩) (fun x1 μ1 H locs q1 hW => ?_)
  obtain ⟨q1_m, q1⟩ := q1
  subst q1_m
  rcases q1 with ⟨rfl, q1⟩ | ⟨rfl, q1⟩
  · refine lv_if_eq (tgt := 21) hx hb dX11_lost_8 (by decide) (fun c => False.elim (by revert c; decide)) (fun _ => ?_)
    refine lv_iload_n hx hb dX11_lost_11 rfl (lv_at hl 2 rfl) ?_
    refine lv_iconst (v := 1) hx hb dX11_lost_12 (by decide) ?_
    refine lv_bipush (v := 99) hx hb dX11_lost_13 (by decide) ?_
    have l_1 : (1 : Int32).toInt = 1 := by decide
    have l_99 : (99 : Int32).toInt = 99 := by decide
    refine m_aI hW (m_runS (As := [.int u, .int 1, .int 99]) (rest := []) hx hb hml hown hts hW (g_X11_within l D cy b u 1 99 μ hI) ms_X11_within k_X11_81 rfl hl.1 rfl (Nat.le_of_ble_eq_true rfl) dX11_lost_15 ⟨Nat.le_of_ble_eq_true rfl, Nat.le_of_ble_eq_true rfl⟩ ⟨Nat.le_of_ble_eq_true rfl, Nat.le_of_ble_eq_true rfl⟩) (fun x2 μ2 H locs q2 hW => ?_)
    obtain ⟨q2_m, q2⟩ := q2
    subst q2_m
    rcases q2 with ⟨rfl, q2⟩ | ⟨rfl, q2⟩
    · refine lv_if_ne (tgt := 23) hx hb dX11_lost_18 (by decide) (fun _ => ?_) (fun c => False.elim (by revert c; decide))
      refine lv_aload_n hx hb dX11_lost_23 rfl (lv_at hl 0 rfl) ?_
      refine m_getr hx hb hts hown hW (0) 2 (25) rfl rfl cw_11 rfl (by decide) k_X11_25 dX11_lost_24 ?_
      refine lv_iload_n hx hb dX11_lost_27 rfl (lv_at hl 1 rfl) ?_
      refine lv_iload_n hx hb dX11_lost_28 rfl (lv_at hl 2 rfl) ?_
      refine m_aI hW (m_runV (As := [.int k, .int u]) (rest := []) hx hb hml hown hts hW (25) (g_X5_firstRunBelow_f l D cy b t (by omega) (μ.1 26) k u μ hI (by exact ht) rfl) mi_X5_firstRunBelow k_X11_264 rfl rfl rfl hl.1 rfl (Nat.le_of_ble_eq_true rfl) dX11_lost_29 ⟨Nat.le_of_ble_eq_true rfl, Nat.le_of_ble_eq_true rfl⟩ ⟨Nat.le_of_ble_eq_true rfl, Nat.le_of_ble_eq_true rfl⟩) (fun x3 μ3 H locs q3 hW => ?_)
      obtain ⟨q3_m, q3⟩ := q3
      subst q3_m
      exact m_iret hx hb hr hlocks hW rfl (⟨rfl, Or.inl ⟨by omega, by rw [q3, hfS]⟩⟩) dX11_lost_32
    · refine lv_if_ne (tgt := 23) hx hb dX11_lost_18 (by decide) (fun c => False.elim (by revert c; decide)) (fun _ => ?_)
      refine lv_iconst (v := (-1)) hx hb dX11_lost_21 (by decide) ?_
      exact m_iret hx hb hr hlocks hW rfl (⟨rfl, Or.inr ⟨by omega, rfl⟩⟩) dX11_lost_22
  · refine lv_if_eq (tgt := 21) hx hb dX11_lost_8 (by decide) (fun _ => ?_) (fun c => False.elim (by revert c; decide))
    refine lv_iconst (v := (-1)) hx hb dX11_lost_21 (by decide) ?_
    exact m_iret hx hb hr hlocks hW rfl (⟨rfl, Or.inr ⟨by omega, rfl⟩⟩) dX11_lost_22
set_option maxHeartbeats 4000000 in
set_option maxRecDepth 100000 in
theorem L_X12_lost_f_35 {p : Program} {l : Launch} {e : Env} {s : State} {m : MethodId} {args : Array Value} {below : List Frame} {meth : Method} {c : Code} {D : va_G} {cy : Nat → ClassId} {b : Nat} (hx : p.tables.exec = Jvm.exec) (hb : c.code = cX12_lost) (hr : meth.sig.returnType = ((some .int))) (hml : c.maxLocals = 5) (hown : s.vm.findClass RX12 = some m.cls) (hts : ∀ w ∈ TB, w.before args s = true) (hlocks : meth.locks = false) (S : Nat → Bool) (μ0 : mM) (hS20 : S 20 = true) (t : Int32) (h_t : 0 ≤ t.toInt ∧ t.toInt ≤ 400) (fS : Nat → Int32) (k u : Int32) : ∀ (f : Nat), ∀ (y3 y4 : Int32) (hy : 0 ≤ y4.toInt ∧ y4.toInt ≤ 400 ∧ 0 ≤ k.toInt ∧ k.toInt ≤ 256 ∧ 1 ≤ u.toInt ∧ u.toInt ≤ 99) (hf : 400 - y4.toInt < (f : Int)) (μ : mM) (hI : IY S μ0 μ) (ht : μ.1 81 73 = t) (hfS : μ.1 128 = fS) (hsp : m_lr fS k u (t.toNatClampNeg - y4.toNatClampNeg) y4.toNatClampNeg y3 = m_lr fS k u t.toNatClampNeg 0 0) (H : Heap) (locs : List Loc), m_WA (m_A b LAY) D cy s b LAY μ H locs → ∀ ls : Array Slot, lv_has ls 5 [(0, .ref (b + 81)), (1, .int k), (2, .int u), (3, .int y3), (4, .int y4)] → W p l e (m_R 1 0 0) s m args below meth c H locs 0 0 (MQ below (m_Qi D cy b LAY (fun r ν => IY S μ0 ν ∧ (((0 ≤ k.toInt ∧ k.toInt ≤ 256 ∧ 1 ≤ u.toInt ∧ u.toInt ≤ 99) ∧ r = m_lr fS k u t.toNatClampNeg 0 0) ∨ (¬ (0 ≤ k.toInt ∧ k.toInt ≤ 256 ∧ 1 ≤ u.toInt ∧ u.toInt ≤ 99) ∧ r = -1)))) args s 0 0 (m_A b LAY)) (F0 m 35 ls []) := by
  intro f
  induction f with
  | zero => intro y3 y4 hy hf; exfalso; omega
  | succ f ih =>
    intro y3 y4 hy hf μ hI ht hfS hsp H locs hW ls hl
    refine lv_iload hx hb dX12_lost_35 (lv_at hl 4 rfl) ?_
    refine lv_aload_n hx hb dX12_lost_37 rfl (lv_at hl 0 rfl) ?_
    refine m_geti hx hb hts hown hW (81) 73 rfl rfl cw_12 rfl (by decide) k_X12_404 dX12_lost_38 ?_
    refine lv_topi (fun x1 ex1 => ?_)
    have ex1 : x1 = t := by rw [ex1]; exact ht
    have ex1 := ex1.symm
    subst ex1
    refine lv_icmp_ge (tgt := 81) hx hb dX12_lost_41 (by decide) (fun c2 => ?_) (fun c2 => ?_)
    · have i2 := m_c3 (rfl : t.toInt = _) (rfl : y4.toInt = _) c2
      refine lv_iconst (v := (-1)) hx hb dX12_lost_81 (by decide) ?_
      exact m_iret hx hb hr hlocks hW rfl (⟨hI, Or.inl ⟨by omega, ((m_lr_end (by omega) (by omega)).symm.trans hsp)⟩⟩) dX12_lost_82
    · have i2 := m_c4 (rfl : t.toInt = _) (rfl : y4.toInt = _) c2
      refine lv_aload_n hx hb dX12_lost_44 rfl (lv_at hl 0 rfl) ?_
      refine m_getr hx hb hts hown hW (81) 72 (128) rfl rfl cw_12 rfl (by decide) k_X12_164 dX12_lost_45 ?_
      refine lv_iload hx hb dX12_lost_48 (lv_at hl 4 rfl) ?_
      refine m_iald hx hb hW (128) rfl (m_ixI (rfl : y4.toInt = _) (by omega) (by omega)) dX12_lost_50 ?_
      refine lv_topi (fun x3 ex3 => ?_)
      refine lv_iload_n hx hb dX12_lost_51 rfl (lv_at hl 1 rfl) ?_
      refine lv_icmp_ge (tgt := 61) hx hb dX12_lost_52 (by decide) (fun c4 => ?_) (fun c4 => ?_)
      · have i4 := m_c3 (rfl : k.toInt = _) (rfl : x3.toInt = _) c4
        refine lv_iconst (v := 0) hx hb dX12_lost_61 (by decide) ?_
        refine lv_istore_n (lv' := [(3, .int 0), (0, .ref (b + 81)), (1, .int k), (2, .int u), (4, .int y4)]) hx hb dX12_lost_62 rfl hl (by decide) rfl (fun ls hl => ?_)
        refine lv_iload_n hx hb dX12_lost_63 rfl (lv_at hl 0 rfl) ?_
        refine lv_iload_n hx hb dX12_lost_64 rfl (lv_at hl 3 rfl) ?_
        refine lv_icmp_ne (tgt := 75) hx hb dX12_lost_65 (by decide) (fun c5 => ?_) (fun c5 => ?_)
        · have i5 := m_c6 (by decide : (0 : Int32).toInt = 0) (rfl : u.toInt = _) c5
          obtain ⟨x6, ex6⟩ : ∃ z : Int32, z = y4 + 1 := ⟨_, rfl⟩
          refine lv_iinc (v := x6) (lv' := [(4, .int x6), (3, .int 0), (0, .ref (b + 81)), (1, .int k), (2, .int u)]) hx hb dX12_lost_75 hl (k := 4) rfl (by rw [ex6]; rfl) (by decide) rfl (fun ls hl => ?_)
          have tx6 : x6.toInt = y4.toInt + 1 := m_addI ex6 (rfl : y4.toInt = _) (by decide : (1 : Int32).toInt = 1) (by omega) (by omega)
          refine lv_goto (tgt := 35) hx hb dX12_lost_78 (by decide) ?_
          have l_0 : (0 : Int32).toInt = 0 := by decide
          exact ih 0 x6 (by omega) (by omega) μ hI (by exact ht) (hfS) ((m_lr_go (z := x3) (by omega) (by omega) (by rw [ex3, hfS]) (Or.inr ⟨by omega, rfl⟩) (by assumption) (by omega)).trans hsp) _ _ hW ls (lv_sub hl [2, 3, 4, 1, 0] rfl)
        · have i5 := m_c5 (by decide : (0 : Int32).toInt = 0) (rfl : u.toInt = _) c5
          exfalso; omega
      · have i4 := m_c4 (rfl : k.toInt = _) (rfl : x3.toInt = _) c4
        refine lv_iload_n hx hb dX12_lost_55 rfl (lv_at hl 3 rfl) ?_
        refine lv_iconst (v := 1) hx hb dX12_lost_56 (by decide) ?_
        refine lv_iadd hx hb dX12_lost_57 ?_
        refine lv_topi (fun x7 ex7 => ?_)
        refine lv_goto (tgt := 62) hx hb dX12_lost_58 (by decide) ?_
        refine lv_istore_n (lv' := [(3, .int x7), (0, .ref (b + 81)), (1, .int k), (2, .int u), (4, .int y4)]) hx hb dX12_lost_62 rfl hl (by decide) rfl (fun ls hl => ?_)
        refine lv_iload_n hx hb dX12_lost_63 rfl (lv_at hl 0 rfl) ?_
        refine lv_iload_n hx hb dX12_lost_64 rfl (lv_at hl 3 rfl) ?_
        refine lv_icmp_ne (tgt := 75) hx hb dX12_lost_65 (by decide) (fun c8 => ?_) (fun c8 => ?_)
        · have i8 := m_c6 (rfl : x7.toInt = _) (rfl : u.toInt = _) c8
          obtain ⟨x9, ex9⟩ : ∃ z : Int32, z = y4 + 1 := ⟨_, rfl⟩
          refine lv_iinc (v := x9) (lv' := [(4, .int x9), (3, .int x7), (0, .ref (b + 81)), (1, .int k), (2, .int u)]) hx hb dX12_lost_75 hl (k := 4) rfl (by rw [ex9]; rfl) (by decide) rfl (fun ls hl => ?_)
          have tx9 : x9.toInt = y4.toInt + 1 := m_addI ex9 (rfl : y4.toInt = _) (by decide : (1 : Int32).toInt = 1) (by omega) (by omega)
          refine lv_goto (tgt := 35) hx hb dX12_lost_78 (by decide) ?_
          exact ih x7 x9 (by omega) (by omega) μ hI (by exact ht) (hfS) ((m_lr_go (z := x3) (by omega) (by omega) (by rw [ex3, hfS]) (Or.inl ⟨by omega, ex7⟩) (by assumption) (by omega)).trans hsp) _ _ hW ls (lv_sub hl [2, 3, 4, 1, 0] rfl)
        · have i8 := m_c5 (rfl : x7.toInt = _) (rfl : u.toInt = _) c8
          refine lv_iload hx hb dX12_lost_68 (lv_at hl 4 rfl) ?_
          refine lv_iload_n hx hb dX12_lost_70 rfl (lv_at hl 3 rfl) ?_
          refine lv_isub hx hb dX12_lost_71 ?_
          refine lv_topi (fun x10 ex10 => ?_)
          have tx10 : x10.toInt = y4.toInt - u.toInt := m_subI ex10 (rfl : y4.toInt = _) (rfl : u.toInt = _) (by omega) (by omega)
          refine lv_iconst (v := 1) hx hb dX12_lost_72 (by decide) ?_
          refine lv_iadd hx hb dX12_lost_73 ?_
          refine lv_topi (fun x11 ex11 => ?_)
          have tx11 : x11.toInt = x10.toInt + 1 := m_addI ex11 (rfl : x10.toInt = _) (by decide : (1 : Int32).toInt = 1) (by omega) (by omega)
          exact m_iret hx hb hr hlocks hW rfl (⟨hI, Or.inl ⟨by omega, (by rw [← hsp, ex11, ex10]; exact (m_lr_ret (z := x3) (rn := x7) (by omega) (by omega) (by rw [ex3, hfS]) (Or.inl ⟨by omega, ex7⟩) (by assumption)).symm)⟩⟩) dX12_lost_74
set_option maxHeartbeats 4000000 in
set_option maxRecDepth 100000 in
theorem g_X12_lost_f (l : Launch) (D : va_G) (cy : Nat → ClassId) (b : Nat) (S : Nat → Bool) (μ0 : mM) (hS20 : S 20 = true) (t : Int32) (h_t : 0 ≤ t.toInt ∧ t.toInt ≤ 400) (fS : Nat → Int32) (k u : Int32) (μ : mM) (hI : IY S μ0 μ) (ht : μ.1 81 73 = t) (hfS : μ.1 128 = fS) : m_Ci l yX12_lost cX12_lost 5 ((some .int)) 1 D cy b LAY μ [.ref (b + 81), .int k, .int u] (fun r ν => IY S μ0 ν ∧ (((0 ≤ k.toInt ∧ k.toInt ≤ 256 ∧ 1 ≤ u.toInt ∧ u.toInt ≤ 99) ∧ r = m_lr fS k u t.toNatClampNeg 0 0) ∨ (¬ (0 ≤ k.toInt ∧ k.toInt ≤ 256 ∧ 1 ≤ u.toInt ∧ u.toInt ≤ 99) ∧ r = -1))) := by
  unfold m_Ci
  refine m_of (by decide) (Nat.le_of_ble_eq_true rfl) ?_
  intro p e s m below meth c hx hb hr hml hown hts hlocks _ hW ls hl
  have hown : s.vm.findClass RX12 = some m.cls := hown
  have hl : lv_has ls 5 [(0, .ref (b + 81)), (1, .int k), (2, .int u)] := hl
  refine lv_aload_n hx hb dX12_lost_0 rfl (lv_at hl 0 rfl) ?_
  refine lv_iconst (v := 0) hx hb dX12_lost_1 (by decide) ?_
  refine m_puti hx hb hts hown hW (81) 0 rfl rfl cw_12 tyX12_ok nmX12 rfl (by decide) k_X12_167 rfl rfl rfl dX12_lost_2 (fun H locs hW _ => ?_)
  generalize hμ1 : m_si μ (81) 0 0 = μ1 at hW
  have hI := hI.si0 hμ1 rfl hS20
  refine lv_aload_n hx hb dX12_lost_5 rfl (lv_at hl 0 rfl) ?_
  refine lv_iload_n hx hb dX12_lost_6 rfl (lv_at hl 1 rfl) ?_
  refine lv_iconst (v := 0) hx hb dX12_lost_7 (by decide) ?_
  refine lv_sipush (v := 256) hx hb dX12_lost_8 (by decide) ?_
  have l_0 : (0 : Int32).toInt = 0 := by decide
  have l_256 : (256 : Int32).toInt = 256 := by decide
  refine m_aI hW (m_runV (As := [.int k, .int 0, .int 256]) (rest := []) hx hb hml hown hts hW (81) (g_X12_isIn l D cy b k 0 256 μ1 hI.1) mi_X12_isIn k_X12_170 rfl rfl rfl hl.1 rfl (Nat.le_of_ble_eq_true rfl) dX12_lost_11 ⟨Nat.le_of_ble_eq_true rfl, Nat.le_of_ble_eq_true rfl⟩ ⟨Nat.le_of_ble_eq_true rfl, Nat.le_of_ble_eq_true rfl⟩) (fun x2 μ2 H locs q2 hW => ?_)
  obtain ⟨q2_m, q2⟩ := q2
  subst q2_m
  rcases q2 with ⟨rfl, q2⟩ | ⟨rfl, q2⟩
  · refine lv_if_eq (tgt := 28) hx hb dX12_lost_14 (by decide) (fun c => False.elim (by revert c; decide)) (fun _ => ?_)
    refine lv_aload_n hx hb dX12_lost_17 rfl (lv_at hl 0 rfl) ?_
    refine lv_iload_n hx hb dX12_lost_18 rfl (lv_at hl 2 rfl) ?_
    refine lv_iconst (v := 1) hx hb dX12_lost_19 (by decide) ?_
    refine lv_bipush (v := 99) hx hb dX12_lost_20 (by decide) ?_
    have l_1 : (1 : Int32).toInt = 1 := by decide
    have l_99 : (99 : Int32).toInt = 99 := by decide
    refine m_aI hW (m_runV (As := [.int u, .int 1, .int 99]) (rest := []) hx hb hml hown hts hW (81) (g_X12_isIn l D cy b u 1 99 μ1 hI.1) mi_X12_isIn k_X12_170 rfl rfl rfl hl.1 rfl (Nat.le_of_ble_eq_true rfl) dX12_lost_22 ⟨Nat.le_of_ble_eq_true rfl, Nat.le_of_ble_eq_true rfl⟩ ⟨Nat.le_of_ble_eq_true rfl, Nat.le_of_ble_eq_true rfl⟩) (fun x3 μ3 H locs q3 hW => ?_)
    obtain ⟨q3_m, q3⟩ := q3
    subst q3_m
    rcases q3 with ⟨rfl, q3⟩ | ⟨rfl, q3⟩
    · refine lv_if_ne (tgt := 30) hx hb dX12_lost_25 (by decide) (fun _ => ?_) (fun c => False.elim (by revert c; decide))
      refine lv_iconst (v := 0) hx hb dX12_lost_30 (by decide) ?_
      refine lv_istore_n (lv' := [(3, .int 0), (0, .ref (b + 81)), (1, .int k), (2, .int u)]) hx hb dX12_lost_31 rfl hl (by decide) rfl (fun ls hl => ?_)
      refine lv_iconst (v := 0) hx hb dX12_lost_32 (by decide) ?_
      refine lv_istore (lv' := [(4, .int 0), (3, .int 0), (0, .ref (b + 81)), (1, .int k), (2, .int u)]) hx hb dX12_lost_33 hl (by decide) rfl (fun ls hl => ?_)
      exact L_X12_lost_f_35 hx hb hr hml hown hts hlocks S μ0 hS20 t h_t fS k u  401 0 0 (by omega) (by omega) μ1 hI (by rw [← hμ1]; exact ht) (by rw [show μ1.1 128 = μ.1 128 from by rw [← hμ1]; exact m_si_row (by decide)]; exact hfS) (rfl) _ _ hW ls (lv_sub hl [2, 3, 4, 1, 0] rfl)
    · refine lv_if_ne (tgt := 30) hx hb dX12_lost_25 (by decide) (fun c => False.elim (by revert c; decide)) (fun _ => ?_)
      refine lv_iconst (v := (-1)) hx hb dX12_lost_28 (by decide) ?_
      exact m_iret hx hb hr hlocks hW rfl (⟨hI, Or.inr ⟨by omega, rfl⟩⟩) dX12_lost_29
  · refine lv_if_eq (tgt := 28) hx hb dX12_lost_14 (by decide) (fun _ => ?_) (fun c => False.elim (by revert c; decide))
    refine lv_iconst (v := (-1)) hx hb dX12_lost_28 (by decide) ?_
    exact m_iret hx hb hr hlocks hW rfl (⟨hI, Or.inr ⟨by omega, rfl⟩⟩) dX12_lost_29
