-- RUNS: the depth is that of the step; what is left falls
def m_RS (μ : mM) (fo : Nat → Int32) (k y d : Int32) (gs : Int) : Prop := (∀ i, μ.1 108 (400 * k.toNatClampNeg + i) = fo i) ∧ m_dep fo y.toNatClampNeg = d.toInt ∧ (∀ i : Nat, (i : Int) < d.toInt → 1 ≤ (μ.1 119 i).toInt ∧ (μ.1 119 i).toInt ≤ 99) ∧ m_sn (μ.1 119) d.toNatClampNeg = gs
theorem m_RS.cg {μ ν : mM} {fo : Nat → Int32} {k y d : Int32} {gs : Int} (h : m_RS μ fo k y d gs) (h1 : ν.1 108 = μ.1 108) (h2 : ν.1 119 = μ.1 119) : m_RS ν fo k y d gs := by
  unfold m_RS
  rw [h1, h2]
  exact h
theorem m_RS.fr {S : Nat → Bool} {μ ν : mM} {fo : Nat → Int32} {k y d : Int32} {gs : Int} (h : m_RS μ fo k y d gs) (hJ : IY S μ ν) (h1 : S 41 = false) (h2 : S 38 = false) : m_RS ν fo k y d gs :=
  h.cg (funext fun j => hJ.2.1 108 j h1) (funext fun j => hJ.2.1 119 j h2)
theorem m_RS.start {μ : mM} (k : Int32) : m_RS μ (fun i => μ.1 108 (400 * k.toNatClampNeg + i)) k 0 0 0 := ⟨fun _ => rfl, rfl, fun i hi => absurd hi (by show ¬ (i : Int) < 0; omega), rfl⟩
theorem m_sn1 {f : Nat → Int32} : ∀ n, (∀ i : Nat, i < n → 1 ≤ (f i).toInt) → 0 ≤ m_sn f n
  | 0, _ => Int.le_refl 0
  | n + 1, h => by
    have h1 := m_sn1 n (fun i hi => h i (by omega))
    have h2 := h n (by omega)
    unfold m_sn
    omega
theorem m_RS.pos {μ : mM} {fo : Nat → Int32} {k y d : Int32} {gs : Int} (h : m_RS μ fo k y d gs) : 0 ≤ gs := by
  rw [← h.2.2.2]
  refine m_sn1 _ (fun i hi => (h.2.2.1 i ?_).1)
  have : i < d.toInt.toNat := hi
  omega
theorem m_RS.get {μ : mM} {fo : Nat → Int32} {k y d n x o a : Int32} {gs : Int} (hg : m_GP μ) (h : m_RS μ fo k y d gs) (hk : 0 ≤ k.toInt ∧ k.toInt ≤ 7) (hy : 0 ≤ y.toInt) (hn : μ.1 111 k.toNatClampNeg = n) (hyn : y.toInt < n.toInt) (hx : x.toInt = 400 * k.toInt + y.toInt) (ho : μ.1 108 x.toNatClampNeg = o) (ha : μ.1 109 x.toNatClampNeg = a) :
    ((o.toInt = 7 → 1 ≤ d.toInt ∧ 0 ≤ a.toInt ∧ a.toInt ≤ y.toInt) ∧ (o.toInt = 6 → d.toInt ≤ 3 ∧ 1 ≤ a.toInt ∧ a.toInt ≤ 99) ∧ (o.toInt = 8 → 0 ≤ a.toInt ∧ a.toInt ≤ n.toInt)) ∧ (o.toInt = 7 ∨ o.toInt = 8 → m_dep fo a.toNatClampNeg = d.toInt) ∧ m_dep fo (y.toNatClampNeg + 1) = d.toInt + m_dd o := by
  have c1 := m_ckI hk.1
  have c2 := m_ckI hy
  have c3 := m_ckI (x := x) (by omega)
  have c4 := m_ckI (x := n) (by omega)
  have ex : x.toNatClampNeg = 400 * k.toNatClampNeg + y.toNatClampNeg := by omega
  obtain ⟨_, h2⟩ := hg k.toNatClampNeg (by omega)
  rw [hn, show (fun i => μ.1 108 (400 * k.toNatClampNeg + i)) = fo from funext h.1] at h2
  have hfo : fo y.toNatClampNeg = o := by rw [← h.1, ← ex]; exact ho
  have hga : μ.1 109 (400 * k.toNatClampNeg + y.toNatClampNeg) = a := by rw [← ex]; exact ha
  obtain ⟨a1, a2, a3⟩ := h2.1 y.toNatClampNeg (by omega)
  rw [hfo, h.2.1] at a1 a2 a3
  simp only [hga] at a1 a2 a3
  have q6 : o.toInt = 6 → o = 6 := fun q => Int32.toInt_inj.mp q
  have q7 : o.toInt = 7 → o = 7 := fun q => Int32.toInt_inj.mp q
  have q8 : o.toInt = 8 → o = 8 := fun q => Int32.toInt_inj.mp q
  refine ⟨⟨fun q => ?_, fun q => ?_, fun q => ?_⟩, fun q => ?_, ?_⟩
  · obtain ⟨b1, t, b2, b3, b4⟩ := a2 (q7 q)
    exact ⟨b1, by omega, by omega⟩
  · exact a1 (q6 q)
  · obtain ⟨t, b2, b3, b4⟩ := a3 (q8 q)
    exact ⟨by omega, by omega⟩
  · rcases q with q | q
    · obtain ⟨b1, t, b2, b3, b4⟩ := a2 (q7 q)
      have := m_ckI (x := a) (by omega)
      rw [show a.toNatClampNeg = t from by omega]
      exact b4
    · obtain ⟨t, b2, b3, b4⟩ := a3 (q8 q)
      have := m_ckI (x := a) (by omega)
      rw [show a.toNatClampNeg = t from by omega]
      exact b4
  · show m_dep fo y.toNatClampNeg + m_dd (fo y.toNatClampNeg) = _
    rw [hfo, h.2.1]
theorem m_dd0 {o : Int32} (h6 : o.toInt ≠ 6) (h7 : o.toInt ≠ 7) : m_dd o = 0 := by
  unfold m_dd
  rw [if_neg (fun q => h6 (by rw [q]; rfl)), if_neg (fun q => h7 (by rw [q]; rfl))]
theorem m_dd6 {o : Int32} (h : o.toInt = 6) : m_dd o = 1 := by
  rw [show o = 6 from Int32.toInt_inj.mp h]
  rfl
theorem m_dd7 {o : Int32} (h : o.toInt = 7) : m_dd o = -1 := by
  rw [show o = 7 from Int32.toInt_inj.mp h]
  rfl
theorem m_RS.next {μ : mM} {fo : Nat → Int32} {k y d o z : Int32} {gs : Int} (h : m_RS μ fo k y d gs) (hy : 0 ≤ y.toInt) (hz : z.toInt = y.toInt + 1) (e : m_dep fo (y.toNatClampNeg + 1) = d.toInt + m_dd o) (h6 : o.toInt ≠ 6) (h7 : o.toInt ≠ 7) : m_RS μ fo k z d gs := by
  refine ⟨h.1, ?_, h.2.2⟩
  rw [m_cl1 hz hy, e, m_dd0 h6 h7]
  omega
theorem m_RS.to {μ : mM} {fo : Nat → Int32} {k y d a z : Int32} {gs : Int} (h : m_RS μ fo k y d gs) (hz : z.toInt = a.toInt) (e : m_dep fo a.toNatClampNeg = d.toInt) : m_RS μ fo k z d gs := by
  refine ⟨h.1, ?_, h.2.2⟩
  rw [show z.toNatClampNeg = a.toNatClampNeg from by show z.toInt.toNat = a.toInt.toNat; rw [hz]]
  exact e
theorem m_RS.end0 {μ ν : mM} {fo : Nat → Int32} {k y d o z i r v : Int32} {gs : Int} (h : m_RS μ fo k y d gs) (hy : 0 ≤ y.toInt) (hz : z.toInt = y.toInt + 1) (hd : 1 ≤ d.toInt) (hi : i.toInt = d.toInt - 1) (hr : μ.1 119 i.toNatClampNeg = r) (hr1 : r.toInt = 1) (e : m_si μ 119 i.toNatClampNeg v = ν) (e2 : m_dep fo (y.toNatClampNeg + 1) = d.toInt + m_dd o) (ho : o.toInt = 7) : m_RS ν fo k z i (gs - 1) := by
  subst e
  have c := m_cl1 (x := d) (y := i) (by omega) (by omega)
  refine ⟨fun j => by rw [m_si_ne (by decide)]; exact h.1 j, ?_, fun j hj => ?_, ?_⟩
  · rw [m_cl1 hz hy, e2, m_dd7 ho]
    omega
  · have := m_ckI (x := i) (by omega)
    rw [m_si_el (by omega)]
    exact h.2.2.1 j (by omega)
  · rw [m_sn_same (f := μ.1 119) i.toNatClampNeg (fun j hj => m_si_el (by omega)), ← h.2.2.2, c]
    show _ = m_sn _ _ + _ - 1
    rw [hr]
    omega
theorem m_RS.end1 {μ ν : mM} {fo : Nat → Int32} {k y d z i r v a : Int32} {gs : Int} (h : m_RS μ fo k y d gs) (hz : z.toInt = a.toInt) (hd : 1 ≤ d.toInt) (hi : i.toInt = d.toInt - 1) (hr : μ.1 119 i.toNatClampNeg = r) (hv : v.toInt = r.toInt - 1) (hv1 : 1 ≤ v.toInt ∧ v.toInt ≤ 99) (e : m_si μ 119 i.toNatClampNeg v = ν) (e2 : m_dep fo a.toNatClampNeg = d.toInt) : m_RS ν fo k z d (gs - 1) := by
  subst e
  have c := m_cl1 (x := d) (y := i) (by omega) (by omega)
  refine ⟨fun j => by rw [m_si_ne (by decide)]; exact h.1 j, ?_, fun j hj => ?_, ?_⟩
  · rw [show z.toNatClampNeg = a.toNatClampNeg from by show z.toInt.toNat = a.toInt.toNat; rw [hz]]
    exact e2
  · by_cases q : j = i.toNatClampNeg
    · rw [q, m_si_at]
      exact hv1
    · rw [m_si_el q]
      exact h.2.2.1 j hj
  · rw [m_sn_set (by omega), h.2.2.2, hr]
    omega
theorem m_RS.again {μ ν : mM} {fo : Nat → Int32} {k y d o z i a : Int32} {gs : Int} (h : m_RS μ fo k y d gs) (hy : 0 ≤ y.toInt) (hz : z.toInt = y.toInt + 1) (hd : 0 ≤ d.toInt) (hi : i.toInt = d.toInt + 1) (ha : 1 ≤ a.toInt ∧ a.toInt ≤ 99) (e : m_si μ 119 d.toNatClampNeg a = ν) (e2 : m_dep fo (y.toNatClampNeg + 1) = d.toInt + m_dd o) (ho : o.toInt = 6) : m_RS ν fo k z i (gs + a.toInt) := by
  subst e
  have c := m_cl1 (x := i) (y := d) (by omega) (by omega)
  have c2 := m_ckI hd
  refine ⟨fun j => by rw [m_si_ne (by decide)]; exact h.1 j, ?_, fun j hj => ?_, ?_⟩
  · rw [m_cl1 hz hy, e2, m_dd6 ho]
    omega
  · by_cases q : j = d.toNatClampNeg
    · rw [q, m_si_at]
      exact ha
    · rw [m_si_el q]
      exact h.2.2.1 j (by omega)
  · rw [c]
    show m_sn _ _ + _ = _
    rw [m_si_at, m_sn_same (f := μ.1 119) d.toNatClampNeg (fun j hj => m_si_el (by omega)), h.2.2.2]
set_option maxHeartbeats 4000000 in
set_option maxRecDepth 100000 in
theorem L_X12_runs_20 {p : Program} {l : Launch} {e : Env} {s : State} {m : MethodId} {args : Array Value} {below : List Frame} {meth : Method} {c : Code} {D : va_G} {cy : Nat → ClassId} {b : Nat} (hx : p.tables.exec = Jvm.exec) (hb : c.code = cX12_runs) (hr : meth.sig.returnType = (none)) (hml : c.maxLocals = 6) (hown : s.vm.findClass RX12 = some m.cls) (hts : ∀ w ∈ TB, w.before args s = true) (hlocks : meth.locks = false) (S : Nat → Bool) (μ0 : mM) (hS22 : S 22 = true) (hS32 : S 32 = true) (hS27 : S 27 = true) (hS37 : S 37 = true) (hS38 : S 38 = true) (d k : Int32) (h_d : 0 ≤ d.toInt ∧ d.toInt ≤ 1) (h_k : 0 ≤ k.toInt ∧ k.toInt ≤ 7) : ∀ (f : Nat), ∀ (y3 y4 : Int32) (gc : Int32) (gs : Int) (fo : Nat → Int32) (hy : 0 ≤ y3.toInt ∧ y3.toInt ≤ 400 ∧ 0 ≤ y4.toInt ∧ y4.toInt ≤ 4 ∧ 0 ≤ gc.toInt ∧ gc.toInt ≤ 1000 ∧ 0 ≤ gs) (hf : 100 * (1000 - gc.toInt) + gs < (f : Int)) (μ : mM) (hI : IY S μ0 μ) (hc : μ.1 81 58 = gc) (hgp : m_GP μ) (hrs : m_RS μ fo k y3 y4 gs) (H : Heap) (locs : List Loc), m_WA (m_A b LAY) D cy s b LAY μ H locs → ∀ ls : Array Slot, lv_has ls 6 [(0, .ref (b + 81)), (1, .int d), (2, .int k), (3, .int y3), (4, .int y4)] → W p l e (m_R 9 0 0) s m args below meth c H locs 0 0 (MQ below (m_Qv D cy b LAY (fun ν => IY S μ0 ν ∧ (True))) args s 0 0 (m_A b LAY)) (F0 m 20 ls []) := by
  intro f
  induction f with
  | zero => intro y3 y4 gc gs fo hy hf; exfalso; omega
  | succ f ih =>
    intro y3 y4 gc gs fo hy hf μ hI hc hgp hrs H locs hW ls hl
    refine lv_iload_n hx hb dX12_runs_20 rfl (lv_at hl 3 rfl) ?_
    refine lv_aload_n hx hb dX12_runs_21 rfl (lv_at hl 0 rfl) ?_
    refine m_getr hx hb hts hown hW (81) 44 (111) rfl rfl cw_12 rfl (by decide) k_X12_110 dX12_runs_22 ?_
    refine lv_iload_n hx hb dX12_runs_25 rfl (lv_at hl 2 rfl) ?_
    refine m_iald hx hb hW (111) rfl (m_ixI (rfl : k.toInt = _) (by omega) (by omega)) dX12_runs_26 ?_
    refine lv_topi (fun x1 ex1 => ?_)
    have bx1 : 0 ≤ x1.toInt ∧ x1.toInt ≤ 400 := by rw [ex1]; exact hI.1 _ _ _ _ rfl
    refine lv_icmp_ge (tgt := 225) hx hb dX12_runs_27 (by decide) (fun c2 => ?_) (fun c2 => ?_)
    · have i2 := m_c3 (rfl : x1.toInt = _) (rfl : y3.toInt = _) c2
      refine lv_aload_n hx hb dX12_runs_225 rfl (lv_at hl 0 rfl) ?_
      refine m_geti hx hb hts hown hW (81) 59 rfl rfl cw_12 rfl (by decide) k_X12_338 dX12_runs_226 ?_
      refine lv_topi (fun x3 ex3 => ?_)
      have bx3 : 0 ≤ x3.toInt ∧ x3.toInt ≤ 1 := by rw [ex3]; exact hI.1 _ _ _ _ rfl
      refine lv_if_eq (tgt := 246) hx hb dX12_runs_229 (by decide) (fun c4 => ?_) (fun c4 => ?_)
      · have i4 := m_c5 (rfl : x3.toInt = _) (by decide : (0 : Int32).toInt = 0) c4
        exact m_vret hx hb hr hlocks hW (⟨hI, trivial⟩) dX12_runs_246
      · have i4 := m_c6 (rfl : x3.toInt = _) (by decide : (0 : Int32).toInt = 0) c4
        refine lv_aload_n hx hb dX12_runs_232 rfl (lv_at hl 0 rfl) ?_
        refine m_getr hx hb hts hown hW (81) 24 (97) rfl rfl cw_12 rfl (by decide) k_X12_67 dX12_runs_233 ?_
        refine lv_iload_n hx hb dX12_runs_236 rfl (lv_at hl 1 rfl) ?_
        refine lv_aload_n hx hb dX12_runs_237 rfl (lv_at hl 0 rfl) ?_
        refine m_getr hx hb hts hown hW (81) 24 (97) rfl rfl cw_12 rfl (by decide) k_X12_67 dX12_runs_238 ?_
        refine lv_iload_n hx hb dX12_runs_241 rfl (lv_at hl 1 rfl) ?_
        refine m_iald hx hb hW (97) rfl (m_ixI (rfl : d.toInt = _) (by omega) (by omega)) dX12_runs_242 ?_
        refine lv_topi (fun x5 ex5 => ?_)
        refine lv_iconst (v := 1) hx hb dX12_runs_243 (by decide) ?_
        refine lv_iadd hx hb dX12_runs_244 ?_
        refine lv_topi (fun x6 ex6 => ?_)
        refine m_iast hx hb hW (97) rfl (m_ixI (rfl : d.toInt = _) (by omega) (by omega)) dX12_runs_245 (fun H locs hW _ => ?_)
        generalize hμ7 : m_si μ (97) (d : Int32).toNatClampNeg x6 = μ7 at hW
        have hgp : m_GP μ7 := hgp.si hμ7 (by decide) (by decide) (by decide)
        have hrs : m_RS μ7 fo k y3 y4 gs := hrs.cg (by rw [← hμ7, m_si_row (by decide)]) (by rw [← hμ7, m_si_row (by decide)])
        have hI := hI.si0 hμ7 rfl hS22
        exact m_vret hx hb hr hlocks hW (⟨hI, trivial⟩) dX12_runs_246
    · have i2 := m_c4 (rfl : x1.toInt = _) (rfl : y3.toInt = _) c2
      refine lv_aload_n hx hb dX12_runs_30 rfl (lv_at hl 0 rfl) ?_
      refine m_geti hx hb hts hown hW (81) 59 rfl rfl cw_12 rfl (by decide) k_X12_338 dX12_runs_31 ?_
      refine lv_topi (fun x8 ex8 => ?_)
      have bx8 : 0 ≤ x8.toInt ∧ x8.toInt ≤ 1 := by rw [ex8]; exact hI.1 _ _ _ _ rfl
      refine lv_if_ne (tgt := 225) hx hb dX12_runs_34 (by decide) (fun c9 => ?_) (fun c9 => ?_)
      · have i9 := m_c6 (rfl : x8.toInt = _) (by decide : (0 : Int32).toInt = 0) c9
        refine lv_aload_n hx hb dX12_runs_225 rfl (lv_at hl 0 rfl) ?_
        refine m_geti hx hb hts hown hW (81) 59 rfl rfl cw_12 rfl (by decide) k_X12_338 dX12_runs_226 ?_
        refine lv_topi (fun x10 ex10 => ?_)
        have ex10 : x10 = x8 := by rw [ex10]; exact ex8.symm
        have ex10 := ex10.symm
        subst ex10
        refine lv_if_eq (tgt := 246) hx hb dX12_runs_229 (by decide) (fun c11 => ?_) (fun c11 => ?_)
        · have i11 := m_c5 (rfl : x8.toInt = _) (by decide : (0 : Int32).toInt = 0) c11
          exfalso; omega
        · have i11 := m_c6 (rfl : x8.toInt = _) (by decide : (0 : Int32).toInt = 0) c11
          refine lv_aload_n hx hb dX12_runs_232 rfl (lv_at hl 0 rfl) ?_
          refine m_getr hx hb hts hown hW (81) 24 (97) rfl rfl cw_12 rfl (by decide) k_X12_67 dX12_runs_233 ?_
          refine lv_iload_n hx hb dX12_runs_236 rfl (lv_at hl 1 rfl) ?_
          refine lv_aload_n hx hb dX12_runs_237 rfl (lv_at hl 0 rfl) ?_
          refine m_getr hx hb hts hown hW (81) 24 (97) rfl rfl cw_12 rfl (by decide) k_X12_67 dX12_runs_238 ?_
          refine lv_iload_n hx hb dX12_runs_241 rfl (lv_at hl 1 rfl) ?_
          refine m_iald hx hb hW (97) rfl (m_ixI (rfl : d.toInt = _) (by omega) (by omega)) dX12_runs_242 ?_
          refine lv_topi (fun x12 ex12 => ?_)
          refine lv_iconst (v := 1) hx hb dX12_runs_243 (by decide) ?_
          refine lv_iadd hx hb dX12_runs_244 ?_
          refine lv_topi (fun x13 ex13 => ?_)
          refine m_iast hx hb hW (97) rfl (m_ixI (rfl : d.toInt = _) (by omega) (by omega)) dX12_runs_245 (fun H locs hW _ => ?_)
          generalize hμ14 : m_si μ (97) (d : Int32).toNatClampNeg x13 = μ14 at hW
          have hgp : m_GP μ14 := hgp.si hμ14 (by decide) (by decide) (by decide)
          have hrs : m_RS μ14 fo k y3 y4 gs := hrs.cg (by rw [← hμ14, m_si_row (by decide)]) (by rw [← hμ14, m_si_row (by decide)])
          have hI := hI.si0 hμ14 rfl hS22
          exact m_vret hx hb hr hlocks hW (⟨hI, trivial⟩) dX12_runs_246
      · have i9 := m_c5 (rfl : x8.toInt = _) (by decide : (0 : Int32).toInt = 0) c9
        refine lv_sipush (v := 400) hx hb dX12_runs_37 (by decide) ?_
        refine lv_iload_n hx hb dX12_runs_40 rfl (lv_at hl 2 rfl) ?_
        refine lv_imul hx hb dX12_runs_41 ?_
        refine lv_topi (fun x15 ex15 => ?_)
        have tx15 : x15.toInt = 400 * k.toInt := m_mulI ex15 (by decide : (400 : Int32).toInt = 400) (rfl : k.toInt = _) (by omega) (by omega)
        refine lv_iload_n hx hb dX12_runs_42 rfl (lv_at hl 3 rfl) ?_
        refine lv_iadd hx hb dX12_runs_43 ?_
        refine lv_topi (fun x16 ex16 => ?_)
        have tx16 : x16.toInt = x15.toInt + y3.toInt := m_addI ex16 (rfl : x15.toInt = _) (rfl : y3.toInt = _) (by omega) (by omega)
        refine lv_istore (lv' := [(5, .int x16), (0, .ref (b + 81)), (1, .int d), (2, .int k), (3, .int y3), (4, .int y4)]) hx hb dX12_runs_44 hl (by decide) rfl (fun ls hl => ?_)
        refine lv_aload_n hx hb dX12_runs_46 rfl (lv_at hl 1 rfl) ?_
        refine m_getr hx hb hts hown hW (81) 41 (108) rfl rfl cw_12 rfl (by decide) k_X12_101 dX12_runs_47 ?_
        refine lv_iload hx hb dX12_runs_50 (lv_at hl 0 rfl) ?_
        refine m_iald hx hb hW (108) rfl (m_ixI (rfl : x16.toInt = _) (by omega) (by omega)) dX12_runs_52 ?_
        refine lv_topi (fun x17 ex17 => ?_)
        obtain ⟨x18, hx18⟩ : ∃ z, μ.1 109 x16.toNatClampNeg = z := ⟨_, rfl⟩
        have bx18 : 0 ≤ x18.toInt ∧ x18.toInt ≤ 99999 := by rw [← hx18]; exact hI.1 _ _ _ _ rfl
        obtain ⟨hw1, hw2, hw3⟩ := m_RS.get (n := x1) (x := x16) (o := x17) (a := x18) hgp hrs (by omega) (by omega) (by exact ex1.symm) (by omega) (by omega) ex17.symm hx18
        refine lv_bipush (v := 7) hx hb dX12_runs_53 (by decide) ?_
        refine lv_icmp_ne (tgt := 112) hx hb dX12_runs_55 (by decide) (fun c19 => ?_) (fun c19 => ?_)
        · have i19 := m_c6 (rfl : x17.toInt = _) (by decide : (7 : Int32).toInt = 7) c19
          refine lv_aload_n hx hb dX12_runs_112 rfl (lv_at hl 1 rfl) ?_
          refine m_aI hW (m_runV (As := []) (rest := []) hx hb hml hown hts hW (81) (g_X12_pays l D cy b (fun g => [27, 37].contains g) μ rfl rfl gc (by omega) μ (IY.rf hI.1) (by exact hc)) mi_X12_pays k_X12_341 rfl rfl rfl hl.1 rfl (Nat.le_of_ble_eq_true rfl) dX12_runs_113 ⟨Nat.le_of_ble_eq_true rfl, Nat.le_of_ble_eq_true rfl⟩ ⟨Nat.le_of_ble_eq_true rfl, Nat.le_of_ble_eq_true rfl⟩) (fun x20 μ20 H locs q20 hW => ?_)
          obtain ⟨hJ20, q20⟩ := q20
          have hI := hI.tr hJ20 (m_subL (by simp [hS27, hS37]))
          have hgp : m_GP μ20 := hgp.fr hJ20 rfl rfl
          have hrs : m_RS μ20 fo k y3 y4 gs := hrs.fr hJ20 rfl rfl
          rcases q20 with ⟨rfl, q20⟩ | ⟨rfl, q20⟩
          · obtain ⟨x21, hx21⟩ : ∃ z, μ20.1 81 58 = z := ⟨_, rfl⟩
            have bx21 : 0 ≤ x21.toInt ∧ x21.toInt ≤ 1000 := by rw [← hx21]; exact hI.1 _ _ _ _ rfl
            rw [show μ20.1 81 58 = x21 from by exact hx21] at q20
            refine lv_if_ne (tgt := 122) hx hb dX12_runs_116 (by decide) (fun _ => ?_) (fun c => False.elim (by revert c; decide))
            refine lv_aload_n hx hb dX12_runs_122 rfl (lv_at hl 1 rfl) ?_
            refine m_getr hx hb hts hown hW (81) 41 (108) rfl rfl cw_12 rfl (by decide) k_X12_101 dX12_runs_123 ?_
            refine lv_iload hx hb dX12_runs_126 (lv_at hl 0 rfl) ?_
            refine m_iald hx hb hW (108) rfl (m_ixI (rfl : x16.toInt = _) (by omega) (by omega)) dX12_runs_128 ?_
            refine lv_topi (fun x22 ex22 => ?_)
            have ex22 : x22 = x17 := by rw [ex22]; exact ((hJ20.2.1 108 (x16 : Int32).toNatClampNeg rfl).trans (by exact ex17.symm))
            have ex22 := ex22.symm
            subst ex22
            refine lv_bipush (v := 6) hx hb dX12_runs_129 (by decide) ?_
            refine lv_icmp_ne (tgt := 157) hx hb dX12_runs_131 (by decide) (fun c23 => ?_) (fun c23 => ?_)
            · have i23 := m_c6 (rfl : x17.toInt = _) (by decide : (6 : Int32).toInt = 6) c23
              refine lv_aload_n hx hb dX12_runs_157 rfl (lv_at hl 1 rfl) ?_
              refine m_getr hx hb hts hown hW (81) 41 (108) rfl rfl cw_12 rfl (by decide) k_X12_101 dX12_runs_158 ?_
              refine lv_iload hx hb dX12_runs_161 (lv_at hl 0 rfl) ?_
              refine m_iald hx hb hW (108) rfl (m_ixI (rfl : x16.toInt = _) (by omega) (by omega)) dX12_runs_163 ?_
              refine lv_topi (fun x24 ex24 => ?_)
              have ex24 : x24 = x17 := by rw [ex24]; exact ((hJ20.2.1 108 (x16 : Int32).toNatClampNeg rfl).trans (by exact ex17.symm))
              have ex24 := ex24.symm
              subst ex24
              refine lv_bipush (v := 8) hx hb dX12_runs_164 (by decide) ?_
              refine lv_icmp_ne (tgt := 192) hx hb dX12_runs_166 (by decide) (fun c25 => ?_) (fun c25 => ?_)
              · have i25 := m_c6 (rfl : x17.toInt = _) (by decide : (8 : Int32).toInt = 8) c25
                refine lv_aload_n hx hb dX12_runs_192 rfl (lv_at hl 1 rfl) ?_
                refine lv_iload_n hx hb dX12_runs_193 rfl (lv_at hl 2 rfl) ?_
                refine lv_aload_n hx hb dX12_runs_194 rfl (lv_at hl 1 rfl) ?_
                refine m_getr hx hb hts hown hW (81) 41 (108) rfl rfl cw_12 rfl (by decide) k_X12_101 dX12_runs_195 ?_
                refine lv_iload hx hb dX12_runs_198 (lv_at hl 0 rfl) ?_
                refine m_iald hx hb hW (108) rfl (m_ixI (rfl : x16.toInt = _) (by omega) (by omega)) dX12_runs_200 ?_
                refine lv_topi (fun x26 ex26 => ?_)
                have ex26 : x26 = x17 := by rw [ex26]; exact ((hJ20.2.1 108 (x16 : Int32).toNatClampNeg rfl).trans (by exact ex17.symm))
                have ex26 := ex26.symm
                subst ex26
                refine lv_aload_n hx hb dX12_runs_201 rfl (lv_at hl 1 rfl) ?_
                refine m_getr hx hb hts hown hW (81) 42 (109) rfl rfl cw_12 rfl (by decide) k_X12_104 dX12_runs_202 ?_
                refine lv_iload hx hb dX12_runs_205 (lv_at hl 0 rfl) ?_
                refine m_iald hx hb hW (109) rfl (m_ixI (rfl : x16.toInt = _) (by omega) (by omega)) dX12_runs_207 ?_
                refine lv_topi (fun x27 ex27 => ?_)
                have ex27 : x27 = x18 := by rw [ex27]; exact ((hJ20.2.1 109 (x16 : Int32).toNatClampNeg rfl).trans (by exact hx18))
                have ex27 := ex27.symm
                subst ex27
                refine lv_aload_n hx hb dX12_runs_208 rfl (lv_at hl 1 rfl) ?_
                refine m_getr hx hb hts hown hW (81) 43 (110) rfl rfl cw_12 rfl (by decide) k_X12_107 dX12_runs_209 ?_
                refine lv_iload hx hb dX12_runs_212 (lv_at hl 0 rfl) ?_
                refine m_iald hx hb hW (110) rfl (m_ixI (rfl : x16.toInt = _) (by omega) (by omega)) dX12_runs_214 ?_
                refine lv_topi (fun x28 ex28 => ?_)
                refine m_aV hW (m_runV (As := [.int d, .int x17, .int x18, .int x28]) (rest := []) hx hb hml hown hts hW (81) (g_X12_doesPlain l D cy b (fun g => [22, 32, 27, 37].contains g) μ20 rfl rfl rfl rfl x21 (by omega) d x17 x18 x28 (by omega) μ20 (IY.rf hI.1) (by exact hx21)) mi_X12_doesPlain k_X12_368 rfl rfl rfl hl.1 rfl (Nat.le_of_ble_eq_true rfl) dX12_runs_215 ⟨Nat.le_of_ble_eq_true rfl, Nat.le_of_ble_eq_true rfl⟩ ⟨Nat.le_of_ble_eq_true rfl, Nat.le_of_ble_eq_true rfl⟩) (fun μ29 H locs q29 hW => ?_)
                obtain ⟨hJ29, q29⟩ := q29
                have hI := hI.tr hJ29 (m_subL (by simp [hS22, hS32, hS27, hS37]))
                have hgp : m_GP μ29 := hgp.fr hJ29 rfl rfl
                have hrs : m_RS μ29 fo k y3 y4 gs := hrs.fr hJ29 rfl rfl
                obtain ⟨x30, hx30⟩ : ∃ z, μ29.1 81 58 = z := ⟨_, rfl⟩
                have bx30 : 0 ≤ x30.toInt ∧ x30.toInt ≤ 1000 := by rw [← hx30]; exact hI.1 _ _ _ _ rfl
                rw [show μ29.1 81 58 = x30 from by exact hx30] at q29
                refine lv_iload_n hx hb dX12_runs_218 rfl (lv_at hl 4 rfl) ?_
                refine lv_iconst (v := 1) hx hb dX12_runs_219 (by decide) ?_
                refine lv_iadd hx hb dX12_runs_220 ?_
                refine lv_topi (fun x31 ex31 => ?_)
                have tx31 : x31.toInt = y3.toInt + 1 := m_addI ex31 (rfl : y3.toInt = _) (by decide : (1 : Int32).toInt = 1) (by omega) (by omega)
                refine lv_istore_n (lv' := [(3, .int x31), (5, .int x16), (0, .ref (b + 81)), (1, .int d), (2, .int k), (4, .int y4)]) hx hb dX12_runs_221 rfl hl (by decide) rfl (fun ls hl => ?_)
                refine lv_goto (tgt := 20) hx hb dX12_runs_222 (by decide) ?_
                have hnew : m_RS μ29 fo k x31 y4 gs := hrs.next (z := x31) (o := x17) (by omega) (by omega) hw3 (by omega) (by omega)
                have hpos := hnew.pos
                exact ih x31 y4 x30 gs fo (by omega) (by omega) μ29 hI (by exact hx30) (hgp) (hnew) _ _ hW ls (lv_sub hl [2, 3, 4, 0, 5] rfl)
              · have i25 := m_c5 (rfl : x17.toInt = _) (by decide : (8 : Int32).toInt = 8) c25
                refine lv_aload_n hx hb dX12_runs_169 rfl (lv_at hl 1 rfl) ?_
                refine lv_iload_n hx hb dX12_runs_170 rfl (lv_at hl 2 rfl) ?_
                refine lv_iload_n hx hb dX12_runs_171 rfl (lv_at hl 3 rfl) ?_
                refine lv_iload_n hx hb dX12_runs_172 rfl (lv_at hl 4 rfl) ?_
                refine m_aI hW (m_runV (As := [.int d, .int k, .int y3]) (rest := []) hx hb hml hown hts hW (81) (g_X12_isSo l D cy b d k y3 (by omega) (by omega) (by omega) μ20 hI.1) mi_X12_isSo k_X12_365 rfl rfl rfl hl.1 rfl (Nat.le_of_ble_eq_true rfl) dX12_runs_173 ⟨Nat.le_of_ble_eq_true rfl, Nat.le_of_ble_eq_true rfl⟩ ⟨Nat.le_of_ble_eq_true rfl, Nat.le_of_ble_eq_true rfl⟩) (fun x32 μ32 H locs q32 hW => ?_)
                obtain ⟨q32_m, q32⟩ := q32
                subst q32_m
                rcases q32 with ⟨rfl, q32⟩ | ⟨rfl, q32⟩
                · refine lv_if_ne (tgt := 218) hx hb dX12_runs_176 (by decide) (fun _ => ?_) (fun c => False.elim (by revert c; decide))
                  refine lv_iload_n hx hb dX12_runs_218 rfl (lv_at hl 4 rfl) ?_
                  refine lv_iconst (v := 1) hx hb dX12_runs_219 (by decide) ?_
                  refine lv_iadd hx hb dX12_runs_220 ?_
                  refine lv_topi (fun x33 ex33 => ?_)
                  have tx33 : x33.toInt = y3.toInt + 1 := m_addI ex33 (rfl : y3.toInt = _) (by decide : (1 : Int32).toInt = 1) (by omega) (by omega)
                  refine lv_istore_n (lv' := [(3, .int x33), (5, .int x16), (0, .ref (b + 81)), (1, .int d), (2, .int k), (4, .int y4)]) hx hb dX12_runs_221 rfl hl (by decide) rfl (fun ls hl => ?_)
                  refine lv_goto (tgt := 20) hx hb dX12_runs_222 (by decide) ?_
                  have hnew : m_RS μ20 fo k x33 y4 gs := hrs.next (z := x33) (o := x17) (by omega) (by omega) hw3 (by omega) (by omega)
                  have hpos := hnew.pos
                  exact ih x33 y4 x21 gs fo (by omega) (by omega) μ20 hI (by exact hx21) (hgp) (hnew) _ _ hW ls (lv_sub hl [2, 3, 4, 0, 5] rfl)
                · refine lv_if_ne (tgt := 218) hx hb dX12_runs_176 (by decide) (fun c => False.elim (by revert c; decide)) (fun _ => ?_)
                  refine lv_aload_n hx hb dX12_runs_179 rfl (lv_at hl 1 rfl) ?_
                  refine m_getr hx hb hts hown hW (81) 42 (109) rfl rfl cw_12 rfl (by decide) k_X12_104 dX12_runs_180 ?_
                  refine lv_iload hx hb dX12_runs_183 (lv_at hl 0 rfl) ?_
                  refine m_iald hx hb hW (109) rfl (m_ixI (rfl : x16.toInt = _) (by omega) (by omega)) dX12_runs_185 ?_
                  refine lv_topi (fun x34 ex34 => ?_)
                  have ex34 : x34 = x18 := by rw [ex34]; exact ((hJ20.2.1 109 (x16 : Int32).toNatClampNeg rfl).trans (by exact hx18))
                  have ex34 := ex34.symm
                  subst ex34
                  refine lv_iconst (v := 1) hx hb dX12_runs_186 (by decide) ?_
                  refine lv_isub hx hb dX12_runs_187 ?_
                  refine lv_topi (fun x35 ex35 => ?_)
                  have tx35 : x35.toInt = x18.toInt - 1 := m_subI ex35 (rfl : x18.toInt = _) (by decide : (1 : Int32).toInt = 1) (by omega) (by omega)
                  refine lv_istore_n (lv' := [(3, .int x35), (5, .int x16), (0, .ref (b + 81)), (1, .int d), (2, .int k), (4, .int y4)]) hx hb dX12_runs_188 rfl hl (by decide) rfl (fun ls hl => ?_)
                  refine lv_goto (tgt := 218) hx hb dX12_runs_189 (by decide) ?_
                  refine lv_iload_n hx hb dX12_runs_218 rfl (lv_at hl 0 rfl) ?_
                  refine lv_iconst (v := 1) hx hb dX12_runs_219 (by decide) ?_
                  refine lv_iadd hx hb dX12_runs_220 ?_
                  refine lv_topi (fun x36 ex36 => ?_)
                  have tx36 : x36.toInt = x35.toInt + 1 := m_addI ex36 (rfl : x35.toInt = _) (by decide : (1 : Int32).toInt = 1) (by omega) (by omega)
                  refine lv_istore_n (lv' := [(3, .int x36), (5, .int x16), (0, .ref (b + 81)), (1, .int d), (2, .int k), (4, .int y4)]) hx hb dX12_runs_221 rfl hl (by decide) rfl (fun ls hl => ?_)
                  refine lv_goto (tgt := 20) hx hb dX12_runs_222 (by decide) ?_
                  have hnew : m_RS μ20 fo k x36 y4 gs := hrs.to (z := x36) (a := x18) (by omega) (hw2 (by omega))
                  have hpos := hnew.pos
                  exact ih x36 y4 x21 gs fo (by omega) (by omega) μ20 hI (by exact hx21) (hgp) (hnew) _ _ hW ls (lv_sub hl [2, 3, 4, 0, 5] rfl)
            · have i23 := m_c5 (rfl : x17.toInt = _) (by decide : (6 : Int32).toInt = 6) c23
              refine lv_aload_n hx hb dX12_runs_134 rfl (lv_at hl 1 rfl) ?_
              refine m_getr hx hb hts hown hW (81) 61 (119) rfl rfl cw_12 rfl (by decide) k_X12_137 dX12_runs_135 ?_
              refine lv_iload hx hb dX12_runs_138 (lv_at hl 5 rfl) ?_
              refine lv_aload_n hx hb dX12_runs_140 rfl (lv_at hl 1 rfl) ?_
              refine m_getr hx hb hts hown hW (81) 42 (109) rfl rfl cw_12 rfl (by decide) k_X12_104 dX12_runs_141 ?_
              refine lv_iload hx hb dX12_runs_144 (lv_at hl 0 rfl) ?_
              refine m_iald hx hb hW (109) rfl (m_ixI (rfl : x16.toInt = _) (by omega) (by omega)) dX12_runs_146 ?_
              refine lv_topi (fun x37 ex37 => ?_)
              have ex37 : x37 = x18 := by rw [ex37]; exact ((hJ20.2.1 109 (x16 : Int32).toNatClampNeg rfl).trans (by exact hx18))
              have ex37 := ex37.symm
              subst ex37
              refine m_iast hx hb hW (119) rfl (m_ixI (rfl : y4.toInt = _) (by omega) (by omega)) dX12_runs_147 (fun H locs hW _ => ?_)
              generalize hμ38 : m_si μ20 (119) (y4 : Int32).toNatClampNeg x18 = μ38 at hW
              have hgp : m_GP μ38 := hgp.si hμ38 (by decide) (by decide) (by decide)
              have hI := hI.si0 hμ38 rfl hS38
              refine lv_iload hx hb dX12_runs_148 (lv_at hl 5 rfl) ?_
              refine lv_iconst (v := 1) hx hb dX12_runs_150 (by decide) ?_
              refine lv_iadd hx hb dX12_runs_151 ?_
              refine lv_topi (fun x39 ex39 => ?_)
              have tx39 : x39.toInt = y4.toInt + 1 := m_addI ex39 (rfl : y4.toInt = _) (by decide : (1 : Int32).toInt = 1) (by omega) (by omega)
              refine lv_istore (lv' := [(4, .int x39), (5, .int x16), (0, .ref (b + 81)), (1, .int d), (2, .int k), (3, .int y3)]) hx hb dX12_runs_152 hl (by decide) rfl (fun ls hl => ?_)
              refine lv_goto (tgt := 218) hx hb dX12_runs_154 (by decide) ?_
              refine lv_iload_n hx hb dX12_runs_218 rfl (lv_at hl 5 rfl) ?_
              refine lv_iconst (v := 1) hx hb dX12_runs_219 (by decide) ?_
              refine lv_iadd hx hb dX12_runs_220 ?_
              refine lv_topi (fun x40 ex40 => ?_)
              have tx40 : x40.toInt = y3.toInt + 1 := m_addI ex40 (rfl : y3.toInt = _) (by decide : (1 : Int32).toInt = 1) (by omega) (by omega)
              refine lv_istore_n (lv' := [(3, .int x40), (4, .int x39), (5, .int x16), (0, .ref (b + 81)), (1, .int d), (2, .int k)]) hx hb dX12_runs_221 rfl hl (by decide) rfl (fun ls hl => ?_)
              refine lv_goto (tgt := 20) hx hb dX12_runs_222 (by decide) ?_
              have hnew : m_RS μ38 fo k x40 x39 (gs + x18.toInt) := hrs.again (z := x40) (i := x39) (a := x18) (o := x17) (by omega) (by omega) (by omega) (by omega) (by omega) hμ38 hw3 (by omega)
              have hpos := hnew.pos
              exact ih x40 x39 x21 (gs + x18.toInt) fo (by omega) (by omega) μ38 hI (by rw [← hμ38]; exact hx21) (hgp) (hnew) _ _ hW ls (lv_sub hl [3, 4, 5, 0, 1] rfl)
          · obtain ⟨x41, hx41⟩ : ∃ z, μ20.1 81 58 = z := ⟨_, rfl⟩
            have bx41 : 0 ≤ x41.toInt ∧ x41.toInt ≤ 1000 := by rw [← hx41]; exact hI.1 _ _ _ _ rfl
            rw [show μ20.1 81 58 = x41 from by exact hx41] at q20
            refine lv_if_ne (tgt := 122) hx hb dX12_runs_116 (by decide) (fun c => False.elim (by revert c; decide)) (fun _ => ?_)
            refine lv_goto (tgt := 225) hx hb dX12_runs_119 (by decide) ?_
            refine lv_aload_n hx hb dX12_runs_225 rfl (lv_at hl 1 rfl) ?_
            refine m_geti hx hb hts hown hW (81) 59 rfl rfl cw_12 rfl (by decide) k_X12_338 dX12_runs_226 ?_
            refine lv_topi (fun x42 ex42 => ?_)
            have bx42 : 0 ≤ x42.toInt ∧ x42.toInt ≤ 1 := by rw [ex42]; exact hI.1 _ _ _ _ rfl
            refine lv_if_eq (tgt := 246) hx hb dX12_runs_229 (by decide) (fun c43 => ?_) (fun c43 => ?_)
            · have i43 := m_c5 (rfl : x42.toInt = _) (by decide : (0 : Int32).toInt = 0) c43
              exact m_vret hx hb hr hlocks hW (⟨hI, trivial⟩) dX12_runs_246
            · have i43 := m_c6 (rfl : x42.toInt = _) (by decide : (0 : Int32).toInt = 0) c43
              refine lv_aload_n hx hb dX12_runs_232 rfl (lv_at hl 1 rfl) ?_
              refine m_getr hx hb hts hown hW (81) 24 (97) rfl rfl cw_12 rfl (by decide) k_X12_67 dX12_runs_233 ?_
              refine lv_iload_n hx hb dX12_runs_236 rfl (lv_at hl 2 rfl) ?_
              refine lv_aload_n hx hb dX12_runs_237 rfl (lv_at hl 1 rfl) ?_
              refine m_getr hx hb hts hown hW (81) 24 (97) rfl rfl cw_12 rfl (by decide) k_X12_67 dX12_runs_238 ?_
              refine lv_iload_n hx hb dX12_runs_241 rfl (lv_at hl 2 rfl) ?_
              refine m_iald hx hb hW (97) rfl (m_ixI (rfl : d.toInt = _) (by omega) (by omega)) dX12_runs_242 ?_
              refine lv_topi (fun x44 ex44 => ?_)
              refine lv_iconst (v := 1) hx hb dX12_runs_243 (by decide) ?_
              refine lv_iadd hx hb dX12_runs_244 ?_
              refine lv_topi (fun x45 ex45 => ?_)
              refine m_iast hx hb hW (97) rfl (m_ixI (rfl : d.toInt = _) (by omega) (by omega)) dX12_runs_245 (fun H locs hW _ => ?_)
              generalize hμ46 : m_si μ20 (97) (d : Int32).toNatClampNeg x45 = μ46 at hW
              have hgp : m_GP μ46 := hgp.si hμ46 (by decide) (by decide) (by decide)
              have hrs : m_RS μ46 fo k y3 y4 gs := hrs.cg (by rw [← hμ46, m_si_row (by decide)]) (by rw [← hμ46, m_si_row (by decide)])
              have hI := hI.si0 hμ46 rfl hS22
              exact m_vret hx hb hr hlocks hW (⟨hI, trivial⟩) dX12_runs_246
        · have i19 := m_c5 (rfl : x17.toInt = _) (by decide : (7 : Int32).toInt = 7) c19
          refine lv_aload_n hx hb dX12_runs_58 rfl (lv_at hl 1 rfl) ?_
          refine m_getr hx hb hts hown hW (81) 61 (119) rfl rfl cw_12 rfl (by decide) k_X12_137 dX12_runs_59 ?_
          refine lv_iload hx hb dX12_runs_62 (lv_at hl 5 rfl) ?_
          refine lv_iconst (v := 1) hx hb dX12_runs_64 (by decide) ?_
          refine lv_isub hx hb dX12_runs_65 ?_
          refine lv_topi (fun x47 ex47 => ?_)
          have tx47 : x47.toInt = y4.toInt - 1 := m_subI ex47 (rfl : y4.toInt = _) (by decide : (1 : Int32).toInt = 1) (by omega) (by omega)
          refine lv_aload_n hx hb dX12_runs_66 rfl (lv_at hl 1 rfl) ?_
          refine m_getr hx hb hts hown hW (81) 61 (119) rfl rfl cw_12 rfl (by decide) k_X12_137 dX12_runs_67 ?_
          refine lv_iload hx hb dX12_runs_70 (lv_at hl 5 rfl) ?_
          refine lv_iconst (v := 1) hx hb dX12_runs_72 (by decide) ?_
          refine lv_isub hx hb dX12_runs_73 ?_
          refine lv_topi (fun x48 ex48 => ?_)
          have ex48 : x48 = x47 := ex48.trans ex47.symm
          have ex48 := ex48.symm
          subst ex48
          refine m_iald hx hb hW (119) rfl (m_ixI (rfl : x47.toInt = _) (by omega) (by omega)) dX12_runs_74 ?_
          refine lv_topi (fun x49 ex49 => ?_)
          have hrx49 : 1 ≤ x49.toInt ∧ x49.toInt ≤ 99 := by rw [ex49]; exact hrs.2.2.1 _ (by rw [m_ckI (x := x47) (by omega)]; omega)
          refine lv_iconst (v := 1) hx hb dX12_runs_75 (by decide) ?_
          refine lv_isub hx hb dX12_runs_76 ?_
          refine lv_topi (fun x50 ex50 => ?_)
          have tx50 : x50.toInt = x49.toInt - 1 := m_subI ex50 (rfl : x49.toInt = _) (by decide : (1 : Int32).toInt = 1) (by omega) (by omega)
          refine m_iast hx hb hW (119) rfl (m_ixI (rfl : x47.toInt = _) (by omega) (by omega)) dX12_runs_77 (fun H locs hW _ => ?_)
          generalize hμ51 : m_si μ (119) (x47 : Int32).toNatClampNeg x50 = μ51 at hW
          have hgp : m_GP μ51 := hgp.si hμ51 (by decide) (by decide) (by decide)
          have hI := hI.si0 hμ51 rfl hS38
          refine lv_aload_n hx hb dX12_runs_78 rfl (lv_at hl 1 rfl) ?_
          refine m_getr hx hb hts hown hW (81) 61 (119) rfl rfl cw_12 rfl (by decide) k_X12_137 dX12_runs_79 ?_
          refine lv_iload hx hb dX12_runs_82 (lv_at hl 5 rfl) ?_
          refine lv_iconst (v := 1) hx hb dX12_runs_84 (by decide) ?_
          refine lv_isub hx hb dX12_runs_85 ?_
          refine lv_topi (fun x52 ex52 => ?_)
          have ex52 : x52 = x47 := ex52.trans ex47.symm
          have ex52 := ex52.symm
          subst ex52
          refine m_iald hx hb hW (119) rfl (m_ixI (rfl : x47.toInt = _) (by omega) (by omega)) dX12_runs_86 ?_
          refine lv_topi (fun x53 ex53 => ?_)
          have ex53 : x53 = x50 := by rw [ex53, ← hμ51]; first | rfl | exact if_pos ⟨rfl, rfl⟩
          have ex53 := ex53.symm
          subst ex53
          refine lv_if_ne (tgt := 99) hx hb dX12_runs_87 (by decide) (fun c54 => ?_) (fun c54 => ?_)
          · have i54 := m_c6 (rfl : x50.toInt = _) (by decide : (0 : Int32).toInt = 0) c54
            refine lv_aload_n hx hb dX12_runs_99 rfl (lv_at hl 1 rfl) ?_
            refine m_getr hx hb hts hown hW (81) 42 (109) rfl rfl cw_12 rfl (by decide) k_X12_104 dX12_runs_100 ?_
            refine lv_iload hx hb dX12_runs_103 (lv_at hl 0 rfl) ?_
            refine m_iald hx hb hW (109) rfl (m_ixI (rfl : x16.toInt = _) (by omega) (by omega)) dX12_runs_105 ?_
            refine lv_topi (fun x55 ex55 => ?_)
            have ex55 : x55 = x18 := by rw [ex55, ← hμ51]; exact hx18
            have ex55 := ex55.symm
            subst ex55
            refine lv_iconst (v := 1) hx hb dX12_runs_106 (by decide) ?_
            refine lv_isub hx hb dX12_runs_107 ?_
            refine lv_topi (fun x56 ex56 => ?_)
            have tx56 : x56.toInt = x18.toInt - 1 := m_subI ex56 (rfl : x18.toInt = _) (by decide : (1 : Int32).toInt = 1) (by omega) (by omega)
            refine lv_istore_n (lv' := [(3, .int x56), (5, .int x16), (0, .ref (b + 81)), (1, .int d), (2, .int k), (4, .int y4)]) hx hb dX12_runs_108 rfl hl (by decide) rfl (fun ls hl => ?_)
            refine lv_goto (tgt := 218) hx hb dX12_runs_109 (by decide) ?_
            refine lv_iload_n hx hb dX12_runs_218 rfl (lv_at hl 0 rfl) ?_
            refine lv_iconst (v := 1) hx hb dX12_runs_219 (by decide) ?_
            refine lv_iadd hx hb dX12_runs_220 ?_
            refine lv_topi (fun x57 ex57 => ?_)
            have tx57 : x57.toInt = x56.toInt + 1 := m_addI ex57 (rfl : x56.toInt = _) (by decide : (1 : Int32).toInt = 1) (by omega) (by omega)
            refine lv_istore_n (lv' := [(3, .int x57), (5, .int x16), (0, .ref (b + 81)), (1, .int d), (2, .int k), (4, .int y4)]) hx hb dX12_runs_221 rfl hl (by decide) rfl (fun ls hl => ?_)
            refine lv_goto (tgt := 20) hx hb dX12_runs_222 (by decide) ?_
            have hnew : m_RS μ51 fo k x57 y4 (gs - 1) := hrs.end1 (z := x57) (i := x47) (r := x49) (v := x50) (a := x18) (by omega) (by omega) (by omega) (by exact ex49.symm) (by omega) (by omega) hμ51 (hw2 (by omega))
            have hpos := hnew.pos
            exact ih x57 y4 gc (gs - 1) fo (by omega) (by omega) μ51 hI (by rw [← hμ51]; exact hc) (hgp) (hnew) _ _ hW ls (lv_sub hl [2, 3, 4, 0, 5] rfl)
          · have i54 := m_c5 (rfl : x50.toInt = _) (by decide : (0 : Int32).toInt = 0) c54
            refine lv_iload hx hb dX12_runs_90 (lv_at hl 5 rfl) ?_
            refine lv_iconst (v := 1) hx hb dX12_runs_92 (by decide) ?_
            refine lv_isub hx hb dX12_runs_93 ?_
            refine lv_topi (fun x58 ex58 => ?_)
            have ex58 : x58 = x47 := ex58.trans ex47.symm
            have ex58 := ex58.symm
            subst ex58
            refine lv_istore (lv' := [(4, .int x47), (5, .int x16), (0, .ref (b + 81)), (1, .int d), (2, .int k), (3, .int y3)]) hx hb dX12_runs_94 hl (by decide) rfl (fun ls hl => ?_)
            refine lv_goto (tgt := 218) hx hb dX12_runs_96 (by decide) ?_
            refine lv_iload_n hx hb dX12_runs_218 rfl (lv_at hl 5 rfl) ?_
            refine lv_iconst (v := 1) hx hb dX12_runs_219 (by decide) ?_
            refine lv_iadd hx hb dX12_runs_220 ?_
            refine lv_topi (fun x59 ex59 => ?_)
            have tx59 : x59.toInt = y3.toInt + 1 := m_addI ex59 (rfl : y3.toInt = _) (by decide : (1 : Int32).toInt = 1) (by omega) (by omega)
            refine lv_istore_n (lv' := [(3, .int x59), (4, .int x47), (5, .int x16), (0, .ref (b + 81)), (1, .int d), (2, .int k)]) hx hb dX12_runs_221 rfl hl (by decide) rfl (fun ls hl => ?_)
            refine lv_goto (tgt := 20) hx hb dX12_runs_222 (by decide) ?_
            have hnew : m_RS μ51 fo k x59 x47 (gs - 1) := hrs.end0 (z := x59) (i := x47) (r := x49) (v := x50) (o := x17) (by omega) (by omega) (by omega) (by omega) (by exact ex49.symm) (by omega) hμ51 hw3 (by omega)
            have hpos := hnew.pos
            exact ih x59 x47 gc (gs - 1) fo (by omega) (by omega) μ51 hI (by rw [← hμ51]; exact hc) (hgp) (hnew) _ _ hW ls (lv_sub hl [3, 4, 5, 0, 1] rfl)
set_option maxHeartbeats 4000000 in
set_option maxRecDepth 100000 in
theorem g_X12_runs (l : Launch) (D : va_G) (cy : Nat → ClassId) (b : Nat) (S : Nat → Bool) (μ0 : mM) (hS22 : S 22 = true) (hS32 : S 32 = true) (hS27 : S 27 = true) (hS37 : S 37 = true) (hS38 : S 38 = true) (d k : Int32) (h_d : 0 ≤ d.toInt ∧ d.toInt ≤ 1) (h_k : 0 ≤ k.toInt ∧ k.toInt ≤ 7) (μ : mM) (hI : IY S μ0 μ) (hgp : m_GP μ) : m_Cv l yX12_runs cX12_runs 6 (none) 9 D cy b LAY μ [.ref (b + 81), .int d, .int k] (fun ν => IY S μ0 ν ∧ (True)) := by
  unfold m_Cv
  refine m_of (by decide) (Nat.le_of_ble_eq_true rfl) ?_
  intro p e s m below meth c hx hb hr hml hown hts hlocks _ hW ls hl
  have hown : s.vm.findClass RX12 = some m.cls := hown
  have hl : lv_has ls 6 [(0, .ref (b + 81)), (1, .int d), (2, .int k)] := hl
  refine lv_aload_n hx hb dX12_runs_0 rfl (lv_at hl 0 rfl) ?_
  refine lv_iconst (v := 0) hx hb dX12_runs_1 (by decide) ?_
  refine m_puti hx hb hts hown hW (81) 58 rfl rfl cw_12 tyX12_ok nmX12 rfl (by decide) k_X12_335 rfl rfl rfl dX12_runs_2 (fun H locs hW _ => ?_)
  generalize hμ1 : m_si μ (81) 58 0 = μ1 at hW
  have hgp : m_GP μ1 := hgp.si hμ1 (by decide) (by decide) (by decide)
  have hI := hI.si1 hμ1 rfl (by decide) hS37
  refine lv_aload_n hx hb dX12_runs_5 rfl (lv_at hl 0 rfl) ?_
  refine lv_iconst (v := 0) hx hb dX12_runs_6 (by decide) ?_
  refine m_puti hx hb hts hown hW (81) 59 rfl rfl cw_12 tyX12_ok nmX12 rfl (by decide) k_X12_338 rfl (by decide) rfl dX12_runs_7 (fun H locs hW _ => ?_)
  generalize hμ2 : m_si μ1 (81) 59 0 = μ2 at hW
  have hgp : m_GP μ2 := hgp.si hμ2 (by decide) (by decide) (by decide)
  have hI := hI.si1 hμ2 rfl (by decide) hS27
  refine lv_aload_n hx hb dX12_runs_10 rfl (lv_at hl 0 rfl) ?_
  refine lv_iconst (v := 0) hx hb dX12_runs_11 (by decide) ?_
  refine m_puti hx hb hts hown hW (81) 60 rfl rfl cw_12 tyX12_ok nmX12 rfl (by decide) k_X12_347 rfl rfl rfl dX12_runs_12 (fun H locs hW _ => ?_)
  generalize hμ3 : m_si μ2 (81) 60 0 = μ3 at hW
  have hgp : m_GP μ3 := hgp.si hμ3 (by decide) (by decide) (by decide)
  have hI := hI.si0 hμ3 rfl hS27
  refine lv_iconst (v := 0) hx hb dX12_runs_15 (by decide) ?_
  refine lv_istore_n (lv' := [(3, .int 0), (0, .ref (b + 81)), (1, .int d), (2, .int k)]) hx hb dX12_runs_16 rfl hl (by decide) rfl (fun ls hl => ?_)
  refine lv_iconst (v := 0) hx hb dX12_runs_17 (by decide) ?_
  refine lv_istore (lv' := [(4, .int 0), (3, .int 0), (0, .ref (b + 81)), (1, .int d), (2, .int k)]) hx hb dX12_runs_18 hl (by decide) rfl (fun ls hl => ?_)
  have l_0 : (0 : Int32).toInt = 0 := by decide
  have hnew : m_RS μ3 (fun i => μ3.1 108 (400 * k.toNatClampNeg + i)) k 0 0 0 := m_RS.start k
  have hpos := hnew.pos
  exact L_X12_runs_20 hx hb hr hml hown hts hlocks S μ0 hS22 hS32 hS27 hS37 hS38 d k h_d h_k  100001 0 0 0 0 (fun i => μ3.1 108 (400 * k.toNatClampNeg + i)) (by omega) (by omega) μ3 hI (by rw [← hμ3, ← hμ2, ← hμ1]; first | rfl | exact if_pos ⟨rfl, rfl⟩) (hgp) (hnew) _ _ hW ls (lv_sub hl [2, 3, 4, 1, 0] rfl)
set_option maxHeartbeats 4000000 in
set_option maxRecDepth 100000 in
theorem g_X12_run (l : Launch) (D : va_G) (cy : Nat → ClassId) (b : Nat) (S : Nat → Bool) (μ0 : mM) (hS20 : S 20 = true) (hS22 : S 22 = true) (hS32 : S 32 = true) (hS27 : S 27 = true) (hS37 : S 37 = true) (hS38 : S 38 = true) (k : Int32) (μ : mM) (hI : IY S μ0 μ) (hgp : m_GP μ) : m_Ci l yX12_run cX12_run 2 ((some .int)) 10 D cy b LAY μ [.ref (b + 81), .int k] (fun r ν => IY S μ0 ν ∧ (True)) := by
  unfold m_Ci
  refine m_of (by decide) (Nat.le_of_ble_eq_true rfl) ?_
  intro p e s m below meth c hx hb hr hml hown hts hlocks _ hW ls hl
  have hown : s.vm.findClass RX12 = some m.cls := hown
  have hl : lv_has ls 2 [(0, .ref (b + 81)), (1, .int k)] := hl
  refine lv_aload_n hx hb dX12_run_0 rfl (lv_at hl 0 rfl) ?_
  refine lv_iconst (v := 0) hx hb dX12_run_1 (by decide) ?_
  refine m_puti hx hb hts hown hW (81) 0 rfl rfl cw_12 tyX12_ok nmX12 rfl (by decide) k_X12_167 rfl rfl rfl dX12_run_2 (fun H locs hW _ => ?_)
  generalize hμ1 : m_si μ (81) 0 0 = μ1 at hW
  have hgp : m_GP μ1 := hgp.si hμ1 (by decide) (by decide) (by decide)
  have hI := hI.si0 hμ1 rfl hS20
  refine lv_aload_n hx hb dX12_run_5 rfl (lv_at hl 0 rfl) ?_
  refine lv_iload_n hx hb dX12_run_6 rfl (lv_at hl 1 rfl) ?_
  refine lv_iconst (v := 0) hx hb dX12_run_7 (by decide) ?_
  refine lv_bipush (v := 7) hx hb dX12_run_8 (by decide) ?_
  have l_0 : (0 : Int32).toInt = 0 := by decide
  have l_7 : (7 : Int32).toInt = 7 := by decide
  refine m_aI hW (m_runV (As := [.int k, .int 0, .int 7]) (rest := []) hx hb hml hown hts hW (81) (g_X12_isIn l D cy b k 0 7 μ1 hI.1) mi_X12_isIn k_X12_170 rfl rfl rfl hl.1 rfl (Nat.le_of_ble_eq_true rfl) dX12_run_10 ⟨Nat.le_of_ble_eq_true rfl, Nat.le_of_ble_eq_true rfl⟩ ⟨Nat.le_of_ble_eq_true rfl, Nat.le_of_ble_eq_true rfl⟩) (fun x2 μ2 H locs q2 hW => ?_)
  obtain ⟨q2_m, q2⟩ := q2
  subst q2_m
  rcases q2 with ⟨rfl, q2⟩ | ⟨rfl, q2⟩
  · refine lv_if_eq (tgt := 23) hx hb dX12_run_13 (by decide) (fun c => False.elim (by revert c; decide)) (fun _ => ?_)
    refine lv_aload_n hx hb dX12_run_16 rfl (lv_at hl 0 rfl) ?_
    refine m_geti hx hb hts hown hW (81) 5 rfl rfl cw_12 rfl (by decide) k_X12_174 dX12_run_17 ?_
    refine lv_topi (fun x3 ex3 => ?_)
    have bx3 : 0 ≤ x3.toInt ∧ x3.toInt ≤ 1 := by rw [ex3]; exact hI.1 _ _ _ _ rfl
    refine lv_if_ne (tgt := 25) hx hb dX12_run_20 (by decide) (fun c4 => ?_) (fun c4 => ?_)
    · have i4 := m_c6 (rfl : x3.toInt = _) (by decide : (0 : Int32).toInt = 0) c4
      refine lv_aload_n hx hb dX12_run_25 rfl (lv_at hl 0 rfl) ?_
      refine lv_iconst (v := 0) hx hb dX12_run_26 (by decide) ?_
      refine lv_iload_n hx hb dX12_run_27 rfl (lv_at hl 1 rfl) ?_
      refine m_aV hW (m_runV (As := [.int 0, .int k]) (rest := []) hx hb hml hown hts hW (81) (g_X12_runs l D cy b (fun g => [22, 32, 27, 37, 38].contains g) μ1 rfl rfl rfl rfl rfl 0 k (by omega) (by omega) μ1 (IY.rf hI.1) hgp) mi_X12_runs k_X12_372 rfl rfl rfl hl.1 rfl (Nat.le_of_ble_eq_true rfl) dX12_run_28 ⟨Nat.le_of_ble_eq_true rfl, Nat.le_of_ble_eq_true rfl⟩ ⟨Nat.le_of_ble_eq_true rfl, Nat.le_of_ble_eq_true rfl⟩) (fun μ5 H locs q5 hW => ?_)
      obtain ⟨hJ5, q5⟩ := q5
      have hI := hI.tr hJ5 (m_subL (by simp [hS22, hS32, hS27, hS37, hS38]))
      have hgp : m_GP μ5 := hgp.fr hJ5 rfl rfl
      refine lv_aload_n hx hb dX12_run_31 rfl (lv_at hl 0 rfl) ?_
      refine m_geti hx hb hts hown hW (81) 60 rfl rfl cw_12 rfl (by decide) k_X12_347 dX12_run_32 ?_
      refine lv_topi (fun x6 ex6 => ?_)
      exact m_iret hx hb hr hlocks hW rfl (⟨hI, trivial⟩) dX12_run_35
    · have i4 := m_c5 (rfl : x3.toInt = _) (by decide : (0 : Int32).toInt = 0) c4
      refine lv_iconst (v := (-1)) hx hb dX12_run_23 (by decide) ?_
      exact m_iret hx hb hr hlocks hW rfl (⟨hI, trivial⟩) dX12_run_24
  · refine lv_if_eq (tgt := 23) hx hb dX12_run_13 (by decide) (fun _ => ?_) (fun c => False.elim (by revert c; decide))
    refine lv_iconst (v := (-1)) hx hb dX12_run_23 (by decide) ?_
    exact m_iret hx hb hr hlocks hW rfl (⟨hI, trivial⟩) dX12_run_24
set_option maxHeartbeats 4000000 in
set_option maxRecDepth 100000 in
theorem L_X12_order_219 {p : Program} {l : Launch} {e : Env} {s : State} {m : MethodId} {args : Array Value} {below : List Frame} {meth : Method} {c : Code} {D : va_G} {cy : Nat → ClassId} {b : Nat} (hx : p.tables.exec = Jvm.exec) (hb : c.code = cX12_order) (hr : meth.sig.returnType = ((some .int))) (hml : c.maxLocals = 10) (hown : s.vm.findClass RX12 = some m.cls) (hts : ∀ w ∈ TB, w.before args s = true) (hlocks : meth.locks = false) (S : Nat → Bool) (μ0 : mM) (hS20 : S 20 = true) (hS22 : S 22 = true) (hS32 : S 32 = true) (hS27 : S 27 = true) (hS37 : S 37 = true) (hS38 : S 38 = true) (k u : Int32) : ∀ (f : Nat), ∀ (y4 y7 y8 : Int32) (hy : -1 ≤ y8.toInt ∧ y8.toInt ≤ 254) (hf : y8.toInt + 1 < (f : Int)) (μ : mM) (hI : IY S μ0 μ) (hgp : m_GP μ) (H : Heap) (locs : List Loc), m_WA (m_A b LAY) D cy s b LAY μ H locs → ∀ ls : Array Slot, lv_has ls 10 [(0, .ref (b + 81)), (1, .int k), (2, .int u), (4, .int y4), (7, .int y7), (8, .int y8)] → W p l e (m_R 10 0 0) s m args below meth c H locs 0 0 (MQ below (m_Qi D cy b LAY (fun r ν => IY S μ0 ν ∧ (True))) args s 0 0 (m_A b LAY)) (F0 m 219 ls []) := by
  intro f
  induction f with
  | zero => intro y4 y7 y8 hy hf; exfalso; omega
  | succ f ih =>
    intro y4 y7 y8 hy hf μ hI hgp H locs hW ls hl
    refine lv_iload hx hb dX12_order_219 (lv_at hl 5 rfl) ?_
    refine lv_if_lt (tgt := 248) hx hb dX12_order_221 (by decide) (fun c1 => ?_) (fun c1 => ?_)
    · have i1 := m_c1 (rfl : y8.toInt = _) (by decide : (0 : Int32).toInt = 0) c1
      refine lv_iload hx hb dX12_order_248 (lv_at hl 4 rfl) ?_
      exact m_iret hx hb hr hlocks hW rfl (⟨hI, trivial⟩) dX12_order_250
    · have i1 := m_c2 (rfl : y8.toInt = _) (by decide : (0 : Int32).toInt = 0) c1
      refine lv_bipush (v := 10) hx hb dX12_order_224 (by decide) ?_
      refine lv_iload hx hb dX12_order_226 (lv_at hl 4 rfl) ?_
      refine lv_imul hx hb dX12_order_228 ?_
      refine lv_topi (fun x2 ex2 => ?_)
      refine lv_iload hx hb dX12_order_229 (lv_at hl 3 rfl) ?_
      refine lv_iconst (v := 3) hx hb dX12_order_231 (by decide) ?_
      refine lv_iload hx hb dX12_order_232 (lv_at hl 5 rfl) ?_
      refine lv_imul hx hb dX12_order_234 ?_
      refine lv_topi (fun x3 ex3 => ?_)
      have tx3 : x3.toInt = 3 * y8.toInt := m_mulI ex3 (by decide : (3 : Int32).toInt = 3) (rfl : y8.toInt = _) (by omega) (by omega)
      refine lv_ishr hx hb dX12_order_235 ?_
      refine lv_topi (fun x4 ex4 => ?_)
      refine lv_bipush (v := 7) hx hb dX12_order_236 (by decide) ?_
      refine lv_iand hx hb dX12_order_238 ?_
      refine lv_topi (fun x5 ex5 => ?_)
      have bx5 : 0 ≤ x5.toInt ∧ x5.toInt ≤ 7 := m_andN (n := 7) ex5 rfl (by decide)
      refine lv_iadd hx hb dX12_order_239 ?_
      refine lv_topi (fun x6 ex6 => ?_)
      refine lv_istore (lv' := [(7, .int x6), (0, .ref (b + 81)), (1, .int k), (2, .int u), (4, .int y4), (8, .int y8)]) hx hb dX12_order_240 hl (by decide) rfl (fun ls hl => ?_)
      obtain ⟨x7, ex7⟩ : ∃ z : Int32, z = y8 + (-1) := ⟨_, rfl⟩
      refine lv_iinc (v := x7) (lv' := [(8, .int x7), (7, .int x6), (0, .ref (b + 81)), (1, .int k), (2, .int u), (4, .int y4)]) hx hb dX12_order_242 hl (k := 5) rfl (by rw [ex7]; rfl) (by decide) rfl (fun ls hl => ?_)
      have tx7 : x7.toInt = y8.toInt + (-1) := m_addI ex7 (rfl : y8.toInt = _) (by decide : ((-1) : Int32).toInt = (-1)) (by omega) (by omega)
      refine lv_goto (tgt := 219) hx hb dX12_order_245 (by decide) ?_
      exact ih y4 x6 x7 (by omega) (by omega) μ hI (hgp) _ _ hW ls (lv_sub hl [2, 3, 4, 5, 1, 0] rfl)
set_option maxHeartbeats 4000000 in
set_option maxRecDepth 100000 in
theorem L_X12_order_96 {p : Program} {l : Launch} {e : Env} {s : State} {m : MethodId} {args : Array Value} {below : List Frame} {meth : Method} {c : Code} {D : va_G} {cy : Nat → ClassId} {b : Nat} (hx : p.tables.exec = Jvm.exec) (hb : c.code = cX12_order) (hr : meth.sig.returnType = ((some .int))) (hml : c.maxLocals = 10) (hown : s.vm.findClass RX12 = some m.cls) (hts : ∀ w ∈ TB, w.before args s = true) (hlocks : meth.locks = false) (S : Nat → Bool) (μ0 : mM) (hS20 : S 20 = true) (hS22 : S 22 = true) (hS32 : S 32 = true) (hS27 : S 27 = true) (hS37 : S 37 = true) (hS38 : S 38 = true) (k u : Int32) (F63 : Nat) (O63 : ∀ (y3 y4 y5 y6 y7 : Int32) (hy : 0 ≤ y3.toInt ∧ y3.toInt ≤ 255 ∧ 0 ≤ y7.toInt ∧ y7.toInt ≤ 2147483647) (hf : 2147483647 - y7.toInt < (F63 : Int)) (μ : mM) (hI : IY S μ0 μ) (hgp : m_GP μ) (H : Heap) (locs : List Loc), m_WA (m_A b LAY) D cy s b LAY μ H locs → ∀ ls : Array Slot, lv_has ls 10 [(0, .ref (b + 81)), (1, .int k), (2, .int u), (3, .int y3), (4, .int y4), (5, .int y5), (6, .int y6), (7, .int y7)] → W p l e (m_R 10 0 0) s m args below meth c H locs 0 0 (MQ below (m_Qi D cy b LAY (fun r ν => IY S μ0 ν ∧ (True))) args s 0 0 (m_A b LAY)) (F0 m 63 ls [])) : ∀ (f : Nat), ∀ (y3 y4 y5 y6 y7 y8 : Int32) (hy : 2147483647 - y7.toInt < (F63 : Int) + 1 ∧ 0 ≤ y3.toInt ∧ y3.toInt ≤ 255 ∧ 0 ≤ y7.toInt ∧ y7.toInt ≤ 2147483646 ∧ -1 ≤ y8.toInt ∧ y8.toInt ≤ 254 ∧ 0 ≤ y3.toInt ∧ y3.toInt ≤ 255 ∧ 0 ≤ y7.toInt ∧ y7.toInt ≤ 2147483647 ∧ 2147483647 - y7.toInt < (F63 : Int) + 1) (hf : y8.toInt + 1 < (f : Int)) (μ : mM) (hI : IY S μ0 μ) (hgp : m_GP μ) (H : Heap) (locs : List Loc), m_WA (m_A b LAY) D cy s b LAY μ H locs → ∀ ls : Array Slot, lv_has ls 10 [(0, .ref (b + 81)), (1, .int k), (2, .int u), (3, .int y3), (4, .int y4), (5, .int y5), (6, .int y6), (7, .int y7), (8, .int y8)] → W p l e (m_R 10 0 0) s m args below meth c H locs 0 0 (MQ below (m_Qi D cy b LAY (fun r ν => IY S μ0 ν ∧ (True))) args s 0 0 (m_A b LAY)) (F0 m 96 ls []) := by
  intro f
  induction f with
  | zero => intro y3 y4 y5 y6 y7 y8 hy hf; exfalso; omega
  | succ f ih =>
    intro y3 y4 y5 y6 y7 y8 hy hf μ hI hgp H locs hW ls hl
    refine lv_iload hx hb dX12_order_96 (lv_at hl 8 rfl) ?_
    refine lv_if_lt (tgt := 122) hx hb dX12_order_98 (by decide) (fun c1 => ?_) (fun c1 => ?_)
    · have i1 := m_c1 (rfl : y8.toInt = _) (by decide : (0 : Int32).toInt = 0) c1
      refine lv_aload_n hx hb dX12_order_122 rfl (lv_at hl 0 rfl) ?_
      refine lv_iconst (v := 1) hx hb dX12_order_123 (by decide) ?_
      refine lv_iconst (v := 4) hx hb dX12_order_124 (by decide) ?_
      have l_1 : (1 : Int32).toInt = 1 := by decide
      have l_4 : (4 : Int32).toInt = 4 := by decide
      refine m_aI hW (m_runV (As := [.int 1, .int 4]) (rest := []) hx hb hml hown hts hW (81) (g_X12_cellsAs l D cy b 1 4 (by omega) μ hI.1) mi_X12_cellsAs k_X12_378 rfl rfl rfl hl.1 rfl (Nat.le_of_ble_eq_true rfl) dX12_order_125 ⟨Nat.le_of_ble_eq_true rfl, Nat.le_of_ble_eq_true rfl⟩ ⟨Nat.le_of_ble_eq_true rfl, Nat.le_of_ble_eq_true rfl⟩) (fun x2 μ2 H locs q2 hW => ?_)
      obtain ⟨q2_m, q2⟩ := q2
      subst q2_m
      refine lv_istore (lv' := [(8, .int x2), (0, .ref (b + 81)), (1, .int k), (2, .int u), (3, .int y3), (4, .int y4), (5, .int y5), (6, .int y6), (7, .int y7)]) hx hb dX12_order_128 hl (by decide) rfl (fun ls hl => ?_)
      refine lv_aload_n hx hb dX12_order_130 rfl (lv_at hl 1 rfl) ?_
      refine m_getr hx hb hts hown hW (81) 22 (95) rfl rfl cw_12 rfl (by decide) k_X12_61 dX12_order_131 ?_
      refine lv_iconst (v := 1) hx hb dX12_order_134 (by decide) ?_
      refine m_iald hx hb hW (95) rfl (vp_in_iff.mpr ⟨by decide, by decide⟩) dX12_order_135 ?_
      refine lv_topi (fun x3 ex3 => ?_)
      refine lv_aload_n hx hb dX12_order_136 rfl (lv_at hl 1 rfl) ?_
      refine m_getr hx hb hts hown hW (81) 22 (95) rfl rfl cw_12 rfl (by decide) k_X12_61 dX12_order_137 ?_
      refine lv_iconst (v := 0) hx hb dX12_order_140 (by decide) ?_
      refine m_iald hx hb hW (95) rfl (vp_in_iff.mpr ⟨by decide, by decide⟩) dX12_order_141 ?_
      refine lv_topi (fun x4 ex4 => ?_)
      refine lv_isub hx hb dX12_order_142 ?_
      refine lv_topi (fun x5 ex5 => ?_)
      refine lv_istore (lv' := [(9, .int x5), (8, .int x2), (0, .ref (b + 81)), (1, .int k), (2, .int u), (3, .int y3), (4, .int y4), (5, .int y5), (6, .int y6), (7, .int y7)]) hx hb dX12_order_143 hl (by decide) rfl (fun ls hl => ?_)
      refine lv_iload hx hb dX12_order_145 (lv_at hl 6 rfl) ?_
      refine lv_iconst (v := (-1)) hx hb dX12_order_147 (by decide) ?_
      refine lv_icmp_eq (tgt := 175) hx hb dX12_order_148 (by decide) (fun c6 => ?_) (fun c6 => ?_)
      · have i6 := m_c5 (rfl : y4.toInt = _) (by decide : ((-1) : Int32).toInt = (-1)) c6
        refine lv_iload hx hb dX12_order_175 (lv_at hl 9 rfl) ?_
        refine lv_istore (lv' := [(4, .int y7), (9, .int x5), (8, .int x2), (0, .ref (b + 81)), (1, .int k), (2, .int u), (3, .int y3), (5, .int y5), (6, .int y6), (7, .int y7)]) hx hb dX12_order_177 hl (by decide) rfl (fun ls hl => ?_)
        refine lv_iload hx hb dX12_order_179 (lv_at hl 2 rfl) ?_
        refine lv_istore (lv' := [(5, .int x2), (4, .int y7), (9, .int x5), (8, .int x2), (0, .ref (b + 81)), (1, .int k), (2, .int u), (3, .int y3), (6, .int y6), (7, .int y7)]) hx hb dX12_order_181 hl (by decide) rfl (fun ls hl => ?_)
        refine lv_iload hx hb dX12_order_183 (lv_at hl 2 rfl) ?_
        refine lv_istore (lv' := [(6, .int x5), (5, .int x2), (4, .int y7), (9, .int x5), (8, .int x2), (0, .ref (b + 81)), (1, .int k), (2, .int u), (3, .int y3), (7, .int y7)]) hx hb dX12_order_185 hl (by decide) rfl (fun ls hl => ?_)
        obtain ⟨x7, ex7⟩ : ∃ z : Int32, z = y7 + 1 := ⟨_, rfl⟩
        refine lv_iinc (v := x7) (lv' := [(7, .int x7), (6, .int x5), (5, .int x2), (4, .int y7), (9, .int x5), (8, .int x2), (0, .ref (b + 81)), (1, .int k), (2, .int u), (3, .int y3)]) hx hb dX12_order_187 hl (k := 9) rfl (by rw [ex7]; rfl) (by decide) rfl (fun ls hl => ?_)
        have tx7 : x7.toInt = y7.toInt + 1 := m_addI ex7 (rfl : y7.toInt = _) (by decide : (1 : Int32).toInt = 1) (by omega) (by omega)
        refine lv_goto (tgt := 63) hx hb dX12_order_190 (by decide) ?_
        exact O63 y3 y7 x2 x5 x7 (by omega) (by omega) μ hI (hgp) _ _ hW ls (lv_sub hl [6, 7, 8, 9, 3, 2, 1, 0] rfl)
      · have i6 := m_c6 (rfl : y4.toInt = _) (by decide : ((-1) : Int32).toInt = (-1)) c6
        refine lv_iload hx hb dX12_order_151 (lv_at hl 1 rfl) ?_
        refine lv_iload hx hb dX12_order_153 (lv_at hl 7 rfl) ?_
        refine lv_icmp_gt (tgt := 187) hx hb dX12_order_155 (by decide) (fun c8 => ?_) (fun c8 => ?_)
        · have i8 := m_c1 (rfl : y5.toInt = _) (rfl : x2.toInt = _) c8
          obtain ⟨x9, ex9⟩ : ∃ z : Int32, z = y7 + 1 := ⟨_, rfl⟩
          refine lv_iinc (v := x9) (lv' := [(7, .int x9), (9, .int x5), (8, .int x2), (0, .ref (b + 81)), (1, .int k), (2, .int u), (3, .int y3), (4, .int y4), (5, .int y5), (6, .int y6)]) hx hb dX12_order_187 hl (k := 9) rfl (by rw [ex9]; rfl) (by decide) rfl (fun ls hl => ?_)
          have tx9 : x9.toInt = y7.toInt + 1 := m_addI ex9 (rfl : y7.toInt = _) (by decide : (1 : Int32).toInt = 1) (by omega) (by omega)
          refine lv_goto (tgt := 63) hx hb dX12_order_190 (by decide) ?_
          exact O63 y3 y4 y5 y6 x9 (by omega) (by omega) μ hI (hgp) _ _ hW ls (lv_sub hl [3, 4, 5, 6, 7, 8, 9, 0] rfl)
        · have i8 := m_c2 (rfl : y5.toInt = _) (rfl : x2.toInt = _) c8
          refine lv_iload hx hb dX12_order_158 (lv_at hl 1 rfl) ?_
          refine lv_iload hx hb dX12_order_160 (lv_at hl 7 rfl) ?_
          refine lv_icmp_ne (tgt := 175) hx hb dX12_order_162 (by decide) (fun c10 => ?_) (fun c10 => ?_)
          · have i10 := m_c6 (rfl : x2.toInt = _) (rfl : y5.toInt = _) c10
            refine lv_iload hx hb dX12_order_175 (lv_at hl 9 rfl) ?_
            refine lv_istore (lv' := [(4, .int y7), (9, .int x5), (8, .int x2), (0, .ref (b + 81)), (1, .int k), (2, .int u), (3, .int y3), (5, .int y5), (6, .int y6), (7, .int y7)]) hx hb dX12_order_177 hl (by decide) rfl (fun ls hl => ?_)
            refine lv_iload hx hb dX12_order_179 (lv_at hl 2 rfl) ?_
            refine lv_istore (lv' := [(5, .int x2), (4, .int y7), (9, .int x5), (8, .int x2), (0, .ref (b + 81)), (1, .int k), (2, .int u), (3, .int y3), (6, .int y6), (7, .int y7)]) hx hb dX12_order_181 hl (by decide) rfl (fun ls hl => ?_)
            refine lv_iload hx hb dX12_order_183 (lv_at hl 2 rfl) ?_
            refine lv_istore (lv' := [(6, .int x5), (5, .int x2), (4, .int y7), (9, .int x5), (8, .int x2), (0, .ref (b + 81)), (1, .int k), (2, .int u), (3, .int y3), (7, .int y7)]) hx hb dX12_order_185 hl (by decide) rfl (fun ls hl => ?_)
            obtain ⟨x11, ex11⟩ : ∃ z : Int32, z = y7 + 1 := ⟨_, rfl⟩
            refine lv_iinc (v := x11) (lv' := [(7, .int x11), (6, .int x5), (5, .int x2), (4, .int y7), (9, .int x5), (8, .int x2), (0, .ref (b + 81)), (1, .int k), (2, .int u), (3, .int y3)]) hx hb dX12_order_187 hl (k := 9) rfl (by rw [ex11]; rfl) (by decide) rfl (fun ls hl => ?_)
            have tx11 : x11.toInt = y7.toInt + 1 := m_addI ex11 (rfl : y7.toInt = _) (by decide : (1 : Int32).toInt = 1) (by omega) (by omega)
            refine lv_goto (tgt := 63) hx hb dX12_order_190 (by decide) ?_
            exact O63 y3 y7 x2 x5 x11 (by omega) (by omega) μ hI (hgp) _ _ hW ls (lv_sub hl [6, 7, 8, 9, 3, 2, 1, 0] rfl)
          · have i10 := m_c5 (rfl : x2.toInt = _) (rfl : y5.toInt = _) c10
            refine lv_iload hx hb dX12_order_165 (lv_at hl 0 rfl) ?_
            refine lv_iload hx hb dX12_order_167 (lv_at hl 8 rfl) ?_
            refine lv_icmp_lt (tgt := 175) hx hb dX12_order_169 (by decide) (fun c12 => ?_) (fun c12 => ?_)
            · have i12 := m_c1 (rfl : x5.toInt = _) (rfl : y6.toInt = _) c12
              refine lv_iload hx hb dX12_order_175 (lv_at hl 9 rfl) ?_
              refine lv_istore (lv' := [(4, .int y7), (9, .int x5), (8, .int x2), (0, .ref (b + 81)), (1, .int k), (2, .int u), (3, .int y3), (5, .int y5), (6, .int y6), (7, .int y7)]) hx hb dX12_order_177 hl (by decide) rfl (fun ls hl => ?_)
              refine lv_iload hx hb dX12_order_179 (lv_at hl 2 rfl) ?_
              refine lv_istore (lv' := [(5, .int x2), (4, .int y7), (9, .int x5), (8, .int x2), (0, .ref (b + 81)), (1, .int k), (2, .int u), (3, .int y3), (6, .int y6), (7, .int y7)]) hx hb dX12_order_181 hl (by decide) rfl (fun ls hl => ?_)
              refine lv_iload hx hb dX12_order_183 (lv_at hl 2 rfl) ?_
              refine lv_istore (lv' := [(6, .int x5), (5, .int x2), (4, .int y7), (9, .int x5), (8, .int x2), (0, .ref (b + 81)), (1, .int k), (2, .int u), (3, .int y3), (7, .int y7)]) hx hb dX12_order_185 hl (by decide) rfl (fun ls hl => ?_)
              obtain ⟨x13, ex13⟩ : ∃ z : Int32, z = y7 + 1 := ⟨_, rfl⟩
              refine lv_iinc (v := x13) (lv' := [(7, .int x13), (6, .int x5), (5, .int x2), (4, .int y7), (9, .int x5), (8, .int x2), (0, .ref (b + 81)), (1, .int k), (2, .int u), (3, .int y3)]) hx hb dX12_order_187 hl (k := 9) rfl (by rw [ex13]; rfl) (by decide) rfl (fun ls hl => ?_)
              have tx13 : x13.toInt = y7.toInt + 1 := m_addI ex13 (rfl : y7.toInt = _) (by decide : (1 : Int32).toInt = 1) (by omega) (by omega)
              refine lv_goto (tgt := 63) hx hb dX12_order_190 (by decide) ?_
              exact O63 y3 y7 x2 x5 x13 (by omega) (by omega) μ hI (hgp) _ _ hW ls (lv_sub hl [6, 7, 8, 9, 3, 2, 1, 0] rfl)
            · have i12 := m_c2 (rfl : x5.toInt = _) (rfl : y6.toInt = _) c12
              refine lv_goto (tgt := 187) hx hb dX12_order_172 (by decide) ?_
              obtain ⟨x14, ex14⟩ : ∃ z : Int32, z = y7 + 1 := ⟨_, rfl⟩
              refine lv_iinc (v := x14) (lv' := [(7, .int x14), (9, .int x5), (8, .int x2), (0, .ref (b + 81)), (1, .int k), (2, .int u), (3, .int y3), (4, .int y4), (5, .int y5), (6, .int y6)]) hx hb dX12_order_187 hl (k := 9) rfl (by rw [ex14]; rfl) (by decide) rfl (fun ls hl => ?_)
              have tx14 : x14.toInt = y7.toInt + 1 := m_addI ex14 (rfl : y7.toInt = _) (by decide : (1 : Int32).toInt = 1) (by omega) (by omega)
              refine lv_goto (tgt := 63) hx hb dX12_order_190 (by decide) ?_
              exact O63 y3 y4 y5 y6 x14 (by omega) (by omega) μ hI (hgp) _ _ hW ls (lv_sub hl [3, 4, 5, 6, 7, 8, 9, 0] rfl)
    · have i1 := m_c2 (rfl : y8.toInt = _) (by decide : (0 : Int32).toInt = 0) c1
      refine lv_aload_n hx hb dX12_order_101 rfl (lv_at hl 0 rfl) ?_
      refine lv_iconst (v := 1) hx hb dX12_order_102 (by decide) ?_
      refine lv_iload hx hb dX12_order_103 (lv_at hl 7 rfl) ?_
      refine lv_iconst (v := 3) hx hb dX12_order_105 (by decide) ?_
      refine lv_iload hx hb dX12_order_106 (lv_at hl 8 rfl) ?_
      refine lv_imul hx hb dX12_order_108 ?_
      refine lv_topi (fun x15 ex15 => ?_)
      have tx15 : x15.toInt = 3 * y8.toInt := m_mulI ex15 (by decide : (3 : Int32).toInt = 3) (rfl : y8.toInt = _) (by omega) (by omega)
      refine lv_ishr hx hb dX12_order_109 ?_
      refine lv_topi (fun x16 ex16 => ?_)
      refine lv_bipush (v := 7) hx hb dX12_order_110 (by decide) ?_
      refine lv_iand hx hb dX12_order_112 ?_
      refine lv_topi (fun x17 ex17 => ?_)
      have bx17 : 0 ≤ x17.toInt ∧ x17.toInt ≤ 7 := m_andN (n := 7) ex17 rfl (by decide)
      have l_1 : (1 : Int32).toInt = 1 := by decide
      refine m_aV hW (m_runV (As := [.int 1, .int x17]) (rest := []) hx hb hml hown hts hW (81) (g_X12_runs l D cy b (fun g => [22, 32, 27, 37, 38].contains g) μ rfl rfl rfl rfl rfl 1 x17 (by omega) (by omega) μ (IY.rf hI.1) hgp) mi_X12_runs k_X12_372 rfl rfl rfl hl.1 rfl (Nat.le_of_ble_eq_true rfl) dX12_order_113 ⟨Nat.le_of_ble_eq_true rfl, Nat.le_of_ble_eq_true rfl⟩ ⟨Nat.le_of_ble_eq_true rfl, Nat.le_of_ble_eq_true rfl⟩) (fun μ18 H locs q18 hW => ?_)
      obtain ⟨hJ18, q18⟩ := q18
      have hI := hI.tr hJ18 (m_subL (by simp [hS22, hS32, hS27, hS37, hS38]))
      have hgp : m_GP μ18 := hgp.fr hJ18 rfl rfl
      obtain ⟨x19, ex19⟩ : ∃ z : Int32, z = y8 + (-1) := ⟨_, rfl⟩
      refine lv_iinc (v := x19) (lv' := [(8, .int x19), (0, .ref (b + 81)), (1, .int k), (2, .int u), (3, .int y3), (4, .int y4), (5, .int y5), (6, .int y6), (7, .int y7)]) hx hb dX12_order_116 hl (k := 8) rfl (by rw [ex19]; rfl) (by decide) rfl (fun ls hl => ?_)
      have tx19 : x19.toInt = y8.toInt + (-1) := m_addI ex19 (rfl : y8.toInt = _) (by decide : ((-1) : Int32).toInt = (-1)) (by omega) (by omega)
      refine lv_goto (tgt := 96) hx hb dX12_order_119 (by decide) ?_
      exact ih y3 y4 y5 y6 y7 x19 (by omega) (by omega) μ18 hI (hgp) _ _ hW ls (lv_sub hl [1, 2, 3, 4, 5, 6, 7, 8, 0] rfl)
set_option maxHeartbeats 4000000 in
set_option maxRecDepth 100000 in
theorem L_X12_order_63 {p : Program} {l : Launch} {e : Env} {s : State} {m : MethodId} {args : Array Value} {below : List Frame} {meth : Method} {c : Code} {D : va_G} {cy : Nat → ClassId} {b : Nat} (hx : p.tables.exec = Jvm.exec) (hb : c.code = cX12_order) (hr : meth.sig.returnType = ((some .int))) (hml : c.maxLocals = 10) (hown : s.vm.findClass RX12 = some m.cls) (hts : ∀ w ∈ TB, w.before args s = true) (hlocks : meth.locks = false) (S : Nat → Bool) (μ0 : mM) (hS20 : S 20 = true) (hS22 : S 22 = true) (hS32 : S 32 = true) (hS27 : S 27 = true) (hS37 : S 37 = true) (hS38 : S 38 = true) (k u : Int32) : ∀ (f : Nat), ∀ (y3 y4 y5 y6 y7 : Int32) (hy : 0 ≤ y3.toInt ∧ y3.toInt ≤ 255 ∧ 0 ≤ y7.toInt ∧ y7.toInt ≤ 2147483647) (hf : 2147483647 - y7.toInt < (f : Int)) (μ : mM) (hI : IY S μ0 μ) (hgp : m_GP μ) (H : Heap) (locs : List Loc), m_WA (m_A b LAY) D cy s b LAY μ H locs → ∀ ls : Array Slot, lv_has ls 10 [(0, .ref (b + 81)), (1, .int k), (2, .int u), (3, .int y3), (4, .int y4), (5, .int y5), (6, .int y6), (7, .int y7)] → W p l e (m_R 10 0 0) s m args below meth c H locs 0 0 (MQ below (m_Qi D cy b LAY (fun r ν => IY S μ0 ν ∧ (True))) args s 0 0 (m_A b LAY)) (F0 m 63 ls []) := by
  intro f
  induction f with
  | zero => intro y3 y4 y5 y6 y7 hy hf; exfalso; omega
  | succ f ih =>
    intro y3 y4 y5 y6 y7 hy hf μ hI hgp H locs hW ls hl
    refine lv_iload hx hb dX12_order_63 (lv_at hl 7 rfl) ?_
    refine lv_iconst (v := 1) hx hb dX12_order_65 (by decide) ?_
    refine lv_iconst (v := 3) hx hb dX12_order_66 (by decide) ?_
    refine lv_iload_n hx hb dX12_order_67 rfl (lv_at hl 3 rfl) ?_
    refine lv_imul hx hb dX12_order_68 ?_
    refine lv_topi (fun x1 ex1 => ?_)
    have tx1 : x1.toInt = 3 * y3.toInt := m_mulI ex1 (by decide : (3 : Int32).toInt = 3) (rfl : y3.toInt = _) (by omega) (by omega)
    refine lv_ishl hx hb dX12_order_69 ?_
    refine lv_topi (fun x2 ex2 => ?_)
    refine lv_icmp_ge (tgt := 193) hx hb dX12_order_70 (by decide) (fun c3 => ?_) (fun c3 => ?_)
    · have i3 := m_c3 (rfl : x2.toInt = _) (rfl : y7.toInt = _) c3
      refine lv_iload_n hx hb dX12_order_193 rfl (lv_at hl 2 rfl) ?_
      refine lv_iconst (v := 2) hx hb dX12_order_194 (by decide) ?_
      refine lv_icmp_ge (tgt := 210) hx hb dX12_order_195 (by decide) (fun c4 => ?_) (fun c4 => ?_)
      · have i4 := m_c3 (by decide : (2 : Int32).toInt = 2) (rfl : u.toInt = _) c4
        refine lv_bipush (v := 9) hx hb dX12_order_210 (by decide) ?_
        refine lv_istore (lv' := [(7, .int 9), (0, .ref (b + 81)), (1, .int k), (2, .int u), (3, .int y3), (4, .int y4), (5, .int y5), (6, .int y6)]) hx hb dX12_order_212 hl (by decide) rfl (fun ls hl => ?_)
        refine lv_iload_n hx hb dX12_order_214 rfl (lv_at hl 4 rfl) ?_
        refine lv_iconst (v := 1) hx hb dX12_order_215 (by decide) ?_
        refine lv_isub hx hb dX12_order_216 ?_
        refine lv_topi (fun x5 ex5 => ?_)
        have tx5 : x5.toInt = y3.toInt - 1 := m_subI ex5 (rfl : y3.toInt = _) (by decide : (1 : Int32).toInt = 1) (by omega) (by omega)
        refine lv_istore (lv' := [(8, .int x5), (7, .int 9), (0, .ref (b + 81)), (1, .int k), (2, .int u), (3, .int y3), (4, .int y4), (5, .int y5), (6, .int y6)]) hx hb dX12_order_217 hl (by decide) rfl (fun ls hl => ?_)
        have l_9 : (9 : Int32).toInt = 9 := by decide
        exact L_X12_order_219 hx hb hr hml hown hts hlocks S μ0 hS20 hS22 hS32 hS27 hS37 hS38 k u  256 y4 9 x5 (by omega) (by omega) μ hI (hgp) _ _ hW ls (lv_sub hl [2, 3, 4, 6, 1, 0] rfl)
      · have i4 := m_c4 (by decide : (2 : Int32).toInt = 2) (rfl : u.toInt = _) c4
        refine lv_iload_n hx hb dX12_order_198 rfl (lv_at hl 2 rfl) ?_
        refine lv_if_ne (tgt := 207) hx hb dX12_order_199 (by decide) (fun c6 => ?_) (fun c6 => ?_)
        · have i6 := m_c6 (rfl : u.toInt = _) (by decide : (0 : Int32).toInt = 0) c6
          refine lv_iload hx hb dX12_order_207 (lv_at hl 6 rfl) ?_
          exact m_iret hx hb hr hlocks hW rfl (⟨hI, trivial⟩) dX12_order_209
        · have i6 := m_c5 (rfl : u.toInt = _) (by decide : (0 : Int32).toInt = 0) c6
          refine lv_iload hx hb dX12_order_202 (lv_at hl 5 rfl) ?_
          refine lv_goto (tgt := 209) hx hb dX12_order_204 (by decide) ?_
          exact m_iret hx hb hr hlocks hW rfl (⟨hI, trivial⟩) dX12_order_209
    · have i3 := m_c4 (rfl : x2.toInt = _) (rfl : y7.toInt = _) c3; have r_x2 := m_rng x2
      refine lv_aload_n hx hb dX12_order_73 rfl (lv_at hl 0 rfl) ?_
      refine lv_iload hx hb dX12_order_74 (lv_at hl 7 rfl) ?_
      refine lv_iload_n hx hb dX12_order_76 rfl (lv_at hl 3 rfl) ?_
      refine lv_iload_n hx hb dX12_order_77 rfl (lv_at hl 1 rfl) ?_
      refine m_aI hW (m_runV (As := [.int y7, .int y3, .int k]) (rest := []) hx hb hml hown hts hW (81) (g_X12_isOrder l D cy b y7 y3 k μ hI.1) mi_X12_isOrder k_X12_386 rfl rfl rfl hl.1 rfl (Nat.le_of_ble_eq_true rfl) dX12_order_78 ⟨Nat.le_of_ble_eq_true rfl, Nat.le_of_ble_eq_true rfl⟩ ⟨Nat.le_of_ble_eq_true rfl, Nat.le_of_ble_eq_true rfl⟩) (fun x7 μ7 H locs q7 hW => ?_)
      obtain ⟨q7_m, q7⟩ := q7
      subst q7_m
      rcases q7 with ⟨rfl, q7⟩ | ⟨rfl, q7⟩
      · refine lv_if_ne (tgt := 87) hx hb dX12_order_81 (by decide) (fun _ => ?_) (fun c => False.elim (by revert c; decide))
        refine lv_aload_n hx hb dX12_order_87 rfl (lv_at hl 0 rfl) ?_
        refine m_aV hW (m_runV (As := []) (rest := []) hx hb hml hown hts hW (81) (g_X12_copies l D cy b (fun g => [22].contains g) μ rfl μ (IY.rf hI.1)) mi_X12_copies k_X12_389 rfl rfl rfl hl.1 rfl (Nat.le_of_ble_eq_true rfl) dX12_order_88 ⟨Nat.le_of_ble_eq_true rfl, Nat.le_of_ble_eq_true rfl⟩ ⟨Nat.le_of_ble_eq_true rfl, Nat.le_of_ble_eq_true rfl⟩) (fun μ8 H locs q8 hW => ?_)
        obtain ⟨hJ8, q8⟩ := q8
        have hI := hI.tr hJ8 (m_subL (by simp [hS22]))
        have hgp : m_GP μ8 := hgp.fr hJ8 rfl rfl
        refine lv_iload_n hx hb dX12_order_91 rfl (lv_at hl 3 rfl) ?_
        refine lv_iconst (v := 1) hx hb dX12_order_92 (by decide) ?_
        refine lv_isub hx hb dX12_order_93 ?_
        refine lv_topi (fun x9 ex9 => ?_)
        have tx9 : x9.toInt = y3.toInt - 1 := m_subI ex9 (rfl : y3.toInt = _) (by decide : (1 : Int32).toInt = 1) (by omega) (by omega)
        refine lv_istore (lv' := [(8, .int x9), (0, .ref (b + 81)), (1, .int k), (2, .int u), (3, .int y3), (4, .int y4), (5, .int y5), (6, .int y6), (7, .int y7)]) hx hb dX12_order_94 hl (by decide) rfl (fun ls hl => ?_)
        exact L_X12_order_96 hx hb hr hml hown hts hlocks S μ0 hS20 hS22 hS32 hS27 hS37 hS38 k u f ih 256 y3 y4 y5 y6 y7 x9 (by omega) (by omega) μ8 hI (hgp) _ _ hW ls (lv_sub hl [1, 2, 3, 4, 5, 6, 7, 8, 0] rfl)
      · refine lv_if_ne (tgt := 87) hx hb dX12_order_81 (by decide) (fun c => False.elim (by revert c; decide)) (fun _ => ?_)
        refine lv_goto (tgt := 187) hx hb dX12_order_84 (by decide) ?_
        obtain ⟨x10, ex10⟩ : ∃ z : Int32, z = y7 + 1 := ⟨_, rfl⟩
        refine lv_iinc (v := x10) (lv' := [(7, .int x10), (0, .ref (b + 81)), (1, .int k), (2, .int u), (3, .int y3), (4, .int y4), (5, .int y5), (6, .int y6)]) hx hb dX12_order_187 hl (k := 7) rfl (by rw [ex10]; rfl) (by decide) rfl (fun ls hl => ?_)
        have tx10 : x10.toInt = y7.toInt + 1 := m_addI ex10 (rfl : y7.toInt = _) (by decide : (1 : Int32).toInt = 1) (by omega) (by omega)
        refine lv_goto (tgt := 63) hx hb dX12_order_190 (by decide) ?_
        exact ih y3 y4 y5 y6 x10 (by omega) (by omega) μ hI (hgp) _ _ hW ls (lv_sub hl [1, 2, 3, 4, 5, 6, 7, 0] rfl)
set_option maxHeartbeats 4000000 in
set_option maxRecDepth 100000 in
theorem g_X12_order (l : Launch) (D : va_G) (cy : Nat → ClassId) (b : Nat) (S : Nat → Bool) (μ0 : mM) (hS20 : S 20 = true) (hS22 : S 22 = true) (hS32 : S 32 = true) (hS27 : S 27 = true) (hS37 : S 37 = true) (hS38 : S 38 = true) (k u : Int32) (μ : mM) (hI : IY S μ0 μ) (hgp : m_GP μ) : m_Ci l yX12_order cX12_order 10 ((some .int)) 10 D cy b LAY μ [.ref (b + 81), .int k, .int u] (fun r ν => IY S μ0 ν ∧ (True)) := by
  unfold m_Ci
  refine m_of (by decide) (Nat.le_of_ble_eq_true rfl) ?_
  intro p e s m below meth c hx hb hr hml hown hts hlocks _ hW ls hl
  have hown : s.vm.findClass RX12 = some m.cls := hown
  have hl : lv_has ls 10 [(0, .ref (b + 81)), (1, .int k), (2, .int u)] := hl
  refine lv_aload_n hx hb dX12_order_0 rfl (lv_at hl 0 rfl) ?_
  refine lv_iconst (v := 0) hx hb dX12_order_1 (by decide) ?_
  refine m_puti hx hb hts hown hW (81) 0 rfl rfl cw_12 tyX12_ok nmX12 rfl (by decide) k_X12_167 rfl rfl rfl dX12_order_2 (fun H locs hW _ => ?_)
  generalize hμ1 : m_si μ (81) 0 0 = μ1 at hW
  have hgp : m_GP μ1 := hgp.si hμ1 (by decide) (by decide) (by decide)
  have hI := hI.si0 hμ1 rfl hS20
  refine lv_aload_n hx hb dX12_order_5 rfl (lv_at hl 0 rfl) ?_
  refine lv_iload_n hx hb dX12_order_6 rfl (lv_at hl 1 rfl) ?_
  refine lv_iconst (v := 1) hx hb dX12_order_7 (by decide) ?_
  refine lv_sipush (v := 255) hx hb dX12_order_8 (by decide) ?_
  have l_1 : (1 : Int32).toInt = 1 := by decide
  have l_255 : (255 : Int32).toInt = 255 := by decide
  refine m_aI hW (m_runV (As := [.int k, .int 1, .int 255]) (rest := []) hx hb hml hown hts hW (81) (g_X12_isIn l D cy b k 1 255 μ1 hI.1) mi_X12_isIn k_X12_170 rfl rfl rfl hl.1 rfl (Nat.le_of_ble_eq_true rfl) dX12_order_11 ⟨Nat.le_of_ble_eq_true rfl, Nat.le_of_ble_eq_true rfl⟩ ⟨Nat.le_of_ble_eq_true rfl, Nat.le_of_ble_eq_true rfl⟩) (fun x2 μ2 H locs q2 hW => ?_)
  obtain ⟨q2_m, q2⟩ := q2
  subst q2_m
  rcases q2 with ⟨rfl, q2⟩ | ⟨rfl, q2⟩
  · refine lv_if_eq (tgt := 43) hx hb dX12_order_14 (by decide) (fun c => False.elim (by revert c; decide)) (fun _ => ?_)
    refine lv_aload_n hx hb dX12_order_17 rfl (lv_at hl 0 rfl) ?_
    refine lv_iload_n hx hb dX12_order_18 rfl (lv_at hl 1 rfl) ?_
    refine m_aI hW (m_runV (As := [.int k]) (rest := []) hx hb hml hown hts hW (81) (g_X12_ones l D cy b k (by omega) μ1 hI.1) mi_X12_ones k_X12_383 rfl rfl rfl hl.1 rfl (Nat.le_of_ble_eq_true rfl) dX12_order_19 ⟨Nat.le_of_ble_eq_true rfl, Nat.le_of_ble_eq_true rfl⟩ ⟨Nat.le_of_ble_eq_true rfl, Nat.le_of_ble_eq_true rfl⟩) (fun x3 μ3 H locs q3 hW => ?_)
    obtain ⟨q3_m, q3⟩ := q3
    subst q3_m
    refine lv_iconst (v := 3) hx hb dX12_order_22 (by decide) ?_
    refine lv_icmp_gt (tgt := 43) hx hb dX12_order_23 (by decide) (fun c4 => ?_) (fun c4 => ?_)
    · have i4 := m_c1 (by decide : (3 : Int32).toInt = 3) (rfl : x3.toInt = _) c4
      refine lv_iconst (v := (-1)) hx hb dX12_order_43 (by decide) ?_
      exact m_iret hx hb hr hlocks hW rfl (⟨hI, trivial⟩) dX12_order_44
    · have i4 := m_c2 (by decide : (3 : Int32).toInt = 3) (rfl : x3.toInt = _) c4
      refine lv_aload_n hx hb dX12_order_26 rfl (lv_at hl 0 rfl) ?_
      refine m_geti hx hb hts hown hW (81) 5 rfl rfl cw_12 rfl (by decide) k_X12_174 dX12_order_27 ?_
      refine lv_topi (fun x5 ex5 => ?_)
      have bx5 : 0 ≤ x5.toInt ∧ x5.toInt ≤ 1 := by rw [ex5]; exact hI.1 _ _ _ _ rfl
      refine lv_if_eq (tgt := 43) hx hb dX12_order_30 (by decide) (fun c6 => ?_) (fun c6 => ?_)
      · have i6 := m_c5 (rfl : x5.toInt = _) (by decide : (0 : Int32).toInt = 0) c6
        refine lv_iconst (v := (-1)) hx hb dX12_order_43 (by decide) ?_
        exact m_iret hx hb hr hlocks hW rfl (⟨hI, trivial⟩) dX12_order_44
      · have i6 := m_c6 (rfl : x5.toInt = _) (by decide : (0 : Int32).toInt = 0) c6
        refine lv_aload_n hx hb dX12_order_33 rfl (lv_at hl 0 rfl) ?_
        refine lv_iload_n hx hb dX12_order_34 rfl (lv_at hl 2 rfl) ?_
        refine lv_iconst (v := 0) hx hb dX12_order_35 (by decide) ?_
        refine lv_iconst (v := 2) hx hb dX12_order_36 (by decide) ?_
        have l_0 : (0 : Int32).toInt = 0 := by decide
        have l_2 : (2 : Int32).toInt = 2 := by decide
        refine m_aI hW (m_runV (As := [.int u, .int 0, .int 2]) (rest := []) hx hb hml hown hts hW (81) (g_X12_isIn l D cy b u 0 2 μ1 hI.1) mi_X12_isIn k_X12_170 rfl rfl rfl hl.1 rfl (Nat.le_of_ble_eq_true rfl) dX12_order_37 ⟨Nat.le_of_ble_eq_true rfl, Nat.le_of_ble_eq_true rfl⟩ ⟨Nat.le_of_ble_eq_true rfl, Nat.le_of_ble_eq_true rfl⟩) (fun x7 μ7 H locs q7 hW => ?_)
        obtain ⟨q7_m, q7⟩ := q7
        subst q7_m
        rcases q7 with ⟨rfl, q7⟩ | ⟨rfl, q7⟩
        · refine lv_if_ne (tgt := 45) hx hb dX12_order_40 (by decide) (fun _ => ?_) (fun c => False.elim (by revert c; decide))
          refine lv_aload_n hx hb dX12_order_45 rfl (lv_at hl 0 rfl) ?_
          refine lv_iload_n hx hb dX12_order_46 rfl (lv_at hl 1 rfl) ?_
          refine m_aI hW (m_runV (As := [.int k]) (rest := []) hx hb hml hown hts hW (81) (g_X12_ones l D cy b k (by omega) μ1 hI.1) mi_X12_ones k_X12_383 rfl rfl rfl hl.1 rfl (Nat.le_of_ble_eq_true rfl) dX12_order_47 ⟨Nat.le_of_ble_eq_true rfl, Nat.le_of_ble_eq_true rfl⟩ ⟨Nat.le_of_ble_eq_true rfl, Nat.le_of_ble_eq_true rfl⟩) (fun x8 μ8 H locs q8 hW => ?_)
          obtain ⟨q8_m, q8⟩ := q8
          subst q8_m
          refine lv_istore_n (lv' := [(3, .int x8), (0, .ref (b + 81)), (1, .int k), (2, .int u)]) hx hb dX12_order_50 rfl hl (by decide) rfl (fun ls hl => ?_)
          refine lv_iconst (v := (-1)) hx hb dX12_order_51 (by decide) ?_
          refine lv_istore (lv' := [(4, .int (-1)), (3, .int x8), (0, .ref (b + 81)), (1, .int k), (2, .int u)]) hx hb dX12_order_52 hl (by decide) rfl (fun ls hl => ?_)
          refine lv_iconst (v := 0) hx hb dX12_order_54 (by decide) ?_
          refine lv_istore (lv' := [(5, .int 0), (4, .int (-1)), (3, .int x8), (0, .ref (b + 81)), (1, .int k), (2, .int u)]) hx hb dX12_order_55 hl (by decide) rfl (fun ls hl => ?_)
          refine lv_iconst (v := 0) hx hb dX12_order_57 (by decide) ?_
          refine lv_istore (lv' := [(6, .int 0), (5, .int 0), (4, .int (-1)), (3, .int x8), (0, .ref (b + 81)), (1, .int k), (2, .int u)]) hx hb dX12_order_58 hl (by decide) rfl (fun ls hl => ?_)
          refine lv_iconst (v := 0) hx hb dX12_order_60 (by decide) ?_
          refine lv_istore (lv' := [(7, .int 0), (6, .int 0), (5, .int 0), (4, .int (-1)), (3, .int x8), (0, .ref (b + 81)), (1, .int k), (2, .int u)]) hx hb dX12_order_61 hl (by decide) rfl (fun ls hl => ?_)
          have l_m1 : ((-1) : Int32).toInt = (-1) := by decide
          exact L_X12_order_63 hx hb hr hml hown hts hlocks S μ0 hS20 hS22 hS32 hS27 hS37 hS38 k u  2147483648 x8 (-1) 0 0 0 (by omega) (by omega) μ1 hI (hgp) _ _ hW ls (lv_sub hl [5, 6, 7, 4, 3, 2, 1, 0] rfl)
        · refine lv_if_ne (tgt := 45) hx hb dX12_order_40 (by decide) (fun c => False.elim (by revert c; decide)) (fun _ => ?_)
          refine lv_iconst (v := (-1)) hx hb dX12_order_43 (by decide) ?_
          exact m_iret hx hb hr hlocks hW rfl (⟨hI, trivial⟩) dX12_order_44
  · refine lv_if_eq (tgt := 43) hx hb dX12_order_14 (by decide) (fun _ => ?_) (fun c => False.elim (by revert c; decide))
    refine lv_iconst (v := (-1)) hx hb dX12_order_43 (by decide) ?_
    exact m_iret hx hb hr hlocks hW rfl (⟨hI, trivial⟩) dX12_order_44
