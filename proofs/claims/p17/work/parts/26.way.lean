-- WAY: the draft is copied
theorem m_WD.si {μ ν : mM} (h : m_WD μ) {k j : Nat} {v : Int32} (e : m_si μ k j v = ν) (h1 : 108 ≠ k) (h2 : 109 ≠ k) (h3 : 111 ≠ k) : m_WD ν := by
  subst e
  unfold m_WD
  rw [m_si_row h1, m_si_row h2, m_si_row h3]
  exact h
def m_CY (μ : mM) (k y : Nat) : Prop := (∀ q, q < 8 → q ≠ k → m_WR μ q) ∧ (∀ i, i < y → μ.1 108 (400 * k + i) = μ.1 108 (3200 + i) ∧ μ.1 109 (400 * k + i) = μ.1 109 (3200 + i)) ∧ m_WD μ
theorem m_CY.start {μ : mM} (k : Nat) (hg : m_GP μ) (hd : m_WD μ) : m_CY μ k 0 := ⟨fun q hq _ => hg q hq, fun i hi => absurd hi (by omega), hd⟩
theorem m_CY.step {μ ν : mM} {k y : Nat} (h : m_CY μ k y) (hk : k < 8) (hy : y < 400) (h8 : (μ.1 111 8).toNatClampNeg ≤ 400) (h1 : ν.1 108 = (m_si μ 108 (400 * k + y) (μ.1 108 (3200 + y))).1 108) (h2 : ν.1 109 = (m_si μ 109 (400 * k + y) (μ.1 109 (3200 + y))).1 109) (h3 : ν.1 111 = μ.1 111) : m_CY ν k (y + 1) := by
  have e1 : ∀ i, i ≠ 400 * k + y → ν.1 108 i = μ.1 108 i := fun i hi => by rw [h1]; exact m_si_el hi
  have e2 : ∀ i, i ≠ 400 * k + y → ν.1 109 i = μ.1 109 i := fun i hi => by rw [h2]; exact m_si_el hi
  have f1 : ν.1 108 (400 * k + y) = μ.1 108 (3200 + y) := by rw [h1]; exact m_si_at
  have f2 : ν.1 109 (400 * k + y) = μ.1 109 (3200 + y) := by rw [h2]; exact m_si_at
  refine ⟨fun q hq hne => ?_, fun i hi => ?_, ?_⟩
  · obtain ⟨a, b⟩ := h.1 q hq hne
    unfold m_WR
    rw [h3]
    exact ⟨a, b.cg (fun i hi => e1 _ (by omega)) (fun i hi => e2 _ (by omega))⟩
  · by_cases c : i = y
    · subst c
      rw [f1, f2, e1 (3200 + i) (by omega), e2 (3200 + i) (by omega)]
      exact ⟨rfl, rfl⟩
    · obtain ⟨a, b⟩ := h.2.1 i (by omega)
      rw [e1 (400 * k + i) (by omega), e2 (400 * k + i) (by omega), e1 (3200 + i) (by omega), e2 (3200 + i) (by omega)]
      exact ⟨a, b⟩
  · have hd := h.2.2
    unfold m_WD at hd ⊢
    rw [h3]
    exact hd.cg (fun i hi => e1 _ (by omega)) (fun i hi => e2 _ (by omega))
theorem m_CY.done {μ ν : mM} {k : Nat} {v : Int32} (h : m_CY μ k 400) (hk : k < 8) (hv : μ.1 111 8 = v) (h8 : v.toNatClampNeg ≤ 400) (e : m_si μ 111 k v = ν) : m_GP ν := by
  subst e
  intro q hq
  unfold m_WR
  rw [m_si_row (P := 108) (k := 111) (by decide), m_si_row (P := 109) (k := 111) (by decide)]
  by_cases c : q = k
  · subst c
    rw [m_si_at]
    have hd := h.2.2
    unfold m_WD at hd
    rw [hv] at hd
    exact ⟨h8, hd.cg (fun i hi => (h.2.1 i (by omega)).1) (fun i hi => (h.2.1 i (by omega)).2)⟩
  · rw [m_si_el c]
    exact h.1 q hq c
theorem m_c400 {x : Int32} (h : x.toInt ≤ 400) : x.toNatClampNeg ≤ 400 := by
  show x.toInt.toNat ≤ 400
  omega
theorem m_10 {x : Int32} (h : x = 1 ∨ x = 0) : 0 ≤ x.toInt ∧ x.toInt ≤ 1 := by
  rcases h with rfl | rfl <;> decide
set_option maxHeartbeats 4000000 in
set_option maxRecDepth 100000 in
theorem L_X12_way_77 {p : Program} {l : Launch} {e : Env} {s : State} {m : MethodId} {args : Array Value} {below : List Frame} {meth : Method} {c : Code} {D : va_G} {cy : Nat → ClassId} {b : Nat} (hx : p.tables.exec = Jvm.exec) (hb : c.code = cX12_way) (hr : meth.sig.returnType = ((some .boolean))) (hml : c.maxLocals = 7) (hown : s.vm.findClass RX12 = some m.cls) (hts : ∀ w ∈ TB, w.before args s = true) (hlocks : meth.locks = false) (S : Nat → Bool) (μ0 : mM) (hS20 : S 20 = true) (hS23 : S 23 = true) (hS26 : S 26 = true) (hS24 : S 24 = true) (hS25 : S 25 = true) (hS33 : S 33 = true) (hS34 : S 34 = true) (hS35 : S 35 = true) (hS36 : S 36 = true) (hS41 : S 41 = true) (k : Int32) : ∀ (f : Nat), ∀ (y4 : Int32) (hy : 0 ≤ y4.toInt ∧ y4.toInt ≤ 400 ∧ 0 ≤ k.toInt ∧ k.toInt ≤ 7) (hf : 400 - y4.toInt < (f : Int)) (μ : mM) (hI : IY S μ0 μ) (hcy : m_CY μ k.toNatClampNeg y4.toNatClampNeg) (H : Heap) (locs : List Loc), m_WA (m_A b LAY) D cy s b LAY μ H locs → ∀ ls : Array Slot, lv_has ls 7 [(0, .ref (b + 81)), (1, .int k), (4, .int y4)] → W p l e (m_R 7 0 0) s m args below meth c H locs 0 0 (MQ below (m_Qi D cy b LAY (fun r ν => IY S μ0 ν ∧ ((r = 1 ∨ r = 0) ∧ m_GP ν))) args s 0 0 (m_A b LAY)) (F0 m 77 ls []) := by
  intro f
  induction f with
  | zero => intro y4 hy hf; exfalso; omega
  | succ f ih =>
    intro y4 hy hf μ hI hcy H locs hW ls hl
    have hI0_ := hI
    refine lv_iload hx hb dX12_way_77 (lv_at hl 2 rfl) ?_
    refine lv_sipush (v := 400) hx hb dX12_way_79 (by decide) ?_
    refine lv_icmp_ge (tgt := 235) hx hb dX12_way_82 (by decide) (fun c1 => ?_) (fun c1 => ?_)
    · have i1 := m_c3 (by decide : (400 : Int32).toInt = 400) (rfl : y4.toInt = _) c1
      refine lv_aload_n hx hb dX12_way_235 rfl (lv_at hl 0 rfl) ?_
      refine m_getr hx hb hts hown hW (81) 44 (111) rfl rfl cw_12 rfl (by decide) k_X12_110 dX12_way_236 ?_
      refine lv_iload_n hx hb dX12_way_239 rfl (lv_at hl 1 rfl) ?_
      refine lv_aload_n hx hb dX12_way_240 rfl (lv_at hl 0 rfl) ?_
      refine m_getr hx hb hts hown hW (81) 44 (111) rfl rfl cw_12 rfl (by decide) k_X12_110 dX12_way_241 ?_
      refine lv_bipush (v := 8) hx hb dX12_way_244 (by decide) ?_
      refine m_iald hx hb hW (111) rfl (vp_in_iff.mpr ⟨by decide, by decide⟩) dX12_way_246 ?_
      refine lv_topi (fun x2 ex2 => ?_)
      have bx2 : 0 ≤ x2.toInt ∧ x2.toInt ≤ 400 := by rw [ex2]; exact hI.1 _ _ _ _ rfl
      refine m_iast hx hb hW (111) rfl (m_ixI (rfl : k.toInt = _) (by omega) (by omega)) dX12_way_247 (fun H locs hW _ => ?_)
      generalize hμ3 : m_si μ (111) (k : Int32).toNatClampNeg x2 = μ3 at hW
      have hI := hI.si1 hμ3 rfl (by omega) hS33
      have hgp : m_GP μ3 := m_CY.done (k := k.toNatClampNeg) (v := x2) (by have ck_y := m_ckI (x := y4) (by omega); rw [show y4.toNatClampNeg = 400 from by omega] at hcy; exact hcy) (m_ck (by omega)) ex2.symm (m_c400 (by omega)) hμ3
      refine lv_iconst (v := 1) hx hb dX12_way_248 (by decide) ?_
      exact m_iret hx hb hr hlocks hW (by decide) (⟨hI, ⟨Or.inl rfl, hgp⟩⟩) dX12_way_249
    · have i1 := m_c4 (by decide : (400 : Int32).toInt = 400) (rfl : y4.toInt = _) c1
      refine lv_sipush (v := 400) hx hb dX12_way_85 (by decide) ?_
      refine lv_iload_n hx hb dX12_way_88 rfl (lv_at hl 1 rfl) ?_
      refine lv_imul hx hb dX12_way_89 ?_
      refine lv_topi (fun x4 ex4 => ?_)
      have tx4 : x4.toInt = 400 * k.toInt := m_mulI ex4 (by decide : (400 : Int32).toInt = 400) (rfl : k.toInt = _) (by omega) (by omega)
      refine lv_iload hx hb dX12_way_90 (lv_at hl 2 rfl) ?_
      refine lv_iadd hx hb dX12_way_92 ?_
      refine lv_topi (fun x5 ex5 => ?_)
      have tx5 : x5.toInt = x4.toInt + y4.toInt := m_addI ex5 (rfl : x4.toInt = _) (rfl : y4.toInt = _) (by omega) (by omega)
      refine lv_istore (lv' := [(5, .int x5), (0, .ref (b + 81)), (1, .int k), (4, .int y4)]) hx hb dX12_way_93 hl (by decide) rfl (fun ls hl => ?_)
      refine lv_sipush (v := 3200) hx hb dX12_way_95 (by decide) ?_
      refine lv_iload hx hb dX12_way_98 (lv_at hl 3 rfl) ?_
      refine lv_iadd hx hb dX12_way_100 ?_
      refine lv_topi (fun x6 ex6 => ?_)
      have tx6 : x6.toInt = 3200 + y4.toInt := m_addI ex6 (by decide : (3200 : Int32).toInt = 3200) (rfl : y4.toInt = _) (by omega) (by omega)
      refine lv_istore (lv' := [(6, .int x6), (5, .int x5), (0, .ref (b + 81)), (1, .int k), (4, .int y4)]) hx hb dX12_way_101 hl (by decide) rfl (fun ls hl => ?_)
      refine lv_aload_n hx hb dX12_way_103 rfl (lv_at hl 2 rfl) ?_
      refine m_getr hx hb hts hown hW (81) 41 (108) rfl rfl cw_12 rfl (by decide) k_X12_101 dX12_way_104 ?_
      refine lv_iload hx hb dX12_way_107 (lv_at hl 1 rfl) ?_
      refine lv_aload_n hx hb dX12_way_109 rfl (lv_at hl 2 rfl) ?_
      refine m_getr hx hb hts hown hW (81) 41 (108) rfl rfl cw_12 rfl (by decide) k_X12_101 dX12_way_110 ?_
      refine lv_iload hx hb dX12_way_113 (lv_at hl 0 rfl) ?_
      refine m_iald hx hb hW (108) rfl (m_ixI (rfl : x6.toInt = _) (by omega) (by omega)) dX12_way_115 ?_
      refine lv_topi (fun x7 ex7 => ?_)
      refine m_iast hx hb hW (108) rfl (m_ixI (rfl : x5.toInt = _) (by omega) (by omega)) dX12_way_116 (fun H locs hW _ => ?_)
      generalize hμ8 : m_si μ (108) (x5 : Int32).toNatClampNeg x7 = μ8 at hW
      have hI := hI.si0 hμ8 rfl hS41
      refine lv_aload_n hx hb dX12_way_117 rfl (lv_at hl 2 rfl) ?_
      refine m_getr hx hb hts hown hW (81) 42 (109) rfl rfl cw_12 rfl (by decide) k_X12_104 dX12_way_118 ?_
      refine lv_iload hx hb dX12_way_121 (lv_at hl 1 rfl) ?_
      refine lv_aload_n hx hb dX12_way_123 rfl (lv_at hl 2 rfl) ?_
      refine m_getr hx hb hts hown hW (81) 42 (109) rfl rfl cw_12 rfl (by decide) k_X12_104 dX12_way_124 ?_
      refine lv_iload hx hb dX12_way_127 (lv_at hl 0 rfl) ?_
      refine m_iald hx hb hW (109) rfl (m_ixI (rfl : x6.toInt = _) (by omega) (by omega)) dX12_way_129 ?_
      refine lv_topi (fun x9 ex9 => ?_)
      have bx9 : 0 ≤ x9.toInt ∧ x9.toInt ≤ 99999 := by rw [ex9]; exact hI.1 _ _ _ _ rfl
      refine m_iast hx hb hW (109) rfl (m_ixI (rfl : x5.toInt = _) (by omega) (by omega)) dX12_way_130 (fun H locs hW _ => ?_)
      generalize hμ10 : m_si μ8 (109) (x5 : Int32).toNatClampNeg x9 = μ10 at hW
      have hI := hI.si1 hμ10 rfl (by omega) hS41
      refine lv_aload_n hx hb dX12_way_131 rfl (lv_at hl 2 rfl) ?_
      refine m_getr hx hb hts hown hW (81) 43 (110) rfl rfl cw_12 rfl (by decide) k_X12_107 dX12_way_132 ?_
      refine lv_iload hx hb dX12_way_135 (lv_at hl 1 rfl) ?_
      refine lv_aload_n hx hb dX12_way_137 rfl (lv_at hl 2 rfl) ?_
      refine m_getr hx hb hts hown hW (81) 43 (110) rfl rfl cw_12 rfl (by decide) k_X12_107 dX12_way_138 ?_
      refine lv_iload hx hb dX12_way_141 (lv_at hl 0 rfl) ?_
      refine m_iald hx hb hW (110) rfl (m_ixI (rfl : x6.toInt = _) (by omega) (by omega)) dX12_way_143 ?_
      refine lv_topi (fun x11 ex11 => ?_)
      refine m_iast hx hb hW (110) rfl (m_ixI (rfl : x5.toInt = _) (by omega) (by omega)) dX12_way_144 (fun H locs hW _ => ?_)
      generalize hμ12 : m_si μ10 (110) (x5 : Int32).toNatClampNeg x11 = μ12 at hW
      have hI := hI.si0 hμ12 rfl hS25
      refine lv_aload_n hx hb dX12_way_145 rfl (lv_at hl 2 rfl) ?_
      refine m_getr hx hb hts hown hW (81) 45 (112) rfl rfl cw_12 rfl (by decide) k_X12_113 dX12_way_146 ?_
      refine lv_iload hx hb dX12_way_149 (lv_at hl 1 rfl) ?_
      refine lv_aload_n hx hb dX12_way_151 rfl (lv_at hl 2 rfl) ?_
      refine m_getr hx hb hts hown hW (81) 45 (112) rfl rfl cw_12 rfl (by decide) k_X12_113 dX12_way_152 ?_
      refine lv_iload hx hb dX12_way_155 (lv_at hl 0 rfl) ?_
      refine m_iald hx hb hW (112) rfl (m_ixI (rfl : x6.toInt = _) (by omega) (by omega)) dX12_way_157 ?_
      refine lv_topi (fun x13 ex13 => ?_)
      have bx13 : 0 ≤ x13.toInt ∧ x13.toInt ≤ 400 := by rw [ex13]; exact hI.1 _ _ _ _ rfl
      refine m_iast hx hb hW (112) rfl (m_ixI (rfl : x5.toInt = _) (by omega) (by omega)) dX12_way_158 (fun H locs hW _ => ?_)
      generalize hμ14 : m_si μ12 (112) (x5 : Int32).toNatClampNeg x13 = μ14 at hW
      have hI := hI.si1 hμ14 rfl (by omega) hS25
      refine lv_aload_n hx hb dX12_way_159 rfl (lv_at hl 2 rfl) ?_
      refine m_getr hx hb hts hown hW (81) 46 (113) rfl rfl cw_12 rfl (by decide) k_X12_116 dX12_way_160 ?_
      refine lv_iload hx hb dX12_way_163 (lv_at hl 1 rfl) ?_
      refine lv_aload_n hx hb dX12_way_165 rfl (lv_at hl 2 rfl) ?_
      refine m_getr hx hb hts hown hW (81) 46 (113) rfl rfl cw_12 rfl (by decide) k_X12_116 dX12_way_166 ?_
      refine lv_iload hx hb dX12_way_169 (lv_at hl 0 rfl) ?_
      refine m_iald hx hb hW (113) rfl (m_ixI (rfl : x6.toInt = _) (by omega) (by omega)) dX12_way_171 ?_
      refine lv_topi (fun x15 ex15 => ?_)
      have bx15 : 0 ≤ x15.toInt ∧ x15.toInt ≤ 400 := by rw [ex15]; exact hI.1 _ _ _ _ rfl
      refine m_iast hx hb hW (113) rfl (m_ixI (rfl : x5.toInt = _) (by omega) (by omega)) dX12_way_172 (fun H locs hW _ => ?_)
      generalize hμ16 : m_si μ14 (113) (x5 : Int32).toNatClampNeg x15 = μ16 at hW
      have hI := hI.si1 hμ16 rfl (by omega) hS25
      refine lv_aload_n hx hb dX12_way_173 rfl (lv_at hl 2 rfl) ?_
      refine m_getr hx hb hts hown hW (81) 47 (114) rfl rfl cw_12 rfl (by decide) k_X12_119 dX12_way_174 ?_
      refine lv_iload hx hb dX12_way_177 (lv_at hl 1 rfl) ?_
      refine lv_aload_n hx hb dX12_way_179 rfl (lv_at hl 2 rfl) ?_
      refine m_getr hx hb hts hown hW (81) 47 (114) rfl rfl cw_12 rfl (by decide) k_X12_119 dX12_way_180 ?_
      refine lv_iload hx hb dX12_way_183 (lv_at hl 0 rfl) ?_
      refine m_iald hx hb hW (114) rfl (m_ixI (rfl : x6.toInt = _) (by omega) (by omega)) dX12_way_185 ?_
      refine lv_topi (fun x17 ex17 => ?_)
      have bx17 : 0 ≤ x17.toInt ∧ x17.toInt ≤ 400 := by rw [ex17]; exact hI.1 _ _ _ _ rfl
      refine m_iast hx hb hW (114) rfl (m_ixI (rfl : x5.toInt = _) (by omega) (by omega)) dX12_way_186 (fun H locs hW _ => ?_)
      generalize hμ18 : m_si μ16 (114) (x5 : Int32).toNatClampNeg x17 = μ18 at hW
      have hI := hI.si1 hμ18 rfl (by omega) hS25
      refine lv_aload_n hx hb dX12_way_187 rfl (lv_at hl 2 rfl) ?_
      refine m_getr hx hb hts hown hW (81) 48 (115) rfl rfl cw_12 rfl (by decide) k_X12_122 dX12_way_188 ?_
      refine lv_iload hx hb dX12_way_191 (lv_at hl 1 rfl) ?_
      refine lv_aload_n hx hb dX12_way_193 rfl (lv_at hl 2 rfl) ?_
      refine m_getr hx hb hts hown hW (81) 48 (115) rfl rfl cw_12 rfl (by decide) k_X12_122 dX12_way_194 ?_
      refine lv_iload hx hb dX12_way_197 (lv_at hl 0 rfl) ?_
      refine m_iald hx hb hW (115) rfl (m_ixI (rfl : x6.toInt = _) (by omega) (by omega)) dX12_way_199 ?_
      refine lv_topi (fun x19 ex19 => ?_)
      refine m_iast hx hb hW (115) rfl (m_ixI (rfl : x5.toInt = _) (by omega) (by omega)) dX12_way_200 (fun H locs hW _ => ?_)
      generalize hμ20 : m_si μ18 (115) (x5 : Int32).toNatClampNeg x19 = μ20 at hW
      have hI := hI.si0 hμ20 rfl hS25
      refine lv_aload_n hx hb dX12_way_201 rfl (lv_at hl 2 rfl) ?_
      refine m_getr hx hb hts hown hW (81) 49 (116) rfl rfl cw_12 rfl (by decide) k_X12_125 dX12_way_202 ?_
      refine lv_iload hx hb dX12_way_205 (lv_at hl 1 rfl) ?_
      refine lv_aload_n hx hb dX12_way_207 rfl (lv_at hl 2 rfl) ?_
      refine m_getr hx hb hts hown hW (81) 49 (116) rfl rfl cw_12 rfl (by decide) k_X12_125 dX12_way_208 ?_
      refine lv_iload hx hb dX12_way_211 (lv_at hl 0 rfl) ?_
      refine m_iald hx hb hW (116) rfl (m_ixI (rfl : x6.toInt = _) (by omega) (by omega)) dX12_way_213 ?_
      refine lv_topi (fun x21 ex21 => ?_)
      refine m_iast hx hb hW (116) rfl (m_ixI (rfl : x5.toInt = _) (by omega) (by omega)) dX12_way_214 (fun H locs hW _ => ?_)
      generalize hμ22 : m_si μ20 (116) (x5 : Int32).toNatClampNeg x21 = μ22 at hW
      have hI := hI.si0 hμ22 rfl hS25
      refine lv_aload_n hx hb dX12_way_215 rfl (lv_at hl 2 rfl) ?_
      refine m_getr hx hb hts hown hW (81) 50 (117) rfl rfl cw_12 rfl (by decide) k_X12_128 dX12_way_216 ?_
      refine lv_iload hx hb dX12_way_219 (lv_at hl 1 rfl) ?_
      refine lv_aload_n hx hb dX12_way_221 rfl (lv_at hl 2 rfl) ?_
      refine m_getr hx hb hts hown hW (81) 50 (117) rfl rfl cw_12 rfl (by decide) k_X12_128 dX12_way_222 ?_
      refine lv_iload hx hb dX12_way_225 (lv_at hl 0 rfl) ?_
      refine m_iald hx hb hW (117) rfl (m_ixI (rfl : x6.toInt = _) (by omega) (by omega)) dX12_way_227 ?_
      refine lv_topi (fun x23 ex23 => ?_)
      refine m_iast hx hb hW (117) rfl (m_ixI (rfl : x5.toInt = _) (by omega) (by omega)) dX12_way_228 (fun H locs hW _ => ?_)
      generalize hμ24 : m_si μ22 (117) (x5 : Int32).toNatClampNeg x23 = μ24 at hW
      have hI := hI.si0 hμ24 rfl hS25
      obtain ⟨x25, ex25⟩ : ∃ z : Int32, z = y4 + 1 := ⟨_, rfl⟩
      refine lv_iinc (v := x25) (lv' := [(4, .int x25), (6, .int x6), (5, .int x5), (0, .ref (b + 81)), (1, .int k)]) hx hb dX12_way_229 hl (k := 4) rfl (by rw [ex25]; rfl) (by decide) rfl (fun ls hl => ?_)
      have tx25 : x25.toInt = y4.toInt + 1 := m_addI ex25 (rfl : y4.toInt = _) (by decide : (1 : Int32).toInt = 1) (by omega) (by omega)
      refine lv_goto (tgt := 77) hx hb dX12_way_232 (by decide) ?_
      have ck_k := m_ckI (x := k) (by omega)
      have ck_y := m_ckI (x := y4) (by omega)
      have ck_t := m_ckI (x := x5) (by omega)
      have ck_o := m_ckI (x := x6) (by omega)
      have ck_n := m_ckI (x := x25) (by omega)
      have hto : x5.toNatClampNeg = 400 * k.toNatClampNeg + y4.toNatClampNeg := by omega
      have hof : x6.toNatClampNeg = 3200 + y4.toNatClampNeg := by omega
      have hr1 : μ24.1 108 = (m_si μ 108 (400 * k.toNatClampNeg + y4.toNatClampNeg) (μ.1 108 (3200 + y4.toNatClampNeg))).1 108 := (show μ24.1 108 = μ22.1 108 from by rw [← hμ24]; exact m_si_row (by decide)).trans ((show μ22.1 108 = μ20.1 108 from by rw [← hμ22]; exact m_si_row (by decide)).trans ((show μ20.1 108 = μ18.1 108 from by rw [← hμ20]; exact m_si_row (by decide)).trans ((show μ18.1 108 = μ16.1 108 from by rw [← hμ18]; exact m_si_row (by decide)).trans ((show μ16.1 108 = μ14.1 108 from by rw [← hμ16]; exact m_si_row (by decide)).trans ((show μ14.1 108 = μ12.1 108 from by rw [← hμ14]; exact m_si_row (by decide)).trans ((show μ12.1 108 = μ10.1 108 from by rw [← hμ12]; exact m_si_row (by decide)).trans ((show μ10.1 108 = μ8.1 108 from by rw [← hμ10]; exact m_si_row (by decide)).trans (by rw [← hμ8, hto, ex7, hof]))))))))
      have hr2 : μ24.1 109 = (m_si μ 109 (400 * k.toNatClampNeg + y4.toNatClampNeg) (μ.1 109 (3200 + y4.toNatClampNeg))).1 109 := (show μ24.1 109 = μ22.1 109 from by rw [← hμ24]; exact m_si_row (by decide)).trans ((show μ22.1 109 = μ20.1 109 from by rw [← hμ22]; exact m_si_row (by decide)).trans ((show μ20.1 109 = μ18.1 109 from by rw [← hμ20]; exact m_si_row (by decide)).trans ((show μ18.1 109 = μ16.1 109 from by rw [← hμ18]; exact m_si_row (by decide)).trans ((show μ16.1 109 = μ14.1 109 from by rw [← hμ16]; exact m_si_row (by decide)).trans ((show μ14.1 109 = μ12.1 109 from by rw [← hμ14]; exact m_si_row (by decide)).trans ((show μ12.1 109 = μ10.1 109 from by rw [← hμ12]; exact m_si_row (by decide)).trans (by rw [← hμ10, hto, ex9, hof, ← hμ8]; rfl)))))))
      have hr3 : μ24.1 111 = μ.1 111 := (show μ24.1 111 = μ22.1 111 from by rw [← hμ24]; exact m_si_row (by decide)).trans ((show μ22.1 111 = μ20.1 111 from by rw [← hμ22]; exact m_si_row (by decide)).trans ((show μ20.1 111 = μ18.1 111 from by rw [← hμ20]; exact m_si_row (by decide)).trans ((show μ18.1 111 = μ16.1 111 from by rw [← hμ18]; exact m_si_row (by decide)).trans ((show μ16.1 111 = μ14.1 111 from by rw [← hμ16]; exact m_si_row (by decide)).trans ((show μ14.1 111 = μ12.1 111 from by rw [← hμ14]; exact m_si_row (by decide)).trans ((show μ12.1 111 = μ10.1 111 from by rw [← hμ12]; exact m_si_row (by decide)).trans ((show μ10.1 111 = μ8.1 111 from by rw [← hμ10]; exact m_si_row (by decide)).trans ((show μ8.1 111 = μ.1 111 from by rw [← hμ8]; exact m_si_row (by decide)).trans (rfl)))))))))
      have h8_ : (μ.1 111 8).toNatClampNeg ≤ 400 := m_c400 (hI0_.1 111 8 0 400 rfl).2
      exact ih x25 (by omega) (by omega) μ24 hI ((by rw [show x25.toNatClampNeg = y4.toNatClampNeg + 1 from by omega]; exact hcy.step (m_ck (by omega)) (by omega) h8_ hr1 hr2 hr3)) _ _ hW ls (lv_sub hl [3, 4, 0] rfl)
set_option maxHeartbeats 4000000 in
set_option maxRecDepth 100000 in
theorem g_X12_way (l : Launch) (D : va_G) (cy : Nat → ClassId) (b : Nat) (S : Nat → Bool) (μ0 : mM) (hS20 : S 20 = true) (hS23 : S 23 = true) (hS26 : S 26 = true) (hS24 : S 24 = true) (hS25 : S 25 = true) (hS33 : S 33 = true) (hS34 : S 34 = true) (hS35 : S 35 = true) (hS36 : S 36 = true) (hS41 : S 41 = true) (k : Int32) (μ : mM) (hI : IY S μ0 μ) (hgp : m_GP μ) : m_Ci l yX12_way cX12_way 7 ((some .boolean)) 7 D cy b LAY μ [.ref (b + 81), .int k] (fun r ν => IY S μ0 ν ∧ ((r = 1 ∨ r = 0) ∧ m_GP ν)) := by
  unfold m_Ci
  refine m_of (by decide) (Nat.le_of_ble_eq_true rfl) ?_
  intro p e s m below meth c hx hb hr hml hown hts hlocks _ hW ls hl
  have hown : s.vm.findClass RX12 = some m.cls := hown
  have hl : lv_has ls 7 [(0, .ref (b + 81)), (1, .int k)] := hl
  refine lv_aload_n hx hb dX12_way_0 rfl (lv_at hl 0 rfl) ?_
  refine lv_iconst (v := 0) hx hb dX12_way_1 (by decide) ?_
  refine m_puti hx hb hts hown hW (81) 0 rfl rfl cw_12 tyX12_ok nmX12 rfl (by decide) k_X12_167 rfl rfl rfl dX12_way_2 (fun H locs hW _ => ?_)
  generalize hμ1 : m_si μ (81) 0 0 = μ1 at hW
  have hgp : m_GP μ1 := hgp.si hμ1 (by decide) (by decide) (by decide)
  have hI := hI.si0 hμ1 rfl hS20
  refine lv_aload_n hx hb dX12_way_5 rfl (lv_at hl 0 rfl) ?_
  refine lv_iconst (v := 0) hx hb dX12_way_6 (by decide) ?_
  refine m_puti hx hb hts hown hW (81) 56 rfl rfl cw_12 tyX12_ok nmX12 rfl (by decide) k_X12_329 rfl rfl rfl dX12_way_7 (fun H locs hW _ => ?_)
  generalize hμ2 : m_si μ1 (81) 56 0 = μ2 at hW
  have hgp : m_GP μ2 := hgp.si hμ2 (by decide) (by decide) (by decide)
  have hI := hI.si0 hμ2 rfl hS26
  refine lv_aload_n hx hb dX12_way_10 rfl (lv_at hl 0 rfl) ?_
  refine lv_iconst (v := (-1)) hx hb dX12_way_11 (by decide) ?_
  refine m_puti hx hb hts hown hW (81) 57 rfl rfl cw_12 tyX12_ok nmX12 rfl (by decide) k_X12_134 rfl rfl rfl dX12_way_12 (fun H locs hW _ => ?_)
  generalize hμ3 : m_si μ2 (81) 57 (-1) = μ3 at hW
  have hgp : m_GP μ3 := hgp.si hμ3 (by decide) (by decide) (by decide)
  have hI := hI.si0 hμ3 rfl hS26
  refine lv_aload_n hx hb dX12_way_15 rfl (lv_at hl 0 rfl) ?_
  refine lv_iload_n hx hb dX12_way_16 rfl (lv_at hl 1 rfl) ?_
  refine lv_iconst (v := 0) hx hb dX12_way_17 (by decide) ?_
  refine lv_bipush (v := 7) hx hb dX12_way_18 (by decide) ?_
  have l_0 : (0 : Int32).toInt = 0 := by decide
  have l_7 : (7 : Int32).toInt = 7 := by decide
  refine m_aI hW (m_runV (As := [.int k, .int 0, .int 7]) (rest := []) hx hb hml hown hts hW (81) (g_X12_isIn l D cy b k 0 7 μ3 hI.1) mi_X12_isIn k_X12_170 rfl rfl rfl hl.1 rfl (Nat.le_of_ble_eq_true rfl) dX12_way_20 ⟨Nat.le_of_ble_eq_true rfl, Nat.le_of_ble_eq_true rfl⟩ ⟨Nat.le_of_ble_eq_true rfl, Nat.le_of_ble_eq_true rfl⟩) (fun x4 μ4 H locs q4 hW => ?_)
  obtain ⟨q4_m, q4⟩ := q4
  subst q4_m
  rcases q4 with ⟨rfl, q4⟩ | ⟨rfl, q4⟩
  · refine lv_istore_n (lv' := [(2, .int 1), (0, .ref (b + 81)), (1, .int k)]) hx hb dX12_way_23 rfl hl (by decide) rfl (fun ls hl => ?_)
    refine lv_iload_n hx hb dX12_way_24 rfl (lv_at hl 0 rfl) ?_
    refine lv_if_eq (tgt := 39) hx hb dX12_way_25 (by decide) (fun c => False.elim (by revert c; decide)) (fun _ => ?_)
    refine lv_aload_n hx hb dX12_way_28 rfl (lv_at hl 1 rfl) ?_
    refine m_aI hW (m_runV (As := []) (rest := []) hx hb hml hown hts hW (81) (g_X12_readAll l D cy b S μ0 hS24 hS25 hS33 hS34 hS35 hS36 hS41 μ3 hI hgp) mi_X12_readAll k_X12_332 rfl rfl rfl hl.1 rfl (Nat.le_of_ble_eq_true rfl) dX12_way_29 ⟨Nat.le_of_ble_eq_true rfl, Nat.le_of_ble_eq_true rfl⟩ ⟨Nat.le_of_ble_eq_true rfl, Nat.le_of_ble_eq_true rfl⟩) (fun x5 μ5 H locs q5 hW => ?_)
    obtain ⟨hI, q5⟩ := q5
    obtain ⟨hgp, q5⟩ := q5
    rcases q5 with rfl | ⟨rfl, hwd⟩
    · refine lv_if_ne (tgt := 39) hx hb dX12_way_32 (by decide) (fun _ => ?_) (fun c => False.elim (by revert c; decide))
      refine lv_iconst (v := 0) hx hb dX12_way_39 (by decide) ?_
      refine lv_istore_n (lv' := [(3, .int 0), (2, .int 1), (0, .ref (b + 81)), (1, .int k)]) hx hb dX12_way_40 rfl hl (by decide) rfl (fun ls hl => ?_)
      refine lv_aload_n hx hb dX12_way_41 rfl (lv_at hl 2 rfl) ?_
      refine lv_iconst (v := 0) hx hb dX12_way_42 (by decide) ?_
      refine m_puti hx hb hts hown hW (81) 35 rfl rfl cw_12 tyX12_ok nmX12 rfl (by decide) k_X12_239 rfl rfl rfl dX12_way_43 (fun H locs hW _ => ?_)
      generalize hμ6 : m_si μ5 (81) 35 0 = μ6 at hW
      have hgp : m_GP μ6 := hgp.si hμ6 (by decide) (by decide) (by decide)
      have hI := hI.si1 hμ6 rfl (by decide) hS23
      refine lv_iload_n hx hb dX12_way_46 rfl (lv_at hl 1 rfl) ?_
      refine lv_if_ne (tgt := 52) hx hb dX12_way_47 (by decide) (fun _ => ?_) (fun c => False.elim (by revert c; decide))
      refine lv_iload_n hx hb dX12_way_52 rfl (lv_at hl 0 rfl) ?_
      refine lv_if_ne (tgt := 74) hx hb dX12_way_53 (by decide) (fun c => False.elim (by revert c; decide)) (fun _ => ?_)
      refine lv_aload_n hx hb dX12_way_56 rfl (lv_at hl 2 rfl) ?_
      refine lv_aload_n hx hb dX12_way_57 rfl (lv_at hl 2 rfl) ?_
      refine m_geti hx hb hts hown hW (81) 54 rfl rfl cw_12 rfl (by decide) k_X12_273 dX12_way_58 ?_
      refine lv_topi (fun x7 ex7 => ?_)
      refine m_puti hx hb hts hown hW (81) 56 rfl rfl cw_12 tyX12_ok nmX12 rfl (by decide) k_X12_329 rfl rfl rfl dX12_way_61 (fun H locs hW _ => ?_)
      generalize hμ8 : m_si μ6 (81) 56 x7 = μ8 at hW
      have hgp : m_GP μ8 := hgp.si hμ8 (by decide) (by decide) (by decide)
      have hI := hI.si0 hμ8 rfl hS26
      refine lv_aload_n hx hb dX12_way_64 rfl (lv_at hl 2 rfl) ?_
      refine lv_aload_n hx hb dX12_way_65 rfl (lv_at hl 2 rfl) ?_
      refine m_geti hx hb hts hown hW (81) 55 rfl rfl cw_12 rfl (by decide) k_X12_276 dX12_way_66 ?_
      refine lv_topi (fun x9 ex9 => ?_)
      refine m_puti hx hb hts hown hW (81) 57 rfl rfl cw_12 tyX12_ok nmX12 rfl (by decide) k_X12_134 rfl rfl rfl dX12_way_69 (fun H locs hW _ => ?_)
      generalize hμ10 : m_si μ8 (81) 57 x9 = μ10 at hW
      have hgp : m_GP μ10 := hgp.si hμ10 (by decide) (by decide) (by decide)
      have hI := hI.si0 hμ10 rfl hS26
      refine lv_iconst (v := 0) hx hb dX12_way_72 (by decide) ?_
      exact m_iret hx hb hr hlocks hW (by decide) (⟨hI, ⟨Or.inr rfl, hgp⟩⟩) dX12_way_73
    · refine lv_if_ne (tgt := 39) hx hb dX12_way_32 (by decide) (fun c => False.elim (by revert c; decide)) (fun _ => ?_)
      refine lv_iconst (v := 1) hx hb dX12_way_35 (by decide) ?_
      refine lv_goto (tgt := 40) hx hb dX12_way_36 (by decide) ?_
      refine lv_istore_n (lv' := [(3, .int 1), (2, .int 1), (0, .ref (b + 81)), (1, .int k)]) hx hb dX12_way_40 rfl hl (by decide) rfl (fun ls hl => ?_)
      refine lv_aload_n hx hb dX12_way_41 rfl (lv_at hl 2 rfl) ?_
      refine lv_iconst (v := 0) hx hb dX12_way_42 (by decide) ?_
      refine m_puti hx hb hts hown hW (81) 35 rfl rfl cw_12 tyX12_ok nmX12 rfl (by decide) k_X12_239 rfl rfl rfl dX12_way_43 (fun H locs hW _ => ?_)
      generalize hμ11 : m_si μ5 (81) 35 0 = μ11 at hW
      have hgp : m_GP μ11 := hgp.si hμ11 (by decide) (by decide) (by decide)
      have hwd : m_WD μ11 := hwd.si hμ11 (by decide) (by decide) (by decide)
      have hI := hI.si1 hμ11 rfl (by decide) hS23
      refine lv_iload_n hx hb dX12_way_46 rfl (lv_at hl 1 rfl) ?_
      refine lv_if_ne (tgt := 52) hx hb dX12_way_47 (by decide) (fun _ => ?_) (fun c => False.elim (by revert c; decide))
      refine lv_iload_n hx hb dX12_way_52 rfl (lv_at hl 0 rfl) ?_
      refine lv_if_ne (tgt := 74) hx hb dX12_way_53 (by decide) (fun _ => ?_) (fun c => False.elim (by revert c; decide))
      refine lv_iconst (v := 0) hx hb dX12_way_74 (by decide) ?_
      refine lv_istore (lv' := [(4, .int 0), (3, .int 1), (2, .int 1), (0, .ref (b + 81)), (1, .int k)]) hx hb dX12_way_75 hl (by decide) rfl (fun ls hl => ?_)
      exact L_X12_way_77 hx hb hr hml hown hts hlocks S μ0 hS20 hS23 hS26 hS24 hS25 hS33 hS34 hS35 hS36 hS41 k  401 0 (by omega) (by omega) μ11 hI (m_CY.start k.toNatClampNeg hgp hwd) _ _ hW ls (lv_sub hl [3, 4, 0] rfl)
  · refine lv_istore_n (lv' := [(2, .int 0), (0, .ref (b + 81)), (1, .int k)]) hx hb dX12_way_23 rfl hl (by decide) rfl (fun ls hl => ?_)
    refine lv_iload_n hx hb dX12_way_24 rfl (lv_at hl 0 rfl) ?_
    refine lv_if_eq (tgt := 39) hx hb dX12_way_25 (by decide) (fun _ => ?_) (fun c => False.elim (by revert c; decide))
    refine lv_iconst (v := 0) hx hb dX12_way_39 (by decide) ?_
    refine lv_istore_n (lv' := [(3, .int 0), (2, .int 0), (0, .ref (b + 81)), (1, .int k)]) hx hb dX12_way_40 rfl hl (by decide) rfl (fun ls hl => ?_)
    refine lv_aload_n hx hb dX12_way_41 rfl (lv_at hl 2 rfl) ?_
    refine lv_iconst (v := 0) hx hb dX12_way_42 (by decide) ?_
    refine m_puti hx hb hts hown hW (81) 35 rfl rfl cw_12 tyX12_ok nmX12 rfl (by decide) k_X12_239 rfl rfl rfl dX12_way_43 (fun H locs hW _ => ?_)
    generalize hμ12 : m_si μ3 (81) 35 0 = μ12 at hW
    have hgp : m_GP μ12 := hgp.si hμ12 (by decide) (by decide) (by decide)
    have hI := hI.si1 hμ12 rfl (by decide) hS23
    refine lv_iload_n hx hb dX12_way_46 rfl (lv_at hl 1 rfl) ?_
    refine lv_if_ne (tgt := 52) hx hb dX12_way_47 (by decide) (fun c => False.elim (by revert c; decide)) (fun _ => ?_)
    refine lv_iconst (v := 0) hx hb dX12_way_50 (by decide) ?_
    exact m_iret hx hb hr hlocks hW (by decide) (⟨hI, ⟨Or.inr rfl, hgp⟩⟩) dX12_way_51
