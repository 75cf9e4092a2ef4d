-- WORDS
def m_kwM : List (List Int) := [[111, 110], [111, 102, 102], [116, 111], [103, 111], [104, 111, 108, 100], [115, 112, 101, 101, 100], [97, 103, 97, 105, 110], [98, 101, 103, 105, 110], [101, 110, 100], [105, 102], [101, 97, 115, 116], [110, 111, 114, 116, 104], [119, 101, 115, 116], [115, 111, 117, 116, 104], [104, 111, 116], [120], [121], [116, 105, 99, 107], [99, 117, 116]]
def m_kwX : List (List Int) := [[111, 110], [111, 102, 102], [116, 111], [103, 111], [104, 111, 108, 100], [115, 112, 101, 101, 100], [97, 103, 97, 105, 110], [105, 102], [98, 101, 103, 105, 110], [101, 110, 100], [101, 97, 115, 116], [110, 111, 114, 116, 104], [119, 101, 115, 116], [115, 111, 117, 116, 104], [104, 111, 116], [120], [121], [116, 105, 99, 107], [99, 117, 116]]
def m_wlL : List Int := [32, 111, 110, 32, 111, 102, 102, 32, 116, 111, 32, 103, 111, 32, 104, 111, 108, 100, 32, 115, 112, 101, 101, 100, 32, 97, 103, 97, 105, 110, 32, 98, 101, 103, 105, 110, 32, 101, 110, 100, 32, 105, 102, 32, 101, 97, 115, 116, 32, 110, 111, 114, 116, 104, 32, 119, 101, 115, 116, 32, 115, 111, 117, 116, 104, 32, 104, 111, 116, 32, 120, 32, 121, 32, 116, 105, 99, 107, 32, 99, 117, 116, 32]
def m_wl (i : Nat) : Int := m_wlL.getD i 0
def m_pos (q : Nat) : Nat := [0, 3, 7, 10, 13, 18, 24, 30, 36, 40, 43, 48, 54, 59, 65, 69, 71, 73, 78, 82].getD q 0
def m_kw (q : Nat) : List Int := m_kwM.getD q []
def m_kx (q : Nat) : List Int := m_kwX.getD q []
def m_kl (q : Nat) : Nat := (m_kw q).length
theorem m_wl_in : ∀ q, q < 19 → ∀ i, i < m_kl q → m_wl (m_pos q + 1 + i) ≠ 32 ∧ m_wl (m_pos q + 1 + i) = (m_kw q).getD i 0 := by decide +kernel
theorem m_wl_end : ∀ q, q < 19 → m_wl (m_pos q + 1 + m_kl q) = 32 ∧ m_pos (q + 1) = m_pos q + 1 + m_kl q ∧ m_pos q < 82 ∧ m_pos (q + 1) ≤ 82 := by decide +kernel
theorem m_pos19 : m_pos 19 = 82 := rfl
theorem m_pos0 : m_pos 0 = 0 := rfl
/-- the row from a to b is the word w -/
def m_EQ (f : Nat → Int32) (a b : Nat) (w : List Int) : Prop := b = a + w.length ∧ ∀ j, j < w.length → (f (a + j)).toInt = w.getD j 0
def m_RW (μ : mM) : Prop := ∀ i, i < 83 → (μ.1 107 i).toInt = m_wl i
theorem m_RW.fr {S : Nat → Bool} {μ ν : mM} (h : m_RW μ) (hJ : IY S μ ν) (h1 : S 39 = false) : m_RW ν := fun i hi => by
  rw [hJ.2.1 107 i h1]
  exact h i hi
theorem MU0_W : m_RW MU0 := by
  have h : ∀ i, i < 83 → (MU0.1 107 i).toInt = m_wl i := by decide +kernel
  exact h
theorem m_ext {w v : List Int} (hl : w.length = v.length) (h : ∀ j, j < w.length → w.getD j 0 = v.getD j 0) : w = v := by
  refine List.ext_getElem hl (fun i h1 h2 => ?_)
  have := h i h1
  rw [List.getD_eq_getElem?_getD, List.getD_eq_getElem?_getD, List.getElem?_eq_getElem h1, List.getElem?_eq_getElem h2] at this
  exact this
theorem m_EQ.uniq {f : Nat → Int32} {a b : Nat} {w v : List Int} (h1 : m_EQ f a b w) (h2 : m_EQ f a b v) : w = v := m_ext (by have := h1.1; have := h2.1; omega) (fun j hj => by
  have := h1.2 j hj
  have := h2.2 j (by have := h1.1; have := h2.1; omega)
  omega)
theorem m_EQ.al {f g : Nat → Int32} {a b n : Nat} {w : List Int} (h : m_EQ f a b w) (hg : m_al n f g) (hb : b ≤ n) : m_EQ g a b w := ⟨h.1, fun j hj => by rw [← hg (a + j) (by have := h.1; omega)]; exact h.2 j hj⟩
set_option maxHeartbeats 4000000 in
set_option maxRecDepth 100000 in
theorem L_X12_wordAt_f_93 {p : Program} {l : Launch} {e : Env} {s : State} {m : MethodId} {args : Array Value} {below : List Frame} {meth : Method} {c : Code} {D : va_G} {cy : Nat → ClassId} {b : Nat} (hx : p.tables.exec = Jvm.exec) (hb : c.code = cX12_wordAt) (hr : meth.sig.returnType = ((some .int))) (hml : c.maxLocals = 6) (hown : s.vm.findClass RX12 = some m.cls) (hts : ∀ w ∈ TB, w.before args s = true) (hlocks : meth.locks = false) (μ1 : mM) (fT : Nat → Int32) (k u : Int32) (h_k : 0 ≤ k.toInt ∧ k.toInt ≤ 400) (h_u : 0 ≤ u.toInt ∧ u.toInt ≤ 400) (h_ku : k.toInt ≤ u.toInt) (F5 : Nat) (O5 : ∀ (y3 y4 : Int32) (gq : Nat) (hy : -1 ≤ y3.toInt ∧ y3.toInt ≤ 82 ∧ 0 ≤ y4.toInt ∧ y4.toInt ≤ 82 ∧ gq ≤ 19 ∧ y3.toInt = (gq : Int) - 1 ∧ y4.toInt = m_pos gq) (hf : 82 - y4.toInt < (F5 : Int)) (μ : mM) (hI : IX μ) (hm : μ = μ1) (hl_ : ∀ j : Nat, k.toInt ≤ j → (j : Int) < u.toInt → 65 ≤ (μ.1 106 j).toInt) (hfT : μ.1 106 = fT) (hRW : m_RW μ) (hnq : ∀ j, j < gq → ¬ m_EQ fT k.toNatClampNeg u.toNatClampNeg (m_kw j)) (H : Heap) (locs : List Loc), m_WA (m_A b LAY) D cy s b LAY μ H locs → ∀ ls : Array Slot, lv_has ls 6 [(0, .ref (b + 81)), (1, .int k), (2, .int u), (3, .int y3), (4, .int y4)] → W p l e (m_R 0 0 0) s m args below meth c H locs 0 0 (MQ below (m_Qi D cy b LAY (fun r ν => μ1 = ν ∧ ((r = -1 ∧ ∀ j, j < 19 → ¬ m_EQ fT k.toNatClampNeg u.toNatClampNeg (m_kw j)) ∨ (∃ q : Nat, q < 19 ∧ r.toInt = q ∧ m_EQ fT k.toNatClampNeg u.toNatClampNeg (m_kw q))))) args s 0 0 (m_A b LAY)) (F0 m 5 ls [])) : ∀ (f : Nat), ∀ (y3 y4 : Int32) (gq : Nat) (hy : 82 - y4.toInt < (F5 : Int) + 1 ∧ -1 ≤ y3.toInt ∧ y3.toInt ≤ 82 ∧ 0 ≤ y4.toInt ∧ y4.toInt ≤ 82 ∧ -1 ≤ y3.toInt ∧ y3.toInt ≤ 82 ∧ 0 ≤ y4.toInt ∧ y4.toInt ≤ 82 ∧ gq < 19 ∧ y3.toInt = gq ∧ m_pos gq + 1 ≤ y4.toInt ∧ y4.toInt ≤ m_pos (gq + 1) ∧ 82 - y4.toInt < F5) (hf : 82 - y4.toInt < (f : Int)) (μ : mM) (hI : IX μ) (hm : μ = μ1) (hl_ : ∀ j : Nat, k.toInt ≤ j → (j : Int) < u.toInt → 65 ≤ (μ.1 106 j).toInt) (hfT : μ.1 106 = fT) (hRW : m_RW μ) (hnq : ∀ j, j < gq + 1 → ¬ m_EQ fT k.toNatClampNeg u.toNatClampNeg (m_kw j)) (H : Heap) (locs : List Loc), m_WA (m_A b LAY) D cy s b LAY μ H locs → ∀ ls : Array Slot, lv_has ls 6 [(0, .ref (b + 81)), (1, .int k), (2, .int u), (3, .int y3), (4, .int y4)] → W p l e (m_R 0 0 0) s m args below meth c H locs 0 0 (MQ below (m_Qi D cy b LAY (fun r ν => μ1 = ν ∧ ((r = -1 ∧ ∀ j, j < 19 → ¬ m_EQ fT k.toNatClampNeg u.toNatClampNeg (m_kw j)) ∨ (∃ q : Nat, q < 19 ∧ r.toInt = q ∧ m_EQ fT k.toNatClampNeg u.toNatClampNeg (m_kw q))))) args s 0 0 (m_A b LAY)) (F0 m 93 ls []) := by
  intro f
  induction f with
  | zero => intro y3 y4 gq hy hf; exfalso; omega
  | succ f ih =>
    intro y3 y4 gq hy hf μ hI hm hl_ hfT hRW hnq H locs hW ls hl
    have p0 := m_pos0
    have F1 := m_wl_in gq
    have F2 := m_wl_end gq
    have p19 : gq = 19 → m_pos gq = 82 := fun h => by rw [h]; rfl
    refine lv_aload_n hx hb dX12_wordAt_93 rfl (lv_at hl 0 rfl) ?_
    refine m_getr hx hb hts hown hW (81) 40 (107) rfl rfl cw_12 rfl (by decide) k_X12_98 dX12_wordAt_94 ?_
    refine lv_iload hx hb dX12_wordAt_97 (lv_at hl 4 rfl) ?_
    refine m_iald hx hb hW (107) rfl (m_ixI (rfl : y4.toInt = _) (by omega) (by omega)) dX12_wordAt_99 ?_
    refine lv_topi (fun x1 ex1 => ?_)
    have wx1 : x1.toInt = m_wl y4.toNatClampNeg := by rw [ex1]; exact hRW _ (by have := m_ckI (x := y4) (by omega); omega)
    have ax1 : y4.toInt < m_pos (gq + 1) → x1.toInt ≠ 32 := fun h => by rw [wx1, show y4.toNatClampNeg = m_pos gq + 1 + (y4.toNatClampNeg - (m_pos gq + 1)) from by have := m_ckI (x := y4) (by omega); omega]; exact (F1 (by omega) _ (by have := m_ckI (x := y4) (by omega); omega)).1
    have dx1 : y4.toInt = m_pos (gq + 1) → x1.toInt = 32 := fun h => by rw [wx1, show y4.toNatClampNeg = m_pos gq + 1 + m_kl gq from by have := m_ckI (x := y4) (by omega); omega]; exact (F2 (by omega)).1
    refine lv_bipush (v := 32) hx hb dX12_wordAt_100 (by decide) ?_
    refine lv_icmp_eq (tgt := 114) hx hb dX12_wordAt_102 (by decide) (fun c2 => ?_) (fun c2 => ?_)
    · have i2 := m_c5 (rfl : x1.toInt = _) (by decide : (32 : Int32).toInt = 32) c2
      refine lv_goto (tgt := 5) hx hb dX12_wordAt_114 (by decide) ?_
      exact O5 y3 y4 (gq + 1) (by omega) (by omega) μ hI hm (hl_) (hfT) (hRW) (hnq) _ _ hW ls (lv_sub hl [0, 1, 2, 3, 4] rfl)
    · have i2 := m_c6 (rfl : x1.toInt = _) (by decide : (32 : Int32).toInt = 32) c2
      refine lv_iload hx hb dX12_wordAt_105 (lv_at hl 4 rfl) ?_
      refine lv_iconst (v := 1) hx hb dX12_wordAt_107 (by decide) ?_
      refine lv_iadd hx hb dX12_wordAt_108 ?_
      refine lv_topi (fun x3 ex3 => ?_)
      have tx3 : x3.toInt = y4.toInt + 1 := m_addI ex3 (rfl : y4.toInt = _) (by decide : (1 : Int32).toInt = 1) (by omega) (by omega)
      refine lv_istore (lv' := [(4, .int x3), (0, .ref (b + 81)), (1, .int k), (2, .int u), (3, .int y3)]) hx hb dX12_wordAt_109 hl (by decide) rfl (fun ls hl => ?_)
      refine lv_goto (tgt := 93) hx hb dX12_wordAt_111 (by decide) ?_
      exact ih y3 x3 gq (by omega) (by omega) μ hI hm (hl_) (hfT) (hRW) (hnq) _ _ hW ls (lv_sub hl [1, 2, 3, 4, 0] rfl)
set_option maxHeartbeats 4000000 in
set_option maxRecDepth 100000 in
theorem L_X12_wordAt_f_19 {p : Program} {l : Launch} {e : Env} {s : State} {m : MethodId} {args : Array Value} {below : List Frame} {meth : Method} {c : Code} {D : va_G} {cy : Nat → ClassId} {b : Nat} (hx : p.tables.exec = Jvm.exec) (hb : c.code = cX12_wordAt) (hr : meth.sig.returnType = ((some .int))) (hml : c.maxLocals = 6) (hown : s.vm.findClass RX12 = some m.cls) (hts : ∀ w ∈ TB, w.before args s = true) (hlocks : meth.locks = false) (μ1 : mM) (fT : Nat → Int32) (k u : Int32) (h_k : 0 ≤ k.toInt ∧ k.toInt ≤ 400) (h_u : 0 ≤ u.toInt ∧ u.toInt ≤ 400) (h_ku : k.toInt ≤ u.toInt) (F5 : Nat) (O5 : ∀ (y3 y4 : Int32) (gq : Nat) (hy : -1 ≤ y3.toInt ∧ y3.toInt ≤ 82 ∧ 0 ≤ y4.toInt ∧ y4.toInt ≤ 82 ∧ gq ≤ 19 ∧ y3.toInt = (gq : Int) - 1 ∧ y4.toInt = m_pos gq) (hf : 82 - y4.toInt < (F5 : Int)) (μ : mM) (hI : IX μ) (hm : μ = μ1) (hl_ : ∀ j : Nat, k.toInt ≤ j → (j : Int) < u.toInt → 65 ≤ (μ.1 106 j).toInt) (hfT : μ.1 106 = fT) (hRW : m_RW μ) (hnq : ∀ j, j < gq → ¬ m_EQ fT k.toNatClampNeg u.toNatClampNeg (m_kw j)) (H : Heap) (locs : List Loc), m_WA (m_A b LAY) D cy s b LAY μ H locs → ∀ ls : Array Slot, lv_has ls 6 [(0, .ref (b + 81)), (1, .int k), (2, .int u), (3, .int y3), (4, .int y4)] → W p l e (m_R 0 0 0) s m args below meth c H locs 0 0 (MQ below (m_Qi D cy b LAY (fun r ν => μ1 = ν ∧ ((r = -1 ∧ ∀ j, j < 19 → ¬ m_EQ fT k.toNatClampNeg u.toNatClampNeg (m_kw j)) ∨ (∃ q : Nat, q < 19 ∧ r.toInt = q ∧ m_EQ fT k.toNatClampNeg u.toNatClampNeg (m_kw q))))) args s 0 0 (m_A b LAY)) (F0 m 5 ls [])) : ∀ (f : Nat), ∀ (y3 y4 y5 : Int32) (gq : Nat) (hy : 82 - y4.toInt < (F5 : Int) + 1 ∧ 0 ≤ y3.toInt ∧ y3.toInt ≤ 82 ∧ 0 ≤ y4.toInt ∧ y4.toInt ≤ 81 ∧ 0 ≤ y5.toInt ∧ y5.toInt ≤ 81 ∧ -1 ≤ y3.toInt ∧ y3.toInt ≤ 82 ∧ 0 ≤ y4.toInt ∧ y4.toInt ≤ 82 ∧ gq < 19 ∧ y3.toInt = gq ∧ y4.toInt = m_pos gq ∧ y5.toInt ≤ m_kl gq ∧ k.toInt + y5.toInt ≤ u.toInt) (hf : 82 - y5.toInt < (f : Int)) (μ : mM) (hI : IX μ) (hm : μ = μ1) (hl_ : ∀ j : Nat, k.toInt ≤ j → (j : Int) < u.toInt → 65 ≤ (μ.1 106 j).toInt) (hfT : μ.1 106 = fT) (hRW : m_RW μ) (hnq : ∀ j, j < gq → ¬ m_EQ fT k.toNatClampNeg u.toNatClampNeg (m_kw j)) (heq : ∀ j : Nat, (j : Int) < y5.toInt → (fT (k.toNatClampNeg + j)).toInt = (m_kw gq).getD j 0) (H : Heap) (locs : List Loc), m_WA (m_A b LAY) D cy s b LAY μ H locs → ∀ ls : Array Slot, lv_has ls 6 [(0, .ref (b + 81)), (1, .int k), (2, .int u), (3, .int y3), (4, .int y4), (5, .int y5)] → W p l e (m_R 0 0 0) s m args below meth c H locs 0 0 (MQ below (m_Qi D cy b LAY (fun r ν => μ1 = ν ∧ ((r = -1 ∧ ∀ j, j < 19 → ¬ m_EQ fT k.toNatClampNeg u.toNatClampNeg (m_kw j)) ∨ (∃ q : Nat, q < 19 ∧ r.toInt = q ∧ m_EQ fT k.toNatClampNeg u.toNatClampNeg (m_kw q))))) args s 0 0 (m_A b LAY)) (F0 m 19 ls []) := by
  intro f
  induction f with
  | zero => intro y3 y4 y5 gq hy hf; exfalso; omega
  | succ f ih =>
    intro y3 y4 y5 gq hy hf μ hI hm hl_ hfT hRW hnq heq H locs hW ls hl
    have p0 := m_pos0
    have F1 := m_wl_in gq
    have F2 := m_wl_end gq
    have p19 : gq = 19 → m_pos gq = 82 := fun h => by rw [h]; rfl
    refine lv_iload_n hx hb dX12_wordAt_19 rfl (lv_at hl 1 rfl) ?_
    refine lv_iload hx hb dX12_wordAt_20 (lv_at hl 5 rfl) ?_
    refine lv_iadd hx hb dX12_wordAt_22 ?_
    refine lv_topi (fun x1 ex1 => ?_)
    have tx1 : x1.toInt = k.toInt + y5.toInt := m_addI ex1 (rfl : k.toInt = _) (rfl : y5.toInt = _) (by omega) (by omega)
    refine lv_iload_n hx hb dX12_wordAt_23 rfl (lv_at hl 2 rfl) ?_
    refine lv_icmp_ge (tgt := 60) hx hb dX12_wordAt_24 (by decide) (fun c2 => ?_) (fun c2 => ?_)
    · have i2 := m_c3 (rfl : u.toInt = _) (rfl : x1.toInt = _) c2
      refine lv_iload_n hx hb dX12_wordAt_60 rfl (lv_at hl 1 rfl) ?_
      refine lv_iload hx hb dX12_wordAt_61 (lv_at hl 5 rfl) ?_
      refine lv_iadd hx hb dX12_wordAt_63 ?_
      refine lv_topi (fun x3 ex3 => ?_)
      have ex3 : x3 = x1 := ex3.trans ex1.symm
      have ex3 := ex3.symm
      subst ex3
      refine lv_iload_n hx hb dX12_wordAt_64 rfl (lv_at hl 2 rfl) ?_
      refine lv_icmp_ne (tgt := 87) hx hb dX12_wordAt_65 (by decide) (fun c4 => ?_) (fun c4 => ?_)
      · have i4 := m_c6 (rfl : x1.toInt = _) (rfl : u.toInt = _) c4
        refine lv_iload hx hb dX12_wordAt_87 (lv_at hl 4 rfl) ?_
        refine lv_iconst (v := 1) hx hb dX12_wordAt_89 (by decide) ?_
        refine lv_iadd hx hb dX12_wordAt_90 ?_
        refine lv_topi (fun x5 ex5 => ?_)
        have tx5 : x5.toInt = y4.toInt + 1 := m_addI ex5 (rfl : y4.toInt = _) (by decide : (1 : Int32).toInt = 1) (by omega) (by omega)
        refine lv_istore (lv' := [(4, .int x5), (0, .ref (b + 81)), (1, .int k), (2, .int u), (3, .int y3), (5, .int y5)]) hx hb dX12_wordAt_91 hl (by decide) rfl (fun ls hl => ?_)
        have hne : ¬ m_EQ fT k.toNatClampNeg u.toNatClampNeg (m_kw gq) := by
          intro hE
          have hb := hE.1
          have hkl : (m_kw gq).length = m_kl gq := rfl
          have ck_k := m_ckI (x := k) (by omega)
          have ck_u := m_ckI (x := u) (by omega)
          have ck_y := m_ckI (x := y5) (by omega)
          omega
        exact L_X12_wordAt_f_93 hx hb hr hml hown hts hlocks μ1 fT k u h_k h_u h_ku F5 O5 83 y3 x5 gq (by omega) (by omega) μ hI hm (hl_) (hfT) (hRW) (fun j hj => (Classical.em (j = gq)).elim (fun q => by rw [q]; exact hne) (fun q => hnq j (by omega))) _ _ hW ls (lv_sub hl [1, 2, 3, 4, 0] rfl)
      · have i4 := m_c5 (rfl : x1.toInt = _) (rfl : u.toInt = _) c4
        refine lv_aload_n hx hb dX12_wordAt_68 rfl (lv_at hl 0 rfl) ?_
        refine m_getr hx hb hts hown hW (81) 40 (107) rfl rfl cw_12 rfl (by decide) k_X12_98 dX12_wordAt_69 ?_
        refine lv_iload hx hb dX12_wordAt_72 (lv_at hl 4 rfl) ?_
        refine lv_iconst (v := 1) hx hb dX12_wordAt_74 (by decide) ?_
        refine lv_iadd hx hb dX12_wordAt_75 ?_
        refine lv_topi (fun x6 ex6 => ?_)
        have tx6 : x6.toInt = y4.toInt + 1 := m_addI ex6 (rfl : y4.toInt = _) (by decide : (1 : Int32).toInt = 1) (by omega) (by omega)
        refine lv_iload hx hb dX12_wordAt_76 (lv_at hl 5 rfl) ?_
        refine lv_iadd hx hb dX12_wordAt_78 ?_
        refine lv_topi (fun x7 ex7 => ?_)
        have tx7 : x7.toInt = x6.toInt + y5.toInt := m_addI ex7 (rfl : x6.toInt = _) (rfl : y5.toInt = _) (by omega) (by omega)
        refine m_iald hx hb hW (107) rfl (m_ixI (rfl : x7.toInt = _) (by omega) (by omega)) dX12_wordAt_79 ?_
        refine lv_topi (fun x8 ex8 => ?_)
        have wx8 : x8.toInt = m_wl x7.toNatClampNeg := by rw [ex8]; exact hRW _ (by have := m_ckI (x := x7) (by omega); omega)
        rw [show x7.toNatClampNeg = m_pos gq + 1 + y5.toNatClampNeg from by have := m_ckI (x := x7) (by omega); have := m_ckI (x := y5) (by omega); omega] at wx8
        have ax8 : y5.toInt < m_kl gq → x8.toInt ≠ 32 ∧ x8.toInt = (m_kw gq).getD y5.toNatClampNeg 0 := fun h => by rw [wx8]; exact F1 (by omega) _ (by have := m_ckI (x := y5) (by omega); omega)
        have dx8 : y5.toInt = m_kl gq → x8.toInt = 32 := fun h => by rw [wx8, show y5.toNatClampNeg = m_kl gq from by have := m_ckI (x := y5) (by omega); omega]; exact (F2 (by omega)).1
        have ax82 : y5.toInt < m_kl gq → x8.toInt ≠ 32 := fun h => (ax8 h).1
        refine lv_bipush (v := 32) hx hb dX12_wordAt_80 (by decide) ?_
        refine lv_icmp_ne (tgt := 87) hx hb dX12_wordAt_82 (by decide) (fun c9 => ?_) (fun c9 => ?_)
        · have i9 := m_c6 (rfl : x8.toInt = _) (by decide : (32 : Int32).toInt = 32) c9
          refine lv_iload hx hb dX12_wordAt_87 (lv_at hl 4 rfl) ?_
          refine lv_iconst (v := 1) hx hb dX12_wordAt_89 (by decide) ?_
          refine lv_iadd hx hb dX12_wordAt_90 ?_
          refine lv_topi (fun x10 ex10 => ?_)
          have ex10 : x10 = x6 := ex10.trans ex6.symm
          have ex10 := ex10.symm
          subst ex10
          refine lv_istore (lv' := [(4, .int x6), (0, .ref (b + 81)), (1, .int k), (2, .int u), (3, .int y3), (5, .int y5)]) hx hb dX12_wordAt_91 hl (by decide) rfl (fun ls hl => ?_)
          have hne : ¬ m_EQ fT k.toNatClampNeg u.toNatClampNeg (m_kw gq) := by
            intro hE
            have hb := hE.1
            have hkl : (m_kw gq).length = m_kl gq := rfl
            have ck_k := m_ckI (x := k) (by omega)
            have ck_u := m_ckI (x := u) (by omega)
            have ck_y := m_ckI (x := y5) (by omega)
            omega
          exact L_X12_wordAt_f_93 hx hb hr hml hown hts hlocks μ1 fT k u h_k h_u h_ku F5 O5 83 y3 x6 gq (by omega) (by omega) μ hI hm (hl_) (hfT) (hRW) (fun j hj => (Classical.em (j = gq)).elim (fun q => by rw [q]; exact hne) (fun q => hnq j (by omega))) _ _ hW ls (lv_sub hl [1, 2, 3, 4, 0] rfl)
        · have i9 := m_c5 (rfl : x8.toInt = _) (by decide : (32 : Int32).toInt = 32) c9
          refine lv_iload_n hx hb dX12_wordAt_85 rfl (lv_at hl 3 rfl) ?_
          exact m_iret hx hb hr hlocks hW rfl (⟨hm.symm, Or.inr ⟨gq, by omega, by omega, by have hkl : (m_kw gq).length = m_kl gq := rfl; have := m_ckI (x := k) (by omega); have := m_ckI (x := u) (by omega); have := m_ckI (x := y5) (by omega); omega, fun j hj => heq j (by have hkl : (m_kw gq).length = m_kl gq := rfl; have := m_ckI (x := y5) (by omega); omega)⟩⟩) dX12_wordAt_86
    · have i2 := m_c4 (rfl : u.toInt = _) (rfl : x1.toInt = _) c2
      refine lv_aload_n hx hb dX12_wordAt_27 rfl (lv_at hl 0 rfl) ?_
      refine m_getr hx hb hts hown hW (81) 40 (107) rfl rfl cw_12 rfl (by decide) k_X12_98 dX12_wordAt_28 ?_
      refine lv_iload hx hb dX12_wordAt_31 (lv_at hl 4 rfl) ?_
      refine lv_iconst (v := 1) hx hb dX12_wordAt_33 (by decide) ?_
      refine lv_iadd hx hb dX12_wordAt_34 ?_
      refine lv_topi (fun x11 ex11 => ?_)
      have tx11 : x11.toInt = y4.toInt + 1 := m_addI ex11 (rfl : y4.toInt = _) (by decide : (1 : Int32).toInt = 1) (by omega) (by omega)
      refine lv_iload hx hb dX12_wordAt_35 (lv_at hl 5 rfl) ?_
      refine lv_iadd hx hb dX12_wordAt_37 ?_
      refine lv_topi (fun x12 ex12 => ?_)
      have tx12 : x12.toInt = x11.toInt + y5.toInt := m_addI ex12 (rfl : x11.toInt = _) (rfl : y5.toInt = _) (by omega) (by omega)
      refine m_iald hx hb hW (107) rfl (m_ixI (rfl : x12.toInt = _) (by omega) (by omega)) dX12_wordAt_38 ?_
      refine lv_topi (fun x13 ex13 => ?_)
      have wx13 : x13.toInt = m_wl x12.toNatClampNeg := by rw [ex13]; exact hRW _ (by have := m_ckI (x := x12) (by omega); omega)
      rw [show x12.toNatClampNeg = m_pos gq + 1 + y5.toNatClampNeg from by have := m_ckI (x := x12) (by omega); have := m_ckI (x := y5) (by omega); omega] at wx13
      have ax13 : y5.toInt < m_kl gq → x13.toInt ≠ 32 ∧ x13.toInt = (m_kw gq).getD y5.toNatClampNeg 0 := fun h => by rw [wx13]; exact F1 (by omega) _ (by have := m_ckI (x := y5) (by omega); omega)
      have dx13 : y5.toInt = m_kl gq → x13.toInt = 32 := fun h => by rw [wx13, show y5.toNatClampNeg = m_kl gq from by have := m_ckI (x := y5) (by omega); omega]; exact (F2 (by omega)).1
      have ax132 : y5.toInt < m_kl gq → x13.toInt ≠ 32 := fun h => (ax13 h).1
      refine lv_aload_n hx hb dX12_wordAt_39 rfl (lv_at hl 0 rfl) ?_
      refine m_getr hx hb hts hown hW (81) 34 (106) rfl rfl cw_12 rfl (by decide) k_X12_95 dX12_wordAt_40 ?_
      refine lv_iload_n hx hb dX12_wordAt_43 rfl (lv_at hl 1 rfl) ?_
      refine lv_iload hx hb dX12_wordAt_44 (lv_at hl 5 rfl) ?_
      refine lv_iadd hx hb dX12_wordAt_46 ?_
      refine lv_topi (fun x14 ex14 => ?_)
      have ex14 : x14 = x1 := ex14.trans ex1.symm
      have ex14 := ex14.symm
      subst ex14
      refine m_iald hx hb hW (106) rfl (m_ixI (rfl : x1.toInt = _) (by omega) (by omega)) dX12_wordAt_47 ?_
      refine lv_topi (fun x15 ex15 => ?_)
      have bx15 : 0 ≤ x15.toInt ∧ x15.toInt ≤ 255 := by rw [ex15]; exact hI _ _ _ _ rfl
      have lx15 : 65 ≤ x15.toInt := by rw [ex15]; exact hl_ _ (by rw [m_ckI (x := x1) (by omega)]; omega) (by rw [m_ckI (x := x1) (by omega)]; omega)
      have t_x15 : (fT (k.toNatClampNeg + y5.toNatClampNeg)).toInt = x15.toInt := by rw [ex15, hfT, show x1.toNatClampNeg = k.toNatClampNeg + y5.toNatClampNeg from by have := m_ckI (x := x1) (by omega); have := m_ckI (x := k) (by omega); have := m_ckI (x := y5) (by omega); omega]
      refine lv_icmp_ne (tgt := 60) hx hb dX12_wordAt_48 (by decide) (fun c16 => ?_) (fun c16 => ?_)
      · have i16 := m_c6 (rfl : x13.toInt = _) (rfl : x15.toInt = _) c16
        refine lv_iload_n hx hb dX12_wordAt_60 rfl (lv_at hl 1 rfl) ?_
        refine lv_iload hx hb dX12_wordAt_61 (lv_at hl 5 rfl) ?_
        refine lv_iadd hx hb dX12_wordAt_63 ?_
        refine lv_topi (fun x17 ex17 => ?_)
        have ex17 : x17 = x1 := ex17.trans ex1.symm
        have ex17 := ex17.symm
        subst ex17
        refine lv_iload_n hx hb dX12_wordAt_64 rfl (lv_at hl 2 rfl) ?_
        refine lv_icmp_ne (tgt := 87) hx hb dX12_wordAt_65 (by decide) (fun c18 => ?_) (fun c18 => ?_)
        · have i18 := m_c6 (rfl : x1.toInt = _) (rfl : u.toInt = _) c18
          refine lv_iload hx hb dX12_wordAt_87 (lv_at hl 4 rfl) ?_
          refine lv_iconst (v := 1) hx hb dX12_wordAt_89 (by decide) ?_
          refine lv_iadd hx hb dX12_wordAt_90 ?_
          refine lv_topi (fun x19 ex19 => ?_)
          have ex19 : x19 = x11 := ex19.trans ex11.symm
          have ex19 := ex19.symm
          subst ex19
          refine lv_istore (lv' := [(4, .int x11), (0, .ref (b + 81)), (1, .int k), (2, .int u), (3, .int y3), (5, .int y5)]) hx hb dX12_wordAt_91 hl (by decide) rfl (fun ls hl => ?_)
          have hne : ¬ m_EQ fT k.toNatClampNeg u.toNatClampNeg (m_kw gq) := by
            intro hE
            have hb := hE.1
            have hkl : (m_kw gq).length = m_kl gq := rfl
            have ck_k := m_ckI (x := k) (by omega)
            have ck_u := m_ckI (x := u) (by omega)
            have ck_y := m_ckI (x := y5) (by omega)
            have hq := hE.2 y5.toNatClampNeg (by omega)
            rw [t_x15] at hq
            have := ax13 (by omega)
            omega
          exact L_X12_wordAt_f_93 hx hb hr hml hown hts hlocks μ1 fT k u h_k h_u h_ku F5 O5 83 y3 x11 gq (by omega) (by omega) μ hI hm (hl_) (hfT) (hRW) (fun j hj => (Classical.em (j = gq)).elim (fun q => by rw [q]; exact hne) (fun q => hnq j (by omega))) _ _ hW ls (lv_sub hl [1, 2, 3, 4, 0] rfl)
        · have i18 := m_c5 (rfl : x1.toInt = _) (rfl : u.toInt = _) c18
          refine lv_aload_n hx hb dX12_wordAt_68 rfl (lv_at hl 0 rfl) ?_
          refine m_getr hx hb hts hown hW (81) 40 (107) rfl rfl cw_12 rfl (by decide) k_X12_98 dX12_wordAt_69 ?_
          refine lv_iload hx hb dX12_wordAt_72 (lv_at hl 4 rfl) ?_
          refine lv_iconst (v := 1) hx hb dX12_wordAt_74 (by decide) ?_
          refine lv_iadd hx hb dX12_wordAt_75 ?_
          refine lv_topi (fun x20 ex20 => ?_)
          have ex20 : x20 = x11 := ex20.trans ex11.symm
          have ex20 := ex20.symm
          subst ex20
          refine lv_iload hx hb dX12_wordAt_76 (lv_at hl 5 rfl) ?_
          refine lv_iadd hx hb dX12_wordAt_78 ?_
          refine lv_topi (fun x21 ex21 => ?_)
          have ex21 : x21 = x12 := ex21.trans ex12.symm
          have ex21 := ex21.symm
          subst ex21
          refine m_iald hx hb hW (107) rfl (m_ixI (rfl : x12.toInt = _) (by omega) (by omega)) dX12_wordAt_79 ?_
          refine lv_topi (fun x22 ex22 => ?_)
          have ex22 : x22 = x13 := by rw [ex22]; exact ex13.symm
          have ex22 := ex22.symm
          subst ex22
          refine lv_bipush (v := 32) hx hb dX12_wordAt_80 (by decide) ?_
          refine lv_icmp_ne (tgt := 87) hx hb dX12_wordAt_82 (by decide) (fun c23 => ?_) (fun c23 => ?_)
          · have i23 := m_c6 (rfl : x13.toInt = _) (by decide : (32 : Int32).toInt = 32) c23
            refine lv_iload hx hb dX12_wordAt_87 (lv_at hl 4 rfl) ?_
            refine lv_iconst (v := 1) hx hb dX12_wordAt_89 (by decide) ?_
            refine lv_iadd hx hb dX12_wordAt_90 ?_
            refine lv_topi (fun x24 ex24 => ?_)
            have ex24 : x24 = x11 := ex24.trans ex11.symm
            have ex24 := ex24.symm
            subst ex24
            refine lv_istore (lv' := [(4, .int x11), (0, .ref (b + 81)), (1, .int k), (2, .int u), (3, .int y3), (5, .int y5)]) hx hb dX12_wordAt_91 hl (by decide) rfl (fun ls hl => ?_)
            have hne : ¬ m_EQ fT k.toNatClampNeg u.toNatClampNeg (m_kw gq) := by
              intro hE
              have hb := hE.1
              have hkl : (m_kw gq).length = m_kl gq := rfl
              have ck_k := m_ckI (x := k) (by omega)
              have ck_u := m_ckI (x := u) (by omega)
              have ck_y := m_ckI (x := y5) (by omega)
              have hq := hE.2 y5.toNatClampNeg (by omega)
              rw [t_x15] at hq
              have := ax13 (by omega)
              omega
            exact L_X12_wordAt_f_93 hx hb hr hml hown hts hlocks μ1 fT k u h_k h_u h_ku F5 O5 83 y3 x11 gq (by omega) (by omega) μ hI hm (hl_) (hfT) (hRW) (fun j hj => (Classical.em (j = gq)).elim (fun q => by rw [q]; exact hne) (fun q => hnq j (by omega))) _ _ hW ls (lv_sub hl [1, 2, 3, 4, 0] rfl)
          · have i23 := m_c5 (rfl : x13.toInt = _) (by decide : (32 : Int32).toInt = 32) c23
            refine lv_iload_n hx hb dX12_wordAt_85 rfl (lv_at hl 3 rfl) ?_
            exact m_iret hx hb hr hlocks hW rfl (⟨hm.symm, Or.inr ⟨gq, by omega, by omega, by have hkl : (m_kw gq).length = m_kl gq := rfl; have := m_ckI (x := k) (by omega); have := m_ckI (x := u) (by omega); have := m_ckI (x := y5) (by omega); omega, fun j hj => heq j (by have hkl : (m_kw gq).length = m_kl gq := rfl; have := m_ckI (x := y5) (by omega); omega)⟩⟩) dX12_wordAt_86
      · have i16 := m_c5 (rfl : x13.toInt = _) (rfl : x15.toInt = _) c16
        refine lv_iload hx hb dX12_wordAt_51 (lv_at hl 5 rfl) ?_
        refine lv_iconst (v := 1) hx hb dX12_wordAt_53 (by decide) ?_
        refine lv_iadd hx hb dX12_wordAt_54 ?_
        refine lv_topi (fun x25 ex25 => ?_)
        have tx25 : x25.toInt = y5.toInt + 1 := m_addI ex25 (rfl : y5.toInt = _) (by decide : (1 : Int32).toInt = 1) (by omega) (by omega)
        refine lv_istore (lv' := [(5, .int x25), (0, .ref (b + 81)), (1, .int k), (2, .int u), (3, .int y3), (4, .int y4)]) hx hb dX12_wordAt_55 hl (by decide) rfl (fun ls hl => ?_)
        refine lv_goto (tgt := 19) hx hb dX12_wordAt_57 (by decide) ?_
        exact ih y3 y4 x25 gq (by omega) (by omega) μ hI hm (hl_) (hfT) (hRW) (hnq) (fun j hj => (Classical.em (j = y5.toNatClampNeg)).elim (fun q => by rw [q, t_x15]; have := (ax13 (by omega)).2; omega) (fun q => heq j (by have := m_ckI (x := y5) (by omega); omega))) _ _ hW ls (lv_sub hl [1, 2, 3, 4, 5, 0] rfl)
set_option maxHeartbeats 4000000 in
set_option maxRecDepth 100000 in
theorem L_X12_wordAt_f_5 {p : Program} {l : Launch} {e : Env} {s : State} {m : MethodId} {args : Array Value} {below : List Frame} {meth : Method} {c : Code} {D : va_G} {cy : Nat → ClassId} {b : Nat} (hx : p.tables.exec = Jvm.exec) (hb : c.code = cX12_wordAt) (hr : meth.sig.returnType = ((some .int))) (hml : c.maxLocals = 6) (hown : s.vm.findClass RX12 = some m.cls) (hts : ∀ w ∈ TB, w.before args s = true) (hlocks : meth.locks = false) (μ1 : mM) (fT : Nat → Int32) (k u : Int32) (h_k : 0 ≤ k.toInt ∧ k.toInt ≤ 400) (h_u : 0 ≤ u.toInt ∧ u.toInt ≤ 400) (h_ku : k.toInt ≤ u.toInt) : ∀ (f : Nat), ∀ (y3 y4 : Int32) (gq : Nat) (hy : -1 ≤ y3.toInt ∧ y3.toInt ≤ 82 ∧ 0 ≤ y4.toInt ∧ y4.toInt ≤ 82 ∧ gq ≤ 19 ∧ y3.toInt = (gq : Int) - 1 ∧ y4.toInt = m_pos gq) (hf : 82 - y4.toInt < (f : Int)) (μ : mM) (hI : IX μ) (hm : μ = μ1) (hl_ : ∀ j : Nat, k.toInt ≤ j → (j : Int) < u.toInt → 65 ≤ (μ.1 106 j).toInt) (hfT : μ.1 106 = fT) (hRW : m_RW μ) (hnq : ∀ j, j < gq → ¬ m_EQ fT k.toNatClampNeg u.toNatClampNeg (m_kw j)) (H : Heap) (locs : List Loc), m_WA (m_A b LAY) D cy s b LAY μ H locs → ∀ ls : Array Slot, lv_has ls 6 [(0, .ref (b + 81)), (1, .int k), (2, .int u), (3, .int y3), (4, .int y4)] → W p l e (m_R 0 0 0) s m args below meth c H locs 0 0 (MQ below (m_Qi D cy b LAY (fun r ν => μ1 = ν ∧ ((r = -1 ∧ ∀ j, j < 19 → ¬ m_EQ fT k.toNatClampNeg u.toNatClampNeg (m_kw j)) ∨ (∃ q : Nat, q < 19 ∧ r.toInt = q ∧ m_EQ fT k.toNatClampNeg u.toNatClampNeg (m_kw q))))) args s 0 0 (m_A b LAY)) (F0 m 5 ls []) := by
  intro f
  induction f with
  | zero => intro y3 y4 gq hy hf; exfalso; omega
  | succ f ih =>
    intro y3 y4 gq hy hf μ hI hm hl_ hfT hRW hnq H locs hW ls hl
    have p0 := m_pos0
    have F1 := m_wl_in gq
    have F2 := m_wl_end gq
    have p19 : gq = 19 → m_pos gq = 82 := fun h => by rw [h]; rfl
    refine lv_iload hx hb dX12_wordAt_5 (lv_at hl 4 rfl) ?_
    refine lv_bipush (v := 82) hx hb dX12_wordAt_7 (by decide) ?_
    refine lv_icmp_ge (tgt := 117) hx hb dX12_wordAt_9 (by decide) (fun c1 => ?_) (fun c1 => ?_)
    · have i1 := m_c3 (by decide : (82 : Int32).toInt = 82) (rfl : y4.toInt = _) c1
      refine lv_iconst (v := (-1)) hx hb dX12_wordAt_117 (by decide) ?_
      exact m_iret hx hb hr hlocks hW rfl (⟨hm.symm, Or.inl ⟨rfl, fun j hj => hnq j (by omega)⟩⟩) dX12_wordAt_118
    · have i1 := m_c4 (by decide : (82 : Int32).toInt = 82) (rfl : y4.toInt = _) c1
      refine lv_iconst (v := 0) hx hb dX12_wordAt_12 (by decide) ?_
      refine lv_istore (lv' := [(5, .int 0), (0, .ref (b + 81)), (1, .int k), (2, .int u), (3, .int y3), (4, .int y4)]) hx hb dX12_wordAt_13 hl (by decide) rfl (fun ls hl => ?_)
      refine lv_iload_n hx hb dX12_wordAt_15 rfl (lv_at hl 4 rfl) ?_
      refine lv_iconst (v := 1) hx hb dX12_wordAt_16 (by decide) ?_
      refine lv_iadd hx hb dX12_wordAt_17 ?_
      refine lv_topi (fun x2 ex2 => ?_)
      have tx2 : x2.toInt = y3.toInt + 1 := m_addI ex2 (rfl : y3.toInt = _) (by decide : (1 : Int32).toInt = 1) (by omega) (by omega)
      refine lv_istore_n (lv' := [(3, .int x2), (5, .int 0), (0, .ref (b + 81)), (1, .int k), (2, .int u), (4, .int y4)]) hx hb dX12_wordAt_18 rfl hl (by decide) rfl (fun ls hl => ?_)
      have l_0 : (0 : Int32).toInt = 0 := by decide
      exact L_X12_wordAt_f_19 hx hb hr hml hown hts hlocks μ1 fT k u h_k h_u h_ku f ih 83 x2 y4 0 gq (by omega) (by omega) μ hI hm (hl_) (hfT) (hRW) (hnq) (fun j hj => absurd hj (by show ¬ (j : Int) < 0; omega)) _ _ hW ls (lv_sub hl [2, 3, 4, 0, 5, 1] rfl)
set_option maxHeartbeats 4000000 in
set_option maxRecDepth 100000 in
theorem g_X12_wordAt_f (l : Launch) (D : va_G) (cy : Nat → ClassId) (b : Nat) (fT : Nat → Int32) (k u : Int32) (h_k : 0 ≤ k.toInt ∧ k.toInt ≤ 400) (h_u : 0 ≤ u.toInt ∧ u.toInt ≤ 400) (h_ku : k.toInt ≤ u.toInt) (μ : mM) (hI : IX μ) (hl_ : ∀ j : Nat, k.toInt ≤ j → (j : Int) < u.toInt → 65 ≤ (μ.1 106 j).toInt) (hfT : μ.1 106 = fT) (hRW : m_RW μ) : m_Ci l yX12_wordAt cX12_wordAt 6 ((some .int)) 0 D cy b LAY μ [.ref (b + 81), .int k, .int u] (fun r ν => μ = ν ∧ ((r = -1 ∧ ∀ j, j < 19 → ¬ m_EQ fT k.toNatClampNeg u.toNatClampNeg (m_kw j)) ∨ (∃ q : Nat, q < 19 ∧ r.toInt = q ∧ m_EQ fT k.toNatClampNeg u.toNatClampNeg (m_kw q)))) := by
  unfold m_Ci
  refine m_of (by decide) (Nat.le_of_ble_eq_true rfl) ?_
  intro p e s m below meth c hx hb hr hml hown hts hlocks _ hW ls hl
  have hown : s.vm.findClass RX12 = some m.cls := hown
  have hl : lv_has ls 6 [(0, .ref (b + 81)), (1, .int k), (2, .int u)] := hl
  have p0 := m_pos0
  refine lv_iconst (v := (-1)) hx hb dX12_wordAt_0 (by decide) ?_
  refine lv_istore_n (lv' := [(3, .int (-1)), (0, .ref (b + 81)), (1, .int k), (2, .int u)]) hx hb dX12_wordAt_1 rfl hl (by decide) rfl (fun ls hl => ?_)
  refine lv_iconst (v := 0) hx hb dX12_wordAt_2 (by decide) ?_
  refine lv_istore (lv' := [(4, .int 0), (3, .int (-1)), (0, .ref (b + 81)), (1, .int k), (2, .int u)]) hx hb dX12_wordAt_3 hl (by decide) rfl (fun ls hl => ?_)
  have l_m1 : ((-1) : Int32).toInt = (-1) := by decide
  have l_0 : (0 : Int32).toInt = 0 := by decide
  exact L_X12_wordAt_f_5 hx hb hr hml hown hts hlocks μ fT k u h_k h_u h_ku  83 (-1) 0 0 (by omega) (by omega) μ hI rfl (hl_) (hfT) (hRW) (fun j hj => absurd hj (Nat.not_lt_zero j)) _ _ hW ls (lv_sub hl [2, 3, 4, 1, 0] rfl)
