theorem ko_i : Cond.instanceMethod objectInit ∈ TB := tb1 28 rfl rfl
theorem ko_c : Cond.code objectInit ⟨#[0xb1]⟩ 1 none ∈ TB := tb1 29 rfl rfl
theorem kM_n : Cond.initialized "java/lang/Math" ∈ TB := tb1 4 rfl rfl
theorem kM_max_s : Cond.static Lib.Math.max.name ∈ TB := tb1 44 rfl rfl
theorem kM_max_c : Cond.code Lib.Math.max.name Lib.Math.max.code 2 (some .int) ∈ TB := tb1 45 rfl rfl
theorem kM_min_s : Cond.static Lib.Math.min.name ∈ TB := tb2 213 rfl rfl
theorem kM_min_c : Cond.code Lib.Math.min.name Lib.Math.min.code 2 (some .int) ∈ TB := tb2 214 rfl rfl
theorem kM_abs_s : Cond.static Lib.Math.abs.name ∈ TB := tb4 71 rfl rfl
theorem kM_abs_c : Cond.code Lib.Math.abs.name Lib.Math.abs.code 1 (some .int) ∈ TB := tb4 72 rfl rfl
theorem kS_n : Cond.initialized "java/lang/System" ∈ TB := tb1 20 rfl rfl
theorem kS_s : Cond.static arraycopyName ∈ TB := tb3 174 rfl rfl
theorem kS_t : Cond.native arraycopyName ∈ TB := tb3 175 rfl rfl
section MR2
variable {p : Program} {l : Launch} {e : Env} {R : Room} {s : State} {m : MethodId} {args : Array Value} {below : List Frame} {meth : Method} {c : Code} {H : Heap} {locs : List Loc} {cells slots : Nat} {Q : State → Prop}
variable {cc : ByteArray} {pc : Nat} {ls : Array Slot} {rest : List Value} {D : va_G} {cy : Nat → ClassId} {b : Nat} {lay : List mL} {μ : mM} {A : Nat → Prop}
theorem m_geti (hx : p.tables.exec = Jvm.exec) (hb : c.code = cc) {own C : String} {T : u_T} {N ci index : Nat} (hts : ∀ w ∈ TB, w.before args s = true) (hown : s.vm.findClass own = some m.cls) (hW : m_WA A D cy s b lay μ H locs) (k j : Nat) {fs : List Nat} (hk : lay[k]? = some (.inl (ci, fs))) (hf : fs[j]? = some 0) (hin : ∀ w ∈ u_ws C T N, w ∈ TB) (hc : vwCl[ci]? = some (C, T, N)) (hj : j < N) (hlink : Cond.fieldLink own index (T j).1 (T j).2.1 (T j).2.2.1 ∈ TB) (hdg : decode cc pc = .ok (.getfield index, 3))
    (kk : W p l e R s m args below meth c H locs cells slots Q (F0 m (pc + 3) ls (.int (μ.1 k j) :: rest))) : W p l e R s m args below meth c H locs cells slots Q (F0 m pc ls (.ref (b + k) :: rest)) := m_get hx hb hts hown hW k j hk hf hin hc hj hlink hdg kk
theorem m_getl (hx : p.tables.exec = Jvm.exec) (hb : c.code = cc) {own C : String} {T : u_T} {N ci index : Nat} (hts : ∀ w ∈ TB, w.before args s = true) (hown : s.vm.findClass own = some m.cls) (hW : m_WA A D cy s b lay μ H locs) (k j : Nat) {fs : List Nat} (hk : lay[k]? = some (.inl (ci, fs))) (hf : fs[j]? = some 1) (hin : ∀ w ∈ u_ws C T N, w ∈ TB) (hc : vwCl[ci]? = some (C, T, N)) (hj : j < N) (hlink : Cond.fieldLink own index (T j).1 (T j).2.1 (T j).2.2.1 ∈ TB) (hdg : decode cc pc = .ok (.getfield index, 3))
    (kk : W p l e R s m args below meth c H locs cells slots Q (F0 m (pc + 3) ls (.long (μ.2 k j) :: rest))) : W p l e R s m args below meth c H locs cells slots Q (F0 m pc ls (.ref (b + k) :: rest)) := m_get hx hb hts hown hW k j hk hf hin hc hj hlink hdg kk
theorem m_getr (hx : p.tables.exec = Jvm.exec) (hb : c.code = cc) {own C : String} {T : u_T} {N ci index : Nat} (hts : ∀ w ∈ TB, w.before args s = true) (hown : s.vm.findClass own = some m.cls) (hW : m_WA A D cy s b lay μ H locs) (k j n : Nat) {fs : List Nat} (hk : lay[k]? = some (.inl (ci, fs))) (hf : fs[j]? = some (n + 3)) (hin : ∀ w ∈ u_ws C T N, w ∈ TB) (hc : vwCl[ci]? = some (C, T, N)) (hj : j < N) (hlink : Cond.fieldLink own index (T j).1 (T j).2.1 (T j).2.2.1 ∈ TB) (hdg : decode cc pc = .ok (.getfield index, 3))
    (kk : W p l e R s m args below meth c H locs cells slots Q (F0 m (pc + 3) ls (.ref (b + n) :: rest))) : W p l e R s m args below meth c H locs cells slots Q (F0 m pc ls (.ref (b + k) :: rest)) := m_get hx hb hts hown hW k j hk hf hin hc hj hlink hdg kk
end MR2
theorem m_si_same {μ : mM} {k j : Nat} {v : Int32} (h : μ.1 k j = v) : m_si μ k j v = μ := by
  refine Prod.ext ?_ rfl
  funext a i
  show (if a = k ∧ i = j then v else μ.1 a i) = μ.1 a i
  by_cases q : a = k ∧ i = j
  · rw [if_pos q, q.1, q.2, h]
  · rw [if_neg q]
theorem m_sl_same {μ : mM} {k j : Nat} {v : Int64} (h : μ.2 k j = v) : m_sl μ k j v = μ := by
  refine Prod.ext rfl ?_
  funext a i
  show (if a = k ∧ i = j then v else μ.2 a i) = μ.2 a i
  by_cases q : a = k ∧ i = j
  · rw [if_pos q, q.1, q.2, h]
  · rw [if_neg q]
theorem m_z_same {μ : mM} {k : Nat} (h1 : ∀ j, μ.1 k j = 0) (h2 : ∀ j, μ.2 k j = 0) : m_z μ k = μ := by
  refine Prod.ext ?_ ?_
  · funext a i
    show (if a = k then 0 else μ.1 a i) = μ.1 a i
    by_cases q : a = k
    · rw [if_pos q, q, h1]
    · rw [if_neg q]
  · funext a i
    show (if a = k then 0 else μ.2 a i) = μ.2 a i
    by_cases q : a = k
    · rw [if_pos q, q, h2]
    · rw [if_neg q]
-- a constructor's memory: the places from P on were 0; what was written since
def m_us (P : Nat) (μ : mM) (L : List (Nat × Nat × Int32)) : mM := L.foldl (fun μ u => m_si μ (P + u.1) u.2.1 u.2.2) μ
abbrev m_Zr (P : Nat) (μ : mM) : Prop := ∀ k, P ≤ k → (∀ j, μ.1 k j = 0) ∧ ∀ j, μ.2 k j = 0
theorem m_us_2 (P : Nat) : ∀ (L : List (Nat × Nat × Int32)) (μ : mM), (m_us P μ L).2 = μ.2
  | [], _ => rfl
  | u :: L, μ => by
    show (m_us P (m_si μ (P + u.1) u.2.1 u.2.2) L).2 = μ.2
    rw [m_us_2 P L]
    rfl
theorem m_us_1 (P i j : Nat) : ∀ (L : List (Nat × Nat × Int32)) (μ : mM), L.all (fun u => !(u.1 == i && u.2.1 == j)) = true → (m_us P μ L).1 (P + i) j = μ.1 (P + i) j
  | [], _, _ => rfl
  | u :: L, μ, h => by
    simp only [List.all_cons, Bool.and_eq_true] at h
    show (m_us P (m_si μ (P + u.1) u.2.1 u.2.2) L).1 (P + i) j = μ.1 (P + i) j
    rw [m_us_1 P i j L _ h.2]
    show (if P + i = P + u.1 ∧ j = u.2.1 then u.2.2 else μ.1 (P + i) j) = μ.1 (P + i) j
    have h1 := h.1
    simp only [Bool.not_eq_true', Bool.and_eq_false_iff, beq_eq_false_iff_ne, ne_eq] at h1
    rw [if_neg]
    rintro ⟨q1, q2⟩
    rcases h1 with h1 | h1
    · exact h1 (by omega)
    · exact h1 q2.symm
theorem m_us_0 {P : Nat} {μ : mM} (hμ : m_Zr P μ) (L : List (Nat × Nat × Int32)) (i j : Nat) (h : L.all (fun u => !(u.1 == i && u.2.1 == j)) = true) : (m_us P μ L).1 (P + i) j = 0 := by
  rw [m_us_1 P i j L μ h]
  exact (hμ (P + i) (Nat.le_add_right P i)).1 j
theorem m_us_0l {P : Nat} {μ : mM} (hμ : m_Zr P μ) (L : List (Nat × Nat × Int32)) (i j : Nat) : (m_us P μ L).2 (P + i) j = 0 := by
  rw [m_us_2 P L μ]
  exact (hμ (P + i) (Nat.le_add_right P i)).2 j
theorem m_us_z {P : Nat} {μ : mM} (hμ : m_Zr P μ) (L : List (Nat × Nat × Int32)) (i : Nat) (h : L.all (fun u => !(u.1 == i)) = true) : m_z (m_us P μ L) (P + i) = m_us P μ L := by
  refine m_z_same (fun j => m_us_0 hμ L i j ?_) (fun j => m_us_0l hμ L i j)
  rw [List.all_eq_true] at h ⊢
  intro u hu
  have := h u hu
  simp only [Bool.not_eq_true', beq_eq_false_iff_ne, ne_eq] at this
  simp [this]
theorem m_us_zr {P : Nat} {μ : mM} (hμ : m_Zr P μ) (L : List (Nat × Nat × Int32)) (n : Nat) (h : L.all (fun u => decide (u.1 < n)) = true) : m_Zr (P + n) (m_us P μ L) := by
  intro k hk
  obtain ⟨i, rfl⟩ : ∃ i, k = P + i := ⟨k - P, by omega⟩
  refine ⟨fun j => m_us_0 hμ L i j ?_, fun j => m_us_0l hμ L i j⟩
  rw [List.all_eq_true] at h ⊢
  intro u hu
  have := h u hu
  simp only [decide_eq_true_eq] at this
  have : u.1 ≠ i := by omega
  simp [this]
theorem m_suf {pre suf : List mL} {P i : Nat} {x : mL} (hP : pre.length = P) (h : suf[i]? = some x) : (pre ++ suf)[P + i]? = some x := by
  rw [List.getElem?_append_right (by omega), show P + i - pre.length = i by omega]
  exact h
theorem m_sufset {pre suf suf' : List mL} {P i : Nat} {x : mL} (hP : pre.length = P) (h : suf.set i x = suf') : (pre ++ suf).set (P + i) x = pre ++ suf' := by
  rw [← h, List.set_append_right _ _ (by omega), show P + i - pre.length = i by omega]
theorem m_suflen {pre suf : List mL} {P n : Nat} (hP : pre.length = P) (h : suf.length = n) : (pre ++ suf).length = P + n := by
  rw [List.length_append, hP, h]
section MR3
variable {p : Program} {l : Launch} {e : Env} {R : Room} {s : State} {m : MethodId} {args : Array Value} {below : List Frame} {meth : Method} {c : Code} {H : Heap} {locs : List Loc} {cells slots : Nat} {Q : State → Prop}
variable {cc : ByteArray} {pc : Nat} {ls : Array Slot} {rest : List Value} {D : va_G} {cy : Nat → ClassId} {b : Nat} {lay : List mL} {μ : mM}
theorem m_newa' (hx : p.tables.exec = Jvm.exec) (hb : c.code = cc) (hts : ∀ w ∈ TB, w.before args s = true) (hW : m_W D cy s b lay μ H locs) {N0 : Nat} (hN0 : lay.length = N0) (hz : H.size = b + N0) (a : Nat) {atype : ArrayType} (harr : Cond.arrayClass (newarray.typeOf atype) ∈ TB) (hty : (a = 0 ∧ atype = .int) ∨ (a = 1 ∧ atype = .boolean) ∨ (a = 2 ∧ atype = .long)) {n : Int32} {N : Nat} {lay' : List mL} (hlay : lay ++ [.inr (a, N, [])] = lay') (hn : ¬ n < 0) (hN : n.toNatClampNeg = N) (hbytes : N * 8 ≤ 536870912) (hcells : cells + 1 ≤ R.cells) (hslots : slots + N ≤ R.slots) (hdg : decode cc pc = .ok (.newarray atype, 2))
    (kk : ∀ (H1 : Heap), m_W D cy s b lay' (m_z μ N0) H1 locs → H1.size = b + (N0 + 1) → W p l e R s m args below meth c H1 locs (cells + 1) (slots + N) Q (F0 m (pc + 2) ls (.ref (b + N0) :: rest))) : W p l e R s m args below meth c H locs cells slots Q (F0 m pc ls (.int n :: rest)) := by
  subst hN0
  subst hlay
  exact m_newa hx hb hts hW hz a harr hty hn hN hbytes hcells hslots hdg (fun H1 h1 h2 => kk H1 h1 (by rw [h2]; simp))
theorem m_newq' (hx : p.tables.exec = Jvm.exec) (hb : c.code = cc) (hts : ∀ w ∈ TB, w.before args s = true) {own : String} {index : Nat} (hown : s.vm.findClass own = some m.cls) (hW : m_W D cy s b lay μ H locs) {N0 : Nat} (hN0 : lay.length = N0) (hz : H.size = b + N0) (hcl : Cond.classLink own index "BeamPlate$Row" ∈ TB) {n : Int32} {N : Nat} {lay' : List mL} (hlay : lay ++ [.inr (3, N, [])] = lay') (hn : ¬ n < 0) (hN : n.toNatClampNeg = N) (hbytes : N * 4 ≤ 536870912) (hcells : cells + 1 ≤ R.cells) (hslots : slots + N ≤ R.slots) (hdg : decode cc pc = .ok (.anewarray index, 3))
    (kk : ∀ (H1 : Heap), m_W D cy s b lay' (m_z μ N0) H1 locs → H1.size = b + (N0 + 1) → W p l e R s m args below meth c H1 locs (cells + 1) (slots + N) Q (F0 m (pc + 3) ls (.ref (b + N0) :: rest))) : W p l e R s m args below meth c H locs cells slots Q (F0 m pc ls (.int n :: rest)) := by
  subst hN0
  subst hlay
  exact m_newq hx hb hts hown hW hz hcl hn hN hbytes hcells hslots hdg (fun H1 h1 h2 => kk H1 h1 (by rw [h2]; simp))
theorem m_new' (hx : p.tables.exec = Jvm.exec) (hb : c.code = cc) (hts : ∀ w ∈ TB, w.before args s = true) {own C : String} {T : u_T} {N ci index : Nat} (hown : s.vm.findClass own = some m.cls) (hW : m_W D cy s b lay μ H locs) {N0 : Nat} (hN0 : lay.length = N0) (hz : H.size = b + N0) (hin : ∀ w ∈ u_ws C T N, w ∈ TB) {ty0 : Nat → FieldType} (hty : ∀ k, k < N → parseFieldDescriptor (T k).2.2.1 = some (ty0 k)) (hcl : Cond.classLink own index C ∈ TB) (hinst : Cond.instantiable C N ∈ TB) (hini : Cond.initialized C ∈ TB) (hc : vwCl[ci]? = some (C, T, N)) (fs : List Nat) {lay' : List mL} (hlay : lay ++ [.inl (ci, fs)] = lay') (hfs : ∀ j, j < N → ∃ f, fs[j]? = some f ∧ f < 3 ∧ defaultValue (ty0 j) = m_v 0 (fun _ _ => 0, fun _ _ => 0) 0 j f) (hcells : cells + 1 ≤ R.cells) (hslots : slots + N ≤ R.slots) (hdg : decode cc pc = .ok (.new index, 3))
    (kk : ∀ (H1 : Heap), m_W D cy s b lay' (m_z μ N0) H1 locs → H1.size = b + (N0 + 1) → W p l e R s m args below meth c H1 locs (cells + 1) (slots + N) Q (F0 m (pc + 3) ls (.ref (b + N0) :: rest))) : W p l e R s m args below meth c H locs cells slots Q (F0 m pc ls rest) := by
  subst hN0
  subst hlay
  refine m_new hx hb hts hown hW hz hin hty hcl hinst hini hc fs (fun j hj => ?_) hcells hslots hdg (fun H1 h1 h2 => kk H1 h1 (by rw [h2]; simp))
  obtain ⟨f, h1, h2, h3⟩ := hfs j hj
  rw [h3]
  have : vp_V (fs.mapIdx (fun j f => m_v b (m_z μ lay.length) lay.length j f)) j = m_v b (m_z μ lay.length) lay.length j f := by
    simp [vp_V, List.getD_eq_getElem?_getD, List.getElem?_mapIdx, h1]
  rw [this]
  match f, h2 with
  | 0, _ => simp [m_v, m_z]
  | 1, _ => simp [m_v, m_z]
  | 2, _ => rfl
end MR3
-- the fresh fields of each class
def f0_0 : List Nat := [2, 2, 2, 2, 0]
theorem f0_0_ok : ∀ j, j < 5 → ∃ f, f0_0[j]? = some f ∧ f < 3 ∧ defaultValue (tyX0 j) = m_v 0 (fun _ _ => 0, fun _ _ => 0) 0 j f := by
  intro j hj
  match j, hj with
  | 0, _ => exact ⟨2, rfl, by decide, rfl⟩
  | 1, _ => exact ⟨2, rfl, by decide, rfl⟩
  | 2, _ => exact ⟨2, rfl, by decide, rfl⟩
  | 3, _ => exact ⟨2, rfl, by decide, rfl⟩
  | 4, _ => exact ⟨0, rfl, by decide, rfl⟩
  | k + 5, h => exact absurd h (by omega)
def f0_1 : List Nat := [0, 0, 0, 0, 0]
theorem f0_1_ok : ∀ j, j < 5 → ∃ f, f0_1[j]? = some f ∧ f < 3 ∧ defaultValue (tyX1 j) = m_v 0 (fun _ _ => 0, fun _ _ => 0) 0 j f := by
  intro j hj
  match j, hj with
  | 0, _ => exact ⟨0, rfl, by decide, rfl⟩
  | 1, _ => exact ⟨0, rfl, by decide, rfl⟩
  | 2, _ => exact ⟨0, rfl, by decide, rfl⟩
  | 3, _ => exact ⟨0, rfl, by decide, rfl⟩
  | 4, _ => exact ⟨0, rfl, by decide, rfl⟩
  | k + 5, h => exact absurd h (by omega)
def f0_2 : List Nat := [2, 2, 0, 0, 0]
theorem f0_2_ok : ∀ j, j < 5 → ∃ f, f0_2[j]? = some f ∧ f < 3 ∧ defaultValue (tyX2 j) = m_v 0 (fun _ _ => 0, fun _ _ => 0) 0 j f := by
  intro j hj
  match j, hj with
  | 0, _ => exact ⟨2, rfl, by decide, rfl⟩
  | 1, _ => exact ⟨2, rfl, by decide, rfl⟩
  | 2, _ => exact ⟨0, rfl, by decide, rfl⟩
  | 3, _ => exact ⟨0, rfl, by decide, rfl⟩
  | 4, _ => exact ⟨0, rfl, by decide, rfl⟩
  | k + 5, h => exact absurd h (by omega)
def f0_3 : List Nat := [0, 0, 0, 0, 0, 0, 0, 1, 1, 1, 2, 2, 2, 2, 2, 2, 2, 2]
theorem f0_3_ok : ∀ j, j < 18 → ∃ f, f0_3[j]? = some f ∧ f < 3 ∧ defaultValue (tyX3 j) = m_v 0 (fun _ _ => 0, fun _ _ => 0) 0 j f := by
  intro j hj
  match j, hj with
  | 0, _ => exact ⟨0, rfl, by decide, rfl⟩
  | 1, _ => exact ⟨0, rfl, by decide, rfl⟩
  | 2, _ => exact ⟨0, rfl, by decide, rfl⟩
  | 3, _ => exact ⟨0, rfl, by decide, rfl⟩
  | 4, _ => exact ⟨0, rfl, by decide, rfl⟩
  | 5, _ => exact ⟨0, rfl, by decide, rfl⟩
  | 6, _ => exact ⟨0, rfl, by decide, rfl⟩
  | 7, _ => exact ⟨1, rfl, by decide, rfl⟩
  | 8, _ => exact ⟨1, rfl, by decide, rfl⟩
  | 9, _ => exact ⟨1, rfl, by decide, rfl⟩
  | 10, _ => exact ⟨2, rfl, by decide, rfl⟩
  | 11, _ => exact ⟨2, rfl, by decide, rfl⟩
  | 12, _ => exact ⟨2, rfl, by decide, rfl⟩
  | 13, _ => exact ⟨2, rfl, by decide, rfl⟩
  | 14, _ => exact ⟨2, rfl, by decide, rfl⟩
  | 15, _ => exact ⟨2, rfl, by decide, rfl⟩
  | 16, _ => exact ⟨2, rfl, by decide, rfl⟩
  | 17, _ => exact ⟨2, rfl, by decide, rfl⟩
  | k + 18, h => exact absurd h (by omega)
def f0_4 : List Nat := [2, 0, 0, 2, 0, 0, 2, 2]
theorem f0_4_ok : ∀ j, j < 8 → ∃ f, f0_4[j]? = some f ∧ f < 3 ∧ defaultValue (tyX4 j) = m_v 0 (fun _ _ => 0, fun _ _ => 0) 0 j f := by
  intro j hj
  match j, hj with
  | 0, _ => exact ⟨2, rfl, by decide, rfl⟩
  | 1, _ => exact ⟨0, rfl, by decide, rfl⟩
  | 2, _ => exact ⟨0, rfl, by decide, rfl⟩
  | 3, _ => exact ⟨2, rfl, by decide, rfl⟩
  | 4, _ => exact ⟨0, rfl, by decide, rfl⟩
  | 5, _ => exact ⟨0, rfl, by decide, rfl⟩
  | 6, _ => exact ⟨2, rfl, by decide, rfl⟩
  | 7, _ => exact ⟨2, rfl, by decide, rfl⟩
  | k + 8, h => exact absurd h (by omega)
def f0_5 : List Nat := [2, 0]
theorem f0_5_ok : ∀ j, j < 2 → ∃ f, f0_5[j]? = some f ∧ f < 3 ∧ defaultValue (tyX5 j) = m_v 0 (fun _ _ => 0, fun _ _ => 0) 0 j f := by
  intro j hj
  match j, hj with
  | 0, _ => exact ⟨2, rfl, by decide, rfl⟩
  | 1, _ => exact ⟨0, rfl, by decide, rfl⟩
  | k + 2, h => exact absurd h (by omega)
def f0_6 : List Nat := [2, 0, 0]
theorem f0_6_ok : ∀ j, j < 3 → ∃ f, f0_6[j]? = some f ∧ f < 3 ∧ defaultValue (tyX6 j) = m_v 0 (fun _ _ => 0, fun _ _ => 0) 0 j f := by
  intro j hj
  match j, hj with
  | 0, _ => exact ⟨2, rfl, by decide, rfl⟩
  | 1, _ => exact ⟨0, rfl, by decide, rfl⟩
  | 2, _ => exact ⟨0, rfl, by decide, rfl⟩
  | k + 3, h => exact absurd h (by omega)
def f0_7 : List Nat := [2, 2, 2, 2, 0, 0]
theorem f0_7_ok : ∀ j, j < 6 → ∃ f, f0_7[j]? = some f ∧ f < 3 ∧ defaultValue (tyX7 j) = m_v 0 (fun _ _ => 0, fun _ _ => 0) 0 j f := by
  intro j hj
  match j, hj with
  | 0, _ => exact ⟨2, rfl, by decide, rfl⟩
  | 1, _ => exact ⟨2, rfl, by decide, rfl⟩
  | 2, _ => exact ⟨2, rfl, by decide, rfl⟩
  | 3, _ => exact ⟨2, rfl, by decide, rfl⟩
  | 4, _ => exact ⟨0, rfl, by decide, rfl⟩
  | 5, _ => exact ⟨0, rfl, by decide, rfl⟩
  | k + 6, h => exact absurd h (by omega)
def f0_8 : List Nat := [2, 2, 2]
theorem f0_8_ok : ∀ j, j < 3 → ∃ f, f0_8[j]? = some f ∧ f < 3 ∧ defaultValue (tyX8 j) = m_v 0 (fun _ _ => 0, fun _ _ => 0) 0 j f := by
  intro j hj
  match j, hj with
  | 0, _ => exact ⟨2, rfl, by decide, rfl⟩
  | 1, _ => exact ⟨2, rfl, by decide, rfl⟩
  | 2, _ => exact ⟨2, rfl, by decide, rfl⟩
  | k + 3, h => exact absurd h (by omega)
def f0_9 : List Nat := [0, 0, 0, 2, 2, 2, 2]
theorem f0_9_ok : ∀ j, j < 7 → ∃ f, f0_9[j]? = some f ∧ f < 3 ∧ defaultValue (tyX9 j) = m_v 0 (fun _ _ => 0, fun _ _ => 0) 0 j f := by
  intro j hj
  match j, hj with
  | 0, _ => exact ⟨0, rfl, by decide, rfl⟩
  | 1, _ => exact ⟨0, rfl, by decide, rfl⟩
  | 2, _ => exact ⟨0, rfl, by decide, rfl⟩
  | 3, _ => exact ⟨2, rfl, by decide, rfl⟩
  | 4, _ => exact ⟨2, rfl, by decide, rfl⟩
  | 5, _ => exact ⟨2, rfl, by decide, rfl⟩
  | 6, _ => exact ⟨2, rfl, by decide, rfl⟩
  | k + 7, h => exact absurd h (by omega)
def f0_10 : List Nat := [2, 2, 2, 2, 0, 0, 0, 2]
theorem f0_10_ok : ∀ j, j < 8 → ∃ f, f0_10[j]? = some f ∧ f < 3 ∧ defaultValue (tyX10 j) = m_v 0 (fun _ _ => 0, fun _ _ => 0) 0 j f := by
  intro j hj
  match j, hj with
  | 0, _ => exact ⟨2, rfl, by decide, rfl⟩
  | 1, _ => exact ⟨2, rfl, by decide, rfl⟩
  | 2, _ => exact ⟨2, rfl, by decide, rfl⟩
  | 3, _ => exact ⟨2, rfl, by decide, rfl⟩
  | 4, _ => exact ⟨0, rfl, by decide, rfl⟩
  | 5, _ => exact ⟨0, rfl, by decide, rfl⟩
  | 6, _ => exact ⟨0, rfl, by decide, rfl⟩
  | 7, _ => exact ⟨2, rfl, by decide, rfl⟩
  | k + 8, h => exact absurd h (by omega)
def f0_11 : List Nat := [2, 2, 2, 2, 2, 2, 2, 2, 2, 0, 0]
theorem f0_11_ok : ∀ j, j < 11 → ∃ f, f0_11[j]? = some f ∧ f < 3 ∧ defaultValue (tyX11 j) = m_v 0 (fun _ _ => 0, fun _ _ => 0) 0 j f := by
  intro j hj
  match j, hj with
  | 0, _ => exact ⟨2, rfl, by decide, rfl⟩
  | 1, _ => exact ⟨2, rfl, by decide, rfl⟩
  | 2, _ => exact ⟨2, rfl, by decide, rfl⟩
  | 3, _ => exact ⟨2, rfl, by decide, rfl⟩
  | 4, _ => exact ⟨2, rfl, by decide, rfl⟩
  | 5, _ => exact ⟨2, rfl, by decide, rfl⟩
  | 6, _ => exact ⟨2, rfl, by decide, rfl⟩
  | 7, _ => exact ⟨2, rfl, by decide, rfl⟩
  | 8, _ => exact ⟨2, rfl, by decide, rfl⟩
  | 9, _ => exact ⟨0, rfl, by decide, rfl⟩
  | 10, _ => exact ⟨0, rfl, by decide, rfl⟩
  | k + 11, h => exact absurd h (by omega)
def f0_12 : List Nat := [0, 2, 2, 2, 2, 0, 0, 0, 0, 0, 0, 0, 0, 2, 2, 2, 2, 2, 2, 2, 2, 2, 2, 2, 2, 2, 2, 2, 2, 2, 0, 2, 2, 2, 2, 0, 0, 0, 0, 0, 2, 2, 2, 2, 2, 2, 2, 2, 2, 2, 2, 0, 2, 0, 0, 0, 0, 0, 0, 0, 0, 2, 0, 2, 2, 2, 2, 0, 2, 2, 2, 2, 2, 0]
theorem f0_12_ok : ∀ j, j < 74 → ∃ f, f0_12[j]? = some f ∧ f < 3 ∧ defaultValue (tyX12 j) = m_v 0 (fun _ _ => 0, fun _ _ => 0) 0 j f := by
  intro j hj
  match j, hj with
  | 0, _ => exact ⟨0, rfl, by decide, rfl⟩
  | 1, _ => exact ⟨2, rfl, by decide, rfl⟩
  | 2, _ => exact ⟨2, rfl, by decide, rfl⟩
  | 3, _ => exact ⟨2, rfl, by decide, rfl⟩
  | 4, _ => exact ⟨2, rfl, by decide, rfl⟩
  | 5, _ => exact ⟨0, rfl, by decide, rfl⟩
  | 6, _ => exact ⟨0, rfl, by decide, rfl⟩
  | 7, _ => exact ⟨0, rfl, by decide, rfl⟩
  | 8, _ => exact ⟨0, rfl, by decide, rfl⟩
  | 9, _ => exact ⟨0, rfl, by decide, rfl⟩
  | 10, _ => exact ⟨0, rfl, by decide, rfl⟩
  | 11, _ => exact ⟨0, rfl, by decide, rfl⟩
  | 12, _ => exact ⟨0, rfl, by decide, rfl⟩
  | 13, _ => exact ⟨2, rfl, by decide, rfl⟩
  | 14, _ => exact ⟨2, rfl, by decide, rfl⟩
  | 15, _ => exact ⟨2, rfl, by decide, rfl⟩
  | 16, _ => exact ⟨2, rfl, by decide, rfl⟩
  | 17, _ => exact ⟨2, rfl, by decide, rfl⟩
  | 18, _ => exact ⟨2, rfl, by decide, rfl⟩
  | 19, _ => exact ⟨2, rfl, by decide, rfl⟩
  | 20, _ => exact ⟨2, rfl, by decide, rfl⟩
  | 21, _ => exact ⟨2, rfl, by decide, rfl⟩
  | 22, _ => exact ⟨2, rfl, by decide, rfl⟩
  | 23, _ => exact ⟨2, rfl, by decide, rfl⟩
  | 24, _ => exact ⟨2, rfl, by decide, rfl⟩
  | 25, _ => exact ⟨2, rfl, by decide, rfl⟩
  | 26, _ => exact ⟨2, rfl, by decide, rfl⟩
  | 27, _ => exact ⟨2, rfl, by decide, rfl⟩
  | 28, _ => exact ⟨2, rfl, by decide, rfl⟩
  | 29, _ => exact ⟨2, rfl, by decide, rfl⟩
  | 30, _ => exact ⟨0, rfl, by decide, rfl⟩
  | 31, _ => exact ⟨2, rfl, by decide, rfl⟩
  | 32, _ => exact ⟨2, rfl, by decide, rfl⟩
  | 33, _ => exact ⟨2, rfl, by decide, rfl⟩
  | 34, _ => exact ⟨2, rfl, by decide, rfl⟩
  | 35, _ => exact ⟨0, rfl, by decide, rfl⟩
  | 36, _ => exact ⟨0, rfl, by decide, rfl⟩
  | 37, _ => exact ⟨0, rfl, by decide, rfl⟩
  | 38, _ => exact ⟨0, rfl, by decide, rfl⟩
  | 39, _ => exact ⟨0, rfl, by decide, rfl⟩
  | 40, _ => exact ⟨2, rfl, by decide, rfl⟩
  | 41, _ => exact ⟨2, rfl, by decide, rfl⟩
  | 42, _ => exact ⟨2, rfl, by decide, rfl⟩
  | 43, _ => exact ⟨2, rfl, by decide, rfl⟩
  | 44, _ => exact ⟨2, rfl, by decide, rfl⟩
  | 45, _ => exact ⟨2, rfl, by decide, rfl⟩
  | 46, _ => exact ⟨2, rfl, by decide, rfl⟩
  | 47, _ => exact ⟨2, rfl, by decide, rfl⟩
  | 48, _ => exact ⟨2, rfl, by decide, rfl⟩
  | 49, _ => exact ⟨2, rfl, by decide, rfl⟩
  | 50, _ => exact ⟨2, rfl, by decide, rfl⟩
  | 51, _ => exact ⟨0, rfl, by decide, rfl⟩
  | 52, _ => exact ⟨2, rfl, by decide, rfl⟩
  | 53, _ => exact ⟨0, rfl, by decide, rfl⟩
  | 54, _ => exact ⟨0, rfl, by decide, rfl⟩
  | 55, _ => exact ⟨0, rfl, by decide, rfl⟩
  | 56, _ => exact ⟨0, rfl, by decide, rfl⟩
  | 57, _ => exact ⟨0, rfl, by decide, rfl⟩
  | 58, _ => exact ⟨0, rfl, by decide, rfl⟩
  | 59, _ => exact ⟨0, rfl, by decide, rfl⟩
  | 60, _ => exact ⟨0, rfl, by decide, rfl⟩
  | 61, _ => exact ⟨2, rfl, by decide, rfl⟩
  | 62, _ => exact ⟨0, rfl, by decide, rfl⟩
  | 63, _ => exact ⟨2, rfl, by decide, rfl⟩
  | 64, _ => exact ⟨2, rfl, by decide, rfl⟩
  | 65, _ => exact ⟨2, rfl, by decide, rfl⟩
  | 66, _ => exact ⟨2, rfl, by decide, rfl⟩
  | 67, _ => exact ⟨0, rfl, by decide, rfl⟩
  | 68, _ => exact ⟨2, rfl, by decide, rfl⟩
  | 69, _ => exact ⟨2, rfl, by decide, rfl⟩
  | 70, _ => exact ⟨2, rfl, by decide, rfl⟩
  | 71, _ => exact ⟨2, rfl, by decide, rfl⟩
  | 72, _ => exact ⟨2, rfl, by decide, rfl⟩
  | 73, _ => exact ⟨0, rfl, by decide, rfl⟩
  | k + 74, h => exact absurd h (by omega)
theorem m_us_snoc {P : Nat} {μ : mM} {L : List (Nat × Nat × Int32)} {i j : Nat} {v : Int32} : m_si (m_us P μ L) (P + i) j v = m_us P μ (L ++ [(i, j, v)]) := by
  simp [m_us, List.foldl_append]
def m_sh (i : Nat) (L : List (Nat × Nat × Int32)) : List (Nat × Nat × Int32) := L.map (fun u => (i + u.1, u.2.1, u.2.2))
theorem m_us_sh (P i : Nat) : ∀ (L : List (Nat × Nat × Int32)) (μ : mM), m_us (P + i) μ L = m_us P μ (m_sh i L)
  | [], _ => rfl
  | u :: L, μ => by
    show m_us (P + i) (m_si μ (P + i + u.1) u.2.1 u.2.2) L = m_us P (m_si μ (P + (i + u.1)) u.2.1 u.2.2) (m_sh i L)
    rw [m_us_sh P i L, Nat.add_assoc]
theorem m_us_join {P i : Nat} {μ : mM} {L L' : List (Nat × Nat × Int32)} : m_us (P + i) (m_us P μ L) L' = m_us P μ (L ++ m_sh i L') := by
  rw [m_us_sh]
  simp [m_us, List.foldl_append]
