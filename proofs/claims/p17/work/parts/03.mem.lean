-- THE TABLES' WORDS THAT EVERY METHOD MAY USE: those that stay when a class is warmed
def TB : List Cond := lw_tbl.filter goodWord
theorem tb_of {w : Cond} (h : w ∈ tables_1) (g : goodWord w = true) : w ∈ TB := List.mem_filter.mpr ⟨List.mem_append_right _ h, g⟩
theorem tb1 {w : Cond} (i : Nat) (h : tables_1_1[i]? = some w) (g : goodWord w = true) : w ∈ TB := tb_of (List.mem_append_left _ (List.mem_of_getElem? h)) g
theorem tb2 {w : Cond} (i : Nat) (h : tables_1_2[i]? = some w) (g : goodWord w = true) : w ∈ TB := tb_of (List.mem_append_right _ (List.mem_append_left _ (List.mem_of_getElem? h))) g
theorem tb3 {w : Cond} (i : Nat) (h : tables_1_3[i]? = some w) (g : goodWord w = true) : w ∈ TB := tb_of (List.mem_append_right _ (List.mem_append_right _ (List.mem_append_left _ (List.mem_of_getElem? h)))) g
theorem tb4 {w : Cond} (i : Nat) (h : tables_1_4[i]? = some w) (g : goodWord w = true) : w ∈ TB := tb_of (List.mem_append_right _ (List.mem_append_right _ (List.mem_append_right _ (List.mem_append_left _ (List.mem_of_getElem? h))))) g
theorem tb5 {w : Cond} (i : Nat) (h : tables_1_5[i]? = some w) (g : goodWord w = true) : w ∈ TB := tb_of (List.mem_append_right _ (List.mem_append_right _ (List.mem_append_right _ (List.mem_append_right _ (List.mem_append_left _ (List.mem_of_getElem? h)))))) g
theorem tb6 {w : Cond} (i : Nat) (h : tables_1_6[i]? = some w) (g : goodWord w = true) : w ∈ TB := tb_of (List.mem_append_right _ (List.mem_append_right _ (List.mem_append_right _ (List.mem_append_right _ (List.mem_append_right _ (List.mem_append_left _ (List.mem_of_getElem? h))))))) g
theorem tb7 {w : Cond} (i : Nat) (h : tables_1_7[i]? = some w) (g : goodWord w = true) : w ∈ TB := tb_of (List.mem_append_right _ (List.mem_append_right _ (List.mem_append_right _ (List.mem_append_right _ (List.mem_append_right _ (List.mem_append_right _ (List.mem_of_getElem? h))))))) g
theorem tbS {w : Cond} (i : Nat) (h : (k2_sels lw_privs)[i]? = some w) (g : goodWord w = true) : w ∈ TB := List.mem_filter.mpr ⟨List.mem_append_left _ (List.mem_of_getElem? h), g⟩
theorem tb_good {w : Cond} (h : w ∈ TB) : (w.onTables && w.keeps) = true ∨ ∃ ty, w = .arrayClass ty := good_of_word (List.mem_filter.mp h).2
theorem tb_tbl {w : Cond} (h : w ∈ TB) : w ∈ lw_tbl := (List.mem_filter.mp h).1
/-- a callee's words among a caller's -/
theorem tb_in {y : MethodName} {cc : ByteArray} {n : Nat} {r : Option FieldType} (h : Cond.code y cc n r ∈ TB) : GoodIn TB (Cond.code y cc n r :: TB) := fun w hw => by
  have h1 : w ∈ TB := (List.mem_cons.mp hw).elim (fun q => by rw [q]; exact h) id
  exact ⟨h1, tb_good h1⟩
/-- links to private members of a nest mate -/
def m_isN : Cond → Bool
  | .methodLinkNest _ _ _ _ => true
  | _ => false
theorem m_nest_moved {s U : State} (hW : s.WarmedH U.vm) {w : Cond} (hn : m_isN w = true) (h : va_Nw w s) : va_Nw w U := by
  cases w <;> first | exact va_Nw.warmM hW h | (simp [m_isN] at hn)
theorem m_nest_same {s U : State} (hv : s.vm = U.vm) {w : Cond} (hn : m_isN w = true) (h : va_Nw w s) : va_Nw w U := by
  cases w <;> first | exact va_Nw.same rfl hv h | (simp [m_isN] at hn)
-- THE MEMORY: a place is a cell (its address: base + place); ints and longs by place and number of the field or element
abbrev mM : Type := (Nat → Nat → Int32) × (Nat → Nat → Int64)
/-- what a place is: an object (number of its class, fields: 0 an int, 1 a long, 2 null, n + 3 the place n), or an array (0 ints, 1 booleans, 2 longs, 3 Rows; its length; the places that it holds) -/
abbrev mL : Type := (Nat × List Nat) ⊕ (Nat × Nat × List Nat)
def m_v (b : Nat) (μ : mM) (k j : Nat) : Nat → Value
  | 0 => .int (μ.1 k j)
  | 1 => .long (μ.2 k j)
  | 2 => .null
  | n + 3 => .ref (b + n)
def m_e (cy : Nat → ClassId) (b : Nat) (μ : mM) (k : Nat) : mL → va_E
  | .inl (ci, fs) => .inr (ci, fs.mapIdx (fun j f => m_v b μ k j f))
  | .inr (0, n, _) => .inl (cy 0, n, .inl (μ.1 k))
  | .inr (1, n, _) => .inl (cy 1, n, .inl (μ.1 k))
  | .inr (2, n, _) => .inl (cy 2, n, .inr (.inl (μ.2 k)))
  | .inr (_, n, rs) => .inl (cy 3, n, .inr (.inr (.inr (.inr (fun j => (rs[j]?).map (fun q => b + q))))))
def m_w (cy : Nat → ClassId) (b : Nat) (lay : List mL) (μ : mM) : va_W := lay.mapIdx (fun k x => (b + k, m_e cy b μ k x))
abbrev m_T (cy : Nat → ClassId) : List (ClassId × FieldType) := [(cy 0, .int), (cy 1, .boolean), (cy 2, .long), (cy 3, .object "BeamPlate$Row")]
def m_K (D : va_G) (cy : Nat → ClassId) (U : State) : Prop := va_K D vwCl (m_T cy) U ∧ (∀ w ∈ lw_tbl, m_isN w = true → va_Nw w U) ∧ va_AO "BeamPlate$Row" U
def m_si (μ : mM) (k j : Nat) (v : Int32) : mM := (fun a i => if a = k ∧ i = j then v else μ.1 a i, μ.2)
def m_sl (μ : mM) (k j : Nat) (v : Int64) : mM := (μ.1, fun a i => if a = k ∧ i = j then v else μ.2 a i)
/-- a new place: all its numbers are 0 -/
def m_z (μ : mM) (k : Nat) : mM := (fun a i => if a = k then 0 else μ.1 a i, fun a i => if a = k then 0 else μ.2 a i)
theorem m_w_at {cy : Nat → ClassId} {b : Nat} {lay : List mL} {μ : mM} {k : Nat} {x : mL} (h : lay[k]? = some x) : (m_w cy b lay μ)[k]? = some (b + k, m_e cy b μ k x) := by
  simp [m_w, List.getElem?_mapIdx, h]
theorem m_w_get {cy : Nat → ClassId} {b : Nat} {lay : List mL} {μ : mM} {k : Nat} {q : Nat × va_E} (h : (m_w cy b lay μ)[k]? = some q) : ∃ x, lay[k]? = some x ∧ q = (b + k, m_e cy b μ k x) := by
  simp only [m_w, List.getElem?_mapIdx, Option.map_eq_some_iff] at h
  obtain ⟨x, h1, h2⟩ := h
  exact ⟨x, h1, h2.symm⟩
theorem m_D {cy : Nat → ClassId} {b : Nat} {lay : List mL} {μ : mM} : va_D (fun q => b ≤ q) (m_w cy b lay μ) := by
  refine ⟨fun i j p q hi hj e => ?_, fun k q hk => ?_⟩
  · obtain ⟨x, -, rfl⟩ := m_w_get hi
    obtain ⟨y, -, rfl⟩ := m_w_get hj
    have : b + i = b + j := e
    omega
  · obtain ⟨x, -, rfl⟩ := m_w_get hk
    exact Nat.le_add_right b k
theorem m_e_cong {cy : Nat → ClassId} {b : Nat} {μ ν : mM} {k : Nat} (h1 : ∀ j, ν.1 k j = μ.1 k j) (h2 : ∀ j, ν.2 k j = μ.2 k j) (x : mL) : m_e cy b ν k x = m_e cy b μ k x := by
  have e1 : ν.1 k = μ.1 k := funext h1
  have e2 : ν.2 k = μ.2 k := funext h2
  have ev : ∀ j f, m_v b ν k j f = m_v b μ k j f := by
    intro j f
    match f with
    | 0 => simp [m_v, e1]
    | 1 => simp [m_v, e2]
    | 2 => rfl
    | n + 3 => rfl
  match x with
  | .inl (ci, fs) => simp [m_e, ev]
  | .inr (0, n, _) => simp [m_e, e1]
  | .inr (1, n, _) => simp [m_e, e1]
  | .inr (2, n, _) => simp [m_e, e2]
  | .inr (n + 3, _, _) => rfl
/-- a place is written: the others are as they were -/
theorem m_w_set {cy : Nat → ClassId} {b : Nat} {lay lay' : List mL} {μ ν : mM} {k : Nat} {x : mL} {e : va_E} (h : lay[k]? = some x) (hl : ∀ i, i ≠ k → lay'[i]? = lay[i]?) {x' : mL} (hx : lay'[k]? = some x') (he : e = m_e cy b ν k x') (ho : ∀ i, i ≠ k → (∀ j, ν.1 i j = μ.1 i j) ∧ ∀ j, ν.2 i j = μ.2 i j) :
    (m_w cy b lay μ).set k (b + k, e) = m_w cy b lay' ν := by
  have hk : k < (m_w cy b lay μ).length := (List.getElem?_eq_some_iff.mp (m_w_at (cy := cy) (b := b) (μ := μ) h)).1
  refine List.ext_getElem? fun i => ?_
  by_cases hi : i = k
  · subst hi
    rw [List.getElem?_set_self hk, m_w_at hx, he]
  · rw [List.getElem?_set_ne (Ne.symm hi)]
    simp only [m_w, List.getElem?_mapIdx, hl i hi]
    cases lay[i]? with
    | none => rfl
    | some y =>
      show some (b + i, m_e cy b μ i y) = some (b + i, m_e cy b ν i y)
      rw [m_e_cong (ho i hi).1 (ho i hi).2 y]
theorem m_fs_at {b : Nat} {μ : mM} {k j f : Nat} {fs : List Nat} (h : fs[j]? = some f) : (fs.mapIdx (fun j f => m_v b μ k j f))[j]? = some (m_v b μ k j f) := by
  simp [List.getElem?_mapIdx, h]
theorem m_fs_set {b : Nat} {μ ν : mM} {k j f g : Nat} {fs : List Nat} (h : fs[j]? = some f) {v : Value} (hv : v = m_v b ν k j g) (ho : ∀ i, i ≠ j → ν.1 k i = μ.1 k i ∧ ν.2 k i = μ.2 k i) :
    (fs.mapIdx (fun j f => m_v b μ k j f)).set j v = (fs.set j g).mapIdx (fun j f => m_v b ν k j f) := by
  have hj : j < fs.length := (List.getElem?_eq_some_iff.mp h).1
  have hj2 : j < (fs.mapIdx (fun j f => m_v b μ k j f)).length := by simpa using hj
  refine List.ext_getElem? fun i => ?_
  by_cases hi : i = j
  · subst hi
    rw [List.getElem?_set_self hj2, List.getElem?_mapIdx, List.getElem?_set_self hj, hv]
    rfl
  · rw [List.getElem?_set_ne (Ne.symm hi), List.getElem?_mapIdx, List.getElem?_mapIdx, List.getElem?_set_ne (Ne.symm hi)]
    cases fs[i]? with
    | none => rfl
    | some y =>
      show some _ = some _
      obtain ⟨e1, e2⟩ := ho i hi
      match y with
      | 0 => simp [m_v, e1]
      | 1 => simp [m_v, e2]
      | 2 => rfl
      | n + 3 => rfl
theorem m_set_same {fs : List Nat} {j f : Nat} (h : fs[j]? = some f) : fs.set j f = fs := by
  refine List.ext_getElem? fun i => ?_
  by_cases hi : i = j
  · subst hi
    rw [List.getElem?_set_self (List.getElem?_eq_some_iff.mp h).1, h]
  · rw [List.getElem?_set_ne (Ne.symm hi)]
-- THE WORLD OF A WALK: A holds the cells that may change
def m_WA (A : Nat → Prop) (D : va_G) (cy : Nat → ClassId) (s : State) (b : Nat) (lay : List mL) (μ : mM) (H : Heap) (locs : List Loc) : Prop :=
  m_K D cy s ∧ va_P D vwCl (m_w cy b lay μ) H ∧ va_S A s.heap H locs ∧ ∀ k, k < lay.length → A (b + k)
/-- a constructor's: all cells from b on -/
abbrev m_W (D : va_G) (cy : Nat → ClassId) (s : State) (b : Nat) (lay : List mL) (μ : mM) (H : Heap) (locs : List Loc) : Prop := m_WA (fun q => b ≤ q) D cy s b lay μ H locs
/-- a method's cells -/
abbrev m_A (b : Nat) (lay : List mL) : Nat → Prop := fun q => b ≤ q ∧ q < b + lay.length
