section MR
variable {p : Program} {l : Launch} {e : Env} {R : Room} {s : State} {m : MethodId} {args : Array Value} {below : List Frame} {meth : Method} {c : Code} {H : Heap} {locs : List Loc} {cells slots : Nat} {Q : State → Prop}
variable {cc : ByteArray} {pc : Nat} {ls : Array Slot} {rest : List Value} {D : va_G} {cy : Nat → ClassId} {b : Nat} {lay : List mL} {μ : mM} {A : Nat → Prop}
/-- a field is read -/
theorem m_get (hx : p.tables.exec = Jvm.exec) (hb : c.code = cc) {own C : String} {T : u_T} {N ci index : Nat} (hts : ∀ w ∈ TB, w.before args s = true) (hown : s.vm.findClass own = some m.cls) (hW : m_WA A D cy s b lay μ H locs) (k j : Nat) {f : Nat} {fs : List Nat} (hk : lay[k]? = some (.inl (ci, fs))) (hf : fs[j]? = some f) (hin : ∀ w ∈ u_ws C T N, w ∈ TB) (hc : vwCl[ci]? = some (C, T, N)) (hj : j < N) (hlink : Cond.fieldLink own index (T j).1 (T j).2.1 (T j).2.2.1 ∈ TB) (hdg : decode cc pc = .ok (.getfield index, 3))
    (kk : W p l e R s m args below meth c H locs cells slots Q (F0 m (pc + 3) ls (m_v b μ k j f :: rest))) : W p l e R s m args below meth c H locs cells slots Q (F0 m pc ls (.ref (b + k) :: rest)) :=
  va_get hx hb hts hin hown hW.1.1 hW.2.1 k (m_w_at hk) hc j hj (hts _ hlink) (fun _ h => h) (m_fs_at hf) hdg kk
/-- a field is written: anything of it -/
theorem m_putG (hx : p.tables.exec = Jvm.exec) (hb : c.code = cc) {own C : String} {T : u_T} {N ci index : Nat} (hts : ∀ w ∈ TB, w.before args s = true) (hown : s.vm.findClass own = some m.cls) (hW : m_WA A D cy s b lay μ H locs) (k j : Nat) {fs : List Value} {lay' : List mL} {ν : mM} (hk : (m_w cy b lay μ)[k]? = some (b + k, .inr (ci, fs))) (hin : ∀ w ∈ u_ws C T N, w ∈ TB) (ty0 : Nat → FieldType) (hty : ∀ k, k < N → parseFieldDescriptor (T k).2.2.1 = some (ty0 k)) (hnm : ∀ a, a < N → ∀ b, b < N → a ≠ b → (T a).2.1 ≠ (T b).2.1) (hc : vwCl[ci]? = some (C, T, N)) (hj : j < N) (hlink : Cond.fieldLink own index (T j).1 (T j).2.1 (T j).2.2.1 ∈ TB) (hfin : (T j).2.2.2 = false ∨ ((T j).2.2.2 = true ∧ meth.name = "<init>" ∧ (T j).1 = own)) {v : Value} (hn : narrow (ty0 j) v = v) (hfit : fits (ty0 j) v = true) (hl : j < fs.length) (hdg : decode cc pc = .ok (.putfield index, 3))
    (hlen : lay'.length = lay.length) (hnew : (m_w cy b lay μ).set k (b + k, .inr (ci, fs.set j v)) = m_w cy b lay' ν)
    (kk : ∀ (H1 : Heap) (locs1 : List Loc), m_WA A D cy s b lay' ν H1 locs1 → H1.size = H.size → W p l e R s m args below meth c H1 locs1 cells slots Q (F0 m (pc + 3) ls rest)) : W p l e R s m args below meth c H locs cells slots Q (F0 m pc ls (v :: .ref (b + k) :: rest)) := by
  obtain ⟨hK, hP, hS0, hA⟩ := hW
  have hkl : k < lay.length := by simpa [m_w] using (List.getElem?_eq_some_iff.mp hk).1
  have hap := va_apart (own := own) hts hin ty0 hty hnm hK.1 hc
  obtain ⟨r, h1, cell, q1, q2, q3, q4⟩ := hP k _ hk
  have hr : r = (C, T, N) := Option.some.inj (h1.symm.trans hc)
  subst hr
  obtain ⟨hS, hfc, kC, hkC, hkind⟩ := hK.1.1 ci _ hc
  obtain ⟨cf, kf, fi, f, hi, hsl⟩ := hS j hj
  have hlay := hts _ (hin _ (u_in_lay hj))
  have hst := (u_facts hfc hkC (u_lays hts hin hj) hi).1
  have fin : ∀ H' : Heap, H'[b + k]? = some (cell.setSlot f.slot v) → H'.size = H.size → (∀ q, q ≠ b + k → H'[q]? = H[q]?) → W p l e R s m args below meth c H' (locs ++ [⟨b + k, f.slot⟩]) cells slots Q (F0 m (pc + 3) ls rest) := by
    intro H' e1 e2 e3
    rw [hsl] at e1 ⊢
    have hP' := hP.set (m_D (cy := cy) (b := b) (lay := lay) (μ := μ)) hk (e := .inr (ci, fs.set j v)) ⟨_, hc, t_OB.to (V := updV (vp_V fs) j v) ⟨_, e1, q2, q3, t_set q4 hap hj v⟩ (fun i _ => vp_updV_set hl v i)⟩ e3
    rw [hnew] at hP'
    exact kk H' _ ⟨hK, hP', hS0.put e2 e3 (hA k hkl), fun i hi => hA i (hlen ▸ hi)⟩ e2
  rcases hfin with hfin | ⟨hfin, hin2, hdecl⟩
  · unfold u_lay at hlay
    rw [if_neg (by rw [hfin]; decide)] at hlay
    have h6 := u_store hfc hkC hkind hlay hi (hty j hj) hn hfit
    exact W.putK hx hb (f := f) ⟨hown, hts _ hlink, ⟨_, _, _, hi⟩, hst⟩ (by rw [q2]; exact h6) q1 q3 (by rw [hsl]; exact k2_hasslot (q4 j hj)) rfl rfl hdg fin
  · unfold u_lay at hlay
    rw [if_pos hfin] at hlay
    have hcf : m.cls = cf := by
      obtain ⟨_, _, c', _, _, _, -, -, hf', -, -, -, hown2, -⟩ := Cond.laysFinal_spec hlay
      have e1 : c' = cf := by have := hi.symm.trans hf'; simp at this; exact this.1.symm
      rw [hdecl] at hown2
      rw [← e1]; exact Option.some.inj (hown.symm.trans hown2)
    have h6 := u_fits hfc hkC hkind (Or.inr hlay) hi (hty j hj) hn hfit
    exact W.putFinK hx hb hown (hts _ hlink) hi hst hcf hin2 (by rw [q2]; exact h6) q1 q3 (by rw [hsl]; exact k2_hasslot (q4 j hj)) rfl rfl hdg fin
/-- an int field (or a boolean one) is written -/
theorem m_puti (hx : p.tables.exec = Jvm.exec) (hb : c.code = cc) {own C : String} {T : u_T} {N ci index : Nat} (hts : ∀ w ∈ TB, w.before args s = true) (hown : s.vm.findClass own = some m.cls) (hW : m_WA A D cy s b lay μ H locs) (k j : Nat) {fs : List Nat} (hk : lay[k]? = some (.inl (ci, fs))) (hf : fs[j]? = some 0) (hin : ∀ w ∈ u_ws C T N, w ∈ TB) {ty0 : Nat → FieldType} (hty : ∀ k, k < N → parseFieldDescriptor (T k).2.2.1 = some (ty0 k)) (hnm : ∀ a, a < N → ∀ b, b < N → a ≠ b → (T a).2.1 ≠ (T b).2.1) (hc : vwCl[ci]? = some (C, T, N)) (hj : j < N) (hlink : Cond.fieldLink own index (T j).1 (T j).2.1 (T j).2.2.1 ∈ TB) (hfin : (T j).2.2.2 = false) {v : Int32} (hn : narrow (ty0 j) (.int v) = .int v) (hfit : fits (ty0 j) (.int v) = true) (hdg : decode cc pc = .ok (.putfield index, 3))
    (kk : ∀ (H1 : Heap) (locs1 : List Loc), m_WA A D cy s b lay (m_si μ k j v) H1 locs1 → H1.size = H.size → W p l e R s m args below meth c H1 locs1 cells slots Q (F0 m (pc + 3) ls rest)) : W p l e R s m args below meth c H locs cells slots Q (F0 m pc ls (.int v :: .ref (b + k) :: rest)) := by
  refine m_putG hx hb hts hown hW k j (m_w_at hk) hin ty0 hty hnm hc hj hlink (Or.inl hfin) hn hfit ?_ hdg rfl ?_ kk
  · simpa using (List.getElem?_eq_some_iff.mp hf).1
  · refine m_w_set (x' := .inl (ci, fs)) hk (fun _ _ => rfl) hk ?_ (fun i hi => ⟨fun j' => by simp [m_si, hi], fun _ => rfl⟩)
    show (Sum.inr (ci, _) : va_E) = Sum.inr (ci, _)
    rw [m_fs_set (ν := m_si μ k j v) (g := 0) hf (by simp [m_v, m_si]) (fun i hi => by simp [m_si, hi]), m_set_same hf]
/-- a long field is written -/
theorem m_putl (hx : p.tables.exec = Jvm.exec) (hb : c.code = cc) {own C : String} {T : u_T} {N ci index : Nat} (hts : ∀ w ∈ TB, w.before args s = true) (hown : s.vm.findClass own = some m.cls) (hW : m_WA A D cy s b lay μ H locs) (k j : Nat) {fs : List Nat} (hk : lay[k]? = some (.inl (ci, fs))) (hf : fs[j]? = some 1) (hin : ∀ w ∈ u_ws C T N, w ∈ TB) {ty0 : Nat → FieldType} (hty : ∀ k, k < N → parseFieldDescriptor (T k).2.2.1 = some (ty0 k)) (hnm : ∀ a, a < N → ∀ b, b < N → a ≠ b → (T a).2.1 ≠ (T b).2.1) (hc : vwCl[ci]? = some (C, T, N)) (hj : j < N) (hlink : Cond.fieldLink own index (T j).1 (T j).2.1 (T j).2.2.1 ∈ TB) (hfin : (T j).2.2.2 = false) {v : Int64} (hn : narrow (ty0 j) (.long v) = .long v) (hfit : fits (ty0 j) (.long v) = true) (hdg : decode cc pc = .ok (.putfield index, 3))
    (kk : ∀ (H1 : Heap) (locs1 : List Loc), m_WA A D cy s b lay (m_sl μ k j v) H1 locs1 → H1.size = H.size → W p l e R s m args below meth c H1 locs1 cells slots Q (F0 m (pc + 3) ls rest)) : W p l e R s m args below meth c H locs cells slots Q (F0 m pc ls (.long v :: .ref (b + k) :: rest)) := by
  refine m_putG hx hb hts hown hW k j (m_w_at hk) hin ty0 hty hnm hc hj hlink (Or.inl hfin) hn hfit ?_ hdg rfl ?_ kk
  · simpa using (List.getElem?_eq_some_iff.mp hf).1
  · refine m_w_set (x' := .inl (ci, fs)) hk (fun _ _ => rfl) hk ?_ (fun i hi => ⟨fun _ => rfl, fun j' => by simp [m_sl, hi]⟩)
    show (Sum.inr (ci, _) : va_E) = Sum.inr (ci, _)
    rw [m_fs_set (ν := m_sl μ k j v) (g := 1) hf (by simp [m_v, m_sl]) (fun i hi => by simp [m_sl, hi]), m_set_same hf]
/-- a final reference is set, in a constructor -/
theorem m_putr (hx : p.tables.exec = Jvm.exec) (hb : c.code = cc) {own C : String} {T : u_T} {N ci index : Nat} (hts : ∀ w ∈ TB, w.before args s = true) (hown : s.vm.findClass own = some m.cls) (hW : m_WA A D cy s b lay μ H locs) (k j n : Nat) {fs : List Nat} (hk : lay[k]? = some (.inl (ci, fs))) (hf : fs[j]? = some 2) (hin : ∀ w ∈ u_ws C T N, w ∈ TB) {ty0 : Nat → FieldType} (hty : ∀ k, k < N → parseFieldDescriptor (T k).2.2.1 = some (ty0 k)) (hnm : ∀ a, a < N → ∀ b, b < N → a ≠ b → (T a).2.1 ≠ (T b).2.1) (hc : vwCl[ci]? = some (C, T, N)) (hj : j < N) (hlink : Cond.fieldLink own index (T j).1 (T j).2.1 (T j).2.2.1 ∈ TB) (hfin : (T j).2.2.2 = true ∧ meth.name = "<init>" ∧ (T j).1 = own) (hn : narrow (ty0 j) (.ref (b + n)) = .ref (b + n)) (hfit : fits (ty0 j) (.ref (b + n)) = true) {lay' : List mL} (hlay : lay.set k (.inl (ci, fs.set j (n + 3))) = lay') (hdg : decode cc pc = .ok (.putfield index, 3))
    (kk : ∀ (H1 : Heap) (locs1 : List Loc), m_WA A D cy s b lay' μ H1 locs1 → H1.size = H.size → W p l e R s m args below meth c H1 locs1 cells slots Q (F0 m (pc + 3) ls rest)) : W p l e R s m args below meth c H locs cells slots Q (F0 m pc ls (.ref (b + n) :: .ref (b + k) :: rest)) := by
  have hkl := (List.getElem?_eq_some_iff.mp hk).1
  refine m_putG hx hb hts hown hW k j (m_w_at hk) hin ty0 hty hnm hc hj hlink (Or.inr hfin) hn hfit ?_ hdg (by rw [← hlay]; simp) ?_ kk
  · simpa using (List.getElem?_eq_some_iff.mp hf).1
  · refine m_w_set (x' := .inl (ci, fs.set j (n + 3))) hk (fun i hi => by rw [← hlay, List.getElem?_set_ne (Ne.symm hi)]) (by rw [← hlay, List.getElem?_set_self hkl]) ?_ (fun i hi => ⟨fun _ => rfl, fun _ => rfl⟩)
    show (Sum.inr (ci, _) : va_E) = Sum.inr (ci, _)
    rw [m_fs_set (ν := μ) (g := n + 3) hf (by simp [m_v]) (fun i hi => ⟨rfl, rfl⟩)]
-- arrays
theorem m_iald (hx : p.tables.exec = Jvm.exec) (hb : c.code = cc) (hW : m_WA A D cy s b lay μ H locs) (k : Nat) {n : Nat} {rs : List Nat} (hk : lay[k]? = some (.inr (0, n, rs))) {i : Int32} (hin : vp_in i n) (hdg : decode cc pc = .ok (.iaload, 1))
    (kk : W p l e R s m args below meth c H locs cells slots Q (F0 m (pc + 1) ls (.int (μ.1 k i.toNatClampNeg) :: rest))) : W p l e R s m args below meth c H locs cells slots Q (F0 m pc ls (.int i :: .ref (b + k) :: rest)) :=
  va_iald hx hb hW.1.1 hW.2.1 k 0 (m_w_at hk) rfl hin hdg kk
theorem m_zald (hx : p.tables.exec = Jvm.exec) (hb : c.code = cc) (hW : m_WA A D cy s b lay μ H locs) (k : Nat) {n : Nat} {rs : List Nat} (hk : lay[k]? = some (.inr (1, n, rs))) {i : Int32} (hin : vp_in i n) (hdg : decode cc pc = .ok (.baload, 1))
    (kk : W p l e R s m args below meth c H locs cells slots Q (F0 m (pc + 1) ls (.int (μ.1 k i.toNatClampNeg) :: rest))) : W p l e R s m args below meth c H locs cells slots Q (F0 m pc ls (.int i :: .ref (b + k) :: rest)) :=
  va_zald hx hb hW.1.1 hW.2.1 k 1 (m_w_at hk) rfl hin hdg kk
theorem m_lald (hx : p.tables.exec = Jvm.exec) (hb : c.code = cc) (hW : m_WA A D cy s b lay μ H locs) (k : Nat) {n : Nat} {rs : List Nat} (hk : lay[k]? = some (.inr (2, n, rs))) {i : Int32} (hin : vp_in i n) (hdg : decode cc pc = .ok (.laload, 1))
    (kk : W p l e R s m args below meth c H locs cells slots Q (F0 m (pc + 1) ls (.long (μ.2 k i.toNatClampNeg) :: rest))) : W p l e R s m args below meth c H locs cells slots Q (F0 m pc ls (.int i :: .ref (b + k) :: rest)) :=
  va_lald hx hb hW.1.1 hW.2.1 k 2 (m_w_at hk) rfl hin hdg kk
theorem m_aald (hx : p.tables.exec = Jvm.exec) (hb : c.code = cc) (hW : m_WA A D cy s b lay μ H locs) (k : Nat) {n q : Nat} {rs : List Nat} (hk : lay[k]? = some (.inr (3, n, rs))) {i : Int32} (hin : vp_in i n) (hq : rs[i.toNatClampNeg]? = some q) (hdg : decode cc pc = .ok (.aaload, 1))
    (kk : W p l e R s m args below meth c H locs cells slots Q (F0 m (pc + 1) ls (.ref (b + q) :: rest))) : W p l e R s m args below meth c H locs cells slots Q (F0 m pc ls (.int i :: .ref (b + k) :: rest)) :=
  va_aldq hx hb hW.1.1 hW.2.1 k 3 (m_w_at hk) rfl hin hdg (by rw [hq]; exact kk)
theorem m_alen (hx : p.tables.exec = Jvm.exec) (hb : c.code = cc) (hW : m_WA A D cy s b lay μ H locs) (k : Nat) {a n : Nat} {rs : List Nat} (hk : lay[k]? = some (.inr (a, n, rs))) (hdg : decode cc pc = .ok (.arraylength, 1))
    (kk : W p l e R s m args below meth c H locs cells slots Q (F0 m (pc + 1) ls (.int (nI n) :: rest))) : W p l e R s m args below meth c H locs cells slots Q (F0 m pc ls (.ref (b + k) :: rest)) := by
  match a, hk with
  | 0, hk => exact va_alen hx hb hW.1.1 hW.2.1 k 0 (m_w_at hk) (ty := .int) rfl rfl hdg kk
  | 1, hk => exact va_alen hx hb hW.1.1 hW.2.1 k 1 (m_w_at hk) (ty := .boolean) rfl rfl hdg kk
  | 2, hk => exact va_alen hx hb hW.1.1 hW.2.1 k 2 (m_w_at hk) (ty := .long) rfl rfl hdg kk
  | a + 3, hk => exact va_alen hx hb hW.1.1 hW.2.1 k 3 (m_w_at hk) (ty := .object "BeamPlate$Row") rfl rfl hdg kk
theorem m_iast (hx : p.tables.exec = Jvm.exec) (hb : c.code = cc) (hW : m_WA A D cy s b lay μ H locs) (k : Nat) {n : Nat} {rs : List Nat} (hk : lay[k]? = some (.inr (0, n, rs))) {i x : Int32} (hin : vp_in i n) (hdg : decode cc pc = .ok (.iastore, 1))
    (kk : ∀ (H1 : Heap) (locs1 : List Loc), m_WA A D cy s b lay (m_si μ k i.toNatClampNeg x) H1 locs1 → H1.size = H.size → W p l e R s m args below meth c H1 locs1 cells slots Q (F0 m (pc + 1) ls rest)) : W p l e R s m args below meth c H locs cells slots Q (F0 m pc ls (.int x :: .int i :: .ref (b + k) :: rest)) := by
  obtain ⟨hK, hP, hS, hA⟩ := hW
  have hkl := (List.getElem?_eq_some_iff.mp hk).1
  have ha := m_w_at (cy := cy) (b := b) (μ := μ) hk
  refine W.iast hx hb (hP k _ ha) ((hK.1.2 0 _ rfl).1 n (fun j => .int (μ.1 k j))) (fun q => by cases q) (by show ¬ (i < 0 ∨ (arrV _ _ _).slots.size ≤ _); rw [arrV_size]; exact hin) rfl rfl hdg fun H1 e z oq => ?_
  have hP' := hP.set (m_D (cy := cy) (b := b) (lay := lay) (μ := μ)) ha (e := m_e cy b (m_si μ k i.toNatClampNeg x) k (.inr (0, n, rs))) (by
    show H1[b + k]? = some (vp_cell _ _)
    rw [e]
    rw [vp_cell_i, vp_cell_i, arrV_store]
    congr 2
    funext q
    by_cases hq : q = i.toNatClampNeg
    · subst hq
      simp [updV, m_si]
    · simp [updV, m_si, hq]) oq
  rw [m_w_set (lay' := lay) (μ := μ) (ν := m_si μ k i.toNatClampNeg x) (x' := .inr (0, n, rs)) hk (fun _ _ => rfl) hk rfl (fun i hi => ⟨fun j' => by simp [m_si, hi], fun _ => rfl⟩)] at hP'
  exact kk H1 _ ⟨hK, hP', hS.put z oq (hA k hkl), hA⟩ z
theorem m_zast (hx : p.tables.exec = Jvm.exec) (hb : c.code = cc) (hW : m_WA A D cy s b lay μ H locs) (k : Nat) {n : Nat} {rs : List Nat} (hk : lay[k]? = some (.inr (1, n, rs))) {i x : Int32} (hin : vp_in i n) (hz : narrow .boolean (.int x) = .int x) (hdg : decode cc pc = .ok (.bastore, 1))
    (kk : ∀ (H1 : Heap) (locs1 : List Loc), m_WA A D cy s b lay (m_si μ k i.toNatClampNeg x) H1 locs1 → H1.size = H.size → W p l e R s m args below meth c H1 locs1 cells slots Q (F0 m (pc + 1) ls rest)) : W p l e R s m args below meth c H locs cells slots Q (F0 m pc ls (.int x :: .int i :: .ref (b + k) :: rest)) := by
  obtain ⟨hK, hP, hS, hA⟩ := hW
  have hkl := (List.getElem?_eq_some_iff.mp hk).1
  have ha := m_w_at (cy := cy) (b := b) (μ := μ) hk
  refine W.zast hx hb (hP k _ ha) ((hK.1.2 1 _ rfl).1 n (fun j => .int (μ.1 k j))) (fun q => by cases q) (by show ¬ (i < 0 ∨ (arrV _ _ _).slots.size ≤ _); rw [arrV_size]; exact hin) rfl rfl hdg fun H1 e z oq => ?_
  have hP' := hP.set (m_D (cy := cy) (b := b) (lay := lay) (μ := μ)) ha (e := m_e cy b (m_si μ k i.toNatClampNeg x) k (.inr (1, n, rs))) (by
    show H1[b + k]? = some (vp_cell _ _)
    rw [e, hz]
    rw [vp_cell_i, vp_cell_i, arrV_store]
    congr 2
    funext q
    by_cases hq : q = i.toNatClampNeg
    · subst hq
      simp [updV, m_si]
    · simp [updV, m_si, hq]) oq
  rw [m_w_set (lay' := lay) (μ := μ) (ν := m_si μ k i.toNatClampNeg x) (x' := .inr (1, n, rs)) hk (fun _ _ => rfl) hk rfl (fun i hi => ⟨fun j' => by simp [m_si, hi], fun _ => rfl⟩)] at hP'
  exact kk H1 _ ⟨hK, hP', hS.put z oq (hA k hkl), hA⟩ z
theorem m_last (hx : p.tables.exec = Jvm.exec) (hb : c.code = cc) (hW : m_WA A D cy s b lay μ H locs) (k : Nat) {n : Nat} {rs : List Nat} (hk : lay[k]? = some (.inr (2, n, rs))) {i : Int32} {x : Int64} (hin : vp_in i n) (hdg : decode cc pc = .ok (.lastore, 1))
    (kk : ∀ (H1 : Heap) (locs1 : List Loc), m_WA A D cy s b lay (m_sl μ k i.toNatClampNeg x) H1 locs1 → H1.size = H.size → W p l e R s m args below meth c H1 locs1 cells slots Q (F0 m (pc + 1) ls rest)) : W p l e R s m args below meth c H locs cells slots Q (F0 m pc ls (.long x :: .int i :: .ref (b + k) :: rest)) := by
  obtain ⟨hK, hP, hS, hA⟩ := hW
  have hkl := (List.getElem?_eq_some_iff.mp hk).1
  have ha := m_w_at (cy := cy) (b := b) (μ := μ) hk
  refine W.last hx hb (hP k _ ha) ((hK.1.2 2 _ rfl).1 n (fun j => .long (μ.2 k j))) (fun q => by cases q) (by show ¬ (i < 0 ∨ (arrV _ _ _).slots.size ≤ _); rw [arrV_size]; exact hin) rfl rfl hdg fun H1 e z oq => ?_
  have hP' := hP.set (m_D (cy := cy) (b := b) (lay := lay) (μ := μ)) ha (e := m_e cy b (m_sl μ k i.toNatClampNeg x) k (.inr (2, n, rs))) (by
    show H1[b + k]? = some (vp_cell _ _)
    rw [e]
    rw [vp_cell_l, vp_cell_l, arrV_store]
    congr 2
    funext q
    by_cases hq : q = i.toNatClampNeg
    · subst hq
      simp [updV, m_sl]
    · simp [updV, m_sl, hq]) oq
  rw [m_w_set (lay' := lay) (μ := μ) (ν := m_sl μ k i.toNatClampNeg x) (x' := .inr (2, n, rs)) hk (fun _ _ => rfl) hk rfl (fun i hi => ⟨fun _ => rfl, fun j' => by simp [m_sl, hi]⟩)] at hP'
  exact kk H1 _ ⟨hK, hP', hS.put z oq (hA k hkl), hA⟩ z
/-- a Row is put into an array of Rows, at the first free place -/
theorem m_aast (hx : p.tables.exec = Jvm.exec) (hb : c.code = cc) (hW : m_WA A D cy s b lay μ H locs) (k q : Nat) {n : Nat} {rs fs : List Nat} (hk : lay[k]? = some (.inr (3, n, rs))) (hq : lay[q]? = some (.inl (5, fs))) {i : Int32} (hin : vp_in i n) (hi : i.toNatClampNeg = rs.length) {lay' : List mL} (hlay : lay.set k (.inr (3, n, rs ++ [q])) = lay') (hdg : decode cc pc = .ok (.aastore, 1))
    (kk : ∀ (H1 : Heap) (locs1 : List Loc), m_WA A D cy s b lay' μ H1 locs1 → H1.size = H.size → W p l e R s m args below meth c H1 locs1 cells slots Q (F0 m (pc + 1) ls rest)) : W p l e R s m args below meth c H locs cells slots Q (F0 m pc ls (.ref (b + q) :: .int i :: .ref (b + k) :: rest)) := by
  obtain ⟨hK, hP, hS, hA⟩ := hW
  have hkl := (List.getElem?_eq_some_iff.mp hk).1
  have ha := m_w_at (cy := cy) (b := b) (μ := μ) hk
  have hv := m_w_at (cy := cy) (b := b) (μ := μ) hq
  have hlt : i.toNatClampNeg < n := Nat.not_le.mp fun q => hin (Or.inr q)
  have h0 : ¬ i < 0 := fun q => hin (Or.inl q)
  obtain ⟨r', hr', cellV, g1, g2, g3, -⟩ := hP q _ hv
  have hcls := (hK.1.1 5 (RX5, TX5, 2) rfl).2
  obtain ⟨kA, comp, k1, k2, k3, -⟩ := (hK.1.2 3 _ rfl).2
  have hcomp : comp = D.1 5 := Option.some.inj (k3.symm.trans hcls.1)
  subst hcomp
  obtain ⟨kC, hkC, -⟩ := hcls.2
  refine W.aast hx hb (hP k _ ha) (fun q h => by cases h) (fun h => by cases h) k1 k2 rfl hkC ⟨h0, by show _ < (arrV _ _ _).slots.size; rw [arrV_size]; exact hlt⟩ g1 (fun q h => by rw [g3] at h; cases h) (by rw [g2]; exact hkC) (by rw [g2]; exact va_assign hcls) rfl rfl hdg fun H1 e z oq => ?_
  have hP' := hP.set (m_D (cy := cy) (b := b) (lay := lay) (μ := μ)) ha (e := m_e cy b μ k (.inr (3, n, rs ++ [q]))) (by
    show H1[b + k]? = some (vp_cell _ _)
    rw [e]
    rw [vp_cell_q, vp_cell_q, arrV_store]
    congr 2
    funext j
    by_cases hj : j = i.toNatClampNeg
    · subst hj
      simp [updV, va_rf, hi]
    · have hj2 : j ≠ rs.length := by rw [← hi]; exact hj
      have : (rs ++ [q])[j]? = rs[j]? := by
        by_cases hl : j < rs.length
        · rw [List.getElem?_append_left hl]
        · rw [List.getElem?_eq_none (by simp; omega), List.getElem?_eq_none (by omega)]
      simp [updV, hj, this]) oq
  rw [m_w_set (lay' := lay') (μ := μ) (ν := μ) (x' := .inr (3, n, rs ++ [q])) hk (fun i hi => by rw [← hlay, List.getElem?_set_ne (Ne.symm hi)]) (by rw [← hlay, List.getElem?_set_self hkl]) rfl (fun i hi => ⟨fun _ => rfl, fun _ => rfl⟩)] at hP'
  exact kk H1 _ ⟨hK, hP', hS.put z oq (hA k hkl), fun i hi => hA i (by rw [← hlay, List.length_set] at hi; exact hi)⟩ z
-- new cells: the next place
theorem m_w_push {lay : List mL} {μ ν : mM} {x : mL} (h : ∀ k, k < lay.length → (∀ j, ν.1 k j = μ.1 k j) ∧ ∀ j, ν.2 k j = μ.2 k j) : m_w cy b (lay ++ [x]) ν = m_w cy b lay μ ++ [(b + lay.length, m_e cy b ν lay.length x)] := by
  refine List.ext_getElem? fun i => ?_
  by_cases hi : i < lay.length
  · rw [List.getElem?_append_left (by simpa [m_w] using hi)]
    simp only [m_w, List.getElem?_mapIdx, List.getElem?_append_left hi]
    cases lay[i]? with
    | none => rfl
    | some y =>
      show some (b + i, m_e cy b ν i y) = some (b + i, m_e cy b μ i y)
      rw [m_e_cong (h i hi).1 (h i hi).2 y]
  · by_cases hj : i = lay.length
    · subst hj
      have e1 : (m_w cy b lay μ).length = lay.length := by simp [m_w]
      rw [List.getElem?_append_right (by rw [e1]; exact Nat.le_refl _), e1, Nat.sub_self]
      simp [m_w, List.getElem?_mapIdx]
    · rw [List.getElem?_eq_none (by simp [m_w]; omega), List.getElem?_eq_none (by simp [m_w]; omega)]
theorem m_push {lay : List mL} {μ : mM} {x : mL} {H1 : Heap} (hW : m_W D cy s b lay μ H locs) (hz : H.size = b + lay.length) (hA : m_e cy b (m_z μ lay.length) lay.length x = m_e cy b (m_z μ lay.length) lay.length x) (he : va_at D vwCl (b + lay.length, m_e cy b (m_z μ lay.length) lay.length x) H1) (z1 : H1.size = H.size + 1) (o1 : ∀ q, q < H.size → H1[q]? = H[q]?) : m_W D cy s b (lay ++ [x]) (m_z μ lay.length) H1 locs := by
  obtain ⟨hK, hP, hS, hA⟩ := hW
  refine ⟨hK, ?_, ⟨Nat.le_trans hS.1 (by omega), fun q h1 h2 => (o1 q (Nat.lt_of_lt_of_le h1 hS.1)).trans (hS.2.1 q h1 h2), hS.2.2⟩, fun k _ => Nat.le_add_right b k⟩
  rw [m_w_push (μ := μ) (fun k hk => ⟨fun j => by simp [m_z, Nat.ne_of_lt hk], fun j => by simp [m_z, Nat.ne_of_lt hk]⟩)]
  refine (hP.kept fun k q hq => o1 q.1 ((hP k q hq).lt)).app fun k q hq => ?_
  have hk0 : k < 1 := (List.getElem?_eq_some_iff.mp hq).1
  rw [show k = 0 by omega] at hq
  cases hq
  exact he
theorem m_newa (hx : p.tables.exec = Jvm.exec) (hb : c.code = cc) (hts : ∀ w ∈ TB, w.before args s = true) (hW : m_W D cy s b lay μ H locs) (hz : H.size = b + lay.length) (a : Nat) {atype : ArrayType} (harr : Cond.arrayClass (newarray.typeOf atype) ∈ TB) (hty : (a = 0 ∧ atype = .int) ∨ (a = 1 ∧ atype = .boolean) ∨ (a = 2 ∧ atype = .long)) {n : Int32} {N : Nat} (hn : ¬ n < 0) (hN : n.toNatClampNeg = N) (hbytes : N * 8 ≤ 536870912) (hcells : cells + 1 ≤ R.cells) (hslots : slots + N ≤ R.slots) (hdg : decode cc pc = .ok (.newarray atype, 2))
    (kk : ∀ (H1 : Heap), m_W D cy s b (lay ++ [.inr (a, N, [])]) (m_z μ lay.length) H1 locs → H1.size = b + (lay ++ [(.inr (a, N, []) : mL)]).length → W p l e R s m args below meth c H1 locs (cells + 1) (slots + N) Q (F0 m (pc + 2) ls (.ref (b + lay.length) :: rest))) : W p l e R s m args below meth c H locs cells slots Q (F0 m pc ls (.int n :: rest)) := by
  have hbt : ∀ t, componentBytes t ≤ 8 → N * componentBytes t ≤ 536870912 := fun t h => Nat.le_trans (Nat.mul_le_mul_left N h) hbytes
  have key : ∀ (H1 : Heap) (cA : ClassId), H1[b + lay.length]? = some (arrV cA N (fun _ => defaultValue (newarray.typeOf atype))) → H1.size = b + lay.length + 1 → (∀ q, q < b + lay.length → H1[q]? = H[q]?) → s.vm.findClass ("[" ++ (newarray.typeOf atype).toString) = some cA → W p l e R s m args below meth c H1 locs (cells + 1) (slots + N) Q (F0 m (pc + 2) ls (.ref (b + lay.length) :: rest)) := by
    intro H1 cA e1 z1 o1 hf
    refine kk H1 (m_push hW hz rfl ?_ (by rw [hz]; exact z1) (by rw [hz]; exact o1)) (by rw [z1]; simp; omega)
    rcases hty with ⟨rfl, rfl⟩ | ⟨rfl, rfl⟩ | ⟨rfl, rfl⟩
    · have hc : cA = cy 0 := Option.some.inj (hf.symm.trans (hW.1.1.2 0 _ rfl).2)
      subst hc
      show H1[b + lay.length]? = some (vp_cell _ _)
      rw [vp_cell_i, e1]
      simp [m_z]; rfl
    · have hc : cA = cy 1 := Option.some.inj (hf.symm.trans (hW.1.1.2 1 _ rfl).2)
      subst hc
      show H1[b + lay.length]? = some (vp_cell _ _)
      rw [vp_cell_i, e1]
      simp [m_z]; rfl
    · have hc : cA = cy 2 := Option.some.inj (hf.symm.trans (hW.1.1.2 2 _ rfl).2)
      subst hc
      show H1[b + lay.length]? = some (vp_cell _ _)
      rw [vp_cell_l, e1]
      simp [m_z]; rfl
  refine va_newaK hx hb (hts _ harr) rfl hdg rfl hn hN (hbt _ ?_) hcells hslots hz fun H1 cA e1 z1 o1 _ hf => key H1 cA e1 z1 o1 hf
  rcases hty with ⟨-, rfl⟩ | ⟨-, rfl⟩ | ⟨-, rfl⟩ <;> decide
theorem m_newq (hx : p.tables.exec = Jvm.exec) (hb : c.code = cc) (hts : ∀ w ∈ TB, w.before args s = true) {own : String} {index : Nat} (hown : s.vm.findClass own = some m.cls) (hW : m_W D cy s b lay μ H locs) (hz : H.size = b + lay.length) (hcl : Cond.classLink own index "BeamPlate$Row" ∈ TB) {n : Int32} {N : Nat} (hn : ¬ n < 0) (hN : n.toNatClampNeg = N) (hbytes : N * 4 ≤ 536870912) (hcells : cells + 1 ≤ R.cells) (hslots : slots + N ≤ R.slots) (hdg : decode cc pc = .ok (.anewarray index, 3))
    (kk : ∀ (H1 : Heap), m_W D cy s b (lay ++ [.inr (3, N, [])]) (m_z μ lay.length) H1 locs → H1.size = b + (lay ++ [(.inr (3, N, []) : mL)]).length → W p l e R s m args below meth c H1 locs (cells + 1) (slots + N) Q (F0 m (pc + 3) ls (.ref (b + lay.length) :: rest))) : W p l e R s m args below meth c H locs cells slots Q (F0 m pc ls (.int n :: rest)) := by
  subst hN
  refine W.anew hx hb hown (hts _ hcl) (va_AO.use hW.1.2.2) rfl hdg rfl hn hbytes hcells hslots fun cA kA comp f1 f2 f3 f4 => ?_
  generalize hH1 : H.push ({ cls := cA, slots := Array.replicate n.toNatClampNeg .null, vm := .none } : Cell) = H1
  have z1 : H1.size = H.size + 1 := by rw [← hH1, Array.size_push]
  have e1 : H1[H.size]? = some (arrV cA n.toNatClampNeg (fun _ => .null)) := by rw [← hH1, Array.getElem?_push_size, ← arrV_new]
  have o1 : ∀ q : Nat, q < H.size → H1[q]? = H[q]? := fun q hq => by rw [← hH1, Array.getElem?_push, if_neg (Nat.ne_of_lt hq)]
  have hc : cA = cy 3 := by
    obtain ⟨_, _, _, _, _, g4⟩ := (hW.1.1.2 3 _ rfl).2
    exact Option.some.inj (f1.symm.trans g4)
  subst hc
  rw [hz] at e1
  have hk := kk H1 (m_push hW hz rfl (by
    show H1[b + lay.length]? = some (vp_cell _ _)
    rw [vp_cell_q, e1]
    simp [va_rf]) z1 o1) (by rw [z1, hz]; simp; omega)
  show W p l e R s m args below meth c H1 locs (cells + 1) (slots + n.toNatClampNeg) Q (F0 m (pc + 3) ls (.ref H.size :: rest))
  rw [hz]
  exact hk
theorem m_new (hx : p.tables.exec = Jvm.exec) (hb : c.code = cc) (hts : ∀ w ∈ TB, w.before args s = true) {own C : String} {T : u_T} {N ci index : Nat} (hown : s.vm.findClass own = some m.cls) (hW : m_W D cy s b lay μ H locs) (hz : H.size = b + lay.length) (hin : ∀ w ∈ u_ws C T N, w ∈ TB) {ty0 : Nat → FieldType} (hty : ∀ k, k < N → parseFieldDescriptor (T k).2.2.1 = some (ty0 k)) (hcl : Cond.classLink own index C ∈ TB) (hinst : Cond.instantiable C N ∈ TB) (hini : Cond.initialized C ∈ TB) (hc : vwCl[ci]? = some (C, T, N)) (fs : List Nat) (hfs : ∀ j, j < N → defaultValue (ty0 j) = vp_V (fs.mapIdx (fun j f => m_v b (m_z μ lay.length) lay.length j f)) j) (hcells : cells + 1 ≤ R.cells) (hslots : slots + N ≤ R.slots) (hdg : decode cc pc = .ok (.new index, 3))
    (kk : ∀ (H1 : Heap), m_W D cy s b (lay ++ [.inl (ci, fs)]) (m_z μ lay.length) H1 locs → H1.size = b + (lay ++ [(.inl (ci, fs) : mL)]).length → W p l e R s m args below meth c H1 locs (cells + 1) (slots + N) Q (F0 m (pc + 3) ls (.ref (b + lay.length) :: rest))) : W p l e R s m args below meth c H locs cells slots Q (F0 m pc ls rest) := by
  have hKn := hW.1.1.1 ci _ hc
  refine W.newcK hx hb hown (hts _ hcl) (hts _ hinst) (hts _ hini) rfl hdg hcells hslots hKn.2.1 hz fun H1 kC hkC e1 z1 o1 => ?_
  refine kk H1 (m_push hW hz rfl ⟨_, hc, (u_born ty0 hts hin hKn hkC e1 hty).to hfs⟩ (by rw [hz]; exact z1) (by rw [hz]; exact o1)) (by rw [z1]; simp; omega)
end MR
