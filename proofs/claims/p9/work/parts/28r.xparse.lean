-- THE CLASS'S PARSER
def m_XT (μ : mM) (f : Nat → Int32) (n cn : Nat) : Prop := m_TD (μ.1 32) (μ.1 34) (μ.1 36) f n cn ∧ (μ.1 31 1).toInt = cn + 1 ∧ (μ.1 33 1).toInt = cn + 1 ∧ (μ.1 35 1).toInt = cn + 1 ∧ n ≤ 400
def m_XS (μ : mM) (f : Nat → Int32) (n cn i : Nat) : Prop := μ.1 27 1 = 0 ∧ (μ.1 27 4).toInt = i ∧ (μ.1 27 5).toInt = t_K f n i ∧ i ≤ cn ∧ μ.1 27 2 = -1
def m_XE (μ : mM) (e : Int × Int) : Prop := (μ.1 27 1).toInt = e.1 ∧ e.1 ≠ 0 ∧ (μ.1 27 2).toInt = e.2 ∧ μ.1 27 5 = 0
theorem m_XT.fr {S : Nat → Bool} {μ ν : mM} {f : Nat → Int32} {n cn : Nat} (h : m_XT μ f n cn) (hJ : IY S μ ν) (h1 : S 11 = false) (h2 : S 15 = false) (h3 : S 16 = false) : m_XT ν f n cn := by
  unfold m_XT
  rw [show ν.1 32 = μ.1 32 from funext fun j => hJ.2.1 32 j h1, show ν.1 34 = μ.1 34 from funext fun j => hJ.2.1 34 j h2, show ν.1 36 = μ.1 36 from funext fun j => hJ.2.1 36 j h3, show ν.1 31 1 = μ.1 31 1 from hJ.2.1 31 1 h1, show ν.1 33 1 = μ.1 33 1 from hJ.2.1 33 1 h2, show ν.1 35 1 = μ.1 35 1 from hJ.2.1 35 1 h3]
  exact h
theorem m_XT.si {μ ν : mM} {f : Nat → Int32} {n cn : Nat} (h : m_XT μ f n cn) {k j : Nat} {v : Int32} (e : m_si μ k j v = ν) (hk : k ≠ 31 ∧ k ≠ 32 ∧ k ≠ 33 ∧ k ≠ 34 ∧ k ≠ 35 ∧ k ≠ 36) : m_XT ν f n cn := by
  subst e
  unfold m_XT
  rw [m_si_row (P := 32) (by omega), m_si_row (P := 34) (by omega), m_si_row (P := 36) (by omega), m_si_ne (k := 31) (by omega), m_si_ne (k := 33) (by omega), m_si_ne (k := 35) (by omega)]
  exact h
theorem m_XT.k4 {μ : mM} {f : Nat → Int32} {n cn : Nat} (h : m_XT μ f n cn) : ∀ j, 400 ≤ j → t_K f n j = 1 := t_K4 h.2.2.2.2
theorem m_XT.lt {μ : mM} {f : Nat → Int32} {n cn i : Nat} (h : m_XT μ f n cn) (hi : i ≤ cn) (hk : t_K f n i ≠ 1) : i + 1 ≤ cn := by
  by_cases q : i = cn
  · subst q
    exact absurd h.1.2.1 hk
  · omega
def m_OS (fr : Nat → Int32) : Nat → List Bool → Prop
  | N, [] => N = 0
  | N, b :: sl => ∃ k, N = k + 1 ∧ (fr k).toInt = (if b = true then 15 else 16) ∧ m_OS fr k sl
theorem m_OS.cg {fr gr : Nat → Int32} : ∀ {N : Nat} {sl : List Bool}, m_OS fr N sl → (∀ e, e < N → gr e = fr e) → m_OS gr N sl
  | _, [], h, _ => h
  | _, _ :: _, ⟨k, h1, h2, h3⟩, hg => ⟨k, h1, by rw [hg k (by omega)]; exact h2, h3.cg (fun e he => hg e (by omega))⟩
theorem m_OS.len {fr : Nat → Int32} : ∀ {N : Nat} {sl : List Bool}, m_OS fr N sl → sl.length = N
  | _, [], h => h.symm
  | _, _ :: sl, ⟨k, h1, _, h3⟩ => by
    have := h3.len
    show sl.length + 1 = _
    omega
def m_SO (μ : mM) (sl : List Bool) : Prop := m_OS (μ.1 38) (μ.1 37 1).toNatClampNeg sl
theorem m_SO.cg {μ ν : mM} {sl : List Bool} (h : m_SO μ sl) (h1 : ν.1 38 = μ.1 38) (h2 : ν.1 37 1 = μ.1 37 1) : m_SO ν sl := by
  unfold m_SO
  rw [h1, h2]
  exact h
theorem m_SO.fr {S : Nat → Bool} {μ ν : mM} {sl : List Bool} (h : m_SO μ sl) (hJ : IY S μ ν) (h1 : S 13 = false) : m_SO ν sl := h.cg (funext fun j => hJ.2.1 38 j h1) (hJ.2.1 37 1 h1)
theorem m_SO.si {μ ν : mM} {sl : List Bool} (h : m_SO μ sl) {k j : Nat} {v : Int32} (e : m_si μ k j v = ν) (h1 : 38 ≠ k) (h2 : 37 ≠ k) : m_SO ν sl := by
  subst e
  exact h.cg (m_si_row h1) (m_si_ne h2)
theorem m_SO.len {μ : mM} {sl : List Bool} {nv : Int32} (h : m_SO μ sl) (hn : μ.1 37 1 = nv) (h0 : 0 ≤ nv.toInt) : (sl.length : Int) = nv.toInt := by
  unfold m_SO at h
  have := h.len
  rw [hn] at this
  have := m_ckI h0
  omega
theorem m_SO.push {μ ν : mM} {sl : List Bool} {nv x : Int32} {b : Bool} (h : m_SO μ sl) (hn : μ.1 37 1 = nv) (h0 : 0 ≤ nv.toInt) (h1 : (ν.1 37 1).toInt = nv.toInt + 1) (h2 : ν.1 38 = m_up (μ.1 38) nv.toNatClampNeg x) (hx : x.toInt = if b = true then 15 else 16) : m_SO ν (b :: sl) := by
  unfold m_SO at h ⊢
  rw [hn] at h
  rw [h2, m_cl1 h1 h0]
  exact ⟨_, rfl, by rw [m_up_at]; exact hx, h.cg (fun e he => m_up_ne (by omega))⟩
theorem m_SO.pop {μ ν : mM} {b : Bool} {sl : List Bool} {nv : Int32} (h : m_SO μ (b :: sl)) (hn : μ.1 37 1 = nv) (h1 : (ν.1 37 1).toInt = max 0 (nv.toInt - 1)) (h2 : ν.1 38 = μ.1 38) (h0 : 0 ≤ nv.toInt) : m_SO ν sl := by
  have hl := h.len hn h0
  simp only [List.length_cons] at hl
  unfold m_SO at h ⊢
  rw [hn] at h
  obtain ⟨k, e1, _, e3⟩ := h
  have c0 := m_ckI h0
  have c1 := m_ckI (x := ν.1 37 1) (by omega)
  rw [h2, show (ν.1 37 1).toNatClampNeg = k from by omega]
  exact e3
/-- the innermost one, as innermost() tells it -/
theorem m_SO.top {μ : mM} {sl : List Bool} {nv r : Int32} (h : m_SO μ sl) (hn : μ.1 37 1 = nv) (h0 : 0 ≤ nv.toInt) (hr : (1 ≤ nv.toInt ∧ r = μ.1 38 (nv.toNatClampNeg - 1)) ∨ (nv.toInt ≤ 0 ∧ r = -1)) : (sl = [] ∧ r.toInt = -1) ∨ (∃ t, sl = true :: t ∧ r.toInt = 15) ∨ (∃ t, sl = false :: t ∧ r.toInt = 16) := by
  have hl := h.len hn h0
  unfold m_SO at h
  rw [hn] at h
  cases sl with
  | nil =>
    simp only [List.length_nil] at hl
    rcases hr with ⟨q, _⟩ | ⟨_, q⟩
    · omega
    · exact Or.inl ⟨rfl, by rw [q]; decide⟩
  | cons b t =>
    simp only [List.length_cons] at hl
    obtain ⟨k, e1, e2, e3⟩ := h
    rcases hr with ⟨q, q2⟩ | ⟨q, _⟩
    · rw [e1, Nat.add_sub_cancel] at q2
      rw [← q2] at e2
      cases b with
      | true => exact Or.inr (Or.inl ⟨t, rfl, e2⟩)
      | false => exact Or.inr (Or.inr ⟨t, rfl, e2⟩)
    · omega
set_option maxHeartbeats 4000000 in
set_option maxRecDepth 100000 in
theorem g_X5_at_at31 (l : Launch) (D : va_G) (cy : Nat → ClassId) (b : Nat) (t : Int32) (h_t : 0 ≤ t.toInt ∧ t.toInt ≤ 401) (fR : Nat → Int32) (u : Int32) (μ : mM) (hI : IX μ) (ht : μ.1 31 1 = t) (hfR : μ.1 32 = fR) : m_Ci l yX5_at cX5_at 2 ((some .int)) 0 D cy b LAY μ [.ref (b + 31), .int u] (fun r ν => μ = ν ∧ (((0 ≤ u.toInt ∧ u.toInt < t.toInt) ∧ r = fR u.toNatClampNeg) ∨ (¬ (0 ≤ u.toInt ∧ u.toInt < t.toInt) ∧ r = -1))) := by
  unfold m_Ci
  refine m_of (by decide) (Nat.le_of_ble_eq_true rfl) ?_
  intro p e s m below meth c hx hb hr hml hown hts hlocks _ hW ls hl
  have hown : s.vm.findClass RX5 = some m.cls := hown
  have hl : lv_has ls 2 [(0, .ref (b + 31)), (1, .int u)] := hl
  refine lv_iload_n hx hb dX5_at_0 rfl (lv_at hl 1 rfl) ?_
  refine lv_if_lt (tgt := 21) hx hb dX5_at_1 (by decide) (fun c1 => ?_) (fun c1 => ?_)
  · have i1 := m_c1 (rfl : u.toInt = _) (by decide : (0 : Int32).toInt = 0) c1
    refine lv_iconst (v := (-1)) hx hb dX5_at_21 (by decide) ?_
    exact m_iret hx hb hr hlocks hW rfl (⟨rfl, Or.inr ⟨by omega, rfl⟩⟩) dX5_at_22
  · have i1 := m_c2 (rfl : u.toInt = _) (by decide : (0 : Int32).toInt = 0) c1
    refine lv_iload_n hx hb dX5_at_4 rfl (lv_at hl 1 rfl) ?_
    refine lv_aload_n hx hb dX5_at_5 rfl (lv_at hl 0 rfl) ?_
    refine m_geti hx hb hts hown hW (31) 1 rfl rfl cw_5 rfl (by decide) k_X5_9 dX5_at_6 ?_
    refine lv_topi (fun x2 ex2 => ?_)
    have ex2 : x2 = t := by rw [ex2]; exact ht
    have ex2 := ex2.symm
    subst ex2
    refine lv_icmp_ge (tgt := 21) hx hb dX5_at_9 (by decide) (fun c3 => ?_) (fun c3 => ?_)
    · have i3 := m_c3 (rfl : t.toInt = _) (rfl : u.toInt = _) c3
      refine lv_iconst (v := (-1)) hx hb dX5_at_21 (by decide) ?_
      exact m_iret hx hb hr hlocks hW rfl (⟨rfl, Or.inr ⟨by omega, rfl⟩⟩) dX5_at_22
    · have i3 := m_c4 (rfl : t.toInt = _) (rfl : u.toInt = _) c3
      refine lv_aload_n hx hb dX5_at_12 rfl (lv_at hl 0 rfl) ?_
      refine m_getr hx hb hts hown hW (31) 0 (32) rfl rfl cw_5 rfl (by decide) k_X5_21 dX5_at_13 ?_
      refine lv_iload_n hx hb dX5_at_16 rfl (lv_at hl 1 rfl) ?_
      refine m_iald hx hb hW (32) rfl (m_ixI (rfl : u.toInt = _) (by omega) (by omega)) dX5_at_17 ?_
      refine lv_topi (fun x4 ex4 => ?_)
      refine lv_goto (tgt := 22) hx hb dX5_at_18 (by decide) ?_
      exact m_iret hx hb hr hlocks hW rfl (⟨rfl, Or.inl ⟨by omega, by rw [ex4, hfR]⟩⟩) dX5_at_22
set_option maxHeartbeats 4000000 in
set_option maxRecDepth 100000 in
theorem g_X5_at_at33 (l : Launch) (D : va_G) (cy : Nat → ClassId) (b : Nat) (t : Int32) (h_t : 0 ≤ t.toInt ∧ t.toInt ≤ 401) (fR : Nat → Int32) (u : Int32) (μ : mM) (hI : IX μ) (ht : μ.1 33 1 = t) (hfR : μ.1 34 = fR) : m_Ci l yX5_at cX5_at 2 ((some .int)) 0 D cy b LAY μ [.ref (b + 33), .int u] (fun r ν => μ = ν ∧ (((0 ≤ u.toInt ∧ u.toInt < t.toInt) ∧ r = fR u.toNatClampNeg) ∨ (¬ (0 ≤ u.toInt ∧ u.toInt < t.toInt) ∧ r = -1))) := by
  unfold m_Ci
  refine m_of (by decide) (Nat.le_of_ble_eq_true rfl) ?_
  intro p e s m below meth c hx hb hr hml hown hts hlocks _ hW ls hl
  have hown : s.vm.findClass RX5 = some m.cls := hown
  have hl : lv_has ls 2 [(0, .ref (b + 33)), (1, .int u)] := hl
  refine lv_iload_n hx hb dX5_at_0 rfl (lv_at hl 1 rfl) ?_
  refine lv_if_lt (tgt := 21) hx hb dX5_at_1 (by decide) (fun c1 => ?_) (fun c1 => ?_)
  · have i1 := m_c1 (rfl : u.toInt = _) (by decide : (0 : Int32).toInt = 0) c1
    refine lv_iconst (v := (-1)) hx hb dX5_at_21 (by decide) ?_
    exact m_iret hx hb hr hlocks hW rfl (⟨rfl, Or.inr ⟨by omega, rfl⟩⟩) dX5_at_22
  · have i1 := m_c2 (rfl : u.toInt = _) (by decide : (0 : Int32).toInt = 0) c1
    refine lv_iload_n hx hb dX5_at_4 rfl (lv_at hl 1 rfl) ?_
    refine lv_aload_n hx hb dX5_at_5 rfl (lv_at hl 0 rfl) ?_
    refine m_geti hx hb hts hown hW (33) 1 rfl rfl cw_5 rfl (by decide) k_X5_9 dX5_at_6 ?_
    refine lv_topi (fun x2 ex2 => ?_)
    have ex2 : x2 = t := by rw [ex2]; exact ht
    have ex2 := ex2.symm
    subst ex2
    refine lv_icmp_ge (tgt := 21) hx hb dX5_at_9 (by decide) (fun c3 => ?_) (fun c3 => ?_)
    · have i3 := m_c3 (rfl : t.toInt = _) (rfl : u.toInt = _) c3
      refine lv_iconst (v := (-1)) hx hb dX5_at_21 (by decide) ?_
      exact m_iret hx hb hr hlocks hW rfl (⟨rfl, Or.inr ⟨by omega, rfl⟩⟩) dX5_at_22
    · have i3 := m_c4 (rfl : t.toInt = _) (rfl : u.toInt = _) c3
      refine lv_aload_n hx hb dX5_at_12 rfl (lv_at hl 0 rfl) ?_
      refine m_getr hx hb hts hown hW (33) 0 (34) rfl rfl cw_5 rfl (by decide) k_X5_21 dX5_at_13 ?_
      refine lv_iload_n hx hb dX5_at_16 rfl (lv_at hl 1 rfl) ?_
      refine m_iald hx hb hW (34) rfl (m_ixI (rfl : u.toInt = _) (by omega) (by omega)) dX5_at_17 ?_
      refine lv_topi (fun x4 ex4 => ?_)
      refine lv_goto (tgt := 22) hx hb dX5_at_18 (by decide) ?_
      exact m_iret hx hb hr hlocks hW rfl (⟨rfl, Or.inl ⟨by omega, by rw [ex4, hfR]⟩⟩) dX5_at_22
set_option maxHeartbeats 4000000 in
set_option maxRecDepth 100000 in
theorem g_X5_at_at35 (l : Launch) (D : va_G) (cy : Nat → ClassId) (b : Nat) (t : Int32) (h_t : 0 ≤ t.toInt ∧ t.toInt ≤ 401) (fR : Nat → Int32) (u : Int32) (μ : mM) (hI : IX μ) (ht : μ.1 35 1 = t) (hfR : μ.1 36 = fR) : m_Ci l yX5_at cX5_at 2 ((some .int)) 0 D cy b LAY μ [.ref (b + 35), .int u] (fun r ν => μ = ν ∧ (((0 ≤ u.toInt ∧ u.toInt < t.toInt) ∧ r = fR u.toNatClampNeg) ∨ (¬ (0 ≤ u.toInt ∧ u.toInt < t.toInt) ∧ r = -1))) := by
  unfold m_Ci
  refine m_of (by decide) (Nat.le_of_ble_eq_true rfl) ?_
  intro p e s m below meth c hx hb hr hml hown hts hlocks _ hW ls hl
  have hown : s.vm.findClass RX5 = some m.cls := hown
  have hl : lv_has ls 2 [(0, .ref (b + 35)), (1, .int u)] := hl
  refine lv_iload_n hx hb dX5_at_0 rfl (lv_at hl 1 rfl) ?_
  refine lv_if_lt (tgt := 21) hx hb dX5_at_1 (by decide) (fun c1 => ?_) (fun c1 => ?_)
  · have i1 := m_c1 (rfl : u.toInt = _) (by decide : (0 : Int32).toInt = 0) c1
    refine lv_iconst (v := (-1)) hx hb dX5_at_21 (by decide) ?_
    exact m_iret hx hb hr hlocks hW rfl (⟨rfl, Or.inr ⟨by omega, rfl⟩⟩) dX5_at_22
  · have i1 := m_c2 (rfl : u.toInt = _) (by decide : (0 : Int32).toInt = 0) c1
    refine lv_iload_n hx hb dX5_at_4 rfl (lv_at hl 1 rfl) ?_
    refine lv_aload_n hx hb dX5_at_5 rfl (lv_at hl 0 rfl) ?_
    refine m_geti hx hb hts hown hW (35) 1 rfl rfl cw_5 rfl (by decide) k_X5_9 dX5_at_6 ?_
    refine lv_topi (fun x2 ex2 => ?_)
    have ex2 : x2 = t := by rw [ex2]; exact ht
    have ex2 := ex2.symm
    subst ex2
    refine lv_icmp_ge (tgt := 21) hx hb dX5_at_9 (by decide) (fun c3 => ?_) (fun c3 => ?_)
    · have i3 := m_c3 (rfl : t.toInt = _) (rfl : u.toInt = _) c3
      refine lv_iconst (v := (-1)) hx hb dX5_at_21 (by decide) ?_
      exact m_iret hx hb hr hlocks hW rfl (⟨rfl, Or.inr ⟨by omega, rfl⟩⟩) dX5_at_22
    · have i3 := m_c4 (rfl : t.toInt = _) (rfl : u.toInt = _) c3
      refine lv_aload_n hx hb dX5_at_12 rfl (lv_at hl 0 rfl) ?_
      refine m_getr hx hb hts hown hW (35) 0 (36) rfl rfl cw_5 rfl (by decide) k_X5_21 dX5_at_13 ?_
      refine lv_iload_n hx hb dX5_at_16 rfl (lv_at hl 1 rfl) ?_
      refine m_iald hx hb hW (36) rfl (m_ixI (rfl : u.toInt = _) (by omega) (by omega)) dX5_at_17 ?_
      refine lv_topi (fun x4 ex4 => ?_)
      refine lv_goto (tgt := 22) hx hb dX5_at_18 (by decide) ?_
      exact m_iret hx hb hr hlocks hW rfl (⟨rfl, Or.inl ⟨by omega, by rw [ex4, hfR]⟩⟩) dX5_at_22
set_option maxHeartbeats 4000000 in
set_option maxRecDepth 100000 in
theorem g_X5_at_at37 (l : Launch) (D : va_G) (cy : Nat → ClassId) (b : Nat) (t : Int32) (h_t : 0 ≤ t.toInt ∧ t.toInt ≤ 4) (fR : Nat → Int32) (u : Int32) (μ : mM) (hI : IX μ) (ht : μ.1 37 1 = t) (hfR : μ.1 38 = fR) : m_Ci l yX5_at cX5_at 2 ((some .int)) 0 D cy b LAY μ [.ref (b + 37), .int u] (fun r ν => μ = ν ∧ (((0 ≤ u.toInt ∧ u.toInt < t.toInt) ∧ r = fR u.toNatClampNeg) ∨ (¬ (0 ≤ u.toInt ∧ u.toInt < t.toInt) ∧ r = -1))) := by
  unfold m_Ci
  refine m_of (by decide) (Nat.le_of_ble_eq_true rfl) ?_
  intro p e s m below meth c hx hb hr hml hown hts hlocks _ hW ls hl
  have hown : s.vm.findClass RX5 = some m.cls := hown
  have hl : lv_has ls 2 [(0, .ref (b + 37)), (1, .int u)] := hl
  refine lv_iload_n hx hb dX5_at_0 rfl (lv_at hl 1 rfl) ?_
  refine lv_if_lt (tgt := 21) hx hb dX5_at_1 (by decide) (fun c1 => ?_) (fun c1 => ?_)
  · have i1 := m_c1 (rfl : u.toInt = _) (by decide : (0 : Int32).toInt = 0) c1
    refine lv_iconst (v := (-1)) hx hb dX5_at_21 (by decide) ?_
    exact m_iret hx hb hr hlocks hW rfl (⟨rfl, Or.inr ⟨by omega, rfl⟩⟩) dX5_at_22
  · have i1 := m_c2 (rfl : u.toInt = _) (by decide : (0 : Int32).toInt = 0) c1
    refine lv_iload_n hx hb dX5_at_4 rfl (lv_at hl 1 rfl) ?_
    refine lv_aload_n hx hb dX5_at_5 rfl (lv_at hl 0 rfl) ?_
    refine m_geti hx hb hts hown hW (37) 1 rfl rfl cw_5 rfl (by decide) k_X5_9 dX5_at_6 ?_
    refine lv_topi (fun x2 ex2 => ?_)
    have ex2 : x2 = t := by rw [ex2]; exact ht
    have ex2 := ex2.symm
    subst ex2
    refine lv_icmp_ge (tgt := 21) hx hb dX5_at_9 (by decide) (fun c3 => ?_) (fun c3 => ?_)
    · have i3 := m_c3 (rfl : t.toInt = _) (rfl : u.toInt = _) c3
      refine lv_iconst (v := (-1)) hx hb dX5_at_21 (by decide) ?_
      exact m_iret hx hb hr hlocks hW rfl (⟨rfl, Or.inr ⟨by omega, rfl⟩⟩) dX5_at_22
    · have i3 := m_c4 (rfl : t.toInt = _) (rfl : u.toInt = _) c3
      refine lv_aload_n hx hb dX5_at_12 rfl (lv_at hl 0 rfl) ?_
      refine m_getr hx hb hts hown hW (37) 0 (38) rfl rfl cw_5 rfl (by decide) k_X5_21 dX5_at_13 ?_
      refine lv_iload_n hx hb dX5_at_16 rfl (lv_at hl 1 rfl) ?_
      refine m_iald hx hb hW (38) rfl (m_ixI (rfl : u.toInt = _) (by omega) (by omega)) dX5_at_17 ?_
      refine lv_topi (fun x4 ex4 => ?_)
      refine lv_goto (tgt := 22) hx hb dX5_at_18 (by decide) ?_
      exact m_iret hx hb hr hlocks hW rfl (⟨rfl, Or.inl ⟨by omega, by rw [ex4, hfR]⟩⟩) dX5_at_22
set_option maxHeartbeats 4000000 in
set_option maxRecDepth 100000 in
theorem g_X5_add_28 (l : Launch) (D : va_G) (cy : Nat → ClassId) (b : Nat) (S : Nat → Bool) (μ0 : mM) (hS12 : S 12 = true) (v : Int32) (μ : mM) (hI : IY S μ0 μ) : m_Cv l yX5_add cX5_add 2 (none) 0 D cy b LAY μ [.ref (b + 28), .int v] (fun ν => IY S μ0 ν ∧ (True)) := by
  unfold m_Cv
  refine m_of (by decide) (Nat.le_of_ble_eq_true rfl) ?_
  intro p e s m below meth c hx hb hr hml hown hts hlocks _ hW ls hl
  have hown : s.vm.findClass RX5 = some m.cls := hown
  have hl : lv_has ls 2 [(0, .ref (b + 28)), (1, .int v)] := hl
  refine lv_aload_n hx hb dX5_add_0 rfl (lv_at hl 0 rfl) ?_
  refine m_geti hx hb hts hown hW (28) 1 rfl rfl cw_5 rfl (by decide) k_X5_9 dX5_add_1 ?_
  refine lv_topi (fun x1 ex1 => ?_)
  have bx1 : 0 ≤ x1.toInt ∧ x1.toInt ≤ 800 := by rw [ex1]; exact hI.1 _ _ _ _ rfl
  refine lv_aload_n hx hb dX5_add_4 rfl (lv_at hl 0 rfl) ?_
  refine m_getr hx hb hts hown hW (28) 0 (29) rfl rfl cw_5 rfl (by decide) k_X5_21 dX5_add_5 ?_
  refine m_alen hx hb hW (29) rfl dX5_add_8 ?_
  refine lv_topi (fun x2 ex2 => ?_)
  have ex2 : x2 = 800 := by rw [ex2]; rfl
  have ex2 := ex2.symm
  subst ex2
  refine lv_icmp_ge (tgt := 32) hx hb dX5_add_9 (by decide) (fun c3 => ?_) (fun c3 => ?_)
  · have i3 := m_c3 (by decide : (800 : Int32).toInt = 800) (rfl : x1.toInt = _) c3
    exact m_vret hx hb hr hlocks hW (⟨hI, trivial⟩) dX5_add_32
  · have i3 := m_c4 (by decide : (800 : Int32).toInt = 800) (rfl : x1.toInt = _) c3
    refine lv_aload_n hx hb dX5_add_12 rfl (lv_at hl 0 rfl) ?_
    refine m_getr hx hb hts hown hW (28) 0 (29) rfl rfl cw_5 rfl (by decide) k_X5_21 dX5_add_13 ?_
    refine lv_aload_n hx hb dX5_add_16 rfl (lv_at hl 0 rfl) ?_
    refine m_geti hx hb hts hown hW (28) 1 rfl rfl cw_5 rfl (by decide) k_X5_9 dX5_add_17 ?_
    refine lv_topi (fun x4 ex4 => ?_)
    have ex4 : x4 = x1 := by rw [ex4]; exact ex1.symm
    have ex4 := ex4.symm
    subst ex4
    refine lv_iload_n hx hb dX5_add_20 rfl (lv_at hl 1 rfl) ?_
    refine m_iast hx hb hW (29) rfl (m_ixI (rfl : x1.toInt = _) (by omega) (by omega)) dX5_add_21 (fun H locs hW _ => ?_)
    generalize hμ5 : m_si μ (29) (x1 : Int32).toNatClampNeg v = μ5 at hW
    have hI := hI.si0 hμ5 rfl hS12
    refine lv_aload_n hx hb dX5_add_22 rfl (lv_at hl 0 rfl) ?_
    refine lv_dup hx hb dX5_add_23 rfl ?_
    refine m_geti hx hb hts hown hW (28) 1 rfl rfl cw_5 rfl (by decide) k_X5_9 dX5_add_24 ?_
    refine lv_topi (fun x6 ex6 => ?_)
    have ex6 : x6 = x1 := by rw [ex6, ← hμ5]; exact ex1.symm
    have ex6 := ex6.symm
    subst ex6
    refine lv_iconst (v := 1) hx hb dX5_add_27 (by decide) ?_
    refine lv_iadd hx hb dX5_add_28 ?_
    refine lv_topi (fun x7 ex7 => ?_)
    have tx7 : x7.toInt = x1.toInt + 1 := m_addI ex7 (rfl : x1.toInt = _) (by decide : (1 : Int32).toInt = 1) (by omega) (by omega)
    refine m_puti hx hb hts hown hW (28) 1 rfl rfl cw_5 tyX5_ok nmX5 rfl (by decide) k_X5_9 rfl rfl rfl dX5_add_29 (fun H locs hW _ => ?_)
    generalize hμ8 : m_si μ5 (28) 1 x7 = μ8 at hW
    have hI := hI.si1 hμ8 rfl (by omega) hS12
    exact m_vret hx hb hr hlocks hW (⟨hI, trivial⟩) dX5_add_32
set_option maxHeartbeats 4000000 in
set_option maxRecDepth 100000 in
theorem g_X5_put_28 (l : Launch) (D : va_G) (cy : Nat → ClassId) (b : Nat) (S : Nat → Bool) (μ0 : mM) (hS12 : S 12 = true) (u v : Int32) (μ : mM) (hI : IY S μ0 μ) : m_Cv l yX5_put cX5_put 3 (none) 0 D cy b LAY μ [.ref (b + 28), .int u, .int v] (fun ν => IY S μ0 ν ∧ (True)) := by
  unfold m_Cv
  refine m_of (by decide) (Nat.le_of_ble_eq_true rfl) ?_
  intro p e s m below meth c hx hb hr hml hown hts hlocks _ hW ls hl
  have hown : s.vm.findClass RX5 = some m.cls := hown
  have hl : lv_has ls 3 [(0, .ref (b + 28)), (1, .int u), (2, .int v)] := hl
  refine lv_iload_n hx hb dX5_put_0 rfl (lv_at hl 1 rfl) ?_
  refine lv_if_lt (tgt := 19) hx hb dX5_put_1 (by decide) (fun c1 => ?_) (fun c1 => ?_)
  · have i1 := m_c1 (rfl : u.toInt = _) (by decide : (0 : Int32).toInt = 0) c1
    exact m_vret hx hb hr hlocks hW (⟨hI, trivial⟩) dX5_put_19
  · have i1 := m_c2 (rfl : u.toInt = _) (by decide : (0 : Int32).toInt = 0) c1
    refine lv_iload_n hx hb dX5_put_4 rfl (lv_at hl 1 rfl) ?_
    refine lv_aload_n hx hb dX5_put_5 rfl (lv_at hl 0 rfl) ?_
    refine m_geti hx hb hts hown hW (28) 1 rfl rfl cw_5 rfl (by decide) k_X5_9 dX5_put_6 ?_
    refine lv_topi (fun x2 ex2 => ?_)
    have bx2 : 0 ≤ x2.toInt ∧ x2.toInt ≤ 800 := by rw [ex2]; exact hI.1 _ _ _ _ rfl
    refine lv_icmp_ge (tgt := 19) hx hb dX5_put_9 (by decide) (fun c3 => ?_) (fun c3 => ?_)
    · have i3 := m_c3 (rfl : x2.toInt = _) (rfl : u.toInt = _) c3
      exact m_vret hx hb hr hlocks hW (⟨hI, trivial⟩) dX5_put_19
    · have i3 := m_c4 (rfl : x2.toInt = _) (rfl : u.toInt = _) c3
      refine lv_aload_n hx hb dX5_put_12 rfl (lv_at hl 0 rfl) ?_
      refine m_getr hx hb hts hown hW (28) 0 (29) rfl rfl cw_5 rfl (by decide) k_X5_21 dX5_put_13 ?_
      refine lv_iload_n hx hb dX5_put_16 rfl (lv_at hl 1 rfl) ?_
      refine lv_iload_n hx hb dX5_put_17 rfl (lv_at hl 2 rfl) ?_
      refine m_iast hx hb hW (29) rfl (m_ixI (rfl : u.toInt = _) (by omega) (by omega)) dX5_put_18 (fun H locs hW _ => ?_)
      generalize hμ4 : m_si μ (29) (u : Int32).toNatClampNeg v = μ4 at hW
      have hI := hI.si0 hμ4 rfl hS12
      exact m_vret hx hb hr hlocks hW (⟨hI, trivial⟩) dX5_put_19
set_option maxHeartbeats 4000000 in
set_option maxRecDepth 100000 in
theorem g_X5_add_39 (l : Launch) (D : va_G) (cy : Nat → ClassId) (b : Nat) (S : Nat → Bool) (μ0 : mM) (hS14 : S 14 = true) (v : Int32) (μ : mM) (hI : IY S μ0 μ) : m_Cv l yX5_add cX5_add 2 (none) 0 D cy b LAY μ [.ref (b + 39), .int v] (fun ν => IY S μ0 ν ∧ (True)) := by
  unfold m_Cv
  refine m_of (by decide) (Nat.le_of_ble_eq_true rfl) ?_
  intro p e s m below meth c hx hb hr hml hown hts hlocks _ hW ls hl
  have hown : s.vm.findClass RX5 = some m.cls := hown
  have hl : lv_has ls 2 [(0, .ref (b + 39)), (1, .int v)] := hl
  refine lv_aload_n hx hb dX5_add_0 rfl (lv_at hl 0 rfl) ?_
  refine m_geti hx hb hts hown hW (39) 1 rfl rfl cw_5 rfl (by decide) k_X5_9 dX5_add_1 ?_
  refine lv_topi (fun x1 ex1 => ?_)
  have bx1 : 0 ≤ x1.toInt ∧ x1.toInt ≤ 4 := by rw [ex1]; exact hI.1 _ _ _ _ rfl
  refine lv_aload_n hx hb dX5_add_4 rfl (lv_at hl 0 rfl) ?_
  refine m_getr hx hb hts hown hW (39) 0 (40) rfl rfl cw_5 rfl (by decide) k_X5_21 dX5_add_5 ?_
  refine m_alen hx hb hW (40) rfl dX5_add_8 ?_
  refine lv_topi (fun x2 ex2 => ?_)
  have ex2 : x2 = 4 := by rw [ex2]; rfl
  have ex2 := ex2.symm
  subst ex2
  refine lv_icmp_ge (tgt := 32) hx hb dX5_add_9 (by decide) (fun c3 => ?_) (fun c3 => ?_)
  · have i3 := m_c3 (by decide : (4 : Int32).toInt = 4) (rfl : x1.toInt = _) c3
    exact m_vret hx hb hr hlocks hW (⟨hI, trivial⟩) dX5_add_32
  · have i3 := m_c4 (by decide : (4 : Int32).toInt = 4) (rfl : x1.toInt = _) c3
    refine lv_aload_n hx hb dX5_add_12 rfl (lv_at hl 0 rfl) ?_
    refine m_getr hx hb hts hown hW (39) 0 (40) rfl rfl cw_5 rfl (by decide) k_X5_21 dX5_add_13 ?_
    refine lv_aload_n hx hb dX5_add_16 rfl (lv_at hl 0 rfl) ?_
    refine m_geti hx hb hts hown hW (39) 1 rfl rfl cw_5 rfl (by decide) k_X5_9 dX5_add_17 ?_
    refine lv_topi (fun x4 ex4 => ?_)
    have ex4 : x4 = x1 := by rw [ex4]; exact ex1.symm
    have ex4 := ex4.symm
    subst ex4
    refine lv_iload_n hx hb dX5_add_20 rfl (lv_at hl 1 rfl) ?_
    refine m_iast hx hb hW (40) rfl (m_ixI (rfl : x1.toInt = _) (by omega) (by omega)) dX5_add_21 (fun H locs hW _ => ?_)
    generalize hμ5 : m_si μ (40) (x1 : Int32).toNatClampNeg v = μ5 at hW
    have hI := hI.si0 hμ5 rfl hS14
    refine lv_aload_n hx hb dX5_add_22 rfl (lv_at hl 0 rfl) ?_
    refine lv_dup hx hb dX5_add_23 rfl ?_
    refine m_geti hx hb hts hown hW (39) 1 rfl rfl cw_5 rfl (by decide) k_X5_9 dX5_add_24 ?_
    refine lv_topi (fun x6 ex6 => ?_)
    have ex6 : x6 = x1 := by rw [ex6, ← hμ5]; exact ex1.symm
    have ex6 := ex6.symm
    subst ex6
    refine lv_iconst (v := 1) hx hb dX5_add_27 (by decide) ?_
    refine lv_iadd hx hb dX5_add_28 ?_
    refine lv_topi (fun x7 ex7 => ?_)
    have tx7 : x7.toInt = x1.toInt + 1 := m_addI ex7 (rfl : x1.toInt = _) (by decide : (1 : Int32).toInt = 1) (by omega) (by omega)
    refine m_puti hx hb hts hown hW (39) 1 rfl rfl cw_5 tyX5_ok nmX5 rfl (by decide) k_X5_9 rfl rfl rfl dX5_add_29 (fun H locs hW _ => ?_)
    generalize hμ8 : m_si μ5 (39) 1 x7 = μ8 at hW
    have hI := hI.si1 hμ8 rfl (by omega) hS14
    exact m_vret hx hb hr hlocks hW (⟨hI, trivial⟩) dX5_add_32
set_option maxHeartbeats 4000000 in
set_option maxRecDepth 100000 in
theorem g_X5_add_37e (l : Launch) (D : va_G) (cy : Nat → ClassId) (b : Nat) (S : Nat → Bool) (μ0 : mM) (hS13 : S 13 = true) (v : Int32) (μ : mM) (hI : IY S μ0 μ) : m_Cv l yX5_add cX5_add 2 (none) 0 D cy b LAY μ [.ref (b + 37), .int v] (fun ν => IY S μ0 ν ∧ (True)) := by
  unfold m_Cv
  refine m_of (by decide) (Nat.le_of_ble_eq_true rfl) ?_
  intro p e s m below meth c hx hb hr hml hown hts hlocks _ hW ls hl
  have hown : s.vm.findClass RX5 = some m.cls := hown
  have hl : lv_has ls 2 [(0, .ref (b + 37)), (1, .int v)] := hl
  refine lv_aload_n hx hb dX5_add_0 rfl (lv_at hl 0 rfl) ?_
  refine m_geti hx hb hts hown hW (37) 1 rfl rfl cw_5 rfl (by decide) k_X5_9 dX5_add_1 ?_
  refine lv_topi (fun x1 ex1 => ?_)
  have bx1 : 0 ≤ x1.toInt ∧ x1.toInt ≤ 4 := by rw [ex1]; exact hI.1 _ _ _ _ rfl
  refine lv_aload_n hx hb dX5_add_4 rfl (lv_at hl 0 rfl) ?_
  refine m_getr hx hb hts hown hW (37) 0 (38) rfl rfl cw_5 rfl (by decide) k_X5_21 dX5_add_5 ?_
  refine m_alen hx hb hW (38) rfl dX5_add_8 ?_
  refine lv_topi (fun x2 ex2 => ?_)
  have ex2 : x2 = 4 := by rw [ex2]; rfl
  have ex2 := ex2.symm
  subst ex2
  refine lv_icmp_ge (tgt := 32) hx hb dX5_add_9 (by decide) (fun c3 => ?_) (fun c3 => ?_)
  · have i3 := m_c3 (by decide : (4 : Int32).toInt = 4) (rfl : x1.toInt = _) c3
    exact m_vret hx hb hr hlocks hW (⟨hI, trivial⟩) dX5_add_32
  · have i3 := m_c4 (by decide : (4 : Int32).toInt = 4) (rfl : x1.toInt = _) c3
    refine lv_aload_n hx hb dX5_add_12 rfl (lv_at hl 0 rfl) ?_
    refine m_getr hx hb hts hown hW (37) 0 (38) rfl rfl cw_5 rfl (by decide) k_X5_21 dX5_add_13 ?_
    refine lv_aload_n hx hb dX5_add_16 rfl (lv_at hl 0 rfl) ?_
    refine m_geti hx hb hts hown hW (37) 1 rfl rfl cw_5 rfl (by decide) k_X5_9 dX5_add_17 ?_
    refine lv_topi (fun x4 ex4 => ?_)
    have ex4 : x4 = x1 := by rw [ex4]; exact ex1.symm
    have ex4 := ex4.symm
    subst ex4
    refine lv_iload_n hx hb dX5_add_20 rfl (lv_at hl 1 rfl) ?_
    refine m_iast hx hb hW (38) rfl (m_ixI (rfl : x1.toInt = _) (by omega) (by omega)) dX5_add_21 (fun H locs hW _ => ?_)
    generalize hμ5 : m_si μ (38) (x1 : Int32).toNatClampNeg v = μ5 at hW
    have hI := hI.si0 hμ5 rfl hS13
    refine lv_aload_n hx hb dX5_add_22 rfl (lv_at hl 0 rfl) ?_
    refine lv_dup hx hb dX5_add_23 rfl ?_
    refine m_geti hx hb hts hown hW (37) 1 rfl rfl cw_5 rfl (by decide) k_X5_9 dX5_add_24 ?_
    refine lv_topi (fun x6 ex6 => ?_)
    have ex6 : x6 = x1 := by rw [ex6, ← hμ5]; exact ex1.symm
    have ex6 := ex6.symm
    subst ex6
    refine lv_iconst (v := 1) hx hb dX5_add_27 (by decide) ?_
    refine lv_iadd hx hb dX5_add_28 ?_
    refine lv_topi (fun x7 ex7 => ?_)
    have tx7 : x7.toInt = x1.toInt + 1 := m_addI ex7 (rfl : x1.toInt = _) (by decide : (1 : Int32).toInt = 1) (by omega) (by omega)
    refine m_puti hx hb hts hown hW (37) 1 rfl rfl cw_5 tyX5_ok nmX5 rfl (by decide) k_X5_9 rfl rfl rfl dX5_add_29 (fun H locs hW _ => ?_)
    generalize hμ8 : m_si μ5 (37) 1 x7 = μ8 at hW
    have hI := hI.si1 hμ8 rfl (by omega) hS13
    exact m_vret hx hb hr hlocks hW (⟨hI, trivial⟩) dX5_add_32
set_option maxHeartbeats 4000000 in
set_option maxRecDepth 100000 in
theorem g_X5_add_o (l : Launch) (D : va_G) (cy : Nat → ClassId) (b : Nat) (S : Nat → Bool) (μ0 : mM) (hS13 : S 13 = true) (t : Int32) (h_t : 0 ≤ t.toInt ∧ t.toInt ≤ 3) (v : Int32) (μ : mM) (hI : IY S μ0 μ) (ht : μ.1 37 1 = t) : m_Cv l yX5_add cX5_add 2 (none) 0 D cy b LAY μ [.ref (b + 37), .int v] (fun ν => IY S μ0 ν ∧ ((ν.1 37 1).toInt = t.toInt + 1 ∧ ν.1 38 = m_up (μ.1 38) t.toNatClampNeg v)) := by
  unfold m_Cv
  refine m_of (by decide) (Nat.le_of_ble_eq_true rfl) ?_
  intro p e s m below meth c hx hb hr hml hown hts hlocks _ hW ls hl
  have hown : s.vm.findClass RX5 = some m.cls := hown
  have hl : lv_has ls 2 [(0, .ref (b + 37)), (1, .int v)] := hl
  refine lv_aload_n hx hb dX5_add_0 rfl (lv_at hl 0 rfl) ?_
  refine m_geti hx hb hts hown hW (37) 1 rfl rfl cw_5 rfl (by decide) k_X5_9 dX5_add_1 ?_
  refine lv_topi (fun x1 ex1 => ?_)
  have ex1 : x1 = t := by rw [ex1]; exact ht
  have ex1 := ex1.symm
  subst ex1
  refine lv_aload_n hx hb dX5_add_4 rfl (lv_at hl 0 rfl) ?_
  refine m_getr hx hb hts hown hW (37) 0 (38) rfl rfl cw_5 rfl (by decide) k_X5_21 dX5_add_5 ?_
  refine m_alen hx hb hW (38) rfl dX5_add_8 ?_
  refine lv_topi (fun x2 ex2 => ?_)
  have ex2 : x2 = 4 := by rw [ex2]; rfl
  have ex2 := ex2.symm
  subst ex2
  refine lv_icmp_ge (tgt := 32) hx hb dX5_add_9 (by decide) (fun c3 => ?_) (fun c3 => ?_)
  · have i3 := m_c3 (by decide : (4 : Int32).toInt = 4) (rfl : t.toInt = _) c3
    exfalso; omega
  · have i3 := m_c4 (by decide : (4 : Int32).toInt = 4) (rfl : t.toInt = _) c3
    refine lv_aload_n hx hb dX5_add_12 rfl (lv_at hl 0 rfl) ?_
    refine m_getr hx hb hts hown hW (37) 0 (38) rfl rfl cw_5 rfl (by decide) k_X5_21 dX5_add_13 ?_
    refine lv_aload_n hx hb dX5_add_16 rfl (lv_at hl 0 rfl) ?_
    refine m_geti hx hb hts hown hW (37) 1 rfl rfl cw_5 rfl (by decide) k_X5_9 dX5_add_17 ?_
    refine lv_topi (fun x4 ex4 => ?_)
    have ex4 : x4 = t := by rw [ex4]; exact ht
    have ex4 := ex4.symm
    subst ex4
    refine lv_iload_n hx hb dX5_add_20 rfl (lv_at hl 1 rfl) ?_
    refine m_iast hx hb hW (38) rfl (m_ixI (rfl : t.toInt = _) (by omega) (by omega)) dX5_add_21 (fun H locs hW _ => ?_)
    generalize hμ5 : m_si μ (38) (t : Int32).toNatClampNeg v = μ5 at hW
    have hI := hI.si0 hμ5 rfl hS13
    refine lv_aload_n hx hb dX5_add_22 rfl (lv_at hl 0 rfl) ?_
    refine lv_dup hx hb dX5_add_23 rfl ?_
    refine m_geti hx hb hts hown hW (37) 1 rfl rfl cw_5 rfl (by decide) k_X5_9 dX5_add_24 ?_
    refine lv_topi (fun x6 ex6 => ?_)
    have ex6 : x6 = t := by rw [ex6, ← hμ5]; exact ht
    have ex6 := ex6.symm
    subst ex6
    refine lv_iconst (v := 1) hx hb dX5_add_27 (by decide) ?_
    refine lv_iadd hx hb dX5_add_28 ?_
    refine lv_topi (fun x7 ex7 => ?_)
    have tx7 : x7.toInt = t.toInt + 1 := m_addI ex7 (rfl : t.toInt = _) (by decide : (1 : Int32).toInt = 1) (by omega) (by omega)
    refine m_puti hx hb hts hown hW (37) 1 rfl rfl cw_5 tyX5_ok nmX5 rfl (by decide) k_X5_9 rfl rfl rfl dX5_add_29 (fun H locs hW _ => ?_)
    generalize hμ8 : m_si μ5 (37) 1 x7 = μ8 at hW
    have hI := hI.si1 hμ8 rfl (by omega) hS13
    exact m_vret hx hb hr hlocks hW (⟨hI, ⟨by rw [show μ8.1 37 1 = x7 from by rw [← hμ8]; first | rfl | exact if_pos ⟨rfl, rfl⟩]; omega, by rw [show μ8.1 38 = μ5.1 38 from by rw [← hμ8]; exact m_si_row (by decide), show μ5.1 38 = m_up (μ.1 38) (t : Int32).toNatClampNeg v from by rw [← hμ5]; exact m_si_up]⟩⟩) dX5_add_32
set_option maxHeartbeats 4000000 in
set_option maxRecDepth 100000 in
theorem g_X4_fail_o (l : Launch) (D : va_G) (cy : Nat → ClassId) (b : Nat) (S : Nat → Bool) (μ0 : mM) (hS5 : S 5 = true) (fT : Nat → Int32) (n cn gi : Nat) (k : Int32) (h_k : k.toInt ≠ 0) (μ : mM) (hI : IY S μ0 μ) (hxt : m_XT μ fT n cn) (hxs : m_XS μ fT n cn gi) : m_Cv l yX4_fail cX4_fail 2 (none) 1 D cy b LAY μ [.ref (b + 27), .int k] (fun ν => IY S μ0 ν ∧ (m_XE ν (k.toInt, (t_L fT n) gi))) := by
  unfold m_Cv
  refine m_of (by decide) (Nat.le_of_ble_eq_true rfl) ?_
  intro p e s m below meth c hx hb hr hml hown hts hlocks _ hW ls hl
  have hown : s.vm.findClass RX4 = some m.cls := hown
  have hl : lv_has ls 2 [(0, .ref (b + 27)), (1, .int k)] := hl
  obtain ⟨xs1, xs2, xs3, xs4, xs5⟩ := hxs
  obtain ⟨cu, hcu⟩ : ∃ z, μ.1 27 4 = z := ⟨_, rfl⟩
  rw [hcu] at xs2
  obtain ⟨tk, htk⟩ : ∃ z, μ.1 27 5 = z := ⟨_, rfl⟩
  rw [htk] at xs3
  have hc4 : cn ≤ 400 := by have := hxt.1.2.2; have := hxt.2.2.2.2; omega
  have hxt0 := hxt
  obtain ⟨z33, hs33⟩ : ∃ z, μ.1 33 1 = z := ⟨_, rfl⟩
  have bz33 := hxt.2.2.1
  rw [hs33] at bz33
  refine lv_aload_n hx hb dX4_fail_0 rfl (lv_at hl 0 rfl) ?_
  refine m_geti hx hb hts hown hW (27) 1 rfl rfl cw_4 rfl (by decide) k_X4_20 dX4_fail_1 ?_
  refine lv_topi (fun x1 ex1 => ?_)
  have ex1 : x1 = 0 := by rw [ex1]; exact xs1
  have ex1 := ex1.symm
  subst ex1
  refine lv_if_ne (tgt := 30) hx hb dX4_fail_4 (by decide) (fun c => False.elim (by revert c; decide)) (fun _ => ?_)
  refine lv_aload_n hx hb dX4_fail_7 rfl (lv_at hl 0 rfl) ?_
  refine lv_iload_n hx hb dX4_fail_8 rfl (lv_at hl 1 rfl) ?_
  refine m_puti hx hb hts hown hW (27) 1 rfl rfl cw_4 tyX4_ok nmX4 rfl (by decide) k_X4_20 rfl rfl rfl dX4_fail_9 (fun H locs hW _ => ?_)
  generalize hμ2 : m_si μ (27) 1 k = μ2 at hW
  have hxt : m_XT μ2 fT n cn := hxt.si hμ2 (by decide)
  have hI := hI.si0 hμ2 rfl hS5
  refine lv_aload_n hx hb dX4_fail_12 rfl (lv_at hl 0 rfl) ?_
  refine lv_aload_n hx hb dX4_fail_13 rfl (lv_at hl 0 rfl) ?_
  refine m_getr hx hb hts hown hW (27) 3 (30) rfl rfl cw_4 rfl (by decide) k_X4_30 dX4_fail_14 ?_
  refine m_getr hx hb hts hown hW (30) 1 (33) rfl rfl cw_8 rfl (by decide) k_X4_77 dX4_fail_17 ?_
  refine lv_aload_n hx hb dX4_fail_20 rfl (lv_at hl 0 rfl) ?_
  refine m_geti hx hb hts hown hW (27) 4 rfl rfl cw_4 rfl (by decide) k_X4_34 dX4_fail_21 ?_
  refine lv_topi (fun x3 ex3 => ?_)
  have ex3 : x3 = cu := by rw [ex3, ← hμ2]; exact hcu
  have ex3 := ex3.symm
  subst ex3
  refine m_aI hW (m_runV (As := [.int cu]) (rest := [.ref (b + 27)]) hx hb hml hown hts hW (33) (g_X5_at_at33 l D cy b z33 (by omega) (μ2.1 34) cu μ2 hI.1 (by rw [← hμ2]; exact hs33) rfl) mi_X5_at k_X4_56 rfl rfl rfl hl.1 rfl (Nat.le_of_ble_eq_true rfl) dX4_fail_24 ⟨Nat.le_of_ble_eq_true rfl, Nat.le_of_ble_eq_true rfl⟩ ⟨Nat.le_of_ble_eq_true rfl, Nat.le_of_ble_eq_true rfl⟩) (fun x4 μ4 H locs q4 hW => ?_)
  obtain ⟨q4_m, q4⟩ := q4
  subst q4_m
  refine m_puti hx hb hts hown hW (27) 2 rfl rfl cw_4 tyX4_ok nmX4 rfl (by decide) k_X4_24 rfl rfl rfl dX4_fail_27 (fun H locs hW _ => ?_)
  generalize hμ5 : m_si μ2 (27) 2 x4 = μ5 at hW
  have hxt : m_XT μ5 fT n cn := hxt.si hμ5 (by decide)
  have hI := hI.si0 hμ5 rfl hS5
  refine lv_aload_n hx hb dX4_fail_30 rfl (lv_at hl 0 rfl) ?_
  refine lv_iconst (v := 0) hx hb dX4_fail_31 (by decide) ?_
  refine m_puti hx hb hts hown hW (27) 5 rfl rfl cw_4 tyX4_ok nmX4 rfl (by decide) k_X4_37 rfl rfl rfl dX4_fail_32 (fun H locs hW _ => ?_)
  generalize hμ6 : m_si μ5 (27) 5 0 = μ6 at hW
  have hxt : m_XT μ6 fT n cn := hxt.si hμ6 (by decide)
  have hI := hI.si0 hμ6 rfl hS5
  have hpl : x4.toInt = t_L fT n gi := by
    rcases q4 with ⟨q1, q2⟩ | ⟨q1, q2⟩
    · rw [q2, show cu.toNatClampNeg = gi from by have := m_ckI (x := cu) (by omega); omega, show μ2.1 34 = μ.1 34 from by rw [show μ2.1 34 = μ.1 34 from by rw [← hμ2]; exact m_si_row (by decide)]]; exact (hxt0.1.1 gi xs4).2.1
    · exact absurd q1 (by have := hxt0.2.2.1; rw [hs33] at this; omega)
  exact m_vret hx hb hr hlocks hW (⟨hI, ⟨by rw [show μ6.1 27 1 = k from by rw [← hμ6, ← hμ5, ← hμ2]; first | rfl | exact if_pos ⟨rfl, rfl⟩], h_k, by rw [show μ6.1 27 2 = x4 from by rw [← hμ6, ← hμ5]; first | rfl | exact if_pos ⟨rfl, rfl⟩]; exact hpl, by rw [show μ6.1 27 5 = 0 from by rw [← hμ6]; first | rfl | exact if_pos ⟨rfl, rfl⟩]⟩⟩) dX4_fail_35
set_option maxHeartbeats 4000000 in
set_option maxRecDepth 100000 in
theorem g_X4_fail_e (l : Launch) (D : va_G) (cy : Nat → ClassId) (b : Nat) (S : Nat → Bool) (μ0 : mM) (hS5 : S 5 = true) (ef ep : Int32) (h_ef : ef.toInt ≠ 0) (k : Int32) (μ : mM) (hI : IY S μ0 μ) (he1 : μ.1 27 1 = ef) (he2 : μ.1 27 2 = ep) (he5 : μ.1 27 5 = 0) : m_Cv l yX4_fail cX4_fail 2 (none) 1 D cy b LAY μ [.ref (b + 27), .int k] (fun ν => IY S μ0 ν ∧ (ν.1 27 1 = ef ∧ ν.1 27 2 = ep ∧ ν.1 27 5 = 0)) := by
  unfold m_Cv
  refine m_of (by decide) (Nat.le_of_ble_eq_true rfl) ?_
  intro p e s m below meth c hx hb hr hml hown hts hlocks _ hW ls hl
  have hown : s.vm.findClass RX4 = some m.cls := hown
  have hl : lv_has ls 2 [(0, .ref (b + 27)), (1, .int k)] := hl
  refine lv_aload_n hx hb dX4_fail_0 rfl (lv_at hl 0 rfl) ?_
  refine m_geti hx hb hts hown hW (27) 1 rfl rfl cw_4 rfl (by decide) k_X4_20 dX4_fail_1 ?_
  refine lv_topi (fun x1 ex1 => ?_)
  have ex1 : x1 = ef := by rw [ex1]; exact he1
  have ex1 := ex1.symm
  subst ex1
  refine lv_if_ne (tgt := 30) hx hb dX4_fail_4 (by decide) (fun c2 => ?_) (fun c2 => ?_)
  · have i2 := m_c6 (rfl : ef.toInt = _) (by decide : (0 : Int32).toInt = 0) c2
    refine lv_aload_n hx hb dX4_fail_30 rfl (lv_at hl 0 rfl) ?_
    refine lv_iconst (v := 0) hx hb dX4_fail_31 (by decide) ?_
    refine m_puti hx hb hts hown hW (27) 5 rfl rfl cw_4 tyX4_ok nmX4 rfl (by decide) k_X4_37 rfl rfl rfl dX4_fail_32 (fun H locs hW _ => ?_)
    generalize hμ3 : m_si μ (27) 5 0 = μ3 at hW
    have hI := hI.si0 hμ3 rfl hS5
    exact m_vret hx hb hr hlocks hW (⟨hI, ⟨by rw [show μ3.1 27 1 = ef from by rw [← hμ3]; exact he1], by rw [show μ3.1 27 2 = ep from by rw [← hμ3]; exact he2], by rw [show μ3.1 27 5 = 0 from by rw [← hμ3]; first | rfl | exact if_pos ⟨rfl, rfl⟩]⟩⟩) dX4_fail_35
  · have i2 := m_c5 (rfl : ef.toInt = _) (by decide : (0 : Int32).toInt = 0) c2
    exfalso; omega
set_option maxHeartbeats 4000000 in
set_option maxRecDepth 100000 in
theorem g_X4_advance_o (l : Launch) (D : va_G) (cy : Nat → ClassId) (b : Nat) (S : Nat → Bool) (μ0 : mM) (hS5 : S 5 = true) (fT : Nat → Int32) (n cn gi : Nat) (h_k : gi + 1 ≤ cn) (μ : mM) (hI : IY S μ0 μ) (hxt : m_XT μ fT n cn) (hxs : m_XS μ fT n cn gi) : m_Cv l yX4_advance cX4_advance 1 (none) 1 D cy b LAY μ [.ref (b + 27)] (fun ν => IY S μ0 ν ∧ (m_XS ν fT n cn (gi + 1))) := by
  unfold m_Cv
  refine m_of (by decide) (Nat.le_of_ble_eq_true rfl) ?_
  intro p e s m below meth c hx hb hr hml hown hts hlocks _ hW ls hl
  have hown : s.vm.findClass RX4 = some m.cls := hown
  have hl : lv_has ls 1 [(0, .ref (b + 27))] := hl
  obtain ⟨xs1, xs2, xs3, xs4, xs5⟩ := hxs
  obtain ⟨cu, hcu⟩ : ∃ z, μ.1 27 4 = z := ⟨_, rfl⟩
  rw [hcu] at xs2
  obtain ⟨tk, htk⟩ : ∃ z, μ.1 27 5 = z := ⟨_, rfl⟩
  rw [htk] at xs3
  have hc4 : cn ≤ 400 := by have := hxt.1.2.2; have := hxt.2.2.2.2; omega
  have hxt0 := hxt
  obtain ⟨z31, hs31⟩ : ∃ z, μ.1 31 1 = z := ⟨_, rfl⟩
  have bz31 := hxt.2.1
  rw [hs31] at bz31
  refine lv_aload_n hx hb dX4_advance_0 rfl (lv_at hl 0 rfl) ?_
  refine m_geti hx hb hts hown hW (27) 1 rfl rfl cw_4 rfl (by decide) k_X4_20 dX4_advance_1 ?_
  refine lv_topi (fun x1 ex1 => ?_)
  have ex1 : x1 = 0 := by rw [ex1]; exact xs1
  have ex1 := ex1.symm
  subst ex1
  refine lv_if_ne (tgt := 35) hx hb dX4_advance_4 (by decide) (fun c => False.elim (by revert c; decide)) (fun _ => ?_)
  refine lv_aload_n hx hb dX4_advance_7 rfl (lv_at hl 0 rfl) ?_
  refine lv_dup hx hb dX4_advance_8 rfl ?_
  refine m_geti hx hb hts hown hW (27) 4 rfl rfl cw_4 rfl (by decide) k_X4_34 dX4_advance_9 ?_
  refine lv_topi (fun x2 ex2 => ?_)
  have ex2 : x2 = cu := by rw [ex2]; exact hcu
  have ex2 := ex2.symm
  subst ex2
  refine lv_iconst (v := 1) hx hb dX4_advance_12 (by decide) ?_
  refine lv_iadd hx hb dX4_advance_13 ?_
  refine lv_topi (fun x3 ex3 => ?_)
  have tx3 : x3.toInt = cu.toInt + 1 := m_addI ex3 (rfl : cu.toInt = _) (by decide : (1 : Int32).toInt = 1) (by omega) (by omega)
  refine m_puti hx hb hts hown hW (27) 4 rfl rfl cw_4 tyX4_ok nmX4 rfl (by decide) k_X4_34 rfl rfl rfl dX4_advance_14 (fun H locs hW _ => ?_)
  generalize hμ4 : m_si μ (27) 4 x3 = μ4 at hW
  have hxt : m_XT μ4 fT n cn := hxt.si hμ4 (by decide)
  have hI := hI.si0 hμ4 rfl hS5
  refine lv_aload_n hx hb dX4_advance_17 rfl (lv_at hl 0 rfl) ?_
  refine lv_aload_n hx hb dX4_advance_18 rfl (lv_at hl 0 rfl) ?_
  refine m_getr hx hb hts hown hW (27) 3 (30) rfl rfl cw_4 rfl (by decide) k_X4_30 dX4_advance_19 ?_
  refine m_getr hx hb hts hown hW (30) 0 (31) rfl rfl cw_8 rfl (by decide) k_X4_53 dX4_advance_22 ?_
  refine lv_aload_n hx hb dX4_advance_25 rfl (lv_at hl 0 rfl) ?_
  refine m_geti hx hb hts hown hW (27) 4 rfl rfl cw_4 rfl (by decide) k_X4_34 dX4_advance_26 ?_
  refine lv_topi (fun x5 ex5 => ?_)
  have ex5 : x5 = x3 := by rw [ex5, ← hμ4]; first | rfl | exact if_pos ⟨rfl, rfl⟩
  have ex5 := ex5.symm
  subst ex5
  refine m_aI hW (m_runV (As := [.int x3]) (rest := [.ref (b + 27)]) hx hb hml hown hts hW (31) (g_X5_at_at31 l D cy b z31 (by omega) (μ4.1 32) x3 μ4 hI.1 (by rw [← hμ4]; exact hs31) rfl) mi_X5_at k_X4_56 rfl rfl rfl hl.1 rfl (Nat.le_of_ble_eq_true rfl) dX4_advance_29 ⟨Nat.le_of_ble_eq_true rfl, Nat.le_of_ble_eq_true rfl⟩ ⟨Nat.le_of_ble_eq_true rfl, Nat.le_of_ble_eq_true rfl⟩) (fun x6 μ6 H locs q6 hW => ?_)
  obtain ⟨q6_m, q6⟩ := q6
  subst q6_m
  refine m_puti hx hb hts hown hW (27) 5 rfl rfl cw_4 tyX4_ok nmX4 rfl (by decide) k_X4_37 rfl rfl rfl dX4_advance_32 (fun H locs hW _ => ?_)
  generalize hμ7 : m_si μ4 (27) 5 x6 = μ7 at hW
  have hxt : m_XT μ7 fT n cn := hxt.si hμ7 (by decide)
  have hI := hI.si0 hμ7 rfl hS5
  have hkd : x6.toInt = t_K fT n (gi + 1) := by
    rcases q6 with ⟨q1, q2⟩ | ⟨q1, q2⟩
    · rw [q2, show x3.toNatClampNeg = gi + 1 from by have := m_ckI (x := x3) (by omega); omega, show μ4.1 32 = μ.1 32 from by rw [show μ4.1 32 = μ.1 32 from by rw [← hμ4]; exact m_si_row (by decide)]]; exact (hxt0.1.1 (gi + 1) h_k).1
    · exact absurd q1 (by have := hxt0.2.1; rw [hs31] at this; omega)
  exact m_vret hx hb hr hlocks hW (⟨hI, ⟨by rw [show μ7.1 27 1 = 0 from by rw [← hμ7, ← hμ4]; exact xs1], by rw [show μ7.1 27 4 = x3 from by rw [← hμ7, ← hμ4]; first | rfl | exact if_pos ⟨rfl, rfl⟩]; omega, by rw [show μ7.1 27 5 = x6 from by rw [← hμ7]; first | rfl | exact if_pos ⟨rfl, rfl⟩]; exact hkd, by omega, by rw [show μ7.1 27 2 = (-1) from by rw [← hμ7, ← hμ4]; exact xs5]⟩⟩) dX4_advance_35
set_option maxHeartbeats 4000000 in
set_option maxRecDepth 100000 in
theorem g_X4_advance_e (l : Launch) (D : va_G) (cy : Nat → ClassId) (b : Nat) (S : Nat → Bool) (μ0 : mM) (hS5 : S 5 = true) (ef ep : Int32) (h_ef : ef.toInt ≠ 0) (μ : mM) (hI : IY S μ0 μ) (he1 : μ.1 27 1 = ef) (he2 : μ.1 27 2 = ep) (he5 : μ.1 27 5 = 0) : m_Cv l yX4_advance cX4_advance 1 (none) 1 D cy b LAY μ [.ref (b + 27)] (fun ν => IY S μ0 ν ∧ (ν.1 27 1 = ef ∧ ν.1 27 2 = ep ∧ ν.1 27 5 = 0)) := by
  unfold m_Cv
  refine m_of (by decide) (Nat.le_of_ble_eq_true rfl) ?_
  intro p e s m below meth c hx hb hr hml hown hts hlocks _ hW ls hl
  have hown : s.vm.findClass RX4 = some m.cls := hown
  have hl : lv_has ls 1 [(0, .ref (b + 27))] := hl
  refine lv_aload_n hx hb dX4_advance_0 rfl (lv_at hl 0 rfl) ?_
  refine m_geti hx hb hts hown hW (27) 1 rfl rfl cw_4 rfl (by decide) k_X4_20 dX4_advance_1 ?_
  refine lv_topi (fun x1 ex1 => ?_)
  have ex1 : x1 = ef := by rw [ex1]; exact he1
  have ex1 := ex1.symm
  subst ex1
  refine lv_if_ne (tgt := 35) hx hb dX4_advance_4 (by decide) (fun c2 => ?_) (fun c2 => ?_)
  · have i2 := m_c6 (rfl : ef.toInt = _) (by decide : (0 : Int32).toInt = 0) c2
    exact m_vret hx hb hr hlocks hW (⟨hI, ⟨by rw [show μ.1 27 1 = ef from by exact he1], by rw [show μ.1 27 2 = ep from by exact he2], by rw [show μ.1 27 5 = 0 from by exact he5]⟩⟩) dX4_advance_35
  · have i2 := m_c5 (rfl : ef.toInt = _) (by decide : (0 : Int32).toInt = 0) c2
    exfalso; omega
set_option maxHeartbeats 4000000 in
set_option maxRecDepth 100000 in
theorem g_X4_expect_o (l : Launch) (D : va_G) (cy : Nat → ClassId) (b : Nat) (S : Nat → Bool) (μ0 : mM) (hS5 : S 5 = true) (fT : Nat → Int32) (n cn gi : Nat) (k : Int32) (h_k : 3 ≤ k.toInt) (μ : mM) (hI : IY S μ0 μ) (hxt : m_XT μ fT n cn) (hxs : m_XS μ fT n cn gi) : m_Cv l yX4_expect cX4_expect 2 (none) 2 D cy b LAY μ [.ref (b + 27), .int k] (fun ν => IY S μ0 ν ∧ ((∃ j, a_k (t_K fT n) (t_L fT n) k.toInt k.toInt gi = .inr j ∧ m_XS ν fT n cn j) ∨ (∃ e, a_k (t_K fT n) (t_L fT n) k.toInt k.toInt gi = .inl e ∧ m_XE ν e))) := by
  unfold m_Cv
  refine m_of (by decide) (Nat.le_of_ble_eq_true rfl) ?_
  intro p e s m below meth c hx hb hr hml hown hts hlocks _ hW ls hl
  have hown : s.vm.findClass RX4 = some m.cls := hown
  have hl : lv_has ls 2 [(0, .ref (b + 27)), (1, .int k)] := hl
  obtain ⟨xs1, xs2, xs3, xs4, xs5⟩ := hxs
  obtain ⟨cu, hcu⟩ : ∃ z, μ.1 27 4 = z := ⟨_, rfl⟩
  rw [hcu] at xs2
  obtain ⟨tk, htk⟩ : ∃ z, μ.1 27 5 = z := ⟨_, rfl⟩
  rw [htk] at xs3
  have hc4 : cn ≤ 400 := by have := hxt.1.2.2; have := hxt.2.2.2.2; omega
  refine lv_aload_n hx hb dX4_expect_0 rfl (lv_at hl 0 rfl) ?_
  refine m_geti hx hb hts hown hW (27) 5 rfl rfl cw_4 rfl (by decide) k_X4_37 dX4_expect_1 ?_
  refine lv_topi (fun x1 ex1 => ?_)
  have ex1 : x1 = tk := by rw [ex1]; exact htk
  have ex1 := ex1.symm
  subst ex1
  refine lv_iload_n hx hb dX4_expect_4 rfl (lv_at hl 1 rfl) ?_
  refine lv_icmp_ne (tgt := 15) hx hb dX4_expect_5 (by decide) (fun c2 => ?_) (fun c2 => ?_)
  · have i2 := m_c6 (rfl : tk.toInt = _) (rfl : k.toInt = _) c2
    refine lv_aload_n hx hb dX4_expect_15 rfl (lv_at hl 0 rfl) ?_
    refine lv_iconst (v := 1) hx hb dX4_expect_16 (by decide) ?_
    have l_1 : (1 : Int32).toInt = 1 := by decide
    refine m_aV hW (m_runV (As := [.int 1]) (rest := []) hx hb hml hown hts hW (27) (g_X4_fail_o l D cy b (fun g => [5].contains g) μ rfl fT n cn gi 1 (by omega) μ (IY.rf hI.1) hxt ⟨by exact xs1, by rw [show μ.1 27 4 = cu from by exact hcu]; omega, by rw [show μ.1 27 5 = tk from by exact htk]; omega, by omega, by exact xs5⟩) mi_X4_fail k_X4_74 rfl rfl rfl hl.1 rfl (Nat.le_of_ble_eq_true rfl) dX4_expect_17 ⟨Nat.le_of_ble_eq_true rfl, Nat.le_of_ble_eq_true rfl⟩ ⟨Nat.le_of_ble_eq_true rfl, Nat.le_of_ble_eq_true rfl⟩) (fun μ3 H locs q3 hW => ?_)
    obtain ⟨hJ3, q3⟩ := q3
    have hI := hI.tr hJ3 (m_subL (by simp [hS5]))
    have hxt : m_XT μ3 fT n cn := hxt.fr hJ3 rfl rfl rfl
    rw [show (1 : Int32).toInt = 1 from by decide] at q3
    have hxe4 : m_XE μ3 (1, (t_L fT n) gi) := q3
    obtain ⟨xa5, xb5, xc5, xd5⟩ := hxe4
    obtain ⟨ef5, hef5⟩ : ∃ z, μ3.1 27 1 = z := ⟨_, rfl⟩
    rw [hef5] at xa5
    obtain ⟨ep5, hep5⟩ : ∃ z, μ3.1 27 2 = z := ⟨_, rfl⟩
    rw [hep5] at xc5
    exact m_vret hx hb hr hlocks hW (⟨hI, Or.inr ⟨(1, (t_L fT n) gi), (by exact a_k0 (by omega)), ⟨by rw [show μ3.1 27 1 = ef5 from by exact hef5]; exact xa5, xb5, by rw [show μ3.1 27 2 = ep5 from by exact hep5]; exact xc5, by rw [show μ3.1 27 5 = 0 from by exact xd5]⟩⟩⟩) dX4_expect_20
  · have i2 := m_c5 (rfl : tk.toInt = _) (rfl : k.toInt = _) c2
    refine lv_aload_n hx hb dX4_expect_8 rfl (lv_at hl 0 rfl) ?_
    refine m_aV hW (m_runV (As := []) (rest := []) hx hb hml hown hts hW (27) (g_X4_advance_o l D cy b (fun g => [5].contains g) μ rfl fT n cn gi (hxt.lt (by omega) (by omega)) μ (IY.rf hI.1) hxt ⟨by exact xs1, by rw [show μ.1 27 4 = cu from by exact hcu]; omega, by rw [show μ.1 27 5 = tk from by exact htk]; omega, by omega, by exact xs5⟩) mi_X4_advance k_X4_80 rfl rfl rfl hl.1 rfl (Nat.le_of_ble_eq_true rfl) dX4_expect_9 ⟨Nat.le_of_ble_eq_true rfl, Nat.le_of_ble_eq_true rfl⟩ ⟨Nat.le_of_ble_eq_true rfl, Nat.le_of_ble_eq_true rfl⟩) (fun μ6 H locs q6 hW => ?_)
    obtain ⟨hJ6, q6⟩ := q6
    have hI := hI.tr hJ6 (m_subL (by simp [hS5]))
    have hxt : m_XT μ6 fT n cn := hxt.fr hJ6 rfl rfl rfl
    obtain ⟨xa7, xb7, xc7, xd7, xf7⟩ := q6
    obtain ⟨cu7, hcu7⟩ : ∃ z, μ6.1 27 4 = z := ⟨_, rfl⟩
    rw [hcu7] at xb7
    obtain ⟨tk7, htk7⟩ : ∃ z, μ6.1 27 5 = z := ⟨_, rfl⟩
    rw [htk7] at xc7
    refine lv_goto (tgt := 20) hx hb dX4_expect_12 (by decide) ?_
    exact m_vret hx hb hr hlocks hW (⟨hI, Or.inl ⟨(gi + 1), (by exact a_k1 (by omega)), ⟨by rw [show μ6.1 27 1 = 0 from by exact xa7], by rw [show μ6.1 27 4 = cu7 from by exact hcu7]; omega, by rw [show μ6.1 27 5 = tk7 from by exact htk7]; omega, by omega, by rw [show μ6.1 27 2 = (-1) from by exact xf7]⟩⟩⟩) dX4_expect_20
set_option maxHeartbeats 4000000 in
set_option maxRecDepth 100000 in
theorem g_X4_expect_e (l : Launch) (D : va_G) (cy : Nat → ClassId) (b : Nat) (S : Nat → Bool) (μ0 : mM) (hS5 : S 5 = true) (ef ep : Int32) (h_ef : ef.toInt ≠ 0) (k : Int32) (h_k : 3 ≤ k.toInt) (μ : mM) (hI : IY S μ0 μ) (he1 : μ.1 27 1 = ef) (he2 : μ.1 27 2 = ep) (he5 : μ.1 27 5 = 0) : m_Cv l yX4_expect cX4_expect 2 (none) 2 D cy b LAY μ [.ref (b + 27), .int k] (fun ν => IY S μ0 ν ∧ (ν.1 27 1 = ef ∧ ν.1 27 2 = ep ∧ ν.1 27 5 = 0)) := by
  unfold m_Cv
  refine m_of (by decide) (Nat.le_of_ble_eq_true rfl) ?_
  intro p e s m below meth c hx hb hr hml hown hts hlocks _ hW ls hl
  have hown : s.vm.findClass RX4 = some m.cls := hown
  have hl : lv_has ls 2 [(0, .ref (b + 27)), (1, .int k)] := hl
  refine lv_aload_n hx hb dX4_expect_0 rfl (lv_at hl 0 rfl) ?_
  refine m_geti hx hb hts hown hW (27) 5 rfl rfl cw_4 rfl (by decide) k_X4_37 dX4_expect_1 ?_
  refine lv_topi (fun x1 ex1 => ?_)
  have ex1 : x1 = 0 := by rw [ex1]; exact he5
  have ex1 := ex1.symm
  subst ex1
  refine lv_iload_n hx hb dX4_expect_4 rfl (lv_at hl 1 rfl) ?_
  refine lv_icmp_ne (tgt := 15) hx hb dX4_expect_5 (by decide) (fun c2 => ?_) (fun c2 => ?_)
  · have i2 := m_c6 (by decide : (0 : Int32).toInt = 0) (rfl : k.toInt = _) c2
    refine lv_aload_n hx hb dX4_expect_15 rfl (lv_at hl 0 rfl) ?_
    refine lv_iconst (v := 1) hx hb dX4_expect_16 (by decide) ?_
    have l_1 : (1 : Int32).toInt = 1 := by decide
    refine m_aV hW (m_runV (As := [.int 1]) (rest := []) hx hb hml hown hts hW (27) (g_X4_fail_e l D cy b S μ0 hS5 ef ep (by omega) 1 μ hI (by exact he1) (by exact he2) (by exact he5)) mi_X4_fail k_X4_74 rfl rfl rfl hl.1 rfl (Nat.le_of_ble_eq_true rfl) dX4_expect_17 ⟨Nat.le_of_ble_eq_true rfl, Nat.le_of_ble_eq_true rfl⟩ ⟨Nat.le_of_ble_eq_true rfl, Nat.le_of_ble_eq_true rfl⟩) (fun μ3 H locs q3 hW => ?_)
    obtain ⟨hI, q3⟩ := q3
    obtain ⟨q3a, q3b, q3c⟩ := q3
    exact m_vret hx hb hr hlocks hW (⟨hI, ⟨by rw [show μ3.1 27 1 = ef from by exact q3a], by rw [show μ3.1 27 2 = ep from by exact q3b], by rw [show μ3.1 27 5 = 0 from by exact q3c]⟩⟩) dX4_expect_20
  · have i2 := m_c5 (by decide : (0 : Int32).toInt = 0) (rfl : k.toInt = _) c2
    refine lv_aload_n hx hb dX4_expect_8 rfl (lv_at hl 0 rfl) ?_
    refine m_aV hW (m_runV (As := []) (rest := []) hx hb hml hown hts hW (27) (g_X4_advance_e l D cy b S μ0 hS5 ef ep (by omega) μ hI (by exact he1) (by exact he2) (by exact he5)) mi_X4_advance k_X4_80 rfl rfl rfl hl.1 rfl (Nat.le_of_ble_eq_true rfl) dX4_expect_9 ⟨Nat.le_of_ble_eq_true rfl, Nat.le_of_ble_eq_true rfl⟩ ⟨Nat.le_of_ble_eq_true rfl, Nat.le_of_ble_eq_true rfl⟩) (fun μ4 H locs q4 hW => ?_)
    obtain ⟨hI, q4⟩ := q4
    obtain ⟨q4a, q4b, q4c⟩ := q4
    refine lv_goto (tgt := 20) hx hb dX4_expect_12 (by decide) ?_
    exact m_vret hx hb hr hlocks hW (⟨hI, ⟨by rw [show μ4.1 27 1 = ef from by exact q4a], by rw [show μ4.1 27 2 = ep from by exact q4b], by rw [show μ4.1 27 5 = 0 from by exact q4c]⟩⟩) dX4_expect_20
set_option maxHeartbeats 4000000 in
set_option maxRecDepth 100000 in
theorem g_X4_readSide_o (l : Launch) (D : va_G) (cy : Nat → ClassId) (b : Nat) (S : Nat → Bool) (μ0 : mM) (hS5 : S 5 = true) (hS12 : S 12 = true) (fT : Nat → Int32) (n cn gi : Nat) (μ : mM) (hI : IY S μ0 μ) (hxt : m_XT μ fT n cn) (hxs : m_XS μ fT n cn gi) : m_Cv l yX4_readSide cX4_readSide 1 (none) 2 D cy b LAY μ [.ref (b + 27)] (fun ν => IY S μ0 ν ∧ ((∃ j, a_k (t_K fT n) (t_L fT n) 19 22 gi = .inr j ∧ m_XS ν fT n cn j) ∨ (∃ e, a_k (t_K fT n) (t_L fT n) 19 22 gi = .inl e ∧ m_XE ν e))) := by
  unfold m_Cv
  refine m_of (by decide) (Nat.le_of_ble_eq_true rfl) ?_
  intro p e s m below meth c hx hb hr hml hown hts hlocks _ hW ls hl
  have hown : s.vm.findClass RX4 = some m.cls := hown
  have hl : lv_has ls 1 [(0, .ref (b + 27))] := hl
  obtain ⟨xs1, xs2, xs3, xs4, xs5⟩ := hxs
  obtain ⟨cu, hcu⟩ : ∃ z, μ.1 27 4 = z := ⟨_, rfl⟩
  rw [hcu] at xs2
  obtain ⟨tk, htk⟩ : ∃ z, μ.1 27 5 = z := ⟨_, rfl⟩
  rw [htk] at xs3
  have hc4 : cn ≤ 400 := by have := hxt.1.2.2; have := hxt.2.2.2.2; omega
  refine lv_aload_n hx hb dX4_readSide_0 rfl (lv_at hl 0 rfl) ?_
  refine m_geti hx hb hts hown hW (27) 5 rfl rfl cw_4 rfl (by decide) k_X4_37 dX4_readSide_1 ?_
  refine lv_topi (fun x1 ex1 => ?_)
  have ex1 : x1 = tk := by rw [ex1]; exact htk
  have ex1 := ex1.symm
  subst ex1
  refine lv_bipush (v := 19) hx hb dX4_readSide_4 (by decide) ?_
  refine lv_bipush (v := 22) hx hb dX4_readSide_6 (by decide) ?_
  have l_19 : (19 : Int32).toInt = 19 := by decide
  have l_22 : (22 : Int32).toInt = 22 := by decide
  refine m_aI hW (m_runSN (As := [.int tk, .int 19, .int 22]) (rest := []) hx hb hml hown hts hW (g_X11_within l D cy b tk 19 22 μ hI.1) ms_X11_within n_X4_60 rfl hl.1 rfl (Nat.le_of_ble_eq_true rfl) dX4_readSide_8 ⟨Nat.le_of_ble_eq_true rfl, Nat.le_of_ble_eq_true rfl⟩ ⟨Nat.le_of_ble_eq_true rfl, Nat.le_of_ble_eq_true rfl⟩) (fun x2 μ2 H locs q2 hW => ?_)
  obtain ⟨q2_m, q2⟩ := q2
  subst q2_m
  rcases q2 with ⟨rfl, q2⟩ | ⟨rfl, q2⟩
  · refine lv_if_eq (tgt := 35) hx hb dX4_readSide_11 (by decide) (fun c => False.elim (by revert c; decide)) (fun _ => ?_)
    refine lv_aload_n hx hb dX4_readSide_14 rfl (lv_at hl 0 rfl) ?_
    refine m_getr hx hb hts hown hW (27) 0 (28) rfl rfl cw_4 rfl (by decide) k_X4_16 dX4_readSide_15 ?_
    refine lv_aload_n hx hb dX4_readSide_18 rfl (lv_at hl 0 rfl) ?_
    refine m_geti hx hb hts hown hW (27) 5 rfl rfl cw_4 rfl (by decide) k_X4_37 dX4_readSide_19 ?_
    refine lv_topi (fun x3 ex3 => ?_)
    have ex3 : x3 = tk := by rw [ex3]; exact htk
    have ex3 := ex3.symm
    subst ex3
    refine lv_bipush (v := 19) hx hb dX4_readSide_22 (by decide) ?_
    refine lv_isub hx hb dX4_readSide_24 ?_
    refine lv_topi (fun x4 ex4 => ?_)
    have tx4 : x4.toInt = tk.toInt - 19 := m_subI ex4 (rfl : tk.toInt = _) (by decide : (19 : Int32).toInt = 19) (by omega) (by omega)
    refine m_aV hW (m_runV (As := [.int x4]) (rest := []) hx hb hml hown hts hW (28) (g_X5_add_28 l D cy b (fun g => [12].contains g) μ rfl x4 μ (IY.rf hI.1)) mi_X5_add k_X4_83 rfl rfl rfl hl.1 rfl (Nat.le_of_ble_eq_true rfl) dX4_readSide_25 ⟨Nat.le_of_ble_eq_true rfl, Nat.le_of_ble_eq_true rfl⟩ ⟨Nat.le_of_ble_eq_true rfl, Nat.le_of_ble_eq_true rfl⟩) (fun μ5 H locs q5 hW => ?_)
    obtain ⟨hJ5, q5⟩ := q5
    have hI := hI.tr hJ5 (m_subL (by simp [hS12]))
    have hxt : m_XT μ5 fT n cn := hxt.fr hJ5 rfl rfl rfl
    refine lv_aload_n hx hb dX4_readSide_28 rfl (lv_at hl 0 rfl) ?_
    refine m_aV hW (m_runV (As := []) (rest := []) hx hb hml hown hts hW (27) (g_X4_advance_o l D cy b (fun g => [5].contains g) μ5 rfl fT n cn gi (hxt.lt (by omega) (by omega)) μ5 (IY.rf hI.1) hxt ⟨by exact ((hJ5.2.1 27 1 rfl).trans (by exact xs1)), by rw [show μ5.1 27 4 = cu from by exact ((hJ5.2.1 27 4 rfl).trans (by exact hcu))]; omega, by rw [show μ5.1 27 5 = tk from by exact ((hJ5.2.1 27 5 rfl).trans (by exact htk))]; omega, by omega, by exact ((hJ5.2.1 27 2 rfl).trans (by exact xs5))⟩) mi_X4_advance k_X4_80 rfl rfl rfl hl.1 rfl (Nat.le_of_ble_eq_true rfl) dX4_readSide_29 ⟨Nat.le_of_ble_eq_true rfl, Nat.le_of_ble_eq_true rfl⟩ ⟨Nat.le_of_ble_eq_true rfl, Nat.le_of_ble_eq_true rfl⟩) (fun μ6 H locs q6 hW => ?_)
    obtain ⟨hJ6, q6⟩ := q6
    have hI := hI.tr hJ6 (m_subL (by simp [hS5]))
    have hxt : m_XT μ6 fT n cn := hxt.fr hJ6 rfl rfl rfl
    obtain ⟨xa7, xb7, xc7, xd7, xf7⟩ := q6
    obtain ⟨cu7, hcu7⟩ : ∃ z, μ6.1 27 4 = z := ⟨_, rfl⟩
    rw [hcu7] at xb7
    obtain ⟨tk7, htk7⟩ : ∃ z, μ6.1 27 5 = z := ⟨_, rfl⟩
    rw [htk7] at xc7
    refine lv_goto (tgt := 40) hx hb dX4_readSide_32 (by decide) ?_
    exact m_vret hx hb hr hlocks hW (⟨hI, Or.inl ⟨(gi + 1), (by exact a_k1 (by omega)), ⟨by rw [show μ6.1 27 1 = 0 from by exact xa7], by rw [show μ6.1 27 4 = cu7 from by exact hcu7]; omega, by rw [show μ6.1 27 5 = tk7 from by exact htk7]; omega, by omega, by rw [show μ6.1 27 2 = (-1) from by exact xf7]⟩⟩⟩) dX4_readSide_40
  · refine lv_if_eq (tgt := 35) hx hb dX4_readSide_11 (by decide) (fun _ => ?_) (fun c => False.elim (by revert c; decide))
    refine lv_aload_n hx hb dX4_readSide_35 rfl (lv_at hl 0 rfl) ?_
    refine lv_iconst (v := 1) hx hb dX4_readSide_36 (by decide) ?_
    have l_1 : (1 : Int32).toInt = 1 := by decide
    refine m_aV hW (m_runV (As := [.int 1]) (rest := []) hx hb hml hown hts hW (27) (g_X4_fail_o l D cy b (fun g => [5].contains g) μ rfl fT n cn gi 1 (by omega) μ (IY.rf hI.1) hxt ⟨by exact xs1, by rw [show μ.1 27 4 = cu from by exact hcu]; omega, by rw [show μ.1 27 5 = tk from by exact htk]; omega, by omega, by exact xs5⟩) mi_X4_fail k_X4_74 rfl rfl rfl hl.1 rfl (Nat.le_of_ble_eq_true rfl) dX4_readSide_37 ⟨Nat.le_of_ble_eq_true rfl, Nat.le_of_ble_eq_true rfl⟩ ⟨Nat.le_of_ble_eq_true rfl, Nat.le_of_ble_eq_true rfl⟩) (fun μ8 H locs q8 hW => ?_)
    obtain ⟨hJ8, q8⟩ := q8
    have hI := hI.tr hJ8 (m_subL (by simp [hS5]))
    have hxt : m_XT μ8 fT n cn := hxt.fr hJ8 rfl rfl rfl
    rw [show (1 : Int32).toInt = 1 from by decide] at q8
    have hxe9 : m_XE μ8 (1, (t_L fT n) gi) := q8
    obtain ⟨xa10, xb10, xc10, xd10⟩ := hxe9
    obtain ⟨ef10, hef10⟩ : ∃ z, μ8.1 27 1 = z := ⟨_, rfl⟩
    rw [hef10] at xa10
    obtain ⟨ep10, hep10⟩ : ∃ z, μ8.1 27 2 = z := ⟨_, rfl⟩
    rw [hep10] at xc10
    exact m_vret hx hb hr hlocks hW (⟨hI, Or.inr ⟨(1, (t_L fT n) gi), (by exact a_k0 (by omega)), ⟨by rw [show μ8.1 27 1 = ef10 from by exact hef10]; exact xa10, xb10, by rw [show μ8.1 27 2 = ep10 from by exact hep10]; exact xc10, by rw [show μ8.1 27 5 = 0 from by exact xd10]⟩⟩⟩) dX4_readSide_40
set_option maxHeartbeats 4000000 in
set_option maxRecDepth 100000 in
theorem g_X4_readSide_e (l : Launch) (D : va_G) (cy : Nat → ClassId) (b : Nat) (S : Nat → Bool) (μ0 : mM) (hS5 : S 5 = true) (hS12 : S 12 = true) (ef ep : Int32) (h_ef : ef.toInt ≠ 0) (μ : mM) (hI : IY S μ0 μ) (he1 : μ.1 27 1 = ef) (he2 : μ.1 27 2 = ep) (he5 : μ.1 27 5 = 0) : m_Cv l yX4_readSide cX4_readSide 1 (none) 2 D cy b LAY μ [.ref (b + 27)] (fun ν => IY S μ0 ν ∧ (ν.1 27 1 = ef ∧ ν.1 27 2 = ep ∧ ν.1 27 5 = 0)) := by
  unfold m_Cv
  refine m_of (by decide) (Nat.le_of_ble_eq_true rfl) ?_
  intro p e s m below meth c hx hb hr hml hown hts hlocks _ hW ls hl
  have hown : s.vm.findClass RX4 = some m.cls := hown
  have hl : lv_has ls 1 [(0, .ref (b + 27))] := hl
  refine lv_aload_n hx hb dX4_readSide_0 rfl (lv_at hl 0 rfl) ?_
  refine m_geti hx hb hts hown hW (27) 5 rfl rfl cw_4 rfl (by decide) k_X4_37 dX4_readSide_1 ?_
  refine lv_topi (fun x1 ex1 => ?_)
  have ex1 : x1 = 0 := by rw [ex1]; exact he5
  have ex1 := ex1.symm
  subst ex1
  refine lv_bipush (v := 19) hx hb dX4_readSide_4 (by decide) ?_
  refine lv_bipush (v := 22) hx hb dX4_readSide_6 (by decide) ?_
  have l_0 : (0 : Int32).toInt = 0 := by decide
  have l_19 : (19 : Int32).toInt = 19 := by decide
  have l_22 : (22 : Int32).toInt = 22 := by decide
  refine m_aI hW (m_runSN (As := [.int 0, .int 19, .int 22]) (rest := []) hx hb hml hown hts hW (g_X11_within l D cy b 0 19 22 μ hI.1) ms_X11_within n_X4_60 rfl hl.1 rfl (Nat.le_of_ble_eq_true rfl) dX4_readSide_8 ⟨Nat.le_of_ble_eq_true rfl, Nat.le_of_ble_eq_true rfl⟩ ⟨Nat.le_of_ble_eq_true rfl, Nat.le_of_ble_eq_true rfl⟩) (fun x2 μ2 H locs q2 hW => ?_)
  obtain ⟨q2_m, q2⟩ := q2
  subst q2_m
  rcases q2 with ⟨rfl, q2⟩ | ⟨rfl, q2⟩
  · refine lv_if_eq (tgt := 35) hx hb dX4_readSide_11 (by decide) (fun c => False.elim (by revert c; decide)) (fun _ => ?_)
    refine lv_aload_n hx hb dX4_readSide_14 rfl (lv_at hl 0 rfl) ?_
    refine m_getr hx hb hts hown hW (27) 0 (28) rfl rfl cw_4 rfl (by decide) k_X4_16 dX4_readSide_15 ?_
    refine lv_aload_n hx hb dX4_readSide_18 rfl (lv_at hl 0 rfl) ?_
    refine m_geti hx hb hts hown hW (27) 5 rfl rfl cw_4 rfl (by decide) k_X4_37 dX4_readSide_19 ?_
    refine lv_topi (fun x3 ex3 => ?_)
    have ex3 : x3 = 0 := by rw [ex3]; exact he5
    have ex3 := ex3.symm
    subst ex3
    refine lv_bipush (v := 19) hx hb dX4_readSide_22 (by decide) ?_
    refine lv_isub hx hb dX4_readSide_24 ?_
    refine lv_topi (fun x4 ex4 => ?_)
    have ex4 : x4 = (-19) := by rw [ex4]; decide
    have ex4 := ex4.symm
    subst ex4
    have l_m19 : ((-19) : Int32).toInt = (-19) := by decide
    refine m_aV hW (m_runV (As := [.int (-19)]) (rest := []) hx hb hml hown hts hW (28) (g_X5_add_28 l D cy b (fun g => [12].contains g) μ rfl (-19) μ (IY.rf hI.1)) mi_X5_add k_X4_83 rfl rfl rfl hl.1 rfl (Nat.le_of_ble_eq_true rfl) dX4_readSide_25 ⟨Nat.le_of_ble_eq_true rfl, Nat.le_of_ble_eq_true rfl⟩ ⟨Nat.le_of_ble_eq_true rfl, Nat.le_of_ble_eq_true rfl⟩) (fun μ5 H locs q5 hW => ?_)
    obtain ⟨hJ5, q5⟩ := q5
    have hI := hI.tr hJ5 (m_subL (by simp [hS12]))
    refine lv_aload_n hx hb dX4_readSide_28 rfl (lv_at hl 0 rfl) ?_
    refine m_aV hW (m_runV (As := []) (rest := []) hx hb hml hown hts hW (27) (g_X4_advance_e l D cy b S μ0 hS5 ef ep (by omega) μ5 hI (by exact ((hJ5.2.1 27 1 rfl).trans (by exact he1))) (by exact ((hJ5.2.1 27 2 rfl).trans (by exact he2))) (by exact ((hJ5.2.1 27 5 rfl).trans (by exact he5)))) mi_X4_advance k_X4_80 rfl rfl rfl hl.1 rfl (Nat.le_of_ble_eq_true rfl) dX4_readSide_29 ⟨Nat.le_of_ble_eq_true rfl, Nat.le_of_ble_eq_true rfl⟩ ⟨Nat.le_of_ble_eq_true rfl, Nat.le_of_ble_eq_true rfl⟩) (fun μ6 H locs q6 hW => ?_)
    obtain ⟨hI, q6⟩ := q6
    obtain ⟨q6a, q6b, q6c⟩ := q6
    refine lv_goto (tgt := 40) hx hb dX4_readSide_32 (by decide) ?_
    exact m_vret hx hb hr hlocks hW (⟨hI, ⟨by rw [show μ6.1 27 1 = ef from by exact q6a], by rw [show μ6.1 27 2 = ep from by exact q6b], by rw [show μ6.1 27 5 = 0 from by exact q6c]⟩⟩) dX4_readSide_40
  · refine lv_if_eq (tgt := 35) hx hb dX4_readSide_11 (by decide) (fun _ => ?_) (fun c => False.elim (by revert c; decide))
    refine lv_aload_n hx hb dX4_readSide_35 rfl (lv_at hl 0 rfl) ?_
    refine lv_iconst (v := 1) hx hb dX4_readSide_36 (by decide) ?_
    have l_1 : (1 : Int32).toInt = 1 := by decide
    refine m_aV hW (m_runV (As := [.int 1]) (rest := []) hx hb hml hown hts hW (27) (g_X4_fail_e l D cy b S μ0 hS5 ef ep (by omega) 1 μ hI (by exact he1) (by exact he2) (by exact he5)) mi_X4_fail k_X4_74 rfl rfl rfl hl.1 rfl (Nat.le_of_ble_eq_true rfl) dX4_readSide_37 ⟨Nat.le_of_ble_eq_true rfl, Nat.le_of_ble_eq_true rfl⟩ ⟨Nat.le_of_ble_eq_true rfl, Nat.le_of_ble_eq_true rfl⟩) (fun μ7 H locs q7 hW => ?_)
    obtain ⟨hI, q7⟩ := q7
    obtain ⟨q7a, q7b, q7c⟩ := q7
    exact m_vret hx hb hr hlocks hW (⟨hI, ⟨by rw [show μ7.1 27 1 = ef from by exact q7a], by rw [show μ7.1 27 2 = ep from by exact q7b], by rw [show μ7.1 27 5 = 0 from by exact q7c]⟩⟩) dX4_readSide_40
set_option maxHeartbeats 4000000 in
set_option maxRecDepth 100000 in
theorem g_X4_readTerm_o (l : Launch) (D : va_G) (cy : Nat → ClassId) (b : Nat) (S : Nat → Bool) (μ0 : mM) (hS5 : S 5 = true) (hS12 : S 12 = true) (fT : Nat → Int32) (n cn gi : Nat) (k : Int32) (h_k : 0 ≤ k.toInt ∧ k.toInt ≤ 1) (μ : mM) (hI : IY S μ0 μ) (hxt : m_XT μ fT n cn) (hxs : m_XS μ fT n cn gi) : m_Cv l yX4_readTerm cX4_readTerm 2 (none) 2 D cy b LAY μ [.ref (b + 27), .int k] (fun ν => IY S μ0 ν ∧ ((∃ j, a_T (t_K fT n) (t_L fT n) gi = .inr j ∧ m_XS ν fT n cn j) ∨ (∃ e, a_T (t_K fT n) (t_L fT n) gi = .inl e ∧ m_XE ν e))) := by
  unfold m_Cv
  refine m_of (by decide) (Nat.le_of_ble_eq_true rfl) ?_
  intro p e s m below meth c hx hb hr hml hown hts hlocks _ hW ls hl
  have hown : s.vm.findClass RX4 = some m.cls := hown
  have hl : lv_has ls 2 [(0, .ref (b + 27)), (1, .int k)] := hl
  obtain ⟨xs1, xs2, xs3, xs4, xs5⟩ := hxs
  obtain ⟨cu, hcu⟩ : ∃ z, μ.1 27 4 = z := ⟨_, rfl⟩
  rw [hcu] at xs2
  obtain ⟨tk, htk⟩ : ∃ z, μ.1 27 5 = z := ⟨_, rfl⟩
  rw [htk] at xs3
  have hc4 : cn ≤ 400 := by have := hxt.1.2.2; have := hxt.2.2.2.2; omega
  refine lv_aload_n hx hb dX4_readTerm_0 rfl (lv_at hl 0 rfl) ?_
  refine m_geti hx hb hts hown hW (27) 5 rfl rfl cw_4 rfl (by decide) k_X4_37 dX4_readTerm_1 ?_
  refine lv_topi (fun x1 ex1 => ?_)
  have ex1 : x1 = tk := by rw [ex1]; exact htk
  have ex1 := ex1.symm
  subst ex1
  refine lv_iconst (v := 2) hx hb dX4_readTerm_4 (by decide) ?_
  refine lv_icmp_eq (tgt := 22) hx hb dX4_readTerm_5 (by decide) (fun c2 => ?_) (fun c2 => ?_)
  · have i2 := m_c5 (rfl : tk.toInt = _) (by decide : (2 : Int32).toInt = 2) c2
    refine lv_aload_n hx hb dX4_readTerm_22 rfl (lv_at hl 0 rfl) ?_
    refine m_getr hx hb hts hown hW (27) 0 (28) rfl rfl cw_4 rfl (by decide) k_X4_16 dX4_readTerm_23 ?_
    refine lv_iload_n hx hb dX4_readTerm_26 rfl (lv_at hl 1 rfl) ?_
    refine lv_if_eq (tgt := 38) hx hb dX4_readTerm_27 (by decide) (fun c3 => ?_) (fun c3 => ?_)
    · have i3 := m_c5 (rfl : k.toInt = _) (by decide : (0 : Int32).toInt = 0) c3
      refine lv_aload_n hx hb dX4_readTerm_38 rfl (lv_at hl 0 rfl) ?_
      refine m_geti hx hb hts hown hW (27) 5 rfl rfl cw_4 rfl (by decide) k_X4_37 dX4_readTerm_39 ?_
      refine lv_topi (fun x4 ex4 => ?_)
      have ex4 : x4 = tk := by rw [ex4]; exact htk
      have ex4 := ex4.symm
      subst ex4
      refine m_aV hW (m_runV (As := [.int tk]) (rest := []) hx hb hml hown hts hW (28) (g_X5_add_28 l D cy b (fun g => [12].contains g) μ rfl tk μ (IY.rf hI.1)) mi_X5_add k_X4_83 rfl rfl rfl hl.1 rfl (Nat.le_of_ble_eq_true rfl) dX4_readTerm_42 ⟨Nat.le_of_ble_eq_true rfl, Nat.le_of_ble_eq_true rfl⟩ ⟨Nat.le_of_ble_eq_true rfl, Nat.le_of_ble_eq_true rfl⟩) (fun μ5 H locs q5 hW => ?_)
      obtain ⟨hJ5, q5⟩ := q5
      have hI := hI.tr hJ5 (m_subL (by simp [hS12]))
      have hxt : m_XT μ5 fT n cn := hxt.fr hJ5 rfl rfl rfl
      refine lv_aload_n hx hb dX4_readTerm_45 rfl (lv_at hl 0 rfl) ?_
      refine m_getr hx hb hts hown hW (27) 0 (28) rfl rfl cw_4 rfl (by decide) k_X4_16 dX4_readTerm_46 ?_
      refine lv_aload_n hx hb dX4_readTerm_49 rfl (lv_at hl 0 rfl) ?_
      refine m_getr hx hb hts hown hW (27) 3 (30) rfl rfl cw_4 rfl (by decide) k_X4_30 dX4_readTerm_50 ?_
      refine m_getr hx hb hts hown hW (30) 2 (35) rfl rfl cw_8 rfl (by decide) k_X4_124 dX4_readTerm_53 ?_
      refine lv_aload_n hx hb dX4_readTerm_56 rfl (lv_at hl 0 rfl) ?_
      refine m_geti hx hb hts hown hW (27) 4 rfl rfl cw_4 rfl (by decide) k_X4_34 dX4_readTerm_57 ?_
      refine lv_topi (fun x6 ex6 => ?_)
      have ex6 : x6 = cu := by rw [ex6]; exact ((hJ5.2.1 27 4 rfl).trans (by exact hcu))
      have ex6 := ex6.symm
      subst ex6
      obtain ⟨x7, hx7⟩ : ∃ z, μ5.1 35 1 = z := ⟨_, rfl⟩
      have bx7 : 0 ≤ x7.toInt ∧ x7.toInt ≤ 401 := by rw [← hx7]; exact hI.1 _ _ _ _ rfl
      refine m_aI hW (m_runV (As := [.int cu]) (rest := [.ref (b + 28)]) hx hb hml hown hts hW (35) (g_X5_at_at35 l D cy b x7 (by omega) (μ5.1 36) cu μ5 hI.1 (by exact hx7) rfl) mi_X5_at k_X4_56 rfl rfl rfl hl.1 rfl (Nat.le_of_ble_eq_true rfl) dX4_readTerm_60 ⟨Nat.le_of_ble_eq_true rfl, Nat.le_of_ble_eq_true rfl⟩ ⟨Nat.le_of_ble_eq_true rfl, Nat.le_of_ble_eq_true rfl⟩) (fun x8 μ8 H locs q8 hW => ?_)
      obtain ⟨q8_m, q8⟩ := q8
      subst q8_m
      refine m_aV hW (m_runV (As := [.int x8]) (rest := []) hx hb hml hown hts hW (28) (g_X5_add_28 l D cy b (fun g => [12].contains g) μ5 rfl x8 μ5 (IY.rf hI.1)) mi_X5_add k_X4_83 rfl rfl rfl hl.1 rfl (Nat.le_of_ble_eq_true rfl) dX4_readTerm_63 ⟨Nat.le_of_ble_eq_true rfl, Nat.le_of_ble_eq_true rfl⟩ ⟨Nat.le_of_ble_eq_true rfl, Nat.le_of_ble_eq_true rfl⟩) (fun μ9 H locs q9 hW => ?_)
      obtain ⟨hJ9, q9⟩ := q9
      have hI := hI.tr hJ9 (m_subL (by simp [hS12]))
      have hxt : m_XT μ9 fT n cn := hxt.fr hJ9 rfl rfl rfl
      refine lv_aload_n hx hb dX4_readTerm_66 rfl (lv_at hl 0 rfl) ?_
      refine m_aV hW (m_runV (As := []) (rest := []) hx hb hml hown hts hW (27) (g_X4_advance_o l D cy b (fun g => [5].contains g) μ9 rfl fT n cn gi (hxt.lt (by omega) (by omega)) μ9 (IY.rf hI.1) hxt ⟨by exact ((hJ9.2.1 27 1 rfl).trans (by exact ((hJ5.2.1 27 1 rfl).trans (by exact xs1)))), by rw [show μ9.1 27 4 = cu from by exact ((hJ9.2.1 27 4 rfl).trans (by exact ((hJ5.2.1 27 4 rfl).trans (by exact hcu))))]; omega, by rw [show μ9.1 27 5 = tk from by exact ((hJ9.2.1 27 5 rfl).trans (by exact ((hJ5.2.1 27 5 rfl).trans (by exact htk))))]; omega, by omega, by exact ((hJ9.2.1 27 2 rfl).trans (by exact ((hJ5.2.1 27 2 rfl).trans (by exact xs5))))⟩) mi_X4_advance k_X4_80 rfl rfl rfl hl.1 rfl (Nat.le_of_ble_eq_true rfl) dX4_readTerm_67 ⟨Nat.le_of_ble_eq_true rfl, Nat.le_of_ble_eq_true rfl⟩ ⟨Nat.le_of_ble_eq_true rfl, Nat.le_of_ble_eq_true rfl⟩) (fun μ10 H locs q10 hW => ?_)
      obtain ⟨hJ10, q10⟩ := q10
      have hI := hI.tr hJ10 (m_subL (by simp [hS5]))
      have hxt : m_XT μ10 fT n cn := hxt.fr hJ10 rfl rfl rfl
      obtain ⟨xa11, xb11, xc11, xd11, xf11⟩ := q10
      obtain ⟨cu11, hcu11⟩ : ∃ z, μ10.1 27 4 = z := ⟨_, rfl⟩
      rw [hcu11] at xb11
      obtain ⟨tk11, htk11⟩ : ∃ z, μ10.1 27 5 = z := ⟨_, rfl⟩
      rw [htk11] at xc11
      refine lv_goto (tgt := 78) hx hb dX4_readTerm_70 (by decide) ?_
      exact m_vret hx hb hr hlocks hW (⟨hI, Or.inl ⟨(gi + 1), (by exact a_T1 (by omega)), ⟨by rw [show μ10.1 27 1 = 0 from by exact xa11], by rw [show μ10.1 27 4 = cu11 from by exact hcu11]; omega, by rw [show μ10.1 27 5 = tk11 from by exact htk11]; omega, by omega, by rw [show μ10.1 27 2 = (-1) from by exact xf11]⟩⟩⟩) dX4_readTerm_78
    · have i3 := m_c6 (rfl : k.toInt = _) (by decide : (0 : Int32).toInt = 0) c3
      refine lv_aload_n hx hb dX4_readTerm_30 rfl (lv_at hl 0 rfl) ?_
      refine m_geti hx hb hts hown hW (27) 5 rfl rfl cw_4 rfl (by decide) k_X4_37 dX4_readTerm_31 ?_
      refine lv_topi (fun x12 ex12 => ?_)
      have ex12 : x12 = tk := by rw [ex12]; exact htk
      have ex12 := ex12.symm
      subst ex12
      refine lv_ineg hx hb dX4_readTerm_34 ?_
      refine lv_topi (fun x13 ex13 => ?_)
      refine lv_goto (tgt := 42) hx hb dX4_readTerm_35 (by decide) ?_
      refine m_aV hW (m_runV (As := [.int x13]) (rest := []) hx hb hml hown hts hW (28) (g_X5_add_28 l D cy b (fun g => [12].contains g) μ rfl x13 μ (IY.rf hI.1)) mi_X5_add k_X4_83 rfl rfl rfl hl.1 rfl (Nat.le_of_ble_eq_true rfl) dX4_readTerm_42 ⟨Nat.le_of_ble_eq_true rfl, Nat.le_of_ble_eq_true rfl⟩ ⟨Nat.le_of_ble_eq_true rfl, Nat.le_of_ble_eq_true rfl⟩) (fun μ14 H locs q14 hW => ?_)
      obtain ⟨hJ14, q14⟩ := q14
      have hI := hI.tr hJ14 (m_subL (by simp [hS12]))
      have hxt : m_XT μ14 fT n cn := hxt.fr hJ14 rfl rfl rfl
      refine lv_aload_n hx hb dX4_readTerm_45 rfl (lv_at hl 0 rfl) ?_
      refine m_getr hx hb hts hown hW (27) 0 (28) rfl rfl cw_4 rfl (by decide) k_X4_16 dX4_readTerm_46 ?_
      refine lv_aload_n hx hb dX4_readTerm_49 rfl (lv_at hl 0 rfl) ?_
      refine m_getr hx hb hts hown hW (27) 3 (30) rfl rfl cw_4 rfl (by decide) k_X4_30 dX4_readTerm_50 ?_
      refine m_getr hx hb hts hown hW (30) 2 (35) rfl rfl cw_8 rfl (by decide) k_X4_124 dX4_readTerm_53 ?_
      refine lv_aload_n hx hb dX4_readTerm_56 rfl (lv_at hl 0 rfl) ?_
      refine m_geti hx hb hts hown hW (27) 4 rfl rfl cw_4 rfl (by decide) k_X4_34 dX4_readTerm_57 ?_
      refine lv_topi (fun x15 ex15 => ?_)
      have ex15 : x15 = cu := by rw [ex15]; exact ((hJ14.2.1 27 4 rfl).trans (by exact hcu))
      have ex15 := ex15.symm
      subst ex15
      obtain ⟨x16, hx16⟩ : ∃ z, μ14.1 35 1 = z := ⟨_, rfl⟩
      have bx16 : 0 ≤ x16.toInt ∧ x16.toInt ≤ 401 := by rw [← hx16]; exact hI.1 _ _ _ _ rfl
      refine m_aI hW (m_runV (As := [.int cu]) (rest := [.ref (b + 28)]) hx hb hml hown hts hW (35) (g_X5_at_at35 l D cy b x16 (by omega) (μ14.1 36) cu μ14 hI.1 (by exact hx16) rfl) mi_X5_at k_X4_56 rfl rfl rfl hl.1 rfl (Nat.le_of_ble_eq_true rfl) dX4_readTerm_60 ⟨Nat.le_of_ble_eq_true rfl, Nat.le_of_ble_eq_true rfl⟩ ⟨Nat.le_of_ble_eq_true rfl, Nat.le_of_ble_eq_true rfl⟩) (fun x17 μ17 H locs q17 hW => ?_)
      obtain ⟨q17_m, q17⟩ := q17
      subst q17_m
      refine m_aV hW (m_runV (As := [.int x17]) (rest := []) hx hb hml hown hts hW (28) (g_X5_add_28 l D cy b (fun g => [12].contains g) μ14 rfl x17 μ14 (IY.rf hI.1)) mi_X5_add k_X4_83 rfl rfl rfl hl.1 rfl (Nat.le_of_ble_eq_true rfl) dX4_readTerm_63 ⟨Nat.le_of_ble_eq_true rfl, Nat.le_of_ble_eq_true rfl⟩ ⟨Nat.le_of_ble_eq_true rfl, Nat.le_of_ble_eq_true rfl⟩) (fun μ18 H locs q18 hW => ?_)
      obtain ⟨hJ18, q18⟩ := q18
      have hI := hI.tr hJ18 (m_subL (by simp [hS12]))
      have hxt : m_XT μ18 fT n cn := hxt.fr hJ18 rfl rfl rfl
      refine lv_aload_n hx hb dX4_readTerm_66 rfl (lv_at hl 0 rfl) ?_
      refine m_aV hW (m_runV (As := []) (rest := []) hx hb hml hown hts hW (27) (g_X4_advance_o l D cy b (fun g => [5].contains g) μ18 rfl fT n cn gi (hxt.lt (by omega) (by omega)) μ18 (IY.rf hI.1) hxt ⟨by exact ((hJ18.2.1 27 1 rfl).trans (by exact ((hJ14.2.1 27 1 rfl).trans (by exact xs1)))), by rw [show μ18.1 27 4 = cu from by exact ((hJ18.2.1 27 4 rfl).trans (by exact ((hJ14.2.1 27 4 rfl).trans (by exact hcu))))]; omega, by rw [show μ18.1 27 5 = tk from by exact ((hJ18.2.1 27 5 rfl).trans (by exact ((hJ14.2.1 27 5 rfl).trans (by exact htk))))]; omega, by omega, by exact ((hJ18.2.1 27 2 rfl).trans (by exact ((hJ14.2.1 27 2 rfl).trans (by exact xs5))))⟩) mi_X4_advance k_X4_80 rfl rfl rfl hl.1 rfl (Nat.le_of_ble_eq_true rfl) dX4_readTerm_67 ⟨Nat.le_of_ble_eq_true rfl, Nat.le_of_ble_eq_true rfl⟩ ⟨Nat.le_of_ble_eq_true rfl, Nat.le_of_ble_eq_true rfl⟩) (fun μ19 H locs q19 hW => ?_)
      obtain ⟨hJ19, q19⟩ := q19
      have hI := hI.tr hJ19 (m_subL (by simp [hS5]))
      have hxt : m_XT μ19 fT n cn := hxt.fr hJ19 rfl rfl rfl
      obtain ⟨xa20, xb20, xc20, xd20, xf20⟩ := q19
      obtain ⟨cu20, hcu20⟩ : ∃ z, μ19.1 27 4 = z := ⟨_, rfl⟩
      rw [hcu20] at xb20
      obtain ⟨tk20, htk20⟩ : ∃ z, μ19.1 27 5 = z := ⟨_, rfl⟩
      rw [htk20] at xc20
      refine lv_goto (tgt := 78) hx hb dX4_readTerm_70 (by decide) ?_
      exact m_vret hx hb hr hlocks hW (⟨hI, Or.inl ⟨(gi + 1), (by exact a_T1 (by omega)), ⟨by rw [show μ19.1 27 1 = 0 from by exact xa20], by rw [show μ19.1 27 4 = cu20 from by exact hcu20]; omega, by rw [show μ19.1 27 5 = tk20 from by exact htk20]; omega, by omega, by rw [show μ19.1 27 2 = (-1) from by exact xf20]⟩⟩⟩) dX4_readTerm_78
  · have i2 := m_c6 (rfl : tk.toInt = _) (by decide : (2 : Int32).toInt = 2) c2
    refine lv_aload_n hx hb dX4_readTerm_8 rfl (lv_at hl 0 rfl) ?_
    refine m_geti hx hb hts hown hW (27) 5 rfl rfl cw_4 rfl (by decide) k_X4_37 dX4_readTerm_9 ?_
    refine lv_topi (fun x21 ex21 => ?_)
    have ex21 : x21 = tk := by rw [ex21]; exact htk
    have ex21 := ex21.symm
    subst ex21
    refine lv_bipush (v := 23) hx hb dX4_readTerm_12 (by decide) ?_
    refine lv_bipush (v := 27) hx hb dX4_readTerm_14 (by decide) ?_
    have l_23 : (23 : Int32).toInt = 23 := by decide
    have l_27 : (27 : Int32).toInt = 27 := by decide
    refine m_aI hW (m_runSN (As := [.int tk, .int 23, .int 27]) (rest := []) hx hb hml hown hts hW (g_X11_within l D cy b tk 23 27 μ hI.1) ms_X11_within n_X4_60 rfl hl.1 rfl (Nat.le_of_ble_eq_true rfl) dX4_readTerm_16 ⟨Nat.le_of_ble_eq_true rfl, Nat.le_of_ble_eq_true rfl⟩ ⟨Nat.le_of_ble_eq_true rfl, Nat.le_of_ble_eq_true rfl⟩) (fun x22 μ22 H locs q22 hW => ?_)
    obtain ⟨q22_m, q22⟩ := q22
    subst q22_m
    rcases q22 with ⟨rfl, q22⟩ | ⟨rfl, q22⟩
    · refine lv_if_eq (tgt := 73) hx hb dX4_readTerm_19 (by decide) (fun c => False.elim (by revert c; decide)) (fun _ => ?_)
      refine lv_aload_n hx hb dX4_readTerm_22 rfl (lv_at hl 0 rfl) ?_
      refine m_getr hx hb hts hown hW (27) 0 (28) rfl rfl cw_4 rfl (by decide) k_X4_16 dX4_readTerm_23 ?_
      refine lv_iload_n hx hb dX4_readTerm_26 rfl (lv_at hl 1 rfl) ?_
      refine lv_if_eq (tgt := 38) hx hb dX4_readTerm_27 (by decide) (fun c23 => ?_) (fun c23 => ?_)
      · have i23 := m_c5 (rfl : k.toInt = _) (by decide : (0 : Int32).toInt = 0) c23
        refine lv_aload_n hx hb dX4_readTerm_38 rfl (lv_at hl 0 rfl) ?_
        refine m_geti hx hb hts hown hW (27) 5 rfl rfl cw_4 rfl (by decide) k_X4_37 dX4_readTerm_39 ?_
        refine lv_topi (fun x24 ex24 => ?_)
        have ex24 : x24 = tk := by rw [ex24]; exact htk
        have ex24 := ex24.symm
        subst ex24
        refine m_aV hW (m_runV (As := [.int tk]) (rest := []) hx hb hml hown hts hW (28) (g_X5_add_28 l D cy b (fun g => [12].contains g) μ rfl tk μ (IY.rf hI.1)) mi_X5_add k_X4_83 rfl rfl rfl hl.1 rfl (Nat.le_of_ble_eq_true rfl) dX4_readTerm_42 ⟨Nat.le_of_ble_eq_true rfl, Nat.le_of_ble_eq_true rfl⟩ ⟨Nat.le_of_ble_eq_true rfl, Nat.le_of_ble_eq_true rfl⟩) (fun μ25 H locs q25 hW => ?_)
        obtain ⟨hJ25, q25⟩ := q25
        have hI := hI.tr hJ25 (m_subL (by simp [hS12]))
        have hxt : m_XT μ25 fT n cn := hxt.fr hJ25 rfl rfl rfl
        refine lv_aload_n hx hb dX4_readTerm_45 rfl (lv_at hl 0 rfl) ?_
        refine m_getr hx hb hts hown hW (27) 0 (28) rfl rfl cw_4 rfl (by decide) k_X4_16 dX4_readTerm_46 ?_
        refine lv_aload_n hx hb dX4_readTerm_49 rfl (lv_at hl 0 rfl) ?_
        refine m_getr hx hb hts hown hW (27) 3 (30) rfl rfl cw_4 rfl (by decide) k_X4_30 dX4_readTerm_50 ?_
        refine m_getr hx hb hts hown hW (30) 2 (35) rfl rfl cw_8 rfl (by decide) k_X4_124 dX4_readTerm_53 ?_
        refine lv_aload_n hx hb dX4_readTerm_56 rfl (lv_at hl 0 rfl) ?_
        refine m_geti hx hb hts hown hW (27) 4 rfl rfl cw_4 rfl (by decide) k_X4_34 dX4_readTerm_57 ?_
        refine lv_topi (fun x26 ex26 => ?_)
        have ex26 : x26 = cu := by rw [ex26]; exact ((hJ25.2.1 27 4 rfl).trans (by exact hcu))
        have ex26 := ex26.symm
        subst ex26
        obtain ⟨x27, hx27⟩ : ∃ z, μ25.1 35 1 = z := ⟨_, rfl⟩
        have bx27 : 0 ≤ x27.toInt ∧ x27.toInt ≤ 401 := by rw [← hx27]; exact hI.1 _ _ _ _ rfl
        refine m_aI hW (m_runV (As := [.int cu]) (rest := [.ref (b + 28)]) hx hb hml hown hts hW (35) (g_X5_at_at35 l D cy b x27 (by omega) (μ25.1 36) cu μ25 hI.1 (by exact hx27) rfl) mi_X5_at k_X4_56 rfl rfl rfl hl.1 rfl (Nat.le_of_ble_eq_true rfl) dX4_readTerm_60 ⟨Nat.le_of_ble_eq_true rfl, Nat.le_of_ble_eq_true rfl⟩ ⟨Nat.le_of_ble_eq_true rfl, Nat.le_of_ble_eq_true rfl⟩) (fun x28 μ28 H locs q28 hW => ?_)
        obtain ⟨q28_m, q28⟩ := q28
        subst q28_m
        refine m_aV hW (m_runV (As := [.int x28]) (rest := []) hx hb hml hown hts hW (28) (g_X5_add_28 l D cy b (fun g => [12].contains g) μ25 rfl x28 μ25 (IY.rf hI.1)) mi_X5_add k_X4_83 rfl rfl rfl hl.1 rfl (Nat.le_of_ble_eq_true rfl) dX4_readTerm_63 ⟨Nat.le_of_ble_eq_true rfl, Nat.le_of_ble_eq_true rfl⟩ ⟨Nat.le_of_ble_eq_true rfl, Nat.le_of_ble_eq_true rfl⟩) (fun μ29 H locs q29 hW => ?_)
        obtain ⟨hJ29, q29⟩ := q29
        have hI := hI.tr hJ29 (m_subL (by simp [hS12]))
        have hxt : m_XT μ29 fT n cn := hxt.fr hJ29 rfl rfl rfl
        refine lv_aload_n hx hb dX4_readTerm_66 rfl (lv_at hl 0 rfl) ?_
        refine m_aV hW (m_runV (As := []) (rest := []) hx hb hml hown hts hW (27) (g_X4_advance_o l D cy b (fun g => [5].contains g) μ29 rfl fT n cn gi (hxt.lt (by omega) (by omega)) μ29 (IY.rf hI.1) hxt ⟨by exact ((hJ29.2.1 27 1 rfl).trans (by exact ((hJ25.2.1 27 1 rfl).trans (by exact xs1)))), by rw [show μ29.1 27 4 = cu from by exact ((hJ29.2.1 27 4 rfl).trans (by exact ((hJ25.2.1 27 4 rfl).trans (by exact hcu))))]; omega, by rw [show μ29.1 27 5 = tk from by exact ((hJ29.2.1 27 5 rfl).trans (by exact ((hJ25.2.1 27 5 rfl).trans (by exact htk))))]; omega, by omega, by exact ((hJ29.2.1 27 2 rfl).trans (by exact ((hJ25.2.1 27 2 rfl).trans (by exact xs5))))⟩) mi_X4_advance k_X4_80 rfl rfl rfl hl.1 rfl (Nat.le_of_ble_eq_true rfl) dX4_readTerm_67 ⟨Nat.le_of_ble_eq_true rfl, Nat.le_of_ble_eq_true rfl⟩ ⟨Nat.le_of_ble_eq_true rfl, Nat.le_of_ble_eq_true rfl⟩) (fun μ30 H locs q30 hW => ?_)
        obtain ⟨hJ30, q30⟩ := q30
        have hI := hI.tr hJ30 (m_subL (by simp [hS5]))
        have hxt : m_XT μ30 fT n cn := hxt.fr hJ30 rfl rfl rfl
        obtain ⟨xa31, xb31, xc31, xd31, xf31⟩ := q30
        obtain ⟨cu31, hcu31⟩ : ∃ z, μ30.1 27 4 = z := ⟨_, rfl⟩
        rw [hcu31] at xb31
        obtain ⟨tk31, htk31⟩ : ∃ z, μ30.1 27 5 = z := ⟨_, rfl⟩
        rw [htk31] at xc31
        refine lv_goto (tgt := 78) hx hb dX4_readTerm_70 (by decide) ?_
        exact m_vret hx hb hr hlocks hW (⟨hI, Or.inl ⟨(gi + 1), (by exact a_T1 (by omega)), ⟨by rw [show μ30.1 27 1 = 0 from by exact xa31], by rw [show μ30.1 27 4 = cu31 from by exact hcu31]; omega, by rw [show μ30.1 27 5 = tk31 from by exact htk31]; omega, by omega, by rw [show μ30.1 27 2 = (-1) from by exact xf31]⟩⟩⟩) dX4_readTerm_78
      · have i23 := m_c6 (rfl : k.toInt = _) (by decide : (0 : Int32).toInt = 0) c23
        refine lv_aload_n hx hb dX4_readTerm_30 rfl (lv_at hl 0 rfl) ?_
        refine m_geti hx hb hts hown hW (27) 5 rfl rfl cw_4 rfl (by decide) k_X4_37 dX4_readTerm_31 ?_
        refine lv_topi (fun x32 ex32 => ?_)
        have ex32 : x32 = tk := by rw [ex32]; exact htk
        have ex32 := ex32.symm
        subst ex32
        refine lv_ineg hx hb dX4_readTerm_34 ?_
        refine lv_topi (fun x33 ex33 => ?_)
        refine lv_goto (tgt := 42) hx hb dX4_readTerm_35 (by decide) ?_
        refine m_aV hW (m_runV (As := [.int x33]) (rest := []) hx hb hml hown hts hW (28) (g_X5_add_28 l D cy b (fun g => [12].contains g) μ rfl x33 μ (IY.rf hI.1)) mi_X5_add k_X4_83 rfl rfl rfl hl.1 rfl (Nat.le_of_ble_eq_true rfl) dX4_readTerm_42 ⟨Nat.le_of_ble_eq_true rfl, Nat.le_of_ble_eq_true rfl⟩ ⟨Nat.le_of_ble_eq_true rfl, Nat.le_of_ble_eq_true rfl⟩) (fun μ34 H locs q34 hW => ?_)
        obtain ⟨hJ34, q34⟩ := q34
        have hI := hI.tr hJ34 (m_subL (by simp [hS12]))
        have hxt : m_XT μ34 fT n cn := hxt.fr hJ34 rfl rfl rfl
        refine lv_aload_n hx hb dX4_readTerm_45 rfl (lv_at hl 0 rfl) ?_
        refine m_getr hx hb hts hown hW (27) 0 (28) rfl rfl cw_4 rfl (by decide) k_X4_16 dX4_readTerm_46 ?_
        refine lv_aload_n hx hb dX4_readTerm_49 rfl (lv_at hl 0 rfl) ?_
        refine m_getr hx hb hts hown hW (27) 3 (30) rfl rfl cw_4 rfl (by decide) k_X4_30 dX4_readTerm_50 ?_
        refine m_getr hx hb hts hown hW (30) 2 (35) rfl rfl cw_8 rfl (by decide) k_X4_124 dX4_readTerm_53 ?_
        refine lv_aload_n hx hb dX4_readTerm_56 rfl (lv_at hl 0 rfl) ?_
        refine m_geti hx hb hts hown hW (27) 4 rfl rfl cw_4 rfl (by decide) k_X4_34 dX4_readTerm_57 ?_
        refine lv_topi (fun x35 ex35 => ?_)
        have ex35 : x35 = cu := by rw [ex35]; exact ((hJ34.2.1 27 4 rfl).trans (by exact hcu))
        have ex35 := ex35.symm
        subst ex35
        obtain ⟨x36, hx36⟩ : ∃ z, μ34.1 35 1 = z := ⟨_, rfl⟩
        have bx36 : 0 ≤ x36.toInt ∧ x36.toInt ≤ 401 := by rw [← hx36]; exact hI.1 _ _ _ _ rfl
        refine m_aI hW (m_runV (As := [.int cu]) (rest := [.ref (b + 28)]) hx hb hml hown hts hW (35) (g_X5_at_at35 l D cy b x36 (by omega) (μ34.1 36) cu μ34 hI.1 (by exact hx36) rfl) mi_X5_at k_X4_56 rfl rfl rfl hl.1 rfl (Nat.le_of_ble_eq_true rfl) dX4_readTerm_60 ⟨Nat.le_of_ble_eq_true rfl, Nat.le_of_ble_eq_true rfl⟩ ⟨Nat.le_of_ble_eq_true rfl, Nat.le_of_ble_eq_true rfl⟩) (fun x37 μ37 H locs q37 hW => ?_)
        obtain ⟨q37_m, q37⟩ := q37
        subst q37_m
        refine m_aV hW (m_runV (As := [.int x37]) (rest := []) hx hb hml hown hts hW (28) (g_X5_add_28 l D cy b (fun g => [12].contains g) μ34 rfl x37 μ34 (IY.rf hI.1)) mi_X5_add k_X4_83 rfl rfl rfl hl.1 rfl (Nat.le_of_ble_eq_true rfl) dX4_readTerm_63 ⟨Nat.le_of_ble_eq_true rfl, Nat.le_of_ble_eq_true rfl⟩ ⟨Nat.le_of_ble_eq_true rfl, Nat.le_of_ble_eq_true rfl⟩) (fun μ38 H locs q38 hW => ?_)
        obtain ⟨hJ38, q38⟩ := q38
        have hI := hI.tr hJ38 (m_subL (by simp [hS12]))
        have hxt : m_XT μ38 fT n cn := hxt.fr hJ38 rfl rfl rfl
        refine lv_aload_n hx hb dX4_readTerm_66 rfl (lv_at hl 0 rfl) ?_
        refine m_aV hW (m_runV (As := []) (rest := []) hx hb hml hown hts hW (27) (g_X4_advance_o l D cy b (fun g => [5].contains g) μ38 rfl fT n cn gi (hxt.lt (by omega) (by omega)) μ38 (IY.rf hI.1) hxt ⟨by exact ((hJ38.2.1 27 1 rfl).trans (by exact ((hJ34.2.1 27 1 rfl).trans (by exact xs1)))), by rw [show μ38.1 27 4 = cu from by exact ((hJ38.2.1 27 4 rfl).trans (by exact ((hJ34.2.1 27 4 rfl).trans (by exact hcu))))]; omega, by rw [show μ38.1 27 5 = tk from by exact ((hJ38.2.1 27 5 rfl).trans (by exact ((hJ34.2.1 27 5 rfl).trans (by exact htk))))]; omega, by omega, by exact ((hJ38.2.1 27 2 rfl).trans (by exact ((hJ34.2.1 27 2 rfl).trans (by exact xs5))))⟩) mi_X4_advance k_X4_80 rfl rfl rfl hl.1 rfl (Nat.le_of_ble_eq_true rfl) dX4_readTerm_67 ⟨Nat.le_of_ble_eq_true rfl, Nat.le_of_ble_eq_true rfl⟩ ⟨Nat.le_of_ble_eq_true rfl, Nat.le_of_ble_eq_true rfl⟩) (fun μ39 H locs q39 hW => ?_)
        obtain ⟨hJ39, q39⟩ := q39
        have hI := hI.tr hJ39 (m_subL (by simp [hS5]))
        have hxt : m_XT μ39 fT n cn := hxt.fr hJ39 rfl rfl rfl
        obtain ⟨xa40, xb40, xc40, xd40, xf40⟩ := q39
        obtain ⟨cu40, hcu40⟩ : ∃ z, μ39.1 27 4 = z := ⟨_, rfl⟩
        rw [hcu40] at xb40
        obtain ⟨tk40, htk40⟩ : ∃ z, μ39.1 27 5 = z := ⟨_, rfl⟩
        rw [htk40] at xc40
        refine lv_goto (tgt := 78) hx hb dX4_readTerm_70 (by decide) ?_
        exact m_vret hx hb hr hlocks hW (⟨hI, Or.inl ⟨(gi + 1), (by exact a_T1 (by omega)), ⟨by rw [show μ39.1 27 1 = 0 from by exact xa40], by rw [show μ39.1 27 4 = cu40 from by exact hcu40]; omega, by rw [show μ39.1 27 5 = tk40 from by exact htk40]; omega, by omega, by rw [show μ39.1 27 2 = (-1) from by exact xf40]⟩⟩⟩) dX4_readTerm_78
    · refine lv_if_eq (tgt := 73) hx hb dX4_readTerm_19 (by decide) (fun _ => ?_) (fun c => False.elim (by revert c; decide))
      refine lv_aload_n hx hb dX4_readTerm_73 rfl (lv_at hl 0 rfl) ?_
      refine lv_iconst (v := 1) hx hb dX4_readTerm_74 (by decide) ?_
      have l_1 : (1 : Int32).toInt = 1 := by decide
      refine m_aV hW (m_runV (As := [.int 1]) (rest := []) hx hb hml hown hts hW (27) (g_X4_fail_o l D cy b (fun g => [5].contains g) μ rfl fT n cn gi 1 (by omega) μ (IY.rf hI.1) hxt ⟨by exact xs1, by rw [show μ.1 27 4 = cu from by exact hcu]; omega, by rw [show μ.1 27 5 = tk from by exact htk]; omega, by omega, by exact xs5⟩) mi_X4_fail k_X4_74 rfl rfl rfl hl.1 rfl (Nat.le_of_ble_eq_true rfl) dX4_readTerm_75 ⟨Nat.le_of_ble_eq_true rfl, Nat.le_of_ble_eq_true rfl⟩ ⟨Nat.le_of_ble_eq_true rfl, Nat.le_of_ble_eq_true rfl⟩) (fun μ41 H locs q41 hW => ?_)
      obtain ⟨hJ41, q41⟩ := q41
      have hI := hI.tr hJ41 (m_subL (by simp [hS5]))
      have hxt : m_XT μ41 fT n cn := hxt.fr hJ41 rfl rfl rfl
      rw [show (1 : Int32).toInt = 1 from by decide] at q41
      have hxe42 : m_XE μ41 (1, (t_L fT n) gi) := q41
      obtain ⟨xa43, xb43, xc43, xd43⟩ := hxe42
      obtain ⟨ef43, hef43⟩ : ∃ z, μ41.1 27 1 = z := ⟨_, rfl⟩
      rw [hef43] at xa43
      obtain ⟨ep43, hep43⟩ : ∃ z, μ41.1 27 2 = z := ⟨_, rfl⟩
      rw [hep43] at xc43
      exact m_vret hx hb hr hlocks hW (⟨hI, Or.inr ⟨(1, (t_L fT n) gi), (by exact a_T0 (by omega)), ⟨by rw [show μ41.1 27 1 = ef43 from by exact hef43]; exact xa43, xb43, by rw [show μ41.1 27 2 = ep43 from by exact hep43]; exact xc43, by rw [show μ41.1 27 5 = 0 from by exact xd43]⟩⟩⟩) dX4_readTerm_78
set_option maxHeartbeats 4000000 in
set_option maxRecDepth 100000 in
theorem g_X4_readTerm_e (l : Launch) (D : va_G) (cy : Nat → ClassId) (b : Nat) (S : Nat → Bool) (μ0 : mM) (hS5 : S 5 = true) (hS12 : S 12 = true) (ef ep : Int32) (h_ef : ef.toInt ≠ 0) (k : Int32) (h_k : 0 ≤ k.toInt ∧ k.toInt ≤ 1) (μ : mM) (hI : IY S μ0 μ) (he1 : μ.1 27 1 = ef) (he2 : μ.1 27 2 = ep) (he5 : μ.1 27 5 = 0) : m_Cv l yX4_readTerm cX4_readTerm 2 (none) 2 D cy b LAY μ [.ref (b + 27), .int k] (fun ν => IY S μ0 ν ∧ (ν.1 27 1 = ef ∧ ν.1 27 2 = ep ∧ ν.1 27 5 = 0)) := by
  unfold m_Cv
  refine m_of (by decide) (Nat.le_of_ble_eq_true rfl) ?_
  intro p e s m below meth c hx hb hr hml hown hts hlocks _ hW ls hl
  have hown : s.vm.findClass RX4 = some m.cls := hown
  have hl : lv_has ls 2 [(0, .ref (b + 27)), (1, .int k)] := hl
  refine lv_aload_n hx hb dX4_readTerm_0 rfl (lv_at hl 0 rfl) ?_
  refine m_geti hx hb hts hown hW (27) 5 rfl rfl cw_4 rfl (by decide) k_X4_37 dX4_readTerm_1 ?_
  refine lv_topi (fun x1 ex1 => ?_)
  have ex1 : x1 = 0 := by rw [ex1]; exact he5
  have ex1 := ex1.symm
  subst ex1
  refine lv_iconst (v := 2) hx hb dX4_readTerm_4 (by decide) ?_
  refine lv_icmp_eq (tgt := 22) hx hb dX4_readTerm_5 (by decide) (fun c => False.elim (by revert c; decide)) (fun _ => ?_)
  refine lv_aload_n hx hb dX4_readTerm_8 rfl (lv_at hl 0 rfl) ?_
  refine m_geti hx hb hts hown hW (27) 5 rfl rfl cw_4 rfl (by decide) k_X4_37 dX4_readTerm_9 ?_
  refine lv_topi (fun x2 ex2 => ?_)
  have ex2 : x2 = 0 := by rw [ex2]; exact he5
  have ex2 := ex2.symm
  subst ex2
  refine lv_bipush (v := 23) hx hb dX4_readTerm_12 (by decide) ?_
  refine lv_bipush (v := 27) hx hb dX4_readTerm_14 (by decide) ?_
  have l_0 : (0 : Int32).toInt = 0 := by decide
  have l_23 : (23 : Int32).toInt = 23 := by decide
  have l_27 : (27 : Int32).toInt = 27 := by decide
  refine m_aI hW (m_runSN (As := [.int 0, .int 23, .int 27]) (rest := []) hx hb hml hown hts hW (g_X11_within l D cy b 0 23 27 μ hI.1) ms_X11_within n_X4_60 rfl hl.1 rfl (Nat.le_of_ble_eq_true rfl) dX4_readTerm_16 ⟨Nat.le_of_ble_eq_true rfl, Nat.le_of_ble_eq_true rfl⟩ ⟨Nat.le_of_ble_eq_true rfl, Nat.le_of_ble_eq_true rfl⟩) (fun x3 μ3 H locs q3 hW => ?_)
  obtain ⟨q3_m, q3⟩ := q3
  subst q3_m
  rcases q3 with ⟨rfl, q3⟩ | ⟨rfl, q3⟩
  · refine lv_if_eq (tgt := 73) hx hb dX4_readTerm_19 (by decide) (fun c => False.elim (by revert c; decide)) (fun _ => ?_)
    refine lv_aload_n hx hb dX4_readTerm_22 rfl (lv_at hl 0 rfl) ?_
    refine m_getr hx hb hts hown hW (27) 0 (28) rfl rfl cw_4 rfl (by decide) k_X4_16 dX4_readTerm_23 ?_
    refine lv_iload_n hx hb dX4_readTerm_26 rfl (lv_at hl 1 rfl) ?_
    refine lv_if_eq (tgt := 38) hx hb dX4_readTerm_27 (by decide) (fun c4 => ?_) (fun c4 => ?_)
    · have i4 := m_c5 (rfl : k.toInt = _) (by decide : (0 : Int32).toInt = 0) c4
      refine lv_aload_n hx hb dX4_readTerm_38 rfl (lv_at hl 0 rfl) ?_
      refine m_geti hx hb hts hown hW (27) 5 rfl rfl cw_4 rfl (by decide) k_X4_37 dX4_readTerm_39 ?_
      refine lv_topi (fun x5 ex5 => ?_)
      have ex5 : x5 = 0 := by rw [ex5]; exact he5
      have ex5 := ex5.symm
      subst ex5
      refine m_aV hW (m_runV (As := [.int 0]) (rest := []) hx hb hml hown hts hW (28) (g_X5_add_28 l D cy b (fun g => [12].contains g) μ rfl 0 μ (IY.rf hI.1)) mi_X5_add k_X4_83 rfl rfl rfl hl.1 rfl (Nat.le_of_ble_eq_true rfl) dX4_readTerm_42 ⟨Nat.le_of_ble_eq_true rfl, Nat.le_of_ble_eq_true rfl⟩ ⟨Nat.le_of_ble_eq_true rfl, Nat.le_of_ble_eq_true rfl⟩) (fun μ6 H locs q6 hW => ?_)
      obtain ⟨hJ6, q6⟩ := q6
      have hI := hI.tr hJ6 (m_subL (by simp [hS12]))
      refine lv_aload_n hx hb dX4_readTerm_45 rfl (lv_at hl 0 rfl) ?_
      refine m_getr hx hb hts hown hW (27) 0 (28) rfl rfl cw_4 rfl (by decide) k_X4_16 dX4_readTerm_46 ?_
      refine lv_aload_n hx hb dX4_readTerm_49 rfl (lv_at hl 0 rfl) ?_
      refine m_getr hx hb hts hown hW (27) 3 (30) rfl rfl cw_4 rfl (by decide) k_X4_30 dX4_readTerm_50 ?_
      refine m_getr hx hb hts hown hW (30) 2 (35) rfl rfl cw_8 rfl (by decide) k_X4_124 dX4_readTerm_53 ?_
      refine lv_aload_n hx hb dX4_readTerm_56 rfl (lv_at hl 0 rfl) ?_
      refine m_geti hx hb hts hown hW (27) 4 rfl rfl cw_4 rfl (by decide) k_X4_34 dX4_readTerm_57 ?_
      refine lv_topi (fun x7 ex7 => ?_)
      refine m_aI hW (m_runV (As := [.int x7]) (rest := [.ref (b + 28)]) hx hb hml hown hts hW (35) (g_X5_at l D cy b 35 36 401 rfl rfl (by decide) rfl (fun _ => rfl) x7 μ6 hI.1) mi_X5_at k_X4_56 rfl rfl rfl hl.1 rfl (Nat.le_of_ble_eq_true rfl) dX4_readTerm_60 ⟨Nat.le_of_ble_eq_true rfl, Nat.le_of_ble_eq_true rfl⟩ ⟨Nat.le_of_ble_eq_true rfl, Nat.le_of_ble_eq_true rfl⟩) (fun x8 μ8 H locs q8 hW => ?_)
      obtain ⟨q8_m, q8⟩ := q8
      subst q8_m
      refine m_aV hW (m_runV (As := [.int x8]) (rest := []) hx hb hml hown hts hW (28) (g_X5_add_28 l D cy b (fun g => [12].contains g) μ6 rfl x8 μ6 (IY.rf hI.1)) mi_X5_add k_X4_83 rfl rfl rfl hl.1 rfl (Nat.le_of_ble_eq_true rfl) dX4_readTerm_63 ⟨Nat.le_of_ble_eq_true rfl, Nat.le_of_ble_eq_true rfl⟩ ⟨Nat.le_of_ble_eq_true rfl, Nat.le_of_ble_eq_true rfl⟩) (fun μ9 H locs q9 hW => ?_)
      obtain ⟨hJ9, q9⟩ := q9
      have hI := hI.tr hJ9 (m_subL (by simp [hS12]))
      refine lv_aload_n hx hb dX4_readTerm_66 rfl (lv_at hl 0 rfl) ?_
      refine m_aV hW (m_runV (As := []) (rest := []) hx hb hml hown hts hW (27) (g_X4_advance_e l D cy b S μ0 hS5 ef ep (by omega) μ9 hI (by exact ((hJ9.2.1 27 1 rfl).trans (by exact ((hJ6.2.1 27 1 rfl).trans (by exact he1))))) (by exact ((hJ9.2.1 27 2 rfl).trans (by exact ((hJ6.2.1 27 2 rfl).trans (by exact he2))))) (by exact ((hJ9.2.1 27 5 rfl).trans (by exact ((hJ6.2.1 27 5 rfl).trans (by exact he5)))))) mi_X4_advance k_X4_80 rfl rfl rfl hl.1 rfl (Nat.le_of_ble_eq_true rfl) dX4_readTerm_67 ⟨Nat.le_of_ble_eq_true rfl, Nat.le_of_ble_eq_true rfl⟩ ⟨Nat.le_of_ble_eq_true rfl, Nat.le_of_ble_eq_true rfl⟩) (fun μ10 H locs q10 hW => ?_)
      obtain ⟨hI, q10⟩ := q10
      obtain ⟨q10a, q10b, q10c⟩ := q10
      refine lv_goto (tgt := 78) hx hb dX4_readTerm_70 (by decide) ?_
      exact m_vret hx hb hr hlocks hW (⟨hI, ⟨by rw [show μ10.1 27 1 = ef from by exact q10a], by rw [show μ10.1 27 2 = ep from by exact q10b], by rw [show μ10.1 27 5 = 0 from by exact q10c]⟩⟩) dX4_readTerm_78
    · have i4 := m_c6 (rfl : k.toInt = _) (by decide : (0 : Int32).toInt = 0) c4
      refine lv_aload_n hx hb dX4_readTerm_30 rfl (lv_at hl 0 rfl) ?_
      refine m_geti hx hb hts hown hW (27) 5 rfl rfl cw_4 rfl (by decide) k_X4_37 dX4_readTerm_31 ?_
      refine lv_topi (fun x11 ex11 => ?_)
      have ex11 : x11 = 0 := by rw [ex11]; exact he5
      have ex11 := ex11.symm
      subst ex11
      refine lv_ineg hx hb dX4_readTerm_34 ?_
      refine lv_topi (fun x12 ex12 => ?_)
      refine lv_goto (tgt := 42) hx hb dX4_readTerm_35 (by decide) ?_
      refine m_aV hW (m_runV (As := [.int x12]) (rest := []) hx hb hml hown hts hW (28) (g_X5_add_28 l D cy b (fun g => [12].contains g) μ rfl x12 μ (IY.rf hI.1)) mi_X5_add k_X4_83 rfl rfl rfl hl.1 rfl (Nat.le_of_ble_eq_true rfl) dX4_readTerm_42 ⟨Nat.le_of_ble_eq_true rfl, Nat.le_of_ble_eq_true rfl⟩ ⟨Nat.le_of_ble_eq_true rfl, Nat.le_of_ble_eq_true rfl⟩) (fun μ13 H locs q13 hW => ?_)
      obtain ⟨hJ13, q13⟩ := q13
      have hI := hI.tr hJ13 (m_subL (by simp [hS12]))
      refine lv_aload_n hx hb dX4_readTerm_45 rfl (lv_at hl 0 rfl) ?_
      refine m_getr hx hb hts hown hW (27) 0 (28) rfl rfl cw_4 rfl (by decide) k_X4_16 dX4_readTerm_46 ?_
      refine lv_aload_n hx hb dX4_readTerm_49 rfl (lv_at hl 0 rfl) ?_
      refine m_getr hx hb hts hown hW (27) 3 (30) rfl rfl cw_4 rfl (by decide) k_X4_30 dX4_readTerm_50 ?_
      refine m_getr hx hb hts hown hW (30) 2 (35) rfl rfl cw_8 rfl (by decide) k_X4_124 dX4_readTerm_53 ?_
      refine lv_aload_n hx hb dX4_readTerm_56 rfl (lv_at hl 0 rfl) ?_
      refine m_geti hx hb hts hown hW (27) 4 rfl rfl cw_4 rfl (by decide) k_X4_34 dX4_readTerm_57 ?_
      refine lv_topi (fun x14 ex14 => ?_)
      refine m_aI hW (m_runV (As := [.int x14]) (rest := [.ref (b + 28)]) hx hb hml hown hts hW (35) (g_X5_at l D cy b 35 36 401 rfl rfl (by decide) rfl (fun _ => rfl) x14 μ13 hI.1) mi_X5_at k_X4_56 rfl rfl rfl hl.1 rfl (Nat.le_of_ble_eq_true rfl) dX4_readTerm_60 ⟨Nat.le_of_ble_eq_true rfl, Nat.le_of_ble_eq_true rfl⟩ ⟨Nat.le_of_ble_eq_true rfl, Nat.le_of_ble_eq_true rfl⟩) (fun x15 μ15 H locs q15 hW => ?_)
      obtain ⟨q15_m, q15⟩ := q15
      subst q15_m
      refine m_aV hW (m_runV (As := [.int x15]) (rest := []) hx hb hml hown hts hW (28) (g_X5_add_28 l D cy b (fun g => [12].contains g) μ13 rfl x15 μ13 (IY.rf hI.1)) mi_X5_add k_X4_83 rfl rfl rfl hl.1 rfl (Nat.le_of_ble_eq_true rfl) dX4_readTerm_63 ⟨Nat.le_of_ble_eq_true rfl, Nat.le_of_ble_eq_true rfl⟩ ⟨Nat.le_of_ble_eq_true rfl, Nat.le_of_ble_eq_true rfl⟩) (fun μ16 H locs q16 hW => ?_)
      obtain ⟨hJ16, q16⟩ := q16
      have hI := hI.tr hJ16 (m_subL (by simp [hS12]))
      refine lv_aload_n hx hb dX4_readTerm_66 rfl (lv_at hl 0 rfl) ?_
      refine m_aV hW (m_runV (As := []) (rest := []) hx hb hml hown hts hW (27) (g_X4_advance_e l D cy b S μ0 hS5 ef ep (by omega) μ16 hI (by exact ((hJ16.2.1 27 1 rfl).trans (by exact ((hJ13.2.1 27 1 rfl).trans (by exact he1))))) (by exact ((hJ16.2.1 27 2 rfl).trans (by exact ((hJ13.2.1 27 2 rfl).trans (by exact he2))))) (by exact ((hJ16.2.1 27 5 rfl).trans (by exact ((hJ13.2.1 27 5 rfl).trans (by exact he5)))))) mi_X4_advance k_X4_80 rfl rfl rfl hl.1 rfl (Nat.le_of_ble_eq_true rfl) dX4_readTerm_67 ⟨Nat.le_of_ble_eq_true rfl, Nat.le_of_ble_eq_true rfl⟩ ⟨Nat.le_of_ble_eq_true rfl, Nat.le_of_ble_eq_true rfl⟩) (fun μ17 H locs q17 hW => ?_)
      obtain ⟨hI, q17⟩ := q17
      obtain ⟨q17a, q17b, q17c⟩ := q17
      refine lv_goto (tgt := 78) hx hb dX4_readTerm_70 (by decide) ?_
      exact m_vret hx hb hr hlocks hW (⟨hI, ⟨by rw [show μ17.1 27 1 = ef from by exact q17a], by rw [show μ17.1 27 2 = ep from by exact q17b], by rw [show μ17.1 27 5 = 0 from by exact q17c]⟩⟩) dX4_readTerm_78
  · refine lv_if_eq (tgt := 73) hx hb dX4_readTerm_19 (by decide) (fun _ => ?_) (fun c => False.elim (by revert c; decide))
    refine lv_aload_n hx hb dX4_readTerm_73 rfl (lv_at hl 0 rfl) ?_
    refine lv_iconst (v := 1) hx hb dX4_readTerm_74 (by decide) ?_
    have l_1 : (1 : Int32).toInt = 1 := by decide
    refine m_aV hW (m_runV (As := [.int 1]) (rest := []) hx hb hml hown hts hW (27) (g_X4_fail_e l D cy b S μ0 hS5 ef ep (by omega) 1 μ hI (by exact he1) (by exact he2) (by exact he5)) mi_X4_fail k_X4_74 rfl rfl rfl hl.1 rfl (Nat.le_of_ble_eq_true rfl) dX4_readTerm_75 ⟨Nat.le_of_ble_eq_true rfl, Nat.le_of_ble_eq_true rfl⟩ ⟨Nat.le_of_ble_eq_true rfl, Nat.le_of_ble_eq_true rfl⟩) (fun μ18 H locs q18 hW => ?_)
    obtain ⟨hI, q18⟩ := q18
    obtain ⟨q18a, q18b, q18c⟩ := q18
    exact m_vret hx hb hr hlocks hW (⟨hI, ⟨by rw [show μ18.1 27 1 = ef from by exact q18a], by rw [show μ18.1 27 2 = ep from by exact q18b], by rw [show μ18.1 27 5 = 0 from by exact q18c]⟩⟩) dX4_readTerm_78
