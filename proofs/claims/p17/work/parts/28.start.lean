theorem LX_eq : LX = [] ++ S_142 0 := rfl
theorem LAY_eq2 : LAY = LX ++ S_236 81 := rfl
def m_0 : mM := (fun _ _ => 0, fun _ _ => 0)
def MU1 : mM := m_us 0 m_0 U_29
def MU0 : mM := m_us 81 MU1 U_132
theorem m_0z : m_Zr 0 m_0 := fun _ _ => ⟨fun _ => rfl, fun _ => rfl⟩
theorem MU1_z : m_Zr 81 MU1 := m_us_zr m_0z U_29 81 (by decide +kernel)
theorem m_nestOf {A : Array Value} {U : State} {w : Cond} (hn : m_isN w = true) (h : w.before A U = true) : va_Nw w U := by
  cases w <;> first | exact va_Nw.of rfl h | (simp [m_isN] at hn)
-- THE INTERVALS AT THE START
theorem m_lk1 {k : Nat} {v : Int × Int} : ∀ {L : List (Nat × (Int × Int))}, L.lookup k = some v → (k, v) ∈ L
  | [], h => by cases h
  | (a, w) :: L, h => by
    by_cases q : k = a
    · subst q
      simp [List.lookup] at h
      subst h
      exact List.mem_cons_self
    · have q2 : (k == a) = false := by simp [q]
      simp only [List.lookup, q2] at h
      exact List.mem_cons_of_mem _ (m_lk1 h)
theorem m_lk2 {k : Nat × Nat} {v : Int × Int} : ∀ {L : List ((Nat × Nat) × (Int × Int))}, L.lookup k = some v → (k, v) ∈ L
  | [], h => by cases h
  | (a, w) :: L, h => by
    by_cases q : k = a
    · subst q
      simp [List.lookup] at h
      subst h
      exact List.mem_cons_self
    · have q2 : (k == a) = false := by simp [q]
      simp only [List.lookup, q2] at h
      exact List.mem_cons_of_mem _ (m_lk2 h)
def IXz (μ : mM) : Prop := ∀ (k j : Nat) (lo hi : Int), bX k j = some (lo, hi) → lo ≤ 0 ∧ 0 ≤ hi → lo ≤ (μ.1 k j).toInt ∧ (μ.1 k j).toInt ≤ hi
theorem IXz.si {μ : mM} (h : IXz μ) {k j : Nat} {v : Int32} (hv : ∀ lo hi, bX k j = some (lo, hi) → lo ≤ v.toInt ∧ v.toInt ≤ hi) : IXz (m_si μ k j v) := by
  intro a i lo hi hb h0
  show lo ≤ (if a = k ∧ i = j then v else μ.1 a i).toInt ∧ (if a = k ∧ i = j then v else μ.1 a i).toInt ≤ hi
  by_cases q : a = k ∧ i = j
  · rw [if_pos q]
    obtain ⟨rfl, rfl⟩ := q
    exact hv lo hi hb
  · rw [if_neg q]
    exact h a i lo hi hb h0
def m_okU (P : Nat) (u : Nat × Nat × Int32) : Bool := match bX (P + u.1) u.2.1 with
  | none => true
  | some x => decide (x.1 ≤ u.2.2.toInt) && decide (u.2.2.toInt ≤ x.2)
theorem IXz.us {P : Nat} : ∀ (L : List (Nat × Nat × Int32)) {μ : mM}, IXz μ → L.all (m_okU P) = true → IXz (m_us P μ L)
  | [], _, h, _ => h
  | u :: L, μ, h, ha => by
    rw [List.all_cons, Bool.and_eq_true] at ha
    refine IXz.us L (μ := m_si μ (P + u.1) u.2.1 u.2.2) (h.si (fun lo hi hb => ?_)) ha.2
    have h1 := ha.1
    unfold m_okU at h1
    rw [hb] at h1
    simpa using h1
theorem MU0_z : IXz MU0 := IXz.us U_132 (IXz.us U_29 (fun k j lo hi _ h => h) (by decide +kernel)) (by decide +kernel)
theorem MU0_I : IX MU0 := by
  intro k j lo hi hb
  by_cases q : lo ≤ 0 ∧ 0 ≤ hi
  · exact MU0_z k j lo hi hb q
  · unfold bX at hb
    cases ha : bXa.lookup k with
    | some x =>
      rw [ha] at hb
      cases hb
      have := m_lk1 ha
      exact absurd ((by decide +kernel : ∀ p ∈ bXa, p.2.1 ≤ 0 ∧ 0 ≤ p.2.2) _ this) q
    | none =>
      rw [ha] at hb
      have := m_lk2 hb
      have h2 := (by decide +kernel : ∀ p ∈ bXf, (p.2.1 ≤ 0 ∧ 0 ≤ p.2.2) ∨ (p.2.1 ≤ (MU0.1 p.1.1 p.1.2).toInt ∧ (MU0.1 p.1.1 p.1.2).toInt ≤ p.2.2)) _ this
      dsimp only at h2
      rcases h2 with h2 | h2
      · exact absurd h2 q
      · exact h2
theorem MU0_G : m_GP MU0 := by
  intro k hk
  have h : MU0.1 111 k = 0 := (by decide +kernel : ∀ k, k < 8 → MU0.1 111 k = 0) k hk
  unfold m_WR
  rw [h]
  exact ⟨by decide, fun i hi => absurd hi (Nat.not_lt_zero i), fun i hi => by
    have : i = 0 := Nat.le_zero.mp hi
    subst this
    exact Int.le_refl 0⟩
set_option maxHeartbeats 4000000 in
theorem m_start {s : State} {args : Array Value} (hts : ∀ w ∈ lw_tbl, w.before args s = true) : ∃ (D : va_G) (cy : Nat → ClassId), m_K D cy s := by
  have hT : ∀ w ∈ TB, w.before args s = true := fun w h => hts w (tb_tbl h)
  obtain ⟨d0, i0, h0⟩ := u_known (C := RX0) (T := TX0) (N := 5) (n := 5) hT cw_0 (hT _ ki_X0)
  obtain ⟨d1, i1, h1⟩ := u_known (C := RX1) (T := TX1) (N := 5) (n := 5) hT cw_1 (hT _ ki_X1)
  obtain ⟨d2, i2, h2⟩ := u_known (C := RX2) (T := TX2) (N := 5) (n := 5) hT cw_2 (hT _ ki_X2)
  obtain ⟨d3, i3, h3⟩ := u_known (C := RX3) (T := TX3) (N := 18) (n := 18) hT cw_3 (hT _ ki_X3)
  obtain ⟨d4, i4, h4⟩ := u_known (C := RX4) (T := TX4) (N := 8) (n := 8) hT cw_4 (hT _ ki_X4)
  obtain ⟨d5, i5, h5⟩ := u_known (C := RX5) (T := TX5) (N := 2) (n := 2) hT cw_5 (hT _ ki_X5)
  obtain ⟨d6, i6, h6⟩ := u_known (C := RX6) (T := TX6) (N := 3) (n := 3) hT cw_6 (hT _ ki_X6)
  obtain ⟨d7, i7, h7⟩ := u_known (C := RX7) (T := TX7) (N := 6) (n := 6) hT cw_7 (hT _ ki_X7)
  obtain ⟨d8, i8, h8⟩ := u_known (C := RX8) (T := TX8) (N := 3) (n := 3) hT cw_8 (hT _ ki_X8)
  obtain ⟨d9, i9, h9⟩ := u_known (C := RX9) (T := TX9) (N := 7) (n := 7) hT cw_9 (hT _ ki_X9)
  obtain ⟨d10, i10, h10⟩ := u_known (C := RX10) (T := TX10) (N := 8) (n := 8) hT cw_10 (hT _ ki_X10)
  obtain ⟨d11, i11, h11⟩ := u_known (C := RX11) (T := TX11) (N := 11) (n := 11) hT cw_11 (hT _ ki_X11)
  obtain ⟨d12, i12, h12⟩ := u_known (C := RX12) (T := TX12) (N := 74) (n := 74) hT cw_12 (hT _ ki_X12)
  obtain ⟨a0, k0, p0, f0, g0, e0⟩ := Cond.arrayClass_spec (hT _ ka_int)
  obtain ⟨a1, k1, p1, f1, g1, e1⟩ := Cond.arrayClass_spec (hT _ ka_boolean)
  obtain ⟨a2, k2, p2, f2, g2, e2⟩ := Cond.arrayClass_spec (hT _ ka_long)
  have hAO : va_AO "BeamPlate$Row" s := va_AO.of (hts (.arrayOver (.object "BeamPlate$Row")) (List.mem_append_right _ (List.mem_append_left _ (List.mem_of_getElem? (i := 37) rfl))))
  obtain ⟨p3, a3, k3, c3, x3, g3, e3, f3⟩ := Cond.arrayOver_spec hAO
  refine ⟨(fun k => match k with | 0 => d0 | 1 => d1 | 2 => d2 | 3 => d3 | 4 => d4 | 5 => d5 | 6 => d6 | 7 => d7 | 8 => d8 | 9 => d9 | 10 => d10 | 11 => d11 | _ => d12, fun k => match k with | 0 => i0 | 1 => i1 | 2 => i2 | 3 => i3 | 4 => i4 | 5 => i5 | 6 => i6 | 7 => i7 | 8 => i8 | 9 => i9 | 10 => i10 | 11 => i11 | _ => i12), fun k => match k with | 0 => a0 | 1 => a1 | 2 => a2 | _ => a3, ⟨?_, ?_⟩, fun w hw hn => m_nestOf hn (hts w hw), hAO⟩
  · intro k q hq
    match k, hq with
    | 0, hq => cases hq; exact h0
    | 1, hq => cases hq; exact h1
    | 2, hq => cases hq; exact h2
    | 3, hq => cases hq; exact h3
    | 4, hq => cases hq; exact h4
    | 5, hq => cases hq; exact h5
    | 6, hq => cases hq; exact h6
    | 7, hq => cases hq; exact h7
    | 8, hq => cases hq; exact h8
    | 9, hq => cases hq; exact h9
    | 10, hq => cases hq; exact h10
    | 11, hq => cases hq; exact h11
    | 12, hq => cases hq; exact h12
    | k + 13, hq => simp [vwCl] at hq
  · intro k q hq
    match k, hq with
    | 0, hq => cases hq; exact ⟨fun N z => ⟨fun k h => (by cases h), k0, g0, p0, e0⟩, f0⟩
    | 1, hq => cases hq; exact ⟨fun N z => ⟨fun k h => (by cases h), k1, g1, p1, e1⟩, f1⟩
    | 2, hq => cases hq; exact ⟨fun N z => ⟨fun k h => (by cases h), k2, g2, p2, e2⟩, f2⟩
    | 3, hq => cases hq; exact ⟨fun N z => ⟨fun k h => (by cases h), k3, g3, p3, e3⟩, k3, p3, g3, e3, c3, f3⟩
    | k + 4, hq => simp at hq
-- THE CONSTANTS AT THE START
set_option maxRecDepth 100000 in
theorem m_ordmem : ∀ j, j < 18 → Cond.eq (.elem (.static "BeamPlate$Trials" "ORDERS" "[I") (.int (Int32.ofNat j))) (.int (ordV.getD j 0)) ∈ flatC (Jvm.Cond.and given_1 narrow_1) := by decide +kernel
set_option maxRecDepth 100000 in
theorem m_kwmem : ∀ j, j < 82 → Cond.eq (.elem (.field (.string "BeamPlate$Tokens" 66) "java/lang/String" "value" "[B") (.int (Int32.ofNat j))) (.int (kwV.getD j 0)) ∈ flatC (Jvm.Cond.and given_1 narrow_1) := by decide +kernel
set_option maxHeartbeats 4000000 in
set_option maxRecDepth 100000 in
theorem m_startO {s : State} {args : Array Value} (hts : ∀ w ∈ lw_tbl, w.before args s = true) (hgv : (Jvm.Cond.and given_1 narrow_1).before args s = true) : ∃ oq oa ov : Nat, m_O (fun q => s.heap.size ≤ q) oq oa ov s s.heap := by
  have hs := flat_of_before _ hgv
  have hA : ∀ a : Nat, a < s.heap.size → ¬ (fun q => s.heap.size ≤ q) a := fun a h => Nat.not_le.mpr h
  obtain ⟨oq, e1, t1⟩ := va_Tof (tm := .static "BeamPlate$Trials" "ORDERS" "[I") (ty := .int) (N := 18) (f := fun j => .int (ordV.getD j 0)) (A := fun q => s.heap.size ≤ q) (by decide) (hs _ (by decide +kernel)) (va_eqt (z := Int32.ofNat 18) (hs _ (by decide +kernel))) (fun j hj => va_eqt (hs _ (m_ordmem j hj))) hA
  have z1 := va_Zof (C := "BeamPlate$Trials") (n := "ORDERS") (d := "[I") (A := fun q => s.heap.size ≤ q) (hts _ (List.mem_append_right _ (List.mem_append_right _ (List.mem_append_right _ (List.mem_append_right _ (List.mem_append_left _ (List.mem_of_getElem? (i := 161) rfl))))))) (hts _ (List.mem_append_right _ (List.mem_append_left _ (List.mem_of_getElem? (i := 11) rfl)))) e1 hA
  have z2 := va_Zof (C := "java/lang/String") (n := "COMPACT_STRINGS") (d := "Z") (v := .int 1) (A := fun q => s.heap.size ≤ q) (hts _ (List.mem_append_right _ (List.mem_append_right _ (List.mem_append_right _ (List.mem_append_left _ (List.mem_of_getElem? (i := 43) rfl)))))) (hts _ (List.mem_append_right _ (List.mem_append_left _ (List.mem_of_getElem? (i := 16) rfl)))) (va_eqt (hs _ (by decide +kernel))) hA
  have z3 := va_Zqof (C := "jdk/internal/util/Preconditions") (n := "SIOOBE_FORMATTER") (d := "Ljava/util/function/BiFunction;") (A := fun q => s.heap.size ≤ q) (hts _ (List.mem_append_right _ (List.mem_append_right _ (List.mem_append_right _ (List.mem_append_left _ (List.mem_of_getElem? (i := 59) rfl)))))) (hts _ (List.mem_append_right _ (List.mem_append_left _ (List.mem_of_getElem? (i := 18) rfl)))) (hs _ (by decide +kernel)) hA
  have hex : (Cond.exactly (.string "BeamPlate$Tokens" 66) "java/lang/String").before args s = true := hs _ (by decide +kernel)
  obtain ⟨oa, c, cA, kA, q1, q2, q3, q4, q5, q6, -⟩ := Cond.exactly_spec (args := args) (first := s) (o := none) (s := s) (idx := []) hex
  obtain ⟨ov, e2, t2⟩ := va_Tof (tm := .field (.string "BeamPlate$Tokens" 66) "java/lang/String" "value" "[B") (ty := .byte) (N := 82) (f := fun j => .int (kwV.getD j 0)) (A := fun q => s.heap.size ≤ q) (by decide) (hs _ (by decide +kernel)) (va_eqt (z := Int32.ofNat 82) (hs _ (by decide +kernel))) (fun j hj => va_eqt (hs _ (m_kwmem j hj))) hA
  exact ⟨oq, oa, ov, z1, t1, z2, z3, vk_R.of (hts _ (List.mem_append_right _ (List.mem_append_right _ (List.mem_append_right _ (List.mem_append_left _ (List.mem_of_getElem? (i := 33) rfl)))))) q1, va_Oof hex q1 hA, vk_OFof q1 (va_eqt (hs _ (by decide +kernel))) hA, vk_OFof q1 e2 hA, t2⟩
theorem m_O.narrow {A B : Nat → Prop} {oq oa ov : Nat} {U : State} {H : Heap} (h : m_O A oq oa ov U H) (hAB : ∀ q, B q → A q) : m_O B oq oa ov U H :=
  ⟨h.z.narrow hAB, h.t.narrow hAB, h.c.narrow hAB, h.f.narrow hAB, h.r, h.o.narrow hAB, h.k.narrow hAB, h.w.narrow hAB, h.y.narrow hAB⟩
theorem m_runVOL {p : Program} {l : Launch} {e : Env} {R : Room} {s : State} {m : MethodId} {args : Array Value} {below : List Frame} {meth : Method} {c : Code} {H : Heap} {locs : List Loc} {cells slots : Nat} {cc : ByteArray} {pc : Nat} {ls : Array Slot} {st rest : List Value} {D : va_G} {cy : Nat → ClassId} {b : Nat} {μ : mM} {oq oa ov : Nat} {y : MethodName} {c' : ByteArray} {n' na d' nL index : Nat} {ret' : Option FieldType} {own : String} {Qc : Array Value → State → Outcome → State → Prop} {free : Addr → Prop} {As : List Value} (hx : p.tables.exec = Jvm.exec) (hb : c.code = cc) (hml : c.maxLocals = nL) (hown : s.vm.findClass own = some m.cls) (hts : ∀ w ∈ TB, w.before args s = true) (hW : m_W D cy s b LAY μ H locs) (hO : m_O (fun q => b ≤ q) oq oa ov s s.heap) (k : Nat) (hM : Met l y (.code y c' n' ret' :: TB) (m_R d' 0 0) (va_Pc (.ref (b + k) :: As) (m_BO D cy b oq oa ov μ)) Qc 0 0 free) (mi : m_mI y c' n' ret' na) (hlink : Cond.methodLink own index y ∈ TB) {ci : Nat} {fs : List Nat} {T : u_T} {N : Nat} (hk : LAY[k]? = some (.inl (ci, fs))) (hc : vwCl[ci]? = some (y.cls, T, N)) (hn : As.length = na) (hls : ls.size = nL) (hst : st = As.reverse ++ .ref (b + k) :: rest) (hroom : (rest.map fun v => v.category).sum ≤ 8) (hdg : decode cc pc = .ok (.invokevirtual index, 3)) (hR : d' + 1 ≤ R.frames ∧ 8 + (n' + 11) + 40 * d' ≤ R.locals) (hf : cells ≤ R.cells ∧ slots ≤ R.slots) :
    va_Run p l e R s m args below meth c H locs cells slots 0 0 (F0 m pc ls st) rest (Qc (Value.ref (b + k) :: As).toArray) free := by
  obtain ⟨i1, i2, i3, i4, i5, i6, i7⟩ := mi
  exact va_runV (C := y.cls) (Ts := TB) ⟨hx, hb, hml, hown, hts⟩ hM ⟨callB_of na hts (tb_in i4) rfl rfl rfl (hts _ i3) (hts _ hlink) ⟨i5, i6, i7⟩ hR, hts _ i1, hts _ i2⟩ ⟨m_blindO, va_recv hW.1.1 hW.2.1 hc (m_w_at hk), fun U hU hw => ⟨rfl, hW.1.moved hw, by rw [hU]; exact ((hO.kept hW.2.2.1.2.1).narrow (fun q hq => hq.1)).moved hw, by rw [hU]; exact hW.2.1⟩⟩ rfl hn hls hst (lv_room hroom) hdg hf
