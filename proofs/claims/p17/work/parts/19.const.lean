-- THE CONSTANTS: ORDERS (its array at oq), the keywords (the string at oa, its bytes at ov)
def ordV : List Int32 := [0, 1, 2, 0, 2, 1, 1, 0, 2, 1, 2, 0, 2, 0, 1, 2, 1, 0]
def ordC (k : Int32) : Int32 := ordV.getD k.toNatClampNeg 0
def kwV : List Int32 := [111, 110, 32, 111, 102, 102, 32, 116, 111, 32, 103, 111, 32, 104, 111, 108, 100, 32, 115, 112, 101, 101, 100, 32, 97, 103, 97, 105, 110, 32, 105, 102, 32, 98, 101, 103, 105, 110, 32, 101, 110, 100, 32, 101, 97, 115, 116, 32, 110, 111, 114, 116, 104, 32, 119, 101, 115, 116, 32, 115, 111, 117, 116, 104, 32, 104, 111, 116, 32, 120, 32, 121, 32, 116, 105, 99, 107, 32, 99, 117, 116, 32]
def kwC (k : Int32) : Int32 := kwV.getD k.toNatClampNeg 0
def kwS : String := "on off to go hold speed again if begin end east north west south hot x y tick cut "
theorem ord_b (k : Int32) : 0 ≤ (ordC k).toInt ∧ (ordC k).toInt ≤ 2 := by
  unfold ordC
  generalize k.toNatClampNeg = n
  by_cases h : n < 18
  · exact (by decide +kernel : ∀ n, n < 18 → 0 ≤ (ordV.getD n 0).toInt ∧ (ordV.getD n 0).toInt ≤ 2) n h
  · rw [List.getD_eq_getElem?_getD, List.getElem?_eq_none (by show 18 ≤ n; omega)]
    decide
theorem kw_c {k : Int32} (h : 0 ≤ k.toInt ∧ k.toInt ≤ 81) : ((kwC k &&& 255).toUInt32 % 65536).toInt32 = kwC k ∧ narrow .char (.int (kwC k)) = .int (kwC k) := by
  unfold kwC
  have h : k.toNatClampNeg < 82 := by
    show k.toInt.toNat < 82
    omega
  generalize k.toNatClampNeg = n at h
  exact (by decide +kernel : ∀ n, n < 82 → ((kwV.getD n 0 &&& 255).toUInt32 % 65536).toInt32 = kwV.getD n 0 ∧ narrow .char (.int (kwV.getD n 0)) = .int (kwV.getD n 0)) n h
abbrev m_O (A : Nat → Prop) (oq oa ov : Nat) (U : State) (H : Heap) : Prop := va_Z "BeamPlate$Trials" "ORDERS" "[I" (.ref oq) A U H ∧ va_T .int oq 18 (fun j => .int (ordV.getD j 0)) A U H ∧ va_Z "java/lang/String" "COMPACT_STRINGS" "Z" (.int 1) A U H ∧ va_Zq "jdk/internal/util/Preconditions" "SIOOBE_FORMATTER" "Ljava/util/function/BiFunction;" A U H ∧ vk_R "BeamPlate$Tokens" 66 kwS oa U ∧ va_O "java/lang/String" oa A U H ∧ va_OF "java/lang/String" "coder" "B" (.int 0) oa A U H ∧ va_OF "java/lang/String" "value" "[B" (.ref ov) oa A U H ∧ va_T .byte ov 82 (fun j => .int (kwV.getD j 0)) A U H
theorem m_O.z {A : Nat → Prop} {oq oa ov : Nat} {U : State} {H : Heap} (h : m_O A oq oa ov U H) : va_Z "BeamPlate$Trials" "ORDERS" "[I" (.ref oq) A U H := h.1
theorem m_O.t {A : Nat → Prop} {oq oa ov : Nat} {U : State} {H : Heap} (h : m_O A oq oa ov U H) : va_T .int oq 18 (fun j => .int (ordV.getD j 0)) A U H := h.2.1
theorem m_O.c {A : Nat → Prop} {oq oa ov : Nat} {U : State} {H : Heap} (h : m_O A oq oa ov U H) : va_Z "java/lang/String" "COMPACT_STRINGS" "Z" (.int 1) A U H := h.2.2.1
theorem m_O.f {A : Nat → Prop} {oq oa ov : Nat} {U : State} {H : Heap} (h : m_O A oq oa ov U H) : va_Zq "jdk/internal/util/Preconditions" "SIOOBE_FORMATTER" "Ljava/util/function/BiFunction;" A U H := h.2.2.2.1
theorem m_O.r {A : Nat → Prop} {oq oa ov : Nat} {U : State} {H : Heap} (h : m_O A oq oa ov U H) : vk_R "BeamPlate$Tokens" 66 kwS oa U := h.2.2.2.2.1
theorem m_O.o {A : Nat → Prop} {oq oa ov : Nat} {U : State} {H : Heap} (h : m_O A oq oa ov U H) : va_O "java/lang/String" oa A U H := h.2.2.2.2.2.1
theorem m_O.k {A : Nat → Prop} {oq oa ov : Nat} {U : State} {H : Heap} (h : m_O A oq oa ov U H) : va_OF "java/lang/String" "coder" "B" (.int 0) oa A U H := h.2.2.2.2.2.2.1
theorem m_O.w {A : Nat → Prop} {oq oa ov : Nat} {U : State} {H : Heap} (h : m_O A oq oa ov U H) : va_OF "java/lang/String" "value" "[B" (.ref ov) oa A U H := h.2.2.2.2.2.2.2.1
theorem m_O.y {A : Nat → Prop} {oq oa ov : Nat} {U : State} {H : Heap} (h : m_O A oq oa ov U H) : va_T .byte ov 82 (fun j => .int (kwV.getD j 0)) A U H := h.2.2.2.2.2.2.2.2
theorem m_O.kept {A : Nat → Prop} {oq oa ov : Nat} {U : State} {H H1 : Heap} (h : m_O A oq oa ov U H) (hq : ∀ a : Nat, a < H.size → ¬ A a → H1[a]? = H[a]?) : m_O A oq oa ov U H1 :=
  ⟨h.z.kept hq, h.t.kept hq, h.c.kept hq, h.f.kept hq, h.r, h.o.kept hq, h.k.kept hq, h.w.kept hq, h.y.kept hq⟩
theorem m_O.moved {A : Nat → Prop} {oq oa ov : Nat} {s U : State} {H : Heap} (hW : s.WarmedH U.vm) (h : m_O A oq oa ov s H) : m_O A oq oa ov U H :=
  ⟨va_Z.moved hW.alike h.z, va_T.moved hW.alike h.t, va_Z.moved hW.alike h.c, va_Zq.moved hW.alike h.f, vk_R.warm hW h.r, va_O.moved hW.alike h.o, va_OF.moved hW.alike h.k, va_OF.moved hW.alike h.w, va_T.moved hW.alike h.y⟩
theorem m_O.called {A : Nat → Prop} {oq oa ov : Nat} {U : State} {H : Heap} {g : JFrame} {mk : MethodId} {a : Array Value} (h : m_O A oq oa ov U H) : m_O A oq oa ov (U.calling g mk a) H :=
  ⟨va_Z.moved (u := U) (U := U.calling g mk a) (Vm.Alike.refl U.vm) h.z, va_T.moved (u := U) (U := U.calling g mk a) (Vm.Alike.refl U.vm) h.t, va_Z.moved (u := U) (U := U.calling g mk a) (Vm.Alike.refl U.vm) h.c, va_Zq.moved (u := U) (U := U.calling g mk a) (Vm.Alike.refl U.vm) h.f, vk_R.same (u := U) (U := U.calling g mk a) rfl h.r, va_O.moved (u := U) (U := U.calling g mk a) (Vm.Alike.refl U.vm) h.o, va_OF.moved (u := U) (U := U.calling g mk a) (Vm.Alike.refl U.vm) h.k, va_OF.moved (u := U) (U := U.calling g mk a) (Vm.Alike.refl U.vm) h.w, va_T.moved (u := U) (U := U.calling g mk a) (Vm.Alike.refl U.vm) h.y⟩
abbrev m_BO (D : va_G) (cy : Nat → ClassId) (b oq oa ov : Nat) (μ : mM) (U : State) : Prop := m_K D cy U ∧ m_O (m_A b LAY) oq oa ov U U.heap ∧ va_P D vwCl (m_w cy b LAY μ) U.heap
def m_CiO (l : Launch) (y : MethodName) (cc : ByteArray) (n : Nat) (ret : Option FieldType) (d : Nat) (D : va_G) (cy : Nat → ClassId) (b oq oa ov : Nat) (μ : mM) (as : List Value) (post : Int32 → mM → Prop) : Prop := Met l y (.code y cc n ret :: TB) (m_R d 0 0) (va_Pc as (m_BO D cy b oq oa ov μ)) (m_Qi D cy b LAY post) 0 0 (m_A b LAY)
def m_CvO (l : Launch) (y : MethodName) (cc : ByteArray) (n : Nat) (ret : Option FieldType) (d : Nat) (D : va_G) (cy : Nat → ClassId) (b oq oa ov : Nat) (μ : mM) (as : List Value) (post : mM → Prop) : Prop := Met l y (.code y cc n ret :: TB) (m_R d 0 0) (va_Pc as (m_BO D cy b oq oa ov μ)) (m_Qv D cy b LAY post) 0 0 (m_A b LAY)
theorem m_ofO {l : Launch} {y : MethodName} {cc : ByteArray} {n d mc ms : Nat} {ret : Option FieldType} {D : va_G} {cy : Nat → ClassId} {b oq oa ov : Nat} {μ : mM} {as : List Value} {Qc : Array Value → State → Outcome → State → Prop} {free : Addr → Prop} (hy : plainName y.cls = true) (hlen : (lg_sl as).length ≤ n)
    (body : ∀ (p : Program) (e : Env) (s : State) (m : MethodId) (below : List Frame) (meth : Method) (c : Code), p.tables.exec = Jvm.exec → c.code = cc → meth.sig.returnType = ret → c.maxLocals = n → s.vm.findClass y.cls = some m.cls → (∀ w ∈ TB, w.before as.toArray s = true) → meth.locks = false → meth.name = y.name → m_WA (m_A b LAY) D cy s b LAY μ s.heap [] → m_O (m_A b LAY) oq oa ov s s.heap → ∀ ls : Array Slot, lv_has ls n (lv_args 0 as) → W p l e (m_R d mc ms) s m as.toArray below meth c s.heap [] 0 0 (MQ below Qc as.toArray s mc ms free) (F0 m 0 ls [])) :
    Met l y (.code y cc n ret :: TB) (m_R d mc ms) (va_Pc as (m_BO D cy b oq oa ov μ)) Qc mc ms free := by
  refine Met.ofW (cc := cc) (maxL := n) (ret := ret) hy rfl ?_
  intro p e s m args below meth c s₁ B hml hv
  obtain ⟨rfl, hK, hO, hP⟩ := hv
  have hts := atoms_spec (ws := .code y cc n ret :: TB) B.pre
  have hl := lv_entry as (n := n) hlen
  rw [lg_entry_eq]
  exact body p e s m below meth c B.exec B.bytes B.returns hml (findClass_of_methodNamed B.named) (fun w hw => hts w (List.mem_cons_of_mem _ hw)) B.notSynchronized (name_of_methodNamed B.named B.method).1 ⟨hK, hP, va_S.rf, fun k hk => ⟨Nat.le_add_right b k, Nat.add_lt_add_left hk b⟩⟩ hO _ hl
section MO
variable {p : Program} {l : Launch} {e : Env} {R : Room} {s : State} {m : MethodId} {args : Array Value} {below : List Frame} {meth : Method} {c : Code} {H : Heap} {locs : List Loc} {cells slots : Nat} {Q : State → Prop}
variable {cc : ByteArray} {pc : Nat} {ls : Array Slot} {st rest : List Value} {D : va_G} {cy : Nat → ClassId} {b : Nat} {μ : mM} {oq oa ov : Nat}
variable {y : MethodName} {c' : ByteArray} {n' na d' nL index mc ms : Nat} {ret' : Option FieldType} {own : String} {Qc : Array Value → State → Outcome → State → Prop} {free : Addr → Prop}
theorem m_blindO {as : List Value} : FrameBlind (va_Pc as (m_BO D cy b oq oa ov μ)) := fun _ _ _ _ q => ⟨q.1, m_K.called q.2.1, m_O.called q.2.2.1, q.2.2.2⟩
theorem m_preO {as : List Value} (hW : m_WA (m_A b LAY) D cy s b LAY μ H locs) (hO : m_O (m_A b LAY) oq oa ov s s.heap) (U : State) (hU : U.heap = H) (hw : s.WarmedH U.vm) : m_BO D cy b oq oa ov μ U := by
  refine ⟨hW.1.moved hw, ?_, by rw [hU]; exact hW.2.1⟩
  rw [hU]
  exact (hO.kept hW.2.2.1.2.1).moved hw
theorem m_runVO {As : List Value} (hx : p.tables.exec = Jvm.exec) (hb : c.code = cc) (hml : c.maxLocals = nL) (hown : s.vm.findClass own = some m.cls) (hts : ∀ w ∈ TB, w.before args s = true) (hW : m_WA (m_A b LAY) D cy s b LAY μ H locs) (hO : m_O (m_A b LAY) oq oa ov s s.heap) (k : Nat) (hM : Met l y (.code y c' n' ret' :: TB) (m_R d' 0 0) (va_Pc (.ref (b + k) :: As) (m_BO D cy b oq oa ov μ)) Qc 0 0 free) (mi : m_mI y c' n' ret' na) (hlink : Cond.methodLink own index y ∈ TB) {ci : Nat} {fs : List Nat} {T : u_T} {N : Nat} (hk : LAY[k]? = some (.inl (ci, fs))) (hc : vwCl[ci]? = some (y.cls, T, N)) (hn : As.length = na) (hls : ls.size = nL) (hst : st = As.reverse ++ .ref (b + k) :: rest) (hroom : (rest.map fun v => v.category).sum ≤ 8) (hdg : decode cc pc = .ok (.invokevirtual index, 3)) (hR : d' + 1 ≤ R.frames ∧ 8 + (n' + 11) + 40 * d' ≤ R.locals) (hf : cells ≤ R.cells ∧ slots ≤ R.slots) :
    va_Run p l e R s m args below meth c H locs cells slots 0 0 (F0 m pc ls st) rest (Qc (Value.ref (b + k) :: As).toArray) free := by
  obtain ⟨i1, i2, i3, i4, i5, i6, i7⟩ := mi
  exact va_runV (C := y.cls) (Ts := TB) ⟨hx, hb, hml, hown, hts⟩ hM ⟨callB_of na hts (tb_in i4) rfl rfl rfl (hts _ i3) (hts _ hlink) ⟨i5, i6, i7⟩ hR, hts _ i1, hts _ i2⟩ ⟨m_blindO, va_recv hW.1.1 hW.2.1 hc (m_w_at hk), fun U hU hw => ⟨rfl, m_preO (as := As) hW hO U hU hw⟩⟩ rfl hn hls hst (lv_room hroom) hdg hf
theorem m_runVNO {As : List Value} {host : String} (hx : p.tables.exec = Jvm.exec) (hb : c.code = cc) (hml : c.maxLocals = nL) (hown : s.vm.findClass own = some m.cls) (hts : ∀ w ∈ TB, w.before args s = true) (hW : m_WA (m_A b LAY) D cy s b LAY μ H locs) (hO : m_O (m_A b LAY) oq oa ov s s.heap) (k : Nat) (hM : Met l y (.code y c' n' ret' :: TB) (m_R d' 0 0) (va_Pc (.ref (b + k) :: As) (m_BO D cy b oq oa ov μ)) Qc 0 0 free) (mi : m_mI y c' n' ret' na) (hlink : Cond.methodLinkNest own index y host ∈ lw_tbl) {ci : Nat} {fs : List Nat} {T : u_T} {N : Nat} (hk : LAY[k]? = some (.inl (ci, fs))) (hc : vwCl[ci]? = some (y.cls, T, N)) (hn : As.length = na) (hls : ls.size = nL) (hst : st = As.reverse ++ .ref (b + k) :: rest) (hroom : (rest.map fun v => v.category).sum ≤ 8) (hdg : decode cc pc = .ok (.invokevirtual index, 3)) (hR : d' + 1 ≤ R.frames ∧ 8 + (n' + 11) + 40 * d' ≤ R.locals) (hf : cells ≤ R.cells ∧ slots ≤ R.slots) :
    va_Run p l e R s m args below meth c H locs cells slots 0 0 (F0 m pc ls st) rest (Qc (Value.ref (b + k) :: As).toArray) free := by
  obtain ⟨i1, i2, i3, i4, i5, i6, i7⟩ := mi
  exact va_runVN (C := y.cls) (host := host) (Ts := TB) ⟨hx, hb, hml, hown, hts⟩ hM ⟨va_cnB na hts (tb_in i4) rfl rfl rfl (hW.1.2.1 _ hlink rfl) (hts _ i3) ⟨i5, i6, i7⟩ hR, hts _ i1, hts _ i2⟩ ⟨m_blindO, va_recv hW.1.1 hW.2.1 hc (m_w_at hk), fun U hU hw => ⟨rfl, m_preO (as := As) hW hO U hU hw⟩⟩ rfl hn hls hst (lv_room hroom) hdg hf
/-- a call on the string -/
theorem m_runVA {As : List Value} (hx : p.tables.exec = Jvm.exec) (hb : c.code = cc) (hml : c.maxLocals = nL) (hown : s.vm.findClass own = some m.cls) (hts : ∀ w ∈ TB, w.before args s = true) (hW : m_WA (m_A b LAY) D cy s b LAY μ H locs) (hO : m_O (m_A b LAY) oq oa ov s s.heap) (hM : Met l y (.code y c' n' ret' :: TB) (m_R d' 0 0) (va_Pc (.ref oa :: As) (m_BO D cy b oq oa ov μ)) Qc 0 0 free) (mi : m_mI y c' n' ret' na) (hlink : Cond.methodLink own index y ∈ TB) (hc : y.cls = "java/lang/String") (hn : As.length = na) (hls : ls.size = nL) (hst : st = As.reverse ++ .ref oa :: rest) (hroom : (rest.map fun v => v.category).sum ≤ 8) (hdg : decode cc pc = .ok (.invokevirtual index, 3)) (hR : d' + 1 ≤ R.frames ∧ 8 + (n' + 11) + 40 * d' ≤ R.locals) (hf : cells ≤ R.cells ∧ slots ≤ R.slots) :
    va_Run p l e R s m args below meth c H locs cells slots 0 0 (F0 m pc ls st) rest (Qc (Value.ref oa :: As).toArray) free := by
  obtain ⟨i1, i2, i3, i4, i5, i6, i7⟩ := mi
  obtain ⟨cell, g1, g2, g3, -⟩ := hO.o.kept hW.2.2.1.2.1
  exact va_runV (C := y.cls) (Ts := TB) ⟨hx, hb, hml, hown, hts⟩ hM ⟨callB_of na hts (tb_in i4) rfl rfl rfl (hts _ i3) (hts _ hlink) ⟨i5, i6, i7⟩ hR, hts _ i1, hts _ i2⟩ ⟨m_blindO, ⟨cell, g1, g2, by rw [hc]; exact g3⟩, fun U hU hw => ⟨rfl, m_preO (as := As) hW hO U hU hw⟩⟩ rfl hn hls hst (lv_room hroom) hdg hf
theorem m_runSO {As : List Value} (hx : p.tables.exec = Jvm.exec) (hb : c.code = cc) (hml : c.maxLocals = nL) (hown : s.vm.findClass own = some m.cls) (hts : ∀ w ∈ TB, w.before args s = true) (hW : m_WA (m_A b LAY) D cy s b LAY μ H locs) (hO : m_O (m_A b LAY) oq oa ov s s.heap) (hM : Met l y (.code y c' n' ret' :: TB) (m_R d' 0 0) (va_Pc As (m_BO D cy b oq oa ov μ)) Qc 0 0 free) (mi : m_mS y c' n' ret' na) (hlink : Cond.methodLink own index y ∈ TB) (hn : As.length = na) (hls : ls.size = nL) (hst : st = As.reverse ++ rest) (hroom : (rest.map fun v => v.category).sum ≤ 8) (hdg : decode cc pc = .ok (.invokestatic index, 3)) (hR : d' + 1 ≤ R.frames ∧ 8 + (n' + 11) + 40 * d' ≤ R.locals) (hf : cells ≤ R.cells ∧ slots ≤ R.slots) :
    va_Run p l e R s m args below meth c H locs cells slots 0 0 (F0 m pc ls st) rest (Qc As.toArray) free := by
  obtain ⟨i1, i3, i4, i5, i6, i7⟩ := mi
  exact va_runS (Ts := TB) ⟨hx, hb, hml, hown, hts⟩ hM ⟨callB_of na hts (tb_in i4) rfl rfl rfl (hts _ i3) (hts _ hlink) ⟨i5, i6, i7⟩ hR, hts _ i1⟩ ⟨m_blindO, fun U hU hw => ⟨rfl, m_preO (as := As) hW hO U hU hw⟩⟩ rfl hn hls hst (lv_room hroom) hdg hf
theorem m_runSNO {As : List Value} {host : String} (hx : p.tables.exec = Jvm.exec) (hb : c.code = cc) (hml : c.maxLocals = nL) (hown : s.vm.findClass own = some m.cls) (hts : ∀ w ∈ TB, w.before args s = true) (hW : m_WA (m_A b LAY) D cy s b LAY μ H locs) (hO : m_O (m_A b LAY) oq oa ov s s.heap) (hM : Met l y (.code y c' n' ret' :: TB) (m_R d' 0 0) (va_Pc As (m_BO D cy b oq oa ov μ)) Qc 0 0 free) (mi : m_mS y c' n' ret' na) (hlink : Cond.methodLinkNest own index y host ∈ lw_tbl) (hn : As.length = na) (hls : ls.size = nL) (hst : st = As.reverse ++ rest) (hroom : (rest.map fun v => v.category).sum ≤ 8) (hdg : decode cc pc = .ok (.invokestatic index, 3)) (hR : d' + 1 ≤ R.frames ∧ 8 + (n' + 11) + 40 * d' ≤ R.locals) (hf : cells ≤ R.cells ∧ slots ≤ R.slots) :
    va_Run p l e R s m args below meth c H locs cells slots 0 0 (F0 m pc ls st) rest (Qc As.toArray) free := by
  obtain ⟨i1, i3, i4, i5, i6, i7⟩ := mi
  exact va_runSN (host := host) (Ts := TB) ⟨hx, hb, hml, hown, hts⟩ hM ⟨va_cnB na hts (tb_in i4) rfl rfl rfl (hW.1.2.1 _ hlink rfl) (hts _ i3) ⟨i5, i6, i7⟩ hR, hts _ i1, trivial⟩ ⟨m_blindO, fun U hU hw => ⟨rfl, m_preO (as := As) hW hO U hU hw⟩⟩ rfl hn hls hst (lv_room hroom) hdg hf
end MO
theorem kf_J0_38 : Cond.fieldLink RJ0 38 "java/lang/String" "COMPACT_STRINGS" "Z" ∈ TB := tb3 42 rfl rfl
theorem kf_J0_1053 : Cond.fieldLink RJ0 1053 "jdk/internal/util/Preconditions" "SIOOBE_FORMATTER" "Ljava/util/function/BiFunction;" ∈ TB := tb3 58 rfl rfl
theorem kf_X9_52 : Cond.fieldLink RX9 52 "BeamPlate$Trials" "ORDERS" "[I" ∈ TB := tb4 160 rfl rfl
theorem kf_J0_9 : Cond.fieldLink RJ0 9 "java/lang/String" "value" "[B" ∈ TB := tb7 64 rfl rfl
theorem kf_J0_15 : Cond.fieldLink RJ0 15 "java/lang/String" "coder" "B" ∈ TB := tb7 65 rfl rfl
set_option maxHeartbeats 4000000 in
set_option maxRecDepth 100000 in
theorem g_J0_coder_7d493 (l : Launch) (D : va_G) (cy : Nat → ClassId) (b oq oa ov : Nat) (μ : mM) (hI : IX μ) : m_CiO l yJ0_coder_7d493 cJ0_coder_7d493 1 ((some .byte)) 0 D cy b oq oa ov μ [.ref oa] (fun r ν => μ = ν ∧ (r = 0)) := by
  unfold m_CiO
  refine m_ofO (by decide) (Nat.le_of_ble_eq_true rfl) ?_
  intro p e s m below meth c hx hb hr hml hown hts hlocks _ hW hO ls hl
  have hown : s.vm.findClass RJ0 = some m.cls := hown
  have hl : lv_has ls 1 [(0, .ref oa)] := hl
  refine va_gets hx hb hO.c hW.2.2.1 hown (hts _ kf_J0_38) (fun _ h => h) dJ0_coder_7d493_0 ?_
  refine lv_if_eq (tgt := 13) hx hb dJ0_coder_7d493_3 (by decide) (fun c => False.elim (by revert c; decide)) (fun _ => ?_)
  refine lv_aload_n hx hb dJ0_coder_7d493_6 rfl (lv_at hl 0 rfl) ?_
  refine vk_getf hx hb hO.k hW.2.2.1 hown (hts _ kf_J0_15) (fun _ h => h) dJ0_coder_7d493_7 ?_
  refine lv_goto (tgt := 14) hx hb dJ0_coder_7d493_10 (by decide) ?_
  exact m_iret hx hb hr hlocks hW (by decide) (⟨rfl, rfl⟩) dJ0_coder_7d493_14
set_option maxHeartbeats 4000000 in
set_option maxRecDepth 100000 in
theorem g_J0_length_8abf5 (l : Launch) (D : va_G) (cy : Nat → ClassId) (b oq oa ov : Nat) (μ : mM) (hI : IX μ) : m_CiO l yJ0_length_8abf5 cJ0_length_8abf5 1 ((some .int)) 1 D cy b oq oa ov μ [.ref oa] (fun r ν => μ = ν ∧ (r = 82)) := by
  unfold m_CiO
  refine m_ofO (by decide) (Nat.le_of_ble_eq_true rfl) ?_
  intro p e s m below meth c hx hb hr hml hown hts hlocks _ hW hO ls hl
  have hown : s.vm.findClass RJ0 = some m.cls := hown
  have hl : lv_has ls 1 [(0, .ref oa)] := hl
  refine lv_aload_n hx hb dJ0_length_8abf5_0 rfl (lv_at hl 0 rfl) ?_
  refine vk_getf hx hb hO.w hW.2.2.1 hown (hts _ kf_J0_9) (fun _ h => h) dJ0_length_8abf5_1 ?_
  refine va_tlen hx hb hO.y hW.2.2.1 (v := 82) rfl dJ0_length_8abf5_4 ?_
  refine lv_aload_n hx hb dJ0_length_8abf5_5 rfl (lv_at hl 0 rfl) ?_
  refine m_aI hW (m_runVA (As := []) (rest := [.int 82]) hx hb hml hown hts hW hO (g_J0_coder_7d493 l D cy b oq oa ov μ hI) mi_J0_coder_7d493 k_J0_335 rfl rfl hl.1 rfl (Nat.le_of_ble_eq_true rfl) dJ0_length_8abf5_6 ⟨Nat.le_of_ble_eq_true rfl, Nat.le_of_ble_eq_true rfl⟩ ⟨Nat.le_of_ble_eq_true rfl, Nat.le_of_ble_eq_true rfl⟩) (fun x1 μ1 H locs q1 hW => ?_)
  obtain ⟨q1_m, q1⟩ := q1
  subst q1_m
  have q1 := q1.symm
  subst q1
  refine lv_ishr hx hb dJ0_length_8abf5_9 ?_
  refine lv_topi (fun x2 ex2 => ?_)
  have ex2 : x2 = 82 := by rw [ex2]; decide
  have ex2 := ex2.symm
  subst ex2
  exact m_iret hx hb hr hlocks hW rfl (⟨rfl, rfl⟩) dJ0_length_8abf5_10
set_option maxHeartbeats 4000000 in
set_option maxRecDepth 100000 in
theorem g_J0_isLatin1_aae02 (l : Launch) (D : va_G) (cy : Nat → ClassId) (b oq oa ov : Nat) (μ : mM) (hI : IX μ) : m_CiO l yJ0_isLatin1_aae02 cJ0_isLatin1_aae02 1 ((some .boolean)) 0 D cy b oq oa ov μ [.ref oa] (fun r ν => μ = ν ∧ (r = 1)) := by
  unfold m_CiO
  refine m_ofO (by decide) (Nat.le_of_ble_eq_true rfl) ?_
  intro p e s m below meth c hx hb hr hml hown hts hlocks _ hW hO ls hl
  have hown : s.vm.findClass RJ0 = some m.cls := hown
  have hl : lv_has ls 1 [(0, .ref oa)] := hl
  refine va_gets hx hb hO.c hW.2.2.1 hown (hts _ kf_J0_38) (fun _ h => h) dJ0_isLatin1_aae02_0 ?_
  refine lv_if_eq (tgt := 17) hx hb dJ0_isLatin1_aae02_3 (by decide) (fun c => False.elim (by revert c; decide)) (fun _ => ?_)
  refine lv_aload_n hx hb dJ0_isLatin1_aae02_6 rfl (lv_at hl 0 rfl) ?_
  refine vk_getf hx hb hO.k hW.2.2.1 hown (hts _ kf_J0_15) (fun _ h => h) dJ0_isLatin1_aae02_7 ?_
  refine lv_if_ne (tgt := 17) hx hb dJ0_isLatin1_aae02_10 (by decide) (fun c => False.elim (by revert c; decide)) (fun _ => ?_)
  refine lv_iconst (v := 1) hx hb dJ0_isLatin1_aae02_13 (by decide) ?_
  refine lv_goto (tgt := 18) hx hb dJ0_isLatin1_aae02_14 (by decide) ?_
  exact m_iret hx hb hr hlocks hW (by decide) (⟨rfl, rfl⟩) dJ0_isLatin1_aae02_18
set_option maxHeartbeats 4000000 in
set_option maxRecDepth 100000 in
theorem g_J3_checkIndex_8e157_n (l : Launch) (D : va_G) (cy : Nat → ClassId) (b oq oa ov : Nat) (k u : Int32) (h_k : 0 ≤ k.toInt ∧ k.toInt ≤ 81) (h_u : 82 ≤ u.toInt ∧ u.toInt ≤ 82) (μ : mM) (hI : IX μ) : m_CiO l yJ3_checkIndex_8e157 cJ3_checkIndex_8e157 3 ((some .int)) 1 D cy b oq oa ov μ [.int k, .int u, .null] (fun r ν => μ = ν ∧ (True)) := by
  unfold m_CiO
  refine m_ofO (by decide) (Nat.le_of_ble_eq_true rfl) ?_
  intro p e s m below meth c hx hb hr hml hown hts hlocks _ hW hO ls hl
  have hown : s.vm.findClass RJ3 = some m.cls := hown
  have hl : lv_has ls 3 [(0, .int k), (1, .int u), (2, .null)] := hl
  refine lv_iload_n hx hb dJ3_checkIndex_8e157_0 rfl (lv_at hl 0 rfl) ?_
  refine lv_if_lt (tgt := 9) hx hb dJ3_checkIndex_8e157_1 (by decide) (fun c1 => ?_) (fun c1 => ?_)
  · have i1 := m_c1 (rfl : k.toInt = _) (by decide : (0 : Int32).toInt = 0) c1
    exfalso; omega
  · have i1 := m_c2 (rfl : k.toInt = _) (by decide : (0 : Int32).toInt = 0) c1
    refine lv_iload_n hx hb dJ3_checkIndex_8e157_4 rfl (lv_at hl 0 rfl) ?_
    refine lv_iload_n hx hb dJ3_checkIndex_8e157_5 rfl (lv_at hl 1 rfl) ?_
    refine lv_icmp_lt (tgt := 16) hx hb dJ3_checkIndex_8e157_6 (by decide) (fun c2 => ?_) (fun c2 => ?_)
    · have i2 := m_c1 (rfl : k.toInt = _) (rfl : u.toInt = _) c2
      refine lv_iload_n hx hb dJ3_checkIndex_8e157_16 rfl (lv_at hl 0 rfl) ?_
      exact m_iret hx hb hr hlocks hW rfl (⟨rfl, trivial⟩) dJ3_checkIndex_8e157_17
    · have i2 := m_c2 (rfl : k.toInt = _) (rfl : u.toInt = _) c2
      exfalso; omega
set_option maxHeartbeats 4000000 in
set_option maxRecDepth 100000 in
theorem g_J3_checkIndex_8e157_r (l : Launch) (D : va_G) (cy : Nat → ClassId) (b oq oa ov : Nat) (fa : Nat) (k u : Int32) (h_k : 0 ≤ k.toInt ∧ k.toInt ≤ 81) (h_u : 82 ≤ u.toInt ∧ u.toInt ≤ 82) (μ : mM) (hI : IX μ) : m_CiO l yJ3_checkIndex_8e157 cJ3_checkIndex_8e157 3 ((some .int)) 1 D cy b oq oa ov μ [.int k, .int u, .ref fa] (fun r ν => μ = ν ∧ (True)) := by
  unfold m_CiO
  refine m_ofO (by decide) (Nat.le_of_ble_eq_true rfl) ?_
  intro p e s m below meth c hx hb hr hml hown hts hlocks _ hW hO ls hl
  have hown : s.vm.findClass RJ3 = some m.cls := hown
  have hl : lv_has ls 3 [(0, .int k), (1, .int u), (2, .ref fa)] := hl
  refine lv_iload_n hx hb dJ3_checkIndex_8e157_0 rfl (lv_at hl 0 rfl) ?_
  refine lv_if_lt (tgt := 9) hx hb dJ3_checkIndex_8e157_1 (by decide) (fun c1 => ?_) (fun c1 => ?_)
  · have i1 := m_c1 (rfl : k.toInt = _) (by decide : (0 : Int32).toInt = 0) c1
    exfalso; omega
  · have i1 := m_c2 (rfl : k.toInt = _) (by decide : (0 : Int32).toInt = 0) c1
    refine lv_iload_n hx hb dJ3_checkIndex_8e157_4 rfl (lv_at hl 0 rfl) ?_
    refine lv_iload_n hx hb dJ3_checkIndex_8e157_5 rfl (lv_at hl 1 rfl) ?_
    refine lv_icmp_lt (tgt := 16) hx hb dJ3_checkIndex_8e157_6 (by decide) (fun c2 => ?_) (fun c2 => ?_)
    · have i2 := m_c1 (rfl : k.toInt = _) (rfl : u.toInt = _) c2
      refine lv_iload_n hx hb dJ3_checkIndex_8e157_16 rfl (lv_at hl 0 rfl) ?_
      exact m_iret hx hb hr hlocks hW rfl (⟨rfl, trivial⟩) dJ3_checkIndex_8e157_17
    · have i2 := m_c2 (rfl : k.toInt = _) (rfl : u.toInt = _) c2
      exfalso; omega
set_option maxHeartbeats 4000000 in
set_option maxRecDepth 100000 in
theorem g_J0_checkIndex_df160 (l : Launch) (D : va_G) (cy : Nat → ClassId) (b oq oa ov : Nat) (k u : Int32) (h_k : 0 ≤ k.toInt ∧ k.toInt ≤ 81) (h_u : 82 ≤ u.toInt ∧ u.toInt ≤ 82) (μ : mM) (hI : IX μ) : m_CvO l yJ0_checkIndex_df160 cJ0_checkIndex_df160 2 (none) 2 D cy b oq oa ov μ [.int k, .int u] (fun ν => μ = ν ∧ (True)) := by
  unfold m_CvO
  refine m_ofO (by decide) (Nat.le_of_ble_eq_true rfl) ?_
  intro p e s m below meth c hx hb hr hml hown hts hlocks _ hW hO ls hl
  have hown : s.vm.findClass RJ0 = some m.cls := hown
  have hl : lv_has ls 2 [(0, .int k), (1, .int u)] := hl
  refine lv_iload_n hx hb dJ0_checkIndex_df160_0 rfl (lv_at hl 0 rfl) ?_
  refine lv_iload_n hx hb dJ0_checkIndex_df160_1 rfl (lv_at hl 1 rfl) ?_
  rcases hO.f with z1 | ⟨fa1, z1⟩
  · refine va_gets hx hb z1 hW.2.2.1 hown (hts _ kf_J0_1053) (fun _ h => h) dJ0_checkIndex_df160_2 ?_
    refine m_aI hW (m_runSO (As := [.int k, .int u, .null]) (rest := []) hx hb hml hown hts hW hO (g_J3_checkIndex_8e157_n l D cy b oq oa ov k u (by omega) (by omega) μ hI) ms_J3_checkIndex_8e157 k_J0_1059 rfl hl.1 rfl (Nat.le_of_ble_eq_true rfl) dJ0_checkIndex_df160_5 ⟨Nat.le_of_ble_eq_true rfl, Nat.le_of_ble_eq_true rfl⟩ ⟨Nat.le_of_ble_eq_true rfl, Nat.le_of_ble_eq_true rfl⟩) (fun x2 μ2 H locs q2 hW => ?_)
    obtain ⟨q2_m, q2⟩ := q2
    subst q2_m
    refine lv_pop hx hb dJ0_checkIndex_df160_8 rfl ?_
    exact m_vret hx hb hr hlocks hW (⟨rfl, trivial⟩) dJ0_checkIndex_df160_9
  · refine va_gets hx hb z1 hW.2.2.1 hown (hts _ kf_J0_1053) (fun _ h => h) dJ0_checkIndex_df160_2 ?_
    refine m_aI hW (m_runSO (As := [.int k, .int u, .ref fa1]) (rest := []) hx hb hml hown hts hW hO (g_J3_checkIndex_8e157_r l D cy b oq oa ov fa1 k u (by omega) (by omega) μ hI) ms_J3_checkIndex_8e157 k_J0_1059 rfl hl.1 rfl (Nat.le_of_ble_eq_true rfl) dJ0_checkIndex_df160_5 ⟨Nat.le_of_ble_eq_true rfl, Nat.le_of_ble_eq_true rfl⟩ ⟨Nat.le_of_ble_eq_true rfl, Nat.le_of_ble_eq_true rfl⟩) (fun x3 μ3 H locs q3 hW => ?_)
    obtain ⟨q3_m, q3⟩ := q3
    subst q3_m
    refine lv_pop hx hb dJ0_checkIndex_df160_8 rfl ?_
    exact m_vret hx hb hr hlocks hW (⟨rfl, trivial⟩) dJ0_checkIndex_df160_9
set_option maxHeartbeats 4000000 in
set_option maxRecDepth 100000 in
theorem g_J1_charAt_3b067 (l : Launch) (D : va_G) (cy : Nat → ClassId) (b oq oa ov : Nat) (k : Int32) (h_k : 0 ≤ k.toInt ∧ k.toInt ≤ 81) (μ : mM) (hI : IX μ) : m_CiO l yJ1_charAt_3b067 cJ1_charAt_3b067 2 ((some .char)) 3 D cy b oq oa ov μ [.ref ov, .int k] (fun r ν => μ = ν ∧ (r = kwC k)) := by
  unfold m_CiO
  refine m_ofO (by decide) (Nat.le_of_ble_eq_true rfl) ?_
  intro p e s m below meth c hx hb hr hml hown hts hlocks _ hW hO ls hl
  have hown : s.vm.findClass RJ1 = some m.cls := hown
  have hl : lv_has ls 2 [(0, .ref ov), (1, .int k)] := hl
  refine lv_iload_n hx hb dJ1_charAt_3b067_0 rfl (lv_at hl 1 rfl) ?_
  refine lv_aload_n hx hb dJ1_charAt_3b067_1 rfl (lv_at hl 0 rfl) ?_
  refine va_tlen hx hb hO.y hW.2.2.1 (v := 82) rfl dJ1_charAt_3b067_2 ?_
  have l_82 : (82 : Int32).toInt = 82 := by decide
  refine m_aV hW (m_runSO (As := [.int k, .int 82]) (rest := []) hx hb hml hown hts hW hO (g_J0_checkIndex_df160 l D cy b oq oa ov k 82 (by omega) (by omega) μ hI) ms_J0_checkIndex_df160 k_J1_9 rfl hl.1 rfl (Nat.le_of_ble_eq_true rfl) dJ1_charAt_3b067_3 ⟨Nat.le_of_ble_eq_true rfl, Nat.le_of_ble_eq_true rfl⟩ ⟨Nat.le_of_ble_eq_true rfl, Nat.le_of_ble_eq_true rfl⟩) (fun μ1 H locs q1 hW => ?_)
  obtain ⟨q1_m, q1⟩ := q1
  subst q1_m
  refine lv_aload_n hx hb dJ1_charAt_3b067_6 rfl (lv_at hl 0 rfl) ?_
  refine lv_iload_n hx hb dJ1_charAt_3b067_7 rfl (lv_at hl 1 rfl) ?_
  refine va_tb hx hb hO.y hW.2.2.1 (m_ixI (rfl : k.toInt = _) (by omega) (by omega)) (v := .int (kwC k)) rfl dJ1_charAt_3b067_8 ?_
  refine lv_sipush (v := 255) hx hb dJ1_charAt_3b067_9 (by decide) ?_
  refine lv_iand hx hb dJ1_charAt_3b067_12 ?_
  refine lv_topi (fun x2 ex2 => ?_)
  have bx2 : 0 ≤ x2.toInt ∧ x2.toInt ≤ 255 := m_andN (n := 255) ex2 rfl (by decide)
  refine lv_i2c (v := kwC k) hx hb dJ1_charAt_3b067_13 (by rw [ex2]; exact (kw_c h_k).1) ?_
  exact m_iret hx hb hr hlocks hW (kw_c h_k).2 (⟨rfl, rfl⟩) dJ1_charAt_3b067_14
set_option maxHeartbeats 4000000 in
set_option maxRecDepth 100000 in
theorem g_J0_charAt_5068e (l : Launch) (D : va_G) (cy : Nat → ClassId) (b oq oa ov : Nat) (k : Int32) (h_k : 0 ≤ k.toInt ∧ k.toInt ≤ 81) (μ : mM) (hI : IX μ) : m_CiO l yJ0_charAt_5068e cJ0_charAt_5068e 2 ((some .char)) 4 D cy b oq oa ov μ [.ref oa, .int k] (fun r ν => μ = ν ∧ (r = kwC k)) := by
  unfold m_CiO
  refine m_ofO (by decide) (Nat.le_of_ble_eq_true rfl) ?_
  intro p e s m below meth c hx hb hr hml hown hts hlocks _ hW hO ls hl
  have hown : s.vm.findClass RJ0 = some m.cls := hown
  have hl : lv_has ls 2 [(0, .ref oa), (1, .int k)] := hl
  refine lv_aload_n hx hb dJ0_charAt_5068e_0 rfl (lv_at hl 0 rfl) ?_
  refine m_aI hW (m_runVA (As := []) (rest := []) hx hb hml hown hts hW hO (g_J0_isLatin1_aae02 l D cy b oq oa ov μ hI) mi_J0_isLatin1_aae02 k_J0_492 rfl rfl hl.1 rfl (Nat.le_of_ble_eq_true rfl) dJ0_charAt_5068e_1 ⟨Nat.le_of_ble_eq_true rfl, Nat.le_of_ble_eq_true rfl⟩ ⟨Nat.le_of_ble_eq_true rfl, Nat.le_of_ble_eq_true rfl⟩) (fun x1 μ1 H locs q1 hW => ?_)
  obtain ⟨q1_m, q1⟩ := q1
  subst q1_m
  have q1 := q1.symm
  subst q1
  refine lv_if_eq (tgt := 16) hx hb dJ0_charAt_5068e_4 (by decide) (fun c => False.elim (by revert c; decide)) (fun _ => ?_)
  refine lv_aload_n hx hb dJ0_charAt_5068e_7 rfl (lv_at hl 0 rfl) ?_
  refine vk_getf hx hb hO.w hW.2.2.1 hown (hts _ kf_J0_9) (fun _ h => h) dJ0_charAt_5068e_8 ?_
  refine lv_iload_n hx hb dJ0_charAt_5068e_11 rfl (lv_at hl 1 rfl) ?_
  refine m_aI hW (m_runSO (As := [.ref ov, .int k]) (rest := []) hx hb hml hown hts hW hO (g_J1_charAt_3b067 l D cy b oq oa ov k (by omega) μ hI) ms_J1_charAt_3b067 k_J0_495 rfl hl.1 rfl (Nat.le_of_ble_eq_true rfl) dJ0_charAt_5068e_12 ⟨Nat.le_of_ble_eq_true rfl, Nat.le_of_ble_eq_true rfl⟩ ⟨Nat.le_of_ble_eq_true rfl, Nat.le_of_ble_eq_true rfl⟩) (fun x2 μ2 H locs q2 hW => ?_)
  obtain ⟨q2_m, q2⟩ := q2
  subst q2_m
  exact m_iret hx hb hr hlocks hW (by rw [q2]; exact (kw_c h_k).2) (⟨rfl, q2⟩) dJ0_charAt_5068e_15
set_option maxHeartbeats 4000000 in
set_option maxRecDepth 100000 in
theorem L_X8_kindOfWord_12 {p : Program} {l : Launch} {e : Env} {s : State} {m : MethodId} {args : Array Value} {below : List Frame} {meth : Method} {c : Code} {D : va_G} {cy : Nat → ClassId} {b : Nat} (hx : p.tables.exec = Jvm.exec) (hb : c.code = cX8_kindOfWord) (hr : meth.sig.returnType = ((some .int))) (hml : c.maxLocals = 8) (hown : s.vm.findClass RX8 = some m.cls) (hts : ∀ w ∈ TB, w.before args s = true) (hlocks : meth.locks = false) {oq oa ov : Nat} (hO : m_O (m_A b LAY) oq oa ov s s.heap) (μ1 : mM) (k u : Int32) : ∀ (f : Nat), ∀ (y3 y4 y5 y6 : Int32) (hy : 0 ≤ y5.toInt ∧ y5.toInt ≤ 1 ∧ 0 ≤ y6.toInt ∧ y6.toInt ≤ 82) (hf : 82 - y6.toInt < (f : Int)) (μ : mM) (hI : IX μ) (hm : μ = μ1) (H : Heap) (locs : List Loc), m_WA (m_A b LAY) D cy s b LAY μ H locs → ∀ ls : Array Slot, lv_has ls 8 [(0, .ref (b + 23)), (1, .int k), (2, .int u), (3, .int y3), (4, .int y4), (5, .int y5), (6, .int y6)] → W p l e (m_R 5 0 0) s m args below meth c H locs 0 0 (MQ below (m_Qi D cy b LAY (fun r ν => μ1 = ν ∧ (True))) args s 0 0 (m_A b LAY)) (F0 m 12 ls []) := by
  intro f
  induction f with
  | zero => intro y3 y4 y5 y6 hy hf; exfalso; omega
  | succ f ih =>
    intro y3 y4 y5 y6 hy hf μ hI hm H locs hW ls hl
    refine lv_iload hx hb dX8_kindOfWord_12 (lv_at hl 6 rfl) ?_
    refine va_ldcS hx hb hown hO.r dX8_kindOfWord_14 ?_
    refine m_aI hW (m_runVA (As := []) (rest := [.int y6]) hx hb hml hown hts hW hO (g_J0_length_8abf5 l D cy b oq oa ov μ hI) mi_J0_length_8abf5 k_X8_68 rfl rfl hl.1 rfl (Nat.le_of_ble_eq_true rfl) dX8_kindOfWord_16 ⟨Nat.le_of_ble_eq_true rfl, Nat.le_of_ble_eq_true rfl⟩ ⟨Nat.le_of_ble_eq_true rfl, Nat.le_of_ble_eq_true rfl⟩) (fun x1 μ1 H locs q1 hW => ?_)
    obtain ⟨q1_m, q1⟩ := q1
    subst q1_m
    have q1 := q1.symm
    subst q1
    refine lv_icmp_ge (tgt := 101) hx hb dX8_kindOfWord_19 (by decide) (fun c2 => ?_) (fun c2 => ?_)
    · have i2 := m_c3 (by decide : (82 : Int32).toInt = 82) (rfl : y6.toInt = _) c2
      refine lv_iconst (v := 0) hx hb dX8_kindOfWord_101 (by decide) ?_
      exact m_iret hx hb hr hlocks hW rfl (⟨hm.symm, trivial⟩) dX8_kindOfWord_102
    · have i2 := m_c4 (by decide : (82 : Int32).toInt = 82) (rfl : y6.toInt = _) c2
      refine va_ldcS hx hb hown hO.r dX8_kindOfWord_22 ?_
      refine lv_iload hx hb dX8_kindOfWord_24 (lv_at hl 6 rfl) ?_
      refine m_aI hW (m_runVA (As := [.int y6]) (rest := []) hx hb hml hown hts hW hO (g_J0_charAt_5068e l D cy b oq oa ov y6 (by omega) μ hI) mi_J0_charAt_5068e k_X8_74 rfl rfl hl.1 rfl (Nat.le_of_ble_eq_true rfl) dX8_kindOfWord_26 ⟨Nat.le_of_ble_eq_true rfl, Nat.le_of_ble_eq_true rfl⟩ ⟨Nat.le_of_ble_eq_true rfl, Nat.le_of_ble_eq_true rfl⟩) (fun x3 μ3 H locs q3 hW => ?_)
      obtain ⟨q3_m, q3⟩ := q3
      subst q3_m
      refine lv_istore (lv' := [(7, .int x3), (0, .ref (b + 23)), (1, .int k), (2, .int u), (3, .int y3), (4, .int y4), (5, .int y5), (6, .int y6)]) hx hb dX8_kindOfWord_29 hl (by decide) rfl (fun ls hl => ?_)
      refine lv_iload hx hb dX8_kindOfWord_31 (lv_at hl 0 rfl) ?_
      refine lv_bipush (v := 32) hx hb dX8_kindOfWord_33 (by decide) ?_
      refine lv_icmp_eq (tgt := 73) hx hb dX8_kindOfWord_35 (by decide) (fun c4 => ?_) (fun c4 => ?_)
      · have i4 := m_c5 (rfl : x3.toInt = _) (by decide : (32 : Int32).toInt = 32) c4
        refine lv_iload hx hb dX8_kindOfWord_73 (lv_at hl 6 rfl) ?_
        refine lv_if_eq (tgt := 86) hx hb dX8_kindOfWord_75 (by decide) (fun c5 => ?_) (fun c5 => ?_)
        · have i5 := m_c5 (rfl : y5.toInt = _) (by decide : (0 : Int32).toInt = 0) c5
          obtain ⟨x6, ex6⟩ : ∃ z : Int32, z = y3 + 1 := ⟨_, rfl⟩
          refine lv_iinc (v := x6) (lv' := [(3, .int x6), (7, .int x3), (0, .ref (b + 23)), (1, .int k), (2, .int u), (4, .int y4), (5, .int y5), (6, .int y6)]) hx hb dX8_kindOfWord_86 hl (k := 4) rfl (by rw [ex6]; rfl) (by decide) rfl (fun ls hl => ?_)
          refine lv_iload_n hx hb dX8_kindOfWord_89 rfl (lv_at hl 3 rfl) ?_
          refine lv_istore (lv' := [(4, .int k), (3, .int x6), (7, .int x3), (0, .ref (b + 23)), (1, .int k), (2, .int u), (5, .int y5), (6, .int y6)]) hx hb dX8_kindOfWord_90 hl (by decide) rfl (fun ls hl => ?_)
          refine lv_iconst (v := 1) hx hb dX8_kindOfWord_92 (by decide) ?_
          refine lv_istore (lv' := [(5, .int 1), (4, .int k), (3, .int x6), (7, .int x3), (0, .ref (b + 23)), (1, .int k), (2, .int u), (6, .int y6)]) hx hb dX8_kindOfWord_93 hl (by decide) rfl (fun ls hl => ?_)
          obtain ⟨x7, ex7⟩ : ∃ z : Int32, z = y6 + 1 := ⟨_, rfl⟩
          refine lv_iinc (v := x7) (lv' := [(6, .int x7), (5, .int 1), (4, .int k), (3, .int x6), (7, .int x3), (0, .ref (b + 23)), (1, .int k), (2, .int u)]) hx hb dX8_kindOfWord_95 hl (k := 7) rfl (by rw [ex7]; rfl) (by decide) rfl (fun ls hl => ?_)
          have tx7 : x7.toInt = y6.toInt + 1 := m_addI ex7 (rfl : y6.toInt = _) (by decide : (1 : Int32).toInt = 1) (by omega) (by omega)
          refine lv_goto (tgt := 12) hx hb dX8_kindOfWord_98 (by decide) ?_
          have l_1 : (1 : Int32).toInt = 1 := by decide
          exact ih x6 k 1 x7 (by omega) (by omega) μ hI hm _ _ hW ls (lv_sub hl [5, 6, 7, 3, 2, 1, 0] rfl)
        · have i5 := m_c6 (rfl : y5.toInt = _) (by decide : (0 : Int32).toInt = 0) c5
          refine lv_iload hx hb dX8_kindOfWord_78 (lv_at hl 5 rfl) ?_
          refine lv_iload_n hx hb dX8_kindOfWord_80 rfl (lv_at hl 3 rfl) ?_
          refine lv_icmp_ne (tgt := 86) hx hb dX8_kindOfWord_81 (by decide) (fun c8 => ?_) (fun c8 => ?_)
          · have i8 := m_c6 (rfl : y4.toInt = _) (rfl : u.toInt = _) c8
            obtain ⟨x9, ex9⟩ : ∃ z : Int32, z = y3 + 1 := ⟨_, rfl⟩
            refine lv_iinc (v := x9) (lv' := [(3, .int x9), (7, .int x3), (0, .ref (b + 23)), (1, .int k), (2, .int u), (4, .int y4), (5, .int y5), (6, .int y6)]) hx hb dX8_kindOfWord_86 hl (k := 4) rfl (by rw [ex9]; rfl) (by decide) rfl (fun ls hl => ?_)
            refine lv_iload_n hx hb dX8_kindOfWord_89 rfl (lv_at hl 3 rfl) ?_
            refine lv_istore (lv' := [(4, .int k), (3, .int x9), (7, .int x3), (0, .ref (b + 23)), (1, .int k), (2, .int u), (5, .int y5), (6, .int y6)]) hx hb dX8_kindOfWord_90 hl (by decide) rfl (fun ls hl => ?_)
            refine lv_iconst (v := 1) hx hb dX8_kindOfWord_92 (by decide) ?_
            refine lv_istore (lv' := [(5, .int 1), (4, .int k), (3, .int x9), (7, .int x3), (0, .ref (b + 23)), (1, .int k), (2, .int u), (6, .int y6)]) hx hb dX8_kindOfWord_93 hl (by decide) rfl (fun ls hl => ?_)
            obtain ⟨x10, ex10⟩ : ∃ z : Int32, z = y6 + 1 := ⟨_, rfl⟩
            refine lv_iinc (v := x10) (lv' := [(6, .int x10), (5, .int 1), (4, .int k), (3, .int x9), (7, .int x3), (0, .ref (b + 23)), (1, .int k), (2, .int u)]) hx hb dX8_kindOfWord_95 hl (k := 7) rfl (by rw [ex10]; rfl) (by decide) rfl (fun ls hl => ?_)
            have tx10 : x10.toInt = y6.toInt + 1 := m_addI ex10 (rfl : y6.toInt = _) (by decide : (1 : Int32).toInt = 1) (by omega) (by omega)
            refine lv_goto (tgt := 12) hx hb dX8_kindOfWord_98 (by decide) ?_
            have l_1 : (1 : Int32).toInt = 1 := by decide
            exact ih x9 k 1 x10 (by omega) (by omega) μ hI hm _ _ hW ls (lv_sub hl [5, 6, 7, 3, 2, 1, 0] rfl)
          · have i8 := m_c5 (rfl : y4.toInt = _) (rfl : u.toInt = _) c8
            refine lv_iload_n hx hb dX8_kindOfWord_84 rfl (lv_at hl 4 rfl) ?_
            exact m_iret hx hb hr hlocks hW rfl (⟨hm.symm, trivial⟩) dX8_kindOfWord_85
      · have i4 := m_c6 (rfl : x3.toInt = _) (by decide : (32 : Int32).toInt = 32) c4
        refine lv_iload hx hb dX8_kindOfWord_38 (lv_at hl 6 rfl) ?_
        refine lv_if_eq (tgt := 64) hx hb dX8_kindOfWord_40 (by decide) (fun c11 => ?_) (fun c11 => ?_)
        · have i11 := m_c5 (rfl : y5.toInt = _) (by decide : (0 : Int32).toInt = 0) c11
          refine lv_iconst (v := 0) hx hb dX8_kindOfWord_64 (by decide) ?_
          refine lv_istore (lv' := [(5, .int 0), (7, .int x3), (0, .ref (b + 23)), (1, .int k), (2, .int u), (3, .int y3), (4, .int y4), (6, .int y6)]) hx hb dX8_kindOfWord_65 hl (by decide) rfl (fun ls hl => ?_)
          obtain ⟨x12, ex12⟩ : ∃ z : Int32, z = y4 + 1 := ⟨_, rfl⟩
          refine lv_iinc (v := x12) (lv' := [(4, .int x12), (5, .int 0), (7, .int x3), (0, .ref (b + 23)), (1, .int k), (2, .int u), (3, .int y3), (6, .int y6)]) hx hb dX8_kindOfWord_67 hl (k := 6) rfl (by rw [ex12]; rfl) (by decide) rfl (fun ls hl => ?_)
          refine lv_goto (tgt := 95) hx hb dX8_kindOfWord_70 (by decide) ?_
          obtain ⟨x13, ex13⟩ : ∃ z : Int32, z = y6 + 1 := ⟨_, rfl⟩
          refine lv_iinc (v := x13) (lv' := [(6, .int x13), (4, .int x12), (5, .int 0), (7, .int x3), (0, .ref (b + 23)), (1, .int k), (2, .int u), (3, .int y3)]) hx hb dX8_kindOfWord_95 hl (k := 7) rfl (by rw [ex13]; rfl) (by decide) rfl (fun ls hl => ?_)
          have tx13 : x13.toInt = y6.toInt + 1 := m_addI ex13 (rfl : y6.toInt = _) (by decide : (1 : Int32).toInt = 1) (by omega) (by omega)
          refine lv_goto (tgt := 12) hx hb dX8_kindOfWord_98 (by decide) ?_
          have l_0 : (0 : Int32).toInt = 0 := by decide
          exact ih y3 x12 0 x13 (by omega) (by omega) μ hI hm _ _ hW ls (lv_sub hl [4, 5, 6, 7, 1, 2, 0] rfl)
        · have i11 := m_c6 (rfl : y5.toInt = _) (by decide : (0 : Int32).toInt = 0) c11
          refine lv_iload hx hb dX8_kindOfWord_43 (lv_at hl 5 rfl) ?_
          refine lv_iload_n hx hb dX8_kindOfWord_45 rfl (lv_at hl 3 rfl) ?_
          refine lv_icmp_ge (tgt := 64) hx hb dX8_kindOfWord_46 (by decide) (fun c14 => ?_) (fun c14 => ?_)
          · have i14 := m_c3 (rfl : u.toInt = _) (rfl : y4.toInt = _) c14
            refine lv_iconst (v := 0) hx hb dX8_kindOfWord_64 (by decide) ?_
            refine lv_istore (lv' := [(5, .int 0), (7, .int x3), (0, .ref (b + 23)), (1, .int k), (2, .int u), (3, .int y3), (4, .int y4), (6, .int y6)]) hx hb dX8_kindOfWord_65 hl (by decide) rfl (fun ls hl => ?_)
            obtain ⟨x15, ex15⟩ : ∃ z : Int32, z = y4 + 1 := ⟨_, rfl⟩
            refine lv_iinc (v := x15) (lv' := [(4, .int x15), (5, .int 0), (7, .int x3), (0, .ref (b + 23)), (1, .int k), (2, .int u), (3, .int y3), (6, .int y6)]) hx hb dX8_kindOfWord_67 hl (k := 6) rfl (by rw [ex15]; rfl) (by decide) rfl (fun ls hl => ?_)
            refine lv_goto (tgt := 95) hx hb dX8_kindOfWord_70 (by decide) ?_
            obtain ⟨x16, ex16⟩ : ∃ z : Int32, z = y6 + 1 := ⟨_, rfl⟩
            refine lv_iinc (v := x16) (lv' := [(6, .int x16), (4, .int x15), (5, .int 0), (7, .int x3), (0, .ref (b + 23)), (1, .int k), (2, .int u), (3, .int y3)]) hx hb dX8_kindOfWord_95 hl (k := 7) rfl (by rw [ex16]; rfl) (by decide) rfl (fun ls hl => ?_)
            have tx16 : x16.toInt = y6.toInt + 1 := m_addI ex16 (rfl : y6.toInt = _) (by decide : (1 : Int32).toInt = 1) (by omega) (by omega)
            refine lv_goto (tgt := 12) hx hb dX8_kindOfWord_98 (by decide) ?_
            have l_0 : (0 : Int32).toInt = 0 := by decide
            exact ih y3 x15 0 x16 (by omega) (by omega) μ hI hm _ _ hW ls (lv_sub hl [4, 5, 6, 7, 1, 2, 0] rfl)
          · have i14 := m_c4 (rfl : u.toInt = _) (rfl : y4.toInt = _) c14
            refine lv_aload_n hx hb dX8_kindOfWord_49 rfl (lv_at hl 1 rfl) ?_
            refine lv_iload hx hb dX8_kindOfWord_50 (lv_at hl 5 rfl) ?_
            refine m_aI hW (m_runV (As := [.int y4]) (rest := []) hx hb hml hown hts hW (23) (g_X5_at l D cy b 23 24 400 rfl rfl (by decide) rfl (fun _ => rfl) y4 μ hI) mi_X5_at k_X8_78 rfl rfl rfl hl.1 rfl (Nat.le_of_ble_eq_true rfl) dX8_kindOfWord_52 ⟨Nat.le_of_ble_eq_true rfl, Nat.le_of_ble_eq_true rfl⟩ ⟨Nat.le_of_ble_eq_true rfl, Nat.le_of_ble_eq_true rfl⟩) (fun x17 μ17 H locs q17 hW => ?_)
            obtain ⟨q17_m, q17⟩ := q17
            subst q17_m
            refine lv_iload hx hb dX8_kindOfWord_55 (lv_at hl 0 rfl) ?_
            refine lv_icmp_ne (tgt := 64) hx hb dX8_kindOfWord_57 (by decide) (fun c18 => ?_) (fun c18 => ?_)
            · have i18 := m_c6 (rfl : x17.toInt = _) (rfl : x3.toInt = _) c18
              refine lv_iconst (v := 0) hx hb dX8_kindOfWord_64 (by decide) ?_
              refine lv_istore (lv' := [(5, .int 0), (7, .int x3), (0, .ref (b + 23)), (1, .int k), (2, .int u), (3, .int y3), (4, .int y4), (6, .int y6)]) hx hb dX8_kindOfWord_65 hl (by decide) rfl (fun ls hl => ?_)
              obtain ⟨x19, ex19⟩ : ∃ z : Int32, z = y4 + 1 := ⟨_, rfl⟩
              refine lv_iinc (v := x19) (lv' := [(4, .int x19), (5, .int 0), (7, .int x3), (0, .ref (b + 23)), (1, .int k), (2, .int u), (3, .int y3), (6, .int y6)]) hx hb dX8_kindOfWord_67 hl (k := 6) rfl (by rw [ex19]; rfl) (by decide) rfl (fun ls hl => ?_)
              refine lv_goto (tgt := 95) hx hb dX8_kindOfWord_70 (by decide) ?_
              obtain ⟨x20, ex20⟩ : ∃ z : Int32, z = y6 + 1 := ⟨_, rfl⟩
              refine lv_iinc (v := x20) (lv' := [(6, .int x20), (4, .int x19), (5, .int 0), (7, .int x3), (0, .ref (b + 23)), (1, .int k), (2, .int u), (3, .int y3)]) hx hb dX8_kindOfWord_95 hl (k := 7) rfl (by rw [ex20]; rfl) (by decide) rfl (fun ls hl => ?_)
              have tx20 : x20.toInt = y6.toInt + 1 := m_addI ex20 (rfl : y6.toInt = _) (by decide : (1 : Int32).toInt = 1) (by omega) (by omega)
              refine lv_goto (tgt := 12) hx hb dX8_kindOfWord_98 (by decide) ?_
              have l_0 : (0 : Int32).toInt = 0 := by decide
              exact ih y3 x19 0 x20 (by omega) (by omega) μ hI hm _ _ hW ls (lv_sub hl [4, 5, 6, 7, 1, 2, 0] rfl)
            · have i18 := m_c5 (rfl : x17.toInt = _) (rfl : x3.toInt = _) c18
              refine lv_iconst (v := 1) hx hb dX8_kindOfWord_60 (by decide) ?_
              refine lv_goto (tgt := 65) hx hb dX8_kindOfWord_61 (by decide) ?_
              refine lv_istore (lv' := [(5, .int 1), (7, .int x3), (0, .ref (b + 23)), (1, .int k), (2, .int u), (3, .int y3), (4, .int y4), (6, .int y6)]) hx hb dX8_kindOfWord_65 hl (by decide) rfl (fun ls hl => ?_)
              obtain ⟨x21, ex21⟩ : ∃ z : Int32, z = y4 + 1 := ⟨_, rfl⟩
              refine lv_iinc (v := x21) (lv' := [(4, .int x21), (5, .int 1), (7, .int x3), (0, .ref (b + 23)), (1, .int k), (2, .int u), (3, .int y3), (6, .int y6)]) hx hb dX8_kindOfWord_67 hl (k := 6) rfl (by rw [ex21]; rfl) (by decide) rfl (fun ls hl => ?_)
              refine lv_goto (tgt := 95) hx hb dX8_kindOfWord_70 (by decide) ?_
              obtain ⟨x22, ex22⟩ : ∃ z : Int32, z = y6 + 1 := ⟨_, rfl⟩
              refine lv_iinc (v := x22) (lv' := [(6, .int x22), (4, .int x21), (5, .int 1), (7, .int x3), (0, .ref (b + 23)), (1, .int k), (2, .int u), (3, .int y3)]) hx hb dX8_kindOfWord_95 hl (k := 7) rfl (by rw [ex22]; rfl) (by decide) rfl (fun ls hl => ?_)
              have tx22 : x22.toInt = y6.toInt + 1 := m_addI ex22 (rfl : y6.toInt = _) (by decide : (1 : Int32).toInt = 1) (by omega) (by omega)
              refine lv_goto (tgt := 12) hx hb dX8_kindOfWord_98 (by decide) ?_
              have l_1 : (1 : Int32).toInt = 1 := by decide
              exact ih y3 x21 1 x22 (by omega) (by omega) μ hI hm _ _ hW ls (lv_sub hl [4, 5, 6, 7, 1, 2, 0] rfl)
set_option maxHeartbeats 4000000 in
set_option maxRecDepth 100000 in
theorem g_X8_kindOfWord (l : Launch) (D : va_G) (cy : Nat → ClassId) (b oq oa ov : Nat) (k u : Int32) (μ : mM) (hI : IX μ) : m_CiO l yX8_kindOfWord cX8_kindOfWord 8 ((some .int)) 5 D cy b oq oa ov μ [.ref (b + 23), .int k, .int u] (fun r ν => μ = ν ∧ (True)) := by
  unfold m_CiO
  refine m_ofO (by decide) (Nat.le_of_ble_eq_true rfl) ?_
  intro p e s m below meth c hx hb hr hml hown hts hlocks _ hW hO ls hl
  have hown : s.vm.findClass RX8 = some m.cls := hown
  have hl : lv_has ls 8 [(0, .ref (b + 23)), (1, .int k), (2, .int u)] := hl
  refine lv_bipush (v := 9) hx hb dX8_kindOfWord_0 (by decide) ?_
  refine lv_istore_n (lv' := [(3, .int 9), (0, .ref (b + 23)), (1, .int k), (2, .int u)]) hx hb dX8_kindOfWord_2 rfl hl (by decide) rfl (fun ls hl => ?_)
  refine lv_iload_n hx hb dX8_kindOfWord_3 rfl (lv_at hl 2 rfl) ?_
  refine lv_istore (lv' := [(4, .int k), (3, .int 9), (0, .ref (b + 23)), (1, .int k), (2, .int u)]) hx hb dX8_kindOfWord_4 hl (by decide) rfl (fun ls hl => ?_)
  refine lv_iconst (v := 1) hx hb dX8_kindOfWord_6 (by decide) ?_
  refine lv_istore (lv' := [(5, .int 1), (4, .int k), (3, .int 9), (0, .ref (b + 23)), (1, .int k), (2, .int u)]) hx hb dX8_kindOfWord_7 hl (by decide) rfl (fun ls hl => ?_)
  refine lv_iconst (v := 0) hx hb dX8_kindOfWord_9 (by decide) ?_
  refine lv_istore (lv' := [(6, .int 0), (5, .int 1), (4, .int k), (3, .int 9), (0, .ref (b + 23)), (1, .int k), (2, .int u)]) hx hb dX8_kindOfWord_10 hl (by decide) rfl (fun ls hl => ?_)
  have l_9 : (9 : Int32).toInt = 9 := by decide
  have l_1 : (1 : Int32).toInt = 1 := by decide
  have l_0 : (0 : Int32).toInt = 0 := by decide
  exact L_X8_kindOfWord_12 hx hb hr hml hown hts hlocks hO μ k u  83 9 k 1 0 (by omega) (by omega) μ hI rfl _ _ hW ls (lv_sub hl [4, 5, 6, 3, 2, 1, 0] rfl)
set_option maxHeartbeats 4000000 in
set_option maxRecDepth 100000 in
theorem L_X8_takeWord_2 {p : Program} {l : Launch} {e : Env} {s : State} {m : MethodId} {args : Array Value} {below : List Frame} {meth : Method} {c : Code} {D : va_G} {cy : Nat → ClassId} {b : Nat} (hx : p.tables.exec = Jvm.exec) (hb : c.code = cX8_takeWord) (hr : meth.sig.returnType = ((some .int))) (hml : c.maxLocals = 4) (hown : s.vm.findClass RX8 = some m.cls) (hts : ∀ w ∈ TB, w.before args s = true) (hlocks : meth.locks = false) {oq oa ov : Nat} (hO : m_O (m_A b LAY) oq oa ov s s.heap) (S : Nat → Bool) (μ0 : mM) (hS5 : S 5 = true) (k : Int32) (h_k : 0 ≤ k.toInt ∧ k.toInt ≤ 400) : ∀ (f : Nat), ∀ (y3 : Int32) (hy : 0 ≤ y3.toInt ∧ y3.toInt ≤ 400) (hf : 400 - y3.toInt < (f : Int)) (μ : mM) (hI : IY S μ0 μ) (H : Heap) (locs : List Loc), m_WA (m_A b LAY) D cy s b LAY μ H locs → ∀ ls : Array Slot, lv_has ls 4 [(0, .ref (b + 30)), (1, .ref (b + 23)), (2, .int k), (3, .int y3)] → W p l e (m_R 6 0 0) s m args below meth c H locs 0 0 (MQ below (m_Qi D cy b LAY (fun r ν => IY S μ0 ν ∧ (0 ≤ r.toInt ∧ r.toInt ≤ 400))) args s 0 0 (m_A b LAY)) (F0 m 2 ls []) := by
  intro f
  induction f with
  | zero => intro y3 hy hf; exfalso; omega
  | succ f ih =>
    intro y3 hy hf μ hI H locs hW ls hl
    refine lv_iload_n hx hb dX8_takeWord_2 rfl (lv_at hl 3 rfl) ?_
    refine lv_aload_n hx hb dX8_takeWord_3 rfl (lv_at hl 1 rfl) ?_
    refine m_geti hx hb hts hown hW (23) 1 rfl rfl cw_5 rfl (by decide) k_X8_26 dX8_takeWord_4 ?_
    refine lv_topi (fun x1 ex1 => ?_)
    have bx1 : 0 ≤ x1.toInt ∧ x1.toInt ≤ 400 := by rw [ex1]; exact hI.1 _ _ _ _ rfl
    refine lv_icmp_ge (tgt := 28) hx hb dX8_takeWord_7 (by decide) (fun c2 => ?_) (fun c2 => ?_)
    · have i2 := m_c3 (rfl : x1.toInt = _) (rfl : y3.toInt = _) c2
      refine lv_aload_n hx hb dX8_takeWord_28 rfl (lv_at hl 0 rfl) ?_
      refine lv_aload_n hx hb dX8_takeWord_29 rfl (lv_at hl 1 rfl) ?_
      refine lv_iload_n hx hb dX8_takeWord_30 rfl (lv_at hl 2 rfl) ?_
      refine lv_iload_n hx hb dX8_takeWord_31 rfl (lv_at hl 3 rfl) ?_
      refine m_aI hW (m_runSO (As := [.ref (b + 23), .int k, .int y3]) (rest := [.ref (b + 30)]) hx hb hml hown hts hW hO (g_X8_kindOfWord l D cy b oq oa ov k y3 μ hI.1) ms_X8_kindOfWord k_X8_62 rfl hl.1 rfl (Nat.le_of_ble_eq_true rfl) dX8_takeWord_32 ⟨Nat.le_of_ble_eq_true rfl, Nat.le_of_ble_eq_true rfl⟩ ⟨Nat.le_of_ble_eq_true rfl, Nat.le_of_ble_eq_true rfl⟩) (fun x3 μ3 H locs q3 hW => ?_)
      obtain ⟨q3_m, q3⟩ := q3
      subst q3_m
      refine lv_iload_n hx hb dX8_takeWord_35 rfl (lv_at hl 2 rfl) ?_
      refine lv_iconst (v := 0) hx hb dX8_takeWord_36 (by decide) ?_
      have l_0 : (0 : Int32).toInt = 0 := by decide
      refine m_aV hW (m_runV (As := [.int x3, .int k, .int 0]) (rest := []) hx hb hml hown hts hW (30) (g_X8_keep l D cy b S μ0 hS5 x3 k 0 μ hI) mi_X8_keep k_X8_55 rfl rfl rfl hl.1 rfl (Nat.le_of_ble_eq_true rfl) dX8_takeWord_37 ⟨Nat.le_of_ble_eq_true rfl, Nat.le_of_ble_eq_true rfl⟩ ⟨Nat.le_of_ble_eq_true rfl, Nat.le_of_ble_eq_true rfl⟩) (fun μ4 H locs q4 hW => ?_)
      obtain ⟨hI, q4⟩ := q4
      refine lv_iload_n hx hb dX8_takeWord_40 rfl (lv_at hl 3 rfl) ?_
      exact m_iret hx hb hr hlocks hW rfl (⟨hI, by omega⟩) dX8_takeWord_41
    · have i2 := m_c4 (rfl : x1.toInt = _) (rfl : y3.toInt = _) c2
      refine lv_aload_n hx hb dX8_takeWord_10 rfl (lv_at hl 1 rfl) ?_
      refine m_getr hx hb hts hown hW (23) 0 (24) rfl rfl cw_5 rfl (by decide) k_X8_30 dX8_takeWord_11 ?_
      refine lv_iload_n hx hb dX8_takeWord_14 rfl (lv_at hl 3 rfl) ?_
      refine m_iald hx hb hW (24) rfl (m_ixI (rfl : y3.toInt = _) (by omega) (by omega)) dX8_takeWord_15 ?_
      refine lv_topi (fun x5 ex5 => ?_)
      refine m_aI hW (m_runS (As := [.int x5]) (rest := []) hx hb hml hown hts hW (g_X8_isLetter l D cy b x5 μ hI.1) ms_X8_isLetter k_X8_34 rfl hl.1 rfl (Nat.le_of_ble_eq_true rfl) dX8_takeWord_16 ⟨Nat.le_of_ble_eq_true rfl, Nat.le_of_ble_eq_true rfl⟩ ⟨Nat.le_of_ble_eq_true rfl, Nat.le_of_ble_eq_true rfl⟩) (fun x6 μ6 H locs q6 hW => ?_)
      obtain ⟨q6_m, q6⟩ := q6
      subst q6_m
      rcases q6 with ⟨rfl, q6⟩ | ⟨rfl, q6⟩
      · refine lv_if_eq (tgt := 28) hx hb dX8_takeWord_19 (by decide) (fun c => False.elim (by revert c; decide)) (fun _ => ?_)
        obtain ⟨x7, ex7⟩ : ∃ z : Int32, z = y3 + 1 := ⟨_, rfl⟩
        refine lv_iinc (v := x7) (lv' := [(3, .int x7), (0, .ref (b + 30)), (1, .ref (b + 23)), (2, .int k)]) hx hb dX8_takeWord_22 hl (k := 3) rfl (by rw [ex7]; rfl) (by decide) rfl (fun ls hl => ?_)
        have tx7 : x7.toInt = y3.toInt + 1 := m_addI ex7 (rfl : y3.toInt = _) (by decide : (1 : Int32).toInt = 1) (by omega) (by omega)
        refine lv_goto (tgt := 2) hx hb dX8_takeWord_25 (by decide) ?_
        exact ih x7 (by omega) (by omega) μ hI _ _ hW ls (lv_sub hl [1, 2, 3, 0] rfl)
      · refine lv_if_eq (tgt := 28) hx hb dX8_takeWord_19 (by decide) (fun _ => ?_) (fun c => False.elim (by revert c; decide))
        refine lv_aload_n hx hb dX8_takeWord_28 rfl (lv_at hl 0 rfl) ?_
        refine lv_aload_n hx hb dX8_takeWord_29 rfl (lv_at hl 1 rfl) ?_
        refine lv_iload_n hx hb dX8_takeWord_30 rfl (lv_at hl 2 rfl) ?_
        refine lv_iload_n hx hb dX8_takeWord_31 rfl (lv_at hl 3 rfl) ?_
        refine m_aI hW (m_runSO (As := [.ref (b + 23), .int k, .int y3]) (rest := [.ref (b + 30)]) hx hb hml hown hts hW hO (g_X8_kindOfWord l D cy b oq oa ov k y3 μ hI.1) ms_X8_kindOfWord k_X8_62 rfl hl.1 rfl (Nat.le_of_ble_eq_true rfl) dX8_takeWord_32 ⟨Nat.le_of_ble_eq_true rfl, Nat.le_of_ble_eq_true rfl⟩ ⟨Nat.le_of_ble_eq_true rfl, Nat.le_of_ble_eq_true rfl⟩) (fun x8 μ8 H locs q8 hW => ?_)
        obtain ⟨q8_m, q8⟩ := q8
        subst q8_m
        refine lv_iload_n hx hb dX8_takeWord_35 rfl (lv_at hl 2 rfl) ?_
        refine lv_iconst (v := 0) hx hb dX8_takeWord_36 (by decide) ?_
        have l_0 : (0 : Int32).toInt = 0 := by decide
        refine m_aV hW (m_runV (As := [.int x8, .int k, .int 0]) (rest := []) hx hb hml hown hts hW (30) (g_X8_keep l D cy b S μ0 hS5 x8 k 0 μ hI) mi_X8_keep k_X8_55 rfl rfl rfl hl.1 rfl (Nat.le_of_ble_eq_true rfl) dX8_takeWord_37 ⟨Nat.le_of_ble_eq_true rfl, Nat.le_of_ble_eq_true rfl⟩ ⟨Nat.le_of_ble_eq_true rfl, Nat.le_of_ble_eq_true rfl⟩) (fun μ9 H locs q9 hW => ?_)
        obtain ⟨hI, q9⟩ := q9
        refine lv_iload_n hx hb dX8_takeWord_40 rfl (lv_at hl 3 rfl) ?_
        exact m_iret hx hb hr hlocks hW rfl (⟨hI, by omega⟩) dX8_takeWord_41
set_option maxHeartbeats 4000000 in
set_option maxRecDepth 100000 in
theorem g_X8_takeWord (l : Launch) (D : va_G) (cy : Nat → ClassId) (b oq oa ov : Nat) (S : Nat → Bool) (μ0 : mM) (hS5 : S 5 = true) (k : Int32) (h_k : 0 ≤ k.toInt ∧ k.toInt ≤ 400) (μ : mM) (hI : IY S μ0 μ) : m_CiO l yX8_takeWord cX8_takeWord 4 ((some .int)) 6 D cy b oq oa ov μ [.ref (b + 30), .ref (b + 23), .int k] (fun r ν => IY S μ0 ν ∧ (0 ≤ r.toInt ∧ r.toInt ≤ 400)) := by
  unfold m_CiO
  refine m_ofO (by decide) (Nat.le_of_ble_eq_true rfl) ?_
  intro p e s m below meth c hx hb hr hml hown hts hlocks _ hW hO ls hl
  have hown : s.vm.findClass RX8 = some m.cls := hown
  have hl : lv_has ls 4 [(0, .ref (b + 30)), (1, .ref (b + 23)), (2, .int k)] := hl
  refine lv_iload_n hx hb dX8_takeWord_0 rfl (lv_at hl 2 rfl) ?_
  refine lv_istore_n (lv' := [(3, .int k), (0, .ref (b + 30)), (1, .ref (b + 23)), (2, .int k)]) hx hb dX8_takeWord_1 rfl hl (by decide) rfl (fun ls hl => ?_)
  exact L_X8_takeWord_2 hx hb hr hml hown hts hlocks hO S μ0 hS5 k h_k  401 k (by omega) (by omega) μ hI _ _ hW ls (lv_sub hl [1, 2, 3, 0] rfl)
set_option maxHeartbeats 4000000 in
set_option maxRecDepth 100000 in
theorem L_X8_takeApart_28 {p : Program} {l : Launch} {e : Env} {s : State} {m : MethodId} {args : Array Value} {below : List Frame} {meth : Method} {c : Code} {D : va_G} {cy : Nat → ClassId} {b : Nat} (hx : p.tables.exec = Jvm.exec) (hb : c.code = cX8_takeApart) (hr : meth.sig.returnType = (none)) (hml : c.maxLocals = 5) (hown : s.vm.findClass RX8 = some m.cls) (hts : ∀ w ∈ TB, w.before args s = true) (hlocks : meth.locks = false) {oq oa ov : Nat} (hO : m_O (m_A b LAY) oq oa ov s s.heap) (S : Nat → Bool) (μ0 : mM) (hS5 : S 5 = true) : ∀ (f : Nat), ∀ (y2 y3 : Int32) (hy : 0 ≤ y2.toInt ∧ y2.toInt ≤ 400 ∧ 0 ≤ y3.toInt ∧ y3.toInt ≤ 400) (hf : 400 - y3.toInt < (f : Int)) (μ : mM) (hI : IY S μ0 μ) (H : Heap) (locs : List Loc), m_WA (m_A b LAY) D cy s b LAY μ H locs → ∀ ls : Array Slot, lv_has ls 5 [(0, .ref (b + 30)), (1, .ref (b + 23)), (2, .int y2), (3, .int y3)] → W p l e (m_R 7 0 0) s m args below meth c H locs 0 0 (MQ below (m_Qv D cy b LAY (fun ν => IY S μ0 ν ∧ (True))) args s 0 0 (m_A b LAY)) (F0 m 28 ls []) := by
  intro f
  induction f with
  | zero => intro y2 y3 hy hf; exfalso; omega
  | succ f ih =>
    intro y2 y3 hy hf μ hI H locs hW ls hl
    refine lv_iload_n hx hb dX8_takeApart_28 rfl (lv_at hl 3 rfl) ?_
    refine lv_sipush (v := 400) hx hb dX8_takeApart_29 (by decide) ?_
    refine lv_icmp_ge (tgt := 115) hx hb dX8_takeApart_32 (by decide) (fun c1 => ?_) (fun c1 => ?_)
    · have i1 := m_c3 (by decide : (400 : Int32).toInt = 400) (rfl : y3.toInt = _) c1
      refine lv_aload_n hx hb dX8_takeApart_115 rfl (lv_at hl 0 rfl) ?_
      refine lv_iconst (v := 1) hx hb dX8_takeApart_116 (by decide) ?_
      refine lv_aload_n hx hb dX8_takeApart_117 rfl (lv_at hl 1 rfl) ?_
      refine m_geti hx hb hts hown hW (23) 1 rfl rfl cw_5 rfl (by decide) k_X8_26 dX8_takeApart_118 ?_
      refine lv_topi (fun x2 ex2 => ?_)
      have bx2 : 0 ≤ x2.toInt ∧ x2.toInt ≤ 400 := by rw [ex2]; exact hI.1 _ _ _ _ rfl
      refine lv_iconst (v := 0) hx hb dX8_takeApart_121 (by decide) ?_
      have l_1 : (1 : Int32).toInt = 1 := by decide
      have l_0 : (0 : Int32).toInt = 0 := by decide
      refine m_aV hW (m_runV (As := [.int 1, .int x2, .int 0]) (rest := []) hx hb hml hown hts hW (30) (g_X8_keep l D cy b S μ0 hS5 1 x2 0 μ hI) mi_X8_keep k_X8_55 rfl rfl rfl hl.1 rfl (Nat.le_of_ble_eq_true rfl) dX8_takeApart_122 ⟨Nat.le_of_ble_eq_true rfl, Nat.le_of_ble_eq_true rfl⟩ ⟨Nat.le_of_ble_eq_true rfl, Nat.le_of_ble_eq_true rfl⟩) (fun μ3 H locs q3 hW => ?_)
      obtain ⟨hI, q3⟩ := q3
      exact m_vret hx hb hr hlocks hW (⟨hI, trivial⟩) dX8_takeApart_125
    · have i1 := m_c4 (by decide : (400 : Int32).toInt = 400) (rfl : y3.toInt = _) c1
      refine lv_iload_n hx hb dX8_takeApart_35 rfl (lv_at hl 2 rfl) ?_
      refine lv_aload_n hx hb dX8_takeApart_36 rfl (lv_at hl 1 rfl) ?_
      refine m_geti hx hb hts hown hW (23) 1 rfl rfl cw_5 rfl (by decide) k_X8_26 dX8_takeApart_37 ?_
      refine lv_topi (fun x4 ex4 => ?_)
      have bx4 : 0 ≤ x4.toInt ∧ x4.toInt ≤ 400 := by rw [ex4]; exact hI.1 _ _ _ _ rfl
      refine lv_icmp_ge (tgt := 115) hx hb dX8_takeApart_40 (by decide) (fun c5 => ?_) (fun c5 => ?_)
      · have i5 := m_c3 (rfl : x4.toInt = _) (rfl : y2.toInt = _) c5
        refine lv_aload_n hx hb dX8_takeApart_115 rfl (lv_at hl 0 rfl) ?_
        refine lv_iconst (v := 1) hx hb dX8_takeApart_116 (by decide) ?_
        refine lv_aload_n hx hb dX8_takeApart_117 rfl (lv_at hl 1 rfl) ?_
        refine m_geti hx hb hts hown hW (23) 1 rfl rfl cw_5 rfl (by decide) k_X8_26 dX8_takeApart_118 ?_
        refine lv_topi (fun x6 ex6 => ?_)
        have ex6 : x6 = x4 := by rw [ex6]; exact ex4.symm
        have ex6 := ex6.symm
        subst ex6
        refine lv_iconst (v := 0) hx hb dX8_takeApart_121 (by decide) ?_
        have l_1 : (1 : Int32).toInt = 1 := by decide
        have l_0 : (0 : Int32).toInt = 0 := by decide
        refine m_aV hW (m_runV (As := [.int 1, .int x4, .int 0]) (rest := []) hx hb hml hown hts hW (30) (g_X8_keep l D cy b S μ0 hS5 1 x4 0 μ hI) mi_X8_keep k_X8_55 rfl rfl rfl hl.1 rfl (Nat.le_of_ble_eq_true rfl) dX8_takeApart_122 ⟨Nat.le_of_ble_eq_true rfl, Nat.le_of_ble_eq_true rfl⟩ ⟨Nat.le_of_ble_eq_true rfl, Nat.le_of_ble_eq_true rfl⟩) (fun μ7 H locs q7 hW => ?_)
        obtain ⟨hI, q7⟩ := q7
        exact m_vret hx hb hr hlocks hW (⟨hI, trivial⟩) dX8_takeApart_125
      · have i5 := m_c4 (rfl : x4.toInt = _) (rfl : y2.toInt = _) c5
        refine lv_aload_n hx hb dX8_takeApart_43 rfl (lv_at hl 1 rfl) ?_
        refine m_getr hx hb hts hown hW (23) 0 (24) rfl rfl cw_5 rfl (by decide) k_X8_30 dX8_takeApart_44 ?_
        refine lv_iload_n hx hb dX8_takeApart_47 rfl (lv_at hl 2 rfl) ?_
        refine m_iald hx hb hW (24) rfl (m_ixI (rfl : y2.toInt = _) (by omega) (by omega)) dX8_takeApart_48 ?_
        refine lv_topi (fun x8 ex8 => ?_)
        refine lv_istore (lv' := [(4, .int x8), (0, .ref (b + 30)), (1, .ref (b + 23)), (2, .int y2), (3, .int y3)]) hx hb dX8_takeApart_49 hl (by decide) rfl (fun ls hl => ?_)
        refine lv_iload hx hb dX8_takeApart_51 (lv_at hl 0 rfl) ?_
        refine m_aI hW (m_runS (As := [.int x8]) (rest := []) hx hb hml hown hts hW (g_X8_isLetter l D cy b x8 μ hI.1) ms_X8_isLetter k_X8_34 rfl hl.1 rfl (Nat.le_of_ble_eq_true rfl) dX8_takeApart_53 ⟨Nat.le_of_ble_eq_true rfl, Nat.le_of_ble_eq_true rfl⟩ ⟨Nat.le_of_ble_eq_true rfl, Nat.le_of_ble_eq_true rfl⟩) (fun x9 μ9 H locs q9 hW => ?_)
        obtain ⟨q9_m, q9⟩ := q9
        subst q9_m
        rcases q9 with ⟨rfl, q9⟩ | ⟨rfl, q9⟩
        · refine lv_if_eq (tgt := 69) hx hb dX8_takeApart_56 (by decide) (fun c => False.elim (by revert c; decide)) (fun _ => ?_)
          refine lv_aload_n hx hb dX8_takeApart_59 rfl (lv_at hl 1 rfl) ?_
          refine lv_aload_n hx hb dX8_takeApart_60 rfl (lv_at hl 2 rfl) ?_
          refine lv_iload_n hx hb dX8_takeApart_61 rfl (lv_at hl 3 rfl) ?_
          refine m_aI hW (m_runVO (As := [.ref (b + 23), .int y2]) (rest := []) hx hb hml hown hts hW hO (30) (g_X8_takeWord l D cy b oq oa ov S μ0 hS5 y2 (by omega) μ hI) mi_X8_takeWord k_X8_38 rfl rfl rfl hl.1 rfl (Nat.le_of_ble_eq_true rfl) dX8_takeApart_62 ⟨Nat.le_of_ble_eq_true rfl, Nat.le_of_ble_eq_true rfl⟩ ⟨Nat.le_of_ble_eq_true rfl, Nat.le_of_ble_eq_true rfl⟩) (fun x10 μ10 H locs q10 hW => ?_)
          obtain ⟨hI, q10⟩ := q10
          refine lv_istore_n (lv' := [(2, .int x10), (4, .int x8), (0, .ref (b + 30)), (1, .ref (b + 23)), (3, .int y3)]) hx hb dX8_takeApart_65 rfl hl (by decide) rfl (fun ls hl => ?_)
          refine lv_goto (tgt := 109) hx hb dX8_takeApart_66 (by decide) ?_
          obtain ⟨x11, ex11⟩ : ∃ z : Int32, z = y3 + 1 := ⟨_, rfl⟩
          refine lv_iinc (v := x11) (lv' := [(3, .int x11), (2, .int x10), (4, .int x8), (0, .ref (b + 30)), (1, .ref (b + 23))]) hx hb dX8_takeApart_109 hl (k := 4) rfl (by rw [ex11]; rfl) (by decide) rfl (fun ls hl => ?_)
          have tx11 : x11.toInt = y3.toInt + 1 := m_addI ex11 (rfl : y3.toInt = _) (by decide : (1 : Int32).toInt = 1) (by omega) (by omega)
          refine lv_goto (tgt := 28) hx hb dX8_takeApart_112 (by decide) ?_
          exact ih x10 x11 (by omega) (by omega) μ10 hI _ _ hW ls (lv_sub hl [3, 4, 1, 0] rfl)
        · refine lv_if_eq (tgt := 69) hx hb dX8_takeApart_56 (by decide) (fun _ => ?_) (fun c => False.elim (by revert c; decide))
          refine lv_iload hx hb dX8_takeApart_69 (lv_at hl 0 rfl) ?_
          refine m_aI hW (m_runS (As := [.int x8]) (rest := []) hx hb hml hown hts hW (g_X8_isDigit l D cy b x8 μ hI.1) ms_X8_isDigit k_X8_42 rfl hl.1 rfl (Nat.le_of_ble_eq_true rfl) dX8_takeApart_71 ⟨Nat.le_of_ble_eq_true rfl, Nat.le_of_ble_eq_true rfl⟩ ⟨Nat.le_of_ble_eq_true rfl, Nat.le_of_ble_eq_true rfl⟩) (fun x12 μ12 H locs q12 hW => ?_)
          obtain ⟨q12_m, q12⟩ := q12
          subst q12_m
          rcases q12 with ⟨rfl, q12⟩ | ⟨rfl, q12⟩
          · refine lv_if_eq (tgt := 87) hx hb dX8_takeApart_74 (by decide) (fun c => False.elim (by revert c; decide)) (fun _ => ?_)
            refine lv_aload_n hx hb dX8_takeApart_77 rfl (lv_at hl 1 rfl) ?_
            refine lv_aload_n hx hb dX8_takeApart_78 rfl (lv_at hl 2 rfl) ?_
            refine lv_iload_n hx hb dX8_takeApart_79 rfl (lv_at hl 3 rfl) ?_
            refine m_aI hW (m_runV (As := [.ref (b + 23), .int y2]) (rest := []) hx hb hml hown hts hW (30) (g_X8_takeNumber l D cy b S μ0 hS5 y2 (by omega) μ hI) mi_X8_takeNumber k_X8_45 rfl rfl rfl hl.1 rfl (Nat.le_of_ble_eq_true rfl) dX8_takeApart_80 ⟨Nat.le_of_ble_eq_true rfl, Nat.le_of_ble_eq_true rfl⟩ ⟨Nat.le_of_ble_eq_true rfl, Nat.le_of_ble_eq_true rfl⟩) (fun x13 μ13 H locs q13 hW => ?_)
            obtain ⟨hI, q13⟩ := q13
            refine lv_istore_n (lv' := [(2, .int x13), (4, .int x8), (0, .ref (b + 30)), (1, .ref (b + 23)), (3, .int y3)]) hx hb dX8_takeApart_83 rfl hl (by decide) rfl (fun ls hl => ?_)
            refine lv_goto (tgt := 109) hx hb dX8_takeApart_84 (by decide) ?_
            obtain ⟨x14, ex14⟩ : ∃ z : Int32, z = y3 + 1 := ⟨_, rfl⟩
            refine lv_iinc (v := x14) (lv' := [(3, .int x14), (2, .int x13), (4, .int x8), (0, .ref (b + 30)), (1, .ref (b + 23))]) hx hb dX8_takeApart_109 hl (k := 4) rfl (by rw [ex14]; rfl) (by decide) rfl (fun ls hl => ?_)
            have tx14 : x14.toInt = y3.toInt + 1 := m_addI ex14 (rfl : y3.toInt = _) (by decide : (1 : Int32).toInt = 1) (by omega) (by omega)
            refine lv_goto (tgt := 28) hx hb dX8_takeApart_112 (by decide) ?_
            exact ih x13 x14 (by omega) (by omega) μ13 hI _ _ hW ls (lv_sub hl [3, 4, 1, 0] rfl)
          · refine lv_if_eq (tgt := 87) hx hb dX8_takeApart_74 (by decide) (fun _ => ?_) (fun c => False.elim (by revert c; decide))
            refine lv_iload hx hb dX8_takeApart_87 (lv_at hl 0 rfl) ?_
            refine m_aI hW (m_runS (As := [.int x8]) (rest := []) hx hb hml hown hts hW (g_X8_isBlank l D cy b x8 μ hI.1) ms_X8_isBlank k_X8_48 rfl hl.1 rfl (Nat.le_of_ble_eq_true rfl) dX8_takeApart_89 ⟨Nat.le_of_ble_eq_true rfl, Nat.le_of_ble_eq_true rfl⟩ ⟨Nat.le_of_ble_eq_true rfl, Nat.le_of_ble_eq_true rfl⟩) (fun x15 μ15 H locs q15 hW => ?_)
            obtain ⟨q15_m, q15⟩ := q15
            subst q15_m
            rcases q15 with ⟨rfl, q15⟩ | ⟨rfl, q15⟩
            · refine lv_if_ne (tgt := 106) hx hb dX8_takeApart_92 (by decide) (fun _ => ?_) (fun c => False.elim (by revert c; decide))
              obtain ⟨x16, ex16⟩ : ∃ z : Int32, z = y2 + 1 := ⟨_, rfl⟩
              refine lv_iinc (v := x16) (lv' := [(2, .int x16), (4, .int x8), (0, .ref (b + 30)), (1, .ref (b + 23)), (3, .int y3)]) hx hb dX8_takeApart_106 hl (k := 3) rfl (by rw [ex16]; rfl) (by decide) rfl (fun ls hl => ?_)
              have tx16 : x16.toInt = y2.toInt + 1 := m_addI ex16 (rfl : y2.toInt = _) (by decide : (1 : Int32).toInt = 1) (by omega) (by omega)
              obtain ⟨x17, ex17⟩ : ∃ z : Int32, z = y3 + 1 := ⟨_, rfl⟩
              refine lv_iinc (v := x17) (lv' := [(3, .int x17), (2, .int x16), (4, .int x8), (0, .ref (b + 30)), (1, .ref (b + 23))]) hx hb dX8_takeApart_109 hl (k := 4) rfl (by rw [ex17]; rfl) (by decide) rfl (fun ls hl => ?_)
              have tx17 : x17.toInt = y3.toInt + 1 := m_addI ex17 (rfl : y3.toInt = _) (by decide : (1 : Int32).toInt = 1) (by omega) (by omega)
              refine lv_goto (tgt := 28) hx hb dX8_takeApart_112 (by decide) ?_
              exact ih x16 x17 (by omega) (by omega) μ hI _ _ hW ls (lv_sub hl [3, 4, 1, 0] rfl)
            · refine lv_if_ne (tgt := 106) hx hb dX8_takeApart_92 (by decide) (fun c => False.elim (by revert c; decide)) (fun _ => ?_)
              refine lv_aload_n hx hb dX8_takeApart_95 rfl (lv_at hl 1 rfl) ?_
              refine lv_iload hx hb dX8_takeApart_96 (lv_at hl 0 rfl) ?_
              refine m_aI hW (m_runS (As := [.int x8]) (rest := [.ref (b + 30)]) hx hb hml hown hts hW (g_X8_kindOfSign l D cy b x8 μ hI.1) ms_X8_kindOfSign k_X8_51 rfl hl.1 rfl (Nat.le_of_ble_eq_true rfl) dX8_takeApart_98 ⟨Nat.le_of_ble_eq_true rfl, Nat.le_of_ble_eq_true rfl⟩ ⟨Nat.le_of_ble_eq_true rfl, Nat.le_of_ble_eq_true rfl⟩) (fun x18 μ18 H locs q18 hW => ?_)
              obtain ⟨q18_m, q18⟩ := q18
              subst q18_m
              refine lv_iload_n hx hb dX8_takeApart_101 rfl (lv_at hl 3 rfl) ?_
              refine lv_iconst (v := 0) hx hb dX8_takeApart_102 (by decide) ?_
              have l_0 : (0 : Int32).toInt = 0 := by decide
              refine m_aV hW (m_runV (As := [.int x18, .int y2, .int 0]) (rest := []) hx hb hml hown hts hW (30) (g_X8_keep l D cy b S μ0 hS5 x18 y2 0 μ hI) mi_X8_keep k_X8_55 rfl rfl rfl hl.1 rfl (Nat.le_of_ble_eq_true rfl) dX8_takeApart_103 ⟨Nat.le_of_ble_eq_true rfl, Nat.le_of_ble_eq_true rfl⟩ ⟨Nat.le_of_ble_eq_true rfl, Nat.le_of_ble_eq_true rfl⟩) (fun μ19 H locs q19 hW => ?_)
              obtain ⟨hI, q19⟩ := q19
              obtain ⟨x20, ex20⟩ : ∃ z : Int32, z = y2 + 1 := ⟨_, rfl⟩
              refine lv_iinc (v := x20) (lv' := [(2, .int x20), (4, .int x8), (0, .ref (b + 30)), (1, .ref (b + 23)), (3, .int y3)]) hx hb dX8_takeApart_106 hl (k := 3) rfl (by rw [ex20]; rfl) (by decide) rfl (fun ls hl => ?_)
              have tx20 : x20.toInt = y2.toInt + 1 := m_addI ex20 (rfl : y2.toInt = _) (by decide : (1 : Int32).toInt = 1) (by omega) (by omega)
              obtain ⟨x21, ex21⟩ : ∃ z : Int32, z = y3 + 1 := ⟨_, rfl⟩
              refine lv_iinc (v := x21) (lv' := [(3, .int x21), (2, .int x20), (4, .int x8), (0, .ref (b + 30)), (1, .ref (b + 23))]) hx hb dX8_takeApart_109 hl (k := 4) rfl (by rw [ex21]; rfl) (by decide) rfl (fun ls hl => ?_)
              have tx21 : x21.toInt = y3.toInt + 1 := m_addI ex21 (rfl : y3.toInt = _) (by decide : (1 : Int32).toInt = 1) (by omega) (by omega)
              refine lv_goto (tgt := 28) hx hb dX8_takeApart_112 (by decide) ?_
              exact ih x20 x21 (by omega) (by omega) μ19 hI _ _ hW ls (lv_sub hl [3, 4, 1, 0] rfl)
set_option maxHeartbeats 4000000 in
set_option maxRecDepth 100000 in
theorem g_X8_takeApart (l : Launch) (D : va_G) (cy : Nat → ClassId) (b oq oa ov : Nat) (S : Nat → Bool) (μ0 : mM) (hS5 : S 5 = true) (μ : mM) (hI : IY S μ0 μ) : m_CvO l yX8_takeApart cX8_takeApart 5 (none) 7 D cy b oq oa ov μ [.ref (b + 30), .ref (b + 23)] (fun ν => IY S μ0 ν ∧ (True)) := by
  unfold m_CvO
  refine m_ofO (by decide) (Nat.le_of_ble_eq_true rfl) ?_
  intro p e s m below meth c hx hb hr hml hown hts hlocks _ hW hO ls hl
  have hown : s.vm.findClass RX8 = some m.cls := hown
  have hl : lv_has ls 5 [(0, .ref (b + 30)), (1, .ref (b + 23))] := hl
  refine lv_aload_n hx hb dX8_takeApart_0 rfl (lv_at hl 0 rfl) ?_
  refine m_getr hx hb hts hown hW (30) 0 (31) rfl rfl cw_8 rfl (by decide) k_X8_14 dX8_takeApart_1 ?_
  refine lv_iconst (v := 0) hx hb dX8_takeApart_4 (by decide) ?_
  refine m_puti hx hb hts hown hW (31) 1 rfl rfl cw_5 tyX5_ok nmX5 rfl (by decide) k_X8_26 rfl rfl rfl dX8_takeApart_5 (fun H locs hW _ => ?_)
  generalize hμ1 : m_si μ (31) 1 0 = μ1 at hW
  have hI := hI.si1 hμ1 rfl (by decide) hS5
  refine lv_aload_n hx hb dX8_takeApart_8 rfl (lv_at hl 0 rfl) ?_
  refine m_getr hx hb hts hown hW (30) 1 (33) rfl rfl cw_8 rfl (by decide) k_X8_20 dX8_takeApart_9 ?_
  refine lv_iconst (v := 0) hx hb dX8_takeApart_12 (by decide) ?_
  refine m_puti hx hb hts hown hW (33) 1 rfl rfl cw_5 tyX5_ok nmX5 rfl (by decide) k_X8_26 rfl rfl rfl dX8_takeApart_13 (fun H locs hW _ => ?_)
  generalize hμ2 : m_si μ1 (33) 1 0 = μ2 at hW
  have hI := hI.si1 hμ2 rfl (by decide) hS5
  refine lv_aload_n hx hb dX8_takeApart_16 rfl (lv_at hl 0 rfl) ?_
  refine m_getr hx hb hts hown hW (30) 2 (35) rfl rfl cw_8 rfl (by decide) k_X8_23 dX8_takeApart_17 ?_
  refine lv_iconst (v := 0) hx hb dX8_takeApart_20 (by decide) ?_
  refine m_puti hx hb hts hown hW (35) 1 rfl rfl cw_5 tyX5_ok nmX5 rfl (by decide) k_X8_26 rfl rfl rfl dX8_takeApart_21 (fun H locs hW _ => ?_)
  generalize hμ3 : m_si μ2 (35) 1 0 = μ3 at hW
  have hI := hI.si1 hμ3 rfl (by decide) hS5
  refine lv_iconst (v := 0) hx hb dX8_takeApart_24 (by decide) ?_
  refine lv_istore_n (lv' := [(2, .int 0), (0, .ref (b + 30)), (1, .ref (b + 23))]) hx hb dX8_takeApart_25 rfl hl (by decide) rfl (fun ls hl => ?_)
  refine lv_iconst (v := 0) hx hb dX8_takeApart_26 (by decide) ?_
  refine lv_istore_n (lv' := [(3, .int 0), (2, .int 0), (0, .ref (b + 30)), (1, .ref (b + 23))]) hx hb dX8_takeApart_27 rfl hl (by decide) rfl (fun ls hl => ?_)
  have l_0 : (0 : Int32).toInt = 0 := by decide
  exact L_X8_takeApart_28 hx hb hr hml hown hts hlocks hO S μ0 hS5  401 0 0 (by omega) (by omega) μ3 hI _ _ hW ls (lv_sub hl [2, 3, 1, 0] rfl)
set_option maxHeartbeats 4000000 in
set_option maxRecDepth 100000 in
theorem L_X4_read_66 {p : Program} {l : Launch} {e : Env} {s : State} {m : MethodId} {args : Array Value} {below : List Frame} {meth : Method} {c : Code} {D : va_G} {cy : Nat → ClassId} {b : Nat} (hx : p.tables.exec = Jvm.exec) (hb : c.code = cX4_read) (hr : meth.sig.returnType = ((some .boolean))) (hml : c.maxLocals = 4) (hown : s.vm.findClass RX4 = some m.cls) (hts : ∀ w ∈ TB, w.before args s = true) (hlocks : meth.locks = false) {oq oa ov : Nat} (hO : m_O (m_A b LAY) oq oa ov s s.heap) (S : Nat → Bool) (μ0 : mM) (hS5 : S 5 = true) : ∀ (f : Nat), ∀ (y2 y3 : Int32) (hy : 0 ≤ y2.toInt ∧ y2.toInt ≤ 1 ∧ 0 ≤ y3.toInt ∧ y3.toInt ≤ 401) (hf : 401 - y3.toInt < (f : Int)) (μ : mM) (hI : IY S μ0 μ) (H : Heap) (locs : List Loc), m_WA (m_A b LAY) D cy s b LAY μ H locs → ∀ ls : Array Slot, lv_has ls 4 [(0, .ref (b + 27)), (1, .ref (b + 23)), (2, .int y2), (3, .int y3)] → W p l e (m_R 8 0 0) s m args below meth c H locs 0 0 (MQ below (m_Qi D cy b LAY (fun r ν => IY S μ0 ν ∧ ((r = 1 ∧ (True)) ∨ (r = 0 ∧ (True))))) args s 0 0 (m_A b LAY)) (F0 m 66 ls []) := by
  intro f
  induction f with
  | zero => intro y2 y3 hy hf; exfalso; omega
  | succ f ih =>
    intro y2 y3 hy hf μ hI H locs hW ls hl
    refine lv_iload_n hx hb dX4_read_66 rfl (lv_at hl 3 rfl) ?_
    refine lv_sipush (v := 400) hx hb dX4_read_67 (by decide) ?_
    refine lv_icmp_gt (tgt := 162) hx hb dX4_read_70 (by decide) (fun c1 => ?_) (fun c1 => ?_)
    · have i1 := m_c1 (by decide : (400 : Int32).toInt = 400) (rfl : y3.toInt = _) c1
      refine lv_iload_n hx hb dX4_read_162 rfl (lv_at hl 2 rfl) ?_
      exact m_iret hx hb hr hlocks hW (m_nb (m_b01 (by omega))) (⟨hI, m_b01t (by omega)⟩) dX4_read_163
    · have i1 := m_c2 (by decide : (400 : Int32).toInt = 400) (rfl : y3.toInt = _) c1
      refine lv_aload_n hx hb dX4_read_73 rfl (lv_at hl 0 rfl) ?_
      refine m_geti hx hb hts hown hW (27) 1 rfl rfl cw_4 rfl (by decide) k_X4_20 dX4_read_74 ?_
      refine lv_topi (fun x2 ex2 => ?_)
      refine lv_if_ne (tgt := 162) hx hb dX4_read_77 (by decide) (fun c3 => ?_) (fun c3 => ?_)
      · have i3 := m_c6 (rfl : x2.toInt = _) (by decide : (0 : Int32).toInt = 0) c3
        refine lv_iload_n hx hb dX4_read_162 rfl (lv_at hl 2 rfl) ?_
        exact m_iret hx hb hr hlocks hW (m_nb (m_b01 (by omega))) (⟨hI, m_b01t (by omega)⟩) dX4_read_163
      · have i3 := m_c5 (rfl : x2.toInt = _) (by decide : (0 : Int32).toInt = 0) c3
        refine lv_iload_n hx hb dX4_read_80 rfl (lv_at hl 2 rfl) ?_
        refine lv_if_ne (tgt := 162) hx hb dX4_read_81 (by decide) (fun c4 => ?_) (fun c4 => ?_)
        · have i4 := m_c6 (rfl : y2.toInt = _) (by decide : (0 : Int32).toInt = 0) c4
          refine lv_iload_n hx hb dX4_read_162 rfl (lv_at hl 2 rfl) ?_
          exact m_iret hx hb hr hlocks hW (m_nb (m_b01 (by omega))) (⟨hI, m_b01t (by omega)⟩) dX4_read_163
        · have i4 := m_c5 (rfl : y2.toInt = _) (by decide : (0 : Int32).toInt = 0) c4
          refine lv_aload_n hx hb dX4_read_84 rfl (lv_at hl 0 rfl) ?_
          refine m_geti hx hb hts hown hW (27) 5 rfl rfl cw_4 rfl (by decide) k_X4_37 dX4_read_85 ?_
          refine lv_topi (fun x5 ex5 => ?_)
          refine lv_bipush (v := 9) hx hb dX4_read_88 (by decide) ?_
          refine lv_bipush (v := 16) hx hb dX4_read_90 (by decide) ?_
          have l_9 : (9 : Int32).toInt = 9 := by decide
          have l_16 : (16 : Int32).toInt = 16 := by decide
          refine m_aI hW (m_runSN (As := [.int x5, .int 9, .int 16]) (rest := []) hx hb hml hown hts hW (g_X11_within l D cy b x5 9 16 μ hI.1) ms_X11_within n_X4_60 rfl hl.1 rfl (Nat.le_of_ble_eq_true rfl) dX4_read_92 ⟨Nat.le_of_ble_eq_true rfl, Nat.le_of_ble_eq_true rfl⟩ ⟨Nat.le_of_ble_eq_true rfl, Nat.le_of_ble_eq_true rfl⟩) (fun x6 μ6 H locs q6 hW => ?_)
          obtain ⟨q6_m, q6⟩ := q6
          subst q6_m
          rcases q6 with ⟨rfl, q6⟩ | ⟨rfl, q6⟩
          · refine lv_if_eq (tgt := 105) hx hb dX4_read_95 (by decide) (fun c => False.elim (by revert c; decide)) (fun _ => ?_)
            refine lv_aload_n hx hb dX4_read_98 rfl (lv_at hl 0 rfl) ?_
            refine m_aV hW (m_runV (As := []) (rest := []) hx hb hml hown hts hW (27) (g_X4_readStep l D cy b S μ0 hS5 μ hI) mi_X4_readStep k_X4_64 rfl rfl rfl hl.1 rfl (Nat.le_of_ble_eq_true rfl) dX4_read_99 ⟨Nat.le_of_ble_eq_true rfl, Nat.le_of_ble_eq_true rfl⟩ ⟨Nat.le_of_ble_eq_true rfl, Nat.le_of_ble_eq_true rfl⟩) (fun μ7 H locs q7 hW => ?_)
            obtain ⟨hI, q7⟩ := q7
            refine lv_goto (tgt := 156) hx hb dX4_read_102 (by decide) ?_
            obtain ⟨x8, ex8⟩ : ∃ z : Int32, z = y3 + 1 := ⟨_, rfl⟩
            refine lv_iinc (v := x8) (lv' := [(3, .int x8), (0, .ref (b + 27)), (1, .ref (b + 23)), (2, .int y2)]) hx hb dX4_read_156 hl (k := 3) rfl (by rw [ex8]; rfl) (by decide) rfl (fun ls hl => ?_)
            have tx8 : x8.toInt = y3.toInt + 1 := m_addI ex8 (rfl : y3.toInt = _) (by decide : (1 : Int32).toInt = 1) (by omega) (by omega)
            refine lv_goto (tgt := 66) hx hb dX4_read_159 (by decide) ?_
            exact ih y2 x8 (by omega) (by omega) μ7 hI _ _ hW ls (lv_sub hl [1, 2, 3, 0] rfl)
          · refine lv_if_eq (tgt := 105) hx hb dX4_read_95 (by decide) (fun _ => ?_) (fun c => False.elim (by revert c; decide))
            refine lv_aload_n hx hb dX4_read_105 rfl (lv_at hl 0 rfl) ?_
            refine m_geti hx hb hts hown hW (27) 5 rfl rfl cw_4 rfl (by decide) k_X4_37 dX4_read_106 ?_
            refine lv_topi (fun x9 ex9 => ?_)
            have ex9 : x9 = x5 := by rw [ex9]; exact ex5.symm
            have ex9 := ex9.symm
            subst ex9
            refine lv_bipush (v := 18) hx hb dX4_read_109 (by decide) ?_
            refine lv_icmp_ne (tgt := 130) hx hb dX4_read_111 (by decide) (fun c10 => ?_) (fun c10 => ?_)
            · have i10 := m_c6 (rfl : x5.toInt = _) (by decide : (18 : Int32).toInt = 18) c10
              refine lv_aload_n hx hb dX4_read_130 rfl (lv_at hl 0 rfl) ?_
              refine m_geti hx hb hts hown hW (27) 5 rfl rfl cw_4 rfl (by decide) k_X4_37 dX4_read_131 ?_
              refine lv_topi (fun x11 ex11 => ?_)
              have ex11 : x11 = x5 := by rw [ex11]; exact ex5.symm
              have ex11 := ex11.symm
              subst ex11
              refine lv_iconst (v := 1) hx hb dX4_read_134 (by decide) ?_
              refine lv_icmp_ne (tgt := 151) hx hb dX4_read_135 (by decide) (fun c12 => ?_) (fun c12 => ?_)
              · have i12 := m_c6 (rfl : x5.toInt = _) (by decide : (1 : Int32).toInt = 1) c12
                refine lv_aload_n hx hb dX4_read_151 rfl (lv_at hl 0 rfl) ?_
                refine lv_iconst (v := 1) hx hb dX4_read_152 (by decide) ?_
                have l_1 : (1 : Int32).toInt = 1 := by decide
                refine m_aV hW (m_runV (As := [.int 1]) (rest := []) hx hb hml hown hts hW (27) (g_X4_fail l D cy b S μ0 hS5 1 μ hI) mi_X4_fail k_X4_74 rfl rfl rfl hl.1 rfl (Nat.le_of_ble_eq_true rfl) dX4_read_153 ⟨Nat.le_of_ble_eq_true rfl, Nat.le_of_ble_eq_true rfl⟩ ⟨Nat.le_of_ble_eq_true rfl, Nat.le_of_ble_eq_true rfl⟩) (fun μ13 H locs q13 hW => ?_)
                obtain ⟨hI, q13⟩ := q13
                obtain ⟨x14, ex14⟩ : ∃ z : Int32, z = y3 + 1 := ⟨_, rfl⟩
                refine lv_iinc (v := x14) (lv' := [(3, .int x14), (0, .ref (b + 27)), (1, .ref (b + 23)), (2, .int y2)]) hx hb dX4_read_156 hl (k := 3) rfl (by rw [ex14]; rfl) (by decide) rfl (fun ls hl => ?_)
                have tx14 : x14.toInt = y3.toInt + 1 := m_addI ex14 (rfl : y3.toInt = _) (by decide : (1 : Int32).toInt = 1) (by omega) (by omega)
                refine lv_goto (tgt := 66) hx hb dX4_read_159 (by decide) ?_
                exact ih y2 x14 (by omega) (by omega) μ13 hI _ _ hW ls (lv_sub hl [1, 2, 3, 0] rfl)
              · have i12 := m_c5 (rfl : x5.toInt = _) (by decide : (1 : Int32).toInt = 1) c12
                refine lv_aload_n hx hb dX4_read_138 rfl (lv_at hl 0 rfl) ?_
                refine m_aI hW (m_runV (As := []) (rest := []) hx hb hml hown hts hW (27) (g_X4_innermost l D cy b μ hI.1) mi_X4_innermost k_X4_67 rfl rfl rfl hl.1 rfl (Nat.le_of_ble_eq_true rfl) dX4_read_139 ⟨Nat.le_of_ble_eq_true rfl, Nat.le_of_ble_eq_true rfl⟩ ⟨Nat.le_of_ble_eq_true rfl, Nat.le_of_ble_eq_true rfl⟩) (fun x15 μ15 H locs q15 hW => ?_)
                obtain ⟨q15_m, q15⟩ := q15
                subst q15_m
                refine lv_iconst (v := (-1)) hx hb dX4_read_142 (by decide) ?_
                refine lv_icmp_ne (tgt := 151) hx hb dX4_read_143 (by decide) (fun c16 => ?_) (fun c16 => ?_)
                · have i16 := m_c6 (rfl : x15.toInt = _) (by decide : ((-1) : Int32).toInt = (-1)) c16
                  refine lv_aload_n hx hb dX4_read_151 rfl (lv_at hl 0 rfl) ?_
                  refine lv_iconst (v := 1) hx hb dX4_read_152 (by decide) ?_
                  have l_1 : (1 : Int32).toInt = 1 := by decide
                  refine m_aV hW (m_runV (As := [.int 1]) (rest := []) hx hb hml hown hts hW (27) (g_X4_fail l D cy b S μ0 hS5 1 μ hI) mi_X4_fail k_X4_74 rfl rfl rfl hl.1 rfl (Nat.le_of_ble_eq_true rfl) dX4_read_153 ⟨Nat.le_of_ble_eq_true rfl, Nat.le_of_ble_eq_true rfl⟩ ⟨Nat.le_of_ble_eq_true rfl, Nat.le_of_ble_eq_true rfl⟩) (fun μ17 H locs q17 hW => ?_)
                  obtain ⟨hI, q17⟩ := q17
                  obtain ⟨x18, ex18⟩ : ∃ z : Int32, z = y3 + 1 := ⟨_, rfl⟩
                  refine lv_iinc (v := x18) (lv' := [(3, .int x18), (0, .ref (b + 27)), (1, .ref (b + 23)), (2, .int y2)]) hx hb dX4_read_156 hl (k := 3) rfl (by rw [ex18]; rfl) (by decide) rfl (fun ls hl => ?_)
                  have tx18 : x18.toInt = y3.toInt + 1 := m_addI ex18 (rfl : y3.toInt = _) (by decide : (1 : Int32).toInt = 1) (by omega) (by omega)
                  refine lv_goto (tgt := 66) hx hb dX4_read_159 (by decide) ?_
                  exact ih y2 x18 (by omega) (by omega) μ17 hI _ _ hW ls (lv_sub hl [1, 2, 3, 0] rfl)
                · have i16 := m_c5 (rfl : x15.toInt = _) (by decide : ((-1) : Int32).toInt = (-1)) c16
                  refine lv_iconst (v := 1) hx hb dX4_read_146 (by decide) ?_
                  refine lv_istore_n (lv' := [(2, .int 1), (0, .ref (b + 27)), (1, .ref (b + 23)), (3, .int y3)]) hx hb dX4_read_147 rfl hl (by decide) rfl (fun ls hl => ?_)
                  refine lv_goto (tgt := 156) hx hb dX4_read_148 (by decide) ?_
                  obtain ⟨x19, ex19⟩ : ∃ z : Int32, z = y3 + 1 := ⟨_, rfl⟩
                  refine lv_iinc (v := x19) (lv' := [(3, .int x19), (2, .int 1), (0, .ref (b + 27)), (1, .ref (b + 23))]) hx hb dX4_read_156 hl (k := 3) rfl (by rw [ex19]; rfl) (by decide) rfl (fun ls hl => ?_)
                  have tx19 : x19.toInt = y3.toInt + 1 := m_addI ex19 (rfl : y3.toInt = _) (by decide : (1 : Int32).toInt = 1) (by omega) (by omega)
                  refine lv_goto (tgt := 66) hx hb dX4_read_159 (by decide) ?_
                  have l_1 : (1 : Int32).toInt = 1 := by decide
                  exact ih 1 x19 (by omega) (by omega) μ hI _ _ hW ls (lv_sub hl [2, 3, 1, 0] rfl)
            · have i10 := m_c5 (rfl : x5.toInt = _) (by decide : (18 : Int32).toInt = 18) c10
              refine lv_aload_n hx hb dX4_read_114 rfl (lv_at hl 0 rfl) ?_
              refine m_aI hW (m_runV (As := []) (rest := []) hx hb hml hown hts hW (27) (g_X4_innermost l D cy b μ hI.1) mi_X4_innermost k_X4_67 rfl rfl rfl hl.1 rfl (Nat.le_of_ble_eq_true rfl) dX4_read_115 ⟨Nat.le_of_ble_eq_true rfl, Nat.le_of_ble_eq_true rfl⟩ ⟨Nat.le_of_ble_eq_true rfl, Nat.le_of_ble_eq_true rfl⟩) (fun x20 μ20 H locs q20 hW => ?_)
              obtain ⟨q20_m, q20⟩ := q20
              subst q20_m
              refine lv_bipush (v := 15) hx hb dX4_read_118 (by decide) ?_
              refine lv_icmp_ne (tgt := 130) hx hb dX4_read_120 (by decide) (fun c21 => ?_) (fun c21 => ?_)
              · have i21 := m_c6 (rfl : x20.toInt = _) (by decide : (15 : Int32).toInt = 15) c21
                refine lv_aload_n hx hb dX4_read_130 rfl (lv_at hl 0 rfl) ?_
                refine m_geti hx hb hts hown hW (27) 5 rfl rfl cw_4 rfl (by decide) k_X4_37 dX4_read_131 ?_
                refine lv_topi (fun x22 ex22 => ?_)
                have ex22 : x22 = x5 := by rw [ex22]; exact ex5.symm
                have ex22 := ex22.symm
                subst ex22
                refine lv_iconst (v := 1) hx hb dX4_read_134 (by decide) ?_
                refine lv_icmp_ne (tgt := 151) hx hb dX4_read_135 (by decide) (fun c23 => ?_) (fun c23 => ?_)
                · have i23 := m_c6 (rfl : x5.toInt = _) (by decide : (1 : Int32).toInt = 1) c23
                  refine lv_aload_n hx hb dX4_read_151 rfl (lv_at hl 0 rfl) ?_
                  refine lv_iconst (v := 1) hx hb dX4_read_152 (by decide) ?_
                  have l_1 : (1 : Int32).toInt = 1 := by decide
                  refine m_aV hW (m_runV (As := [.int 1]) (rest := []) hx hb hml hown hts hW (27) (g_X4_fail l D cy b S μ0 hS5 1 μ hI) mi_X4_fail k_X4_74 rfl rfl rfl hl.1 rfl (Nat.le_of_ble_eq_true rfl) dX4_read_153 ⟨Nat.le_of_ble_eq_true rfl, Nat.le_of_ble_eq_true rfl⟩ ⟨Nat.le_of_ble_eq_true rfl, Nat.le_of_ble_eq_true rfl⟩) (fun μ24 H locs q24 hW => ?_)
                  obtain ⟨hI, q24⟩ := q24
                  obtain ⟨x25, ex25⟩ : ∃ z : Int32, z = y3 + 1 := ⟨_, rfl⟩
                  refine lv_iinc (v := x25) (lv' := [(3, .int x25), (0, .ref (b + 27)), (1, .ref (b + 23)), (2, .int y2)]) hx hb dX4_read_156 hl (k := 3) rfl (by rw [ex25]; rfl) (by decide) rfl (fun ls hl => ?_)
                  have tx25 : x25.toInt = y3.toInt + 1 := m_addI ex25 (rfl : y3.toInt = _) (by decide : (1 : Int32).toInt = 1) (by omega) (by omega)
                  refine lv_goto (tgt := 66) hx hb dX4_read_159 (by decide) ?_
                  exact ih y2 x25 (by omega) (by omega) μ24 hI _ _ hW ls (lv_sub hl [1, 2, 3, 0] rfl)
                · have i23 := m_c5 (rfl : x5.toInt = _) (by decide : (1 : Int32).toInt = 1) c23
                  exfalso; omega
              · have i21 := m_c5 (rfl : x20.toInt = _) (by decide : (15 : Int32).toInt = 15) c21
                refine lv_aload_n hx hb dX4_read_123 rfl (lv_at hl 0 rfl) ?_
                refine m_aV hW (m_runV (As := []) (rest := []) hx hb hml hown hts hW (27) (g_X4_closeAgain l D cy b S μ0 hS5 μ hI) mi_X4_closeAgain k_X4_71 rfl rfl rfl hl.1 rfl (Nat.le_of_ble_eq_true rfl) dX4_read_124 ⟨Nat.le_of_ble_eq_true rfl, Nat.le_of_ble_eq_true rfl⟩ ⟨Nat.le_of_ble_eq_true rfl, Nat.le_of_ble_eq_true rfl⟩) (fun μ26 H locs q26 hW => ?_)
                obtain ⟨hI, q26⟩ := q26
                refine lv_goto (tgt := 156) hx hb dX4_read_127 (by decide) ?_
                obtain ⟨x27, ex27⟩ : ∃ z : Int32, z = y3 + 1 := ⟨_, rfl⟩
                refine lv_iinc (v := x27) (lv' := [(3, .int x27), (0, .ref (b + 27)), (1, .ref (b + 23)), (2, .int y2)]) hx hb dX4_read_156 hl (k := 3) rfl (by rw [ex27]; rfl) (by decide) rfl (fun ls hl => ?_)
                have tx27 : x27.toInt = y3.toInt + 1 := m_addI ex27 (rfl : y3.toInt = _) (by decide : (1 : Int32).toInt = 1) (by omega) (by omega)
                refine lv_goto (tgt := 66) hx hb dX4_read_159 (by decide) ?_
                exact ih y2 x27 (by omega) (by omega) μ26 hI _ _ hW ls (lv_sub hl [1, 2, 3, 0] rfl)
set_option maxHeartbeats 4000000 in
set_option maxRecDepth 100000 in
theorem g_X4_read (l : Launch) (D : va_G) (cy : Nat → ClassId) (b oq oa ov : Nat) (S : Nat → Bool) (μ0 : mM) (hS5 : S 5 = true) (μ : mM) (hI : IY S μ0 μ) : m_CiO l yX4_read cX4_read 4 ((some .boolean)) 8 D cy b oq oa ov μ [.ref (b + 27), .ref (b + 23)] (fun r ν => IY S μ0 ν ∧ ((r = 1 ∧ (True)) ∨ (r = 0 ∧ (True)))) := by
  unfold m_CiO
  refine m_ofO (by decide) (Nat.le_of_ble_eq_true rfl) ?_
  intro p e s m below meth c hx hb hr hml hown hts hlocks _ hW hO ls hl
  have hown : s.vm.findClass RX4 = some m.cls := hown
  have hl : lv_has ls 4 [(0, .ref (b + 27)), (1, .ref (b + 23))] := hl
  refine lv_aload_n hx hb dX4_read_0 rfl (lv_at hl 0 rfl) ?_
  refine m_getr hx hb hts hown hW (27) 3 (30) rfl rfl cw_4 rfl (by decide) k_X4_30 dX4_read_1 ?_
  refine lv_aload_n hx hb dX4_read_4 rfl (lv_at hl 1 rfl) ?_
  refine m_aV hW (m_runVO (As := [.ref (b + 23)]) (rest := []) hx hb hml hown hts hW hO (30) (g_X8_takeApart l D cy b oq oa ov S μ0 hS5 μ hI) mi_X8_takeApart k_X4_46 rfl rfl rfl hl.1 rfl (Nat.le_of_ble_eq_true rfl) dX4_read_5 ⟨Nat.le_of_ble_eq_true rfl, Nat.le_of_ble_eq_true rfl⟩ ⟨Nat.le_of_ble_eq_true rfl, Nat.le_of_ble_eq_true rfl⟩) (fun μ1 H locs q1 hW => ?_)
  obtain ⟨hI, q1⟩ := q1
  refine lv_aload_n hx hb dX4_read_8 rfl (lv_at hl 0 rfl) ?_
  refine m_getr hx hb hts hown hW (27) 0 (28) rfl rfl cw_4 rfl (by decide) k_X4_16 dX4_read_9 ?_
  refine lv_iconst (v := 0) hx hb dX4_read_12 (by decide) ?_
  refine m_puti hx hb hts hown hW (28) 1 rfl rfl cw_5 tyX5_ok nmX5 rfl (by decide) k_X4_50 rfl rfl rfl dX4_read_13 (fun H locs hW _ => ?_)
  generalize hμ2 : m_si μ1 (28) 1 0 = μ2 at hW
  have hI := hI.si1 hμ2 rfl (by decide) hS5
  refine lv_aload_n hx hb dX4_read_16 rfl (lv_at hl 0 rfl) ?_
  refine m_getr hx hb hts hown hW (27) 6 (37) rfl rfl cw_4 rfl (by decide) k_X4_40 dX4_read_17 ?_
  refine lv_iconst (v := 0) hx hb dX4_read_20 (by decide) ?_
  refine m_puti hx hb hts hown hW (37) 1 rfl rfl cw_5 tyX5_ok nmX5 rfl (by decide) k_X4_50 rfl rfl rfl dX4_read_21 (fun H locs hW _ => ?_)
  generalize hμ3 : m_si μ2 (37) 1 0 = μ3 at hW
  have hI := hI.si1 hμ3 rfl (by decide) hS5
  refine lv_aload_n hx hb dX4_read_24 rfl (lv_at hl 0 rfl) ?_
  refine m_getr hx hb hts hown hW (27) 7 (39) rfl rfl cw_4 rfl (by decide) k_X4_43 dX4_read_25 ?_
  refine lv_iconst (v := 0) hx hb dX4_read_28 (by decide) ?_
  refine m_puti hx hb hts hown hW (39) 1 rfl rfl cw_5 tyX5_ok nmX5 rfl (by decide) k_X4_50 rfl rfl rfl dX4_read_29 (fun H locs hW _ => ?_)
  generalize hμ4 : m_si μ3 (39) 1 0 = μ4 at hW
  have hI := hI.si1 hμ4 rfl (by decide) hS5
  refine lv_aload_n hx hb dX4_read_32 rfl (lv_at hl 0 rfl) ?_
  refine lv_iconst (v := 0) hx hb dX4_read_33 (by decide) ?_
  refine m_puti hx hb hts hown hW (27) 1 rfl rfl cw_4 tyX4_ok nmX4 rfl (by decide) k_X4_20 rfl rfl rfl dX4_read_34 (fun H locs hW _ => ?_)
  generalize hμ5 : m_si μ4 (27) 1 0 = μ5 at hW
  have hI := hI.si0 hμ5 rfl hS5
  refine lv_aload_n hx hb dX4_read_37 rfl (lv_at hl 0 rfl) ?_
  refine lv_iconst (v := (-1)) hx hb dX4_read_38 (by decide) ?_
  refine m_puti hx hb hts hown hW (27) 2 rfl rfl cw_4 tyX4_ok nmX4 rfl (by decide) k_X4_24 rfl rfl rfl dX4_read_39 (fun H locs hW _ => ?_)
  generalize hμ6 : m_si μ5 (27) 2 (-1) = μ6 at hW
  have hI := hI.si0 hμ6 rfl hS5
  refine lv_aload_n hx hb dX4_read_42 rfl (lv_at hl 0 rfl) ?_
  refine lv_iconst (v := 0) hx hb dX4_read_43 (by decide) ?_
  refine m_puti hx hb hts hown hW (27) 4 rfl rfl cw_4 tyX4_ok nmX4 rfl (by decide) k_X4_34 rfl rfl rfl dX4_read_44 (fun H locs hW _ => ?_)
  generalize hμ7 : m_si μ6 (27) 4 0 = μ7 at hW
  have hI := hI.si0 hμ7 rfl hS5
  refine lv_aload_n hx hb dX4_read_47 rfl (lv_at hl 0 rfl) ?_
  refine lv_aload_n hx hb dX4_read_48 rfl (lv_at hl 0 rfl) ?_
  refine m_getr hx hb hts hown hW (27) 3 (30) rfl rfl cw_4 rfl (by decide) k_X4_30 dX4_read_49 ?_
  refine m_getr hx hb hts hown hW (30) 0 (31) rfl rfl cw_8 rfl (by decide) k_X4_53 dX4_read_52 ?_
  refine lv_iconst (v := 0) hx hb dX4_read_55 (by decide) ?_
  have l_0 : (0 : Int32).toInt = 0 := by decide
  refine m_aI hW (m_runV (As := [.int 0]) (rest := [.ref (b + 27)]) hx hb hml hown hts hW (31) (g_X5_at l D cy b 31 32 401 rfl rfl (by decide) rfl (fun _ => rfl) 0 μ7 hI.1) mi_X5_at k_X4_56 rfl rfl rfl hl.1 rfl (Nat.le_of_ble_eq_true rfl) dX4_read_56 ⟨Nat.le_of_ble_eq_true rfl, Nat.le_of_ble_eq_true rfl⟩ ⟨Nat.le_of_ble_eq_true rfl, Nat.le_of_ble_eq_true rfl⟩) (fun x8 μ8 H locs q8 hW => ?_)
  obtain ⟨q8_m, q8⟩ := q8
  subst q8_m
  refine m_puti hx hb hts hown hW (27) 5 rfl rfl cw_4 tyX4_ok nmX4 rfl (by decide) k_X4_37 rfl rfl rfl dX4_read_59 (fun H locs hW _ => ?_)
  generalize hμ9 : m_si μ7 (27) 5 x8 = μ9 at hW
  have hI := hI.si0 hμ9 rfl hS5
  refine lv_iconst (v := 0) hx hb dX4_read_62 (by decide) ?_
  refine lv_istore_n (lv' := [(2, .int 0), (0, .ref (b + 27)), (1, .ref (b + 23))]) hx hb dX4_read_63 rfl hl (by decide) rfl (fun ls hl => ?_)
  refine lv_iconst (v := 0) hx hb dX4_read_64 (by decide) ?_
  refine lv_istore_n (lv' := [(3, .int 0), (2, .int 0), (0, .ref (b + 27)), (1, .ref (b + 23))]) hx hb dX4_read_65 rfl hl (by decide) rfl (fun ls hl => ?_)
  exact L_X4_read_66 hx hb hr hml hown hts hlocks hO S μ0 hS5  402 0 0 (by omega) (by omega) μ9 hI _ _ hW ls (lv_sub hl [2, 3, 1, 0] rfl)
set_option maxHeartbeats 4000000 in
set_option maxRecDepth 100000 in
theorem g_X11_way (l : Launch) (D : va_G) (cy : Nat → ClassId) (b oq oa ov : Nat) (S : Nat → Bool) (μ0 : mM) (hS0 : S 0 = true) (hS2 : S 2 = true) (hS3 : S 3 = true) (hS5 : S 5 = true) (k : Int32) (μ : mM) (hI : IY S μ0 μ) : m_CiO l yX11_way cX11_way 4 ((some .boolean)) 9 D cy b oq oa ov μ [.ref (b + 0), .int k] (fun r ν => IY S μ0 ν ∧ ((r = 1 ∧ (True)) ∨ (r = 0 ∧ (True)))) := by
  unfold m_CiO
  refine m_ofO (by decide) (Nat.le_of_ble_eq_true rfl) ?_
  intro p e s m below meth c hx hb hr hml hown hts hlocks _ hW hO ls hl
  have hown : s.vm.findClass RX11 = some m.cls := hown
  have hl : lv_has ls 4 [(0, .ref (b + 0)), (1, .int k)] := hl
  refine lv_aload_n hx hb dX11_way_0 rfl (lv_at hl 0 rfl) ?_
  refine lv_iconst (v := 0) hx hb dX11_way_1 (by decide) ?_
  refine m_puti hx hb hts hown hW (0) 9 rfl rfl cw_11 tyX11_ok nmX11 rfl (by decide) k_X11_70 rfl rfl rfl dX11_way_2 (fun H locs hW _ => ?_)
  generalize hμ1 : m_si μ (0) 9 0 = μ1 at hW
  have hI := hI.si0 hμ1 rfl hS0
  refine lv_aload_n hx hb dX11_way_5 rfl (lv_at hl 0 rfl) ?_
  refine lv_iconst (v := (-1)) hx hb dX11_way_6 (by decide) ?_
  refine m_puti hx hb hts hown hW (0) 10 rfl rfl cw_11 tyX11_ok nmX11 rfl (by decide) k_X11_74 rfl rfl rfl dX11_way_7 (fun H locs hW _ => ?_)
  generalize hμ2 : m_si μ1 (0) 10 (-1) = μ2 at hW
  have hI := hI.si0 hμ2 rfl hS0
  refine lv_iconst (v := 0) hx hb dX11_way_10 (by decide) ?_
  refine lv_istore_n (lv' := [(2, .int 0), (0, .ref (b + 0)), (1, .int k)]) hx hb dX11_way_11 rfl hl (by decide) rfl (fun ls hl => ?_)
  refine lv_aload_n hx hb dX11_way_12 rfl (lv_at hl 1 rfl) ?_
  refine m_getr hx hb hts hown hW (0) 0 (1) rfl rfl cw_11 rfl (by decide) k_X11_10 dX11_way_13 ?_
  refine lv_iload_n hx hb dX11_way_16 rfl (lv_at hl 2 rfl) ?_
  refine m_aQ hW (m_runV (As := [.int k]) (rest := []) hx hb hml hown hts hW (1) (g_X10_programOf l D cy b k μ2 hI.1) mi_X10_programOf k_X11_105 rfl rfl rfl hl.1 rfl (Nat.le_of_ble_eq_true rfl) dX11_way_17 ⟨Nat.le_of_ble_eq_true rfl, Nat.le_of_ble_eq_true rfl⟩ ⟨Nat.le_of_ble_eq_true rfl, Nat.le_of_ble_eq_true rfl⟩) (fun μ3 H locs q3 hW => ?_) (fun r3 μ3 H locs q3 hW => ?_)
  · obtain ⟨q3_m, q3⟩ := q3
    subst q3_m
    refine lv_astore_nN (lv' := [(3, .null), (2, .int 0), (0, .ref (b + 0)), (1, .int k)]) hx hb dX11_way_20 rfl hl (by decide) rfl (fun ls hl => ?_)
    refine lv_aload_nN hx hb dX11_way_21 rfl (lv_at hl 0 rfl) ?_
    refine lv_ifnullN (tgt := 74) hx hb dX11_way_22 (by decide) ?_
    refine lv_aload_n hx hb dX11_way_74 rfl (lv_at hl 2 rfl) ?_
    refine m_getr hx hb hts hown hW (0) 1 (23) rfl rfl cw_11 rfl (by decide) k_X11_21 dX11_way_75 ?_
    refine lv_iconst (v := 0) hx hb dX11_way_78 (by decide) ?_
    refine m_puti hx hb hts hown hW (23) 1 rfl rfl cw_5 tyX5_ok nmX5 rfl (by decide) k_X11_99 rfl rfl rfl dX11_way_79 (fun H locs hW _ => ?_)
    generalize hμ4 : m_si μ2 (23) 1 0 = μ4 at hW
    have hI := hI.si1 hμ4 rfl (by decide) hS3
    refine lv_iload_n hx hb dX11_way_82 rfl (lv_at hl 1 rfl) ?_
    exact m_iret hx hb hr hlocks hW (by decide) (⟨hI, Or.inr ⟨rfl, trivial⟩⟩) dX11_way_83
  · obtain ⟨q3_m, q3⟩ := q3
    subst q3_m
    obtain ⟨n3, ra3, q3⟩ : ∃ n, n < 8 ∧ r3 = 7 + 2 * n := by
      rcases q3 with ⟨z, _⟩ | ⟨n, h, z⟩
      · cases z
      · exact ⟨n, h, Option.some.inj z⟩
    subst q3
    obtain ⟨rb3, rc3, rd3, re3, rf3, rg3, rh3⟩ := m_rows n3 ra3
    refine lv_astore_n (lv' := [(3, .ref (b + (7 + 2 * n3))), (2, .int 0), (0, .ref (b + 0)), (1, .int k)]) hx hb dX11_way_20 rfl hl (by decide) rfl (fun ls hl => ?_)
    refine lv_aload_n hx hb dX11_way_21 rfl (lv_at hl 0 rfl) ?_
    refine lv_ifnull hx hb dX11_way_22 ?_
    refine lv_aload_n hx hb dX11_way_25 rfl (lv_at hl 2 rfl) ?_
    refine m_getr hx hb hts hown hW (0) 3 (27) rfl rfl cw_11 rfl (by decide) k_X11_31 dX11_way_26 ?_
    refine lv_aload_n hx hb dX11_way_29 rfl (lv_at hl 2 rfl) ?_
    refine m_getr hx hb hts hown hW (0) 1 (23) rfl rfl cw_11 rfl (by decide) k_X11_21 dX11_way_30 ?_
    refine m_aI hW (m_runVO (As := [.ref (b + 23)]) (rest := []) hx hb hml hown hts hW hO (27) (g_X4_read l D cy b oq oa ov S μ0 hS5 μ2 hI) mi_X4_read k_X11_109 rfl rfl rfl hl.1 rfl (Nat.le_of_ble_eq_true rfl) dX11_way_33 ⟨Nat.le_of_ble_eq_true rfl, Nat.le_of_ble_eq_true rfl⟩ ⟨Nat.le_of_ble_eq_true rfl, Nat.le_of_ble_eq_true rfl⟩) (fun x5 μ5 H locs q5 hW => ?_)
    obtain ⟨hI, q5⟩ := q5
    rcases q5 with ⟨rfl, q5⟩ | ⟨rfl, q5⟩
    · refine lv_istore_n (lv' := [(2, .int 1), (3, .ref (b + (7 + 2 * n3))), (0, .ref (b + 0)), (1, .int k)]) hx hb dX11_way_36 rfl hl (by decide) rfl (fun ls hl => ?_)
      refine lv_aload_n hx hb dX11_way_37 rfl (lv_at hl 2 rfl) ?_
      refine lv_aload_n hx hb dX11_way_38 rfl (lv_at hl 2 rfl) ?_
      refine m_getr hx hb hts hown hW (0) 3 (27) rfl rfl cw_11 rfl (by decide) k_X11_31 dX11_way_39 ?_
      refine m_geti hx hb hts hown hW (27) 1 rfl rfl cw_4 rfl (by decide) k_X11_113 dX11_way_42 ?_
      refine lv_topi (fun x6 ex6 => ?_)
      refine m_puti hx hb hts hown hW (0) 9 rfl rfl cw_11 tyX11_ok nmX11 rfl (by decide) k_X11_70 rfl rfl rfl dX11_way_45 (fun H locs hW _ => ?_)
      generalize hμ7 : m_si μ5 (0) 9 x6 = μ7 at hW
      have hI := hI.si0 hμ7 rfl hS0
      refine lv_aload_n hx hb dX11_way_48 rfl (lv_at hl 2 rfl) ?_
      refine lv_aload_n hx hb dX11_way_49 rfl (lv_at hl 2 rfl) ?_
      refine m_getr hx hb hts hown hW (0) 3 (27) rfl rfl cw_11 rfl (by decide) k_X11_31 dX11_way_50 ?_
      refine m_geti hx hb hts hown hW (27) 2 rfl rfl cw_4 rfl (by decide) k_X11_116 dX11_way_53 ?_
      refine lv_topi (fun x8 ex8 => ?_)
      refine m_puti hx hb hts hown hW (0) 10 rfl rfl cw_11 tyX11_ok nmX11 rfl (by decide) k_X11_74 rfl rfl rfl dX11_way_56 (fun H locs hW _ => ?_)
      generalize hμ9 : m_si μ7 (0) 10 x8 = μ9 at hW
      have hI := hI.si0 hμ9 rfl hS0
      refine lv_iload_n hx hb dX11_way_59 rfl (lv_at hl 0 rfl) ?_
      refine lv_if_eq (tgt := 74) hx hb dX11_way_60 (by decide) (fun c => False.elim (by revert c; decide)) (fun _ => ?_)
      refine lv_aload_n hx hb dX11_way_63 rfl (lv_at hl 1 rfl) ?_
      refine lv_aload_n hx hb dX11_way_64 rfl (lv_at hl 2 rfl) ?_
      refine m_getr hx hb hts hown hW (0) 3 (27) rfl rfl cw_11 rfl (by decide) k_X11_31 dX11_way_65 ?_
      refine m_getr hx hb hts hown hW (27) 0 (28) rfl rfl cw_4 rfl (by decide) k_X11_117 dX11_way_68 ?_
      refine m_aV hW (m_runV (As := [.ref (b + 28)]) (rest := []) hx hb hml hown hts hW (7 + 2 * n3) (g_X5_copyFrom l D cy b S μ0 (7 + 2 * n3) (7 + 2 * n3 + 1) 800 rc3 rd3 (by decide) re3 rf3 (by rw [rg3]; exact hS2) (fun j => by rw [rh3 j]; exact hS2) 28 29 800 rfl rfl (by decide) rfl (fun _ => rfl) μ9 hI) mi_X5_copyFrom k_X11_120 rc3 rfl rfl hl.1 rfl (Nat.le_of_ble_eq_true rfl) dX11_way_71 ⟨Nat.le_of_ble_eq_true rfl, Nat.le_of_ble_eq_true rfl⟩ ⟨Nat.le_of_ble_eq_true rfl, Nat.le_of_ble_eq_true rfl⟩) (fun μ10 H locs q10 hW => ?_)
      obtain ⟨hI, q10⟩ := q10
      refine lv_aload_n hx hb dX11_way_74 rfl (lv_at hl 2 rfl) ?_
      refine m_getr hx hb hts hown hW (0) 1 (23) rfl rfl cw_11 rfl (by decide) k_X11_21 dX11_way_75 ?_
      refine lv_iconst (v := 0) hx hb dX11_way_78 (by decide) ?_
      refine m_puti hx hb hts hown hW (23) 1 rfl rfl cw_5 tyX5_ok nmX5 rfl (by decide) k_X11_99 rfl rfl rfl dX11_way_79 (fun H locs hW _ => ?_)
      generalize hμ11 : m_si μ10 (23) 1 0 = μ11 at hW
      have hI := hI.si1 hμ11 rfl (by decide) hS3
      refine lv_iload_n hx hb dX11_way_82 rfl (lv_at hl 0 rfl) ?_
      exact m_iret hx hb hr hlocks hW (by decide) (⟨hI, Or.inl ⟨rfl, trivial⟩⟩) dX11_way_83
    · refine lv_istore_n (lv' := [(2, .int 0), (3, .ref (b + (7 + 2 * n3))), (0, .ref (b + 0)), (1, .int k)]) hx hb dX11_way_36 rfl hl (by decide) rfl (fun ls hl => ?_)
      refine lv_aload_n hx hb dX11_way_37 rfl (lv_at hl 2 rfl) ?_
      refine lv_aload_n hx hb dX11_way_38 rfl (lv_at hl 2 rfl) ?_
      refine m_getr hx hb hts hown hW (0) 3 (27) rfl rfl cw_11 rfl (by decide) k_X11_31 dX11_way_39 ?_
      refine m_geti hx hb hts hown hW (27) 1 rfl rfl cw_4 rfl (by decide) k_X11_113 dX11_way_42 ?_
      refine lv_topi (fun x12 ex12 => ?_)
      refine m_puti hx hb hts hown hW (0) 9 rfl rfl cw_11 tyX11_ok nmX11 rfl (by decide) k_X11_70 rfl rfl rfl dX11_way_45 (fun H locs hW _ => ?_)
      generalize hμ13 : m_si μ5 (0) 9 x12 = μ13 at hW
      have hI := hI.si0 hμ13 rfl hS0
      refine lv_aload_n hx hb dX11_way_48 rfl (lv_at hl 2 rfl) ?_
      refine lv_aload_n hx hb dX11_way_49 rfl (lv_at hl 2 rfl) ?_
      refine m_getr hx hb hts hown hW (0) 3 (27) rfl rfl cw_11 rfl (by decide) k_X11_31 dX11_way_50 ?_
      refine m_geti hx hb hts hown hW (27) 2 rfl rfl cw_4 rfl (by decide) k_X11_116 dX11_way_53 ?_
      refine lv_topi (fun x14 ex14 => ?_)
      refine m_puti hx hb hts hown hW (0) 10 rfl rfl cw_11 tyX11_ok nmX11 rfl (by decide) k_X11_74 rfl rfl rfl dX11_way_56 (fun H locs hW _ => ?_)
      generalize hμ15 : m_si μ13 (0) 10 x14 = μ15 at hW
      have hI := hI.si0 hμ15 rfl hS0
      refine lv_iload_n hx hb dX11_way_59 rfl (lv_at hl 0 rfl) ?_
      refine lv_if_eq (tgt := 74) hx hb dX11_way_60 (by decide) (fun _ => ?_) (fun c => False.elim (by revert c; decide))
      refine lv_aload_n hx hb dX11_way_74 rfl (lv_at hl 2 rfl) ?_
      refine m_getr hx hb hts hown hW (0) 1 (23) rfl rfl cw_11 rfl (by decide) k_X11_21 dX11_way_75 ?_
      refine lv_iconst (v := 0) hx hb dX11_way_78 (by decide) ?_
      refine m_puti hx hb hts hown hW (23) 1 rfl rfl cw_5 tyX5_ok nmX5 rfl (by decide) k_X11_99 rfl rfl rfl dX11_way_79 (fun H locs hW _ => ?_)
      generalize hμ16 : m_si μ15 (23) 1 0 = μ16 at hW
      have hI := hI.si1 hμ16 rfl (by decide) hS3
      refine lv_iload_n hx hb dX11_way_82 rfl (lv_at hl 0 rfl) ?_
      exact m_iret hx hb hr hlocks hW (by decide) (⟨hI, Or.inr ⟨rfl, trivial⟩⟩) dX11_way_83
set_option maxHeartbeats 4000000 in
set_option maxRecDepth 100000 in
theorem g_J6_bitCount_0f7a4 (l : Launch) (D : va_G) (cy : Nat → ClassId) (b : Nat) (k : Int32) (μ : mM) (hI : IX μ) : m_Ci l yJ6_bitCount_0f7a4 cJ6_bitCount_0f7a4 1 ((some .int)) 0 D cy b LAY μ [.int k] (fun r ν => μ = ν ∧ (True)) := by
  unfold m_Ci
  refine m_of (by decide) (Nat.le_of_ble_eq_true rfl) ?_
  intro p e s m below meth c hx hb hr hml hown hts hlocks _ hW ls hl
  have hown : s.vm.findClass RJ6 = some m.cls := hown
  have hl : lv_has ls 1 [(0, .int k)] := hl
  refine lv_iload_n hx hb dJ6_bitCount_0f7a4_0 rfl (lv_at hl 0 rfl) ?_
  refine lv_iload_n hx hb dJ6_bitCount_0f7a4_1 rfl (lv_at hl 0 rfl) ?_
  refine lv_iconst (v := 1) hx hb dJ6_bitCount_0f7a4_2 (by decide) ?_
  refine lv_iushr hx hb dJ6_bitCount_0f7a4_3 rfl ?_
  refine lv_topi (fun x1 ex1 => ?_)
  refine lv_ldcw hx hb hown (hts _ k_J6_265) dJ6_bitCount_0f7a4_4 ?_
  refine lv_iand hx hb dJ6_bitCount_0f7a4_7 ?_
  refine lv_topi (fun x2 ex2 => ?_)
  have bx2 : 0 ≤ x2.toInt ∧ x2.toInt ≤ 1431655765 := m_andN (n := 1431655765) ex2 rfl (by decide)
  refine lv_isub hx hb dJ6_bitCount_0f7a4_8 ?_
  refine lv_topi (fun x3 ex3 => ?_)
  refine lv_istore_n (lv' := [(0, .int x3)]) hx hb dJ6_bitCount_0f7a4_9 rfl hl (by decide) rfl (fun ls hl => ?_)
  refine lv_iload_n hx hb dJ6_bitCount_0f7a4_10 rfl (lv_at hl 0 rfl) ?_
  refine lv_ldcw hx hb hown (hts _ k_J6_266) dJ6_bitCount_0f7a4_11 ?_
  refine lv_iand hx hb dJ6_bitCount_0f7a4_14 ?_
  refine lv_topi (fun x4 ex4 => ?_)
  have bx4 : 0 ≤ x4.toInt ∧ x4.toInt ≤ 858993459 := m_andN (n := 858993459) ex4 rfl (by decide)
  refine lv_iload_n hx hb dJ6_bitCount_0f7a4_15 rfl (lv_at hl 0 rfl) ?_
  refine lv_iconst (v := 2) hx hb dJ6_bitCount_0f7a4_16 (by decide) ?_
  refine lv_iushr hx hb dJ6_bitCount_0f7a4_17 rfl ?_
  refine lv_topi (fun x5 ex5 => ?_)
  refine lv_ldcw hx hb hown (hts _ k_J6_266) dJ6_bitCount_0f7a4_18 ?_
  refine lv_iand hx hb dJ6_bitCount_0f7a4_21 ?_
  refine lv_topi (fun x6 ex6 => ?_)
  have bx6 : 0 ≤ x6.toInt ∧ x6.toInt ≤ 858993459 := m_andN (n := 858993459) ex6 rfl (by decide)
  refine lv_iadd hx hb dJ6_bitCount_0f7a4_22 ?_
  refine lv_topi (fun x7 ex7 => ?_)
  have tx7 : x7.toInt = x4.toInt + x6.toInt := m_addI ex7 (rfl : x4.toInt = _) (rfl : x6.toInt = _) (by omega) (by omega)
  refine lv_istore_n (lv' := [(0, .int x7)]) hx hb dJ6_bitCount_0f7a4_23 rfl hl (by decide) rfl (fun ls hl => ?_)
  refine lv_iload_n hx hb dJ6_bitCount_0f7a4_24 rfl (lv_at hl 0 rfl) ?_
  refine lv_iload_n hx hb dJ6_bitCount_0f7a4_25 rfl (lv_at hl 0 rfl) ?_
  refine lv_iconst (v := 4) hx hb dJ6_bitCount_0f7a4_26 (by decide) ?_
  refine lv_iushr hx hb dJ6_bitCount_0f7a4_27 rfl ?_
  refine lv_topi (fun x8 ex8 => ?_)
  refine lv_iadd hx hb dJ6_bitCount_0f7a4_28 ?_
  refine lv_topi (fun x9 ex9 => ?_)
  refine lv_ldcw hx hb hown (hts _ k_J6_267) dJ6_bitCount_0f7a4_29 ?_
  refine lv_iand hx hb dJ6_bitCount_0f7a4_32 ?_
  refine lv_topi (fun x10 ex10 => ?_)
  have bx10 : 0 ≤ x10.toInt ∧ x10.toInt ≤ 252645135 := m_andN (n := 252645135) ex10 rfl (by decide)
  refine lv_istore_n (lv' := [(0, .int x10)]) hx hb dJ6_bitCount_0f7a4_33 rfl hl (by decide) rfl (fun ls hl => ?_)
  refine lv_iload_n hx hb dJ6_bitCount_0f7a4_34 rfl (lv_at hl 0 rfl) ?_
  refine lv_iload_n hx hb dJ6_bitCount_0f7a4_35 rfl (lv_at hl 0 rfl) ?_
  refine lv_bipush (v := 8) hx hb dJ6_bitCount_0f7a4_36 (by decide) ?_
  refine lv_iushr hx hb dJ6_bitCount_0f7a4_38 rfl ?_
  refine lv_topi (fun x11 ex11 => ?_)
  refine lv_iadd hx hb dJ6_bitCount_0f7a4_39 ?_
  refine lv_topi (fun x12 ex12 => ?_)
  refine lv_istore_n (lv' := [(0, .int x12)]) hx hb dJ6_bitCount_0f7a4_40 rfl hl (by decide) rfl (fun ls hl => ?_)
  refine lv_iload_n hx hb dJ6_bitCount_0f7a4_41 rfl (lv_at hl 0 rfl) ?_
  refine lv_iload_n hx hb dJ6_bitCount_0f7a4_42 rfl (lv_at hl 0 rfl) ?_
  refine lv_bipush (v := 16) hx hb dJ6_bitCount_0f7a4_43 (by decide) ?_
  refine lv_iushr hx hb dJ6_bitCount_0f7a4_45 rfl ?_
  refine lv_topi (fun x13 ex13 => ?_)
  refine lv_iadd hx hb dJ6_bitCount_0f7a4_46 ?_
  refine lv_topi (fun x14 ex14 => ?_)
  refine lv_istore_n (lv' := [(0, .int x14)]) hx hb dJ6_bitCount_0f7a4_47 rfl hl (by decide) rfl (fun ls hl => ?_)
  refine lv_iload_n hx hb dJ6_bitCount_0f7a4_48 rfl (lv_at hl 0 rfl) ?_
  refine lv_bipush (v := 63) hx hb dJ6_bitCount_0f7a4_49 (by decide) ?_
  refine lv_iand hx hb dJ6_bitCount_0f7a4_51 ?_
  refine lv_topi (fun x15 ex15 => ?_)
  have bx15 : 0 ≤ x15.toInt ∧ x15.toInt ≤ 63 := m_andN (n := 63) ex15 rfl (by decide)
  exact m_iret hx hb hr hlocks hW rfl (⟨rfl, trivial⟩) dJ6_bitCount_0f7a4_52
set_option maxHeartbeats 4000000 in
set_option maxRecDepth 100000 in
theorem L_X9_ordersJust_2 {p : Program} {l : Launch} {e : Env} {s : State} {m : MethodId} {args : Array Value} {below : List Frame} {meth : Method} {c : Code} {D : va_G} {cy : Nat → ClassId} {b : Nat} (hx : p.tables.exec = Jvm.exec) (hb : c.code = cX9_ordersJust) (hr : meth.sig.returnType = ((some .boolean))) (hml : c.maxLocals = 3) (hown : s.vm.findClass RX9 = some m.cls) (hts : ∀ w ∈ TB, w.before args s = true) (hlocks : meth.locks = false) {oq oa ov : Nat} (hO : m_O (m_A b LAY) oq oa ov s s.heap) (μ1 : mM) (k u : Int32) (h_k : 0 ≤ k.toInt ∧ k.toInt ≤ 3) (h_u : 0 ≤ u.toInt ∧ u.toInt ≤ 15) : ∀ (f : Nat), ∀ (y2 : Int32) (hy : 0 ≤ y2.toInt ∧ y2.toInt ≤ 3) (hf : 3 - y2.toInt < (f : Int)) (μ : mM) (hI : IX μ) (hm : μ = μ1) (H : Heap) (locs : List Loc), m_WA (m_A b LAY) D cy s b LAY μ H locs → ∀ ls : Array Slot, lv_has ls 3 [(0, .int k), (1, .int u), (2, .int y2)] → W p l e (m_R 0 0 0) s m args below meth c H locs 0 0 (MQ below (m_Qi D cy b LAY (fun r ν => μ1 = ν ∧ ((r = 1 ∧ (True)) ∨ (r = 0 ∧ (True))))) args s 0 0 (m_A b LAY)) (F0 m 2 ls []) := by
  intro f
  induction f with
  | zero => intro y2 hy hf; exfalso; omega
  | succ f ih =>
    intro y2 hy hf μ hI hm H locs hW ls hl
    refine lv_iload_n hx hb dX9_ordersJust_2 rfl (lv_at hl 2 rfl) ?_
    refine lv_iconst (v := 3) hx hb dX9_ordersJust_3 (by decide) ?_
    refine lv_icmp_ge (tgt := 26) hx hb dX9_ordersJust_4 (by decide) (fun c1 => ?_) (fun c1 => ?_)
    · have i1 := m_c3 (by decide : (3 : Int32).toInt = 3) (rfl : y2.toInt = _) c1
      refine lv_iconst (v := 1) hx hb dX9_ordersJust_26 (by decide) ?_
      exact m_iret hx hb hr hlocks hW (by decide) (⟨hm.symm, Or.inl ⟨rfl, trivial⟩⟩) dX9_ordersJust_27
    · have i1 := m_c4 (by decide : (3 : Int32).toInt = 3) (rfl : y2.toInt = _) c1
      refine va_gets hx hb hO.z hW.2.2.1 hown (hts _ kf_X9_52) (fun _ h => h) dX9_ordersJust_7 ?_
      refine lv_iload_n hx hb dX9_ordersJust_10 rfl (lv_at hl 1 rfl) ?_
      refine lv_iload_n hx hb dX9_ordersJust_11 rfl (lv_at hl 2 rfl) ?_
      refine lv_iadd hx hb dX9_ordersJust_12 ?_
      refine lv_topi (fun x2 ex2 => ?_)
      have tx2 : x2.toInt = u.toInt + y2.toInt := m_addI ex2 (rfl : u.toInt = _) (rfl : y2.toInt = _) (by omega) (by omega)
      refine va_ti hx hb hO.t hW.2.2.1 (m_ixI (rfl : x2.toInt = _) (by omega) (by omega)) (v := .int (ordC x2)) rfl dX9_ordersJust_13 ?_
      refine lv_topi (fun x3 ex3 => ?_)
      have bx3 := ord_b x2
      rw [← ex3] at bx3
      refine lv_iload_n hx hb dX9_ordersJust_14 rfl (lv_at hl 2 rfl) ?_
      refine lv_icmp_eq (tgt := 20) hx hb dX9_ordersJust_15 (by decide) (fun c4 => ?_) (fun c4 => ?_)
      · have i4 := m_c5 (rfl : x3.toInt = _) (rfl : y2.toInt = _) c4
        obtain ⟨x5, ex5⟩ : ∃ z : Int32, z = y2 + 1 := ⟨_, rfl⟩
        refine lv_iinc (v := x5) (lv' := [(2, .int x5), (0, .int k), (1, .int u)]) hx hb dX9_ordersJust_20 hl (k := 2) rfl (by rw [ex5]; rfl) (by decide) rfl (fun ls hl => ?_)
        have tx5 : x5.toInt = y2.toInt + 1 := m_addI ex5 (rfl : y2.toInt = _) (by decide : (1 : Int32).toInt = 1) (by omega) (by omega)
        refine lv_goto (tgt := 2) hx hb dX9_ordersJust_23 (by decide) ?_
        exact ih x5 (by omega) (by omega) μ hI hm _ _ hW ls (lv_sub hl [1, 2, 0] rfl)
      · have i4 := m_c6 (rfl : x3.toInt = _) (rfl : y2.toInt = _) c4
        refine lv_iconst (v := 0) hx hb dX9_ordersJust_18 (by decide) ?_
        exact m_iret hx hb hr hlocks hW (by decide) (⟨hm.symm, Or.inr ⟨rfl, trivial⟩⟩) dX9_ordersJust_19
set_option maxHeartbeats 4000000 in
set_option maxRecDepth 100000 in
theorem g_X9_ordersJust (l : Launch) (D : va_G) (cy : Nat → ClassId) (b oq oa ov : Nat) (k u : Int32) (h_k : 0 ≤ k.toInt ∧ k.toInt ≤ 3) (h_u : 0 ≤ u.toInt ∧ u.toInt ≤ 15) (μ : mM) (hI : IX μ) : m_CiO l yX9_ordersJust cX9_ordersJust 3 ((some .boolean)) 0 D cy b oq oa ov μ [.int k, .int u] (fun r ν => μ = ν ∧ ((r = 1 ∧ (True)) ∨ (r = 0 ∧ (True)))) := by
  unfold m_CiO
  refine m_ofO (by decide) (Nat.le_of_ble_eq_true rfl) ?_
  intro p e s m below meth c hx hb hr hml hown hts hlocks _ hW hO ls hl
  have hown : s.vm.findClass RX9 = some m.cls := hown
  have hl : lv_has ls 3 [(0, .int k), (1, .int u)] := hl
  refine lv_iload_n hx hb dX9_ordersJust_0 rfl (lv_at hl 0 rfl) ?_
  refine lv_istore_n (lv' := [(2, .int k), (0, .int k), (1, .int u)]) hx hb dX9_ordersJust_1 rfl hl (by decide) rfl (fun ls hl => ?_)
  exact L_X9_ordersJust_2 hx hb hr hml hown hts hlocks hO μ k u h_k h_u  4 k (by omega) (by omega) μ hI rfl _ _ hW ls (lv_sub hl [1, 2, 0] rfl)
set_option maxHeartbeats 4000000 in
set_option maxRecDepth 100000 in
theorem L_X9_seekOrder_54 {p : Program} {l : Launch} {e : Env} {s : State} {m : MethodId} {args : Array Value} {below : List Frame} {meth : Method} {c : Code} {D : va_G} {cy : Nat → ClassId} {b : Nat} (hx : p.tables.exec = Jvm.exec) (hb : c.code = cX9_seekOrder) (hr : meth.sig.returnType = (none)) (hml : c.maxLocals = 10) (hown : s.vm.findClass RX9 = some m.cls) (hts : ∀ w ∈ TB, w.before args s = true) (hlocks : meth.locks = false) {oq oa ov : Nat} (hO : m_O (m_A b LAY) oq oa ov s s.heap) (S : Nat → Bool) (μ0 : mM) (hS8 : S 8 = true) (k : Int32) (F15 : Nat) (O15 : ∀ (y4 y5 : Int32) (hy : 0 ≤ y4.toInt ∧ y4.toInt ≤ 3 ∧ 0 ≤ y5.toInt ∧ y5.toInt ≤ 18) (hf : 18 - y5.toInt < (F15 : Int)) (μ : mM) (hI : IY S μ0 μ) (H : Heap) (locs : List Loc), m_WA (m_A b LAY) D cy s b LAY μ H locs → ∀ ls : Array Slot, lv_has ls 10 [(0, .ref (b + 54)), (1, .ref (b + 1)), (2, .ref (b + 41)), (3, .int k), (4, .int y4), (5, .int y5)] → W p l e (m_R 6 0 0) s m args below meth c H locs 0 0 (MQ below (m_Qv D cy b LAY (fun ν => IY S μ0 ν ∧ (True))) args s 0 0 (m_A b LAY)) (F0 m 15 ls [])) : ∀ (f : Nat), ∀ (y4 y5 y6 y7 : Int32) (hy : 18 - y5.toInt < (F15 : Int) + 1 ∧ 0 ≤ y4.toInt ∧ y4.toInt ≤ 3 ∧ 0 ≤ y5.toInt ∧ y5.toInt ≤ 15 ∧ 0 ≤ y7.toInt ∧ y7.toInt ≤ 3 ∧ 0 ≤ y4.toInt ∧ y4.toInt ≤ 3 ∧ 0 ≤ y5.toInt ∧ y5.toInt ≤ 18) (hf : 3 - y7.toInt < (f : Int)) (μ : mM) (hI : IY S μ0 μ) (H : Heap) (locs : List Loc), m_WA (m_A b LAY) D cy s b LAY μ H locs → ∀ ls : Array Slot, lv_has ls 10 [(0, .ref (b + 54)), (1, .ref (b + 1)), (2, .ref (b + 41)), (3, .int k), (4, .int y4), (5, .int y5), (6, .int y6), (7, .int y7)] → W p l e (m_R 6 0 0) s m args below meth c H locs 0 0 (MQ below (m_Qv D cy b LAY (fun ν => IY S μ0 ν ∧ (True))) args s 0 0 (m_A b LAY)) (F0 m 54 ls []) := by
  intro f
  induction f with
  | zero => intro y4 y5 y6 y7 hy hf; exfalso; omega
  | succ f ih =>
    intro y4 y5 y6 y7 hy hf μ hI H locs hW ls hl
    refine lv_iload hx hb dX9_seekOrder_54 (lv_at hl 7 rfl) ?_
    refine lv_iload hx hb dX9_seekOrder_56 (lv_at hl 4 rfl) ?_
    refine lv_icmp_ge (tgt := 121) hx hb dX9_seekOrder_58 (by decide) (fun c1 => ?_) (fun c1 => ?_)
    · have i1 := m_c3 (rfl : y4.toInt = _) (rfl : y7.toInt = _) c1
      refine lv_aload_n hx hb dX9_seekOrder_121 rfl (lv_at hl 0 rfl) ?_
      refine lv_aload_n hx hb dX9_seekOrder_122 rfl (lv_at hl 0 rfl) ?_
      refine m_getr hx hb hts hown hW (54) 5 (59) rfl rfl cw_9 rfl (by decide) k_X9_40 dX9_seekOrder_123 ?_
      refine m_aI hW (m_runV (As := []) (rest := [.ref (b + 54)]) hx hb hml hown hts hW (59) (g_X3_countBurntThere_59 l D cy b S μ0 hS8 μ hI) mi_X3_countBurntThere k_X9_73 rfl rfl rfl hl.1 rfl (Nat.le_of_ble_eq_true rfl) dX9_seekOrder_126 ⟨Nat.le_of_ble_eq_true rfl, Nat.le_of_ble_eq_true rfl⟩ ⟨Nat.le_of_ble_eq_true rfl, Nat.le_of_ble_eq_true rfl⟩) (fun x2 μ2 H locs q2 hW => ?_)
      obtain ⟨hI, q2⟩ := q2
      refine lv_aload_n hx hb dX9_seekOrder_129 rfl (lv_at hl 0 rfl) ?_
      refine m_getr hx hb hts hown hW (54) 5 (59) rfl rfl cw_9 rfl (by decide) k_X9_40 dX9_seekOrder_130 ?_
      refine m_geti hx hb hts hown hW (59) 5 rfl rfl cw_3 rfl (by decide) k_X9_77 dX9_seekOrder_133 ?_
      refine lv_topi (fun x3 ex3 => ?_)
      refine lv_aload_n hx hb dX9_seekOrder_136 rfl (lv_at hl 2 rfl) ?_
      refine m_geti hx hb hts hown hW (41) 5 rfl rfl cw_3 rfl (by decide) k_X9_77 dX9_seekOrder_137 ?_
      refine lv_topi (fun x4 ex4 => ?_)
      refine lv_isub hx hb dX9_seekOrder_140 ?_
      refine lv_topi (fun x5 ex5 => ?_)
      refine lv_iload hx hb dX9_seekOrder_141 (lv_at hl 6 rfl) ?_
      refine m_aV hW (m_runV (As := [.int x2, .int x5, .int y6]) (rest := []) hx hb hml hown hts hW (54) (g_X9_keepIfBetter l D cy b S μ0 hS8 x2 x5 y6 μ2 hI) mi_X9_keepIfBetter k_X9_80 rfl rfl rfl hl.1 rfl (Nat.le_of_ble_eq_true rfl) dX9_seekOrder_143 ⟨Nat.le_of_ble_eq_true rfl, Nat.le_of_ble_eq_true rfl⟩ ⟨Nat.le_of_ble_eq_true rfl, Nat.le_of_ble_eq_true rfl⟩) (fun μ6 H locs q6 hW => ?_)
      obtain ⟨hI, q6⟩ := q6
      obtain ⟨x7, ex7⟩ : ∃ z : Int32, z = y5 + 3 := ⟨_, rfl⟩
      refine lv_iinc (v := x7) (lv' := [(5, .int x7), (0, .ref (b + 54)), (1, .ref (b + 1)), (2, .ref (b + 41)), (3, .int k), (4, .int y4), (6, .int y6), (7, .int y7)]) hx hb dX9_seekOrder_146 hl (k := 5) rfl (by rw [ex7]; rfl) (by decide) rfl (fun ls hl => ?_)
      have tx7 : x7.toInt = y5.toInt + 3 := m_addI ex7 (rfl : y5.toInt = _) (by decide : (3 : Int32).toInt = 3) (by omega) (by omega)
      refine lv_goto (tgt := 15) hx hb dX9_seekOrder_149 (by decide) ?_
      exact O15 y4 x7 (by omega) (by omega) μ6 hI _ _ hW ls (lv_sub hl [1, 2, 3, 4, 5, 0] rfl)
    · have i1 := m_c4 (rfl : y4.toInt = _) (rfl : y7.toInt = _) c1
      refine lv_aload_n hx hb dX9_seekOrder_61 rfl (lv_at hl 0 rfl) ?_
      refine m_getr hx hb hts hown hW (54) 6 (70) rfl rfl cw_9 rfl (by decide) k_X9_44 dX9_seekOrder_62 ?_
      refine va_gets hx hb hO.z hW.2.2.1 hown (hts _ kf_X9_52) (fun _ h => h) dX9_seekOrder_65 ?_
      refine lv_iload hx hb dX9_seekOrder_68 (lv_at hl 5 rfl) ?_
      refine lv_iload hx hb dX9_seekOrder_70 (lv_at hl 7 rfl) ?_
      refine lv_iadd hx hb dX9_seekOrder_72 ?_
      refine lv_topi (fun x8 ex8 => ?_)
      have tx8 : x8.toInt = y5.toInt + y7.toInt := m_addI ex8 (rfl : y5.toInt = _) (rfl : y7.toInt = _) (by omega) (by omega)
      refine va_ti hx hb hO.t hW.2.2.1 (m_ixI (rfl : x8.toInt = _) (by omega) (by omega)) (v := .int (ordC x8)) rfl dX9_seekOrder_73 ?_
      refine lv_topi (fun x9 ex9 => ?_)
      have bx9 := ord_b x8
      rw [← ex9] at bx9
      refine m_iald hx hb hW (70) rfl (m_ixI (rfl : x9.toInt = _) (by omega) (by omega)) dX9_seekOrder_74 ?_
      refine lv_topi (fun x10 ex10 => ?_)
      refine lv_istore (lv' := [(8, .int x10), (0, .ref (b + 54)), (1, .ref (b + 1)), (2, .ref (b + 41)), (3, .int k), (4, .int y4), (5, .int y5), (6, .int y6), (7, .int y7)]) hx hb dX9_seekOrder_75 hl (by decide) rfl (fun ls hl => ?_)
      refine lv_aload_n hx hb dX9_seekOrder_77 rfl (lv_at hl 2 rfl) ?_
      refine lv_iload hx hb dX9_seekOrder_78 (lv_at hl 0 rfl) ?_
      refine m_aQ hW (m_runV (As := [.int x10]) (rest := []) hx hb hml hown hts hW (1) (g_X10_programOf l D cy b x10 μ hI.1) mi_X10_programOf k_X9_63 rfl rfl rfl hl.1 rfl (Nat.le_of_ble_eq_true rfl) dX9_seekOrder_80 ⟨Nat.le_of_ble_eq_true rfl, Nat.le_of_ble_eq_true rfl⟩ ⟨Nat.le_of_ble_eq_true rfl, Nat.le_of_ble_eq_true rfl⟩) (fun μ11 H locs q11 hW => ?_) (fun r11 μ11 H locs q11 hW => ?_)
      · obtain ⟨q11_m, q11⟩ := q11
        subst q11_m
        refine lv_astoreN (lv' := [(9, .null), (8, .int x10), (0, .ref (b + 54)), (1, .ref (b + 1)), (2, .ref (b + 41)), (3, .int k), (4, .int y4), (5, .int y5), (6, .int y6), (7, .int y7)]) hx hb dX9_seekOrder_83 hl (by decide) rfl (fun ls hl => ?_)
        refine lv_aloadN hx hb dX9_seekOrder_85 (lv_at hl 0 rfl) ?_
        refine lv_ifnullN (tgt := 105) hx hb dX9_seekOrder_87 (by decide) ?_
        refine lv_iload hx hb dX9_seekOrder_105 (lv_at hl 8 rfl) ?_
        refine lv_bipush (v := 10) hx hb dX9_seekOrder_107 (by decide) ?_
        refine lv_imul hx hb dX9_seekOrder_109 ?_
        refine lv_topi (fun x12 ex12 => ?_)
        refine lv_iload hx hb dX9_seekOrder_110 (lv_at hl 1 rfl) ?_
        refine lv_iadd hx hb dX9_seekOrder_112 ?_
        refine lv_topi (fun x13 ex13 => ?_)
        refine lv_istore (lv' := [(6, .int x13), (9, .null), (8, .int x10), (0, .ref (b + 54)), (1, .ref (b + 1)), (2, .ref (b + 41)), (3, .int k), (4, .int y4), (5, .int y5), (7, .int y7)]) hx hb dX9_seekOrder_113 hl (by decide) rfl (fun ls hl => ?_)
        obtain ⟨x14, ex14⟩ : ∃ z : Int32, z = y7 + 1 := ⟨_, rfl⟩
        refine lv_iinc (v := x14) (lv' := [(7, .int x14), (6, .int x13), (9, .null), (8, .int x10), (0, .ref (b + 54)), (1, .ref (b + 1)), (2, .ref (b + 41)), (3, .int k), (4, .int y4), (5, .int y5)]) hx hb dX9_seekOrder_115 hl (k := 9) rfl (by rw [ex14]; rfl) (by decide) rfl (fun ls hl => ?_)
        have tx14 : x14.toInt = y7.toInt + 1 := m_addI ex14 (rfl : y7.toInt = _) (by decide : (1 : Int32).toInt = 1) (by omega) (by omega)
        refine lv_goto (tgt := 54) hx hb dX9_seekOrder_118 (by decide) ?_
        exact ih y4 y5 x13 x14 (by omega) (by omega) μ hI _ _ hW ls (lv_sub hl [4, 5, 6, 7, 8, 9, 1, 0] rfl)
      · obtain ⟨q11_m, q11⟩ := q11
        subst q11_m
        obtain ⟨n11, ra11, q11⟩ : ∃ n, n < 8 ∧ r11 = 7 + 2 * n := by
          rcases q11 with ⟨z, _⟩ | ⟨n, h, z⟩
          · cases z
          · exact ⟨n, h, Option.some.inj z⟩
        subst q11
        obtain ⟨rb11, rc11, rd11, re11, rf11, rg11, rh11⟩ := m_rows n11 ra11
        refine lv_astore (lv' := [(9, .ref (b + (7 + 2 * n11))), (8, .int x10), (0, .ref (b + 54)), (1, .ref (b + 1)), (2, .ref (b + 41)), (3, .int k), (4, .int y4), (5, .int y5), (6, .int y6), (7, .int y7)]) hx hb dX9_seekOrder_83 hl (by decide) rfl (fun ls hl => ?_)
        refine lv_aload hx hb dX9_seekOrder_85 (lv_at hl 0 rfl) ?_
        refine lv_ifnull hx hb dX9_seekOrder_87 ?_
        refine lv_aload_n hx hb dX9_seekOrder_90 rfl (lv_at hl 2 rfl) ?_
        refine m_getr hx hb hts hown hW (54) 3 (55) rfl rfl cw_9 rfl (by decide) k_X9_24 dX9_seekOrder_91 ?_
        refine lv_aload hx hb dX9_seekOrder_94 (lv_at hl 0 rfl) ?_
        refine lv_aload_n hx hb dX9_seekOrder_96 rfl (lv_at hl 2 rfl) ?_
        refine m_getr hx hb hts hown hW (54) 5 (59) rfl rfl cw_9 rfl (by decide) k_X9_40 dX9_seekOrder_97 ?_
        refine lv_aload_n hx hb dX9_seekOrder_100 rfl (lv_at hl 3 rfl) ?_
        refine m_aI hW (m_runV (As := [.ref (b + (7 + 2 * n11)), .ref (b + 59), .ref (b + 1)]) (rest := []) hx hb hml hown hts hW (55) (g_X6_perform_55 l D cy b S μ0 hS8 (7 + 2 * n11) (7 + 2 * n11 + 1) 800 rc11 rd11 (by decide) re11 rf11 μ hI) mi_X6_perform k_X9_69 rfl rfl rfl hl.1 rfl (Nat.le_of_ble_eq_true rfl) dX9_seekOrder_101 ⟨Nat.le_of_ble_eq_true rfl, Nat.le_of_ble_eq_true rfl⟩ ⟨Nat.le_of_ble_eq_true rfl, Nat.le_of_ble_eq_true rfl⟩) (fun x15 μ15 H locs q15 hW => ?_)
        obtain ⟨hI, q15⟩ := q15
        refine lv_pop hx hb dX9_seekOrder_104 rfl ?_
        refine lv_iload hx hb dX9_seekOrder_105 (lv_at hl 8 rfl) ?_
        refine lv_bipush (v := 10) hx hb dX9_seekOrder_107 (by decide) ?_
        refine lv_imul hx hb dX9_seekOrder_109 ?_
        refine lv_topi (fun x16 ex16 => ?_)
        refine lv_iload hx hb dX9_seekOrder_110 (lv_at hl 1 rfl) ?_
        refine lv_iadd hx hb dX9_seekOrder_112 ?_
        refine lv_topi (fun x17 ex17 => ?_)
        refine lv_istore (lv' := [(6, .int x17), (9, .ref (b + (7 + 2 * n11))), (8, .int x10), (0, .ref (b + 54)), (1, .ref (b + 1)), (2, .ref (b + 41)), (3, .int k), (4, .int y4), (5, .int y5), (7, .int y7)]) hx hb dX9_seekOrder_113 hl (by decide) rfl (fun ls hl => ?_)
        obtain ⟨x18, ex18⟩ : ∃ z : Int32, z = y7 + 1 := ⟨_, rfl⟩
        refine lv_iinc (v := x18) (lv' := [(7, .int x18), (6, .int x17), (9, .ref (b + (7 + 2 * n11))), (8, .int x10), (0, .ref (b + 54)), (1, .ref (b + 1)), (2, .ref (b + 41)), (3, .int k), (4, .int y4), (5, .int y5)]) hx hb dX9_seekOrder_115 hl (k := 9) rfl (by rw [ex18]; rfl) (by decide) rfl (fun ls hl => ?_)
        have tx18 : x18.toInt = y7.toInt + 1 := m_addI ex18 (rfl : y7.toInt = _) (by decide : (1 : Int32).toInt = 1) (by omega) (by omega)
        refine lv_goto (tgt := 54) hx hb dX9_seekOrder_118 (by decide) ?_
        exact ih y4 y5 x17 x18 (by omega) (by omega) μ15 hI _ _ hW ls (lv_sub hl [4, 5, 6, 7, 8, 9, 1, 0] rfl)
set_option maxHeartbeats 4000000 in
set_option maxRecDepth 100000 in
theorem L_X9_seekOrder_15 {p : Program} {l : Launch} {e : Env} {s : State} {m : MethodId} {args : Array Value} {below : List Frame} {meth : Method} {c : Code} {D : va_G} {cy : Nat → ClassId} {b : Nat} (hx : p.tables.exec = Jvm.exec) (hb : c.code = cX9_seekOrder) (hr : meth.sig.returnType = (none)) (hml : c.maxLocals = 10) (hown : s.vm.findClass RX9 = some m.cls) (hts : ∀ w ∈ TB, w.before args s = true) (hlocks : meth.locks = false) {oq oa ov : Nat} (hO : m_O (m_A b LAY) oq oa ov s s.heap) (S : Nat → Bool) (μ0 : mM) (hS8 : S 8 = true) (k : Int32) : ∀ (f : Nat), ∀ (y4 y5 : Int32) (hy : 0 ≤ y4.toInt ∧ y4.toInt ≤ 3 ∧ 0 ≤ y5.toInt ∧ y5.toInt ≤ 18) (hf : 18 - y5.toInt < (f : Int)) (μ : mM) (hI : IY S μ0 μ) (H : Heap) (locs : List Loc), m_WA (m_A b LAY) D cy s b LAY μ H locs → ∀ ls : Array Slot, lv_has ls 10 [(0, .ref (b + 54)), (1, .ref (b + 1)), (2, .ref (b + 41)), (3, .int k), (4, .int y4), (5, .int y5)] → W p l e (m_R 6 0 0) s m args below meth c H locs 0 0 (MQ below (m_Qv D cy b LAY (fun ν => IY S μ0 ν ∧ (True))) args s 0 0 (m_A b LAY)) (F0 m 15 ls []) := by
  intro f
  induction f with
  | zero => intro y4 y5 hy hf; exfalso; omega
  | succ f ih =>
    intro y4 y5 hy hf μ hI H locs hW ls hl
    refine lv_iload hx hb dX9_seekOrder_15 (lv_at hl 5 rfl) ?_
    refine lv_iconst (v := 3) hx hb dX9_seekOrder_17 (by decide) ?_
    refine lv_iadd hx hb dX9_seekOrder_18 ?_
    refine lv_topi (fun x1 ex1 => ?_)
    have tx1 : x1.toInt = y5.toInt + 3 := m_addI ex1 (rfl : y5.toInt = _) (by decide : (3 : Int32).toInt = 3) (by omega) (by omega)
    refine va_gets hx hb hO.z hW.2.2.1 hown (hts _ kf_X9_52) (fun _ h => h) dX9_seekOrder_19 ?_
    refine va_tlen hx hb hO.t hW.2.2.1 (v := 18) rfl dX9_seekOrder_22 ?_
    refine lv_icmp_gt (tgt := 152) hx hb dX9_seekOrder_23 (by decide) (fun c2 => ?_) (fun c2 => ?_)
    · have i2 := m_c1 (by decide : (18 : Int32).toInt = 18) (rfl : x1.toInt = _) c2
      exact m_vret hx hb hr hlocks hW (⟨hI, trivial⟩) dX9_seekOrder_152
    · have i2 := m_c2 (by decide : (18 : Int32).toInt = 18) (rfl : x1.toInt = _) c2
      refine lv_iload hx hb dX9_seekOrder_26 (lv_at hl 4 rfl) ?_
      refine lv_iload hx hb dX9_seekOrder_28 (lv_at hl 5 rfl) ?_
      refine m_aI hW (m_runSO (As := [.int y4, .int y5]) (rest := []) hx hb hml hown hts hW hO (g_X9_ordersJust l D cy b oq oa ov y4 y5 (by omega) (by omega) μ hI.1) ms_X9_ordersJust k_X9_55 rfl hl.1 rfl (Nat.le_of_ble_eq_true rfl) dX9_seekOrder_30 ⟨Nat.le_of_ble_eq_true rfl, Nat.le_of_ble_eq_true rfl⟩ ⟨Nat.le_of_ble_eq_true rfl, Nat.le_of_ble_eq_true rfl⟩) (fun x3 μ3 H locs q3 hW => ?_)
      obtain ⟨q3_m, q3⟩ := q3
      subst q3_m
      rcases q3 with ⟨rfl, q3⟩ | ⟨rfl, q3⟩
      · refine lv_if_ne (tgt := 39) hx hb dX9_seekOrder_33 (by decide) (fun _ => ?_) (fun c => False.elim (by revert c; decide))
        refine lv_aload_n hx hb dX9_seekOrder_39 rfl (lv_at hl 0 rfl) ?_
        refine m_getr hx hb hts hown hW (54) 5 (59) rfl rfl cw_9 rfl (by decide) k_X9_40 dX9_seekOrder_40 ?_
        refine lv_aload_n hx hb dX9_seekOrder_43 rfl (lv_at hl 2 rfl) ?_
        refine m_aV hW (m_runV (As := [.ref (b + 41)]) (rest := []) hx hb hml hown hts hW (59) (g_X3_copyFrom_59 l D cy b S μ0 hS8 μ hI) mi_X3_copyFrom k_X9_59 rfl rfl rfl hl.1 rfl (Nat.le_of_ble_eq_true rfl) dX9_seekOrder_44 ⟨Nat.le_of_ble_eq_true rfl, Nat.le_of_ble_eq_true rfl⟩ ⟨Nat.le_of_ble_eq_true rfl, Nat.le_of_ble_eq_true rfl⟩) (fun μ4 H locs q4 hW => ?_)
        obtain ⟨hI, q4⟩ := q4
        refine lv_bipush (v := 9) hx hb dX9_seekOrder_47 (by decide) ?_
        refine lv_istore (lv' := [(6, .int 9), (0, .ref (b + 54)), (1, .ref (b + 1)), (2, .ref (b + 41)), (3, .int k), (4, .int y4), (5, .int y5)]) hx hb dX9_seekOrder_49 hl (by decide) rfl (fun ls hl => ?_)
        refine lv_iconst (v := 0) hx hb dX9_seekOrder_51 (by decide) ?_
        refine lv_istore (lv' := [(7, .int 0), (6, .int 9), (0, .ref (b + 54)), (1, .ref (b + 1)), (2, .ref (b + 41)), (3, .int k), (4, .int y4), (5, .int y5)]) hx hb dX9_seekOrder_52 hl (by decide) rfl (fun ls hl => ?_)
        have l_9 : (9 : Int32).toInt = 9 := by decide
        have l_0 : (0 : Int32).toInt = 0 := by decide
        exact L_X9_seekOrder_54 hx hb hr hml hown hts hlocks hO S μ0 hS8 k f ih 4 y4 y5 9 0 (by omega) (by omega) μ4 hI _ _ hW ls (lv_sub hl [2, 3, 4, 5, 6, 7, 1, 0] rfl)
      · refine lv_if_ne (tgt := 39) hx hb dX9_seekOrder_33 (by decide) (fun c => False.elim (by revert c; decide)) (fun _ => ?_)
        refine lv_goto (tgt := 146) hx hb dX9_seekOrder_36 (by decide) ?_
        obtain ⟨x5, ex5⟩ : ∃ z : Int32, z = y5 + 3 := ⟨_, rfl⟩
        refine lv_iinc (v := x5) (lv' := [(5, .int x5), (0, .ref (b + 54)), (1, .ref (b + 1)), (2, .ref (b + 41)), (3, .int k), (4, .int y4)]) hx hb dX9_seekOrder_146 hl (k := 5) rfl (by rw [ex5]; rfl) (by decide) rfl (fun ls hl => ?_)
        have tx5 : x5.toInt = y5.toInt + 3 := m_addI ex5 (rfl : y5.toInt = _) (by decide : (3 : Int32).toInt = 3) (by omega) (by omega)
        refine lv_goto (tgt := 15) hx hb dX9_seekOrder_149 (by decide) ?_
        exact ih y4 x5 (by omega) (by omega) μ hI _ _ hW ls (lv_sub hl [1, 2, 3, 4, 5, 0] rfl)
set_option maxHeartbeats 4000000 in
set_option maxRecDepth 100000 in
theorem g_X9_seekOrder (l : Launch) (D : va_G) (cy : Nat → ClassId) (b oq oa ov : Nat) (S : Nat → Bool) (μ0 : mM) (hS8 : S 8 = true) (k : Int32) (μ : mM) (hI : IY S μ0 μ) : m_CvO l yX9_seekOrder cX9_seekOrder 10 (none) 6 D cy b oq oa ov μ [.ref (b + 54), .ref (b + 1), .ref (b + 41), .int k] (fun ν => IY S μ0 ν ∧ (True)) := by
  unfold m_CvO
  refine m_ofO (by decide) (Nat.le_of_ble_eq_true rfl) ?_
  intro p e s m below meth c hx hb hr hml hown hts hlocks _ hW hO ls hl
  have hown : s.vm.findClass RX9 = some m.cls := hown
  have hl : lv_has ls 10 [(0, .ref (b + 54)), (1, .ref (b + 1)), (2, .ref (b + 41)), (3, .int k)] := hl
  refine lv_aload_n hx hb dX9_seekOrder_0 rfl (lv_at hl 0 rfl) ?_
  refine lv_iload_n hx hb dX9_seekOrder_1 rfl (lv_at hl 3 rfl) ?_
  refine m_aI hW (m_runV (As := [.int k]) (rest := []) hx hb hml hown hts hW (54) (g_X9_choose l D cy b S μ0 hS8 k μ hI) mi_X9_choose k_X9_48 rfl rfl rfl hl.1 rfl (Nat.le_of_ble_eq_true rfl) dX9_seekOrder_2 ⟨Nat.le_of_ble_eq_true rfl, Nat.le_of_ble_eq_true rfl⟩ ⟨Nat.le_of_ble_eq_true rfl, Nat.le_of_ble_eq_true rfl⟩) (fun x1 μ1 H locs q1 hW => ?_)
  obtain ⟨hI, q1⟩ := q1
  refine lv_istore (lv' := [(4, .int x1), (0, .ref (b + 54)), (1, .ref (b + 1)), (2, .ref (b + 41)), (3, .int k)]) hx hb dX9_seekOrder_5 hl (by decide) rfl (fun ls hl => ?_)
  refine lv_aload_n hx hb dX9_seekOrder_7 rfl (lv_at hl 1 rfl) ?_
  refine lv_iconst (v := (-1)) hx hb dX9_seekOrder_8 (by decide) ?_
  refine m_puti hx hb hts hown hW (54) 2 rfl rfl cw_9 tyX9_ok nmX9 rfl (by decide) k_X9_18 rfl rfl rfl dX9_seekOrder_9 (fun H locs hW _ => ?_)
  generalize hμ2 : m_si μ1 (54) 2 (-1) = μ2 at hW
  have hI := hI.si0 hμ2 rfl hS8
  refine lv_iconst (v := 0) hx hb dX9_seekOrder_12 (by decide) ?_
  refine lv_istore (lv' := [(5, .int 0), (4, .int x1), (0, .ref (b + 54)), (1, .ref (b + 1)), (2, .ref (b + 41)), (3, .int k)]) hx hb dX9_seekOrder_13 hl (by decide) rfl (fun ls hl => ?_)
  have l_0 : (0 : Int32).toInt = 0 := by decide
  exact L_X9_seekOrder_15 hx hb hr hml hown hts hlocks hO S μ0 hS8 k  19 x1 0 (by omega) (by omega) μ2 hI _ _ hW ls (lv_sub hl [2, 3, 4, 5, 1, 0] rfl)
set_option maxHeartbeats 4000000 in
set_option maxRecDepth 100000 in
theorem g_X11_order (l : Launch) (D : va_G) (cy : Nat → ClassId) (b oq oa ov : Nat) (S : Nat → Bool) (μ0 : mM) (hS8 : S 8 = true) (k u : Int32) (μ : mM) (hI : IY S μ0 μ) : m_CiO l yX11_order cX11_order 4 ((some .int)) 7 D cy b oq oa ov μ [.ref (b + 0), .int k, .int u] (fun r ν => IY S μ0 ν ∧ (True)) := by
  unfold m_CiO
  refine m_ofO (by decide) (Nat.le_of_ble_eq_true rfl) ?_
  intro p e s m below meth c hx hb hr hml hown hts hlocks _ hW hO ls hl
  have hown : s.vm.findClass RX11 = some m.cls := hown
  have hl : lv_has ls 4 [(0, .ref (b + 0)), (1, .int k), (2, .int u)] := hl
  refine lv_iload_n hx hb dX11_order_0 rfl (lv_at hl 1 rfl) ?_
  refine lv_iconst (v := 1) hx hb dX11_order_1 (by decide) ?_
  refine lv_sipush (v := 255) hx hb dX11_order_2 (by decide) ?_
  have l_1 : (1 : Int32).toInt = 1 := by decide
  have l_255 : (255 : Int32).toInt = 255 := by decide
  refine m_aI hW (m_runS (As := [.int k, .int 1, .int 255]) (rest := []) hx hb hml hown hts hW (g_X11_within l D cy b k 1 255 μ hI.1) ms_X11_within k_X11_81 rfl hl.1 rfl (Nat.le_of_ble_eq_true rfl) dX11_order_5 ⟨Nat.le_of_ble_eq_true rfl, Nat.le_of_ble_eq_true rfl⟩ ⟨Nat.le_of_ble_eq_true rfl, Nat.le_of_ble_eq_true rfl⟩) (fun x1 μ1 H locs q1 hW => ?_)
  obtain ⟨q1_m, q1⟩ := q1
  subst q1_m
  rcases q1 with ⟨rfl, q1⟩ | ⟨rfl, q1⟩
  · refine lv_if_eq (tgt := 23) hx hb dX11_order_8 (by decide) (fun c => False.elim (by revert c; decide)) (fun _ => ?_)
    refine lv_iload_n hx hb dX11_order_11 rfl (lv_at hl 1 rfl) ?_
    refine m_aI hW (m_runS (As := [.int k]) (rest := []) hx hb hml hown hts hW (g_J6_bitCount_0f7a4 l D cy b k μ hI.1) ms_J6_bitCount_0f7a4 k_X11_225 rfl hl.1 rfl (Nat.le_of_ble_eq_true rfl) dX11_order_12 ⟨Nat.le_of_ble_eq_true rfl, Nat.le_of_ble_eq_true rfl⟩ ⟨Nat.le_of_ble_eq_true rfl, Nat.le_of_ble_eq_true rfl⟩) (fun x2 μ2 H locs q2 hW => ?_)
    obtain ⟨q2_m, q2⟩ := q2
    subst q2_m
    refine lv_iconst (v := 3) hx hb dX11_order_15 (by decide) ?_
    refine lv_icmp_gt (tgt := 23) hx hb dX11_order_16 (by decide) (fun c3 => ?_) (fun c3 => ?_)
    · have i3 := m_c1 (by decide : (3 : Int32).toInt = 3) (rfl : x2.toInt = _) c3
      refine lv_iconst (v := 0) hx hb dX11_order_23 (by decide) ?_
      refine lv_istore_n (lv' := [(3, .int 0), (0, .ref (b + 0)), (1, .int k), (2, .int u)]) hx hb dX11_order_24 rfl hl (by decide) rfl (fun ls hl => ?_)
      refine lv_iload_n hx hb dX11_order_25 rfl (lv_at hl 0 rfl) ?_
      refine lv_if_eq (tgt := 48) hx hb dX11_order_26 (by decide) (fun _ => ?_) (fun c => False.elim (by revert c; decide))
      refine lv_iconst (v := (-1)) hx hb dX11_order_48 (by decide) ?_
      exact m_iret hx hb hr hlocks hW rfl (⟨hI, trivial⟩) dX11_order_49
    · have i3 := m_c2 (by decide : (3 : Int32).toInt = 3) (rfl : x2.toInt = _) c3
      refine lv_iconst (v := 1) hx hb dX11_order_19 (by decide) ?_
      refine lv_goto (tgt := 24) hx hb dX11_order_20 (by decide) ?_
      refine lv_istore_n (lv' := [(3, .int 1), (0, .ref (b + 0)), (1, .int k), (2, .int u)]) hx hb dX11_order_24 rfl hl (by decide) rfl (fun ls hl => ?_)
      refine lv_iload_n hx hb dX11_order_25 rfl (lv_at hl 0 rfl) ?_
      refine lv_if_eq (tgt := 48) hx hb dX11_order_26 (by decide) (fun c => False.elim (by revert c; decide)) (fun _ => ?_)
      refine lv_aload_n hx hb dX11_order_29 rfl (lv_at hl 1 rfl) ?_
      refine m_getr hx hb hts hown hW (0) 4 (41) rfl rfl cw_11 rfl (by decide) k_X11_38 dX11_order_30 ?_
      refine m_aI hW (m_runV (As := []) (rest := []) hx hb hml hown hts hW (41) (g_X3_isLaid_41 l D cy b μ hI.1) mi_X3_isLaid k_X11_124 rfl rfl rfl hl.1 rfl (Nat.le_of_ble_eq_true rfl) dX11_order_33 ⟨Nat.le_of_ble_eq_true rfl, Nat.le_of_ble_eq_true rfl⟩ ⟨Nat.le_of_ble_eq_true rfl, Nat.le_of_ble_eq_true rfl⟩) (fun x4 μ4 H locs q4 hW => ?_)
      obtain ⟨q4_m, q4⟩ := q4
      subst q4_m
      rcases q4 with ⟨rfl, q4⟩ | ⟨rfl, q4⟩
      · refine lv_if_eq (tgt := 48) hx hb dX11_order_36 (by decide) (fun c => False.elim (by revert c; decide)) (fun _ => ?_)
        refine lv_iload_n hx hb dX11_order_39 rfl (lv_at hl 3 rfl) ?_
        refine lv_iconst (v := 0) hx hb dX11_order_40 (by decide) ?_
        refine lv_iconst (v := 2) hx hb dX11_order_41 (by decide) ?_
        have l_0 : (0 : Int32).toInt = 0 := by decide
        have l_2 : (2 : Int32).toInt = 2 := by decide
        refine m_aI hW (m_runS (As := [.int u, .int 0, .int 2]) (rest := []) hx hb hml hown hts hW (g_X11_within l D cy b u 0 2 μ hI.1) ms_X11_within k_X11_81 rfl hl.1 rfl (Nat.le_of_ble_eq_true rfl) dX11_order_42 ⟨Nat.le_of_ble_eq_true rfl, Nat.le_of_ble_eq_true rfl⟩ ⟨Nat.le_of_ble_eq_true rfl, Nat.le_of_ble_eq_true rfl⟩) (fun x5 μ5 H locs q5 hW => ?_)
        obtain ⟨q5_m, q5⟩ := q5
        subst q5_m
        rcases q5 with ⟨rfl, q5⟩ | ⟨rfl, q5⟩
        · refine lv_if_ne (tgt := 50) hx hb dX11_order_45 (by decide) (fun _ => ?_) (fun c => False.elim (by revert c; decide))
          refine lv_aload_n hx hb dX11_order_50 rfl (lv_at hl 1 rfl) ?_
          refine m_getr hx hb hts hown hW (0) 6 (54) rfl rfl cw_11 rfl (by decide) k_X11_52 dX11_order_51 ?_
          refine lv_aload_n hx hb dX11_order_54 rfl (lv_at hl 1 rfl) ?_
          refine m_getr hx hb hts hown hW (0) 0 (1) rfl rfl cw_11 rfl (by decide) k_X11_10 dX11_order_55 ?_
          refine lv_aload_n hx hb dX11_order_58 rfl (lv_at hl 1 rfl) ?_
          refine m_getr hx hb hts hown hW (0) 4 (41) rfl rfl cw_11 rfl (by decide) k_X11_38 dX11_order_59 ?_
          refine lv_iload_n hx hb dX11_order_62 rfl (lv_at hl 2 rfl) ?_
          refine m_aV hW (m_runVO (As := [.ref (b + 1), .ref (b + 41), .int k]) (rest := []) hx hb hml hown hts hW hO (54) (g_X9_seekOrder l D cy b oq oa ov S μ0 hS8 k μ hI) mi_X9_seekOrder k_X11_230 rfl rfl rfl hl.1 rfl (Nat.le_of_ble_eq_true rfl) dX11_order_63 ⟨Nat.le_of_ble_eq_true rfl, Nat.le_of_ble_eq_true rfl⟩ ⟨Nat.le_of_ble_eq_true rfl, Nat.le_of_ble_eq_true rfl⟩) (fun μ6 H locs q6 hW => ?_)
          obtain ⟨hI, q6⟩ := q6
          refine lv_iload_n hx hb dX11_order_66 rfl (lv_at hl 3 rfl) ?_
          by_cases c7_0 : u.toInt = 0
          · refine lv_lookup (off := 25) (tgt := 92) hx hb dX11_order_67 (by decide) (by rw [c7_0]; rfl) (by decide) ?_
            refine lv_aload_n hx hb dX11_order_92 rfl (lv_at hl 1 rfl) ?_
            refine m_getr hx hb hts hown hW (0) 6 (54) rfl rfl cw_11 rfl (by decide) k_X11_52 dX11_order_93 ?_
            refine m_geti hx hb hts hown hW (54) 0 rfl rfl cw_9 rfl (by decide) k_X11_234 dX11_order_96 ?_
            refine lv_topi (fun x8 ex8 => ?_)
            exact m_iret hx hb hr hlocks hW rfl (⟨hI, trivial⟩) dX11_order_99
          by_cases c7_1 : u.toInt = 1
          · refine lv_lookup (off := 33) (tgt := 100) hx hb dX11_order_67 (by decide) (by rw [c7_1]; rfl) (by decide) ?_
            refine lv_aload_n hx hb dX11_order_100 rfl (lv_at hl 1 rfl) ?_
            refine m_getr hx hb hts hown hW (0) 6 (54) rfl rfl cw_11 rfl (by decide) k_X11_52 dX11_order_101 ?_
            refine m_geti hx hb hts hown hW (54) 1 rfl rfl cw_9 rfl (by decide) k_X11_237 dX11_order_104 ?_
            refine lv_topi (fun x9 ex9 => ?_)
            exact m_iret hx hb hr hlocks hW rfl (⟨hI, trivial⟩) dX11_order_107
          refine lv_lookup (off := 41) (tgt := 108) hx hb dX11_order_67 (by decide) (by simp [Op.lookupswitch.offset_cons, Op.lookupswitch.offset_nil, Ne.symm c7_0, Ne.symm c7_1]) (by decide) ?_
          refine lv_aload_n hx hb dX11_order_108 rfl (lv_at hl 1 rfl) ?_
          refine m_getr hx hb hts hown hW (0) 6 (54) rfl rfl cw_11 rfl (by decide) k_X11_52 dX11_order_109 ?_
          refine m_geti hx hb hts hown hW (54) 2 rfl rfl cw_9 rfl (by decide) k_X11_240 dX11_order_112 ?_
          refine lv_topi (fun x10 ex10 => ?_)
          exact m_iret hx hb hr hlocks hW rfl (⟨hI, trivial⟩) dX11_order_115
        · refine lv_if_ne (tgt := 50) hx hb dX11_order_45 (by decide) (fun c => False.elim (by revert c; decide)) (fun _ => ?_)
          refine lv_iconst (v := (-1)) hx hb dX11_order_48 (by decide) ?_
          exact m_iret hx hb hr hlocks hW rfl (⟨hI, trivial⟩) dX11_order_49
      · refine lv_if_eq (tgt := 48) hx hb dX11_order_36 (by decide) (fun _ => ?_) (fun c => False.elim (by revert c; decide))
        refine lv_iconst (v := (-1)) hx hb dX11_order_48 (by decide) ?_
        exact m_iret hx hb hr hlocks hW rfl (⟨hI, trivial⟩) dX11_order_49
  · refine lv_if_eq (tgt := 23) hx hb dX11_order_8 (by decide) (fun _ => ?_) (fun c => False.elim (by revert c; decide))
    refine lv_iconst (v := 0) hx hb dX11_order_23 (by decide) ?_
    refine lv_istore_n (lv' := [(3, .int 0), (0, .ref (b + 0)), (1, .int k), (2, .int u)]) hx hb dX11_order_24 rfl hl (by decide) rfl (fun ls hl => ?_)
    refine lv_iload_n hx hb dX11_order_25 rfl (lv_at hl 0 rfl) ?_
    refine lv_if_eq (tgt := 48) hx hb dX11_order_26 (by decide) (fun _ => ?_) (fun c => False.elim (by revert c; decide))
    refine lv_iconst (v := (-1)) hx hb dX11_order_48 (by decide) ?_
    exact m_iret hx hb hr hlocks hW rfl (⟨hI, trivial⟩) dX11_order_49
