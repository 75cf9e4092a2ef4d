def Fend (k : Int32) : Int32 := if 0 ≤ k.toInt ∧ k.toInt ≤ 0 then 1 else 0
def Fway (k : Int32) : Int32 := if 0 ≤ k.toInt ∧ k.toInt ≤ 7 then 1 else 0
def Ffault (k : Int32) : Int32 := if k.toInt = 0 then 0 else -1
def Flook (k : Int32) : Int32 := if 0 ≤ k.toInt ∧ k.toInt ≤ 13 then 0 else -1
def Fheat (k : Int32) : Int64 := if 0 ≤ k.toInt ∧ k.toInt ≤ 3 then 0 else -1
def Fkind (k u v : Int32) : Int32 := if 1 ≤ k.toInt ∧ k.toInt ≤ 40 ∧ 1 ≤ u.toInt ∧ u.toInt ≤ 40 ∧ 0 ≤ v.toInt ∧ v.toInt ≤ 999 then 0 else -1
def Ffill (k u : Int32) : Int32 := if 0 ≤ k.toInt ∧ k.toInt ≤ 40 ∧ 0 ≤ u.toInt ∧ u.toInt ≤ 40 then 0 else -1
def Ftest (k u w : Int32) : Int32 := if 0 ≤ k.toInt ∧ k.toInt ≤ 3 ∧ 1 ≤ u.toInt ∧ u.toInt ≤ 9999 ∧ 0 ≤ w.toInt ∧ w.toInt ≤ 999 then 1 else 0
def Fknown (k u v : Int32) : Int32 := if 0 ≤ k.toInt ∧ k.toInt ≤ 3 ∧ 0 ≤ u.toInt ∧ u.toInt ≤ 999 then (if v.toInt = 0 then 1 else if v.toInt = 1 then 999 else if v.toInt = 2 then 0 else if v.toInt = 3 then 500 else -1) else -1
def Fat (μ : mM) (k k1 : Nat) (v : Int32) : Int32 := if v < 0 ∨ μ.1 k 1 ≤ v then -1 else μ.1 k1 v.toNatClampNeg
section MR4
variable {p : Program} {l : Launch} {e : Env} {R : Room} {s : State} {m : MethodId} {args : Array Value} {below : List Frame} {meth : Method} {c : Code} {H : Heap} {locs : List Loc} {cells slots : Nat} {Q : State → Prop}
variable {cc : ByteArray} {pc : Nat} {ls : Array Slot} {rest : List Value} {D : va_G} {cy : Nat → ClassId} {b : Nat} {lay : List mL} {μ : mM} {A : Nat → Prop}
/-- the memory behind an arraycopy of ints -/
def m_cp (μ : mM) (q0 q1 sp dp n : Nat) : mM := (fun a i => if a = q1 then va_cpy (μ.1 q0) (μ.1 q1) sp dp n i else μ.1 a i, μ.2)
theorem m_copy {own : String} {index : Nat} (hx : p.tables.exec = Jvm.exec) (hb : c.code = cc) (hml : c.maxLocals = ls.size) (hts : ∀ w ∈ TB, w.before args s = true) (hown : s.vm.findClass own = some m.cls) (hlink : Cond.methodLink own index arraycopyName ∈ TB) (hW : m_WA A D cy s b lay μ H locs) (q0 q1 : Nat) {n0 n1 : Nat} {r0 r1 : List Nat} (h0 : lay[q0]? = some (.inr (0, n0, r0))) (h1 : lay[q1]? = some (.inr (0, n1, r1))) {sp dp n : Int32} (g1 : ¬ sp < 0) (g2 : ¬ dp < 0) (g3 : ¬ n < 0) (g4 : sp.toNatClampNeg + n.toNatClampNeg ≤ n0) (g5 : dp.toNatClampNeg + n.toNatClampNeg ≤ n1) (hframes : 1 ≤ R.frames) (hlocals : (rest.map fun v => v.category).sum + (nativeFrameWords "java/lang/System" "arraycopy" 5 + 11) ≤ R.locals) (hdg : decode cc pc = .ok (.invokestatic index, 3))
    (kk : ∀ (H1 : Heap) (locs1 : List Loc), m_WA A D cy s b lay (m_cp μ q0 q1 sp.toNatClampNeg dp.toNatClampNeg n.toNatClampNeg) H1 locs1 → W p l e R s m args below meth c H1 locs1 cells slots Q (F0 m (pc + 3) ls rest)) : W p l e R s m args below meth c H locs cells slots Q (F0 m pc ls (.int n :: .int dp :: .ref (b + q1) :: .int sp :: .ref (b + q0) :: rest)) := by
  have hD : va_D A (m_w cy b lay μ) := ⟨(m_D (cy := cy) (b := b) (lay := lay) (μ := μ)).1, fun k q hk => by
    obtain ⟨x, hx1, rfl⟩ := m_w_get hk
    exact hW.2.2.2 k (List.getElem?_eq_some_iff.mp hx1).1⟩
  refine va_copyi hx hb hml hown (hts _ hlink) (hts _ kS_t) (hts _ kS_s) (hts _ kS_n) hW.1.1 hW.2.1 hD hW.2.2.1 q0 q1 0 0 (ty := .int) (m_w_at h0) (m_w_at h1) rfl rfl rfl g1 g2 g3 g4 g5 (fun i _ => rfl) hframes hlocals hdg fun H1 locs1 hP hD' hS => ?_
  rw [m_w_set (lay' := lay) (μ := μ) (ν := m_cp μ q0 q1 sp.toNatClampNeg dp.toNatClampNeg n.toNatClampNeg) (x' := .inr (0, n1, r1)) h1 (fun _ _ => rfl) h1 (by
    show (Sum.inl _ : va_E) = Sum.inl _
    congr 4
    funext i
    simp [m_cp]) (fun i hi => ⟨fun j' => by simp [m_cp, hi], fun _ => rfl⟩)] at hP
  exact kk H1 locs1 ⟨hW.1, hP, hS, hW.2.2.2⟩
end MR4
theorem m_rows : ∀ n, n < 8 → [7, 9, 11, 13, 15, 17, 19, 21][n]? = some (7 + 2 * n) ∧ LX[7 + 2 * n]? = some (.inl (5, [7 + 2 * n + 1 + 3, 0])) ∧ LX[7 + 2 * n + 1]? = some (.inr (0, 800, [])) := by
  intro n hn
  match n, hn with
  | 0, _ => exact ⟨rfl, rfl, rfl⟩
  | 1, _ => exact ⟨rfl, rfl, rfl⟩
  | 2, _ => exact ⟨rfl, rfl, rfl⟩
  | 3, _ => exact ⟨rfl, rfl, rfl⟩
  | 4, _ => exact ⟨rfl, rfl, rfl⟩
  | 5, _ => exact ⟨rfl, rfl, rfl⟩
  | 6, _ => exact ⟨rfl, rfl, rfl⟩
  | 7, _ => exact ⟨rfl, rfl, rfl⟩
  | k + 8, h => exact absurd h (by omega)
theorem m_nat {v : Int32} (h0 : 0 ≤ v.toInt) (h7 : v.toInt ≤ 7) : v.toNatClampNeg < 8 := by
  show v.toInt.toNat < 8
  omega
theorem dX4_innermost_0 : decode cX4_innermost 0 = .ok (.aload_n 0, 1) := by decide +kernel
theorem dX4_innermost_1 : decode cX4_innermost 1 = .ok (.getfield 40, 3) := by decide +kernel
theorem dX4_innermost_4 : decode cX4_innermost 4 = .ok (.aload_n 0, 1) := by decide +kernel
theorem dX4_innermost_5 : decode cX4_innermost 5 = .ok (.getfield 40, 3) := by decide +kernel
theorem dX4_innermost_8 : decode cX4_innermost 8 = .ok (.getfield 50, 3) := by decide +kernel
theorem dX4_innermost_11 : decode cX4_innermost 11 = .ok (.iconst 1, 1) := by decide +kernel
theorem dX4_innermost_12 : decode cX4_innermost 12 = .ok (.isub, 1) := by decide +kernel
theorem dX4_innermost_13 : decode cX4_innermost 13 = .ok (.invokevirtual 56, 3) := by decide +kernel
theorem dX4_innermost_16 : decode cX4_innermost 16 = .ok (.ireturn, 1) := by decide +kernel
theorem m_min0 {n : Nat} (hn : n < 2 ^ 30) : (if nI n < (0 : Int32) then nI n else 0) = 0 := if_neg (nI_pos (by omega))
set_option maxHeartbeats 4000000 in
set_option maxRecDepth 100000 in
theorem c_X5_add (l : Launch) (D : va_G) (cy : Nat → ClassId) (b : Nat) (μ : mM) (k k1 n : Nat) (hk : LX[k]? = some (.inl (5, [k1 + 3, 0]))) (hk1 : LX[k1]? = some (.inr (0, n, []))) (hne : k ≠ k1) (hn : n < 2 ^ 30) (t : Nat) (hs : μ.1 k 1 = nI t) (ht : t < n) (v : Int32) : m_Cv l yX5_add cX5_add 2 (none) 0 D cy b LX μ [.ref (b + k), .int v] (fun ν => ν = m_si (m_si μ k1 t v) k 1 (nI (t + 1))) := by
  unfold m_Cv
  refine m_of (by decide) (Nat.le_of_ble_eq_true rfl) ?_
  intro p e s m below meth c hx hb hr hml hown hts hlocks _ hW ls hl
  have hown : s.vm.findClass RX5 = some m.cls := hown
  have hl : lv_has ls 2 [(0, .ref (b + k)), (1, .int v)] := hl
  refine lv_aload_n hx hb dX5_add_0 rfl (lv_at hl 0 rfl) ?_
  refine m_geti hx hb hts hown hW (k) 1 hk rfl cw_5 rfl (by decide) k_X5_9 dX5_add_1 ?_
  refine lv_topi (fun x1 ex1 => ?_)
  have ex1 : x1 = (nI t) := by rw [ex1]; exact hs
  subst ex1
  refine lv_aload_n hx hb dX5_add_4 rfl (lv_at hl 0 rfl) ?_
  refine m_getr hx hb hts hown hW (k) 0 (k1) hk rfl cw_5 rfl (by decide) k_X5_21 dX5_add_5 ?_
  refine m_alen hx hb hW (k1) hk1 dX5_add_8 ?_
  refine lv_topi (fun x2 ex2 => ?_)
  have ex2 : x2 = (nI n) := ex2
  subst ex2
  refine lv_icmp_ge (tgt := 32) hx hb dX5_add_9 (by decide) (fun c => absurd c (nI_ge ht (by omega))) (fun c3 => ?_)
  refine lv_aload_n hx hb dX5_add_12 rfl (lv_at hl 0 rfl) ?_
  refine m_getr hx hb hts hown hW (k) 0 (k1) hk rfl cw_5 rfl (by decide) k_X5_21 dX5_add_13 ?_
  refine lv_aload_n hx hb dX5_add_16 rfl (lv_at hl 0 rfl) ?_
  refine m_geti hx hb hts hown hW (k) 1 hk rfl cw_5 rfl (by decide) k_X5_9 dX5_add_17 ?_
  refine lv_topi (fun x4 ex4 => ?_)
  have ex4 : x4 = (nI t) := by rw [ex4]; exact hs
  subst ex4
  refine lv_iload_n hx hb dX5_add_20 rfl (lv_at hl 1 rfl) ?_
  refine m_iast hx hb hW (k1) hk1 (vp_in_nI ht (by omega)) dX5_add_21 (fun H locs hW _ => ?_)
  generalize hμ5 : m_si μ (k1) ((nI t) : Int32).toNatClampNeg v = μ5 at hW
  refine lv_aload_n hx hb dX5_add_22 rfl (lv_at hl 0 rfl) ?_
  refine lv_dup hx hb dX5_add_23 rfl ?_
  refine m_geti hx hb hts hown hW (k) 1 hk rfl cw_5 rfl (by decide) k_X5_9 dX5_add_24 ?_
  refine lv_topi (fun x6 ex6 => ?_)
  have ex6 : x6 = (nI t) := by rw [ex6]; exact (by rw [← hμ5]; exact (if_neg (fun h => hne h.1)).trans hs)
  subst ex6
  refine lv_iconst (v := 1) hx hb dX5_add_27 (by decide) ?_
  refine lv_iadd hx hb dX5_add_28 ?_
  refine lv_topi (fun x7 ex7 => ?_)
  refine m_puti hx hb hts hown hW (k) 1 hk rfl cw_5 tyX5_ok nmX5 rfl (by decide) k_X5_9 rfl rfl rfl dX5_add_29 (fun H locs hW _ => ?_)
  generalize hμ8 : m_si μ5 (k) 1 x7 = μ8 at hW
  exact m_vret hx hb hr hlocks hW (by rw [← hμ8, ← hμ5, ex7, nI_1, nI_clamp (show t < 2 ^ 31 by omega)]) dX5_add_32
set_option maxHeartbeats 4000000 in
set_option maxRecDepth 100000 in
theorem c_X5_addBytes (l : Launch) (D : va_G) (cy : Nat → ClassId) (b : Nat) (μ : mM) (k k1 n : Nat) (hk : LX[k]? = some (.inl (5, [k1 + 3, 0]))) (hk1 : LX[k1]? = some (.inr (0, n, []))) (hne : k ≠ k1) (hn : n < 2 ^ 30) (t : Nat) (hs : μ.1 k 1 = nI t) (ht : t + 4 ≤ n) (v : Int32) : m_Cv l yX5_addBytes cX5_addBytes 3 (none) 1 D cy b LX μ [.ref (b + k), .int v] (fun ν => ν.1 k 1 = nI (t + 4)) := by
  unfold m_Cv
  refine m_of (by decide) (Nat.le_of_ble_eq_true rfl) ?_
  intro p e s m below meth c hx hb hr hml hown hts hlocks _ hW ls hl
  have hown : s.vm.findClass RX5 = some m.cls := hown
  have hl : lv_has ls 3 [(0, .ref (b + k)), (1, .int v)] := hl
  refine lv_bipush (v := 24) hx hb dX5_addBytes_0 (by decide) ?_
  refine lv_istore_n (lv' := [(2, .int 24), (0, .ref (b + k)), (1, .int v)]) hx hb dX5_addBytes_2 rfl hl (by decide) rfl (fun ls hl => ?_)
  refine lv_iload_n hx hb dX5_addBytes_3 rfl (lv_at hl 0 rfl) ?_
  refine lv_if_lt (tgt := 24) hx hb dX5_addBytes_4 (by decide) (fun c => False.elim (by revert c; decide)) (fun _ => ?_)
  refine lv_aload_n hx hb dX5_addBytes_7 rfl (lv_at hl 1 rfl) ?_
  refine lv_iload_n hx hb dX5_addBytes_8 rfl (lv_at hl 2 rfl) ?_
  refine lv_iload_n hx hb dX5_addBytes_9 rfl (lv_at hl 0 rfl) ?_
  refine lv_iushr hx hb dX5_addBytes_10 rfl ?_
  refine lv_topi (fun x1 ex1 => ?_)
  refine lv_sipush (v := 255) hx hb dX5_addBytes_11 (by decide) ?_
  refine lv_iand hx hb dX5_addBytes_14 ?_
  refine lv_topi (fun x2 ex2 => ?_)
  refine m_aV hW (m_runV (As := [.int x2]) (rest := []) hx hb hml hown hts hW (k) (c_X5_add l D cy b μ k k1 n hk hk1 hne hn (t + 0) hs (by omega) x2) mi_X5_add k_X5_25 hk rfl rfl hl.1 rfl (Nat.le_of_ble_eq_true rfl) dX5_addBytes_15 ⟨Nat.le_of_ble_eq_true rfl, Nat.le_of_ble_eq_true rfl⟩ ⟨Nat.le_of_ble_eq_true rfl, Nat.le_of_ble_eq_true rfl⟩) (fun μ3 H locs q3 hW => ?_)
  refine lv_iinc (v := 16) (lv' := [(2, .int 16), (0, .ref (b + k)), (1, .int v)]) hx hb dX5_addBytes_18 hl (k := 0) rfl (by decide) (by decide) rfl (fun ls hl => ?_)
  refine lv_goto (tgt := 3) hx hb dX5_addBytes_21 (by decide) ?_
  refine lv_iload_n hx hb dX5_addBytes_3 rfl (lv_at hl 0 rfl) ?_
  refine lv_if_lt (tgt := 24) hx hb dX5_addBytes_4 (by decide) (fun c => False.elim (by revert c; decide)) (fun _ => ?_)
  refine lv_aload_n hx hb dX5_addBytes_7 rfl (lv_at hl 1 rfl) ?_
  refine lv_iload_n hx hb dX5_addBytes_8 rfl (lv_at hl 2 rfl) ?_
  refine lv_iload_n hx hb dX5_addBytes_9 rfl (lv_at hl 0 rfl) ?_
  refine lv_iushr hx hb dX5_addBytes_10 rfl ?_
  refine lv_topi (fun x4 ex4 => ?_)
  refine lv_sipush (v := 255) hx hb dX5_addBytes_11 (by decide) ?_
  refine lv_iand hx hb dX5_addBytes_14 ?_
  refine lv_topi (fun x5 ex5 => ?_)
  refine m_aV hW (m_runV (As := [.int x5]) (rest := []) hx hb hml hown hts hW (k) (c_X5_add l D cy b μ3 k k1 n hk hk1 hne hn (t + 1) (by rw [q3]; exact if_pos ⟨rfl, rfl⟩) (by omega) x5) mi_X5_add k_X5_25 hk rfl rfl hl.1 rfl (Nat.le_of_ble_eq_true rfl) dX5_addBytes_15 ⟨Nat.le_of_ble_eq_true rfl, Nat.le_of_ble_eq_true rfl⟩ ⟨Nat.le_of_ble_eq_true rfl, Nat.le_of_ble_eq_true rfl⟩) (fun μ6 H locs q6 hW => ?_)
  refine lv_iinc (v := 8) (lv' := [(2, .int 8), (0, .ref (b + k)), (1, .int v)]) hx hb dX5_addBytes_18 hl (k := 0) rfl (by decide) (by decide) rfl (fun ls hl => ?_)
  refine lv_goto (tgt := 3) hx hb dX5_addBytes_21 (by decide) ?_
  refine lv_iload_n hx hb dX5_addBytes_3 rfl (lv_at hl 0 rfl) ?_
  refine lv_if_lt (tgt := 24) hx hb dX5_addBytes_4 (by decide) (fun c => False.elim (by revert c; decide)) (fun _ => ?_)
  refine lv_aload_n hx hb dX5_addBytes_7 rfl (lv_at hl 1 rfl) ?_
  refine lv_iload_n hx hb dX5_addBytes_8 rfl (lv_at hl 2 rfl) ?_
  refine lv_iload_n hx hb dX5_addBytes_9 rfl (lv_at hl 0 rfl) ?_
  refine lv_iushr hx hb dX5_addBytes_10 rfl ?_
  refine lv_topi (fun x7 ex7 => ?_)
  refine lv_sipush (v := 255) hx hb dX5_addBytes_11 (by decide) ?_
  refine lv_iand hx hb dX5_addBytes_14 ?_
  refine lv_topi (fun x8 ex8 => ?_)
  refine m_aV hW (m_runV (As := [.int x8]) (rest := []) hx hb hml hown hts hW (k) (c_X5_add l D cy b μ6 k k1 n hk hk1 hne hn (t + 2) (by rw [q6]; exact if_pos ⟨rfl, rfl⟩) (by omega) x8) mi_X5_add k_X5_25 hk rfl rfl hl.1 rfl (Nat.le_of_ble_eq_true rfl) dX5_addBytes_15 ⟨Nat.le_of_ble_eq_true rfl, Nat.le_of_ble_eq_true rfl⟩ ⟨Nat.le_of_ble_eq_true rfl, Nat.le_of_ble_eq_true rfl⟩) (fun μ9 H locs q9 hW => ?_)
  refine lv_iinc (v := 0) (lv' := [(2, .int 0), (0, .ref (b + k)), (1, .int v)]) hx hb dX5_addBytes_18 hl (k := 0) rfl (by decide) (by decide) rfl (fun ls hl => ?_)
  refine lv_goto (tgt := 3) hx hb dX5_addBytes_21 (by decide) ?_
  refine lv_iload_n hx hb dX5_addBytes_3 rfl (lv_at hl 0 rfl) ?_
  refine lv_if_lt (tgt := 24) hx hb dX5_addBytes_4 (by decide) (fun c => False.elim (by revert c; decide)) (fun _ => ?_)
  refine lv_aload_n hx hb dX5_addBytes_7 rfl (lv_at hl 1 rfl) ?_
  refine lv_iload_n hx hb dX5_addBytes_8 rfl (lv_at hl 2 rfl) ?_
  refine lv_iload_n hx hb dX5_addBytes_9 rfl (lv_at hl 0 rfl) ?_
  refine lv_iushr hx hb dX5_addBytes_10 rfl ?_
  refine lv_topi (fun x10 ex10 => ?_)
  refine lv_sipush (v := 255) hx hb dX5_addBytes_11 (by decide) ?_
  refine lv_iand hx hb dX5_addBytes_14 ?_
  refine lv_topi (fun x11 ex11 => ?_)
  refine m_aV hW (m_runV (As := [.int x11]) (rest := []) hx hb hml hown hts hW (k) (c_X5_add l D cy b μ9 k k1 n hk hk1 hne hn (t + 3) (by rw [q9]; exact if_pos ⟨rfl, rfl⟩) (by omega) x11) mi_X5_add k_X5_25 hk rfl rfl hl.1 rfl (Nat.le_of_ble_eq_true rfl) dX5_addBytes_15 ⟨Nat.le_of_ble_eq_true rfl, Nat.le_of_ble_eq_true rfl⟩ ⟨Nat.le_of_ble_eq_true rfl, Nat.le_of_ble_eq_true rfl⟩) (fun μ12 H locs q12 hW => ?_)
  refine lv_iinc (v := (-8)) (lv' := [(2, .int (-8)), (0, .ref (b + k)), (1, .int v)]) hx hb dX5_addBytes_18 hl (k := 0) rfl (by decide) (by decide) rfl (fun ls hl => ?_)
  refine lv_goto (tgt := 3) hx hb dX5_addBytes_21 (by decide) ?_
  refine lv_iload_n hx hb dX5_addBytes_3 rfl (lv_at hl 0 rfl) ?_
  refine lv_if_lt (tgt := 24) hx hb dX5_addBytes_4 (by decide) (fun _ => ?_) (fun c => False.elim (by revert c; decide))
  exact m_vret hx hb hr hlocks hW ((by rw [q12]; exact if_pos ⟨rfl, rfl⟩)) dX5_addBytes_24
set_option maxHeartbeats 4000000 in
set_option maxRecDepth 100000 in
theorem c_X11_feed (l : Launch) (D : va_G) (cy : Nat → ClassId) (b : Nat) (μ : mM) (h0 : μ.1 23 1 = 0) (k u v w z : Int32) : m_Ci l yX11_feed cX11_feed 6 ((some .int)) 2 D cy b LX μ [.ref (b + 0), .int k, .int u, .int v, .int w, .int z] (fun r ν => r = 20) := by
  unfold m_Ci
  refine m_of (by decide) (Nat.le_of_ble_eq_true rfl) ?_
  intro p e s m below meth c hx hb hr hml hown hts hlocks _ hW ls hl
  have hown : s.vm.findClass RX11 = some m.cls := hown
  have hl : lv_has ls 6 [(0, .ref (b + 0)), (1, .int k), (2, .int u), (3, .int v), (4, .int w), (5, .int z)] := hl
  refine lv_aload_n hx hb dX11_feed_0 rfl (lv_at hl 0 rfl) ?_
  refine m_getr hx hb hts hown hW (0) 1 (23) rfl rfl cw_11 rfl (by decide) k_X11_21 dX11_feed_1 ?_
  refine m_geti hx hb hts hown hW (23) 1 rfl rfl cw_5 rfl (by decide) k_X11_99 dX11_feed_4 ?_
  refine lv_topi (fun x1 ex1 => ?_)
  have ex1 : x1 = 0 := by rw [ex1]; exact h0
  subst ex1
  refine lv_bipush (v := 20) hx hb dX11_feed_7 (by decide) ?_
  refine lv_iadd hx hb dX11_feed_9 ?_
  refine lv_topi (fun x2 ex2 => ?_)
  have ex2 : x2 = 20 := by rw [ex2]; decide
  subst ex2
  refine lv_sipush (v := 400) hx hb dX11_feed_10 (by decide) ?_
  refine lv_icmp_le (tgt := 18) hx hb dX11_feed_13 (by decide) (fun _ => ?_) (fun c => False.elim (by revert c; decide))
  refine lv_aload_n hx hb dX11_feed_18 rfl (lv_at hl 0 rfl) ?_
  refine m_getr hx hb hts hown hW (0) 1 (23) rfl rfl cw_11 rfl (by decide) k_X11_21 dX11_feed_19 ?_
  refine lv_iload_n hx hb dX11_feed_22 rfl (lv_at hl 1 rfl) ?_
  refine m_aV hW (m_runV (As := [.int k]) (rest := []) hx hb hml hown hts hW (23) (c_X5_addBytes l D cy b μ 23 24 400 rfl rfl (by decide) (by decide) 0 (h0.trans nI_0.symm) (by decide) k) mi_X5_addBytes k_X11_102 rfl rfl rfl hl.1 rfl (Nat.le_of_ble_eq_true rfl) dX11_feed_23 ⟨Nat.le_of_ble_eq_true rfl, Nat.le_of_ble_eq_true rfl⟩ ⟨Nat.le_of_ble_eq_true rfl, Nat.le_of_ble_eq_true rfl⟩) (fun μ3 H locs q3 hW => ?_)
  refine lv_aload_n hx hb dX11_feed_26 rfl (lv_at hl 0 rfl) ?_
  refine m_getr hx hb hts hown hW (0) 1 (23) rfl rfl cw_11 rfl (by decide) k_X11_21 dX11_feed_27 ?_
  refine lv_iload_n hx hb dX11_feed_30 rfl (lv_at hl 2 rfl) ?_
  refine m_aV hW (m_runV (As := [.int u]) (rest := []) hx hb hml hown hts hW (23) (c_X5_addBytes l D cy b μ3 23 24 400 rfl rfl (by decide) (by decide) 4 q3 (by decide) u) mi_X5_addBytes k_X11_102 rfl rfl rfl hl.1 rfl (Nat.le_of_ble_eq_true rfl) dX11_feed_31 ⟨Nat.le_of_ble_eq_true rfl, Nat.le_of_ble_eq_true rfl⟩ ⟨Nat.le_of_ble_eq_true rfl, Nat.le_of_ble_eq_true rfl⟩) (fun μ4 H locs q4 hW => ?_)
  refine lv_aload_n hx hb dX11_feed_34 rfl (lv_at hl 0 rfl) ?_
  refine m_getr hx hb hts hown hW (0) 1 (23) rfl rfl cw_11 rfl (by decide) k_X11_21 dX11_feed_35 ?_
  refine lv_iload_n hx hb dX11_feed_38 rfl (lv_at hl 3 rfl) ?_
  refine m_aV hW (m_runV (As := [.int v]) (rest := []) hx hb hml hown hts hW (23) (c_X5_addBytes l D cy b μ4 23 24 400 rfl rfl (by decide) (by decide) 8 q4 (by decide) v) mi_X5_addBytes k_X11_102 rfl rfl rfl hl.1 rfl (Nat.le_of_ble_eq_true rfl) dX11_feed_39 ⟨Nat.le_of_ble_eq_true rfl, Nat.le_of_ble_eq_true rfl⟩ ⟨Nat.le_of_ble_eq_true rfl, Nat.le_of_ble_eq_true rfl⟩) (fun μ5 H locs q5 hW => ?_)
  refine lv_aload_n hx hb dX11_feed_42 rfl (lv_at hl 0 rfl) ?_
  refine m_getr hx hb hts hown hW (0) 1 (23) rfl rfl cw_11 rfl (by decide) k_X11_21 dX11_feed_43 ?_
  refine lv_iload hx hb dX11_feed_46 (lv_at hl 4 rfl) ?_
  refine m_aV hW (m_runV (As := [.int w]) (rest := []) hx hb hml hown hts hW (23) (c_X5_addBytes l D cy b μ5 23 24 400 rfl rfl (by decide) (by decide) 12 q5 (by decide) w) mi_X5_addBytes k_X11_102 rfl rfl rfl hl.1 rfl (Nat.le_of_ble_eq_true rfl) dX11_feed_48 ⟨Nat.le_of_ble_eq_true rfl, Nat.le_of_ble_eq_true rfl⟩ ⟨Nat.le_of_ble_eq_true rfl, Nat.le_of_ble_eq_true rfl⟩) (fun μ6 H locs q6 hW => ?_)
  refine lv_aload_n hx hb dX11_feed_51 rfl (lv_at hl 0 rfl) ?_
  refine m_getr hx hb hts hown hW (0) 1 (23) rfl rfl cw_11 rfl (by decide) k_X11_21 dX11_feed_52 ?_
  refine lv_iload hx hb dX11_feed_55 (lv_at hl 5 rfl) ?_
  refine m_aV hW (m_runV (As := [.int z]) (rest := []) hx hb hml hown hts hW (23) (c_X5_addBytes l D cy b μ6 23 24 400 rfl rfl (by decide) (by decide) 16 q6 (by decide) z) mi_X5_addBytes k_X11_102 rfl rfl rfl hl.1 rfl (Nat.le_of_ble_eq_true rfl) dX11_feed_57 ⟨Nat.le_of_ble_eq_true rfl, Nat.le_of_ble_eq_true rfl⟩ ⟨Nat.le_of_ble_eq_true rfl, Nat.le_of_ble_eq_true rfl⟩) (fun μ7 H locs q7 hW => ?_)
  refine lv_aload_n hx hb dX11_feed_60 rfl (lv_at hl 0 rfl) ?_
  refine m_getr hx hb hts hown hW (0) 1 (23) rfl rfl cw_11 rfl (by decide) k_X11_21 dX11_feed_61 ?_
  refine m_geti hx hb hts hown hW (23) 1 rfl rfl cw_5 rfl (by decide) k_X11_99 dX11_feed_64 ?_
  refine lv_topi (fun x8 ex8 => ?_)
  have ex8 : x8 = 20 := by rw [ex8]; exact q7
  subst ex8
  exact m_iret hx hb hr hlocks hW rfl (rfl) dX11_feed_67
set_option maxHeartbeats 4000000 in
set_option maxRecDepth 100000 in
theorem c_X11_end (l : Launch) (D : va_G) (cy : Nat → ClassId) (b : Nat) (μ : mM) (h0 : μ.1 23 1 = 0) (k : Int32) : m_Ci l yX11_end cX11_end 2 ((some .boolean)) 1 D cy b LX μ [.ref (b + 0), .int k] (fun r ν => r = Fend k) := by
  unfold m_Ci
  refine m_of (by decide) (Nat.le_of_ble_eq_true rfl) ?_
  intro p e s m below meth c hx hb hr hml hown hts hlocks _ hW ls hl
  have hown : s.vm.findClass RX11 = some m.cls := hown
  have hl : lv_has ls 2 [(0, .ref (b + 0)), (1, .int k)] := hl
  refine lv_iload_n hx hb dX11_end_0 rfl (lv_at hl 1 rfl) ?_
  refine lv_iconst (v := 0) hx hb dX11_end_1 (by decide) ?_
  refine lv_aload_n hx hb dX11_end_2 rfl (lv_at hl 0 rfl) ?_
  refine m_getr hx hb hts hown hW (0) 1 (23) rfl rfl cw_11 rfl (by decide) k_X11_21 dX11_end_3 ?_
  refine m_geti hx hb hts hown hW (23) 1 rfl rfl cw_5 rfl (by decide) k_X11_99 dX11_end_6 ?_
  refine lv_topi (fun x1 ex1 => ?_)
  have ex1 : x1 = 0 := by rw [ex1]; exact h0
  subst ex1
  refine m_aI hW (m_runS (As := [.int k, .int 0, .int 0]) (rest := []) hx hb hml hown hts hW (c_X11_within l D cy b LX μ k 0 0 0 0 (by decide) (by decide)) ms_X11_within k_X11_81 rfl hl.1 rfl (Nat.le_of_ble_eq_true rfl) dX11_end_9 ⟨Nat.le_of_ble_eq_true rfl, Nat.le_of_ble_eq_true rfl⟩ ⟨Nat.le_of_ble_eq_true rfl, Nat.le_of_ble_eq_true rfl⟩) (fun x2 μ2 H locs q2 hW => ?_)
  obtain ⟨q2_m, q2⟩ := q2
  subst q2_m
  rcases q2 with ⟨rfl, q2⟩ | ⟨rfl, q2⟩
  · refine lv_if_ne (tgt := 17) hx hb dX11_end_12 (by decide) (fun _ => ?_) (fun c => False.elim (by revert c; decide))
    refine lv_aload_n hx hb dX11_end_17 rfl (lv_at hl 0 rfl) ?_
    refine m_getr hx hb hts hown hW (0) 1 (23) rfl rfl cw_11 rfl (by decide) k_X11_21 dX11_end_18 ?_
    refine lv_iload_n hx hb dX11_end_21 rfl (lv_at hl 1 rfl) ?_
    refine m_puti hx hb hts hown hW (23) 1 rfl rfl cw_5 tyX5_ok nmX5 rfl (by decide) k_X11_99 rfl rfl rfl dX11_end_22 (fun H locs hW _ => ?_)
    generalize hμ3 : m_si μ (23) 1 k = μ3 at hW
    refine lv_iconst (v := 1) hx hb dX11_end_25 (by decide) ?_
    exact m_iret hx hb hr hlocks hW (by decide) ((if_pos (by omega)).symm) dX11_end_26
  · refine lv_if_ne (tgt := 17) hx hb dX11_end_12 (by decide) (fun c => False.elim (by revert c; decide)) (fun _ => ?_)
    refine lv_iconst (v := 0) hx hb dX11_end_15 (by decide) ?_
    exact m_iret hx hb hr hlocks hW (by decide) ((if_neg (by omega)).symm) dX11_end_16
set_option maxHeartbeats 4000000 in
set_option maxRecDepth 100000 in
theorem c_X10_programOf (l : Launch) (D : va_G) (cy : Nat → ClassId) (b : Nat) (μ : mM) (k : Int32) : m_Cq l yX10_programOf cX10_programOf 2 ((some (.object "BeamPlate$Row"))) 1 D cy b LX μ [.ref (b + 1), .int k] (fun q ν => μ = ν ∧ ((q = none ∧ (k.toInt < 0 ∨ 7 < k.toInt)) ∨ (∃ i, q = some i ∧ 0 ≤ k.toInt ∧ k.toInt ≤ 7 ∧ LX[i]? = some (.inl (5, [i + 1 + 3, 0])) ∧ LX[i + 1]? = some (.inr (0, 800, []))))) := by
  unfold m_Cq
  refine m_of (by decide) (Nat.le_of_ble_eq_true rfl) ?_
  intro p e s m below meth c hx hb hr hml hown hts hlocks _ hW ls hl
  have hown : s.vm.findClass RX10 = some m.cls := hown
  have hl : lv_has ls 2 [(0, .ref (b + 1)), (1, .int k)] := hl
  refine lv_iload_n hx hb dX10_programOf_0 rfl (lv_at hl 1 rfl) ?_
  refine lv_iconst (v := 0) hx hb dX10_programOf_1 (by decide) ?_
  refine lv_bipush (v := 7) hx hb dX10_programOf_2 (by decide) ?_
  refine m_aI hW (m_runSN (As := [.int k, .int 0, .int 7]) (rest := []) hx hb hml hown hts hW (c_X11_within l D cy b LX μ k 0 7 0 7 (by decide) (by decide)) ms_X11_within n_X10_46 rfl hl.1 rfl (Nat.le_of_ble_eq_true rfl) dX10_programOf_4 ⟨Nat.le_of_ble_eq_true rfl, Nat.le_of_ble_eq_true rfl⟩ ⟨Nat.le_of_ble_eq_true rfl, Nat.le_of_ble_eq_true rfl⟩) (fun x1 μ1 H locs q1 hW => ?_)
  obtain ⟨q1_m, q1⟩ := q1
  subst q1_m
  rcases q1 with ⟨rfl, q1⟩ | ⟨rfl, q1⟩
  · refine lv_if_eq (tgt := 19) hx hb dX10_programOf_7 (by decide) (fun c => False.elim (by revert c; decide)) (fun _ => ?_)
    refine lv_aload_n hx hb dX10_programOf_10 rfl (lv_at hl 0 rfl) ?_
    refine m_getr hx hb hts hown hW (1) 7 (6) rfl rfl cw_10 rfl (by decide) k_X10_37 dX10_programOf_11 ?_
    refine lv_iload_n hx hb dX10_programOf_14 rfl (lv_at hl 1 rfl) ?_
    refine m_aald hx hb hW (6) rfl (m_ix q1 (by decide) (by decide)) ((m_rows _ (m_nat q1.1 q1.2)).1) dX10_programOf_15 ?_
    refine lv_goto (tgt := 20) hx hb dX10_programOf_16 (by decide) ?_
    exact m_aret hx hb hr hlocks hW (⟨rfl, Or.inr ⟨_, rfl, q1.1, q1.2, (m_rows _ (m_nat q1.1 q1.2)).2⟩⟩) dX10_programOf_20
  · refine lv_if_eq (tgt := 19) hx hb dX10_programOf_7 (by decide) (fun _ => ?_) (fun c => False.elim (by revert c; decide))
    refine lv_null hx hb dX10_programOf_19 ?_
    exact m_nret hx hb hr hlocks hW (⟨rfl, Or.inl ⟨rfl, q1⟩⟩) dX10_programOf_20
set_option maxHeartbeats 4000000 in
set_option maxRecDepth 100000 in
theorem c_X5_at (l : Launch) (D : va_G) (cy : Nat → ClassId) (b : Nat) (μ : mM) (k k1 n : Nat) (hk : LX[k]? = some (.inl (5, [k1 + 3, 0]))) (hk1 : LX[k1]? = some (.inr (0, n, []))) (hne : k ≠ k1) (hn : n < 2 ^ 30) (hz : (μ.1 k 1).toInt ≤ n) (v : Int32) : m_Ci l yX5_at cX5_at 2 ((some .int)) 0 D cy b LX μ [.ref (b + k), .int v] (fun r ν => μ = ν ∧ r = Fat μ k k1 v) := by
  unfold m_Ci
  refine m_of (by decide) (Nat.le_of_ble_eq_true rfl) ?_
  intro p e s m below meth c hx hb hr hml hown hts hlocks _ hW ls hl
  have hown : s.vm.findClass RX5 = some m.cls := hown
  have hl : lv_has ls 2 [(0, .ref (b + k)), (1, .int v)] := hl
  refine lv_iload_n hx hb dX5_at_0 rfl (lv_at hl 1 rfl) ?_
  refine lv_if_lt (tgt := 21) hx hb dX5_at_1 (by decide) (fun c1 => ?_) (fun c1 => ?_)
  · refine lv_iconst (v := (-1)) hx hb dX5_at_21 (by decide) ?_
    exact m_iret hx hb hr hlocks hW rfl (⟨rfl, (if_pos (by first | exact Or.inl c1 | exact Or.inr (by rw [← ex2]; exact c3))).symm⟩) dX5_at_22
  · refine lv_iload_n hx hb dX5_at_4 rfl (lv_at hl 1 rfl) ?_
    refine lv_aload_n hx hb dX5_at_5 rfl (lv_at hl 0 rfl) ?_
    refine m_geti hx hb hts hown hW (k) 1 hk rfl cw_5 rfl (by decide) k_X5_9 dX5_at_6 ?_
    refine lv_topi (fun x2 ex2 => ?_)
    refine lv_icmp_ge (tgt := 21) hx hb dX5_at_9 (by decide) (fun c3 => ?_) (fun c3 => ?_)
    · refine lv_iconst (v := (-1)) hx hb dX5_at_21 (by decide) ?_
      exact m_iret hx hb hr hlocks hW rfl (⟨rfl, (if_pos (by first | exact Or.inl c1 | exact Or.inr (by rw [← ex2]; exact c3))).symm⟩) dX5_at_22
    · refine lv_aload_n hx hb dX5_at_12 rfl (lv_at hl 0 rfl) ?_
      refine m_getr hx hb hts hown hW (k) 0 (k1) hk rfl cw_5 rfl (by decide) k_X5_21 dX5_at_13 ?_
      refine lv_iload_n hx hb dX5_at_16 rfl (lv_at hl 1 rfl) ?_
      refine m_iald hx hb hW (k1) hk1 (vp_in_iff.mpr ⟨by have := c1; rw [Int32.lt_iff_toInt_lt] at this; exact Int.not_lt.mp this, by have := c3; rw [Int32.le_iff_toInt_le, ex2] at this; omega⟩) dX5_at_17 ?_
      refine lv_topi (fun x4 ex4 => ?_)
      refine lv_goto (tgt := 22) hx hb dX5_at_18 (by decide) ?_
      exact m_iret hx hb hr hlocks hW rfl (⟨rfl, by rw [ex4]; exact (if_neg (fun h => h.elim c1 (by rw [← ex2]; exact c3))).symm⟩) dX5_at_22
set_option maxHeartbeats 4000000 in
set_option maxRecDepth 100000 in
theorem c_X8_keep (l : Launch) (D : va_G) (cy : Nat → ClassId) (b : Nat) (μ : mM) (h1 : μ.1 31 1 = nI 0) (h3 : μ.1 33 1 = nI 0) (h5 : μ.1 35 1 = nI 0) (u v w : Int32) : m_Cv l yX8_keep cX8_keep 4 (none) 1 D cy b LX μ [.ref (b + 30), .int u, .int v, .int w] (fun ν => ν.1 31 1 = nI 1 ∧ ν.1 32 0 = u) := by
  unfold m_Cv
  refine m_of (by decide) (Nat.le_of_ble_eq_true rfl) ?_
  intro p e s m below meth c hx hb hr hml hown hts hlocks _ hW ls hl
  have hown : s.vm.findClass RX8 = some m.cls := hown
  have hl : lv_has ls 4 [(0, .ref (b + 30)), (1, .int u), (2, .int v), (3, .int w)] := hl
  refine lv_aload_n hx hb dX8_keep_0 rfl (lv_at hl 0 rfl) ?_
  refine m_getr hx hb hts hown hW (30) 0 (31) rfl rfl cw_8 rfl (by decide) k_X8_14 dX8_keep_1 ?_
  refine lv_iload_n hx hb dX8_keep_4 rfl (lv_at hl 1 rfl) ?_
  refine m_aV hW (m_runV (As := [.int u]) (rest := []) hx hb hml hown hts hW (31) (c_X5_add l D cy b μ 31 32 401 rfl rfl (by decide) (by decide) 0 (h1) (by decide) u) mi_X5_add k_X8_59 rfl rfl rfl hl.1 rfl (Nat.le_of_ble_eq_true rfl) dX8_keep_5 ⟨Nat.le_of_ble_eq_true rfl, Nat.le_of_ble_eq_true rfl⟩ ⟨Nat.le_of_ble_eq_true rfl, Nat.le_of_ble_eq_true rfl⟩) (fun μ1 H locs q1 hW => ?_)
  obtain ⟨ν2, hν2⟩ : ∃ z, m_si μ 32 0 u = z := ⟨_, rfl⟩
  rw [hν2] at q1
  have hμ1 := q1.symm
  refine lv_aload_n hx hb dX8_keep_8 rfl (lv_at hl 0 rfl) ?_
  refine m_getr hx hb hts hown hW (30) 1 (33) rfl rfl cw_8 rfl (by decide) k_X8_20 dX8_keep_9 ?_
  refine lv_iload_n hx hb dX8_keep_12 rfl (lv_at hl 2 rfl) ?_
  refine m_aV hW (m_runV (As := [.int v]) (rest := []) hx hb hml hown hts hW (33) (c_X5_add l D cy b μ1 33 34 401 rfl rfl (by decide) (by decide) 0 (by rw [← hμ1, ← hν2]; exact h3) (by decide) v) mi_X5_add k_X8_59 rfl rfl rfl hl.1 rfl (Nat.le_of_ble_eq_true rfl) dX8_keep_13 ⟨Nat.le_of_ble_eq_true rfl, Nat.le_of_ble_eq_true rfl⟩ ⟨Nat.le_of_ble_eq_true rfl, Nat.le_of_ble_eq_true rfl⟩) (fun μ3 H locs q3 hW => ?_)
  obtain ⟨ν4, hν4⟩ : ∃ z, m_si μ1 34 0 v = z := ⟨_, rfl⟩
  rw [hν4] at q3
  have hμ3 := q3.symm
  refine lv_aload_n hx hb dX8_keep_16 rfl (lv_at hl 0 rfl) ?_
  refine m_getr hx hb hts hown hW (30) 2 (35) rfl rfl cw_8 rfl (by decide) k_X8_23 dX8_keep_17 ?_
  refine lv_iload_n hx hb dX8_keep_20 rfl (lv_at hl 3 rfl) ?_
  refine m_aV hW (m_runV (As := [.int w]) (rest := []) hx hb hml hown hts hW (35) (c_X5_add l D cy b μ3 35 36 401 rfl rfl (by decide) (by decide) 0 (by rw [← hμ3, ← hν4, ← hμ1, ← hν2]; exact h5) (by decide) w) mi_X5_add k_X8_59 rfl rfl rfl hl.1 rfl (Nat.le_of_ble_eq_true rfl) dX8_keep_21 ⟨Nat.le_of_ble_eq_true rfl, Nat.le_of_ble_eq_true rfl⟩ ⟨Nat.le_of_ble_eq_true rfl, Nat.le_of_ble_eq_true rfl⟩) (fun μ5 H locs q5 hW => ?_)
  obtain ⟨ν6, hν6⟩ : ∃ z, m_si μ3 36 0 w = z := ⟨_, rfl⟩
  rw [hν6] at q5
  have hμ5 := q5.symm
  exact m_vret hx hb hr hlocks hW (⟨by rw [← hμ5, ← hν6, ← hμ3, ← hν4, ← hμ1]; first | rfl | exact if_pos ⟨rfl, rfl⟩, by rw [← hμ5, ← hν6, ← hμ3, ← hν4, ← hμ1, ← hν2]; first | rfl | exact if_pos ⟨rfl, rfl⟩⟩) dX8_keep_24
set_option maxHeartbeats 4000000 in
set_option maxRecDepth 100000 in
theorem c_X8_takeApart (l : Launch) (D : va_G) (cy : Nat → ClassId) (b : Nat) (μ : mM) (h0 : μ.1 23 1 = 0) : m_Cv l yX8_takeApart cX8_takeApart 5 (none) 2 D cy b LX μ [.ref (b + 30), .ref (b + 23)] (fun ν => ν.1 31 1 = 1 ∧ ν.1 32 0 = 1) := by
  unfold m_Cv
  refine m_of (by decide) (Nat.le_of_ble_eq_true rfl) ?_
  intro p e s m below meth c hx hb hr hml hown hts hlocks _ hW ls hl
  have hown : s.vm.findClass RX8 = some m.cls := hown
  have hl : lv_has ls 5 [(0, .ref (b + 30)), (1, .ref (b + 23))] := hl
  refine lv_aload_n hx hb dX8_takeApart_0 rfl (lv_at hl 0 rfl) ?_
  refine m_getr hx hb hts hown hW (30) 0 (31) rfl rfl cw_8 rfl (by decide) k_X8_14 dX8_takeApart_1 ?_
  refine lv_iconst (v := 0) hx hb dX8_takeApart_4 (by decide) ?_
  refine m_puti hx hb hts hown hW (31) 1 rfl rfl cw_5 tyX5_ok nmX5 rfl (by decide) k_X8_26 rfl rfl rfl dX8_takeApart_5 (fun H locs hW _ => ?_)
  generalize hμ1 : m_si μ (31) 1 0 = μ1 at hW
  refine lv_aload_n hx hb dX8_takeApart_8 rfl (lv_at hl 0 rfl) ?_
  refine m_getr hx hb hts hown hW (30) 1 (33) rfl rfl cw_8 rfl (by decide) k_X8_20 dX8_takeApart_9 ?_
  refine lv_iconst (v := 0) hx hb dX8_takeApart_12 (by decide) ?_
  refine m_puti hx hb hts hown hW (33) 1 rfl rfl cw_5 tyX5_ok nmX5 rfl (by decide) k_X8_26 rfl rfl rfl dX8_takeApart_13 (fun H locs hW _ => ?_)
  generalize hμ2 : m_si μ1 (33) 1 0 = μ2 at hW
  refine lv_aload_n hx hb dX8_takeApart_16 rfl (lv_at hl 0 rfl) ?_
  refine m_getr hx hb hts hown hW (30) 2 (35) rfl rfl cw_8 rfl (by decide) k_X8_23 dX8_takeApart_17 ?_
  refine lv_iconst (v := 0) hx hb dX8_takeApart_20 (by decide) ?_
  refine m_puti hx hb hts hown hW (35) 1 rfl rfl cw_5 tyX5_ok nmX5 rfl (by decide) k_X8_26 rfl rfl rfl dX8_takeApart_21 (fun H locs hW _ => ?_)
  generalize hμ3 : m_si μ2 (35) 1 0 = μ3 at hW
  refine lv_iconst (v := 0) hx hb dX8_takeApart_24 (by decide) ?_
  refine lv_istore_n (lv' := [(2, .int 0), (0, .ref (b + 30)), (1, .ref (b + 23))]) hx hb dX8_takeApart_25 rfl hl (by decide) rfl (fun ls hl => ?_)
  refine lv_iconst (v := 0) hx hb dX8_takeApart_26 (by decide) ?_
  refine lv_istore_n (lv' := [(3, .int 0), (2, .int 0), (0, .ref (b + 30)), (1, .ref (b + 23))]) hx hb dX8_takeApart_27 rfl hl (by decide) rfl (fun ls hl => ?_)
  refine lv_iload_n hx hb dX8_takeApart_28 rfl (lv_at hl 0 rfl) ?_
  refine lv_sipush (v := 400) hx hb dX8_takeApart_29 (by decide) ?_
  refine lv_icmp_ge (tgt := 115) hx hb dX8_takeApart_32 (by decide) (fun c => False.elim (by revert c; decide)) (fun _ => ?_)
  refine lv_iload_n hx hb dX8_takeApart_35 rfl (lv_at hl 1 rfl) ?_
  refine lv_aload_n hx hb dX8_takeApart_36 rfl (lv_at hl 3 rfl) ?_
  refine m_geti hx hb hts hown hW (23) 1 rfl rfl cw_5 rfl (by decide) k_X8_26 dX8_takeApart_37 ?_
  refine lv_topi (fun x4 ex4 => ?_)
  have ex4 : x4 = 0 := by rw [ex4, ← hμ3, ← hμ2, ← hμ1]; exact h0
  subst ex4
  refine lv_icmp_ge (tgt := 115) hx hb dX8_takeApart_40 (by decide) (fun _ => ?_) (fun c => False.elim (by revert c; decide))
  refine lv_aload_n hx hb dX8_takeApart_115 rfl (lv_at hl 2 rfl) ?_
  refine lv_iconst (v := 1) hx hb dX8_takeApart_116 (by decide) ?_
  refine lv_aload_n hx hb dX8_takeApart_117 rfl (lv_at hl 3 rfl) ?_
  refine m_geti hx hb hts hown hW (23) 1 rfl rfl cw_5 rfl (by decide) k_X8_26 dX8_takeApart_118 ?_
  refine lv_topi (fun x5 ex5 => ?_)
  have ex5 : x5 = 0 := by rw [ex5, ← hμ3, ← hμ2, ← hμ1]; exact h0
  subst ex5
  refine lv_iconst (v := 0) hx hb dX8_takeApart_121 (by decide) ?_
  refine m_aV hW (m_runV (As := [.int 1, .int 0, .int 0]) (rest := []) hx hb hml hown hts hW (30) (c_X8_keep l D cy b μ3 (by rw [← hμ3, ← hμ2, ← hμ1]; first | rfl | exact if_pos ⟨rfl, rfl⟩) (by rw [← hμ3, ← hμ2]; first | rfl | exact if_pos ⟨rfl, rfl⟩) (by rw [← hμ3]; first | rfl | exact if_pos ⟨rfl, rfl⟩) 1 0 0) mi_X8_keep k_X8_55 rfl rfl rfl hl.1 rfl (Nat.le_of_ble_eq_true rfl) dX8_takeApart_122 ⟨Nat.le_of_ble_eq_true rfl, Nat.le_of_ble_eq_true rfl⟩ ⟨Nat.le_of_ble_eq_true rfl, Nat.le_of_ble_eq_true rfl⟩) (fun μ6 H locs q6 hW => ?_)
  exact m_vret hx hb hr hlocks hW (⟨q6.1, q6.2⟩) dX8_takeApart_125
set_option maxHeartbeats 4000000 in
set_option maxRecDepth 100000 in
theorem c_X4_innermost (l : Launch) (D : va_G) (cy : Nat → ClassId) (b : Nat) (μ : mM) (h0 : μ.1 37 1 = 0) : m_Ci l yX4_innermost cX4_innermost 1 ((some .int)) 1 D cy b LX μ [.ref (b + 27)] (fun r ν => μ = ν ∧ r = -1) := by
  unfold m_Ci
  refine m_of (by decide) (Nat.le_of_ble_eq_true rfl) ?_
  intro p e s m below meth c hx hb hr hml hown hts hlocks _ hW ls hl
  have hown : s.vm.findClass RX4 = some m.cls := hown
  have hl : lv_has ls 1 [(0, .ref (b + 27))] := hl
  refine lv_aload_n hx hb dX4_innermost_0 rfl (lv_at hl 0 rfl) ?_
  refine m_getr hx hb hts hown hW (27) 6 (37) rfl rfl cw_4 rfl (by decide) k_X4_40 dX4_innermost_1 ?_
  refine lv_aload_n hx hb dX4_innermost_4 rfl (lv_at hl 0 rfl) ?_
  refine m_getr hx hb hts hown hW (27) 6 (37) rfl rfl cw_4 rfl (by decide) k_X4_40 dX4_innermost_5 ?_
  refine m_geti hx hb hts hown hW (37) 1 rfl rfl cw_5 rfl (by decide) k_X4_50 dX4_innermost_8 ?_
  refine lv_topi (fun x1 ex1 => ?_)
  have ex1 : x1 = 0 := by rw [ex1]; exact h0
  subst ex1
  refine lv_iconst (v := 1) hx hb dX4_innermost_11 (by decide) ?_
  refine lv_isub hx hb dX4_innermost_12 ?_
  refine lv_topi (fun x2 ex2 => ?_)
  have ex2 : x2 = (-1) := by rw [ex2]; decide
  subst ex2
  refine m_aI hW (m_runV (As := [.int (-1)]) (rest := []) hx hb hml hown hts hW (37) (c_X5_at l D cy b μ 37 38 4 rfl rfl (by decide) (by decide) (by rw [h0]; decide) (-1)) mi_X5_at k_X4_56 rfl rfl rfl hl.1 rfl (Nat.le_of_ble_eq_true rfl) dX4_innermost_13 ⟨Nat.le_of_ble_eq_true rfl, Nat.le_of_ble_eq_true rfl⟩ ⟨Nat.le_of_ble_eq_true rfl, Nat.le_of_ble_eq_true rfl⟩) (fun x3 μ3 H locs q3 hW => ?_)
  obtain ⟨q3_m, q3⟩ := q3
  subst q3_m
  exact m_iret hx hb hr hlocks hW rfl (⟨rfl, by rw [q3]; exact if_pos (Or.inl (by decide))⟩) dX4_innermost_16
set_option maxHeartbeats 4000000 in
set_option maxRecDepth 100000 in
theorem c_X4_read (l : Launch) (D : va_G) (cy : Nat → ClassId) (b : Nat) (μ : mM) (h0 : μ.1 23 1 = 0) : m_Ci l yX4_read cX4_read 4 ((some .boolean)) 3 D cy b LX μ [.ref (b + 27), .ref (b + 23)] (fun r ν => r = 1 ∧ ν.1 28 1 = 0) := by
  unfold m_Ci
  refine m_of (by decide) (Nat.le_of_ble_eq_true rfl) ?_
  intro p e s m below meth c hx hb hr hml hown hts hlocks _ hW ls hl
  have hown : s.vm.findClass RX4 = some m.cls := hown
  have hl : lv_has ls 4 [(0, .ref (b + 27)), (1, .ref (b + 23))] := hl
  refine lv_aload_n hx hb dX4_read_0 rfl (lv_at hl 0 rfl) ?_
  refine m_getr hx hb hts hown hW (27) 3 (30) rfl rfl cw_4 rfl (by decide) k_X4_30 dX4_read_1 ?_
  refine lv_aload_n hx hb dX4_read_4 rfl (lv_at hl 1 rfl) ?_
  refine m_aV hW (m_runV (As := [.ref (b + 23)]) (rest := []) hx hb hml hown hts hW (30) (c_X8_takeApart l D cy b μ (h0)) mi_X8_takeApart k_X4_46 rfl rfl rfl hl.1 rfl (Nat.le_of_ble_eq_true rfl) dX4_read_5 ⟨Nat.le_of_ble_eq_true rfl, Nat.le_of_ble_eq_true rfl⟩ ⟨Nat.le_of_ble_eq_true rfl, Nat.le_of_ble_eq_true rfl⟩) (fun μ1 H locs q1 hW => ?_)
  refine lv_aload_n hx hb dX4_read_8 rfl (lv_at hl 0 rfl) ?_
  refine m_getr hx hb hts hown hW (27) 0 (28) rfl rfl cw_4 rfl (by decide) k_X4_16 dX4_read_9 ?_
  refine lv_iconst (v := 0) hx hb dX4_read_12 (by decide) ?_
  refine m_puti hx hb hts hown hW (28) 1 rfl rfl cw_5 tyX5_ok nmX5 rfl (by decide) k_X4_50 rfl rfl rfl dX4_read_13 (fun H locs hW _ => ?_)
  generalize hμ2 : m_si μ1 (28) 1 0 = μ2 at hW
  refine lv_aload_n hx hb dX4_read_16 rfl (lv_at hl 0 rfl) ?_
  refine m_getr hx hb hts hown hW (27) 6 (37) rfl rfl cw_4 rfl (by decide) k_X4_40 dX4_read_17 ?_
  refine lv_iconst (v := 0) hx hb dX4_read_20 (by decide) ?_
  refine m_puti hx hb hts hown hW (37) 1 rfl rfl cw_5 tyX5_ok nmX5 rfl (by decide) k_X4_50 rfl rfl rfl dX4_read_21 (fun H locs hW _ => ?_)
  generalize hμ3 : m_si μ2 (37) 1 0 = μ3 at hW
  refine lv_aload_n hx hb dX4_read_24 rfl (lv_at hl 0 rfl) ?_
  refine m_getr hx hb hts hown hW (27) 7 (39) rfl rfl cw_4 rfl (by decide) k_X4_43 dX4_read_25 ?_
  refine lv_iconst (v := 0) hx hb dX4_read_28 (by decide) ?_
  refine m_puti hx hb hts hown hW (39) 1 rfl rfl cw_5 tyX5_ok nmX5 rfl (by decide) k_X4_50 rfl rfl rfl dX4_read_29 (fun H locs hW _ => ?_)
  generalize hμ4 : m_si μ3 (39) 1 0 = μ4 at hW
  refine lv_aload_n hx hb dX4_read_32 rfl (lv_at hl 0 rfl) ?_
  refine lv_iconst (v := 0) hx hb dX4_read_33 (by decide) ?_
  refine m_puti hx hb hts hown hW (27) 1 rfl rfl cw_4 tyX4_ok nmX4 rfl (by decide) k_X4_20 rfl rfl rfl dX4_read_34 (fun H locs hW _ => ?_)
  generalize hμ5 : m_si μ4 (27) 1 0 = μ5 at hW
  refine lv_aload_n hx hb dX4_read_37 rfl (lv_at hl 0 rfl) ?_
  refine lv_iconst (v := (-1)) hx hb dX4_read_38 (by decide) ?_
  refine m_puti hx hb hts hown hW (27) 2 rfl rfl cw_4 tyX4_ok nmX4 rfl (by decide) k_X4_24 rfl rfl rfl dX4_read_39 (fun H locs hW _ => ?_)
  generalize hμ6 : m_si μ5 (27) 2 (-1) = μ6 at hW
  refine lv_aload_n hx hb dX4_read_42 rfl (lv_at hl 0 rfl) ?_
  refine lv_iconst (v := 0) hx hb dX4_read_43 (by decide) ?_
  refine m_puti hx hb hts hown hW (27) 4 rfl rfl cw_4 tyX4_ok nmX4 rfl (by decide) k_X4_34 rfl rfl rfl dX4_read_44 (fun H locs hW _ => ?_)
  generalize hμ7 : m_si μ6 (27) 4 0 = μ7 at hW
  refine lv_aload_n hx hb dX4_read_47 rfl (lv_at hl 0 rfl) ?_
  refine lv_aload_n hx hb dX4_read_48 rfl (lv_at hl 0 rfl) ?_
  refine m_getr hx hb hts hown hW (27) 3 (30) rfl rfl cw_4 rfl (by decide) k_X4_30 dX4_read_49 ?_
  refine m_getr hx hb hts hown hW (30) 0 (31) rfl rfl cw_8 rfl (by decide) k_X4_53 dX4_read_52 ?_
  refine lv_iconst (v := 0) hx hb dX4_read_55 (by decide) ?_
  refine m_aI hW (m_runV (As := [.int 0]) (rest := [.ref (b + 27)]) hx hb hml hown hts hW (31) (c_X5_at l D cy b μ7 31 32 401 rfl rfl (by decide) (by decide) (by rw [(show μ7.1 31 1 = 1 from by rw [← hμ7, ← hμ6, ← hμ5, ← hμ4, ← hμ3, ← hμ2]; exact q1.1)]; decide) 0) mi_X5_at k_X4_56 rfl rfl rfl hl.1 rfl (Nat.le_of_ble_eq_true rfl) dX4_read_56 ⟨Nat.le_of_ble_eq_true rfl, Nat.le_of_ble_eq_true rfl⟩ ⟨Nat.le_of_ble_eq_true rfl, Nat.le_of_ble_eq_true rfl⟩) (fun x8 μ8 H locs q8 hW => ?_)
  obtain ⟨q8_m, q8⟩ := q8
  subst q8_m
  have q8 : x8 = 1 := by rw [q8]; unfold Fat; rw [if_neg (by rw [(show μ7.1 31 1 = 1 from by rw [← hμ7, ← hμ6, ← hμ5, ← hμ4, ← hμ3, ← hμ2]; exact q1.1)]; decide)]; exact by rw [← hμ7, ← hμ6, ← hμ5, ← hμ4, ← hμ3, ← hμ2]; exact q1.2
  subst q8
  refine m_puti hx hb hts hown hW (27) 5 rfl rfl cw_4 tyX4_ok nmX4 rfl (by decide) k_X4_37 rfl rfl rfl dX4_read_59 (fun H locs hW _ => ?_)
  generalize hμ9 : m_si μ7 (27) 5 1 = μ9 at hW
  refine lv_iconst (v := 0) hx hb dX4_read_62 (by decide) ?_
  refine lv_istore_n (lv' := [(2, .int 0), (0, .ref (b + 27)), (1, .ref (b + 23))]) hx hb dX4_read_63 rfl hl (by decide) rfl (fun ls hl => ?_)
  refine lv_iconst (v := 0) hx hb dX4_read_64 (by decide) ?_
  refine lv_istore_n (lv' := [(3, .int 0), (2, .int 0), (0, .ref (b + 27)), (1, .ref (b + 23))]) hx hb dX4_read_65 rfl hl (by decide) rfl (fun ls hl => ?_)
  refine lv_iload_n hx hb dX4_read_66 rfl (lv_at hl 0 rfl) ?_
  refine lv_sipush (v := 400) hx hb dX4_read_67 (by decide) ?_
  refine lv_icmp_gt (tgt := 162) hx hb dX4_read_70 (by decide) (fun c => False.elim (by revert c; decide)) (fun _ => ?_)
  refine lv_aload_n hx hb dX4_read_73 rfl (lv_at hl 2 rfl) ?_
  refine m_geti hx hb hts hown hW (27) 1 rfl rfl cw_4 rfl (by decide) k_X4_20 dX4_read_74 ?_
  refine lv_topi (fun x10 ex10 => ?_)
  have ex10 : x10 = 0 := by rw [ex10, ← hμ9, ← hμ7, ← hμ6, ← hμ5]; first | rfl | exact if_pos ⟨rfl, rfl⟩
  subst ex10
  refine lv_if_ne (tgt := 162) hx hb dX4_read_77 (by decide) (fun c => False.elim (by revert c; decide)) (fun _ => ?_)
  refine lv_iload_n hx hb dX4_read_80 rfl (lv_at hl 1 rfl) ?_
  refine lv_if_ne (tgt := 162) hx hb dX4_read_81 (by decide) (fun c => False.elim (by revert c; decide)) (fun _ => ?_)
  refine lv_aload_n hx hb dX4_read_84 rfl (lv_at hl 2 rfl) ?_
  refine m_geti hx hb hts hown hW (27) 5 rfl rfl cw_4 rfl (by decide) k_X4_37 dX4_read_85 ?_
  refine lv_topi (fun x11 ex11 => ?_)
  have ex11 : x11 = 1 := by rw [ex11, ← hμ9]; first | rfl | exact if_pos ⟨rfl, rfl⟩
  subst ex11
  refine lv_bipush (v := 9) hx hb dX4_read_88 (by decide) ?_
  refine lv_bipush (v := 16) hx hb dX4_read_90 (by decide) ?_
  refine m_aI hW (m_runSN (As := [.int 1, .int 9, .int 16]) (rest := []) hx hb hml hown hts hW (c_X11_within l D cy b LX μ9 1 9 16 9 16 (by decide) (by decide)) ms_X11_within n_X4_60 rfl hl.1 rfl (Nat.le_of_ble_eq_true rfl) dX4_read_92 ⟨Nat.le_of_ble_eq_true rfl, Nat.le_of_ble_eq_true rfl⟩ ⟨Nat.le_of_ble_eq_true rfl, Nat.le_of_ble_eq_true rfl⟩) (fun x12 μ12 H locs q12 hW => ?_)
  obtain ⟨q12_m, q12⟩ := q12
  subst q12_m
  rcases q12 with ⟨rfl, q12⟩ | ⟨rfl, q12⟩
  · exact False.elim (by revert q12; decide)
  · refine lv_if_eq (tgt := 105) hx hb dX4_read_95 (by decide) (fun _ => ?_) (fun c => False.elim (by revert c; decide))
    refine lv_aload_n hx hb dX4_read_105 rfl (lv_at hl 2 rfl) ?_
    refine m_geti hx hb hts hown hW (27) 5 rfl rfl cw_4 rfl (by decide) k_X4_37 dX4_read_106 ?_
    refine lv_topi (fun x13 ex13 => ?_)
    have ex13 : x13 = 1 := by rw [ex13, ← hμ9]; first | rfl | exact if_pos ⟨rfl, rfl⟩
    subst ex13
    refine lv_bipush (v := 18) hx hb dX4_read_109 (by decide) ?_
    refine lv_icmp_ne (tgt := 130) hx hb dX4_read_111 (by decide) (fun _ => ?_) (fun c => False.elim (by revert c; decide))
    refine lv_aload_n hx hb dX4_read_130 rfl (lv_at hl 2 rfl) ?_
    refine m_geti hx hb hts hown hW (27) 5 rfl rfl cw_4 rfl (by decide) k_X4_37 dX4_read_131 ?_
    refine lv_topi (fun x14 ex14 => ?_)
    have ex14 : x14 = 1 := by rw [ex14, ← hμ9]; first | rfl | exact if_pos ⟨rfl, rfl⟩
    subst ex14
    refine lv_iconst (v := 1) hx hb dX4_read_134 (by decide) ?_
    refine lv_icmp_ne (tgt := 151) hx hb dX4_read_135 (by decide) (fun c => False.elim (by revert c; decide)) (fun _ => ?_)
    refine lv_aload_n hx hb dX4_read_138 rfl (lv_at hl 2 rfl) ?_
    refine m_aI hW (m_runV (As := []) (rest := []) hx hb hml hown hts hW (27) (c_X4_innermost l D cy b μ9 (by rw [← hμ9, ← hμ7, ← hμ6, ← hμ5, ← hμ4, ← hμ3]; first | rfl | exact if_pos ⟨rfl, rfl⟩)) mi_X4_innermost k_X4_67 rfl rfl rfl hl.1 rfl (Nat.le_of_ble_eq_true rfl) dX4_read_139 ⟨Nat.le_of_ble_eq_true rfl, Nat.le_of_ble_eq_true rfl⟩ ⟨Nat.le_of_ble_eq_true rfl, Nat.le_of_ble_eq_true rfl⟩) (fun x15 μ15 H locs q15 hW => ?_)
    obtain ⟨q15_m, q15⟩ := q15
    subst q15_m
    subst q15
    refine lv_iconst (v := (-1)) hx hb dX4_read_142 (by decide) ?_
    refine lv_icmp_ne (tgt := 151) hx hb dX4_read_143 (by decide) (fun c => False.elim (by revert c; decide)) (fun _ => ?_)
    refine lv_iconst (v := 1) hx hb dX4_read_146 (by decide) ?_
    refine lv_istore_n (lv' := [(2, .int 1), (3, .int 0), (0, .ref (b + 27)), (1, .ref (b + 23))]) hx hb dX4_read_147 rfl hl (by decide) rfl (fun ls hl => ?_)
    refine lv_goto (tgt := 156) hx hb dX4_read_148 (by decide) ?_
    refine lv_iinc (v := 1) (lv' := [(3, .int 1), (2, .int 1), (0, .ref (b + 27)), (1, .ref (b + 23))]) hx hb dX4_read_156 hl (k := 1) rfl (by decide) (by decide) rfl (fun ls hl => ?_)
    refine lv_goto (tgt := 66) hx hb dX4_read_159 (by decide) ?_
    refine lv_iload_n hx hb dX4_read_66 rfl (lv_at hl 0 rfl) ?_
    refine lv_sipush (v := 400) hx hb dX4_read_67 (by decide) ?_
    refine lv_icmp_gt (tgt := 162) hx hb dX4_read_70 (by decide) (fun c => False.elim (by revert c; decide)) (fun _ => ?_)
    refine lv_aload_n hx hb dX4_read_73 rfl (lv_at hl 2 rfl) ?_
    refine m_geti hx hb hts hown hW (27) 1 rfl rfl cw_4 rfl (by decide) k_X4_20 dX4_read_74 ?_
    refine lv_topi (fun x16 ex16 => ?_)
    have ex16 : x16 = 0 := by rw [ex16, ← hμ9, ← hμ7, ← hμ6, ← hμ5]; first | rfl | exact if_pos ⟨rfl, rfl⟩
    subst ex16
    refine lv_if_ne (tgt := 162) hx hb dX4_read_77 (by decide) (fun c => False.elim (by revert c; decide)) (fun _ => ?_)
    refine lv_iload_n hx hb dX4_read_80 rfl (lv_at hl 1 rfl) ?_
    refine lv_if_ne (tgt := 162) hx hb dX4_read_81 (by decide) (fun _ => ?_) (fun c => False.elim (by revert c; decide))
    refine lv_iload_n hx hb dX4_read_162 rfl (lv_at hl 1 rfl) ?_
    exact m_iret hx hb hr hlocks hW (by decide) (⟨rfl, by rw [← hμ9, ← hμ7, ← hμ6, ← hμ5, ← hμ4, ← hμ3, ← hμ2]; first | rfl | exact if_pos ⟨rfl, rfl⟩⟩) dX4_read_163
set_option maxHeartbeats 4000000 in
set_option maxRecDepth 100000 in
theorem c_X5_copyFrom (l : Launch) (D : va_G) (cy : Nat → ClassId) (b : Nat) (μ : mM) (k k1 n o o1 n2 : Nat) (hk : LX[k]? = some (.inl (5, [k1 + 3, 0]))) (hk1 : LX[k1]? = some (.inr (0, n, []))) (ho : LX[o]? = some (.inl (5, [o1 + 3, 0]))) (ho1 : LX[o1]? = some (.inr (0, n2, []))) (hne : k ≠ k1) (hn : n < 2 ^ 30) (hz : μ.1 o 1 = 0) : m_Cv l yX5_copyFrom cX5_copyFrom 2 (none) 1 D cy b LX μ [.ref (b + k), .ref (b + o)] (fun ν => ν.1 k 1 = 0) := by
  unfold m_Cv
  refine m_of (by decide) (Nat.le_of_ble_eq_true rfl) ?_
  intro p e s m below meth c hx hb hr hml hown hts hlocks _ hW ls hl
  have hown : s.vm.findClass RX5 = some m.cls := hown
  have hl : lv_has ls 2 [(0, .ref (b + k)), (1, .ref (b + o))] := hl
  refine lv_aload_n hx hb dX5_copyFrom_0 rfl (lv_at hl 0 rfl) ?_
  refine lv_aload_n hx hb dX5_copyFrom_1 rfl (lv_at hl 1 rfl) ?_
  refine m_geti hx hb hts hown hW (o) 1 ho rfl cw_5 rfl (by decide) k_X5_9 dX5_copyFrom_2 ?_
  refine lv_topi (fun x1 ex1 => ?_)
  have ex1 : x1 = 0 := by rw [ex1]; exact hz
  subst ex1
  refine lv_aload_n hx hb dX5_copyFrom_5 rfl (lv_at hl 0 rfl) ?_
  refine m_getr hx hb hts hown hW (k) 0 (k1) hk rfl cw_5 rfl (by decide) k_X5_21 dX5_copyFrom_6 ?_
  refine m_alen hx hb hW (k1) hk1 dX5_copyFrom_9 ?_
  refine lv_topi (fun x2 ex2 => ?_)
  have ex2 : x2 = (nI n) := ex2
  subst ex2
  refine va_mmin hx hb (hml.trans hl.1.symm) hown (hts _ k_X5_29) (hts _ kM_min_s) (hts _ kM_n) (hts _ kM_min_c) (Nat.le_of_ble_eq_true rfl) (Nat.le_of_ble_eq_true rfl) (Nat.le_of_ble_eq_true rfl) (Nat.le_of_ble_eq_true rfl) dX5_copyFrom_10 ?_
  refine lv_topi (fun x3 ex3 => ?_)
  have ex3 : x3 = 0 := by rw [ex3]; exact m_min0 hn
  subst ex3
  refine m_puti hx hb hts hown hW (k) 1 hk rfl cw_5 tyX5_ok nmX5 rfl (by decide) k_X5_9 rfl rfl rfl dX5_copyFrom_13 (fun H locs hW _ => ?_)
  generalize hμ4 : m_si μ (k) 1 0 = μ4 at hW
  refine lv_aload_n hx hb dX5_copyFrom_16 rfl (lv_at hl 1 rfl) ?_
  refine m_getr hx hb hts hown hW (o) 0 (o1) ho rfl cw_5 rfl (by decide) k_X5_21 dX5_copyFrom_17 ?_
  refine lv_iconst (v := 0) hx hb dX5_copyFrom_20 (by decide) ?_
  refine lv_aload_n hx hb dX5_copyFrom_21 rfl (lv_at hl 0 rfl) ?_
  refine m_getr hx hb hts hown hW (k) 0 (k1) hk rfl cw_5 rfl (by decide) k_X5_21 dX5_copyFrom_22 ?_
  refine lv_iconst (v := 0) hx hb dX5_copyFrom_25 (by decide) ?_
  refine lv_aload_n hx hb dX5_copyFrom_26 rfl (lv_at hl 0 rfl) ?_
  refine m_geti hx hb hts hown hW (k) 1 hk rfl cw_5 rfl (by decide) k_X5_9 dX5_copyFrom_27 ?_
  refine lv_topi (fun x5 ex5 => ?_)
  have ex5 : x5 = 0 := by rw [ex5, ← hμ4]; first | rfl | exact if_pos ⟨rfl, rfl⟩
  subst ex5
  refine m_copy hx hb (hml.trans hl.1.symm) hts hown k_X5_32 hW o1 k1 ho1 hk1 (by decide) (by decide) (by decide) (Nat.zero_le _) (Nat.zero_le _) (Nat.le_of_ble_eq_true rfl) (Nat.le_of_ble_eq_true rfl) dX5_copyFrom_30 (fun H locs hW => ?_)
  generalize hμ6 : m_cp μ4 o1 k1 (0 : Int32).toNatClampNeg (0 : Int32).toNatClampNeg (0 : Int32).toNatClampNeg = μ6 at hW
  exact m_vret hx hb hr hlocks hW (by rw [← hμ6]; exact (if_neg hne).trans (by rw [← hμ4]; exact if_pos ⟨rfl, rfl⟩)) dX5_copyFrom_33
