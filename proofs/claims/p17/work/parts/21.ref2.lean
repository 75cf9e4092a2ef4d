set_option maxHeartbeats 4000000 in
set_option maxRecDepth 100000 in
theorem L_X12_spreads_165 {p : Program} {l : Launch} {e : Env} {s : State} {m : MethodId} {args : Array Value} {below : List Frame} {meth : Method} {c : Code} {D : va_G} {cy : Nat → ClassId} {b : Nat} (hx : p.tables.exec = Jvm.exec) (hb : c.code = cX12_spreads) (hr : meth.sig.returnType = (none)) (hml : c.maxLocals = 9) (hown : s.vm.findClass RX12 = some m.cls) (hts : ∀ w ∈ TB, w.before args s = true) (hlocks : meth.locks = false) (S : Nat → Bool) (μ0 : mM) (hS22 : S 22 = true) (pv : Int32) (h_pv : 1 ≤ pv.toInt ∧ pv.toInt ≤ 192) (d k : Int32) (h_d : 0 ≤ d.toInt ∧ d.toInt ≤ 1) (h_k : 0 ≤ k.toInt ∧ k.toInt ≤ 191) (F49 : Nat) (O49 : ∀ (y3 : Int32) (gz : Nat) (hy : 0 ≤ y3.toInt ∧ y3.toInt ≤ 192 ∧ y3.toInt + gz ≤ 192) (hf : y3.toInt + 2 * gz < (F49 : Int)) (μ : mM) (hI : IY S μ0 μ) (hp : μ.1 81 30 = pv) (hz : m_zn (μ.1 101) 192 = gz) (H : Heap) (locs : List Loc), m_WA (m_A b LAY) D cy s b LAY μ H locs → ∀ ls : Array Slot, lv_has ls 9 [(0, .ref (b + 81)), (1, .int d), (2, .int k), (3, .int y3)] → W p l e (m_R 2 0 0) s m args below meth c H locs 0 0 (MQ below (m_Qv D cy b LAY (fun ν => IY S μ0 ν ∧ (True))) args s 0 0 (m_A b LAY)) (F0 m 49 ls [])) : ∀ (f : Nat), ∀ (y3 y4 y5 y6 : Int32) (gz : Nat) (hy : y3.toInt + 2 * gz < (F49 : Int) + 1 ∧ 0 ≤ y3.toInt ∧ y3.toInt ≤ 192 ∧ 0 ≤ y4.toInt ∧ y4.toInt ≤ 15 ∧ 0 ≤ y5.toInt ∧ y5.toInt ≤ 11 ∧ 0 ≤ y6.toInt ∧ y6.toInt ≤ 4 ∧ 0 ≤ y3.toInt ∧ y3.toInt ≤ 192 ∧ y3.toInt + gz ≤ 192 ∧ y3.toInt + 2 * gz < F49) (hf : 4 - y6.toInt < (f : Int)) (μ : mM) (hI : IY S μ0 μ) (hp : μ.1 81 30 = pv) (hz : m_zn (μ.1 101) 192 = gz) (H : Heap) (locs : List Loc), m_WA (m_A b LAY) D cy s b LAY μ H locs → ∀ ls : Array Slot, lv_has ls 9 [(0, .ref (b + 81)), (1, .int d), (2, .int k), (3, .int y3), (4, .int y4), (5, .int y5), (6, .int y6)] → W p l e (m_R 2 0 0) s m args below meth c H locs 0 0 (MQ below (m_Qv D cy b LAY (fun ν => IY S μ0 ν ∧ (True))) args s 0 0 (m_A b LAY)) (F0 m 165 ls []) := by
  intro f
  induction f with
  | zero => intro y3 y4 y5 y6 gz hy hf; exfalso; omega
  | succ f ih =>
    intro y3 y4 y5 y6 gz hy hf μ hI hp hz H locs hW ls hl
    refine lv_iload hx hb dX12_spreads_165 (lv_at hl 6 rfl) ?_
    refine lv_iconst (v := 4) hx hb dX12_spreads_167 (by decide) ?_
    refine lv_icmp_ge (tgt := 265) hx hb dX12_spreads_168 (by decide) (fun c1 => ?_) (fun c1 => ?_)
    · have i1 := m_c3 (by decide : (4 : Int32).toInt = 4) (rfl : y6.toInt = _) c1
      refine lv_goto (tgt := 49) hx hb dX12_spreads_265 (by decide) ?_
      exact O49 y3 gz (by omega) (by omega) μ hI (by exact hp) (hz) _ _ hW ls (lv_sub hl [0, 1, 2, 3] rfl)
    · have i1 := m_c4 (by decide : (4 : Int32).toInt = 4) (rfl : y6.toInt = _) c1
      refine lv_iload hx hb dX12_spreads_171 (lv_at hl 4 rfl) ?_
      refine lv_aload_n hx hb dX12_spreads_173 rfl (lv_at hl 0 rfl) ?_
      refine lv_iload hx hb dX12_spreads_174 (lv_at hl 6 rfl) ?_
      refine m_aI hW (m_runV (As := [.int y6]) (rest := [.int y4]) hx hb hml hown hts hW (81) (g_X12_stepX l D cy b y6 μ hI.1) mi_X12_stepX k_X12_193 rfl rfl rfl hl.1 rfl (Nat.le_of_ble_eq_true rfl) dX12_spreads_176 ⟨Nat.le_of_ble_eq_true rfl, Nat.le_of_ble_eq_true rfl⟩ ⟨Nat.le_of_ble_eq_true rfl, Nat.le_of_ble_eq_true rfl⟩) (fun x2 μ2 H locs q2 hW => ?_)
      obtain ⟨q2_m, q2⟩ := q2
      subst q2_m
      refine lv_iadd hx hb dX12_spreads_179 ?_
      refine lv_topi (fun x3 ex3 => ?_)
      have tx3 : x3.toInt = y4.toInt + x2.toInt := m_addI ex3 (rfl : y4.toInt = _) (rfl : x2.toInt = _) (by omega) (by omega)
      refine lv_istore (lv' := [(7, .int x3), (0, .ref (b + 81)), (1, .int d), (2, .int k), (3, .int y3), (4, .int y4), (5, .int y5), (6, .int y6)]) hx hb dX12_spreads_180 hl (by decide) rfl (fun ls hl => ?_)
      refine lv_iload hx hb dX12_spreads_182 (lv_at hl 6 rfl) ?_
      refine lv_aload_n hx hb dX12_spreads_184 rfl (lv_at hl 1 rfl) ?_
      refine lv_iload hx hb dX12_spreads_185 (lv_at hl 7 rfl) ?_
      refine m_aI hW (m_runV (As := [.int y6]) (rest := [.int y5]) hx hb hml hown hts hW (81) (g_X12_stepY l D cy b y6 μ hI.1) mi_X12_stepY k_X12_197 rfl rfl rfl hl.1 rfl (Nat.le_of_ble_eq_true rfl) dX12_spreads_187 ⟨Nat.le_of_ble_eq_true rfl, Nat.le_of_ble_eq_true rfl⟩ ⟨Nat.le_of_ble_eq_true rfl, Nat.le_of_ble_eq_true rfl⟩) (fun x4 μ4 H locs q4 hW => ?_)
      obtain ⟨q4_m, q4⟩ := q4
      subst q4_m
      refine lv_iadd hx hb dX12_spreads_190 ?_
      refine lv_topi (fun x5 ex5 => ?_)
      have tx5 : x5.toInt = y5.toInt + x4.toInt := m_addI ex5 (rfl : y5.toInt = _) (rfl : x4.toInt = _) (by omega) (by omega)
      refine lv_istore (lv' := [(8, .int x5), (7, .int x3), (0, .ref (b + 81)), (1, .int d), (2, .int k), (3, .int y3), (4, .int y4), (5, .int y5), (6, .int y6)]) hx hb dX12_spreads_191 hl (by decide) rfl (fun ls hl => ?_)
      refine lv_aload_n hx hb dX12_spreads_193 rfl (lv_at hl 2 rfl) ?_
      refine lv_iload_n hx hb dX12_spreads_194 rfl (lv_at hl 3 rfl) ?_
      refine lv_iload hx hb dX12_spreads_195 (lv_at hl 1 rfl) ?_
      refine lv_iload hx hb dX12_spreads_197 (lv_at hl 0 rfl) ?_
      refine m_aI hW (m_runV (As := [.int d, .int x3, .int x5]) (rest := []) hx hb hml hown hts hW (81) (g_X12_isThere l D cy b d x3 x5 (by omega) μ hI.1) mi_X12_isThere k_X12_200 rfl rfl rfl hl.1 rfl (Nat.le_of_ble_eq_true rfl) dX12_spreads_199 ⟨Nat.le_of_ble_eq_true rfl, Nat.le_of_ble_eq_true rfl⟩ ⟨Nat.le_of_ble_eq_true rfl, Nat.le_of_ble_eq_true rfl⟩) (fun x6 μ6 H locs q6 hW => ?_)
      obtain ⟨q6_m, q6⟩ := q6
      subst q6_m
      rcases q6 with ⟨rfl, q6⟩ | ⟨rfl, q6⟩
      · refine lv_if_eq (tgt := 259) hx hb dX12_spreads_202 (by decide) (fun c => False.elim (by revert c; decide)) (fun _ => ?_)
        refine lv_aload_n hx hb dX12_spreads_205 rfl (lv_at hl 2 rfl) ?_
        refine m_getr hx hb hts hown hW (81) 28 (101) rfl rfl cw_12 rfl (by decide) k_X12_80 dX12_spreads_206 ?_
        refine lv_bipush (v := 16) hx hb dX12_spreads_209 (by decide) ?_
        refine lv_iload hx hb dX12_spreads_211 (lv_at hl 0 rfl) ?_
        refine lv_imul hx hb dX12_spreads_213 ?_
        refine lv_topi (fun x7 ex7 => ?_)
        have tx7 : x7.toInt = 16 * x5.toInt := m_mulI ex7 (by decide : (16 : Int32).toInt = 16) (rfl : x5.toInt = _) (by omega) (by omega)
        refine lv_iload hx hb dX12_spreads_214 (lv_at hl 1 rfl) ?_
        refine lv_iadd hx hb dX12_spreads_216 ?_
        refine lv_topi (fun x8 ex8 => ?_)
        have tx8 : x8.toInt = x7.toInt + x3.toInt := m_addI ex8 (rfl : x7.toInt = _) (rfl : x3.toInt = _) (by omega) (by omega)
        refine m_iald hx hb hW (101) rfl (m_ixI (rfl : x8.toInt = _) (by omega) (by omega)) dX12_spreads_217 ?_
        refine lv_topi (fun x9 ex9 => ?_)
        have bx9 : 0 ≤ x9.toInt ∧ x9.toInt ≤ 192 := by rw [ex9]; exact hI.1 _ _ _ _ rfl
        refine lv_if_le (tgt := 224) hx hb dX12_spreads_218 (by decide) (fun c10 => ?_) (fun c10 => ?_)
        · have i10 := m_c3 (rfl : x9.toInt = _) (by decide : (0 : Int32).toInt = 0) c10
          refine lv_aload_n hx hb dX12_spreads_224 rfl (lv_at hl 2 rfl) ?_
          refine m_getr hx hb hts hown hW (81) 28 (101) rfl rfl cw_12 rfl (by decide) k_X12_80 dX12_spreads_225 ?_
          refine lv_bipush (v := 16) hx hb dX12_spreads_228 (by decide) ?_
          refine lv_iload hx hb dX12_spreads_230 (lv_at hl 0 rfl) ?_
          refine lv_imul hx hb dX12_spreads_232 ?_
          refine lv_topi (fun x11 ex11 => ?_)
          have ex11 : x11 = x7 := ex11.trans ex7.symm
          have ex11 := ex11.symm
          subst ex11
          refine lv_iload hx hb dX12_spreads_233 (lv_at hl 1 rfl) ?_
          refine lv_iadd hx hb dX12_spreads_235 ?_
          refine lv_topi (fun x12 ex12 => ?_)
          have ex12 : x12 = x8 := ex12.trans ex8.symm
          have ex12 := ex12.symm
          subst ex12
          refine lv_aload_n hx hb dX12_spreads_236 rfl (lv_at hl 2 rfl) ?_
          refine m_geti hx hb hts hown hW (81) 30 rfl rfl cw_12 rfl (by decide) k_X12_226 dX12_spreads_237 ?_
          refine lv_topi (fun x13 ex13 => ?_)
          have ex13 : x13 = pv := by rw [ex13]; exact hp
          have ex13 := ex13.symm
          subst ex13
          refine m_iast hx hb hW (101) rfl (m_ixI (rfl : x8.toInt = _) (by omega) (by omega)) dX12_spreads_240 (fun H locs hW _ => ?_)
          generalize hμ14 : m_si μ (101) (x8 : Int32).toNatClampNeg pv = μ14 at hW
          obtain ⟨z15, hz15⟩ : ∃ n, m_zn (μ14.1 101) 192 = n := ⟨_, rfl⟩
          have hcz15 : z15 + 1 = gz := by rw [← hz15, ← hz, ← hμ14]; exact m_zn_set (m_ck (by omega)) (by rw [show μ.1 101 (x8 : Int32).toNatClampNeg = x9 from ex9.symm]; omega) (by omega)
          have hI := hI.si1 hμ14 rfl (by omega) hS22
          refine lv_aload_n hx hb dX12_spreads_241 rfl (lv_at hl 2 rfl) ?_
          refine m_getr hx hb hts hown hW (81) 29 (102) rfl rfl cw_12 rfl (by decide) k_X12_83 dX12_spreads_242 ?_
          refine lv_iload_n hx hb dX12_spreads_245 rfl (lv_at hl 5 rfl) ?_
          refine lv_bipush (v := 16) hx hb dX12_spreads_246 (by decide) ?_
          refine lv_iload hx hb dX12_spreads_248 (lv_at hl 0 rfl) ?_
          refine lv_imul hx hb dX12_spreads_250 ?_
          refine lv_topi (fun x16 ex16 => ?_)
          have ex16 : x16 = x7 := ex16.trans ex7.symm
          have ex16 := ex16.symm
          subst ex16
          refine lv_iload hx hb dX12_spreads_251 (lv_at hl 1 rfl) ?_
          refine lv_iadd hx hb dX12_spreads_253 ?_
          refine lv_topi (fun x17 ex17 => ?_)
          have ex17 : x17 = x8 := ex17.trans ex8.symm
          have ex17 := ex17.symm
          subst ex17
          refine m_iast hx hb hW (102) rfl (m_ixI (rfl : y3.toInt = _) (by omega) (by omega)) dX12_spreads_254 (fun H locs hW _ => ?_)
          generalize hμ18 : m_si μ14 (102) (y3 : Int32).toNatClampNeg x8 = μ18 at hW
          have hz15 : m_zn (μ18.1 101) 192 = z15 := by rw [← hμ18, m_si_row (by decide)]; exact hz15
          have hI := hI.si1 hμ18 rfl (by omega) hS22
          refine lv_iload_n hx hb dX12_spreads_255 rfl (lv_at hl 5 rfl) ?_
          refine lv_iconst (v := 1) hx hb dX12_spreads_256 (by decide) ?_
          refine lv_iadd hx hb dX12_spreads_257 ?_
          refine lv_topi (fun x19 ex19 => ?_)
          have tx19 : x19.toInt = y3.toInt + 1 := m_addI ex19 (rfl : y3.toInt = _) (by decide : (1 : Int32).toInt = 1) (by omega) (by omega)
          refine lv_istore_n (lv' := [(3, .int x19), (8, .int x5), (7, .int x3), (0, .ref (b + 81)), (1, .int d), (2, .int k), (4, .int y4), (5, .int y5), (6, .int y6)]) hx hb dX12_spreads_258 rfl hl (by decide) rfl (fun ls hl => ?_)
          obtain ⟨x20, ex20⟩ : ∃ z : Int32, z = y6 + 1 := ⟨_, rfl⟩
          refine lv_iinc (v := x20) (lv' := [(6, .int x20), (3, .int x19), (8, .int x5), (7, .int x3), (0, .ref (b + 81)), (1, .int d), (2, .int k), (4, .int y4), (5, .int y5)]) hx hb dX12_spreads_259 hl (k := 8) rfl (by rw [ex20]; rfl) (by decide) rfl (fun ls hl => ?_)
          have tx20 : x20.toInt = y6.toInt + 1 := m_addI ex20 (rfl : y6.toInt = _) (by decide : (1 : Int32).toInt = 1) (by omega) (by omega)
          refine lv_goto (tgt := 165) hx hb dX12_spreads_262 (by decide) ?_
          exact ih x19 y4 y5 x20 z15 (by omega) (by omega) μ18 hI (by rw [← hμ18, ← hμ14]; exact hp) (hz15) _ _ hW ls (lv_sub hl [4, 5, 6, 1, 7, 8, 0] rfl)
        · have i10 := m_c4 (rfl : x9.toInt = _) (by decide : (0 : Int32).toInt = 0) c10
          refine lv_goto (tgt := 259) hx hb dX12_spreads_221 (by decide) ?_
          obtain ⟨x21, ex21⟩ : ∃ z : Int32, z = y6 + 1 := ⟨_, rfl⟩
          refine lv_iinc (v := x21) (lv' := [(6, .int x21), (8, .int x5), (7, .int x3), (0, .ref (b + 81)), (1, .int d), (2, .int k), (3, .int y3), (4, .int y4), (5, .int y5)]) hx hb dX12_spreads_259 hl (k := 8) rfl (by rw [ex21]; rfl) (by decide) rfl (fun ls hl => ?_)
          have tx21 : x21.toInt = y6.toInt + 1 := m_addI ex21 (rfl : y6.toInt = _) (by decide : (1 : Int32).toInt = 1) (by omega) (by omega)
          refine lv_goto (tgt := 165) hx hb dX12_spreads_262 (by decide) ?_
          exact ih y3 y4 y5 x21 gz (by omega) (by omega) μ hI (by exact hp) (hz) _ _ hW ls (lv_sub hl [3, 4, 5, 6, 7, 8, 0] rfl)
      · refine lv_if_eq (tgt := 259) hx hb dX12_spreads_202 (by decide) (fun _ => ?_) (fun c => False.elim (by revert c; decide))
        obtain ⟨x22, ex22⟩ : ∃ z : Int32, z = y6 + 1 := ⟨_, rfl⟩
        refine lv_iinc (v := x22) (lv' := [(6, .int x22), (8, .int x5), (7, .int x3), (0, .ref (b + 81)), (1, .int d), (2, .int k), (3, .int y3), (4, .int y4), (5, .int y5)]) hx hb dX12_spreads_259 hl (k := 8) rfl (by rw [ex22]; rfl) (by decide) rfl (fun ls hl => ?_)
        have tx22 : x22.toInt = y6.toInt + 1 := m_addI ex22 (rfl : y6.toInt = _) (by decide : (1 : Int32).toInt = 1) (by omega) (by omega)
        refine lv_goto (tgt := 165) hx hb dX12_spreads_262 (by decide) ?_
        exact ih y3 y4 y5 x22 gz (by omega) (by omega) μ hI (by exact hp) (hz) _ _ hW ls (lv_sub hl [3, 4, 5, 6, 7, 8, 0] rfl)
set_option maxHeartbeats 4000000 in
set_option maxRecDepth 100000 in
theorem L_X12_spreads_49 {p : Program} {l : Launch} {e : Env} {s : State} {m : MethodId} {args : Array Value} {below : List Frame} {meth : Method} {c : Code} {D : va_G} {cy : Nat → ClassId} {b : Nat} (hx : p.tables.exec = Jvm.exec) (hb : c.code = cX12_spreads) (hr : meth.sig.returnType = (none)) (hml : c.maxLocals = 9) (hown : s.vm.findClass RX12 = some m.cls) (hts : ∀ w ∈ TB, w.before args s = true) (hlocks : meth.locks = false) (S : Nat → Bool) (μ0 : mM) (hS22 : S 22 = true) (pv : Int32) (h_pv : 1 ≤ pv.toInt ∧ pv.toInt ≤ 192) (d k : Int32) (h_d : 0 ≤ d.toInt ∧ d.toInt ≤ 1) (h_k : 0 ≤ k.toInt ∧ k.toInt ≤ 191) : ∀ (f : Nat), ∀ (y3 : Int32) (gz : Nat) (hy : 0 ≤ y3.toInt ∧ y3.toInt ≤ 192 ∧ y3.toInt + gz ≤ 192) (hf : y3.toInt + 2 * gz < (f : Int)) (μ : mM) (hI : IY S μ0 μ) (hp : μ.1 81 30 = pv) (hz : m_zn (μ.1 101) 192 = gz) (H : Heap) (locs : List Loc), m_WA (m_A b LAY) D cy s b LAY μ H locs → ∀ ls : Array Slot, lv_has ls 9 [(0, .ref (b + 81)), (1, .int d), (2, .int k), (3, .int y3)] → W p l e (m_R 2 0 0) s m args below meth c H locs 0 0 (MQ below (m_Qv D cy b LAY (fun ν => IY S μ0 ν ∧ (True))) args s 0 0 (m_A b LAY)) (F0 m 49 ls []) := by
  intro f
  induction f with
  | zero => intro y3 gz hy hf; exfalso; omega
  | succ f ih =>
    intro y3 gz hy hf μ hI hp hz H locs hW ls hl
    refine lv_iload_n hx hb dX12_spreads_49 rfl (lv_at hl 3 rfl) ?_
    refine lv_if_le (tgt := 268) hx hb dX12_spreads_50 (by decide) (fun c1 => ?_) (fun c1 => ?_)
    · have i1 := m_c3 (rfl : y3.toInt = _) (by decide : (0 : Int32).toInt = 0) c1
      exact m_vret hx hb hr hlocks hW (⟨hI, trivial⟩) dX12_spreads_268
    · have i1 := m_c4 (rfl : y3.toInt = _) (by decide : (0 : Int32).toInt = 0) c1
      refine lv_iload_n hx hb dX12_spreads_53 rfl (lv_at hl 3 rfl) ?_
      refine lv_iconst (v := 1) hx hb dX12_spreads_54 (by decide) ?_
      refine lv_isub hx hb dX12_spreads_55 ?_
      refine lv_topi (fun x2 ex2 => ?_)
      have tx2 : x2.toInt = y3.toInt - 1 := m_subI ex2 (rfl : y3.toInt = _) (by decide : (1 : Int32).toInt = 1) (by omega) (by omega)
      refine lv_istore_n (lv' := [(3, .int x2), (0, .ref (b + 81)), (1, .int d), (2, .int k)]) hx hb dX12_spreads_56 rfl hl (by decide) rfl (fun ls hl => ?_)
      refine lv_aload_n hx hb dX12_spreads_57 rfl (lv_at hl 1 rfl) ?_
      refine m_getr hx hb hts hown hW (81) 29 (102) rfl rfl cw_12 rfl (by decide) k_X12_83 dX12_spreads_58 ?_
      refine lv_iload_n hx hb dX12_spreads_61 rfl (lv_at hl 0 rfl) ?_
      refine m_iald hx hb hW (102) rfl (m_ixI (rfl : x2.toInt = _) (by omega) (by omega)) dX12_spreads_62 ?_
      refine lv_topi (fun x3 ex3 => ?_)
      have bx3 : 0 ≤ x3.toInt ∧ x3.toInt ≤ 191 := by rw [ex3]; exact hI.1 _ _ _ _ rfl
      refine lv_bipush (v := 16) hx hb dX12_spreads_63 (by decide) ?_
      refine lv_irem hx hb dX12_spreads_65 (by decide) ?_
      refine lv_topi (fun x4 ex4 => ?_)
      have tx4 : x4.toInt = x3.toInt % 16 := m_remI ex4 (rfl : x3.toInt = _) (by decide : (16 : Int32).toInt = 16) (by omega) (by decide)
      refine lv_istore (lv' := [(4, .int x4), (3, .int x2), (0, .ref (b + 81)), (1, .int d), (2, .int k)]) hx hb dX12_spreads_66 hl (by decide) rfl (fun ls hl => ?_)
      refine lv_aload_n hx hb dX12_spreads_68 rfl (lv_at hl 2 rfl) ?_
      refine m_getr hx hb hts hown hW (81) 29 (102) rfl rfl cw_12 rfl (by decide) k_X12_83 dX12_spreads_69 ?_
      refine lv_iload_n hx hb dX12_spreads_72 rfl (lv_at hl 1 rfl) ?_
      refine m_iald hx hb hW (102) rfl (m_ixI (rfl : x2.toInt = _) (by omega) (by omega)) dX12_spreads_73 ?_
      refine lv_topi (fun x5 ex5 => ?_)
      have ex5 : x5 = x3 := by rw [ex5]; exact ex3.symm
      have ex5 := ex5.symm
      subst ex5
      refine lv_bipush (v := 16) hx hb dX12_spreads_74 (by decide) ?_
      refine lv_idiv hx hb dX12_spreads_76 (by decide) ?_
      refine lv_topi (fun x6 ex6 => ?_)
      have tx6 : x6.toInt = x3.toInt / 16 := m_divI ex6 (rfl : x3.toInt = _) (by decide : (16 : Int32).toInt = 16) (by omega) (by decide)
      refine lv_istore (lv' := [(5, .int x6), (4, .int x4), (3, .int x2), (0, .ref (b + 81)), (1, .int d), (2, .int k)]) hx hb dX12_spreads_77 hl (by decide) rfl (fun ls hl => ?_)
      refine lv_aload_n hx hb dX12_spreads_79 rfl (lv_at hl 3 rfl) ?_
      refine m_getr hx hb hts hown hW (81) 31 (103) rfl rfl cw_12 rfl (by decide) k_X12_86 dX12_spreads_80 ?_
      refine lv_aload_n hx hb dX12_spreads_83 rfl (lv_at hl 3 rfl) ?_
      refine m_geti hx hb hts hown hW (81) 30 rfl rfl cw_12 rfl (by decide) k_X12_226 dX12_spreads_84 ?_
      refine lv_topi (fun x7 ex7 => ?_)
      have ex7 : x7 = pv := by rw [ex7]; exact hp
      have ex7 := ex7.symm
      subst ex7
      refine lv_aload_n hx hb dX12_spreads_87 rfl (lv_at hl 3 rfl) ?_
      refine m_getr hx hb hts hown hW (81) 31 (103) rfl rfl cw_12 rfl (by decide) k_X12_86 dX12_spreads_88 ?_
      refine lv_aload_n hx hb dX12_spreads_91 rfl (lv_at hl 3 rfl) ?_
      refine m_geti hx hb hts hown hW (81) 30 rfl rfl cw_12 rfl (by decide) k_X12_226 dX12_spreads_92 ?_
      refine lv_topi (fun x8 ex8 => ?_)
      have ex8 : x8 = pv := by rw [ex8]; exact hp
      have ex8 := ex8.symm
      subst ex8
      refine m_iald hx hb hW (103) rfl (m_ixI (rfl : pv.toInt = _) (by omega) (by omega)) dX12_spreads_95 ?_
      refine lv_topi (fun x9 ex9 => ?_)
      refine lv_iconst (v := 1) hx hb dX12_spreads_96 (by decide) ?_
      refine lv_iadd hx hb dX12_spreads_97 ?_
      refine lv_topi (fun x10 ex10 => ?_)
      refine m_iast hx hb hW (103) rfl (m_ixI (rfl : pv.toInt = _) (by omega) (by omega)) dX12_spreads_98 (fun H locs hW _ => ?_)
      generalize hμ11 : m_si μ (103) (pv : Int32).toNatClampNeg x10 = μ11 at hW
      have hz : m_zn (μ11.1 101) 192 = gz := by rw [← hμ11, m_si_row (by decide)]; exact hz
      have hI := hI.si0 hμ11 rfl hS22
      refine lv_aload_n hx hb dX12_spreads_99 rfl (lv_at hl 3 rfl) ?_
      refine m_getr hx hb hts hown hW (81) 32 (104) rfl rfl cw_12 rfl (by decide) k_X12_89 dX12_spreads_100 ?_
      refine lv_aload_n hx hb dX12_spreads_103 rfl (lv_at hl 3 rfl) ?_
      refine m_geti hx hb hts hown hW (81) 30 rfl rfl cw_12 rfl (by decide) k_X12_226 dX12_spreads_104 ?_
      refine lv_topi (fun x12 ex12 => ?_)
      have ex12 : x12 = pv := by rw [ex12, ← hμ11]; exact hp
      have ex12 := ex12.symm
      subst ex12
      refine lv_aload_n hx hb dX12_spreads_107 rfl (lv_at hl 3 rfl) ?_
      refine m_getr hx hb hts hown hW (81) 32 (104) rfl rfl cw_12 rfl (by decide) k_X12_89 dX12_spreads_108 ?_
      refine lv_aload_n hx hb dX12_spreads_111 rfl (lv_at hl 3 rfl) ?_
      refine m_geti hx hb hts hown hW (81) 30 rfl rfl cw_12 rfl (by decide) k_X12_226 dX12_spreads_112 ?_
      refine lv_topi (fun x13 ex13 => ?_)
      have ex13 : x13 = pv := by rw [ex13, ← hμ11]; exact hp
      have ex13 := ex13.symm
      subst ex13
      refine m_iald hx hb hW (104) rfl (m_ixI (rfl : pv.toInt = _) (by omega) (by omega)) dX12_spreads_115 ?_
      refine lv_topi (fun x14 ex14 => ?_)
      refine lv_iload hx hb dX12_spreads_116 (lv_at hl 1 rfl) ?_
      refine lv_iadd hx hb dX12_spreads_118 ?_
      refine lv_topi (fun x15 ex15 => ?_)
      refine m_iast hx hb hW (104) rfl (m_ixI (rfl : pv.toInt = _) (by omega) (by omega)) dX12_spreads_119 (fun H locs hW _ => ?_)
      generalize hμ16 : m_si μ11 (104) (pv : Int32).toNatClampNeg x15 = μ16 at hW
      have hz : m_zn (μ16.1 101) 192 = gz := by rw [← hμ16, m_si_row (by decide)]; exact hz
      have hI := hI.si0 hμ16 rfl hS22
      refine lv_iload hx hb dX12_spreads_120 (lv_at hl 1 rfl) ?_
      refine lv_if_eq (tgt := 152) hx hb dX12_spreads_122 (by decide) (fun c17 => ?_) (fun c17 => ?_)
      · have i17 := m_c5 (rfl : x4.toInt = _) (by decide : (0 : Int32).toInt = 0) c17
        refine lv_aload_n hx hb dX12_spreads_152 rfl (lv_at hl 3 rfl) ?_
        refine m_getr hx hb hts hown hW (81) 33 (105) rfl rfl cw_12 rfl (by decide) k_X12_92 dX12_spreads_153 ?_
        refine lv_aload_n hx hb dX12_spreads_156 rfl (lv_at hl 3 rfl) ?_
        refine m_geti hx hb hts hown hW (81) 30 rfl rfl cw_12 rfl (by decide) k_X12_226 dX12_spreads_157 ?_
        refine lv_topi (fun x18 ex18 => ?_)
        have ex18 : x18 = pv := by rw [ex18, ← hμ16, ← hμ11]; exact hp
        have ex18 := ex18.symm
        subst ex18
        refine lv_iconst (v := 1) hx hb dX12_spreads_160 (by decide) ?_
        refine m_zast hx hb hW (105) rfl (m_ixI (rfl : pv.toInt = _) (by omega) (by omega)) (by decide) dX12_spreads_161 (fun H locs hW _ => ?_)
        generalize hμ19 : m_si μ16 (105) (pv : Int32).toNatClampNeg 1 = μ19 at hW
        have hz : m_zn (μ19.1 101) 192 = gz := by rw [← hμ19, m_si_row (by decide)]; exact hz
        have hI := hI.si1 hμ19 rfl (by decide) hS22
        refine lv_iconst (v := 0) hx hb dX12_spreads_162 (by decide) ?_
        refine lv_istore (lv' := [(6, .int 0), (5, .int x6), (4, .int x4), (3, .int x2), (0, .ref (b + 81)), (1, .int d), (2, .int k)]) hx hb dX12_spreads_163 hl (by decide) rfl (fun ls hl => ?_)
        have l_0 : (0 : Int32).toInt = 0 := by decide
        exact L_X12_spreads_165 hx hb hr hml hown hts hlocks S μ0 hS22 pv h_pv d k h_d h_k f ih 5 x2 x4 x6 0 gz (by omega) (by omega) μ19 hI (by rw [← hμ19, ← hμ16, ← hμ11]; exact hp) (hz) _ _ hW ls (lv_sub hl [4, 5, 6, 3, 2, 1, 0] rfl)
      · have i17 := m_c6 (rfl : x4.toInt = _) (by decide : (0 : Int32).toInt = 0) c17
        refine lv_iload hx hb dX12_spreads_125 (lv_at hl 0 rfl) ?_
        refine lv_if_eq (tgt := 152) hx hb dX12_spreads_127 (by decide) (fun c20 => ?_) (fun c20 => ?_)
        · have i20 := m_c5 (rfl : x6.toInt = _) (by decide : (0 : Int32).toInt = 0) c20
          refine lv_aload_n hx hb dX12_spreads_152 rfl (lv_at hl 3 rfl) ?_
          refine m_getr hx hb hts hown hW (81) 33 (105) rfl rfl cw_12 rfl (by decide) k_X12_92 dX12_spreads_153 ?_
          refine lv_aload_n hx hb dX12_spreads_156 rfl (lv_at hl 3 rfl) ?_
          refine m_geti hx hb hts hown hW (81) 30 rfl rfl cw_12 rfl (by decide) k_X12_226 dX12_spreads_157 ?_
          refine lv_topi (fun x21 ex21 => ?_)
          have ex21 : x21 = pv := by rw [ex21, ← hμ16, ← hμ11]; exact hp
          have ex21 := ex21.symm
          subst ex21
          refine lv_iconst (v := 1) hx hb dX12_spreads_160 (by decide) ?_
          refine m_zast hx hb hW (105) rfl (m_ixI (rfl : pv.toInt = _) (by omega) (by omega)) (by decide) dX12_spreads_161 (fun H locs hW _ => ?_)
          generalize hμ22 : m_si μ16 (105) (pv : Int32).toNatClampNeg 1 = μ22 at hW
          have hz : m_zn (μ22.1 101) 192 = gz := by rw [← hμ22, m_si_row (by decide)]; exact hz
          have hI := hI.si1 hμ22 rfl (by decide) hS22
          refine lv_iconst (v := 0) hx hb dX12_spreads_162 (by decide) ?_
          refine lv_istore (lv' := [(6, .int 0), (5, .int x6), (4, .int x4), (3, .int x2), (0, .ref (b + 81)), (1, .int d), (2, .int k)]) hx hb dX12_spreads_163 hl (by decide) rfl (fun ls hl => ?_)
          have l_0 : (0 : Int32).toInt = 0 := by decide
          exact L_X12_spreads_165 hx hb hr hml hown hts hlocks S μ0 hS22 pv h_pv d k h_d h_k f ih 5 x2 x4 x6 0 gz (by omega) (by omega) μ22 hI (by rw [← hμ22, ← hμ16, ← hμ11]; exact hp) (hz) _ _ hW ls (lv_sub hl [4, 5, 6, 3, 2, 1, 0] rfl)
        · have i20 := m_c6 (rfl : x6.toInt = _) (by decide : (0 : Int32).toInt = 0) c20
          refine lv_iload hx hb dX12_spreads_130 (lv_at hl 1 rfl) ?_
          refine lv_aload_n hx hb dX12_spreads_132 rfl (lv_at hl 3 rfl) ?_
          refine m_geti hx hb hts hown hW (81) 6 rfl rfl cw_12 rfl (by decide) k_X12_177 dX12_spreads_133 ?_
          refine lv_topi (fun x23 ex23 => ?_)
          have bx23 : 0 ≤ x23.toInt ∧ x23.toInt ≤ 16 := by rw [ex23]; exact hI.1 _ _ _ _ rfl
          refine lv_iconst (v := 1) hx hb dX12_spreads_136 (by decide) ?_
          refine lv_isub hx hb dX12_spreads_137 ?_
          refine lv_topi (fun x24 ex24 => ?_)
          have tx24 : x24.toInt = x23.toInt - 1 := m_subI ex24 (rfl : x23.toInt = _) (by decide : (1 : Int32).toInt = 1) (by omega) (by omega)
          refine lv_icmp_eq (tgt := 152) hx hb dX12_spreads_138 (by decide) (fun c25 => ?_) (fun c25 => ?_)
          · have i25 := m_c5 (rfl : x4.toInt = _) (rfl : x24.toInt = _) c25
            refine lv_aload_n hx hb dX12_spreads_152 rfl (lv_at hl 3 rfl) ?_
            refine m_getr hx hb hts hown hW (81) 33 (105) rfl rfl cw_12 rfl (by decide) k_X12_92 dX12_spreads_153 ?_
            refine lv_aload_n hx hb dX12_spreads_156 rfl (lv_at hl 3 rfl) ?_
            refine m_geti hx hb hts hown hW (81) 30 rfl rfl cw_12 rfl (by decide) k_X12_226 dX12_spreads_157 ?_
            refine lv_topi (fun x26 ex26 => ?_)
            have ex26 : x26 = pv := by rw [ex26, ← hμ16, ← hμ11]; exact hp
            have ex26 := ex26.symm
            subst ex26
            refine lv_iconst (v := 1) hx hb dX12_spreads_160 (by decide) ?_
            refine m_zast hx hb hW (105) rfl (m_ixI (rfl : pv.toInt = _) (by omega) (by omega)) (by decide) dX12_spreads_161 (fun H locs hW _ => ?_)
            generalize hμ27 : m_si μ16 (105) (pv : Int32).toNatClampNeg 1 = μ27 at hW
            have hz : m_zn (μ27.1 101) 192 = gz := by rw [← hμ27, m_si_row (by decide)]; exact hz
            have hI := hI.si1 hμ27 rfl (by decide) hS22
            refine lv_iconst (v := 0) hx hb dX12_spreads_162 (by decide) ?_
            refine lv_istore (lv' := [(6, .int 0), (5, .int x6), (4, .int x4), (3, .int x2), (0, .ref (b + 81)), (1, .int d), (2, .int k)]) hx hb dX12_spreads_163 hl (by decide) rfl (fun ls hl => ?_)
            have l_0 : (0 : Int32).toInt = 0 := by decide
            exact L_X12_spreads_165 hx hb hr hml hown hts hlocks S μ0 hS22 pv h_pv d k h_d h_k f ih 5 x2 x4 x6 0 gz (by omega) (by omega) μ27 hI (by rw [← hμ27, ← hμ16, ← hμ11]; exact hp) (hz) _ _ hW ls (lv_sub hl [4, 5, 6, 3, 2, 1, 0] rfl)
          · have i25 := m_c6 (rfl : x4.toInt = _) (rfl : x24.toInt = _) c25
            refine lv_iload hx hb dX12_spreads_141 (lv_at hl 0 rfl) ?_
            refine lv_aload_n hx hb dX12_spreads_143 rfl (lv_at hl 3 rfl) ?_
            refine m_geti hx hb hts hown hW (81) 7 rfl rfl cw_12 rfl (by decide) k_X12_180 dX12_spreads_144 ?_
            refine lv_topi (fun x28 ex28 => ?_)
            have bx28 : 0 ≤ x28.toInt ∧ x28.toInt ≤ 12 := by rw [ex28]; exact hI.1 _ _ _ _ rfl
            refine lv_iconst (v := 1) hx hb dX12_spreads_147 (by decide) ?_
            refine lv_isub hx hb dX12_spreads_148 ?_
            refine lv_topi (fun x29 ex29 => ?_)
            have tx29 : x29.toInt = x28.toInt - 1 := m_subI ex29 (rfl : x28.toInt = _) (by decide : (1 : Int32).toInt = 1) (by omega) (by omega)
            refine lv_icmp_ne (tgt := 162) hx hb dX12_spreads_149 (by decide) (fun c30 => ?_) (fun c30 => ?_)
            · have i30 := m_c6 (rfl : x6.toInt = _) (rfl : x29.toInt = _) c30
              refine lv_iconst (v := 0) hx hb dX12_spreads_162 (by decide) ?_
              refine lv_istore (lv' := [(6, .int 0), (5, .int x6), (4, .int x4), (3, .int x2), (0, .ref (b + 81)), (1, .int d), (2, .int k)]) hx hb dX12_spreads_163 hl (by decide) rfl (fun ls hl => ?_)
              have l_0 : (0 : Int32).toInt = 0 := by decide
              exact L_X12_spreads_165 hx hb hr hml hown hts hlocks S μ0 hS22 pv h_pv d k h_d h_k f ih 5 x2 x4 x6 0 gz (by omega) (by omega) μ16 hI (by rw [← hμ16, ← hμ11]; exact hp) (hz) _ _ hW ls (lv_sub hl [4, 5, 6, 3, 2, 1, 0] rfl)
            · have i30 := m_c5 (rfl : x6.toInt = _) (rfl : x29.toInt = _) c30
              refine lv_aload_n hx hb dX12_spreads_152 rfl (lv_at hl 3 rfl) ?_
              refine m_getr hx hb hts hown hW (81) 33 (105) rfl rfl cw_12 rfl (by decide) k_X12_92 dX12_spreads_153 ?_
              refine lv_aload_n hx hb dX12_spreads_156 rfl (lv_at hl 3 rfl) ?_
              refine m_geti hx hb hts hown hW (81) 30 rfl rfl cw_12 rfl (by decide) k_X12_226 dX12_spreads_157 ?_
              refine lv_topi (fun x31 ex31 => ?_)
              have ex31 : x31 = pv := by rw [ex31, ← hμ16, ← hμ11]; exact hp
              have ex31 := ex31.symm
              subst ex31
              refine lv_iconst (v := 1) hx hb dX12_spreads_160 (by decide) ?_
              refine m_zast hx hb hW (105) rfl (m_ixI (rfl : pv.toInt = _) (by omega) (by omega)) (by decide) dX12_spreads_161 (fun H locs hW _ => ?_)
              generalize hμ32 : m_si μ16 (105) (pv : Int32).toNatClampNeg 1 = μ32 at hW
              have hz : m_zn (μ32.1 101) 192 = gz := by rw [← hμ32, m_si_row (by decide)]; exact hz
              have hI := hI.si1 hμ32 rfl (by decide) hS22
              refine lv_iconst (v := 0) hx hb dX12_spreads_162 (by decide) ?_
              refine lv_istore (lv' := [(6, .int 0), (5, .int x6), (4, .int x4), (3, .int x2), (0, .ref (b + 81)), (1, .int d), (2, .int k)]) hx hb dX12_spreads_163 hl (by decide) rfl (fun ls hl => ?_)
              have l_0 : (0 : Int32).toInt = 0 := by decide
              exact L_X12_spreads_165 hx hb hr hml hown hts hlocks S μ0 hS22 pv h_pv d k h_d h_k f ih 5 x2 x4 x6 0 gz (by omega) (by omega) μ32 hI (by rw [← hμ32, ← hμ16, ← hμ11]; exact hp) (hz) _ _ hW ls (lv_sub hl [4, 5, 6, 3, 2, 1, 0] rfl)
set_option maxHeartbeats 4000000 in
set_option maxRecDepth 100000 in
theorem g_X12_spreads (l : Launch) (D : va_G) (cy : Nat → ClassId) (b : Nat) (S : Nat → Bool) (μ0 : mM) (hS22 : S 22 = true) (pv : Int32) (h_pv : 1 ≤ pv.toInt ∧ pv.toInt ≤ 192) (d k : Int32) (h_d : 0 ≤ d.toInt ∧ d.toInt ≤ 1) (h_k : 0 ≤ k.toInt ∧ k.toInt ≤ 191) (μ : mM) (hI : IY S μ0 μ) (hp : μ.1 81 30 = pv) : m_Cv l yX12_spreads cX12_spreads 9 (none) 2 D cy b LAY μ [.ref (b + 81), .int d, .int k] (fun ν => IY S μ0 ν ∧ (True)) := by
  unfold m_Cv
  refine m_of (by decide) (Nat.le_of_ble_eq_true rfl) ?_
  intro p e s m below meth c hx hb hr hml hown hts hlocks _ hW ls hl
  have hown : s.vm.findClass RX12 = some m.cls := hown
  have hl : lv_has ls 9 [(0, .ref (b + 81)), (1, .int d), (2, .int k)] := hl
  refine lv_aload_n hx hb dX12_spreads_0 rfl (lv_at hl 0 rfl) ?_
  refine m_getr hx hb hts hown hW (81) 31 (103) rfl rfl cw_12 rfl (by decide) k_X12_86 dX12_spreads_1 ?_
  refine lv_aload_n hx hb dX12_spreads_4 rfl (lv_at hl 0 rfl) ?_
  refine m_geti hx hb hts hown hW (81) 30 rfl rfl cw_12 rfl (by decide) k_X12_226 dX12_spreads_5 ?_
  refine lv_topi (fun x1 ex1 => ?_)
  have ex1 : x1 = pv := by rw [ex1]; exact hp
  have ex1 := ex1.symm
  subst ex1
  refine lv_iconst (v := 0) hx hb dX12_spreads_8 (by decide) ?_
  refine m_iast hx hb hW (103) rfl (m_ixI (rfl : pv.toInt = _) (by omega) (by omega)) dX12_spreads_9 (fun H locs hW _ => ?_)
  generalize hμ2 : m_si μ (103) (pv : Int32).toNatClampNeg 0 = μ2 at hW
  have hI := hI.si0 hμ2 rfl hS22
  refine lv_aload_n hx hb dX12_spreads_10 rfl (lv_at hl 0 rfl) ?_
  refine m_getr hx hb hts hown hW (81) 32 (104) rfl rfl cw_12 rfl (by decide) k_X12_89 dX12_spreads_11 ?_
  refine lv_aload_n hx hb dX12_spreads_14 rfl (lv_at hl 0 rfl) ?_
  refine m_geti hx hb hts hown hW (81) 30 rfl rfl cw_12 rfl (by decide) k_X12_226 dX12_spreads_15 ?_
  refine lv_topi (fun x3 ex3 => ?_)
  have ex3 : x3 = pv := by rw [ex3, ← hμ2]; exact hp
  have ex3 := ex3.symm
  subst ex3
  refine lv_iconst (v := 0) hx hb dX12_spreads_18 (by decide) ?_
  refine m_iast hx hb hW (104) rfl (m_ixI (rfl : pv.toInt = _) (by omega) (by omega)) dX12_spreads_19 (fun H locs hW _ => ?_)
  generalize hμ4 : m_si μ2 (104) (pv : Int32).toNatClampNeg 0 = μ4 at hW
  have hI := hI.si0 hμ4 rfl hS22
  refine lv_aload_n hx hb dX12_spreads_20 rfl (lv_at hl 0 rfl) ?_
  refine m_getr hx hb hts hown hW (81) 33 (105) rfl rfl cw_12 rfl (by decide) k_X12_92 dX12_spreads_21 ?_
  refine lv_aload_n hx hb dX12_spreads_24 rfl (lv_at hl 0 rfl) ?_
  refine m_geti hx hb hts hown hW (81) 30 rfl rfl cw_12 rfl (by decide) k_X12_226 dX12_spreads_25 ?_
  refine lv_topi (fun x5 ex5 => ?_)
  have ex5 : x5 = pv := by rw [ex5, ← hμ4, ← hμ2]; exact hp
  have ex5 := ex5.symm
  subst ex5
  refine lv_iconst (v := 0) hx hb dX12_spreads_28 (by decide) ?_
  refine m_zast hx hb hW (105) rfl (m_ixI (rfl : pv.toInt = _) (by omega) (by omega)) (by decide) dX12_spreads_29 (fun H locs hW _ => ?_)
  generalize hμ6 : m_si μ4 (105) (pv : Int32).toNatClampNeg 0 = μ6 at hW
  have hI := hI.si1 hμ6 rfl (by decide) hS22
  refine lv_iconst (v := 1) hx hb dX12_spreads_30 (by decide) ?_
  refine lv_istore_n (lv' := [(3, .int 1), (0, .ref (b + 81)), (1, .int d), (2, .int k)]) hx hb dX12_spreads_31 rfl hl (by decide) rfl (fun ls hl => ?_)
  refine lv_aload_n hx hb dX12_spreads_32 rfl (lv_at hl 1 rfl) ?_
  refine m_getr hx hb hts hown hW (81) 29 (102) rfl rfl cw_12 rfl (by decide) k_X12_83 dX12_spreads_33 ?_
  refine lv_iconst (v := 0) hx hb dX12_spreads_36 (by decide) ?_
  refine lv_iload_n hx hb dX12_spreads_37 rfl (lv_at hl 3 rfl) ?_
  refine m_iast hx hb hW (102) rfl (vp_in_iff.mpr ⟨by decide, by decide⟩) dX12_spreads_38 (fun H locs hW _ => ?_)
  generalize hμ7 : m_si μ6 (102) (0 : Int32).toNatClampNeg k = μ7 at hW
  have hI := hI.si1 hμ7 rfl (by omega) hS22
  refine lv_aload_n hx hb dX12_spreads_39 rfl (lv_at hl 1 rfl) ?_
  refine m_getr hx hb hts hown hW (81) 28 (101) rfl rfl cw_12 rfl (by decide) k_X12_80 dX12_spreads_40 ?_
  refine lv_iload_n hx hb dX12_spreads_43 rfl (lv_at hl 3 rfl) ?_
  refine lv_aload_n hx hb dX12_spreads_44 rfl (lv_at hl 1 rfl) ?_
  refine m_geti hx hb hts hown hW (81) 30 rfl rfl cw_12 rfl (by decide) k_X12_226 dX12_spreads_45 ?_
  refine lv_topi (fun x8 ex8 => ?_)
  have ex8 : x8 = pv := by rw [ex8, ← hμ7, ← hμ6, ← hμ4, ← hμ2]; exact hp
  have ex8 := ex8.symm
  subst ex8
  refine m_iast hx hb hW (101) rfl (m_ixI (rfl : k.toInt = _) (by omega) (by omega)) dX12_spreads_48 (fun H locs hW _ => ?_)
  generalize hμ9 : m_si μ7 (101) (k : Int32).toNatClampNeg pv = μ9 at hW
  have hI := hI.si1 hμ9 rfl (by omega) hS22
  obtain ⟨gz0, hz0⟩ : ∃ n, m_zn (μ9.1 101) 192 = n := ⟨_, rfl⟩
  have hc0 : gz0 + 1 ≤ 192 := by rw [← hz0, ← hμ9]; exact m_zn_lt (c := k.toNatClampNeg) (by rw [m_si_at]; omega) 192 (m_ck (by omega))
  have l_1 : (1 : Int32).toInt = 1 := by decide
  exact L_X12_spreads_49 hx hb hr hml hown hts hlocks S μ0 hS22 pv h_pv d k h_d h_k  600 1 gz0 (by omega) (by omega) μ9 hI (by rw [← hμ9, ← hμ7, ← hμ6, ← hμ4, ← hμ2]; exact hp) (hz0) _ _ hW ls (lv_sub hl [1, 2, 3, 0] rfl)
set_option maxHeartbeats 4000000 in
set_option maxRecDepth 100000 in
theorem L_X12_findsParts_39 {p : Program} {l : Launch} {e : Env} {s : State} {m : MethodId} {args : Array Value} {below : List Frame} {meth : Method} {c : Code} {D : va_G} {cy : Nat → ClassId} {b : Nat} (hx : p.tables.exec = Jvm.exec) (hb : c.code = cX12_findsParts) (hr : meth.sig.returnType = (none)) (hml : c.maxLocals = 4) (hown : s.vm.findClass RX12 = some m.cls) (hts : ∀ w ∈ TB, w.before args s = true) (hlocks : meth.locks = false) (S : Nat → Bool) (μ0 : mM) (hS22 : S 22 = true) (hS32 : S 32 = true) (d : Int32) (h_d : 0 ≤ d.toInt ∧ d.toInt ≤ 1) (F29 : Nat) (O29 : ∀ (y2 : Int32) (pv : Int32) (hy : 0 ≤ y2.toInt ∧ y2.toInt ≤ 12 ∧ 0 ≤ pv.toInt ∧ pv.toInt ≤ 16 * y2.toInt) (hf : 12 - y2.toInt < (F29 : Int)) (μ : mM) (hI : IY S μ0 μ) (hp : μ.1 81 30 = pv) (H : Heap) (locs : List Loc), m_WA (m_A b LAY) D cy s b LAY μ H locs → ∀ ls : Array Slot, lv_has ls 4 [(0, .ref (b + 81)), (1, .int d), (2, .int y2)] → W p l e (m_R 3 0 0) s m args below meth c H locs 0 0 (MQ below (m_Qv D cy b LAY (fun ν => IY S μ0 ν ∧ (True))) args s 0 0 (m_A b LAY)) (F0 m 29 ls [])) : ∀ (f : Nat), ∀ (y2 y3 : Int32) (pv : Int32) (hy : 12 - y2.toInt < (F29 : Int) + 1 ∧ 0 ≤ y2.toInt ∧ y2.toInt ≤ 11 ∧ 0 ≤ y3.toInt ∧ y3.toInt ≤ 16 ∧ 0 ≤ y2.toInt ∧ y2.toInt ≤ 12 ∧ 0 ≤ pv.toInt ∧ pv.toInt ≤ 16 * y2.toInt + y3.toInt) (hf : 16 - y3.toInt < (f : Int)) (μ : mM) (hI : IY S μ0 μ) (hp : μ.1 81 30 = pv) (H : Heap) (locs : List Loc), m_WA (m_A b LAY) D cy s b LAY μ H locs → ∀ ls : Array Slot, lv_has ls 4 [(0, .ref (b + 81)), (1, .int d), (2, .int y2), (3, .int y3)] → W p l e (m_R 3 0 0) s m args below meth c H locs 0 0 (MQ below (m_Qv D cy b LAY (fun ν => IY S μ0 ν ∧ (True))) args s 0 0 (m_A b LAY)) (F0 m 39 ls []) := by
  intro f
  induction f with
  | zero => intro y2 y3 pv hy hf; exfalso; omega
  | succ f ih =>
    intro y2 y3 pv hy hf μ hI hp H locs hW ls hl
    refine lv_iload_n hx hb dX12_findsParts_39 rfl (lv_at hl 3 rfl) ?_
    refine lv_aload_n hx hb dX12_findsParts_40 rfl (lv_at hl 0 rfl) ?_
    refine m_geti hx hb hts hown hW (81) 6 rfl rfl cw_12 rfl (by decide) k_X12_177 dX12_findsParts_41 ?_
    refine lv_topi (fun x1 ex1 => ?_)
    have bx1 : 0 ≤ x1.toInt ∧ x1.toInt ≤ 16 := by rw [ex1]; exact hI.1 _ _ _ _ rfl
    refine lv_icmp_ge (tgt := 101) hx hb dX12_findsParts_44 (by decide) (fun c2 => ?_) (fun c2 => ?_)
    · have i2 := m_c3 (rfl : x1.toInt = _) (rfl : y3.toInt = _) c2
      obtain ⟨x3, ex3⟩ : ∃ z : Int32, z = y2 + 1 := ⟨_, rfl⟩
      refine lv_iinc (v := x3) (lv' := [(2, .int x3), (0, .ref (b + 81)), (1, .int d), (3, .int y3)]) hx hb dX12_findsParts_101 hl (k := 2) rfl (by rw [ex3]; rfl) (by decide) rfl (fun ls hl => ?_)
      have tx3 : x3.toInt = y2.toInt + 1 := m_addI ex3 (rfl : y2.toInt = _) (by decide : (1 : Int32).toInt = 1) (by omega) (by omega)
      refine lv_goto (tgt := 29) hx hb dX12_findsParts_104 (by decide) ?_
      exact O29 x3 pv (by omega) (by omega) μ hI (by exact hp) _ _ hW ls (lv_sub hl [1, 2, 0] rfl)
    · have i2 := m_c4 (rfl : x1.toInt = _) (rfl : y3.toInt = _) c2
      refine lv_aload_n hx hb dX12_findsParts_47 rfl (lv_at hl 0 rfl) ?_
      refine lv_iload_n hx hb dX12_findsParts_48 rfl (lv_at hl 1 rfl) ?_
      refine lv_iload_n hx hb dX12_findsParts_49 rfl (lv_at hl 3 rfl) ?_
      refine lv_iload_n hx hb dX12_findsParts_50 rfl (lv_at hl 2 rfl) ?_
      refine m_aI hW (m_runV (As := [.int d, .int y3, .int y2]) (rest := []) hx hb hml hown hts hW (81) (g_X12_isThere l D cy b d y3 y2 (by omega) μ hI.1) mi_X12_isThere k_X12_200 rfl rfl rfl hl.1 rfl (Nat.le_of_ble_eq_true rfl) dX12_findsParts_51 ⟨Nat.le_of_ble_eq_true rfl, Nat.le_of_ble_eq_true rfl⟩ ⟨Nat.le_of_ble_eq_true rfl, Nat.le_of_ble_eq_true rfl⟩) (fun x4 μ4 H locs q4 hW => ?_)
      obtain ⟨q4_m, q4⟩ := q4
      subst q4_m
      rcases q4 with ⟨rfl, q4⟩ | ⟨rfl, q4⟩
      · refine lv_if_eq (tgt := 95) hx hb dX12_findsParts_54 (by decide) (fun c => False.elim (by revert c; decide)) (fun _ => ?_)
        refine lv_aload_n hx hb dX12_findsParts_57 rfl (lv_at hl 0 rfl) ?_
        refine m_getr hx hb hts hown hW (81) 28 (101) rfl rfl cw_12 rfl (by decide) k_X12_80 dX12_findsParts_58 ?_
        refine lv_bipush (v := 16) hx hb dX12_findsParts_61 (by decide) ?_
        refine lv_iload_n hx hb dX12_findsParts_63 rfl (lv_at hl 2 rfl) ?_
        refine lv_imul hx hb dX12_findsParts_64 ?_
        refine lv_topi (fun x5 ex5 => ?_)
        have tx5 : x5.toInt = 16 * y2.toInt := m_mulI ex5 (by decide : (16 : Int32).toInt = 16) (rfl : y2.toInt = _) (by omega) (by omega)
        refine lv_iload_n hx hb dX12_findsParts_65 rfl (lv_at hl 3 rfl) ?_
        refine lv_iadd hx hb dX12_findsParts_66 ?_
        refine lv_topi (fun x6 ex6 => ?_)
        have tx6 : x6.toInt = x5.toInt + y3.toInt := m_addI ex6 (rfl : x5.toInt = _) (rfl : y3.toInt = _) (by omega) (by omega)
        refine m_iald hx hb hW (101) rfl (m_ixI (rfl : x6.toInt = _) (by omega) (by omega)) dX12_findsParts_67 ?_
        refine lv_topi (fun x7 ex7 => ?_)
        have bx7 : 0 ≤ x7.toInt ∧ x7.toInt ≤ 192 := by rw [ex7]; exact hI.1 _ _ _ _ rfl
        refine lv_if_le (tgt := 74) hx hb dX12_findsParts_68 (by decide) (fun c8 => ?_) (fun c8 => ?_)
        · have i8 := m_c3 (rfl : x7.toInt = _) (by decide : (0 : Int32).toInt = 0) c8
          refine lv_aload_n hx hb dX12_findsParts_74 rfl (lv_at hl 0 rfl) ?_
          refine lv_aload_n hx hb dX12_findsParts_75 rfl (lv_at hl 0 rfl) ?_
          refine m_geti hx hb hts hown hW (81) 30 rfl rfl cw_12 rfl (by decide) k_X12_226 dX12_findsParts_76 ?_
          refine lv_topi (fun x9 ex9 => ?_)
          have ex9 : x9 = pv := by rw [ex9]; exact hp
          have ex9 := ex9.symm
          subst ex9
          refine lv_iconst (v := 1) hx hb dX12_findsParts_79 (by decide) ?_
          refine lv_iadd hx hb dX12_findsParts_80 ?_
          refine lv_topi (fun x10 ex10 => ?_)
          have tx10 : x10.toInt = pv.toInt + 1 := m_addI ex10 (rfl : pv.toInt = _) (by decide : (1 : Int32).toInt = 1) (by omega) (by omega)
          refine m_puti hx hb hts hown hW (81) 30 rfl rfl cw_12 tyX12_ok nmX12 rfl (by decide) k_X12_226 rfl rfl rfl dX12_findsParts_81 (fun H locs hW _ => ?_)
          generalize hμ11 : m_si μ (81) 30 x10 = μ11 at hW
          have hI := hI.si1 hμ11 rfl (by omega) hS32
          refine lv_aload_n hx hb dX12_findsParts_84 rfl (lv_at hl 0 rfl) ?_
          refine lv_iload_n hx hb dX12_findsParts_85 rfl (lv_at hl 1 rfl) ?_
          refine lv_bipush (v := 16) hx hb dX12_findsParts_86 (by decide) ?_
          refine lv_iload_n hx hb dX12_findsParts_88 rfl (lv_at hl 2 rfl) ?_
          refine lv_imul hx hb dX12_findsParts_89 ?_
          refine lv_topi (fun x12 ex12 => ?_)
          have ex12 : x12 = x5 := ex12.trans ex5.symm
          have ex12 := ex12.symm
          subst ex12
          refine lv_iload_n hx hb dX12_findsParts_90 rfl (lv_at hl 3 rfl) ?_
          refine lv_iadd hx hb dX12_findsParts_91 ?_
          refine lv_topi (fun x13 ex13 => ?_)
          have ex13 : x13 = x6 := ex13.trans ex6.symm
          have ex13 := ex13.symm
          subst ex13
          refine m_aV hW (m_runV (As := [.int d, .int x6]) (rest := []) hx hb hml hown hts hW (81) (g_X12_spreads l D cy b (fun g => [22].contains g) μ11 rfl x10 (by omega) d x6 (by omega) (by omega) μ11 (IY.rf hI.1) (by rw [← hμ11]; first | rfl | exact if_pos ⟨rfl, rfl⟩)) mi_X12_spreads k_X12_229 rfl rfl rfl hl.1 rfl (Nat.le_of_ble_eq_true rfl) dX12_findsParts_92 ⟨Nat.le_of_ble_eq_true rfl, Nat.le_of_ble_eq_true rfl⟩ ⟨Nat.le_of_ble_eq_true rfl, Nat.le_of_ble_eq_true rfl⟩) (fun μ14 H locs q14 hW => ?_)
          obtain ⟨hJ14, q14⟩ := q14
          have hI := hI.tr hJ14 (m_subL (by simp [hS22]))
          obtain ⟨x15, ex15⟩ : ∃ z : Int32, z = y3 + 1 := ⟨_, rfl⟩
          refine lv_iinc (v := x15) (lv' := [(3, .int x15), (0, .ref (b + 81)), (1, .int d), (2, .int y2)]) hx hb dX12_findsParts_95 hl (k := 3) rfl (by rw [ex15]; rfl) (by decide) rfl (fun ls hl => ?_)
          have tx15 : x15.toInt = y3.toInt + 1 := m_addI ex15 (rfl : y3.toInt = _) (by decide : (1 : Int32).toInt = 1) (by omega) (by omega)
          refine lv_goto (tgt := 39) hx hb dX12_findsParts_98 (by decide) ?_
          exact ih y2 x15 x10 (by omega) (by omega) μ14 hI (by exact ((hJ14.2.1 81 30 rfl).trans (by rw [← hμ11]; first | rfl | exact if_pos ⟨rfl, rfl⟩))) _ _ hW ls (lv_sub hl [1, 2, 3, 0] rfl)
        · have i8 := m_c4 (rfl : x7.toInt = _) (by decide : (0 : Int32).toInt = 0) c8
          refine lv_goto (tgt := 95) hx hb dX12_findsParts_71 (by decide) ?_
          obtain ⟨x16, ex16⟩ : ∃ z : Int32, z = y3 + 1 := ⟨_, rfl⟩
          refine lv_iinc (v := x16) (lv' := [(3, .int x16), (0, .ref (b + 81)), (1, .int d), (2, .int y2)]) hx hb dX12_findsParts_95 hl (k := 3) rfl (by rw [ex16]; rfl) (by decide) rfl (fun ls hl => ?_)
          have tx16 : x16.toInt = y3.toInt + 1 := m_addI ex16 (rfl : y3.toInt = _) (by decide : (1 : Int32).toInt = 1) (by omega) (by omega)
          refine lv_goto (tgt := 39) hx hb dX12_findsParts_98 (by decide) ?_
          exact ih y2 x16 pv (by omega) (by omega) μ hI (by exact hp) _ _ hW ls (lv_sub hl [1, 2, 3, 0] rfl)
      · refine lv_if_eq (tgt := 95) hx hb dX12_findsParts_54 (by decide) (fun _ => ?_) (fun c => False.elim (by revert c; decide))
        obtain ⟨x17, ex17⟩ : ∃ z : Int32, z = y3 + 1 := ⟨_, rfl⟩
        refine lv_iinc (v := x17) (lv' := [(3, .int x17), (0, .ref (b + 81)), (1, .int d), (2, .int y2)]) hx hb dX12_findsParts_95 hl (k := 3) rfl (by rw [ex17]; rfl) (by decide) rfl (fun ls hl => ?_)
        have tx17 : x17.toInt = y3.toInt + 1 := m_addI ex17 (rfl : y3.toInt = _) (by decide : (1 : Int32).toInt = 1) (by omega) (by omega)
        refine lv_goto (tgt := 39) hx hb dX12_findsParts_98 (by decide) ?_
        exact ih y2 x17 pv (by omega) (by omega) μ hI (by exact hp) _ _ hW ls (lv_sub hl [1, 2, 3, 0] rfl)
set_option maxHeartbeats 4000000 in
set_option maxRecDepth 100000 in
theorem L_X12_findsParts_29 {p : Program} {l : Launch} {e : Env} {s : State} {m : MethodId} {args : Array Value} {below : List Frame} {meth : Method} {c : Code} {D : va_G} {cy : Nat → ClassId} {b : Nat} (hx : p.tables.exec = Jvm.exec) (hb : c.code = cX12_findsParts) (hr : meth.sig.returnType = (none)) (hml : c.maxLocals = 4) (hown : s.vm.findClass RX12 = some m.cls) (hts : ∀ w ∈ TB, w.before args s = true) (hlocks : meth.locks = false) (S : Nat → Bool) (μ0 : mM) (hS22 : S 22 = true) (hS32 : S 32 = true) (d : Int32) (h_d : 0 ≤ d.toInt ∧ d.toInt ≤ 1) : ∀ (f : Nat), ∀ (y2 : Int32) (pv : Int32) (hy : 0 ≤ y2.toInt ∧ y2.toInt ≤ 12 ∧ 0 ≤ pv.toInt ∧ pv.toInt ≤ 16 * y2.toInt) (hf : 12 - y2.toInt < (f : Int)) (μ : mM) (hI : IY S μ0 μ) (hp : μ.1 81 30 = pv) (H : Heap) (locs : List Loc), m_WA (m_A b LAY) D cy s b LAY μ H locs → ∀ ls : Array Slot, lv_has ls 4 [(0, .ref (b + 81)), (1, .int d), (2, .int y2)] → W p l e (m_R 3 0 0) s m args below meth c H locs 0 0 (MQ below (m_Qv D cy b LAY (fun ν => IY S μ0 ν ∧ (True))) args s 0 0 (m_A b LAY)) (F0 m 29 ls []) := by
  intro f
  induction f with
  | zero => intro y2 pv hy hf; exfalso; omega
  | succ f ih =>
    intro y2 pv hy hf μ hI hp H locs hW ls hl
    refine lv_iload_n hx hb dX12_findsParts_29 rfl (lv_at hl 2 rfl) ?_
    refine lv_aload_n hx hb dX12_findsParts_30 rfl (lv_at hl 0 rfl) ?_
    refine m_geti hx hb hts hown hW (81) 7 rfl rfl cw_12 rfl (by decide) k_X12_180 dX12_findsParts_31 ?_
    refine lv_topi (fun x1 ex1 => ?_)
    have bx1 : 0 ≤ x1.toInt ∧ x1.toInt ≤ 12 := by rw [ex1]; exact hI.1 _ _ _ _ rfl
    refine lv_icmp_ge (tgt := 107) hx hb dX12_findsParts_34 (by decide) (fun c2 => ?_) (fun c2 => ?_)
    · have i2 := m_c3 (rfl : x1.toInt = _) (rfl : y2.toInt = _) c2
      exact m_vret hx hb hr hlocks hW (⟨hI, trivial⟩) dX12_findsParts_107
    · have i2 := m_c4 (rfl : x1.toInt = _) (rfl : y2.toInt = _) c2
      refine lv_iconst (v := 0) hx hb dX12_findsParts_37 (by decide) ?_
      refine lv_istore_n (lv' := [(3, .int 0), (0, .ref (b + 81)), (1, .int d), (2, .int y2)]) hx hb dX12_findsParts_38 rfl hl (by decide) rfl (fun ls hl => ?_)
      have l_0 : (0 : Int32).toInt = 0 := by decide
      exact L_X12_findsParts_39 hx hb hr hml hown hts hlocks S μ0 hS22 hS32 d h_d f ih 17 y2 0 pv (by omega) (by omega) μ hI (by exact hp) _ _ hW ls (lv_sub hl [1, 2, 3, 0] rfl)
set_option maxHeartbeats 4000000 in
set_option maxRecDepth 100000 in
theorem L_X12_findsParts_7 {p : Program} {l : Launch} {e : Env} {s : State} {m : MethodId} {args : Array Value} {below : List Frame} {meth : Method} {c : Code} {D : va_G} {cy : Nat → ClassId} {b : Nat} (hx : p.tables.exec = Jvm.exec) (hb : c.code = cX12_findsParts) (hr : meth.sig.returnType = (none)) (hml : c.maxLocals = 4) (hown : s.vm.findClass RX12 = some m.cls) (hts : ∀ w ∈ TB, w.before args s = true) (hlocks : meth.locks = false) (S : Nat → Bool) (μ0 : mM) (hS22 : S 22 = true) (hS32 : S 32 = true) (d : Int32) (h_d : 0 ≤ d.toInt ∧ d.toInt ≤ 1) : ∀ (f : Nat), ∀ (y2 : Int32) (hy : 0 ≤ y2.toInt ∧ y2.toInt ≤ 192) (hf : 192 - y2.toInt < (f : Int)) (μ : mM) (hI : IY S μ0 μ) (hp : μ.1 81 30 = 0) (H : Heap) (locs : List Loc), m_WA (m_A b LAY) D cy s b LAY μ H locs → ∀ ls : Array Slot, lv_has ls 4 [(0, .ref (b + 81)), (1, .int d), (2, .int y2)] → W p l e (m_R 3 0 0) s m args below meth c H locs 0 0 (MQ below (m_Qv D cy b LAY (fun ν => IY S μ0 ν ∧ (True))) args s 0 0 (m_A b LAY)) (F0 m 7 ls []) := by
  intro f
  induction f with
  | zero => intro y2 hy hf; exfalso; omega
  | succ f ih =>
    intro y2 hy hf μ hI hp H locs hW ls hl
    refine lv_iload_n hx hb dX12_findsParts_7 rfl (lv_at hl 2 rfl) ?_
    refine lv_sipush (v := 192) hx hb dX12_findsParts_8 (by decide) ?_
    refine lv_icmp_ge (tgt := 27) hx hb dX12_findsParts_11 (by decide) (fun c1 => ?_) (fun c1 => ?_)
    · have i1 := m_c3 (by decide : (192 : Int32).toInt = 192) (rfl : y2.toInt = _) c1
      refine lv_iconst (v := 0) hx hb dX12_findsParts_27 (by decide) ?_
      refine lv_istore_n (lv' := [(2, .int 0), (0, .ref (b + 81)), (1, .int d)]) hx hb dX12_findsParts_28 rfl hl (by decide) rfl (fun ls hl => ?_)
      have l_0 : (0 : Int32).toInt = 0 := by decide
      exact L_X12_findsParts_29 hx hb hr hml hown hts hlocks S μ0 hS22 hS32 d h_d  13 0 0 (by omega) (by omega) μ hI (by exact hp) _ _ hW ls (lv_sub hl [1, 2, 0] rfl)
    · have i1 := m_c4 (by decide : (192 : Int32).toInt = 192) (rfl : y2.toInt = _) c1
      refine lv_aload_n hx hb dX12_findsParts_14 rfl (lv_at hl 0 rfl) ?_
      refine m_getr hx hb hts hown hW (81) 28 (101) rfl rfl cw_12 rfl (by decide) k_X12_80 dX12_findsParts_15 ?_
      refine lv_iload_n hx hb dX12_findsParts_18 rfl (lv_at hl 2 rfl) ?_
      refine lv_iconst (v := 0) hx hb dX12_findsParts_19 (by decide) ?_
      refine m_iast hx hb hW (101) rfl (m_ixI (rfl : y2.toInt = _) (by omega) (by omega)) dX12_findsParts_20 (fun H locs hW _ => ?_)
      generalize hμ2 : m_si μ (101) (y2 : Int32).toNatClampNeg 0 = μ2 at hW
      have hI := hI.si1 hμ2 rfl (by decide) hS22
      obtain ⟨x3, ex3⟩ : ∃ z : Int32, z = y2 + 1 := ⟨_, rfl⟩
      refine lv_iinc (v := x3) (lv' := [(2, .int x3), (0, .ref (b + 81)), (1, .int d)]) hx hb dX12_findsParts_21 hl (k := 2) rfl (by rw [ex3]; rfl) (by decide) rfl (fun ls hl => ?_)
      have tx3 : x3.toInt = y2.toInt + 1 := m_addI ex3 (rfl : y2.toInt = _) (by decide : (1 : Int32).toInt = 1) (by omega) (by omega)
      refine lv_goto (tgt := 7) hx hb dX12_findsParts_24 (by decide) ?_
      exact ih x3 (by omega) (by omega) μ2 hI (by rw [← hμ2]; exact hp) _ _ hW ls (lv_sub hl [1, 2, 0] rfl)
set_option maxHeartbeats 4000000 in
set_option maxRecDepth 100000 in
theorem g_X12_findsParts (l : Launch) (D : va_G) (cy : Nat → ClassId) (b : Nat) (S : Nat → Bool) (μ0 : mM) (hS22 : S 22 = true) (hS32 : S 32 = true) (d : Int32) (h_d : 0 ≤ d.toInt ∧ d.toInt ≤ 1) (μ : mM) (hI : IY S μ0 μ) : m_Cv l yX12_findsParts cX12_findsParts 4 (none) 3 D cy b LAY μ [.ref (b + 81), .int d] (fun ν => IY S μ0 ν ∧ (True)) := by
  unfold m_Cv
  refine m_of (by decide) (Nat.le_of_ble_eq_true rfl) ?_
  intro p e s m below meth c hx hb hr hml hown hts hlocks _ hW ls hl
  have hown : s.vm.findClass RX12 = some m.cls := hown
  have hl : lv_has ls 4 [(0, .ref (b + 81)), (1, .int d)] := hl
  refine lv_aload_n hx hb dX12_findsParts_0 rfl (lv_at hl 0 rfl) ?_
  refine lv_iconst (v := 0) hx hb dX12_findsParts_1 (by decide) ?_
  refine m_puti hx hb hts hown hW (81) 30 rfl rfl cw_12 tyX12_ok nmX12 rfl (by decide) k_X12_226 rfl rfl rfl dX12_findsParts_2 (fun H locs hW _ => ?_)
  generalize hμ1 : m_si μ (81) 30 0 = μ1 at hW
  have hI := hI.si1 hμ1 rfl (by decide) hS32
  refine lv_iconst (v := 0) hx hb dX12_findsParts_5 (by decide) ?_
  refine lv_istore_n (lv' := [(2, .int 0), (0, .ref (b + 81)), (1, .int d)]) hx hb dX12_findsParts_6 rfl hl (by decide) rfl (fun ls hl => ?_)
  have l_0 : (0 : Int32).toInt = 0 := by decide
  exact L_X12_findsParts_7 hx hb hr hml hown hts hlocks S μ0 hS22 hS32 d h_d  193 0 (by omega) (by omega) μ1 hI (by rw [← hμ1]; first | rfl | exact if_pos ⟨rfl, rfl⟩) _ _ hW ls (lv_sub hl [1, 2, 0] rfl)
set_option maxHeartbeats 4000000 in
set_option maxRecDepth 100000 in
theorem L_X12_loosens_37 {p : Program} {l : Launch} {e : Env} {s : State} {m : MethodId} {args : Array Value} {below : List Frame} {meth : Method} {c : Code} {D : va_G} {cy : Nat → ClassId} {b : Nat} (hx : p.tables.exec = Jvm.exec) (hb : c.code = cX12_loosens) (hr : meth.sig.returnType = (none)) (hml : c.maxLocals = 5) (hown : s.vm.findClass RX12 = some m.cls) (hts : ∀ w ∈ TB, w.before args s = true) (hlocks : meth.locks = false) (S : Nat → Bool) (μ0 : mM) (hS22 : S 22 = true) (hS32 : S 32 = true) (d : Int32) (h_d : 0 ≤ d.toInt ∧ d.toInt ≤ 1) (F7 : Nat) (O7 : ∀ (y2 : Int32) (hy : 1 ≤ y2.toInt ∧ y2.toInt ≤ 193) (hf : 193 - y2.toInt < (F7 : Int)) (μ : mM) (hI : IY S μ0 μ) (H : Heap) (locs : List Loc), m_WA (m_A b LAY) D cy s b LAY μ H locs → ∀ ls : Array Slot, lv_has ls 5 [(0, .ref (b + 81)), (1, .int d), (2, .int y2)] → W p l e (m_R 4 0 0) s m args below meth c H locs 0 0 (MQ below (m_Qv D cy b LAY (fun ν => IY S μ0 ν ∧ (True))) args s 0 0 (m_A b LAY)) (F0 m 7 ls [])) : ∀ (f : Nat), ∀ (y2 y3 y4 : Int32) (hy : 193 - y2.toInt < (F7 : Int) + 1 ∧ 1 ≤ y2.toInt ∧ y2.toInt ≤ 192 ∧ 0 ≤ y3.toInt ∧ y3.toInt ≤ 2 ∧ 0 ≤ y4.toInt ∧ y4.toInt ≤ 192 ∧ 1 ≤ y2.toInt ∧ y2.toInt ≤ 193) (hf : 192 - y4.toInt < (f : Int)) (μ : mM) (hI : IY S μ0 μ) (H : Heap) (locs : List Loc), m_WA (m_A b LAY) D cy s b LAY μ H locs → ∀ ls : Array Slot, lv_has ls 5 [(0, .ref (b + 81)), (1, .int d), (2, .int y2), (3, .int y3), (4, .int y4)] → W p l e (m_R 4 0 0) s m args below meth c H locs 0 0 (MQ below (m_Qv D cy b LAY (fun ν => IY S μ0 ν ∧ (True))) args s 0 0 (m_A b LAY)) (F0 m 37 ls []) := by
  intro f
  induction f with
  | zero => intro y2 y3 y4 hy hf; exfalso; omega
  | succ f ih =>
    intro y2 y3 y4 hy hf μ hI H locs hW ls hl
    refine lv_iload hx hb dX12_loosens_37 (lv_at hl 4 rfl) ?_
    refine lv_bipush (v := 16) hx hb dX12_loosens_39 (by decide) ?_
    refine lv_aload_n hx hb dX12_loosens_41 rfl (lv_at hl 0 rfl) ?_
    refine m_geti hx hb hts hown hW (81) 7 rfl rfl cw_12 rfl (by decide) k_X12_180 dX12_loosens_42 ?_
    refine lv_topi (fun x1 ex1 => ?_)
    have bx1 : 0 ≤ x1.toInt ∧ x1.toInt ≤ 12 := by rw [ex1]; exact hI.1 _ _ _ _ rfl
    refine lv_imul hx hb dX12_loosens_45 ?_
    refine lv_topi (fun x2 ex2 => ?_)
    have tx2 : x2.toInt = 16 * x1.toInt := m_mulI ex2 (by decide : (16 : Int32).toInt = 16) (rfl : x1.toInt = _) (by omega) (by omega)
    refine lv_icmp_ge (tgt := 109) hx hb dX12_loosens_46 (by decide) (fun c3 => ?_) (fun c3 => ?_)
    · have i3 := m_c3 (rfl : x2.toInt = _) (rfl : y4.toInt = _) c3
      obtain ⟨x4, ex4⟩ : ∃ z : Int32, z = y2 + 1 := ⟨_, rfl⟩
      refine lv_iinc (v := x4) (lv' := [(2, .int x4), (0, .ref (b + 81)), (1, .int d), (3, .int y3), (4, .int y4)]) hx hb dX12_loosens_109 hl (k := 2) rfl (by rw [ex4]; rfl) (by decide) rfl (fun ls hl => ?_)
      have tx4 : x4.toInt = y2.toInt + 1 := m_addI ex4 (rfl : y2.toInt = _) (by decide : (1 : Int32).toInt = 1) (by omega) (by omega)
      refine lv_goto (tgt := 7) hx hb dX12_loosens_112 (by decide) ?_
      exact O7 x4 (by omega) (by omega) μ hI _ _ hW ls (lv_sub hl [1, 2, 0] rfl)
    · have i3 := m_c4 (rfl : x2.toInt = _) (rfl : y4.toInt = _) c3
      refine lv_iload_n hx hb dX12_loosens_49 rfl (lv_at hl 3 rfl) ?_
      refine lv_if_le (tgt := 109) hx hb dX12_loosens_50 (by decide) (fun c5 => ?_) (fun c5 => ?_)
      · have i5 := m_c3 (rfl : y3.toInt = _) (by decide : (0 : Int32).toInt = 0) c5
        obtain ⟨x6, ex6⟩ : ∃ z : Int32, z = y2 + 1 := ⟨_, rfl⟩
        refine lv_iinc (v := x6) (lv' := [(2, .int x6), (0, .ref (b + 81)), (1, .int d), (3, .int y3), (4, .int y4)]) hx hb dX12_loosens_109 hl (k := 2) rfl (by rw [ex6]; rfl) (by decide) rfl (fun ls hl => ?_)
        have tx6 : x6.toInt = y2.toInt + 1 := m_addI ex6 (rfl : y2.toInt = _) (by decide : (1 : Int32).toInt = 1) (by omega) (by omega)
        refine lv_goto (tgt := 7) hx hb dX12_loosens_112 (by decide) ?_
        exact O7 x6 (by omega) (by omega) μ hI _ _ hW ls (lv_sub hl [1, 2, 0] rfl)
      · have i5 := m_c4 (rfl : y3.toInt = _) (by decide : (0 : Int32).toInt = 0) c5
        refine lv_aload_n hx hb dX12_loosens_53 rfl (lv_at hl 0 rfl) ?_
        refine m_getr hx hb hts hown hW (81) 28 (101) rfl rfl cw_12 rfl (by decide) k_X12_80 dX12_loosens_54 ?_
        refine lv_iload hx hb dX12_loosens_57 (lv_at hl 4 rfl) ?_
        refine m_iald hx hb hW (101) rfl (m_ixI (rfl : y4.toInt = _) (by omega) (by omega)) dX12_loosens_59 ?_
        refine lv_topi (fun x7 ex7 => ?_)
        have bx7 : 0 ≤ x7.toInt ∧ x7.toInt ≤ 192 := by rw [ex7]; exact hI.1 _ _ _ _ rfl
        refine lv_iload_n hx hb dX12_loosens_60 rfl (lv_at hl 2 rfl) ?_
        refine lv_icmp_eq (tgt := 67) hx hb dX12_loosens_61 (by decide) (fun c8 => ?_) (fun c8 => ?_)
        · have i8 := m_c5 (rfl : x7.toInt = _) (rfl : y2.toInt = _) c8
          refine lv_iload_n hx hb dX12_loosens_67 rfl (lv_at hl 3 rfl) ?_
          refine lv_iconst (v := 1) hx hb dX12_loosens_68 (by decide) ?_
          refine lv_icmp_ne (tgt := 89) hx hb dX12_loosens_69 (by decide) (fun c9 => ?_) (fun c9 => ?_)
          · have i9 := m_c6 (rfl : y3.toInt = _) (by decide : (1 : Int32).toInt = 1) c9
            refine lv_aload_n hx hb dX12_loosens_89 rfl (lv_at hl 0 rfl) ?_
            refine m_getr hx hb hts hown hW (81) 17 (90) rfl rfl cw_12 rfl (by decide) k_X12_46 dX12_loosens_90 ?_
            refine lv_sipush (v := 192) hx hb dX12_loosens_93 (by decide) ?_
            refine lv_iload_n hx hb dX12_loosens_96 rfl (lv_at hl 1 rfl) ?_
            refine lv_imul hx hb dX12_loosens_97 ?_
            refine lv_topi (fun x10 ex10 => ?_)
            have tx10 : x10.toInt = 192 * d.toInt := m_mulI ex10 (by decide : (192 : Int32).toInt = 192) (rfl : d.toInt = _) (by omega) (by omega)
            refine lv_iload hx hb dX12_loosens_98 (lv_at hl 4 rfl) ?_
            refine lv_iadd hx hb dX12_loosens_100 ?_
            refine lv_topi (fun x11 ex11 => ?_)
            have tx11 : x11.toInt = x10.toInt + y4.toInt := m_addI ex11 (rfl : x10.toInt = _) (rfl : y4.toInt = _) (by omega) (by omega)
            refine lv_iconst (v := 1) hx hb dX12_loosens_101 (by decide) ?_
            refine m_zast hx hb hW (90) rfl (m_ixI (rfl : x11.toInt = _) (by omega) (by omega)) (by decide) dX12_loosens_102 (fun H locs hW _ => ?_)
            generalize hμ12 : m_si μ (90) (x11 : Int32).toNatClampNeg 1 = μ12 at hW
            have hI := hI.si1 hμ12 rfl (by decide) hS22
            obtain ⟨x13, ex13⟩ : ∃ z : Int32, z = y4 + 1 := ⟨_, rfl⟩
            refine lv_iinc (v := x13) (lv' := [(4, .int x13), (0, .ref (b + 81)), (1, .int d), (2, .int y2), (3, .int y3)]) hx hb dX12_loosens_103 hl (k := 4) rfl (by rw [ex13]; rfl) (by decide) rfl (fun ls hl => ?_)
            have tx13 : x13.toInt = y4.toInt + 1 := m_addI ex13 (rfl : y4.toInt = _) (by decide : (1 : Int32).toInt = 1) (by omega) (by omega)
            refine lv_goto (tgt := 37) hx hb dX12_loosens_106 (by decide) ?_
            exact ih y2 y3 x13 (by omega) (by omega) μ12 hI _ _ hW ls (lv_sub hl [1, 2, 3, 4, 0] rfl)
          · have i9 := m_c5 (rfl : y3.toInt = _) (by decide : (1 : Int32).toInt = 1) c9
            refine lv_aload_n hx hb dX12_loosens_72 rfl (lv_at hl 0 rfl) ?_
            refine lv_sipush (v := 192) hx hb dX12_loosens_73 (by decide) ?_
            refine lv_iload_n hx hb dX12_loosens_76 rfl (lv_at hl 1 rfl) ?_
            refine lv_imul hx hb dX12_loosens_77 ?_
            refine lv_topi (fun x14 ex14 => ?_)
            have tx14 : x14.toInt = 192 * d.toInt := m_mulI ex14 (by decide : (192 : Int32).toInt = 192) (rfl : d.toInt = _) (by omega) (by omega)
            refine lv_iload hx hb dX12_loosens_78 (lv_at hl 4 rfl) ?_
            refine lv_iadd hx hb dX12_loosens_80 ?_
            refine lv_topi (fun x15 ex15 => ?_)
            have tx15 : x15.toInt = x14.toInt + y4.toInt := m_addI ex15 (rfl : x14.toInt = _) (rfl : y4.toInt = _) (by omega) (by omega)
            refine lv_iload_n hx hb dX12_loosens_81 rfl (lv_at hl 1 rfl) ?_
            refine lv_iconst (v := 2) hx hb dX12_loosens_82 (by decide) ?_
            have l_2 : (2 : Int32).toInt = 2 := by decide
            refine m_aV hW (m_runV (As := [.int x15, .int d, .int 2]) (rest := []) hx hb hml hown hts hW (81) (g_X12_goesAway l D cy b S μ0 hS22 x15 d 2 (by omega) (by omega) μ hI) mi_X12_goesAway k_X12_208 rfl rfl rfl hl.1 rfl (Nat.le_of_ble_eq_true rfl) dX12_loosens_83 ⟨Nat.le_of_ble_eq_true rfl, Nat.le_of_ble_eq_true rfl⟩ ⟨Nat.le_of_ble_eq_true rfl, Nat.le_of_ble_eq_true rfl⟩) (fun μ16 H locs q16 hW => ?_)
            obtain ⟨hI, q16⟩ := q16
            refine lv_goto (tgt := 103) hx hb dX12_loosens_86 (by decide) ?_
            obtain ⟨x17, ex17⟩ : ∃ z : Int32, z = y4 + 1 := ⟨_, rfl⟩
            refine lv_iinc (v := x17) (lv' := [(4, .int x17), (0, .ref (b + 81)), (1, .int d), (2, .int y2), (3, .int y3)]) hx hb dX12_loosens_103 hl (k := 4) rfl (by rw [ex17]; rfl) (by decide) rfl (fun ls hl => ?_)
            have tx17 : x17.toInt = y4.toInt + 1 := m_addI ex17 (rfl : y4.toInt = _) (by decide : (1 : Int32).toInt = 1) (by omega) (by omega)
            refine lv_goto (tgt := 37) hx hb dX12_loosens_106 (by decide) ?_
            exact ih y2 y3 x17 (by omega) (by omega) μ16 hI _ _ hW ls (lv_sub hl [1, 2, 3, 4, 0] rfl)
        · have i8 := m_c6 (rfl : x7.toInt = _) (rfl : y2.toInt = _) c8
          refine lv_goto (tgt := 103) hx hb dX12_loosens_64 (by decide) ?_
          obtain ⟨x18, ex18⟩ : ∃ z : Int32, z = y4 + 1 := ⟨_, rfl⟩
          refine lv_iinc (v := x18) (lv' := [(4, .int x18), (0, .ref (b + 81)), (1, .int d), (2, .int y2), (3, .int y3)]) hx hb dX12_loosens_103 hl (k := 4) rfl (by rw [ex18]; rfl) (by decide) rfl (fun ls hl => ?_)
          have tx18 : x18.toInt = y4.toInt + 1 := m_addI ex18 (rfl : y4.toInt = _) (by decide : (1 : Int32).toInt = 1) (by omega) (by omega)
          refine lv_goto (tgt := 37) hx hb dX12_loosens_106 (by decide) ?_
          exact ih y2 y3 x18 (by omega) (by omega) μ hI _ _ hW ls (lv_sub hl [1, 2, 3, 4, 0] rfl)
set_option maxHeartbeats 4000000 in
set_option maxRecDepth 100000 in
theorem L_X12_loosens_7 {p : Program} {l : Launch} {e : Env} {s : State} {m : MethodId} {args : Array Value} {below : List Frame} {meth : Method} {c : Code} {D : va_G} {cy : Nat → ClassId} {b : Nat} (hx : p.tables.exec = Jvm.exec) (hb : c.code = cX12_loosens) (hr : meth.sig.returnType = (none)) (hml : c.maxLocals = 5) (hown : s.vm.findClass RX12 = some m.cls) (hts : ∀ w ∈ TB, w.before args s = true) (hlocks : meth.locks = false) (S : Nat → Bool) (μ0 : mM) (hS22 : S 22 = true) (hS32 : S 32 = true) (d : Int32) (h_d : 0 ≤ d.toInt ∧ d.toInt ≤ 1) : ∀ (f : Nat), ∀ (y2 : Int32) (hy : 1 ≤ y2.toInt ∧ y2.toInt ≤ 193) (hf : 193 - y2.toInt < (f : Int)) (μ : mM) (hI : IY S μ0 μ) (H : Heap) (locs : List Loc), m_WA (m_A b LAY) D cy s b LAY μ H locs → ∀ ls : Array Slot, lv_has ls 5 [(0, .ref (b + 81)), (1, .int d), (2, .int y2)] → W p l e (m_R 4 0 0) s m args below meth c H locs 0 0 (MQ below (m_Qv D cy b LAY (fun ν => IY S μ0 ν ∧ (True))) args s 0 0 (m_A b LAY)) (F0 m 7 ls []) := by
  intro f
  induction f with
  | zero => intro y2 hy hf; exfalso; omega
  | succ f ih =>
    intro y2 hy hf μ hI H locs hW ls hl
    refine lv_iload_n hx hb dX12_loosens_7 rfl (lv_at hl 2 rfl) ?_
    refine lv_aload_n hx hb dX12_loosens_8 rfl (lv_at hl 0 rfl) ?_
    refine m_geti hx hb hts hown hW (81) 30 rfl rfl cw_12 rfl (by decide) k_X12_226 dX12_loosens_9 ?_
    refine lv_topi (fun x1 ex1 => ?_)
    have bx1 : 0 ≤ x1.toInt ∧ x1.toInt ≤ 192 := by rw [ex1]; exact hI.1 _ _ _ _ rfl
    refine lv_icmp_gt (tgt := 115) hx hb dX12_loosens_12 (by decide) (fun c2 => ?_) (fun c2 => ?_)
    · have i2 := m_c1 (rfl : x1.toInt = _) (rfl : y2.toInt = _) c2
      exact m_vret hx hb hr hlocks hW (⟨hI, trivial⟩) dX12_loosens_115
    · have i2 := m_c2 (rfl : x1.toInt = _) (rfl : y2.toInt = _) c2
      refine lv_aload_n hx hb dX12_loosens_15 rfl (lv_at hl 0 rfl) ?_
      refine m_getr hx hb hts hown hW (81) 33 (105) rfl rfl cw_12 rfl (by decide) k_X12_92 dX12_loosens_16 ?_
      refine lv_iload_n hx hb dX12_loosens_19 rfl (lv_at hl 2 rfl) ?_
      refine m_zald hx hb hW (105) rfl (m_ixI (rfl : y2.toInt = _) (by omega) (by omega)) dX12_loosens_20 ?_
      refine lv_topi (fun x3 ex3 => ?_)
      have bx3 : 0 ≤ x3.toInt ∧ x3.toInt ≤ 1 := by rw [ex3]; exact hI.1 _ _ _ _ rfl
      refine lv_if_eq (tgt := 28) hx hb dX12_loosens_21 (by decide) (fun c4 => ?_) (fun c4 => ?_)
      · have i4 := m_c5 (rfl : x3.toInt = _) (by decide : (0 : Int32).toInt = 0) c4
        refine lv_aload_n hx hb dX12_loosens_28 rfl (lv_at hl 0 rfl) ?_
        refine lv_iload_n hx hb dX12_loosens_29 rfl (lv_at hl 2 rfl) ?_
        refine m_aI hW (m_runV (As := [.int y2]) (rest := []) hx hb hml hown hts hW (81) (g_X12_lying l D cy b y2 (by omega) μ hI.1) mi_X12_lying k_X12_236 rfl rfl rfl hl.1 rfl (Nat.le_of_ble_eq_true rfl) dX12_loosens_30 ⟨Nat.le_of_ble_eq_true rfl, Nat.le_of_ble_eq_true rfl⟩ ⟨Nat.le_of_ble_eq_true rfl, Nat.le_of_ble_eq_true rfl⟩) (fun x5 μ5 H locs q5 hW => ?_)
        obtain ⟨q5_m, q5⟩ := q5
        subst q5_m
        refine lv_istore_n (lv' := [(3, .int x5), (0, .ref (b + 81)), (1, .int d), (2, .int y2)]) hx hb dX12_loosens_33 rfl hl (by decide) rfl (fun ls hl => ?_)
        refine lv_iconst (v := 0) hx hb dX12_loosens_34 (by decide) ?_
        refine lv_istore (lv' := [(4, .int 0), (3, .int x5), (0, .ref (b + 81)), (1, .int d), (2, .int y2)]) hx hb dX12_loosens_35 hl (by decide) rfl (fun ls hl => ?_)
        have l_0 : (0 : Int32).toInt = 0 := by decide
        exact L_X12_loosens_37 hx hb hr hml hown hts hlocks S μ0 hS22 hS32 d h_d f ih 193 y2 x5 0 (by omega) (by omega) μ hI _ _ hW ls (lv_sub hl [2, 3, 4, 1, 0] rfl)
      · have i4 := m_c6 (rfl : x3.toInt = _) (by decide : (0 : Int32).toInt = 0) c4
        refine lv_iconst (v := 0) hx hb dX12_loosens_24 (by decide) ?_
        refine lv_goto (tgt := 33) hx hb dX12_loosens_25 (by decide) ?_
        refine lv_istore_n (lv' := [(3, .int 0), (0, .ref (b + 81)), (1, .int d), (2, .int y2)]) hx hb dX12_loosens_33 rfl hl (by decide) rfl (fun ls hl => ?_)
        refine lv_iconst (v := 0) hx hb dX12_loosens_34 (by decide) ?_
        refine lv_istore (lv' := [(4, .int 0), (3, .int 0), (0, .ref (b + 81)), (1, .int d), (2, .int y2)]) hx hb dX12_loosens_35 hl (by decide) rfl (fun ls hl => ?_)
        have l_0 : (0 : Int32).toInt = 0 := by decide
        exact L_X12_loosens_37 hx hb hr hml hown hts hlocks S μ0 hS22 hS32 d h_d f ih 193 y2 0 0 (by omega) (by omega) μ hI _ _ hW ls (lv_sub hl [2, 3, 4, 1, 0] rfl)
set_option maxHeartbeats 4000000 in
set_option maxRecDepth 100000 in
theorem g_X12_loosens (l : Launch) (D : va_G) (cy : Nat → ClassId) (b : Nat) (S : Nat → Bool) (μ0 : mM) (hS22 : S 22 = true) (hS32 : S 32 = true) (d : Int32) (h_d : 0 ≤ d.toInt ∧ d.toInt ≤ 1) (μ : mM) (hI : IY S μ0 μ) : m_Cv l yX12_loosens cX12_loosens 5 (none) 4 D cy b LAY μ [.ref (b + 81), .int d] (fun ν => IY S μ0 ν ∧ (True)) := by
  unfold m_Cv
  refine m_of (by decide) (Nat.le_of_ble_eq_true rfl) ?_
  intro p e s m below meth c hx hb hr hml hown hts hlocks _ hW ls hl
  have hown : s.vm.findClass RX12 = some m.cls := hown
  have hl : lv_has ls 5 [(0, .ref (b + 81)), (1, .int d)] := hl
  refine lv_aload_n hx hb dX12_loosens_0 rfl (lv_at hl 0 rfl) ?_
  refine lv_iload_n hx hb dX12_loosens_1 rfl (lv_at hl 1 rfl) ?_
  refine m_aV hW (m_runV (As := [.int d]) (rest := []) hx hb hml hown hts hW (81) (g_X12_findsParts l D cy b S μ0 hS22 hS32 d (by omega) μ hI) mi_X12_findsParts k_X12_233 rfl rfl rfl hl.1 rfl (Nat.le_of_ble_eq_true rfl) dX12_loosens_2 ⟨Nat.le_of_ble_eq_true rfl, Nat.le_of_ble_eq_true rfl⟩ ⟨Nat.le_of_ble_eq_true rfl, Nat.le_of_ble_eq_true rfl⟩) (fun μ1 H locs q1 hW => ?_)
  obtain ⟨hI, q1⟩ := q1
  refine lv_iconst (v := 1) hx hb dX12_loosens_5 (by decide) ?_
  refine lv_istore_n (lv' := [(2, .int 1), (0, .ref (b + 81)), (1, .int d)]) hx hb dX12_loosens_6 rfl hl (by decide) rfl (fun ls hl => ?_)
  have l_1 : (1 : Int32).toInt = 1 := by decide
  exact L_X12_loosens_7 hx hb hr hml hown hts hlocks S μ0 hS22 hS32 d h_d  194 1 (by omega) (by omega) μ1 hI _ _ hW ls (lv_sub hl [1, 2, 0] rfl)
set_option maxHeartbeats 4000000 in
set_option maxRecDepth 100000 in
theorem L_X12_ticksOnce_29 {p : Program} {l : Launch} {e : Env} {s : State} {m : MethodId} {args : Array Value} {below : List Frame} {meth : Method} {c : Code} {D : va_G} {cy : Nat → ClassId} {b : Nat} (hx : p.tables.exec = Jvm.exec) (hb : c.code = cX12_ticksOnce) (hr : meth.sig.returnType = (none)) (hml : c.maxLocals = 6) (hown : s.vm.findClass RX12 = some m.cls) (hts : ∀ w ∈ TB, w.before args s = true) (hlocks : meth.locks = false) (S : Nat → Bool) (μ0 : mM) (hS22 : S 22 = true) (hS32 : S 32 = true) (d : Int32) (h_d : 0 ≤ d.toInt ∧ d.toInt ≤ 1) (F18 : Nat) (O18 : ∀ (y2 y3 : Int32) (hy : 0 ≤ y2.toInt ∧ y2.toInt ≤ 1 ∧ 0 ≤ y3.toInt ∧ y3.toInt ≤ 12) (hf : 12 - y3.toInt < (F18 : Int)) (μ : mM) (hI : IY S μ0 μ) (H : Heap) (locs : List Loc), m_WA (m_A b LAY) D cy s b LAY μ H locs → ∀ ls : Array Slot, lv_has ls 6 [(0, .ref (b + 81)), (1, .int d), (2, .int y2), (3, .int y3)] → W p l e (m_R 5 0 0) s m args below meth c H locs 0 0 (MQ below (m_Qv D cy b LAY (fun ν => IY S μ0 ν ∧ (True))) args s 0 0 (m_A b LAY)) (F0 m 18 ls [])) : ∀ (f : Nat), ∀ (y2 y3 y4 : Int32) (hy : 12 - y3.toInt < (F18 : Int) + 1 ∧ 0 ≤ y2.toInt ∧ y2.toInt ≤ 1 ∧ 0 ≤ y3.toInt ∧ y3.toInt ≤ 11 ∧ 0 ≤ y4.toInt ∧ y4.toInt ≤ 16 ∧ 0 ≤ y2.toInt ∧ y2.toInt ≤ 1 ∧ 0 ≤ y3.toInt ∧ y3.toInt ≤ 12) (hf : 16 - y4.toInt < (f : Int)) (μ : mM) (hI : IY S μ0 μ) (H : Heap) (locs : List Loc), m_WA (m_A b LAY) D cy s b LAY μ H locs → ∀ ls : Array Slot, lv_has ls 6 [(0, .ref (b + 81)), (1, .int d), (2, .int y2), (3, .int y3), (4, .int y4)] → W p l e (m_R 5 0 0) s m args below meth c H locs 0 0 (MQ below (m_Qv D cy b LAY (fun ν => IY S μ0 ν ∧ (True))) args s 0 0 (m_A b LAY)) (F0 m 29 ls []) := by
  intro f
  induction f with
  | zero => intro y2 y3 y4 hy hf; exfalso; omega
  | succ f ih =>
    intro y2 y3 y4 hy hf μ hI H locs hW ls hl
    refine lv_iload hx hb dX12_ticksOnce_29 (lv_at hl 4 rfl) ?_
    refine lv_aload_n hx hb dX12_ticksOnce_31 rfl (lv_at hl 0 rfl) ?_
    refine m_geti hx hb hts hown hW (81) 6 rfl rfl cw_12 rfl (by decide) k_X12_177 dX12_ticksOnce_32 ?_
    refine lv_topi (fun x1 ex1 => ?_)
    have bx1 : 0 ≤ x1.toInt ∧ x1.toInt ≤ 16 := by rw [ex1]; exact hI.1 _ _ _ _ rfl
    refine lv_icmp_ge (tgt := 96) hx hb dX12_ticksOnce_35 (by decide) (fun c2 => ?_) (fun c2 => ?_)
    · have i2 := m_c3 (rfl : x1.toInt = _) (rfl : y4.toInt = _) c2
      obtain ⟨x3, ex3⟩ : ∃ z : Int32, z = y3 + 1 := ⟨_, rfl⟩
      refine lv_iinc (v := x3) (lv' := [(3, .int x3), (0, .ref (b + 81)), (1, .int d), (2, .int y2), (4, .int y4)]) hx hb dX12_ticksOnce_96 hl (k := 3) rfl (by rw [ex3]; rfl) (by decide) rfl (fun ls hl => ?_)
      have tx3 : x3.toInt = y3.toInt + 1 := m_addI ex3 (rfl : y3.toInt = _) (by decide : (1 : Int32).toInt = 1) (by omega) (by omega)
      refine lv_goto (tgt := 18) hx hb dX12_ticksOnce_99 (by decide) ?_
      exact O18 y2 x3 (by omega) (by omega) μ hI _ _ hW ls (lv_sub hl [1, 2, 3, 0] rfl)
    · have i2 := m_c4 (rfl : x1.toInt = _) (rfl : y4.toInt = _) c2
      refine lv_sipush (v := 192) hx hb dX12_ticksOnce_38 (by decide) ?_
      refine lv_iload_n hx hb dX12_ticksOnce_41 rfl (lv_at hl 1 rfl) ?_
      refine lv_imul hx hb dX12_ticksOnce_42 ?_
      refine lv_topi (fun x4 ex4 => ?_)
      have tx4 : x4.toInt = 192 * d.toInt := m_mulI ex4 (by decide : (192 : Int32).toInt = 192) (rfl : d.toInt = _) (by omega) (by omega)
      refine lv_bipush (v := 16) hx hb dX12_ticksOnce_43 (by decide) ?_
      refine lv_iload_n hx hb dX12_ticksOnce_45 rfl (lv_at hl 3 rfl) ?_
      refine lv_imul hx hb dX12_ticksOnce_46 ?_
      refine lv_topi (fun x5 ex5 => ?_)
      have tx5 : x5.toInt = 16 * y3.toInt := m_mulI ex5 (by decide : (16 : Int32).toInt = 16) (rfl : y3.toInt = _) (by omega) (by omega)
      refine lv_iadd hx hb dX12_ticksOnce_47 ?_
      refine lv_topi (fun x6 ex6 => ?_)
      have tx6 : x6.toInt = x4.toInt + x5.toInt := m_addI ex6 (rfl : x4.toInt = _) (rfl : x5.toInt = _) (by omega) (by omega)
      refine lv_iload hx hb dX12_ticksOnce_48 (lv_at hl 4 rfl) ?_
      refine lv_iadd hx hb dX12_ticksOnce_50 ?_
      refine lv_topi (fun x7 ex7 => ?_)
      have tx7 : x7.toInt = x6.toInt + y4.toInt := m_addI ex7 (rfl : x6.toInt = _) (rfl : y4.toInt = _) (by omega) (by omega)
      refine lv_istore (lv' := [(5, .int x7), (0, .ref (b + 81)), (1, .int d), (2, .int y2), (3, .int y3), (4, .int y4)]) hx hb dX12_ticksOnce_51 hl (by decide) rfl (fun ls hl => ?_)
      refine lv_aload_n hx hb dX12_ticksOnce_53 rfl (lv_at hl 1 rfl) ?_
      refine m_getr hx hb hts hown hW (81) 15 (88) rfl rfl cw_12 rfl (by decide) k_X12_39 dX12_ticksOnce_54 ?_
      refine lv_iload hx hb dX12_ticksOnce_57 (lv_at hl 0 rfl) ?_
      refine m_iald hx hb hW (88) rfl (m_ixI (rfl : x7.toInt = _) (by omega) (by omega)) dX12_ticksOnce_59 ?_
      refine lv_topi (fun x8 ex8 => ?_)
      refine lv_if_ne (tgt := 90) hx hb dX12_ticksOnce_60 (by decide) (fun c9 => ?_) (fun c9 => ?_)
      · have i9 := m_c6 (rfl : x8.toInt = _) (by decide : (0 : Int32).toInt = 0) c9
        obtain ⟨x10, ex10⟩ : ∃ z : Int32, z = y4 + 1 := ⟨_, rfl⟩
        refine lv_iinc (v := x10) (lv' := [(4, .int x10), (5, .int x7), (0, .ref (b + 81)), (1, .int d), (2, .int y2), (3, .int y3)]) hx hb dX12_ticksOnce_90 hl (k := 5) rfl (by rw [ex10]; rfl) (by decide) rfl (fun ls hl => ?_)
        have tx10 : x10.toInt = y4.toInt + 1 := m_addI ex10 (rfl : y4.toInt = _) (by decide : (1 : Int32).toInt = 1) (by omega) (by omega)
        refine lv_goto (tgt := 29) hx hb dX12_ticksOnce_93 (by decide) ?_
        exact ih y2 y3 x10 (by omega) (by omega) μ hI _ _ hW ls (lv_sub hl [2, 3, 4, 5, 0] rfl)
      · have i9 := m_c5 (rfl : x8.toInt = _) (by decide : (0 : Int32).toInt = 0) c9
        refine lv_aload_n hx hb dX12_ticksOnce_63 rfl (lv_at hl 1 rfl) ?_
        refine m_getr hx hb hts hown hW (81) 13 (86) rfl rfl cw_12 rfl (by decide) k_X12_33 dX12_ticksOnce_64 ?_
        refine lv_iload hx hb dX12_ticksOnce_67 (lv_at hl 0 rfl) ?_
        refine m_iald hx hb hW (86) rfl (m_ixI (rfl : x7.toInt = _) (by omega) (by omega)) dX12_ticksOnce_69 ?_
        refine lv_topi (fun x11 ex11 => ?_)
        refine lv_aload_n hx hb dX12_ticksOnce_70 rfl (lv_at hl 1 rfl) ?_
        refine m_getr hx hb hts hown hW (81) 4 (85) rfl rfl cw_12 rfl (by decide) k_X12_19 dX12_ticksOnce_71 ?_
        refine lv_aload_n hx hb dX12_ticksOnce_74 rfl (lv_at hl 1 rfl) ?_
        refine m_geti hx hb hts hown hW (81) 8 rfl rfl cw_12 rfl (by decide) k_X12_183 dX12_ticksOnce_75 ?_
        refine lv_topi (fun x12 ex12 => ?_)
        have bx12 : 0 ≤ x12.toInt ∧ x12.toInt ≤ 3 := by rw [ex12]; exact hI.1 _ _ _ _ rfl
        refine m_iald hx hb hW (85) rfl (m_ixI (rfl : x12.toInt = _) (by omega) (by omega)) dX12_ticksOnce_78 ?_
        refine lv_topi (fun x13 ex13 => ?_)
        refine lv_icmp_lt (tgt := 90) hx hb dX12_ticksOnce_79 (by decide) (fun c14 => ?_) (fun c14 => ?_)
        · have i14 := m_c1 (rfl : x11.toInt = _) (rfl : x13.toInt = _) c14
          obtain ⟨x15, ex15⟩ : ∃ z : Int32, z = y4 + 1 := ⟨_, rfl⟩
          refine lv_iinc (v := x15) (lv' := [(4, .int x15), (5, .int x7), (0, .ref (b + 81)), (1, .int d), (2, .int y2), (3, .int y3)]) hx hb dX12_ticksOnce_90 hl (k := 5) rfl (by rw [ex15]; rfl) (by decide) rfl (fun ls hl => ?_)
          have tx15 : x15.toInt = y4.toInt + 1 := m_addI ex15 (rfl : y4.toInt = _) (by decide : (1 : Int32).toInt = 1) (by omega) (by omega)
          refine lv_goto (tgt := 29) hx hb dX12_ticksOnce_93 (by decide) ?_
          exact ih y2 y3 x15 (by omega) (by omega) μ hI _ _ hW ls (lv_sub hl [2, 3, 4, 5, 0] rfl)
        · have i14 := m_c2 (rfl : x11.toInt = _) (rfl : x13.toInt = _) c14
          refine lv_aload_n hx hb dX12_ticksOnce_82 rfl (lv_at hl 1 rfl) ?_
          refine m_getr hx hb hts hown hW (81) 16 (89) rfl rfl cw_12 rfl (by decide) k_X12_42 dX12_ticksOnce_83 ?_
          refine lv_iload hx hb dX12_ticksOnce_86 (lv_at hl 0 rfl) ?_
          refine lv_iconst (v := 1) hx hb dX12_ticksOnce_88 (by decide) ?_
          refine m_zast hx hb hW (89) rfl (m_ixI (rfl : x7.toInt = _) (by omega) (by omega)) (by decide) dX12_ticksOnce_89 (fun H locs hW _ => ?_)
          generalize hμ16 : m_si μ (89) (x7 : Int32).toNatClampNeg 1 = μ16 at hW
          have hI := hI.si1 hμ16 rfl (by decide) hS22
          obtain ⟨x17, ex17⟩ : ∃ z : Int32, z = y4 + 1 := ⟨_, rfl⟩
          refine lv_iinc (v := x17) (lv' := [(4, .int x17), (5, .int x7), (0, .ref (b + 81)), (1, .int d), (2, .int y2), (3, .int y3)]) hx hb dX12_ticksOnce_90 hl (k := 5) rfl (by rw [ex17]; rfl) (by decide) rfl (fun ls hl => ?_)
          have tx17 : x17.toInt = y4.toInt + 1 := m_addI ex17 (rfl : y4.toInt = _) (by decide : (1 : Int32).toInt = 1) (by omega) (by omega)
          refine lv_goto (tgt := 29) hx hb dX12_ticksOnce_93 (by decide) ?_
          exact ih y2 y3 x17 (by omega) (by omega) μ16 hI _ _ hW ls (lv_sub hl [2, 3, 4, 5, 0] rfl)
set_option maxHeartbeats 4000000 in
set_option maxRecDepth 100000 in
theorem L_X12_ticksOnce_18 {p : Program} {l : Launch} {e : Env} {s : State} {m : MethodId} {args : Array Value} {below : List Frame} {meth : Method} {c : Code} {D : va_G} {cy : Nat → ClassId} {b : Nat} (hx : p.tables.exec = Jvm.exec) (hb : c.code = cX12_ticksOnce) (hr : meth.sig.returnType = (none)) (hml : c.maxLocals = 6) (hown : s.vm.findClass RX12 = some m.cls) (hts : ∀ w ∈ TB, w.before args s = true) (hlocks : meth.locks = false) (S : Nat → Bool) (μ0 : mM) (hS22 : S 22 = true) (hS32 : S 32 = true) (d : Int32) (h_d : 0 ≤ d.toInt ∧ d.toInt ≤ 1) : ∀ (f : Nat), ∀ (y2 y3 : Int32) (hy : 0 ≤ y2.toInt ∧ y2.toInt ≤ 1 ∧ 0 ≤ y3.toInt ∧ y3.toInt ≤ 12) (hf : 12 - y3.toInt < (f : Int)) (μ : mM) (hI : IY S μ0 μ) (H : Heap) (locs : List Loc), m_WA (m_A b LAY) D cy s b LAY μ H locs → ∀ ls : Array Slot, lv_has ls 6 [(0, .ref (b + 81)), (1, .int d), (2, .int y2), (3, .int y3)] → W p l e (m_R 5 0 0) s m args below meth c H locs 0 0 (MQ below (m_Qv D cy b LAY (fun ν => IY S μ0 ν ∧ (True))) args s 0 0 (m_A b LAY)) (F0 m 18 ls []) := by
  intro f
  induction f with
  | zero => intro y2 y3 hy hf; exfalso; omega
  | succ f ih =>
    intro y2 y3 hy hf μ hI H locs hW ls hl
    refine lv_iload_n hx hb dX12_ticksOnce_18 rfl (lv_at hl 3 rfl) ?_
    refine lv_aload_n hx hb dX12_ticksOnce_19 rfl (lv_at hl 0 rfl) ?_
    refine m_geti hx hb hts hown hW (81) 7 rfl rfl cw_12 rfl (by decide) k_X12_180 dX12_ticksOnce_20 ?_
    refine lv_topi (fun x1 ex1 => ?_)
    have bx1 : 0 ≤ x1.toInt ∧ x1.toInt ≤ 12 := by rw [ex1]; exact hI.1 _ _ _ _ rfl
    refine lv_icmp_ge (tgt := 102) hx hb dX12_ticksOnce_23 (by decide) (fun c2 => ?_) (fun c2 => ?_)
    · have i2 := m_c3 (rfl : x1.toInt = _) (rfl : y3.toInt = _) c2
      refine lv_iload_n hx hb dX12_ticksOnce_102 rfl (lv_at hl 2 rfl) ?_
      refine lv_if_eq (tgt := 111) hx hb dX12_ticksOnce_103 (by decide) (fun c3 => ?_) (fun c3 => ?_)
      · have i3 := m_c5 (rfl : y2.toInt = _) (by decide : (0 : Int32).toInt = 0) c3
        refine lv_aload_n hx hb dX12_ticksOnce_111 rfl (lv_at hl 0 rfl) ?_
        refine m_getr hx hb hts hown hW (81) 22 (95) rfl rfl cw_12 rfl (by decide) k_X12_61 dX12_ticksOnce_112 ?_
        refine lv_iload_n hx hb dX12_ticksOnce_115 rfl (lv_at hl 1 rfl) ?_
        refine lv_aload_n hx hb dX12_ticksOnce_116 rfl (lv_at hl 0 rfl) ?_
        refine m_getr hx hb hts hown hW (81) 22 (95) rfl rfl cw_12 rfl (by decide) k_X12_61 dX12_ticksOnce_117 ?_
        refine lv_iload_n hx hb dX12_ticksOnce_120 rfl (lv_at hl 1 rfl) ?_
        refine m_iald hx hb hW (95) rfl (m_ixI (rfl : d.toInt = _) (by omega) (by omega)) dX12_ticksOnce_121 ?_
        refine lv_topi (fun x4 ex4 => ?_)
        refine lv_iconst (v := 1) hx hb dX12_ticksOnce_122 (by decide) ?_
        refine lv_iadd hx hb dX12_ticksOnce_123 ?_
        refine lv_topi (fun x5 ex5 => ?_)
        refine m_iast hx hb hW (95) rfl (m_ixI (rfl : d.toInt = _) (by omega) (by omega)) dX12_ticksOnce_124 (fun H locs hW _ => ?_)
        generalize hμ6 : m_si μ (95) (d : Int32).toNatClampNeg x5 = μ6 at hW
        have hI := hI.si0 hμ6 rfl hS22
        exact m_vret hx hb hr hlocks hW (⟨hI, trivial⟩) dX12_ticksOnce_125
      · have i3 := m_c6 (rfl : y2.toInt = _) (by decide : (0 : Int32).toInt = 0) c3
        refine lv_aload_n hx hb dX12_ticksOnce_106 rfl (lv_at hl 0 rfl) ?_
        refine lv_iload_n hx hb dX12_ticksOnce_107 rfl (lv_at hl 1 rfl) ?_
        refine m_aV hW (m_runV (As := [.int d]) (rest := []) hx hb hml hown hts hW (81) (g_X12_loosens l D cy b S μ0 hS22 hS32 d (by omega) μ hI) mi_X12_loosens k_X12_223 rfl rfl rfl hl.1 rfl (Nat.le_of_ble_eq_true rfl) dX12_ticksOnce_108 ⟨Nat.le_of_ble_eq_true rfl, Nat.le_of_ble_eq_true rfl⟩ ⟨Nat.le_of_ble_eq_true rfl, Nat.le_of_ble_eq_true rfl⟩) (fun μ7 H locs q7 hW => ?_)
        obtain ⟨hI, q7⟩ := q7
        refine lv_aload_n hx hb dX12_ticksOnce_111 rfl (lv_at hl 0 rfl) ?_
        refine m_getr hx hb hts hown hW (81) 22 (95) rfl rfl cw_12 rfl (by decide) k_X12_61 dX12_ticksOnce_112 ?_
        refine lv_iload_n hx hb dX12_ticksOnce_115 rfl (lv_at hl 1 rfl) ?_
        refine lv_aload_n hx hb dX12_ticksOnce_116 rfl (lv_at hl 0 rfl) ?_
        refine m_getr hx hb hts hown hW (81) 22 (95) rfl rfl cw_12 rfl (by decide) k_X12_61 dX12_ticksOnce_117 ?_
        refine lv_iload_n hx hb dX12_ticksOnce_120 rfl (lv_at hl 1 rfl) ?_
        refine m_iald hx hb hW (95) rfl (m_ixI (rfl : d.toInt = _) (by omega) (by omega)) dX12_ticksOnce_121 ?_
        refine lv_topi (fun x8 ex8 => ?_)
        refine lv_iconst (v := 1) hx hb dX12_ticksOnce_122 (by decide) ?_
        refine lv_iadd hx hb dX12_ticksOnce_123 ?_
        refine lv_topi (fun x9 ex9 => ?_)
        refine m_iast hx hb hW (95) rfl (m_ixI (rfl : d.toInt = _) (by omega) (by omega)) dX12_ticksOnce_124 (fun H locs hW _ => ?_)
        generalize hμ10 : m_si μ7 (95) (d : Int32).toNatClampNeg x9 = μ10 at hW
        have hI := hI.si0 hμ10 rfl hS22
        exact m_vret hx hb hr hlocks hW (⟨hI, trivial⟩) dX12_ticksOnce_125
    · have i2 := m_c4 (rfl : x1.toInt = _) (rfl : y3.toInt = _) c2
      refine lv_iconst (v := 0) hx hb dX12_ticksOnce_26 (by decide) ?_
      refine lv_istore (lv' := [(4, .int 0), (0, .ref (b + 81)), (1, .int d), (2, .int y2), (3, .int y3)]) hx hb dX12_ticksOnce_27 hl (by decide) rfl (fun ls hl => ?_)
      have l_0 : (0 : Int32).toInt = 0 := by decide
      exact L_X12_ticksOnce_29 hx hb hr hml hown hts hlocks S μ0 hS22 hS32 d h_d f ih 17 y2 y3 0 (by omega) (by omega) μ hI _ _ hW ls (lv_sub hl [1, 2, 3, 4, 0] rfl)
set_option maxHeartbeats 4000000 in
set_option maxRecDepth 100000 in
theorem g_X12_ticksOnce (l : Launch) (D : va_G) (cy : Nat → ClassId) (b : Nat) (S : Nat → Bool) (μ0 : mM) (hS22 : S 22 = true) (hS32 : S 32 = true) (d : Int32) (h_d : 0 ≤ d.toInt ∧ d.toInt ≤ 1) (μ : mM) (hI : IY S μ0 μ) : m_Cv l yX12_ticksOnce cX12_ticksOnce 6 (none) 5 D cy b LAY μ [.ref (b + 81), .int d] (fun ν => IY S μ0 ν ∧ (True)) := by
  unfold m_Cv
  refine m_of (by decide) (Nat.le_of_ble_eq_true rfl) ?_
  intro p e s m below meth c hx hb hr hml hown hts hlocks _ hW ls hl
  have hown : s.vm.findClass RX12 = some m.cls := hown
  have hl : lv_has ls 6 [(0, .ref (b + 81)), (1, .int d)] := hl
  refine lv_aload_n hx hb dX12_ticksOnce_0 rfl (lv_at hl 0 rfl) ?_
  refine lv_iload_n hx hb dX12_ticksOnce_1 rfl (lv_at hl 1 rfl) ?_
  refine m_aV hW (m_runV (As := [.int d]) (rest := []) hx hb hml hown hts hW (81) (g_X12_gives l D cy b S μ0 hS22 d (by omega) μ hI) mi_X12_gives k_X12_212 rfl rfl rfl hl.1 rfl (Nat.le_of_ble_eq_true rfl) dX12_ticksOnce_2 ⟨Nat.le_of_ble_eq_true rfl, Nat.le_of_ble_eq_true rfl⟩ ⟨Nat.le_of_ble_eq_true rfl, Nat.le_of_ble_eq_true rfl⟩) (fun μ1 H locs q1 hW => ?_)
  obtain ⟨hI, q1⟩ := q1
  refine lv_aload_n hx hb dX12_ticksOnce_5 rfl (lv_at hl 0 rfl) ?_
  refine lv_iload_n hx hb dX12_ticksOnce_6 rfl (lv_at hl 1 rfl) ?_
  refine m_aV hW (m_runV (As := [.int d]) (rest := []) hx hb hml hown hts hW (81) (g_X12_leads l D cy b S μ0 hS22 d (by omega) μ1 hI) mi_X12_leads k_X12_216 rfl rfl rfl hl.1 rfl (Nat.le_of_ble_eq_true rfl) dX12_ticksOnce_7 ⟨Nat.le_of_ble_eq_true rfl, Nat.le_of_ble_eq_true rfl⟩ ⟨Nat.le_of_ble_eq_true rfl, Nat.le_of_ble_eq_true rfl⟩) (fun μ2 H locs q2 hW => ?_)
  obtain ⟨hI, q2⟩ := q2
  refine lv_aload_n hx hb dX12_ticksOnce_10 rfl (lv_at hl 0 rfl) ?_
  refine lv_iload_n hx hb dX12_ticksOnce_11 rfl (lv_at hl 1 rfl) ?_
  refine m_aI hW (m_runV (As := [.int d]) (rest := []) hx hb hml hown hts hW (81) (g_X12_cuts l D cy b S μ0 hS22 d (by omega) μ2 hI) mi_X12_cuts k_X12_219 rfl rfl rfl hl.1 rfl (Nat.le_of_ble_eq_true rfl) dX12_ticksOnce_12 ⟨Nat.le_of_ble_eq_true rfl, Nat.le_of_ble_eq_true rfl⟩ ⟨Nat.le_of_ble_eq_true rfl, Nat.le_of_ble_eq_true rfl⟩) (fun x3 μ3 H locs q3 hW => ?_)
  obtain ⟨hI, q3⟩ := q3
  rcases q3 with ⟨rfl, q3⟩ | ⟨rfl, q3⟩
  · refine lv_istore_n (lv' := [(2, .int 1), (0, .ref (b + 81)), (1, .int d)]) hx hb dX12_ticksOnce_15 rfl hl (by decide) rfl (fun ls hl => ?_)
    refine lv_iconst (v := 0) hx hb dX12_ticksOnce_16 (by decide) ?_
    refine lv_istore_n (lv' := [(3, .int 0), (2, .int 1), (0, .ref (b + 81)), (1, .int d)]) hx hb dX12_ticksOnce_17 rfl hl (by decide) rfl (fun ls hl => ?_)
    have l_1 : (1 : Int32).toInt = 1 := by decide
    have l_0 : (0 : Int32).toInt = 0 := by decide
    exact L_X12_ticksOnce_18 hx hb hr hml hown hts hlocks S μ0 hS22 hS32 d h_d  13 1 0 (by omega) (by omega) μ3 hI _ _ hW ls (lv_sub hl [2, 3, 1, 0] rfl)
  · refine lv_istore_n (lv' := [(2, .int 0), (0, .ref (b + 81)), (1, .int d)]) hx hb dX12_ticksOnce_15 rfl hl (by decide) rfl (fun ls hl => ?_)
    refine lv_iconst (v := 0) hx hb dX12_ticksOnce_16 (by decide) ?_
    refine lv_istore_n (lv' := [(3, .int 0), (2, .int 0), (0, .ref (b + 81)), (1, .int d)]) hx hb dX12_ticksOnce_17 rfl hl (by decide) rfl (fun ls hl => ?_)
    have l_0 : (0 : Int32).toInt = 0 := by decide
    exact L_X12_ticksOnce_18 hx hb hr hml hown hts hlocks S μ0 hS22 hS32 d h_d  13 0 0 (by omega) (by omega) μ3 hI _ _ hW ls (lv_sub hl [2, 3, 1, 0] rfl)
set_option maxHeartbeats 4000000 in
set_option maxRecDepth 100000 in
theorem g_X12_pays (l : Launch) (D : va_G) (cy : Nat → ClassId) (b : Nat) (S : Nat → Bool) (μ0 : mM) (hS27 : S 27 = true) (hS37 : S 37 = true) (cv : Int32) (h_cv : 0 ≤ cv.toInt ∧ cv.toInt ≤ 1000) (μ : mM) (hI : IY S μ0 μ) (hc : μ.1 81 58 = cv) : m_Ci l yX12_pays cX12_pays 1 ((some .boolean)) 0 D cy b LAY μ [.ref (b + 81)] (fun r ν => IY S μ0 ν ∧ ((r = 1 ∧ (ν.1 81 58).toInt = cv.toInt + 1) ∨ (r = 0 ∧ (ν.1 81 58).toInt = cv.toInt))) := by
  unfold m_Ci
  refine m_of (by decide) (Nat.le_of_ble_eq_true rfl) ?_
  intro p e s m below meth c hx hb hr hml hown hts hlocks _ hW ls hl
  have hown : s.vm.findClass RX12 = some m.cls := hown
  have hl : lv_has ls 1 [(0, .ref (b + 81))] := hl
  refine lv_aload_n hx hb dX12_pays_0 rfl (lv_at hl 0 rfl) ?_
  refine m_geti hx hb hts hown hW (81) 58 rfl rfl cw_12 rfl (by decide) k_X12_335 dX12_pays_1 ?_
  refine lv_topi (fun x1 ex1 => ?_)
  have ex1 : x1 = cv := by rw [ex1]; exact hc
  have ex1 := ex1.symm
  subst ex1
  refine lv_sipush (v := 1000) hx hb dX12_pays_4 (by decide) ?_
  refine lv_icmp_ne (tgt := 17) hx hb dX12_pays_7 (by decide) (fun c2 => ?_) (fun c2 => ?_)
  · have i2 := m_c6 (rfl : cv.toInt = _) (by decide : (1000 : Int32).toInt = 1000) c2
    refine lv_aload_n hx hb dX12_pays_17 rfl (lv_at hl 0 rfl) ?_
    refine lv_aload_n hx hb dX12_pays_18 rfl (lv_at hl 0 rfl) ?_
    refine m_geti hx hb hts hown hW (81) 58 rfl rfl cw_12 rfl (by decide) k_X12_335 dX12_pays_19 ?_
    refine lv_topi (fun x3 ex3 => ?_)
    have ex3 : x3 = cv := by rw [ex3]; exact hc
    have ex3 := ex3.symm
    subst ex3
    refine lv_iconst (v := 1) hx hb dX12_pays_22 (by decide) ?_
    refine lv_iadd hx hb dX12_pays_23 ?_
    refine lv_topi (fun x4 ex4 => ?_)
    have tx4 : x4.toInt = cv.toInt + 1 := m_addI ex4 (rfl : cv.toInt = _) (by decide : (1 : Int32).toInt = 1) (by omega) (by omega)
    refine m_puti hx hb hts hown hW (81) 58 rfl rfl cw_12 tyX12_ok nmX12 rfl (by decide) k_X12_335 rfl rfl rfl dX12_pays_24 (fun H locs hW _ => ?_)
    generalize hμ5 : m_si μ (81) 58 x4 = μ5 at hW
    have hI := hI.si1 hμ5 rfl (by omega) hS37
    refine lv_iconst (v := 1) hx hb dX12_pays_27 (by decide) ?_
    exact m_iret hx hb hr hlocks hW (by decide) (⟨hI, Or.inl ⟨rfl, by rw [show μ5.1 81 58 = x4 from by rw [← hμ5]; first | rfl | exact if_pos ⟨rfl, rfl⟩] <;> omega⟩⟩) dX12_pays_28
  · have i2 := m_c5 (rfl : cv.toInt = _) (by decide : (1000 : Int32).toInt = 1000) c2
    refine lv_aload_n hx hb dX12_pays_10 rfl (lv_at hl 0 rfl) ?_
    refine lv_iconst (v := 1) hx hb dX12_pays_11 (by decide) ?_
    refine m_puti hx hb hts hown hW (81) 59 rfl rfl cw_12 tyX12_ok nmX12 rfl (by decide) k_X12_338 rfl (by decide) rfl dX12_pays_12 (fun H locs hW _ => ?_)
    generalize hμ6 : m_si μ (81) 59 1 = μ6 at hW
    have hI := hI.si1 hμ6 rfl (by decide) hS27
    refine lv_iconst (v := 0) hx hb dX12_pays_15 (by decide) ?_
    exact m_iret hx hb hr hlocks hW (by decide) (⟨hI, Or.inr ⟨rfl, by rw [show μ6.1 81 58 = cv from by rw [← hμ6]; exact hc] <;> omega⟩⟩) dX12_pays_16
set_option maxHeartbeats 4000000 in
set_option maxRecDepth 100000 in
theorem L_X12_waits_2 {p : Program} {l : Launch} {e : Env} {s : State} {m : MethodId} {args : Array Value} {below : List Frame} {meth : Method} {c : Code} {D : va_G} {cy : Nat → ClassId} {b : Nat} (hx : p.tables.exec = Jvm.exec) (hb : c.code = cX12_waits) (hr : meth.sig.returnType = (none)) (hml : c.maxLocals = 4) (hown : s.vm.findClass RX12 = some m.cls) (hts : ∀ w ∈ TB, w.before args s = true) (hlocks : meth.locks = false) (S : Nat → Bool) (μ0 : mM) (hS22 : S 22 = true) (hS32 : S 32 = true) (hS27 : S 27 = true) (hS37 : S 37 = true) (cv : Int32) (h_cv : 0 ≤ cv.toInt ∧ cv.toInt ≤ 1000) (d k : Int32) (h_d : 0 ≤ d.toInt ∧ d.toInt ≤ 1) : ∀ (f : Nat), ∀ (y3 : Int32) (gc : Int32) (hy : 0 ≤ y3.toInt ∧ y3.toInt ≤ 2147483647 ∧ cv.toInt ≤ gc.toInt ∧ gc.toInt ≤ 1000) (hf : 2147483647 - y3.toInt < (f : Int)) (μ : mM) (hI : IY S μ0 μ) (hc : μ.1 81 58 = gc) (H : Heap) (locs : List Loc), m_WA (m_A b LAY) D cy s b LAY μ H locs → ∀ ls : Array Slot, lv_has ls 4 [(0, .ref (b + 81)), (1, .int d), (2, .int k), (3, .int y3)] → W p l e (m_R 6 0 0) s m args below meth c H locs 0 0 (MQ below (m_Qv D cy b LAY (fun ν => IY S μ0 ν ∧ (cv.toInt ≤ (ν.1 81 58).toInt))) args s 0 0 (m_A b LAY)) (F0 m 2 ls []) := by
  intro f
  induction f with
  | zero => intro y3 gc hy hf; exfalso; omega
  | succ f ih =>
    intro y3 gc hy hf μ hI hc H locs hW ls hl
    refine lv_iload_n hx hb dX12_waits_2 rfl (lv_at hl 3 rfl) ?_
    refine lv_iload_n hx hb dX12_waits_3 rfl (lv_at hl 2 rfl) ?_
    refine lv_icmp_ge (tgt := 35) hx hb dX12_waits_4 (by decide) (fun c1 => ?_) (fun c1 => ?_)
    · have i1 := m_c3 (rfl : k.toInt = _) (rfl : y3.toInt = _) c1
      exact m_vret hx hb hr hlocks hW (⟨hI, by rw [show μ.1 81 58 = gc from by exact hc]; omega⟩) dX12_waits_35
    · have i1 := m_c4 (rfl : k.toInt = _) (rfl : y3.toInt = _) c1; have r_k := m_rng k
      refine lv_aload_n hx hb dX12_waits_7 rfl (lv_at hl 0 rfl) ?_
      refine m_aI hW (m_runV (As := []) (rest := []) hx hb hml hown hts hW (81) (g_X12_pays l D cy b S μ0 hS27 hS37 gc (by omega) μ hI (by exact hc)) mi_X12_pays k_X12_341 rfl rfl rfl hl.1 rfl (Nat.le_of_ble_eq_true rfl) dX12_waits_8 ⟨Nat.le_of_ble_eq_true rfl, Nat.le_of_ble_eq_true rfl⟩ ⟨Nat.le_of_ble_eq_true rfl, Nat.le_of_ble_eq_true rfl⟩) (fun x2 μ2 H locs q2 hW => ?_)
      obtain ⟨hI, q2⟩ := q2
      rcases q2 with ⟨rfl, q2⟩ | ⟨rfl, q2⟩
      · obtain ⟨x3, hx3⟩ : ∃ z, μ2.1 81 58 = z := ⟨_, rfl⟩
        have bx3 : 0 ≤ x3.toInt ∧ x3.toInt ≤ 1000 := by rw [← hx3]; exact hI.1 _ _ _ _ rfl
        rw [show μ2.1 81 58 = x3 from by exact hx3] at q2
        refine lv_if_eq (tgt := 35) hx hb dX12_waits_11 (by decide) (fun c => False.elim (by revert c; decide)) (fun _ => ?_)
        refine lv_aload_n hx hb dX12_waits_14 rfl (lv_at hl 0 rfl) ?_
        refine lv_iload_n hx hb dX12_waits_15 rfl (lv_at hl 1 rfl) ?_
        refine m_aV hW (m_runV (As := [.int d]) (rest := []) hx hb hml hown hts hW (81) (g_X12_ticksOnce l D cy b (fun g => [22, 32].contains g) μ2 rfl rfl d (by omega) μ2 (IY.rf hI.1)) mi_X12_ticksOnce k_X12_344 rfl rfl rfl hl.1 rfl (Nat.le_of_ble_eq_true rfl) dX12_waits_16 ⟨Nat.le_of_ble_eq_true rfl, Nat.le_of_ble_eq_true rfl⟩ ⟨Nat.le_of_ble_eq_true rfl, Nat.le_of_ble_eq_true rfl⟩) (fun μ4 H locs q4 hW => ?_)
        obtain ⟨hJ4, q4⟩ := q4
        have hI := hI.tr hJ4 (m_subL (by simp [hS22, hS32]))
        refine lv_aload_n hx hb dX12_waits_19 rfl (lv_at hl 0 rfl) ?_
        refine lv_aload_n hx hb dX12_waits_20 rfl (lv_at hl 0 rfl) ?_
        refine m_geti hx hb hts hown hW (81) 60 rfl rfl cw_12 rfl (by decide) k_X12_347 dX12_waits_21 ?_
        refine lv_topi (fun x5 ex5 => ?_)
        refine lv_iconst (v := 1) hx hb dX12_waits_24 (by decide) ?_
        refine lv_iadd hx hb dX12_waits_25 ?_
        refine lv_topi (fun x6 ex6 => ?_)
        refine m_puti hx hb hts hown hW (81) 60 rfl rfl cw_12 tyX12_ok nmX12 rfl (by decide) k_X12_347 rfl rfl rfl dX12_waits_26 (fun H locs hW _ => ?_)
        generalize hμ7 : m_si μ4 (81) 60 x6 = μ7 at hW
        have hI := hI.si0 hμ7 rfl hS27
        obtain ⟨x8, ex8⟩ : ∃ z : Int32, z = y3 + 1 := ⟨_, rfl⟩
        refine lv_iinc (v := x8) (lv' := [(3, .int x8), (0, .ref (b + 81)), (1, .int d), (2, .int k)]) hx hb dX12_waits_29 hl (k := 3) rfl (by rw [ex8]; rfl) (by decide) rfl (fun ls hl => ?_)
        have tx8 : x8.toInt = y3.toInt + 1 := m_addI ex8 (rfl : y3.toInt = _) (by decide : (1 : Int32).toInt = 1) (by omega) (by omega)
        refine lv_goto (tgt := 2) hx hb dX12_waits_32 (by decide) ?_
        exact ih x8 x3 (by omega) (by omega) μ7 hI (by rw [← hμ7]; exact ((hJ4.2.1 81 58 rfl).trans (by exact hx3))) _ _ hW ls (lv_sub hl [1, 2, 3, 0] rfl)
      · obtain ⟨x9, hx9⟩ : ∃ z, μ2.1 81 58 = z := ⟨_, rfl⟩
        have bx9 : 0 ≤ x9.toInt ∧ x9.toInt ≤ 1000 := by rw [← hx9]; exact hI.1 _ _ _ _ rfl
        rw [show μ2.1 81 58 = x9 from by exact hx9] at q2
        refine lv_if_eq (tgt := 35) hx hb dX12_waits_11 (by decide) (fun _ => ?_) (fun c => False.elim (by revert c; decide))
        exact m_vret hx hb hr hlocks hW (⟨hI, by rw [show μ2.1 81 58 = x9 from by exact hx9]; omega⟩) dX12_waits_35
set_option maxHeartbeats 4000000 in
set_option maxRecDepth 100000 in
theorem g_X12_waits (l : Launch) (D : va_G) (cy : Nat → ClassId) (b : Nat) (S : Nat → Bool) (μ0 : mM) (hS22 : S 22 = true) (hS32 : S 32 = true) (hS27 : S 27 = true) (hS37 : S 37 = true) (cv : Int32) (h_cv : 0 ≤ cv.toInt ∧ cv.toInt ≤ 1000) (d k : Int32) (h_d : 0 ≤ d.toInt ∧ d.toInt ≤ 1) (μ : mM) (hI : IY S μ0 μ) (hc : μ.1 81 58 = cv) : m_Cv l yX12_waits cX12_waits 4 (none) 6 D cy b LAY μ [.ref (b + 81), .int d, .int k] (fun ν => IY S μ0 ν ∧ (cv.toInt ≤ (ν.1 81 58).toInt)) := by
  unfold m_Cv
  refine m_of (by decide) (Nat.le_of_ble_eq_true rfl) ?_
  intro p e s m below meth c hx hb hr hml hown hts hlocks _ hW ls hl
  have hown : s.vm.findClass RX12 = some m.cls := hown
  have hl : lv_has ls 4 [(0, .ref (b + 81)), (1, .int d), (2, .int k)] := hl
  refine lv_iconst (v := 0) hx hb dX12_waits_0 (by decide) ?_
  refine lv_istore_n (lv' := [(3, .int 0), (0, .ref (b + 81)), (1, .int d), (2, .int k)]) hx hb dX12_waits_1 rfl hl (by decide) rfl (fun ls hl => ?_)
  have l_0 : (0 : Int32).toInt = 0 := by decide
  exact L_X12_waits_2 hx hb hr hml hown hts hlocks S μ0 hS22 hS32 hS27 hS37 cv h_cv d k h_d  2147483648 0 cv (by omega) (by omega) μ hI (by exact hc) _ _ hW ls (lv_sub hl [1, 2, 3, 0] rfl)
set_option maxHeartbeats 4000000 in
set_option maxRecDepth 100000 in
theorem L_X12_goes_3 {p : Program} {l : Launch} {e : Env} {s : State} {m : MethodId} {args : Array Value} {below : List Frame} {meth : Method} {c : Code} {D : va_G} {cy : Nat → ClassId} {b : Nat} (hx : p.tables.exec = Jvm.exec) (hb : c.code = cX12_goes) (hr : meth.sig.returnType = (none)) (hml : c.maxLocals = 7) (hown : s.vm.findClass RX12 = some m.cls) (hts : ∀ w ∈ TB, w.before args s = true) (hlocks : meth.locks = false) (S : Nat → Bool) (μ0 : mM) (hS22 : S 22 = true) (hS32 : S 32 = true) (hS27 : S 27 = true) (hS37 : S 37 = true) (cv : Int32) (h_cv : 0 ≤ cv.toInt ∧ cv.toInt ≤ 1000) (d k u : Int32) (h_d : 0 ≤ d.toInt ∧ d.toInt ≤ 1) : ∀ (f : Nat), ∀ (y4 : Int32) (gc : Int32) (hy : 0 ≤ y4.toInt ∧ y4.toInt ≤ 2147483647 ∧ cv.toInt ≤ gc.toInt ∧ gc.toInt ≤ 1000) (hf : 2147483647 - y4.toInt < (f : Int)) (μ : mM) (hI : IY S μ0 μ) (hc : μ.1 81 58 = gc) (H : Heap) (locs : List Loc), m_WA (m_A b LAY) D cy s b LAY μ H locs → ∀ ls : Array Slot, lv_has ls 7 [(0, .ref (b + 81)), (1, .int d), (2, .int k), (3, .int u), (4, .int y4)] → W p l e (m_R 7 0 0) s m args below meth c H locs 0 0 (MQ below (m_Qv D cy b LAY (fun ν => IY S μ0 ν ∧ (cv.toInt ≤ (ν.1 81 58).toInt))) args s 0 0 (m_A b LAY)) (F0 m 3 ls []) := by
  intro f
  induction f with
  | zero => intro y4 gc hy hf; exfalso; omega
  | succ f ih =>
    intro y4 gc hy hf μ hI hc H locs hW ls hl
    refine lv_iload hx hb dX12_goes_3 (lv_at hl 4 rfl) ?_
    refine lv_iload_n hx hb dX12_goes_5 rfl (lv_at hl 3 rfl) ?_
    refine lv_icmp_ge (tgt := 82) hx hb dX12_goes_6 (by decide) (fun c1 => ?_) (fun c1 => ?_)
    · have i1 := m_c3 (rfl : u.toInt = _) (rfl : y4.toInt = _) c1
      exact m_vret hx hb hr hlocks hW (⟨hI, by rw [show μ.1 81 58 = gc from by exact hc]; omega⟩) dX12_goes_82
    · have i1 := m_c4 (rfl : u.toInt = _) (rfl : y4.toInt = _) c1; have r_u := m_rng u
      refine lv_aload_n hx hb dX12_goes_9 rfl (lv_at hl 0 rfl) ?_
      refine m_geti hx hb hts hown hW (81) 59 rfl rfl cw_12 rfl (by decide) k_X12_338 dX12_goes_10 ?_
      refine lv_topi (fun x2 ex2 => ?_)
      have bx2 : 0 ≤ x2.toInt ∧ x2.toInt ≤ 1 := by rw [ex2]; exact hI.1 _ _ _ _ rfl
      refine lv_if_ne (tgt := 82) hx hb dX12_goes_13 (by decide) (fun c3 => ?_) (fun c3 => ?_)
      · have i3 := m_c6 (rfl : x2.toInt = _) (by decide : (0 : Int32).toInt = 0) c3
        exact m_vret hx hb hr hlocks hW (⟨hI, by rw [show μ.1 81 58 = gc from by exact hc]; omega⟩) dX12_goes_82
      · have i3 := m_c5 (rfl : x2.toInt = _) (by decide : (0 : Int32).toInt = 0) c3
        refine lv_aload_n hx hb dX12_goes_16 rfl (lv_at hl 0 rfl) ?_
        refine m_getr hx hb hts hown hW (81) 18 (91) rfl rfl cw_12 rfl (by decide) k_X12_49 dX12_goes_17 ?_
        refine lv_iload_n hx hb dX12_goes_20 rfl (lv_at hl 1 rfl) ?_
        refine m_iald hx hb hW (91) rfl (m_ixI (rfl : d.toInt = _) (by omega) (by omega)) dX12_goes_21 ?_
        refine lv_topi (fun x4 ex4 => ?_)
        refine lv_aload_n hx hb dX12_goes_22 rfl (lv_at hl 0 rfl) ?_
        refine lv_iload_n hx hb dX12_goes_23 rfl (lv_at hl 2 rfl) ?_
        refine m_aI hW (m_runV (As := [.int k]) (rest := [.int x4]) hx hb hml hown hts hW (81) (g_X12_stepX l D cy b k μ hI.1) mi_X12_stepX k_X12_193 rfl rfl rfl hl.1 rfl (Nat.le_of_ble_eq_true rfl) dX12_goes_24 ⟨Nat.le_of_ble_eq_true rfl, Nat.le_of_ble_eq_true rfl⟩ ⟨Nat.le_of_ble_eq_true rfl, Nat.le_of_ble_eq_true rfl⟩) (fun x5 μ5 H locs q5 hW => ?_)
        obtain ⟨q5_m, q5⟩ := q5
        subst q5_m
        refine lv_iadd hx hb dX12_goes_27 ?_
        refine lv_topi (fun x6 ex6 => ?_)
        refine lv_istore (lv' := [(5, .int x6), (0, .ref (b + 81)), (1, .int d), (2, .int k), (3, .int u), (4, .int y4)]) hx hb dX12_goes_28 hl (by decide) rfl (fun ls hl => ?_)
        refine lv_aload_n hx hb dX12_goes_30 rfl (lv_at hl 1 rfl) ?_
        refine m_getr hx hb hts hown hW (81) 19 (92) rfl rfl cw_12 rfl (by decide) k_X12_52 dX12_goes_31 ?_
        refine lv_iload_n hx hb dX12_goes_34 rfl (lv_at hl 2 rfl) ?_
        refine m_iald hx hb hW (92) rfl (m_ixI (rfl : d.toInt = _) (by omega) (by omega)) dX12_goes_35 ?_
        refine lv_topi (fun x7 ex7 => ?_)
        refine lv_aload_n hx hb dX12_goes_36 rfl (lv_at hl 1 rfl) ?_
        refine lv_iload_n hx hb dX12_goes_37 rfl (lv_at hl 3 rfl) ?_
        refine m_aI hW (m_runV (As := [.int k]) (rest := [.int x7]) hx hb hml hown hts hW (81) (g_X12_stepY l D cy b k μ hI.1) mi_X12_stepY k_X12_197 rfl rfl rfl hl.1 rfl (Nat.le_of_ble_eq_true rfl) dX12_goes_38 ⟨Nat.le_of_ble_eq_true rfl, Nat.le_of_ble_eq_true rfl⟩ ⟨Nat.le_of_ble_eq_true rfl, Nat.le_of_ble_eq_true rfl⟩) (fun x8 μ8 H locs q8 hW => ?_)
        obtain ⟨q8_m, q8⟩ := q8
        subst q8_m
        refine lv_iadd hx hb dX12_goes_41 ?_
        refine lv_topi (fun x9 ex9 => ?_)
        refine lv_istore (lv' := [(6, .int x9), (5, .int x6), (0, .ref (b + 81)), (1, .int d), (2, .int k), (3, .int u), (4, .int y4)]) hx hb dX12_goes_42 hl (by decide) rfl (fun ls hl => ?_)
        refine lv_aload_n hx hb dX12_goes_44 rfl (lv_at hl 2 rfl) ?_
        refine lv_iload hx hb dX12_goes_45 (lv_at hl 1 rfl) ?_
        refine lv_iload hx hb dX12_goes_47 (lv_at hl 0 rfl) ?_
        refine m_aI hW (m_runV (As := [.int x6, .int x9]) (rest := []) hx hb hml hown hts hW (81) (g_X12_isOnPlate l D cy b x6 x9 μ hI.1) mi_X12_isOnPlate k_X12_189 rfl rfl rfl hl.1 rfl (Nat.le_of_ble_eq_true rfl) dX12_goes_49 ⟨Nat.le_of_ble_eq_true rfl, Nat.le_of_ble_eq_true rfl⟩ ⟨Nat.le_of_ble_eq_true rfl, Nat.le_of_ble_eq_true rfl⟩) (fun x10 μ10 H locs q10 hW => ?_)
        obtain ⟨q10_m, q10⟩ := q10
        subst q10_m
        rcases q10 with ⟨rfl, q10⟩ | ⟨rfl, q10⟩
        · refine lv_if_ne (tgt := 56) hx hb dX12_goes_52 (by decide) (fun _ => ?_) (fun c => False.elim (by revert c; decide))
          refine lv_aload_n hx hb dX12_goes_56 rfl (lv_at hl 2 rfl) ?_
          refine lv_iload_n hx hb dX12_goes_57 rfl (lv_at hl 3 rfl) ?_
          refine lv_iload hx hb dX12_goes_58 (lv_at hl 1 rfl) ?_
          refine lv_iload hx hb dX12_goes_60 (lv_at hl 0 rfl) ?_
          refine m_aV hW (m_runV (As := [.int d, .int x6, .int x9]) (rest := []) hx hb hml hown hts hW (81) (g_X12_comes l D cy b (fun g => [22].contains g) μ rfl d x6 x9 (by omega) μ (IY.rf hI.1)) mi_X12_comes k_X12_350 rfl rfl rfl hl.1 rfl (Nat.le_of_ble_eq_true rfl) dX12_goes_62 ⟨Nat.le_of_ble_eq_true rfl, Nat.le_of_ble_eq_true rfl⟩ ⟨Nat.le_of_ble_eq_true rfl, Nat.le_of_ble_eq_true rfl⟩) (fun μ11 H locs q11 hW => ?_)
          obtain ⟨hJ11, q11⟩ := q11
          have hI := hI.tr hJ11 (m_subL (by simp [hS22]))
          refine lv_aload_n hx hb dX12_goes_65 rfl (lv_at hl 2 rfl) ?_
          refine lv_iload_n hx hb dX12_goes_66 rfl (lv_at hl 3 rfl) ?_
          refine lv_aload_n hx hb dX12_goes_67 rfl (lv_at hl 2 rfl) ?_
          refine m_getr hx hb hts hown hW (81) 21 (94) rfl rfl cw_12 rfl (by decide) k_X12_58 dX12_goes_68 ?_
          refine lv_iload_n hx hb dX12_goes_71 rfl (lv_at hl 3 rfl) ?_
          refine m_iald hx hb hW (94) rfl (m_ixI (rfl : d.toInt = _) (by omega) (by omega)) dX12_goes_72 ?_
          refine lv_topi (fun x12 ex12 => ?_)
          refine m_aV hW (m_runV (As := [.int d, .int x12]) (rest := []) hx hb hml hown hts hW (81) (g_X12_waits l D cy b S μ0 hS22 hS32 hS27 hS37 gc (by omega) d x12 (by omega) μ11 hI (by exact ((hJ11.2.1 81 58 rfl).trans (by exact hc)))) mi_X12_waits k_X12_353 rfl rfl rfl hl.1 rfl (Nat.le_of_ble_eq_true rfl) dX12_goes_73 ⟨Nat.le_of_ble_eq_true rfl, Nat.le_of_ble_eq_true rfl⟩ ⟨Nat.le_of_ble_eq_true rfl, Nat.le_of_ble_eq_true rfl⟩) (fun μ13 H locs q13 hW => ?_)
          obtain ⟨hI, q13⟩ := q13
          obtain ⟨x14, hx14⟩ : ∃ z, μ13.1 81 58 = z := ⟨_, rfl⟩
          have bx14 : 0 ≤ x14.toInt ∧ x14.toInt ≤ 1000 := by rw [← hx14]; exact hI.1 _ _ _ _ rfl
          rw [show μ13.1 81 58 = x14 from by exact hx14] at q13
          obtain ⟨x15, ex15⟩ : ∃ z : Int32, z = y4 + 1 := ⟨_, rfl⟩
          refine lv_iinc (v := x15) (lv' := [(4, .int x15), (6, .int x9), (5, .int x6), (0, .ref (b + 81)), (1, .int d), (2, .int k), (3, .int u)]) hx hb dX12_goes_76 hl (k := 6) rfl (by rw [ex15]; rfl) (by decide) rfl (fun ls hl => ?_)
          have tx15 : x15.toInt = y4.toInt + 1 := m_addI ex15 (rfl : y4.toInt = _) (by decide : (1 : Int32).toInt = 1) (by omega) (by omega)
          refine lv_goto (tgt := 3) hx hb dX12_goes_79 (by decide) ?_
          exact ih x15 x14 (by omega) (by omega) μ13 hI (by exact hx14) _ _ hW ls (lv_sub hl [3, 4, 5, 6, 0] rfl)
        · refine lv_if_ne (tgt := 56) hx hb dX12_goes_52 (by decide) (fun c => False.elim (by revert c; decide)) (fun _ => ?_)
          exact m_vret hx hb hr hlocks hW (⟨hI, by rw [show μ.1 81 58 = gc from by exact hc]; omega⟩) dX12_goes_55
set_option maxHeartbeats 4000000 in
set_option maxRecDepth 100000 in
theorem g_X12_goes (l : Launch) (D : va_G) (cy : Nat → ClassId) (b : Nat) (S : Nat → Bool) (μ0 : mM) (hS22 : S 22 = true) (hS32 : S 32 = true) (hS27 : S 27 = true) (hS37 : S 37 = true) (cv : Int32) (h_cv : 0 ≤ cv.toInt ∧ cv.toInt ≤ 1000) (d k u : Int32) (h_d : 0 ≤ d.toInt ∧ d.toInt ≤ 1) (μ : mM) (hI : IY S μ0 μ) (hc : μ.1 81 58 = cv) : m_Cv l yX12_goes cX12_goes 7 (none) 7 D cy b LAY μ [.ref (b + 81), .int d, .int k, .int u] (fun ν => IY S μ0 ν ∧ (cv.toInt ≤ (ν.1 81 58).toInt)) := by
  unfold m_Cv
  refine m_of (by decide) (Nat.le_of_ble_eq_true rfl) ?_
  intro p e s m below meth c hx hb hr hml hown hts hlocks _ hW ls hl
  have hown : s.vm.findClass RX12 = some m.cls := hown
  have hl : lv_has ls 7 [(0, .ref (b + 81)), (1, .int d), (2, .int k), (3, .int u)] := hl
  refine lv_iconst (v := 0) hx hb dX12_goes_0 (by decide) ?_
  refine lv_istore (lv' := [(4, .int 0), (0, .ref (b + 81)), (1, .int d), (2, .int k), (3, .int u)]) hx hb dX12_goes_1 hl (by decide) rfl (fun ls hl => ?_)
  have l_0 : (0 : Int32).toInt = 0 := by decide
  exact L_X12_goes_3 hx hb hr hml hown hts hlocks S μ0 hS22 hS32 hS27 hS37 cv h_cv d k u h_d  2147483648 0 cv (by omega) (by omega) μ hI (by exact hc) _ _ hW ls (lv_sub hl [1, 2, 3, 4, 0] rfl)
set_option maxHeartbeats 4000000 in
set_option maxRecDepth 100000 in
theorem g_X12_doesPlain (l : Launch) (D : va_G) (cy : Nat → ClassId) (b : Nat) (S : Nat → Bool) (μ0 : mM) (hS22 : S 22 = true) (hS32 : S 32 = true) (hS27 : S 27 = true) (hS37 : S 37 = true) (cv : Int32) (h_cv : 0 ≤ cv.toInt ∧ cv.toInt ≤ 1000) (d k u v : Int32) (h_d : 0 ≤ d.toInt ∧ d.toInt ≤ 1) (μ : mM) (hI : IY S μ0 μ) (hc : μ.1 81 58 = cv) : m_Cv l yX12_doesPlain cX12_doesPlain 5 (none) 8 D cy b LAY μ [.ref (b + 81), .int d, .int k, .int u, .int v] (fun ν => IY S μ0 ν ∧ (cv.toInt ≤ (ν.1 81 58).toInt)) := by
  unfold m_Cv
  refine m_of (by decide) (Nat.le_of_ble_eq_true rfl) ?_
  intro p e s m below meth c hx hb hr hml hown hts hlocks _ hW ls hl
  have hown : s.vm.findClass RX12 = some m.cls := hown
  have hl : lv_has ls 5 [(0, .ref (b + 81)), (1, .int d), (2, .int k), (3, .int u), (4, .int v)] := hl
  refine lv_iload_n hx hb dX12_doesPlain_0 rfl (lv_at hl 2 rfl) ?_
  refine lv_if_eq (tgt := 9) hx hb dX12_doesPlain_1 (by decide) (fun c1 => ?_) (fun c1 => ?_)
  · have i1 := m_c5 (rfl : k.toInt = _) (by decide : (0 : Int32).toInt = 0) c1
    refine lv_aload_n hx hb dX12_doesPlain_9 rfl (lv_at hl 0 rfl) ?_
    refine m_getr hx hb hts hown hW (81) 20 (93) rfl rfl cw_12 rfl (by decide) k_X12_55 dX12_doesPlain_10 ?_
    refine lv_iload_n hx hb dX12_doesPlain_13 rfl (lv_at hl 1 rfl) ?_
    refine lv_iload_n hx hb dX12_doesPlain_14 rfl (lv_at hl 2 rfl) ?_
    refine lv_if_ne (tgt := 22) hx hb dX12_doesPlain_15 (by decide) (fun c2 => ?_) (fun c2 => ?_)
    · have i2 := m_c6 (rfl : k.toInt = _) (by decide : (0 : Int32).toInt = 0) c2
      exfalso; omega
    · have i2 := m_c5 (rfl : k.toInt = _) (by decide : (0 : Int32).toInt = 0) c2
      refine lv_iconst (v := 1) hx hb dX12_doesPlain_18 (by decide) ?_
      refine lv_goto (tgt := 23) hx hb dX12_doesPlain_19 (by decide) ?_
      refine m_zast hx hb hW (93) rfl (m_ixI (rfl : d.toInt = _) (by omega) (by omega)) (by decide) dX12_doesPlain_23 (fun H locs hW _ => ?_)
      generalize hμ3 : m_si μ (93) (d : Int32).toNatClampNeg 1 = μ3 at hW
      have hI := hI.si1 hμ3 rfl (by decide) hS22
      refine lv_iload_n hx hb dX12_doesPlain_24 rfl (lv_at hl 2 rfl) ?_
      refine lv_iconst (v := 2) hx hb dX12_doesPlain_25 (by decide) ?_
      refine lv_icmp_ne (tgt := 47) hx hb dX12_doesPlain_26 (by decide) (fun c4 => ?_) (fun c4 => ?_)
      · have i4 := m_c6 (rfl : k.toInt = _) (by decide : (2 : Int32).toInt = 2) c4
        refine lv_iload_n hx hb dX12_doesPlain_47 rfl (lv_at hl 2 rfl) ?_
        refine lv_iconst (v := 3) hx hb dX12_doesPlain_48 (by decide) ?_
        refine lv_icmp_ne (tgt := 60) hx hb dX12_doesPlain_49 (by decide) (fun c5 => ?_) (fun c5 => ?_)
        · have i5 := m_c6 (rfl : k.toInt = _) (by decide : (3 : Int32).toInt = 3) c5
          refine lv_iload_n hx hb dX12_doesPlain_60 rfl (lv_at hl 2 rfl) ?_
          refine lv_iconst (v := 4) hx hb dX12_doesPlain_61 (by decide) ?_
          refine lv_icmp_ne (tgt := 71) hx hb dX12_doesPlain_62 (by decide) (fun c6 => ?_) (fun c6 => ?_)
          · have i6 := m_c6 (rfl : k.toInt = _) (by decide : (4 : Int32).toInt = 4) c6
            refine lv_iload_n hx hb dX12_doesPlain_71 rfl (lv_at hl 2 rfl) ?_
            refine lv_iconst (v := 5) hx hb dX12_doesPlain_72 (by decide) ?_
            refine lv_icmp_ne (tgt := 83) hx hb dX12_doesPlain_73 (by decide) (fun c7 => ?_) (fun c7 => ?_)
            · have i7 := m_c6 (rfl : k.toInt = _) (by decide : (5 : Int32).toInt = 5) c7
              exact m_vret hx hb hr hlocks hW (⟨hI, by rw [show μ3.1 81 58 = cv from by rw [← hμ3]; exact hc]; omega⟩) dX12_doesPlain_83
            · have i7 := m_c5 (rfl : k.toInt = _) (by decide : (5 : Int32).toInt = 5) c7
              exfalso; omega
          · have i6 := m_c5 (rfl : k.toInt = _) (by decide : (4 : Int32).toInt = 4) c6
            exfalso; omega
        · have i5 := m_c5 (rfl : k.toInt = _) (by decide : (3 : Int32).toInt = 3) c5
          exfalso; omega
      · have i4 := m_c5 (rfl : k.toInt = _) (by decide : (2 : Int32).toInt = 2) c4
        exfalso; omega
  · have i1 := m_c6 (rfl : k.toInt = _) (by decide : (0 : Int32).toInt = 0) c1
    refine lv_iload_n hx hb dX12_doesPlain_4 rfl (lv_at hl 2 rfl) ?_
    refine lv_iconst (v := 1) hx hb dX12_doesPlain_5 (by decide) ?_
    refine lv_icmp_ne (tgt := 24) hx hb dX12_doesPlain_6 (by decide) (fun c8 => ?_) (fun c8 => ?_)
    · have i8 := m_c6 (rfl : k.toInt = _) (by decide : (1 : Int32).toInt = 1) c8
      refine lv_iload_n hx hb dX12_doesPlain_24 rfl (lv_at hl 2 rfl) ?_
      refine lv_iconst (v := 2) hx hb dX12_doesPlain_25 (by decide) ?_
      refine lv_icmp_ne (tgt := 47) hx hb dX12_doesPlain_26 (by decide) (fun c9 => ?_) (fun c9 => ?_)
      · have i9 := m_c6 (rfl : k.toInt = _) (by decide : (2 : Int32).toInt = 2) c9
        refine lv_iload_n hx hb dX12_doesPlain_47 rfl (lv_at hl 2 rfl) ?_
        refine lv_iconst (v := 3) hx hb dX12_doesPlain_48 (by decide) ?_
        refine lv_icmp_ne (tgt := 60) hx hb dX12_doesPlain_49 (by decide) (fun c10 => ?_) (fun c10 => ?_)
        · have i10 := m_c6 (rfl : k.toInt = _) (by decide : (3 : Int32).toInt = 3) c10
          refine lv_iload_n hx hb dX12_doesPlain_60 rfl (lv_at hl 2 rfl) ?_
          refine lv_iconst (v := 4) hx hb dX12_doesPlain_61 (by decide) ?_
          refine lv_icmp_ne (tgt := 71) hx hb dX12_doesPlain_62 (by decide) (fun c11 => ?_) (fun c11 => ?_)
          · have i11 := m_c6 (rfl : k.toInt = _) (by decide : (4 : Int32).toInt = 4) c11
            refine lv_iload_n hx hb dX12_doesPlain_71 rfl (lv_at hl 2 rfl) ?_
            refine lv_iconst (v := 5) hx hb dX12_doesPlain_72 (by decide) ?_
            refine lv_icmp_ne (tgt := 83) hx hb dX12_doesPlain_73 (by decide) (fun c12 => ?_) (fun c12 => ?_)
            · have i12 := m_c6 (rfl : k.toInt = _) (by decide : (5 : Int32).toInt = 5) c12
              exact m_vret hx hb hr hlocks hW (⟨hI, by rw [show μ.1 81 58 = cv from by exact hc]; omega⟩) dX12_doesPlain_83
            · have i12 := m_c5 (rfl : k.toInt = _) (by decide : (5 : Int32).toInt = 5) c12
              refine lv_aload_n hx hb dX12_doesPlain_76 rfl (lv_at hl 0 rfl) ?_
              refine m_getr hx hb hts hown hW (81) 21 (94) rfl rfl cw_12 rfl (by decide) k_X12_58 dX12_doesPlain_77 ?_
              refine lv_iload_n hx hb dX12_doesPlain_80 rfl (lv_at hl 1 rfl) ?_
              refine lv_iload_n hx hb dX12_doesPlain_81 rfl (lv_at hl 3 rfl) ?_
              refine m_iast hx hb hW (94) rfl (m_ixI (rfl : d.toInt = _) (by omega) (by omega)) dX12_doesPlain_82 (fun H locs hW _ => ?_)
              generalize hμ13 : m_si μ (94) (d : Int32).toNatClampNeg u = μ13 at hW
              have hI := hI.si0 hμ13 rfl hS22
              exact m_vret hx hb hr hlocks hW (⟨hI, by rw [show μ13.1 81 58 = cv from by rw [← hμ13]; exact hc]; omega⟩) dX12_doesPlain_83
          · have i11 := m_c5 (rfl : k.toInt = _) (by decide : (4 : Int32).toInt = 4) c11
            refine lv_aload_n hx hb dX12_doesPlain_65 rfl (lv_at hl 0 rfl) ?_
            refine lv_iload_n hx hb dX12_doesPlain_66 rfl (lv_at hl 1 rfl) ?_
            refine lv_iload_n hx hb dX12_doesPlain_67 rfl (lv_at hl 3 rfl) ?_
            refine m_aV hW (m_runV (As := [.int d, .int u]) (rest := []) hx hb hml hown hts hW (81) (g_X12_waits l D cy b S μ0 hS22 hS32 hS27 hS37 cv (by omega) d u (by omega) μ hI (by exact hc)) mi_X12_waits k_X12_353 rfl rfl rfl hl.1 rfl (Nat.le_of_ble_eq_true rfl) dX12_doesPlain_68 ⟨Nat.le_of_ble_eq_true rfl, Nat.le_of_ble_eq_true rfl⟩ ⟨Nat.le_of_ble_eq_true rfl, Nat.le_of_ble_eq_true rfl⟩) (fun μ14 H locs q14 hW => ?_)
            obtain ⟨hI, q14⟩ := q14
            obtain ⟨x15, hx15⟩ : ∃ z, μ14.1 81 58 = z := ⟨_, rfl⟩
            have bx15 : 0 ≤ x15.toInt ∧ x15.toInt ≤ 1000 := by rw [← hx15]; exact hI.1 _ _ _ _ rfl
            rw [show μ14.1 81 58 = x15 from by exact hx15] at q14
            refine lv_iload_n hx hb dX12_doesPlain_71 rfl (lv_at hl 2 rfl) ?_
            refine lv_iconst (v := 5) hx hb dX12_doesPlain_72 (by decide) ?_
            refine lv_icmp_ne (tgt := 83) hx hb dX12_doesPlain_73 (by decide) (fun c16 => ?_) (fun c16 => ?_)
            · have i16 := m_c6 (rfl : k.toInt = _) (by decide : (5 : Int32).toInt = 5) c16
              exact m_vret hx hb hr hlocks hW (⟨hI, by rw [show μ14.1 81 58 = x15 from by exact hx15]; omega⟩) dX12_doesPlain_83
            · have i16 := m_c5 (rfl : k.toInt = _) (by decide : (5 : Int32).toInt = 5) c16
              exfalso; omega
        · have i10 := m_c5 (rfl : k.toInt = _) (by decide : (3 : Int32).toInt = 3) c10
          refine lv_aload_n hx hb dX12_doesPlain_52 rfl (lv_at hl 0 rfl) ?_
          refine lv_iload_n hx hb dX12_doesPlain_53 rfl (lv_at hl 1 rfl) ?_
          refine lv_iload_n hx hb dX12_doesPlain_54 rfl (lv_at hl 3 rfl) ?_
          refine lv_iload hx hb dX12_doesPlain_55 (lv_at hl 4 rfl) ?_
          refine m_aV hW (m_runV (As := [.int d, .int u, .int v]) (rest := []) hx hb hml hown hts hW (81) (g_X12_goes l D cy b S μ0 hS22 hS32 hS27 hS37 cv (by omega) d u v (by omega) μ hI (by exact hc)) mi_X12_goes k_X12_362 rfl rfl rfl hl.1 rfl (Nat.le_of_ble_eq_true rfl) dX12_doesPlain_57 ⟨Nat.le_of_ble_eq_true rfl, Nat.le_of_ble_eq_true rfl⟩ ⟨Nat.le_of_ble_eq_true rfl, Nat.le_of_ble_eq_true rfl⟩) (fun μ17 H locs q17 hW => ?_)
          obtain ⟨hI, q17⟩ := q17
          obtain ⟨x18, hx18⟩ : ∃ z, μ17.1 81 58 = z := ⟨_, rfl⟩
          have bx18 : 0 ≤ x18.toInt ∧ x18.toInt ≤ 1000 := by rw [← hx18]; exact hI.1 _ _ _ _ rfl
          rw [show μ17.1 81 58 = x18 from by exact hx18] at q17
          refine lv_iload_n hx hb dX12_doesPlain_60 rfl (lv_at hl 2 rfl) ?_
          refine lv_iconst (v := 4) hx hb dX12_doesPlain_61 (by decide) ?_
          refine lv_icmp_ne (tgt := 71) hx hb dX12_doesPlain_62 (by decide) (fun c19 => ?_) (fun c19 => ?_)
          · have i19 := m_c6 (rfl : k.toInt = _) (by decide : (4 : Int32).toInt = 4) c19
            refine lv_iload_n hx hb dX12_doesPlain_71 rfl (lv_at hl 2 rfl) ?_
            refine lv_iconst (v := 5) hx hb dX12_doesPlain_72 (by decide) ?_
            refine lv_icmp_ne (tgt := 83) hx hb dX12_doesPlain_73 (by decide) (fun c20 => ?_) (fun c20 => ?_)
            · have i20 := m_c6 (rfl : k.toInt = _) (by decide : (5 : Int32).toInt = 5) c20
              exact m_vret hx hb hr hlocks hW (⟨hI, by rw [show μ17.1 81 58 = x18 from by exact hx18]; omega⟩) dX12_doesPlain_83
            · have i20 := m_c5 (rfl : k.toInt = _) (by decide : (5 : Int32).toInt = 5) c20
              exfalso; omega
          · have i19 := m_c5 (rfl : k.toInt = _) (by decide : (4 : Int32).toInt = 4) c19
            exfalso; omega
      · have i9 := m_c5 (rfl : k.toInt = _) (by decide : (2 : Int32).toInt = 2) c9
        refine lv_aload_n hx hb dX12_doesPlain_29 rfl (lv_at hl 0 rfl) ?_
        refine lv_iload_n hx hb dX12_doesPlain_30 rfl (lv_at hl 3 rfl) ?_
        refine lv_iload hx hb dX12_doesPlain_31 (lv_at hl 4 rfl) ?_
        refine m_aI hW (m_runV (As := [.int u, .int v]) (rest := []) hx hb hml hown hts hW (81) (g_X12_isOnPlate l D cy b u v μ hI.1) mi_X12_isOnPlate k_X12_189 rfl rfl rfl hl.1 rfl (Nat.le_of_ble_eq_true rfl) dX12_doesPlain_33 ⟨Nat.le_of_ble_eq_true rfl, Nat.le_of_ble_eq_true rfl⟩ ⟨Nat.le_of_ble_eq_true rfl, Nat.le_of_ble_eq_true rfl⟩) (fun x21 μ21 H locs q21 hW => ?_)
        obtain ⟨q21_m, q21⟩ := q21
        subst q21_m
        rcases q21 with ⟨rfl, q21⟩ | ⟨rfl, q21⟩
        · refine lv_if_eq (tgt := 47) hx hb dX12_doesPlain_36 (by decide) (fun c => False.elim (by revert c; decide)) (fun _ => ?_)
          refine lv_aload_n hx hb dX12_doesPlain_39 rfl (lv_at hl 0 rfl) ?_
          refine lv_iload_n hx hb dX12_doesPlain_40 rfl (lv_at hl 1 rfl) ?_
          refine lv_iload_n hx hb dX12_doesPlain_41 rfl (lv_at hl 3 rfl) ?_
          refine lv_iload hx hb dX12_doesPlain_42 (lv_at hl 4 rfl) ?_
          refine m_aV hW (m_runV (As := [.int d, .int u, .int v]) (rest := []) hx hb hml hown hts hW (81) (g_X12_comes l D cy b (fun g => [22].contains g) μ rfl d u v (by omega) μ (IY.rf hI.1)) mi_X12_comes k_X12_350 rfl rfl rfl hl.1 rfl (Nat.le_of_ble_eq_true rfl) dX12_doesPlain_44 ⟨Nat.le_of_ble_eq_true rfl, Nat.le_of_ble_eq_true rfl⟩ ⟨Nat.le_of_ble_eq_true rfl, Nat.le_of_ble_eq_true rfl⟩) (fun μ22 H locs q22 hW => ?_)
          obtain ⟨hJ22, q22⟩ := q22
          have hI := hI.tr hJ22 (m_subL (by simp [hS22]))
          refine lv_iload_n hx hb dX12_doesPlain_47 rfl (lv_at hl 2 rfl) ?_
          refine lv_iconst (v := 3) hx hb dX12_doesPlain_48 (by decide) ?_
          refine lv_icmp_ne (tgt := 60) hx hb dX12_doesPlain_49 (by decide) (fun c23 => ?_) (fun c23 => ?_)
          · have i23 := m_c6 (rfl : k.toInt = _) (by decide : (3 : Int32).toInt = 3) c23
            refine lv_iload_n hx hb dX12_doesPlain_60 rfl (lv_at hl 2 rfl) ?_
            refine lv_iconst (v := 4) hx hb dX12_doesPlain_61 (by decide) ?_
            refine lv_icmp_ne (tgt := 71) hx hb dX12_doesPlain_62 (by decide) (fun c24 => ?_) (fun c24 => ?_)
            · have i24 := m_c6 (rfl : k.toInt = _) (by decide : (4 : Int32).toInt = 4) c24
              refine lv_iload_n hx hb dX12_doesPlain_71 rfl (lv_at hl 2 rfl) ?_
              refine lv_iconst (v := 5) hx hb dX12_doesPlain_72 (by decide) ?_
              refine lv_icmp_ne (tgt := 83) hx hb dX12_doesPlain_73 (by decide) (fun c25 => ?_) (fun c25 => ?_)
              · have i25 := m_c6 (rfl : k.toInt = _) (by decide : (5 : Int32).toInt = 5) c25
                exact m_vret hx hb hr hlocks hW (⟨hI, by rw [show μ22.1 81 58 = cv from by exact ((hJ22.2.1 81 58 rfl).trans (by exact hc))]; omega⟩) dX12_doesPlain_83
              · have i25 := m_c5 (rfl : k.toInt = _) (by decide : (5 : Int32).toInt = 5) c25
                exfalso; omega
            · have i24 := m_c5 (rfl : k.toInt = _) (by decide : (4 : Int32).toInt = 4) c24
              exfalso; omega
          · have i23 := m_c5 (rfl : k.toInt = _) (by decide : (3 : Int32).toInt = 3) c23
            exfalso; omega
        · refine lv_if_eq (tgt := 47) hx hb dX12_doesPlain_36 (by decide) (fun _ => ?_) (fun c => False.elim (by revert c; decide))
          refine lv_iload_n hx hb dX12_doesPlain_47 rfl (lv_at hl 2 rfl) ?_
          refine lv_iconst (v := 3) hx hb dX12_doesPlain_48 (by decide) ?_
          refine lv_icmp_ne (tgt := 60) hx hb dX12_doesPlain_49 (by decide) (fun c26 => ?_) (fun c26 => ?_)
          · have i26 := m_c6 (rfl : k.toInt = _) (by decide : (3 : Int32).toInt = 3) c26
            refine lv_iload_n hx hb dX12_doesPlain_60 rfl (lv_at hl 2 rfl) ?_
            refine lv_iconst (v := 4) hx hb dX12_doesPlain_61 (by decide) ?_
            refine lv_icmp_ne (tgt := 71) hx hb dX12_doesPlain_62 (by decide) (fun c27 => ?_) (fun c27 => ?_)
            · have i27 := m_c6 (rfl : k.toInt = _) (by decide : (4 : Int32).toInt = 4) c27
              refine lv_iload_n hx hb dX12_doesPlain_71 rfl (lv_at hl 2 rfl) ?_
              refine lv_iconst (v := 5) hx hb dX12_doesPlain_72 (by decide) ?_
              refine lv_icmp_ne (tgt := 83) hx hb dX12_doesPlain_73 (by decide) (fun c28 => ?_) (fun c28 => ?_)
              · have i28 := m_c6 (rfl : k.toInt = _) (by decide : (5 : Int32).toInt = 5) c28
                exact m_vret hx hb hr hlocks hW (⟨hI, by rw [show μ.1 81 58 = cv from by exact hc]; omega⟩) dX12_doesPlain_83
              · have i28 := m_c5 (rfl : k.toInt = _) (by decide : (5 : Int32).toInt = 5) c28
                exfalso; omega
            · have i27 := m_c5 (rfl : k.toInt = _) (by decide : (4 : Int32).toInt = 4) c27
              exfalso; omega
          · have i26 := m_c5 (rfl : k.toInt = _) (by decide : (3 : Int32).toInt = 3) c26
            exfalso; omega
    · have i8 := m_c5 (rfl : k.toInt = _) (by decide : (1 : Int32).toInt = 1) c8
      refine lv_aload_n hx hb dX12_doesPlain_9 rfl (lv_at hl 0 rfl) ?_
      refine m_getr hx hb hts hown hW (81) 20 (93) rfl rfl cw_12 rfl (by decide) k_X12_55 dX12_doesPlain_10 ?_
      refine lv_iload_n hx hb dX12_doesPlain_13 rfl (lv_at hl 1 rfl) ?_
      refine lv_iload_n hx hb dX12_doesPlain_14 rfl (lv_at hl 2 rfl) ?_
      refine lv_if_ne (tgt := 22) hx hb dX12_doesPlain_15 (by decide) (fun c29 => ?_) (fun c29 => ?_)
      · have i29 := m_c6 (rfl : k.toInt = _) (by decide : (0 : Int32).toInt = 0) c29
        refine lv_iconst (v := 0) hx hb dX12_doesPlain_22 (by decide) ?_
        refine m_zast hx hb hW (93) rfl (m_ixI (rfl : d.toInt = _) (by omega) (by omega)) (by decide) dX12_doesPlain_23 (fun H locs hW _ => ?_)
        generalize hμ30 : m_si μ (93) (d : Int32).toNatClampNeg 0 = μ30 at hW
        have hI := hI.si1 hμ30 rfl (by decide) hS22
        refine lv_iload_n hx hb dX12_doesPlain_24 rfl (lv_at hl 2 rfl) ?_
        refine lv_iconst (v := 2) hx hb dX12_doesPlain_25 (by decide) ?_
        refine lv_icmp_ne (tgt := 47) hx hb dX12_doesPlain_26 (by decide) (fun c31 => ?_) (fun c31 => ?_)
        · have i31 := m_c6 (rfl : k.toInt = _) (by decide : (2 : Int32).toInt = 2) c31
          refine lv_iload_n hx hb dX12_doesPlain_47 rfl (lv_at hl 2 rfl) ?_
          refine lv_iconst (v := 3) hx hb dX12_doesPlain_48 (by decide) ?_
          refine lv_icmp_ne (tgt := 60) hx hb dX12_doesPlain_49 (by decide) (fun c32 => ?_) (fun c32 => ?_)
          · have i32 := m_c6 (rfl : k.toInt = _) (by decide : (3 : Int32).toInt = 3) c32
            refine lv_iload_n hx hb dX12_doesPlain_60 rfl (lv_at hl 2 rfl) ?_
            refine lv_iconst (v := 4) hx hb dX12_doesPlain_61 (by decide) ?_
            refine lv_icmp_ne (tgt := 71) hx hb dX12_doesPlain_62 (by decide) (fun c33 => ?_) (fun c33 => ?_)
            · have i33 := m_c6 (rfl : k.toInt = _) (by decide : (4 : Int32).toInt = 4) c33
              refine lv_iload_n hx hb dX12_doesPlain_71 rfl (lv_at hl 2 rfl) ?_
              refine lv_iconst (v := 5) hx hb dX12_doesPlain_72 (by decide) ?_
              refine lv_icmp_ne (tgt := 83) hx hb dX12_doesPlain_73 (by decide) (fun c34 => ?_) (fun c34 => ?_)
              · have i34 := m_c6 (rfl : k.toInt = _) (by decide : (5 : Int32).toInt = 5) c34
                exact m_vret hx hb hr hlocks hW (⟨hI, by rw [show μ30.1 81 58 = cv from by rw [← hμ30]; exact hc]; omega⟩) dX12_doesPlain_83
              · have i34 := m_c5 (rfl : k.toInt = _) (by decide : (5 : Int32).toInt = 5) c34
                exfalso; omega
            · have i33 := m_c5 (rfl : k.toInt = _) (by decide : (4 : Int32).toInt = 4) c33
              exfalso; omega
          · have i32 := m_c5 (rfl : k.toInt = _) (by decide : (3 : Int32).toInt = 3) c32
            exfalso; omega
        · have i31 := m_c5 (rfl : k.toInt = _) (by decide : (2 : Int32).toInt = 2) c31
          exfalso; omega
      · have i29 := m_c5 (rfl : k.toInt = _) (by decide : (0 : Int32).toInt = 0) c29
        exfalso; omega
set_option maxHeartbeats 4000000 in
set_option maxRecDepth 100000 in
theorem L_X12_cutsThrough_41 {p : Program} {l : Launch} {e : Env} {s : State} {m : MethodId} {args : Array Value} {below : List Frame} {meth : Method} {c : Code} {D : va_G} {cy : Nat → ClassId} {b : Nat} (hx : p.tables.exec = Jvm.exec) (hb : c.code = cX12_cutsThrough) (hr : meth.sig.returnType = ((some .boolean))) (hml : c.maxLocals = 6) (hown : s.vm.findClass RX12 = some m.cls) (hts : ∀ w ∈ TB, w.before args s = true) (hlocks : meth.locks = false) (S : Nat → Bool) (μ0 : mM) (hS22 : S 22 = true) (hS32 : S 32 = true) (hS27 : S 27 = true) (hS37 : S 37 = true) (k u v : Int32) (h_u : 1 ≤ u.toInt ∧ u.toInt ≤ 15) : ∀ (f : Nat), ∀ (y4 y5 : Int32) (hy : 0 ≤ y4.toInt ∧ y4.toInt ≤ 1 ∧ 1 ≤ y5.toInt ∧ y5.toInt ≤ 16) (hf : 16 - y5.toInt < (f : Int)) (μ : mM) (hI : IY S μ0 μ) (H : Heap) (locs : List Loc), m_WA (m_A b LAY) D cy s b LAY μ H locs → ∀ ls : Array Slot, lv_has ls 6 [(0, .ref (b + 81)), (1, .int k), (2, .int u), (3, .int v), (4, .int y4), (5, .int y5)] → W p l e (m_R 8 0 0) s m args below meth c H locs 0 0 (MQ below (m_Qi D cy b LAY (fun r ν => IY S μ0 ν ∧ ((r = 1 ∧ (True)) ∨ (r = 0 ∧ (True))))) args s 0 0 (m_A b LAY)) (F0 m 41 ls []) := by
  intro f
  induction f with
  | zero => intro y4 y5 hy hf; exfalso; omega
  | succ f ih =>
    intro y4 y5 hy hf μ hI H locs hW ls hl
    refine lv_iload hx hb dX12_cutsThrough_41 (lv_at hl 5 rfl) ?_
    refine lv_iload_n hx hb dX12_cutsThrough_43 rfl (lv_at hl 2 rfl) ?_
    refine lv_icmp_gt (tgt := 103) hx hb dX12_cutsThrough_44 (by decide) (fun c1 => ?_) (fun c1 => ?_)
    · have i1 := m_c1 (rfl : u.toInt = _) (rfl : y5.toInt = _) c1
      refine lv_iload hx hb dX12_cutsThrough_103 (lv_at hl 4 rfl) ?_
      exact m_iret hx hb hr hlocks hW (m_nb (m_b01 (by omega))) (⟨hI, m_b01t (by omega)⟩) dX12_cutsThrough_105
    · have i1 := m_c2 (rfl : u.toInt = _) (rfl : y5.toInt = _) c1
      refine lv_iload hx hb dX12_cutsThrough_47 (lv_at hl 4 rfl) ?_
      refine lv_if_eq (tgt := 94) hx hb dX12_cutsThrough_49 (by decide) (fun c2 => ?_) (fun c2 => ?_)
      · have i2 := m_c5 (rfl : y4.toInt = _) (by decide : (0 : Int32).toInt = 0) c2
        refine lv_iconst (v := 0) hx hb dX12_cutsThrough_94 (by decide) ?_
        refine lv_istore (lv' := [(4, .int 0), (0, .ref (b + 81)), (1, .int k), (2, .int u), (3, .int v), (5, .int y5)]) hx hb dX12_cutsThrough_95 hl (by decide) rfl (fun ls hl => ?_)
        obtain ⟨x3, ex3⟩ : ∃ z : Int32, z = y5 + 1 := ⟨_, rfl⟩
        refine lv_iinc (v := x3) (lv' := [(5, .int x3), (4, .int 0), (0, .ref (b + 81)), (1, .int k), (2, .int u), (3, .int v)]) hx hb dX12_cutsThrough_97 hl (k := 5) rfl (by rw [ex3]; rfl) (by decide) rfl (fun ls hl => ?_)
        have tx3 : x3.toInt = y5.toInt + 1 := m_addI ex3 (rfl : y5.toInt = _) (by decide : (1 : Int32).toInt = 1) (by omega) (by omega)
        refine lv_goto (tgt := 41) hx hb dX12_cutsThrough_100 (by decide) ?_
        have l_0 : (0 : Int32).toInt = 0 := by decide
        exact ih 0 x3 (by omega) (by omega) μ hI _ _ hW ls (lv_sub hl [2, 3, 4, 5, 1, 0] rfl)
      · have i2 := m_c6 (rfl : y4.toInt = _) (by decide : (0 : Int32).toInt = 0) c2
        refine lv_aload_n hx hb dX12_cutsThrough_52 rfl (lv_at hl 0 rfl) ?_
        refine lv_iconst (v := 1) hx hb dX12_cutsThrough_53 (by decide) ?_
        refine lv_aload_n hx hb dX12_cutsThrough_54 rfl (lv_at hl 0 rfl) ?_
        refine m_getr hx hb hts hown hW (81) 18 (91) rfl rfl cw_12 rfl (by decide) k_X12_49 dX12_cutsThrough_55 ?_
        refine lv_iconst (v := 0) hx hb dX12_cutsThrough_58 (by decide) ?_
        refine m_iald hx hb hW (91) rfl (vp_in_iff.mpr ⟨by decide, by decide⟩) dX12_cutsThrough_59 ?_
        refine lv_topi (fun x4 ex4 => ?_)
        refine lv_iload hx hb dX12_cutsThrough_60 (lv_at hl 5 rfl) ?_
        refine lv_aload_n hx hb dX12_cutsThrough_62 rfl (lv_at hl 0 rfl) ?_
        refine lv_iload_n hx hb dX12_cutsThrough_63 rfl (lv_at hl 1 rfl) ?_
        refine m_aI hW (m_runV (As := [.int k]) (rest := [.int y5, .int x4, .int 1, .ref (b + 81)]) hx hb hml hown hts hW (81) (g_X12_stepX l D cy b k μ hI.1) mi_X12_stepX k_X12_193 rfl rfl rfl hl.1 rfl (Nat.le_of_ble_eq_true rfl) dX12_cutsThrough_64 ⟨Nat.le_of_ble_eq_true rfl, Nat.le_of_ble_eq_true rfl⟩ ⟨Nat.le_of_ble_eq_true rfl, Nat.le_of_ble_eq_true rfl⟩) (fun x5 μ5 H locs q5 hW => ?_)
        obtain ⟨q5_m, q5⟩ := q5
        subst q5_m
        refine lv_imul hx hb dX12_cutsThrough_67 ?_
        refine lv_topi (fun x6 ex6 => ?_)
        refine lv_iadd hx hb dX12_cutsThrough_68 ?_
        refine lv_topi (fun x7 ex7 => ?_)
        refine lv_aload_n hx hb dX12_cutsThrough_69 rfl (lv_at hl 0 rfl) ?_
        refine m_getr hx hb hts hown hW (81) 19 (92) rfl rfl cw_12 rfl (by decide) k_X12_52 dX12_cutsThrough_70 ?_
        refine lv_iconst (v := 0) hx hb dX12_cutsThrough_73 (by decide) ?_
        refine m_iald hx hb hW (92) rfl (vp_in_iff.mpr ⟨by decide, by decide⟩) dX12_cutsThrough_74 ?_
        refine lv_topi (fun x8 ex8 => ?_)
        refine lv_iload hx hb dX12_cutsThrough_75 (lv_at hl 5 rfl) ?_
        refine lv_aload_n hx hb dX12_cutsThrough_77 rfl (lv_at hl 0 rfl) ?_
        refine lv_iload_n hx hb dX12_cutsThrough_78 rfl (lv_at hl 1 rfl) ?_
        refine m_aI hW (m_runV (As := [.int k]) (rest := [.int y5, .int x8, .int x7, .int 1, .ref (b + 81)]) hx hb hml hown hts hW (81) (g_X12_stepY l D cy b k μ hI.1) mi_X12_stepY k_X12_197 rfl rfl rfl hl.1 rfl (Nat.le_of_ble_eq_true rfl) dX12_cutsThrough_79 ⟨Nat.le_of_ble_eq_true rfl, Nat.le_of_ble_eq_true rfl⟩ ⟨Nat.le_of_ble_eq_true rfl, Nat.le_of_ble_eq_true rfl⟩) (fun x9 μ9 H locs q9 hW => ?_)
        obtain ⟨q9_m, q9⟩ := q9
        subst q9_m
        refine lv_imul hx hb dX12_cutsThrough_82 ?_
        refine lv_topi (fun x10 ex10 => ?_)
        refine lv_iadd hx hb dX12_cutsThrough_83 ?_
        refine lv_topi (fun x11 ex11 => ?_)
        have l_1 : (1 : Int32).toInt = 1 := by decide
        refine m_aI hW (m_runV (As := [.int 1, .int x7, .int x11]) (rest := []) hx hb hml hown hts hW (81) (g_X12_isThere l D cy b 1 x7 x11 (by omega) μ hI.1) mi_X12_isThere k_X12_200 rfl rfl rfl hl.1 rfl (Nat.le_of_ble_eq_true rfl) dX12_cutsThrough_84 ⟨Nat.le_of_ble_eq_true rfl, Nat.le_of_ble_eq_true rfl⟩ ⟨Nat.le_of_ble_eq_true rfl, Nat.le_of_ble_eq_true rfl⟩) (fun x12 μ12 H locs q12 hW => ?_)
        obtain ⟨q12_m, q12⟩ := q12
        subst q12_m
        rcases q12 with ⟨rfl, q12⟩ | ⟨rfl, q12⟩
        · refine lv_if_ne (tgt := 94) hx hb dX12_cutsThrough_87 (by decide) (fun _ => ?_) (fun c => False.elim (by revert c; decide))
          refine lv_iconst (v := 0) hx hb dX12_cutsThrough_94 (by decide) ?_
          refine lv_istore (lv' := [(4, .int 0), (0, .ref (b + 81)), (1, .int k), (2, .int u), (3, .int v), (5, .int y5)]) hx hb dX12_cutsThrough_95 hl (by decide) rfl (fun ls hl => ?_)
          obtain ⟨x13, ex13⟩ : ∃ z : Int32, z = y5 + 1 := ⟨_, rfl⟩
          refine lv_iinc (v := x13) (lv' := [(5, .int x13), (4, .int 0), (0, .ref (b + 81)), (1, .int k), (2, .int u), (3, .int v)]) hx hb dX12_cutsThrough_97 hl (k := 5) rfl (by rw [ex13]; rfl) (by decide) rfl (fun ls hl => ?_)
          have tx13 : x13.toInt = y5.toInt + 1 := m_addI ex13 (rfl : y5.toInt = _) (by decide : (1 : Int32).toInt = 1) (by omega) (by omega)
          refine lv_goto (tgt := 41) hx hb dX12_cutsThrough_100 (by decide) ?_
          have l_0 : (0 : Int32).toInt = 0 := by decide
          exact ih 0 x13 (by omega) (by omega) μ hI _ _ hW ls (lv_sub hl [2, 3, 4, 5, 1, 0] rfl)
        · refine lv_if_ne (tgt := 94) hx hb dX12_cutsThrough_87 (by decide) (fun c => False.elim (by revert c; decide)) (fun _ => ?_)
          refine lv_iconst (v := 1) hx hb dX12_cutsThrough_90 (by decide) ?_
          refine lv_goto (tgt := 95) hx hb dX12_cutsThrough_91 (by decide) ?_
          refine lv_istore (lv' := [(4, .int 1), (0, .ref (b + 81)), (1, .int k), (2, .int u), (3, .int v), (5, .int y5)]) hx hb dX12_cutsThrough_95 hl (by decide) rfl (fun ls hl => ?_)
          obtain ⟨x14, ex14⟩ : ∃ z : Int32, z = y5 + 1 := ⟨_, rfl⟩
          refine lv_iinc (v := x14) (lv' := [(5, .int x14), (4, .int 1), (0, .ref (b + 81)), (1, .int k), (2, .int u), (3, .int v)]) hx hb dX12_cutsThrough_97 hl (k := 5) rfl (by rw [ex14]; rfl) (by decide) rfl (fun ls hl => ?_)
          have tx14 : x14.toInt = y5.toInt + 1 := m_addI ex14 (rfl : y5.toInt = _) (by decide : (1 : Int32).toInt = 1) (by omega) (by omega)
          refine lv_goto (tgt := 41) hx hb dX12_cutsThrough_100 (by decide) ?_
          exact ih 1 x14 (by omega) (by omega) μ hI _ _ hW ls (lv_sub hl [2, 3, 4, 5, 1, 0] rfl)
set_option maxHeartbeats 4000000 in
set_option maxRecDepth 100000 in
theorem g_X12_cutsThrough (l : Launch) (D : va_G) (cy : Nat → ClassId) (b : Nat) (S : Nat → Bool) (μ0 : mM) (hS22 : S 22 = true) (hS32 : S 32 = true) (hS27 : S 27 = true) (hS37 : S 37 = true) (k u v : Int32) (h_u : 1 ≤ u.toInt ∧ u.toInt ≤ 15) (μ : mM) (hI : IY S μ0 μ) : m_Ci l yX12_cutsThrough cX12_cutsThrough 6 ((some .boolean)) 8 D cy b LAY μ [.ref (b + 81), .int k, .int u, .int v] (fun r ν => IY S μ0 ν ∧ ((r = 1 ∧ (True)) ∨ (r = 0 ∧ (True)))) := by
  unfold m_Ci
  refine m_of (by decide) (Nat.le_of_ble_eq_true rfl) ?_
  intro p e s m below meth c hx hb hr hml hown hts hlocks _ hW ls hl
  have hown : s.vm.findClass RX12 = some m.cls := hown
  have hl : lv_has ls 6 [(0, .ref (b + 81)), (1, .int k), (2, .int u), (3, .int v)] := hl
  refine lv_aload_n hx hb dX12_cutsThrough_0 rfl (lv_at hl 0 rfl) ?_
  refine m_aV hW (m_runV (As := []) (rest := []) hx hb hml hown hts hW (81) (g_X12_copies l D cy b S μ0 hS22 μ hI) mi_X12_copies k_X12_389 rfl rfl rfl hl.1 rfl (Nat.le_of_ble_eq_true rfl) dX12_cutsThrough_1 ⟨Nat.le_of_ble_eq_true rfl, Nat.le_of_ble_eq_true rfl⟩ ⟨Nat.le_of_ble_eq_true rfl, Nat.le_of_ble_eq_true rfl⟩) (fun μ1 H locs q1 hW => ?_)
  obtain ⟨hI, q1⟩ := q1
  refine lv_aload_n hx hb dX12_cutsThrough_4 rfl (lv_at hl 0 rfl) ?_
  refine m_getr hx hb hts hown hW (81) 21 (94) rfl rfl cw_12 rfl (by decide) k_X12_58 dX12_cutsThrough_5 ?_
  refine lv_iconst (v := 1) hx hb dX12_cutsThrough_8 (by decide) ?_
  refine lv_iload_n hx hb dX12_cutsThrough_9 rfl (lv_at hl 3 rfl) ?_
  refine m_iast hx hb hW (94) rfl (vp_in_iff.mpr ⟨by decide, by decide⟩) dX12_cutsThrough_10 (fun H locs hW _ => ?_)
  generalize hμ2 : m_si μ1 (94) (1 : Int32).toNatClampNeg v = μ2 at hW
  have hI := hI.si0 hμ2 rfl hS22
  refine lv_aload_n hx hb dX12_cutsThrough_11 rfl (lv_at hl 0 rfl) ?_
  refine m_getr hx hb hts hown hW (81) 20 (93) rfl rfl cw_12 rfl (by decide) k_X12_55 dX12_cutsThrough_12 ?_
  refine lv_iconst (v := 1) hx hb dX12_cutsThrough_15 (by decide) ?_
  refine lv_iconst (v := 1) hx hb dX12_cutsThrough_16 (by decide) ?_
  refine m_zast hx hb hW (93) rfl (vp_in_iff.mpr ⟨by decide, by decide⟩) (by decide) dX12_cutsThrough_17 (fun H locs hW _ => ?_)
  generalize hμ3 : m_si μ2 (93) (1 : Int32).toNatClampNeg 1 = μ3 at hW
  have hI := hI.si1 hμ3 rfl (by decide) hS22
  refine lv_aload_n hx hb dX12_cutsThrough_18 rfl (lv_at hl 0 rfl) ?_
  refine lv_iconst (v := 0) hx hb dX12_cutsThrough_19 (by decide) ?_
  refine m_puti hx hb hts hown hW (81) 58 rfl rfl cw_12 tyX12_ok nmX12 rfl (by decide) k_X12_335 rfl rfl rfl dX12_cutsThrough_20 (fun H locs hW _ => ?_)
  generalize hμ4 : m_si μ3 (81) 58 0 = μ4 at hW
  have hI := hI.si1 hμ4 rfl (by decide) hS37
  refine lv_aload_n hx hb dX12_cutsThrough_23 rfl (lv_at hl 0 rfl) ?_
  refine lv_iconst (v := 0) hx hb dX12_cutsThrough_24 (by decide) ?_
  refine m_puti hx hb hts hown hW (81) 59 rfl rfl cw_12 tyX12_ok nmX12 rfl (by decide) k_X12_338 rfl (by decide) rfl dX12_cutsThrough_25 (fun H locs hW _ => ?_)
  generalize hμ5 : m_si μ4 (81) 59 0 = μ5 at hW
  have hI := hI.si1 hμ5 rfl (by decide) hS27
  refine lv_aload_n hx hb dX12_cutsThrough_28 rfl (lv_at hl 0 rfl) ?_
  refine lv_iconst (v := 1) hx hb dX12_cutsThrough_29 (by decide) ?_
  refine lv_iload_n hx hb dX12_cutsThrough_30 rfl (lv_at hl 1 rfl) ?_
  refine lv_iload_n hx hb dX12_cutsThrough_31 rfl (lv_at hl 2 rfl) ?_
  have l_0 : (0 : Int32).toInt = 0 := by decide
  have l_1 : (1 : Int32).toInt = 1 := by decide
  refine m_aV hW (m_runV (As := [.int 1, .int k, .int u]) (rest := []) hx hb hml hown hts hW (81) (g_X12_goes l D cy b S μ0 hS22 hS32 hS27 hS37 0 (by omega) 1 k u (by omega) μ5 hI (by rw [← hμ5, ← hμ4]; first | rfl | exact if_pos ⟨rfl, rfl⟩)) mi_X12_goes k_X12_362 rfl rfl rfl hl.1 rfl (Nat.le_of_ble_eq_true rfl) dX12_cutsThrough_32 ⟨Nat.le_of_ble_eq_true rfl, Nat.le_of_ble_eq_true rfl⟩ ⟨Nat.le_of_ble_eq_true rfl, Nat.le_of_ble_eq_true rfl⟩) (fun μ6 H locs q6 hW => ?_)
  obtain ⟨hI, q6⟩ := q6
  obtain ⟨x7, hx7⟩ : ∃ z, μ6.1 81 58 = z := ⟨_, rfl⟩
  have bx7 : 0 ≤ x7.toInt ∧ x7.toInt ≤ 1000 := by rw [← hx7]; exact hI.1 _ _ _ _ rfl
  rw [show μ6.1 81 58 = x7 from by exact hx7] at q6
  refine lv_iconst (v := 1) hx hb dX12_cutsThrough_35 (by decide) ?_
  refine lv_istore (lv' := [(4, .int 1), (0, .ref (b + 81)), (1, .int k), (2, .int u), (3, .int v)]) hx hb dX12_cutsThrough_36 hl (by decide) rfl (fun ls hl => ?_)
  refine lv_iconst (v := 1) hx hb dX12_cutsThrough_38 (by decide) ?_
  refine lv_istore (lv' := [(5, .int 1), (4, .int 1), (0, .ref (b + 81)), (1, .int k), (2, .int u), (3, .int v)]) hx hb dX12_cutsThrough_39 hl (by decide) rfl (fun ls hl => ?_)
  exact L_X12_cutsThrough_41 hx hb hr hml hown hts hlocks S μ0 hS22 hS32 hS27 hS37 k u v h_u  17 1 1 (by omega) (by omega) μ6 hI _ _ hW ls (lv_sub hl [2, 3, 4, 5, 1, 0] rfl)
set_option maxHeartbeats 4000000 in
set_option maxRecDepth 100000 in
theorem L_X12_speed_72 {p : Program} {l : Launch} {e : Env} {s : State} {m : MethodId} {args : Array Value} {below : List Frame} {meth : Method} {c : Code} {D : va_G} {cy : Nat → ClassId} {b : Nat} (hx : p.tables.exec = Jvm.exec) (hb : c.code = cX12_speed) (hr : meth.sig.returnType = ((some .int))) (hml : c.maxLocals = 4) (hown : s.vm.findClass RX12 = some m.cls) (hts : ∀ w ∈ TB, w.before args s = true) (hlocks : meth.locks = false) (S : Nat → Bool) (μ0 : mM) (hS20 : S 20 = true) (hS22 : S 22 = true) (hS32 : S 32 = true) (hS27 : S 27 = true) (hS37 : S 37 = true) (k u : Int32) : ∀ (f : Nat), ∀ (y3 : Int32) (hy : 1 ≤ y3.toInt ∧ y3.toInt ≤ 21 ∧ 1 ≤ u.toInt ∧ u.toInt ≤ 15) (hf : 21 - y3.toInt < (f : Int)) (μ : mM) (hI : IY S μ0 μ) (H : Heap) (locs : List Loc), m_WA (m_A b LAY) D cy s b LAY μ H locs → ∀ ls : Array Slot, lv_has ls 4 [(0, .ref (b + 81)), (1, .int k), (2, .int u), (3, .int y3)] → W p l e (m_R 9 0 0) s m args below meth c H locs 0 0 (MQ below (m_Qi D cy b LAY (fun r ν => IY S μ0 ν ∧ (True))) args s 0 0 (m_A b LAY)) (F0 m 72 ls []) := by
  intro f
  induction f with
  | zero => intro y3 hy hf; exfalso; omega
  | succ f ih =>
    intro y3 hy hf μ hI H locs hW ls hl
    refine lv_iload_n hx hb dX12_speed_72 rfl (lv_at hl 3 rfl) ?_
    refine lv_bipush (v := 20) hx hb dX12_speed_73 (by decide) ?_
    refine lv_icmp_gt (tgt := 96) hx hb dX12_speed_75 (by decide) (fun c1 => ?_) (fun c1 => ?_)
    · have i1 := m_c1 (by decide : (20 : Int32).toInt = 20) (rfl : y3.toInt = _) c1
      refine lv_iconst (v := (-1)) hx hb dX12_speed_96 (by decide) ?_
      exact m_iret hx hb hr hlocks hW rfl (⟨hI, trivial⟩) dX12_speed_97
    · have i1 := m_c2 (by decide : (20 : Int32).toInt = 20) (rfl : y3.toInt = _) c1
      refine lv_aload_n hx hb dX12_speed_78 rfl (lv_at hl 0 rfl) ?_
      refine lv_iload_n hx hb dX12_speed_79 rfl (lv_at hl 1 rfl) ?_
      refine lv_iload_n hx hb dX12_speed_80 rfl (lv_at hl 2 rfl) ?_
      refine lv_iload_n hx hb dX12_speed_81 rfl (lv_at hl 3 rfl) ?_
      refine m_aI hW (m_runV (As := [.int k, .int u, .int y3]) (rest := []) hx hb hml hown hts hW (81) (g_X12_cutsThrough l D cy b S μ0 hS22 hS32 hS27 hS37 k u y3 (by omega) μ hI) mi_X12_cutsThrough k_X12_392 rfl rfl rfl hl.1 rfl (Nat.le_of_ble_eq_true rfl) dX12_speed_82 ⟨Nat.le_of_ble_eq_true rfl, Nat.le_of_ble_eq_true rfl⟩ ⟨Nat.le_of_ble_eq_true rfl, Nat.le_of_ble_eq_true rfl⟩) (fun x2 μ2 H locs q2 hW => ?_)
      obtain ⟨hI, q2⟩ := q2
      rcases q2 with ⟨rfl, q2⟩ | ⟨rfl, q2⟩
      · refine lv_if_eq (tgt := 90) hx hb dX12_speed_85 (by decide) (fun c => False.elim (by revert c; decide)) (fun _ => ?_)
        refine lv_iload_n hx hb dX12_speed_88 rfl (lv_at hl 3 rfl) ?_
        exact m_iret hx hb hr hlocks hW rfl (⟨hI, trivial⟩) dX12_speed_89
      · refine lv_if_eq (tgt := 90) hx hb dX12_speed_85 (by decide) (fun _ => ?_) (fun c => False.elim (by revert c; decide))
        obtain ⟨x3, ex3⟩ : ∃ z : Int32, z = y3 + 1 := ⟨_, rfl⟩
        refine lv_iinc (v := x3) (lv' := [(3, .int x3), (0, .ref (b + 81)), (1, .int k), (2, .int u)]) hx hb dX12_speed_90 hl (k := 3) rfl (by rw [ex3]; rfl) (by decide) rfl (fun ls hl => ?_)
        have tx3 : x3.toInt = y3.toInt + 1 := m_addI ex3 (rfl : y3.toInt = _) (by decide : (1 : Int32).toInt = 1) (by omega) (by omega)
        refine lv_goto (tgt := 72) hx hb dX12_speed_93 (by decide) ?_
        exact ih x3 (by omega) (by omega) μ2 hI _ _ hW ls (lv_sub hl [1, 2, 3, 0] rfl)
set_option maxHeartbeats 4000000 in
set_option maxRecDepth 100000 in
theorem g_X12_speed (l : Launch) (D : va_G) (cy : Nat → ClassId) (b : Nat) (S : Nat → Bool) (μ0 : mM) (hS20 : S 20 = true) (hS22 : S 22 = true) (hS32 : S 32 = true) (hS27 : S 27 = true) (hS37 : S 37 = true) (k u : Int32) (μ : mM) (hI : IY S μ0 μ) : m_Ci l yX12_speed cX12_speed 4 ((some .int)) 9 D cy b LAY μ [.ref (b + 81), .int k, .int u] (fun r ν => IY S μ0 ν ∧ (True)) := by
  unfold m_Ci
  refine m_of (by decide) (Nat.le_of_ble_eq_true rfl) ?_
  intro p e s m below meth c hx hb hr hml hown hts hlocks _ hW ls hl
  have hown : s.vm.findClass RX12 = some m.cls := hown
  have hl : lv_has ls 4 [(0, .ref (b + 81)), (1, .int k), (2, .int u)] := hl
  refine lv_aload_n hx hb dX12_speed_0 rfl (lv_at hl 0 rfl) ?_
  refine lv_iconst (v := 0) hx hb dX12_speed_1 (by decide) ?_
  refine m_puti hx hb hts hown hW (81) 0 rfl rfl cw_12 tyX12_ok nmX12 rfl (by decide) k_X12_167 rfl rfl rfl dX12_speed_2 (fun H locs hW _ => ?_)
  generalize hμ1 : m_si μ (81) 0 0 = μ1 at hW
  have hI := hI.si0 hμ1 rfl hS20
  refine lv_aload_n hx hb dX12_speed_5 rfl (lv_at hl 0 rfl) ?_
  refine lv_iload_n hx hb dX12_speed_6 rfl (lv_at hl 1 rfl) ?_
  refine lv_iconst (v := 0) hx hb dX12_speed_7 (by decide) ?_
  refine lv_iconst (v := 3) hx hb dX12_speed_8 (by decide) ?_
  have l_0 : (0 : Int32).toInt = 0 := by decide
  have l_3 : (3 : Int32).toInt = 3 := by decide
  refine m_aI hW (m_runV (As := [.int k, .int 0, .int 3]) (rest := []) hx hb hml hown hts hW (81) (g_X12_isIn l D cy b k 0 3 μ1 hI.1) mi_X12_isIn k_X12_170 rfl rfl rfl hl.1 rfl (Nat.le_of_ble_eq_true rfl) dX12_speed_9 ⟨Nat.le_of_ble_eq_true rfl, Nat.le_of_ble_eq_true rfl⟩ ⟨Nat.le_of_ble_eq_true rfl, Nat.le_of_ble_eq_true rfl⟩) (fun x2 μ2 H locs q2 hW => ?_)
  obtain ⟨q2_m, q2⟩ := q2
  subst q2_m
  rcases q2 with ⟨rfl, q2⟩ | ⟨rfl, q2⟩
  · refine lv_if_eq (tgt := 68) hx hb dX12_speed_12 (by decide) (fun c => False.elim (by revert c; decide)) (fun _ => ?_)
    refine lv_aload_n hx hb dX12_speed_15 rfl (lv_at hl 0 rfl) ?_
    refine lv_iload_n hx hb dX12_speed_16 rfl (lv_at hl 2 rfl) ?_
    refine lv_iconst (v := 1) hx hb dX12_speed_17 (by decide) ?_
    refine lv_bipush (v := 15) hx hb dX12_speed_18 (by decide) ?_
    have l_1 : (1 : Int32).toInt = 1 := by decide
    have l_15 : (15 : Int32).toInt = 15 := by decide
    refine m_aI hW (m_runV (As := [.int u, .int 1, .int 15]) (rest := []) hx hb hml hown hts hW (81) (g_X12_isIn l D cy b u 1 15 μ1 hI.1) mi_X12_isIn k_X12_170 rfl rfl rfl hl.1 rfl (Nat.le_of_ble_eq_true rfl) dX12_speed_20 ⟨Nat.le_of_ble_eq_true rfl, Nat.le_of_ble_eq_true rfl⟩ ⟨Nat.le_of_ble_eq_true rfl, Nat.le_of_ble_eq_true rfl⟩) (fun x3 μ3 H locs q3 hW => ?_)
    obtain ⟨q3_m, q3⟩ := q3
    subst q3_m
    rcases q3 with ⟨rfl, q3⟩ | ⟨rfl, q3⟩
    · refine lv_if_eq (tgt := 68) hx hb dX12_speed_23 (by decide) (fun c => False.elim (by revert c; decide)) (fun _ => ?_)
      refine lv_aload_n hx hb dX12_speed_26 rfl (lv_at hl 0 rfl) ?_
      refine m_geti hx hb hts hown hW (81) 5 rfl rfl cw_12 rfl (by decide) k_X12_174 dX12_speed_27 ?_
      refine lv_topi (fun x4 ex4 => ?_)
      have bx4 : 0 ≤ x4.toInt ∧ x4.toInt ≤ 1 := by rw [ex4]; exact hI.1 _ _ _ _ rfl
      refine lv_if_eq (tgt := 68) hx hb dX12_speed_30 (by decide) (fun c5 => ?_) (fun c5 => ?_)
      · have i5 := m_c5 (rfl : x4.toInt = _) (by decide : (0 : Int32).toInt = 0) c5
        refine lv_iconst (v := (-1)) hx hb dX12_speed_68 (by decide) ?_
        exact m_iret hx hb hr hlocks hW rfl (⟨hI, trivial⟩) dX12_speed_69
      · have i5 := m_c6 (rfl : x4.toInt = _) (by decide : (0 : Int32).toInt = 0) c5
        refine lv_aload_n hx hb dX12_speed_33 rfl (lv_at hl 0 rfl) ?_
        refine lv_aload_n hx hb dX12_speed_34 rfl (lv_at hl 0 rfl) ?_
        refine m_getr hx hb hts hown hW (81) 18 (91) rfl rfl cw_12 rfl (by decide) k_X12_49 dX12_speed_35 ?_
        refine lv_iconst (v := 0) hx hb dX12_speed_38 (by decide) ?_
        refine m_iald hx hb hW (91) rfl (vp_in_iff.mpr ⟨by decide, by decide⟩) dX12_speed_39 ?_
        refine lv_topi (fun x6 ex6 => ?_)
        refine lv_iload_n hx hb dX12_speed_40 rfl (lv_at hl 2 rfl) ?_
        refine lv_aload_n hx hb dX12_speed_41 rfl (lv_at hl 0 rfl) ?_
        refine lv_iload_n hx hb dX12_speed_42 rfl (lv_at hl 1 rfl) ?_
        refine m_aI hW (m_runV (As := [.int k]) (rest := [.int u, .int x6, .ref (b + 81)]) hx hb hml hown hts hW (81) (g_X12_stepX l D cy b k μ1 hI.1) mi_X12_stepX k_X12_193 rfl rfl rfl hl.1 rfl (Nat.le_of_ble_eq_true rfl) dX12_speed_43 ⟨Nat.le_of_ble_eq_true rfl, Nat.le_of_ble_eq_true rfl⟩ ⟨Nat.le_of_ble_eq_true rfl, Nat.le_of_ble_eq_true rfl⟩) (fun x7 μ7 H locs q7 hW => ?_)
        obtain ⟨q7_m, q7⟩ := q7
        subst q7_m
        refine lv_imul hx hb dX12_speed_46 ?_
        refine lv_topi (fun x8 ex8 => ?_)
        refine lv_iadd hx hb dX12_speed_47 ?_
        refine lv_topi (fun x9 ex9 => ?_)
        refine lv_aload_n hx hb dX12_speed_48 rfl (lv_at hl 0 rfl) ?_
        refine m_getr hx hb hts hown hW (81) 19 (92) rfl rfl cw_12 rfl (by decide) k_X12_52 dX12_speed_49 ?_
        refine lv_iconst (v := 0) hx hb dX12_speed_52 (by decide) ?_
        refine m_iald hx hb hW (92) rfl (vp_in_iff.mpr ⟨by decide, by decide⟩) dX12_speed_53 ?_
        refine lv_topi (fun x10 ex10 => ?_)
        refine lv_iload_n hx hb dX12_speed_54 rfl (lv_at hl 2 rfl) ?_
        refine lv_aload_n hx hb dX12_speed_55 rfl (lv_at hl 0 rfl) ?_
        refine lv_iload_n hx hb dX12_speed_56 rfl (lv_at hl 1 rfl) ?_
        refine m_aI hW (m_runV (As := [.int k]) (rest := [.int u, .int x10, .int x9, .ref (b + 81)]) hx hb hml hown hts hW (81) (g_X12_stepY l D cy b k μ1 hI.1) mi_X12_stepY k_X12_197 rfl rfl rfl hl.1 rfl (Nat.le_of_ble_eq_true rfl) dX12_speed_57 ⟨Nat.le_of_ble_eq_true rfl, Nat.le_of_ble_eq_true rfl⟩ ⟨Nat.le_of_ble_eq_true rfl, Nat.le_of_ble_eq_true rfl⟩) (fun x11 μ11 H locs q11 hW => ?_)
        obtain ⟨q11_m, q11⟩ := q11
        subst q11_m
        refine lv_imul hx hb dX12_speed_60 ?_
        refine lv_topi (fun x12 ex12 => ?_)
        refine lv_iadd hx hb dX12_speed_61 ?_
        refine lv_topi (fun x13 ex13 => ?_)
        refine m_aI hW (m_runV (As := [.int x9, .int x13]) (rest := []) hx hb hml hown hts hW (81) (g_X12_isOnPlate l D cy b x9 x13 μ1 hI.1) mi_X12_isOnPlate k_X12_189 rfl rfl rfl hl.1 rfl (Nat.le_of_ble_eq_true rfl) dX12_speed_62 ⟨Nat.le_of_ble_eq_true rfl, Nat.le_of_ble_eq_true rfl⟩ ⟨Nat.le_of_ble_eq_true rfl, Nat.le_of_ble_eq_true rfl⟩) (fun x14 μ14 H locs q14 hW => ?_)
        obtain ⟨q14_m, q14⟩ := q14
        subst q14_m
        rcases q14 with ⟨rfl, q14⟩ | ⟨rfl, q14⟩
        · refine lv_if_ne (tgt := 70) hx hb dX12_speed_65 (by decide) (fun _ => ?_) (fun c => False.elim (by revert c; decide))
          refine lv_iconst (v := 1) hx hb dX12_speed_70 (by decide) ?_
          refine lv_istore_n (lv' := [(3, .int 1), (0, .ref (b + 81)), (1, .int k), (2, .int u)]) hx hb dX12_speed_71 rfl hl (by decide) rfl (fun ls hl => ?_)
          exact L_X12_speed_72 hx hb hr hml hown hts hlocks S μ0 hS20 hS22 hS32 hS27 hS37 k u  22 1 (by omega) (by omega) μ1 hI _ _ hW ls (lv_sub hl [1, 2, 3, 0] rfl)
        · refine lv_if_ne (tgt := 70) hx hb dX12_speed_65 (by decide) (fun c => False.elim (by revert c; decide)) (fun _ => ?_)
          refine lv_iconst (v := (-1)) hx hb dX12_speed_68 (by decide) ?_
          exact m_iret hx hb hr hlocks hW rfl (⟨hI, trivial⟩) dX12_speed_69
    · refine lv_if_eq (tgt := 68) hx hb dX12_speed_23 (by decide) (fun _ => ?_) (fun c => False.elim (by revert c; decide))
      refine lv_iconst (v := (-1)) hx hb dX12_speed_68 (by decide) ?_
      exact m_iret hx hb hr hlocks hW rfl (⟨hI, trivial⟩) dX12_speed_69
  · refine lv_if_eq (tgt := 68) hx hb dX12_speed_12 (by decide) (fun _ => ?_) (fun c => False.elim (by revert c; decide))
    refine lv_iconst (v := (-1)) hx hb dX12_speed_68 (by decide) ?_
    exact m_iret hx hb hr hlocks hW rfl (⟨hI, trivial⟩) dX12_speed_69
set_option maxHeartbeats 4000000 in
set_option maxRecDepth 100000 in
theorem L_X12_look_144 {p : Program} {l : Launch} {e : Env} {s : State} {m : MethodId} {args : Array Value} {below : List Frame} {meth : Method} {c : Code} {D : va_G} {cy : Nat → ClassId} {b : Nat} (hx : p.tables.exec = Jvm.exec) (hb : c.code = cX12_look) (hr : meth.sig.returnType = ((some .int))) (hml : c.maxLocals = 4) (hown : s.vm.findClass RX12 = some m.cls) (hts : ∀ w ∈ TB, w.before args s = true) (hlocks : meth.locks = false) (S : Nat → Bool) (μ0 : mM) (hS20 : S 20 = true) (hS22 : S 22 = true) (hS32 : S 32 = true) (k : Int32) : ∀ (f : Nat), ∀ (y2 y3 : Int32) (hy : 1 ≤ y3.toInt ∧ y3.toInt ≤ 193) (hf : 193 - y3.toInt < (f : Int)) (μ : mM) (hI : IY S μ0 μ) (H : Heap) (locs : List Loc), m_WA (m_A b LAY) D cy s b LAY μ H locs → ∀ ls : Array Slot, lv_has ls 4 [(0, .ref (b + 81)), (1, .int k), (2, .int y2), (3, .int y3)] → W p l e (m_R 4 0 0) s m args below meth c H locs 0 0 (MQ below (m_Qi D cy b LAY (fun r ν => IY S μ0 ν ∧ (True))) args s 0 0 (m_A b LAY)) (F0 m 144 ls []) := by
  intro f
  induction f with
  | zero => intro y2 y3 hy hf; exfalso; omega
  | succ f ih =>
    intro y2 y3 hy hf μ hI H locs hW ls hl
    refine lv_iload_n hx hb dX12_look_144 rfl (lv_at hl 3 rfl) ?_
    refine lv_aload_n hx hb dX12_look_145 rfl (lv_at hl 0 rfl) ?_
    refine m_geti hx hb hts hown hW (81) 30 rfl rfl cw_12 rfl (by decide) k_X12_226 dX12_look_146 ?_
    refine lv_topi (fun x1 ex1 => ?_)
    have bx1 : 0 ≤ x1.toInt ∧ x1.toInt ≤ 192 := by rw [ex1]; exact hI.1 _ _ _ _ rfl
    refine lv_icmp_gt (tgt := 171) hx hb dX12_look_149 (by decide) (fun c2 => ?_) (fun c2 => ?_)
    · have i2 := m_c1 (rfl : x1.toInt = _) (rfl : y3.toInt = _) c2
      refine lv_iload_n hx hb dX12_look_171 rfl (lv_at hl 1 rfl) ?_
      refine lv_bipush (v := 11) hx hb dX12_look_172 (by decide) ?_
      refine lv_icmp_ne (tgt := 184) hx hb dX12_look_174 (by decide) (fun c3 => ?_) (fun c3 => ?_)
      · have i3 := m_c6 (rfl : k.toInt = _) (by decide : (11 : Int32).toInt = 11) c3
        refine lv_iload_n hx hb dX12_look_184 rfl (lv_at hl 2 rfl) ?_
        exact m_iret hx hb hr hlocks hW rfl (⟨hI, trivial⟩) dX12_look_185
      · have i3 := m_c5 (rfl : k.toInt = _) (by decide : (11 : Int32).toInt = 11) c3
        refine lv_aload_n hx hb dX12_look_177 rfl (lv_at hl 0 rfl) ?_
        refine m_geti hx hb hts hown hW (81) 30 rfl rfl cw_12 rfl (by decide) k_X12_226 dX12_look_178 ?_
        refine lv_topi (fun x4 ex4 => ?_)
        have ex4 : x4 = x1 := by rw [ex4]; exact ex1.symm
        have ex4 := ex4.symm
        subst ex4
        refine lv_goto (tgt := 185) hx hb dX12_look_181 (by decide) ?_
        exact m_iret hx hb hr hlocks hW rfl (⟨hI, trivial⟩) dX12_look_185
    · have i2 := m_c2 (rfl : x1.toInt = _) (rfl : y3.toInt = _) c2
      refine lv_aload_n hx hb dX12_look_152 rfl (lv_at hl 0 rfl) ?_
      refine m_getr hx hb hts hown hW (81) 33 (105) rfl rfl cw_12 rfl (by decide) k_X12_92 dX12_look_153 ?_
      refine lv_iload_n hx hb dX12_look_156 rfl (lv_at hl 3 rfl) ?_
      refine m_zald hx hb hW (105) rfl (m_ixI (rfl : y3.toInt = _) (by omega) (by omega)) dX12_look_157 ?_
      refine lv_topi (fun x5 ex5 => ?_)
      have bx5 : 0 ≤ x5.toInt ∧ x5.toInt ≤ 1 := by rw [ex5]; exact hI.1 _ _ _ _ rfl
      refine lv_if_ne (tgt := 165) hx hb dX12_look_158 (by decide) (fun c6 => ?_) (fun c6 => ?_)
      · have i6 := m_c6 (rfl : x5.toInt = _) (by decide : (0 : Int32).toInt = 0) c6
        obtain ⟨x7, ex7⟩ : ∃ z : Int32, z = y3 + 1 := ⟨_, rfl⟩
        refine lv_iinc (v := x7) (lv' := [(3, .int x7), (0, .ref (b + 81)), (1, .int k), (2, .int y2)]) hx hb dX12_look_165 hl (k := 3) rfl (by rw [ex7]; rfl) (by decide) rfl (fun ls hl => ?_)
        have tx7 : x7.toInt = y3.toInt + 1 := m_addI ex7 (rfl : y3.toInt = _) (by decide : (1 : Int32).toInt = 1) (by omega) (by omega)
        refine lv_goto (tgt := 144) hx hb dX12_look_168 (by decide) ?_
        exact ih y2 x7 (by omega) (by omega) μ hI _ _ hW ls (lv_sub hl [1, 2, 3, 0] rfl)
      · have i6 := m_c5 (rfl : x5.toInt = _) (by decide : (0 : Int32).toInt = 0) c6
        refine lv_iload_n hx hb dX12_look_161 rfl (lv_at hl 2 rfl) ?_
        refine lv_iconst (v := 1) hx hb dX12_look_162 (by decide) ?_
        refine lv_iadd hx hb dX12_look_163 ?_
        refine lv_topi (fun x8 ex8 => ?_)
        refine lv_istore_n (lv' := [(2, .int x8), (0, .ref (b + 81)), (1, .int k), (3, .int y3)]) hx hb dX12_look_164 rfl hl (by decide) rfl (fun ls hl => ?_)
        obtain ⟨x9, ex9⟩ : ∃ z : Int32, z = y3 + 1 := ⟨_, rfl⟩
        refine lv_iinc (v := x9) (lv' := [(3, .int x9), (2, .int x8), (0, .ref (b + 81)), (1, .int k)]) hx hb dX12_look_165 hl (k := 3) rfl (by rw [ex9]; rfl) (by decide) rfl (fun ls hl => ?_)
        have tx9 : x9.toInt = y3.toInt + 1 := m_addI ex9 (rfl : y3.toInt = _) (by decide : (1 : Int32).toInt = 1) (by omega) (by omega)
        refine lv_goto (tgt := 144) hx hb dX12_look_168 (by decide) ?_
        exact ih x8 x9 (by omega) (by omega) μ hI _ _ hW ls (lv_sub hl [2, 3, 1, 0] rfl)
set_option maxHeartbeats 4000000 in
set_option maxRecDepth 100000 in
theorem g_X12_look (l : Launch) (D : va_G) (cy : Nat → ClassId) (b : Nat) (S : Nat → Bool) (μ0 : mM) (hS20 : S 20 = true) (hS22 : S 22 = true) (hS32 : S 32 = true) (k : Int32) (μ : mM) (hI : IY S μ0 μ) : m_Ci l yX12_look cX12_look 4 ((some .int)) 4 D cy b LAY μ [.ref (b + 81), .int k] (fun r ν => IY S μ0 ν ∧ (True)) := by
  unfold m_Ci
  refine m_of (by decide) (Nat.le_of_ble_eq_true rfl) ?_
  intro p e s m below meth c hx hb hr hml hown hts hlocks _ hW ls hl
  have hown : s.vm.findClass RX12 = some m.cls := hown
  have hl : lv_has ls 4 [(0, .ref (b + 81)), (1, .int k)] := hl
  refine lv_aload_n hx hb dX12_look_0 rfl (lv_at hl 0 rfl) ?_
  refine lv_iconst (v := 0) hx hb dX12_look_1 (by decide) ?_
  refine m_puti hx hb hts hown hW (81) 0 rfl rfl cw_12 tyX12_ok nmX12 rfl (by decide) k_X12_167 rfl rfl rfl dX12_look_2 (fun H locs hW _ => ?_)
  generalize hμ1 : m_si μ (81) 0 0 = μ1 at hW
  have hI := hI.si0 hμ1 rfl hS20
  refine lv_aload_n hx hb dX12_look_5 rfl (lv_at hl 0 rfl) ?_
  refine lv_iload_n hx hb dX12_look_6 rfl (lv_at hl 1 rfl) ?_
  refine lv_iconst (v := 0) hx hb dX12_look_7 (by decide) ?_
  refine lv_bipush (v := 13) hx hb dX12_look_8 (by decide) ?_
  have l_0 : (0 : Int32).toInt = 0 := by decide
  have l_13 : (13 : Int32).toInt = 13 := by decide
  refine m_aI hW (m_runV (As := [.int k, .int 0, .int 13]) (rest := []) hx hb hml hown hts hW (81) (g_X12_isIn l D cy b k 0 13 μ1 hI.1) mi_X12_isIn k_X12_170 rfl rfl rfl hl.1 rfl (Nat.le_of_ble_eq_true rfl) dX12_look_10 ⟨Nat.le_of_ble_eq_true rfl, Nat.le_of_ble_eq_true rfl⟩ ⟨Nat.le_of_ble_eq_true rfl, Nat.le_of_ble_eq_true rfl⟩) (fun x2 μ2 H locs q2 hW => ?_)
  obtain ⟨q2_m, q2⟩ := q2
  subst q2_m
  rcases q2 with ⟨rfl, q2⟩ | ⟨rfl, q2⟩
  · refine lv_if_ne (tgt := 18) hx hb dX12_look_13 (by decide) (fun _ => ?_) (fun c => False.elim (by revert c; decide))
    refine lv_aload_n hx hb dX12_look_18 rfl (lv_at hl 0 rfl) ?_
    refine m_geti hx hb hts hown hW (81) 5 rfl rfl cw_12 rfl (by decide) k_X12_174 dX12_look_19 ?_
    refine lv_topi (fun x3 ex3 => ?_)
    have bx3 : 0 ≤ x3.toInt ∧ x3.toInt ≤ 1 := by rw [ex3]; exact hI.1 _ _ _ _ rfl
    refine lv_if_ne (tgt := 27) hx hb dX12_look_22 (by decide) (fun c4 => ?_) (fun c4 => ?_)
    · have i4 := m_c6 (rfl : x3.toInt = _) (by decide : (0 : Int32).toInt = 0) c4
      refine lv_iload_n hx hb dX12_look_27 rfl (lv_at hl 1 rfl) ?_
      refine lv_if_ne (tgt := 38) hx hb dX12_look_28 (by decide) (fun c5 => ?_) (fun c5 => ?_)
      · have i5 := m_c6 (rfl : k.toInt = _) (by decide : (0 : Int32).toInt = 0) c5
        refine lv_iload_n hx hb dX12_look_38 rfl (lv_at hl 1 rfl) ?_
        refine lv_iconst (v := 1) hx hb dX12_look_39 (by decide) ?_
        refine lv_icmp_ne (tgt := 50) hx hb dX12_look_40 (by decide) (fun c6 => ?_) (fun c6 => ?_)
        · have i6 := m_c6 (rfl : k.toInt = _) (by decide : (1 : Int32).toInt = 1) c6
          refine lv_iload_n hx hb dX12_look_50 rfl (lv_at hl 1 rfl) ?_
          refine lv_iconst (v := 2) hx hb dX12_look_51 (by decide) ?_
          refine lv_icmp_ne (tgt := 62) hx hb dX12_look_52 (by decide) (fun c7 => ?_) (fun c7 => ?_)
          · have i7 := m_c6 (rfl : k.toInt = _) (by decide : (2 : Int32).toInt = 2) c7
            refine lv_iload_n hx hb dX12_look_62 rfl (lv_at hl 1 rfl) ?_
            refine lv_iconst (v := 3) hx hb dX12_look_63 (by decide) ?_
            refine lv_icmp_ne (tgt := 82) hx hb dX12_look_64 (by decide) (fun c8 => ?_) (fun c8 => ?_)
            · have i8 := m_c6 (rfl : k.toInt = _) (by decide : (3 : Int32).toInt = 3) c8
              refine lv_iload_n hx hb dX12_look_82 rfl (lv_at hl 1 rfl) ?_
              refine lv_iconst (v := 4) hx hb dX12_look_83 (by decide) ?_
              refine lv_icmp_ne (tgt := 94) hx hb dX12_look_84 (by decide) (fun c9 => ?_) (fun c9 => ?_)
              · have i9 := m_c6 (rfl : k.toInt = _) (by decide : (4 : Int32).toInt = 4) c9
                refine lv_iload_n hx hb dX12_look_94 rfl (lv_at hl 1 rfl) ?_
                refine lv_iconst (v := 5) hx hb dX12_look_95 (by decide) ?_
                refine lv_icmp_ne (tgt := 106) hx hb dX12_look_96 (by decide) (fun c10 => ?_) (fun c10 => ?_)
                · have i10 := m_c6 (rfl : k.toInt = _) (by decide : (5 : Int32).toInt = 5) c10
                  refine lv_iload_n hx hb dX12_look_106 rfl (lv_at hl 1 rfl) ?_
                  refine lv_bipush (v := 11) hx hb dX12_look_107 (by decide) ?_
                  refine lv_icmp_ge (tgt := 122) hx hb dX12_look_109 (by decide) (fun c11 => ?_) (fun c11 => ?_)
                  · have i11 := m_c3 (by decide : (11 : Int32).toInt = 11) (rfl : k.toInt = _) c11
                    refine lv_iload_n hx hb dX12_look_122 rfl (lv_at hl 1 rfl) ?_
                    refine lv_bipush (v := 13) hx hb dX12_look_123 (by decide) ?_
                    refine lv_icmp_ne (tgt := 135) hx hb dX12_look_125 (by decide) (fun c12 => ?_) (fun c12 => ?_)
                    · have i12 := m_c6 (rfl : k.toInt = _) (by decide : (13 : Int32).toInt = 13) c12
                      refine lv_aload_n hx hb dX12_look_135 rfl (lv_at hl 0 rfl) ?_
                      refine lv_iconst (v := 0) hx hb dX12_look_136 (by decide) ?_
                      refine m_aV hW (m_runV (As := [.int 0]) (rest := []) hx hb hml hown hts hW (81) (g_X12_findsParts l D cy b S μ0 hS22 hS32 0 (by omega) μ1 hI) mi_X12_findsParts k_X12_233 rfl rfl rfl hl.1 rfl (Nat.le_of_ble_eq_true rfl) dX12_look_137 ⟨Nat.le_of_ble_eq_true rfl, Nat.le_of_ble_eq_true rfl⟩ ⟨Nat.le_of_ble_eq_true rfl, Nat.le_of_ble_eq_true rfl⟩) (fun μ13 H locs q13 hW => ?_)
                      obtain ⟨hI, q13⟩ := q13
                      refine lv_iconst (v := 0) hx hb dX12_look_140 (by decide) ?_
                      refine lv_istore_n (lv' := [(2, .int 0), (0, .ref (b + 81)), (1, .int k)]) hx hb dX12_look_141 rfl hl (by decide) rfl (fun ls hl => ?_)
                      refine lv_iconst (v := 1) hx hb dX12_look_142 (by decide) ?_
                      refine lv_istore_n (lv' := [(3, .int 1), (2, .int 0), (0, .ref (b + 81)), (1, .int k)]) hx hb dX12_look_143 rfl hl (by decide) rfl (fun ls hl => ?_)
                      have l_1 : (1 : Int32).toInt = 1 := by decide
                      exact L_X12_look_144 hx hb hr hml hown hts hlocks S μ0 hS20 hS22 hS32 k  194 0 1 (by omega) (by omega) μ13 hI _ _ hW ls (lv_sub hl [2, 3, 1, 0] rfl)
                    · have i12 := m_c5 (rfl : k.toInt = _) (by decide : (13 : Int32).toInt = 13) c12
                      refine lv_aload_n hx hb dX12_look_128 rfl (lv_at hl 0 rfl) ?_
                      refine m_getr hx hb hts hown hW (81) 24 (97) rfl rfl cw_12 rfl (by decide) k_X12_67 dX12_look_129 ?_
                      refine lv_iconst (v := 0) hx hb dX12_look_132 (by decide) ?_
                      refine m_iald hx hb hW (97) rfl (vp_in_iff.mpr ⟨by decide, by decide⟩) dX12_look_133 ?_
                      refine lv_topi (fun x14 ex14 => ?_)
                      exact m_iret hx hb hr hlocks hW rfl (⟨hI, trivial⟩) dX12_look_134
                  · have i11 := m_c4 (by decide : (11 : Int32).toInt = 11) (rfl : k.toInt = _) c11
                    refine lv_aload_n hx hb dX12_look_112 rfl (lv_at hl 0 rfl) ?_
                    refine lv_iconst (v := 0) hx hb dX12_look_113 (by decide) ?_
                    refine lv_iload_n hx hb dX12_look_114 rfl (lv_at hl 1 rfl) ?_
                    refine lv_bipush (v := 6) hx hb dX12_look_115 (by decide) ?_
                    refine lv_isub hx hb dX12_look_117 ?_
                    refine lv_topi (fun x15 ex15 => ?_)
                    have tx15 : x15.toInt = k.toInt - 6 := m_subI ex15 (rfl : k.toInt = _) (by decide : (6 : Int32).toInt = 6) (by omega) (by omega)
                    refine m_aI hW (m_runV (As := [.int 0, .int x15]) (rest := []) hx hb hml hown hts hW (81) (g_X12_cellsAs l D cy b 0 x15 (by omega) μ1 hI.1) mi_X12_cellsAs k_X12_378 rfl rfl rfl hl.1 rfl (Nat.le_of_ble_eq_true rfl) dX12_look_118 ⟨Nat.le_of_ble_eq_true rfl, Nat.le_of_ble_eq_true rfl⟩ ⟨Nat.le_of_ble_eq_true rfl, Nat.le_of_ble_eq_true rfl⟩) (fun x16 μ16 H locs q16 hW => ?_)
                    obtain ⟨q16_m, q16⟩ := q16
                    subst q16_m
                    exact m_iret hx hb hr hlocks hW rfl (⟨hI, trivial⟩) dX12_look_121
                · have i10 := m_c5 (rfl : k.toInt = _) (by decide : (5 : Int32).toInt = 5) c10
                  refine lv_aload_n hx hb dX12_look_99 rfl (lv_at hl 0 rfl) ?_
                  refine m_getr hx hb hts hown hW (81) 23 (96) rfl rfl cw_12 rfl (by decide) k_X12_64 dX12_look_100 ?_
                  refine lv_iconst (v := 0) hx hb dX12_look_103 (by decide) ?_
                  refine m_iald hx hb hW (96) rfl (vp_in_iff.mpr ⟨by decide, by decide⟩) dX12_look_104 ?_
                  refine lv_topi (fun x17 ex17 => ?_)
                  exact m_iret hx hb hr hlocks hW rfl (⟨hI, trivial⟩) dX12_look_105
              · have i9 := m_c5 (rfl : k.toInt = _) (by decide : (4 : Int32).toInt = 4) c9
                refine lv_aload_n hx hb dX12_look_87 rfl (lv_at hl 0 rfl) ?_
                refine m_getr hx hb hts hown hW (81) 21 (94) rfl rfl cw_12 rfl (by decide) k_X12_58 dX12_look_88 ?_
                refine lv_iconst (v := 0) hx hb dX12_look_91 (by decide) ?_
                refine m_iald hx hb hW (94) rfl (vp_in_iff.mpr ⟨by decide, by decide⟩) dX12_look_92 ?_
                refine lv_topi (fun x18 ex18 => ?_)
                exact m_iret hx hb hr hlocks hW rfl (⟨hI, trivial⟩) dX12_look_93
            · have i8 := m_c5 (rfl : k.toInt = _) (by decide : (3 : Int32).toInt = 3) c8
              refine lv_aload_n hx hb dX12_look_67 rfl (lv_at hl 0 rfl) ?_
              refine m_getr hx hb hts hown hW (81) 20 (93) rfl rfl cw_12 rfl (by decide) k_X12_55 dX12_look_68 ?_
              refine lv_iconst (v := 0) hx hb dX12_look_71 (by decide) ?_
              refine m_zald hx hb hW (93) rfl (vp_in_iff.mpr ⟨by decide, by decide⟩) dX12_look_72 ?_
              refine lv_topi (fun x19 ex19 => ?_)
              have bx19 : 0 ≤ x19.toInt ∧ x19.toInt ≤ 1 := by rw [ex19]; exact hI.1 _ _ _ _ rfl
              refine lv_if_eq (tgt := 80) hx hb dX12_look_73 (by decide) (fun c20 => ?_) (fun c20 => ?_)
              · have i20 := m_c5 (rfl : x19.toInt = _) (by decide : (0 : Int32).toInt = 0) c20
                refine lv_iconst (v := 0) hx hb dX12_look_80 (by decide) ?_
                exact m_iret hx hb hr hlocks hW rfl (⟨hI, trivial⟩) dX12_look_81
              · have i20 := m_c6 (rfl : x19.toInt = _) (by decide : (0 : Int32).toInt = 0) c20
                refine lv_iconst (v := 1) hx hb dX12_look_76 (by decide) ?_
                refine lv_goto (tgt := 81) hx hb dX12_look_77 (by decide) ?_
                exact m_iret hx hb hr hlocks hW rfl (⟨hI, trivial⟩) dX12_look_81
          · have i7 := m_c5 (rfl : k.toInt = _) (by decide : (2 : Int32).toInt = 2) c7
            refine lv_aload_n hx hb dX12_look_55 rfl (lv_at hl 0 rfl) ?_
            refine m_getr hx hb hts hown hW (81) 19 (92) rfl rfl cw_12 rfl (by decide) k_X12_52 dX12_look_56 ?_
            refine lv_iconst (v := 0) hx hb dX12_look_59 (by decide) ?_
            refine m_iald hx hb hW (92) rfl (vp_in_iff.mpr ⟨by decide, by decide⟩) dX12_look_60 ?_
            refine lv_topi (fun x21 ex21 => ?_)
            exact m_iret hx hb hr hlocks hW rfl (⟨hI, trivial⟩) dX12_look_61
        · have i6 := m_c5 (rfl : k.toInt = _) (by decide : (1 : Int32).toInt = 1) c6
          refine lv_aload_n hx hb dX12_look_43 rfl (lv_at hl 0 rfl) ?_
          refine m_getr hx hb hts hown hW (81) 18 (91) rfl rfl cw_12 rfl (by decide) k_X12_49 dX12_look_44 ?_
          refine lv_iconst (v := 0) hx hb dX12_look_47 (by decide) ?_
          refine m_iald hx hb hW (91) rfl (vp_in_iff.mpr ⟨by decide, by decide⟩) dX12_look_48 ?_
          refine lv_topi (fun x22 ex22 => ?_)
          exact m_iret hx hb hr hlocks hW rfl (⟨hI, trivial⟩) dX12_look_49
      · have i5 := m_c5 (rfl : k.toInt = _) (by decide : (0 : Int32).toInt = 0) c5
        refine lv_aload_n hx hb dX12_look_31 rfl (lv_at hl 0 rfl) ?_
        refine m_getr hx hb hts hown hW (81) 22 (95) rfl rfl cw_12 rfl (by decide) k_X12_61 dX12_look_32 ?_
        refine lv_iconst (v := 0) hx hb dX12_look_35 (by decide) ?_
        refine m_iald hx hb hW (95) rfl (vp_in_iff.mpr ⟨by decide, by decide⟩) dX12_look_36 ?_
        refine lv_topi (fun x23 ex23 => ?_)
        exact m_iret hx hb hr hlocks hW rfl (⟨hI, trivial⟩) dX12_look_37
    · have i4 := m_c5 (rfl : x3.toInt = _) (by decide : (0 : Int32).toInt = 0) c4
      refine lv_iconst (v := 0) hx hb dX12_look_25 (by decide) ?_
      exact m_iret hx hb hr hlocks hW rfl (⟨hI, trivial⟩) dX12_look_26
  · refine lv_if_ne (tgt := 18) hx hb dX12_look_13 (by decide) (fun c => False.elim (by revert c; decide)) (fun _ => ?_)
    refine lv_iconst (v := (-1)) hx hb dX12_look_16 (by decide) ?_
    exact m_iret hx hb hr hlocks hW rfl (⟨hI, trivial⟩) dX12_look_17
set_option maxHeartbeats 4000000 in
set_option maxRecDepth 100000 in
theorem L_X12_bridgeOf_244 {p : Program} {l : Launch} {e : Env} {s : State} {m : MethodId} {args : Array Value} {below : List Frame} {meth : Method} {c : Code} {D : va_G} {cy : Nat → ClassId} {b : Nat} (hx : p.tables.exec = Jvm.exec) (hb : c.code = cX12_bridgeOf) (hr : meth.sig.returnType = ((some .int))) (hml : c.maxLocals = 9) (hown : s.vm.findClass RX12 = some m.cls) (hts : ∀ w ∈ TB, w.before args s = true) (hlocks : meth.locks = false) (S : Nat → Bool) (μ0 : mM) (hS22 : S 22 = true) (k u : Int32) (h_k : 0 ≤ k.toInt ∧ k.toInt ≤ 15) (h_u : 0 ≤ u.toInt ∧ u.toInt ≤ 11) : ∀ (f : Nat), ∀ (y4 y5 : Int32) (hy : 0 ≤ y5.toInt ∧ y5.toInt ≤ 192) (hf : 192 - y5.toInt < (f : Int)) (μ : mM) (hI : IY S μ0 μ) (H : Heap) (locs : List Loc), m_WA (m_A b LAY) D cy s b LAY μ H locs → ∀ ls : Array Slot, lv_has ls 9 [(0, .ref (b + 81)), (1, .int k), (2, .int u), (4, .int y4), (5, .int y5)] → W p l e (m_R 2 0 0) s m args below meth c H locs 0 0 (MQ below (m_Qi D cy b LAY (fun r ν => IY S μ0 ν ∧ (True))) args s 0 0 (m_A b LAY)) (F0 m 244 ls []) := by
  intro f
  induction f with
  | zero => intro y4 y5 hy hf; exfalso; omega
  | succ f ih =>
    intro y4 y5 hy hf μ hI H locs hW ls hl
    refine lv_iload hx hb dX12_bridgeOf_244 (lv_at hl 4 rfl) ?_
    refine lv_bipush (v := 16) hx hb dX12_bridgeOf_246 (by decide) ?_
    refine lv_aload_n hx hb dX12_bridgeOf_248 rfl (lv_at hl 0 rfl) ?_
    refine m_geti hx hb hts hown hW (81) 7 rfl rfl cw_12 rfl (by decide) k_X12_180 dX12_bridgeOf_249 ?_
    refine lv_topi (fun x1 ex1 => ?_)
    have bx1 : 0 ≤ x1.toInt ∧ x1.toInt ≤ 12 := by rw [ex1]; exact hI.1 _ _ _ _ rfl
    refine lv_imul hx hb dX12_bridgeOf_252 ?_
    refine lv_topi (fun x2 ex2 => ?_)
    have tx2 : x2.toInt = 16 * x1.toInt := m_mulI ex2 (by decide : (16 : Int32).toInt = 16) (rfl : x1.toInt = _) (by omega) (by omega)
    refine lv_icmp_ge (tgt := 380) hx hb dX12_bridgeOf_253 (by decide) (fun c3 => ?_) (fun c3 => ?_)
    · have i3 := m_c3 (rfl : x2.toInt = _) (rfl : y5.toInt = _) c3
      refine lv_iload hx hb dX12_bridgeOf_380 (lv_at hl 3 rfl) ?_
      exact m_iret hx hb hr hlocks hW rfl (⟨hI, trivial⟩) dX12_bridgeOf_382
    · have i3 := m_c4 (rfl : x2.toInt = _) (rfl : y5.toInt = _) c3
      refine lv_iload hx hb dX12_bridgeOf_256 (lv_at hl 4 rfl) ?_
      refine lv_bipush (v := 16) hx hb dX12_bridgeOf_258 (by decide) ?_
      refine lv_irem hx hb dX12_bridgeOf_260 (by decide) ?_
      refine lv_topi (fun x4 ex4 => ?_)
      have tx4 : x4.toInt = y5.toInt % 16 := m_remI ex4 (rfl : y5.toInt = _) (by decide : (16 : Int32).toInt = 16) (by omega) (by decide)
      refine lv_istore (lv' := [(6, .int x4), (0, .ref (b + 81)), (1, .int k), (2, .int u), (4, .int y4), (5, .int y5)]) hx hb dX12_bridgeOf_261 hl (by decide) rfl (fun ls hl => ?_)
      refine lv_iload hx hb dX12_bridgeOf_263 (lv_at hl 5 rfl) ?_
      refine lv_bipush (v := 16) hx hb dX12_bridgeOf_265 (by decide) ?_
      refine lv_idiv hx hb dX12_bridgeOf_267 (by decide) ?_
      refine lv_topi (fun x5 ex5 => ?_)
      have tx5 : x5.toInt = y5.toInt / 16 := m_divI ex5 (rfl : y5.toInt = _) (by decide : (16 : Int32).toInt = 16) (by omega) (by decide)
      refine lv_istore (lv' := [(7, .int x5), (6, .int x4), (0, .ref (b + 81)), (1, .int k), (2, .int u), (4, .int y4), (5, .int y5)]) hx hb dX12_bridgeOf_268 hl (by decide) rfl (fun ls hl => ?_)
      refine lv_iload hx hb dX12_bridgeOf_270 (lv_at hl 1 rfl) ?_
      refine lv_aload_n hx hb dX12_bridgeOf_272 rfl (lv_at hl 2 rfl) ?_
      refine m_geti hx hb hts hown hW (81) 6 rfl rfl cw_12 rfl (by decide) k_X12_177 dX12_bridgeOf_273 ?_
      refine lv_topi (fun x6 ex6 => ?_)
      have bx6 : 0 ≤ x6.toInt ∧ x6.toInt ≤ 16 := by rw [ex6]; exact hI.1 _ _ _ _ rfl
      refine lv_icmp_lt (tgt := 282) hx hb dX12_bridgeOf_276 (by decide) (fun c7 => ?_) (fun c7 => ?_)
      · have i7 := m_c1 (rfl : x4.toInt = _) (rfl : x6.toInt = _) c7
        refine lv_aload_n hx hb dX12_bridgeOf_282 rfl (lv_at hl 2 rfl) ?_
        refine lv_iconst (v := 0) hx hb dX12_bridgeOf_283 (by decide) ?_
        refine lv_iload hx hb dX12_bridgeOf_284 (lv_at hl 1 rfl) ?_
        refine lv_iload hx hb dX12_bridgeOf_286 (lv_at hl 0 rfl) ?_
        have l_0 : (0 : Int32).toInt = 0 := by decide
        refine m_aI hW (m_runV (As := [.int 0, .int x4, .int x5]) (rest := []) hx hb hml hown hts hW (81) (g_X12_isThere l D cy b 0 x4 x5 (by omega) μ hI.1) mi_X12_isThere k_X12_200 rfl rfl rfl hl.1 rfl (Nat.le_of_ble_eq_true rfl) dX12_bridgeOf_288 ⟨Nat.le_of_ble_eq_true rfl, Nat.le_of_ble_eq_true rfl⟩ ⟨Nat.le_of_ble_eq_true rfl, Nat.le_of_ble_eq_true rfl⟩) (fun x8 μ8 H locs q8 hW => ?_)
        obtain ⟨q8_m, q8⟩ := q8
        subst q8_m
        rcases q8 with ⟨rfl, q8⟩ | ⟨rfl, q8⟩
        · refine lv_if_eq (tgt := 309) hx hb dX12_bridgeOf_291 (by decide) (fun c => False.elim (by revert c; decide)) (fun _ => ?_)
          refine lv_aload_n hx hb dX12_bridgeOf_294 rfl (lv_at hl 2 rfl) ?_
          refine m_getr hx hb hts hown hW (81) 33 (105) rfl rfl cw_12 rfl (by decide) k_X12_92 dX12_bridgeOf_295 ?_
          refine lv_aload_n hx hb dX12_bridgeOf_298 rfl (lv_at hl 2 rfl) ?_
          refine m_getr hx hb hts hown hW (81) 28 (101) rfl rfl cw_12 rfl (by decide) k_X12_80 dX12_bridgeOf_299 ?_
          refine lv_iload hx hb dX12_bridgeOf_302 (lv_at hl 6 rfl) ?_
          refine m_iald hx hb hW (101) rfl (m_ixI (rfl : y5.toInt = _) (by omega) (by omega)) dX12_bridgeOf_304 ?_
          refine lv_topi (fun x9 ex9 => ?_)
          have bx9 : 0 ≤ x9.toInt ∧ x9.toInt ≤ 192 := by rw [ex9]; exact hI.1 _ _ _ _ rfl
          refine m_zald hx hb hW (105) rfl (m_ixI (rfl : x9.toInt = _) (by omega) (by omega)) dX12_bridgeOf_305 ?_
          refine lv_topi (fun x10 ex10 => ?_)
          have bx10 : 0 ≤ x10.toInt ∧ x10.toInt ≤ 1 := by rw [ex10]; exact hI.1 _ _ _ _ rfl
          refine lv_goto (tgt := 346) hx hb dX12_bridgeOf_306 (by decide) ?_
          refine lv_istore (lv' := [(8, .int x10), (7, .int x5), (6, .int x4), (0, .ref (b + 81)), (1, .int k), (2, .int u), (4, .int y4), (5, .int y5)]) hx hb dX12_bridgeOf_346 hl (by decide) rfl (fun ls hl => ?_)
          refine lv_iload hx hb dX12_bridgeOf_348 (lv_at hl 0 rfl) ?_
          refine lv_if_eq (tgt := 374) hx hb dX12_bridgeOf_350 (by decide) (fun c11 => ?_) (fun c11 => ?_)
          · have i11 := m_c5 (rfl : x10.toInt = _) (by decide : (0 : Int32).toInt = 0) c11
            obtain ⟨x12, ex12⟩ : ∃ z : Int32, z = y5 + 1 := ⟨_, rfl⟩
            refine lv_iinc (v := x12) (lv' := [(5, .int x12), (8, .int x10), (7, .int x5), (6, .int x4), (0, .ref (b + 81)), (1, .int k), (2, .int u), (4, .int y4)]) hx hb dX12_bridgeOf_374 hl (k := 7) rfl (by rw [ex12]; rfl) (by decide) rfl (fun ls hl => ?_)
            have tx12 : x12.toInt = y5.toInt + 1 := m_addI ex12 (rfl : y5.toInt = _) (by decide : (1 : Int32).toInt = 1) (by omega) (by omega)
            refine lv_goto (tgt := 244) hx hb dX12_bridgeOf_377 (by decide) ?_
            exact ih y4 x12 (by omega) (by omega) μ hI _ _ hW ls (lv_sub hl [4, 5, 6, 7, 0] rfl)
          · have i11 := m_c6 (rfl : x10.toInt = _) (by decide : (0 : Int32).toInt = 0) c11
            refine lv_aload_n hx hb dX12_bridgeOf_353 rfl (lv_at hl 3 rfl) ?_
            refine m_getr hx hb hts hown hW (81) 14 (87) rfl rfl cw_12 rfl (by decide) k_X12_36 dX12_bridgeOf_354 ?_
            refine lv_iload hx hb dX12_bridgeOf_357 (lv_at hl 7 rfl) ?_
            refine m_iald hx hb hW (87) rfl (m_ixI (rfl : y5.toInt = _) (by omega) (by omega)) dX12_bridgeOf_359 ?_
            refine lv_topi (fun x13 ex13 => ?_)
            refine lv_iload hx hb dX12_bridgeOf_360 (lv_at hl 6 rfl) ?_
            refine lv_icmp_ge (tgt := 374) hx hb dX12_bridgeOf_362 (by decide) (fun c14 => ?_) (fun c14 => ?_)
            · have i14 := m_c3 (rfl : y4.toInt = _) (rfl : x13.toInt = _) c14
              obtain ⟨x15, ex15⟩ : ∃ z : Int32, z = y5 + 1 := ⟨_, rfl⟩
              refine lv_iinc (v := x15) (lv' := [(5, .int x15), (8, .int x10), (7, .int x5), (6, .int x4), (0, .ref (b + 81)), (1, .int k), (2, .int u), (4, .int y4)]) hx hb dX12_bridgeOf_374 hl (k := 7) rfl (by rw [ex15]; rfl) (by decide) rfl (fun ls hl => ?_)
              have tx15 : x15.toInt = y5.toInt + 1 := m_addI ex15 (rfl : y5.toInt = _) (by decide : (1 : Int32).toInt = 1) (by omega) (by omega)
              refine lv_goto (tgt := 244) hx hb dX12_bridgeOf_377 (by decide) ?_
              exact ih y4 x15 (by omega) (by omega) μ hI _ _ hW ls (lv_sub hl [4, 5, 6, 7, 0] rfl)
            · have i14 := m_c4 (rfl : y4.toInt = _) (rfl : x13.toInt = _) c14
              refine lv_aload_n hx hb dX12_bridgeOf_365 rfl (lv_at hl 3 rfl) ?_
              refine m_getr hx hb hts hown hW (81) 14 (87) rfl rfl cw_12 rfl (by decide) k_X12_36 dX12_bridgeOf_366 ?_
              refine lv_iload hx hb dX12_bridgeOf_369 (lv_at hl 7 rfl) ?_
              refine m_iald hx hb hW (87) rfl (m_ixI (rfl : y5.toInt = _) (by omega) (by omega)) dX12_bridgeOf_371 ?_
              refine lv_topi (fun x16 ex16 => ?_)
              have ex16 : x16 = x13 := by rw [ex16]; exact ex13.symm
              have ex16 := ex16.symm
              subst ex16
              refine lv_istore (lv' := [(4, .int x13), (8, .int x10), (7, .int x5), (6, .int x4), (0, .ref (b + 81)), (1, .int k), (2, .int u), (5, .int y5)]) hx hb dX12_bridgeOf_372 hl (by decide) rfl (fun ls hl => ?_)
              obtain ⟨x17, ex17⟩ : ∃ z : Int32, z = y5 + 1 := ⟨_, rfl⟩
              refine lv_iinc (v := x17) (lv' := [(5, .int x17), (4, .int x13), (8, .int x10), (7, .int x5), (6, .int x4), (0, .ref (b + 81)), (1, .int k), (2, .int u)]) hx hb dX12_bridgeOf_374 hl (k := 7) rfl (by rw [ex17]; rfl) (by decide) rfl (fun ls hl => ?_)
              have tx17 : x17.toInt = y5.toInt + 1 := m_addI ex17 (rfl : y5.toInt = _) (by decide : (1 : Int32).toInt = 1) (by omega) (by omega)
              refine lv_goto (tgt := 244) hx hb dX12_bridgeOf_377 (by decide) ?_
              exact ih x13 x17 (by omega) (by omega) μ hI _ _ hW ls (lv_sub hl [5, 6, 7, 1, 0] rfl)
        · refine lv_if_eq (tgt := 309) hx hb dX12_bridgeOf_291 (by decide) (fun _ => ?_) (fun c => False.elim (by revert c; decide))
          refine lv_iload hx hb dX12_bridgeOf_309 (lv_at hl 1 rfl) ?_
          refine lv_if_eq (tgt := 341) hx hb dX12_bridgeOf_311 (by decide) (fun c18 => ?_) (fun c18 => ?_)
          · have i18 := m_c5 (rfl : x4.toInt = _) (by decide : (0 : Int32).toInt = 0) c18
            refine lv_iconst (v := 1) hx hb dX12_bridgeOf_341 (by decide) ?_
            refine lv_goto (tgt := 346) hx hb dX12_bridgeOf_342 (by decide) ?_
            refine lv_istore (lv' := [(8, .int 1), (7, .int x5), (6, .int x4), (0, .ref (b + 81)), (1, .int k), (2, .int u), (4, .int y4), (5, .int y5)]) hx hb dX12_bridgeOf_346 hl (by decide) rfl (fun ls hl => ?_)
            refine lv_iload hx hb dX12_bridgeOf_348 (lv_at hl 0 rfl) ?_
            refine lv_if_eq (tgt := 374) hx hb dX12_bridgeOf_350 (by decide) (fun c => False.elim (by revert c; decide)) (fun _ => ?_)
            refine lv_aload_n hx hb dX12_bridgeOf_353 rfl (lv_at hl 3 rfl) ?_
            refine m_getr hx hb hts hown hW (81) 14 (87) rfl rfl cw_12 rfl (by decide) k_X12_36 dX12_bridgeOf_354 ?_
            refine lv_iload hx hb dX12_bridgeOf_357 (lv_at hl 7 rfl) ?_
            refine m_iald hx hb hW (87) rfl (m_ixI (rfl : y5.toInt = _) (by omega) (by omega)) dX12_bridgeOf_359 ?_
            refine lv_topi (fun x19 ex19 => ?_)
            refine lv_iload hx hb dX12_bridgeOf_360 (lv_at hl 6 rfl) ?_
            refine lv_icmp_ge (tgt := 374) hx hb dX12_bridgeOf_362 (by decide) (fun c20 => ?_) (fun c20 => ?_)
            · have i20 := m_c3 (rfl : y4.toInt = _) (rfl : x19.toInt = _) c20
              obtain ⟨x21, ex21⟩ : ∃ z : Int32, z = y5 + 1 := ⟨_, rfl⟩
              refine lv_iinc (v := x21) (lv' := [(5, .int x21), (8, .int 1), (7, .int x5), (6, .int x4), (0, .ref (b + 81)), (1, .int k), (2, .int u), (4, .int y4)]) hx hb dX12_bridgeOf_374 hl (k := 7) rfl (by rw [ex21]; rfl) (by decide) rfl (fun ls hl => ?_)
              have tx21 : x21.toInt = y5.toInt + 1 := m_addI ex21 (rfl : y5.toInt = _) (by decide : (1 : Int32).toInt = 1) (by omega) (by omega)
              refine lv_goto (tgt := 244) hx hb dX12_bridgeOf_377 (by decide) ?_
              exact ih y4 x21 (by omega) (by omega) μ hI _ _ hW ls (lv_sub hl [4, 5, 6, 7, 0] rfl)
            · have i20 := m_c4 (rfl : y4.toInt = _) (rfl : x19.toInt = _) c20
              refine lv_aload_n hx hb dX12_bridgeOf_365 rfl (lv_at hl 3 rfl) ?_
              refine m_getr hx hb hts hown hW (81) 14 (87) rfl rfl cw_12 rfl (by decide) k_X12_36 dX12_bridgeOf_366 ?_
              refine lv_iload hx hb dX12_bridgeOf_369 (lv_at hl 7 rfl) ?_
              refine m_iald hx hb hW (87) rfl (m_ixI (rfl : y5.toInt = _) (by omega) (by omega)) dX12_bridgeOf_371 ?_
              refine lv_topi (fun x22 ex22 => ?_)
              have ex22 : x22 = x19 := by rw [ex22]; exact ex19.symm
              have ex22 := ex22.symm
              subst ex22
              refine lv_istore (lv' := [(4, .int x19), (8, .int 1), (7, .int x5), (6, .int x4), (0, .ref (b + 81)), (1, .int k), (2, .int u), (5, .int y5)]) hx hb dX12_bridgeOf_372 hl (by decide) rfl (fun ls hl => ?_)
              obtain ⟨x23, ex23⟩ : ∃ z : Int32, z = y5 + 1 := ⟨_, rfl⟩
              refine lv_iinc (v := x23) (lv' := [(5, .int x23), (4, .int x19), (8, .int 1), (7, .int x5), (6, .int x4), (0, .ref (b + 81)), (1, .int k), (2, .int u)]) hx hb dX12_bridgeOf_374 hl (k := 7) rfl (by rw [ex23]; rfl) (by decide) rfl (fun ls hl => ?_)
              have tx23 : x23.toInt = y5.toInt + 1 := m_addI ex23 (rfl : y5.toInt = _) (by decide : (1 : Int32).toInt = 1) (by omega) (by omega)
              refine lv_goto (tgt := 244) hx hb dX12_bridgeOf_377 (by decide) ?_
              exact ih x19 x23 (by omega) (by omega) μ hI _ _ hW ls (lv_sub hl [5, 6, 7, 1, 0] rfl)
          · have i18 := m_c6 (rfl : x4.toInt = _) (by decide : (0 : Int32).toInt = 0) c18
            refine lv_iload hx hb dX12_bridgeOf_314 (lv_at hl 0 rfl) ?_
            refine lv_if_eq (tgt := 341) hx hb dX12_bridgeOf_316 (by decide) (fun c24 => ?_) (fun c24 => ?_)
            · have i24 := m_c5 (rfl : x5.toInt = _) (by decide : (0 : Int32).toInt = 0) c24
              refine lv_iconst (v := 1) hx hb dX12_bridgeOf_341 (by decide) ?_
              refine lv_goto (tgt := 346) hx hb dX12_bridgeOf_342 (by decide) ?_
              refine lv_istore (lv' := [(8, .int 1), (7, .int x5), (6, .int x4), (0, .ref (b + 81)), (1, .int k), (2, .int u), (4, .int y4), (5, .int y5)]) hx hb dX12_bridgeOf_346 hl (by decide) rfl (fun ls hl => ?_)
              refine lv_iload hx hb dX12_bridgeOf_348 (lv_at hl 0 rfl) ?_
              refine lv_if_eq (tgt := 374) hx hb dX12_bridgeOf_350 (by decide) (fun c => False.elim (by revert c; decide)) (fun _ => ?_)
              refine lv_aload_n hx hb dX12_bridgeOf_353 rfl (lv_at hl 3 rfl) ?_
              refine m_getr hx hb hts hown hW (81) 14 (87) rfl rfl cw_12 rfl (by decide) k_X12_36 dX12_bridgeOf_354 ?_
              refine lv_iload hx hb dX12_bridgeOf_357 (lv_at hl 7 rfl) ?_
              refine m_iald hx hb hW (87) rfl (m_ixI (rfl : y5.toInt = _) (by omega) (by omega)) dX12_bridgeOf_359 ?_
              refine lv_topi (fun x25 ex25 => ?_)
              refine lv_iload hx hb dX12_bridgeOf_360 (lv_at hl 6 rfl) ?_
              refine lv_icmp_ge (tgt := 374) hx hb dX12_bridgeOf_362 (by decide) (fun c26 => ?_) (fun c26 => ?_)
              · have i26 := m_c3 (rfl : y4.toInt = _) (rfl : x25.toInt = _) c26
                obtain ⟨x27, ex27⟩ : ∃ z : Int32, z = y5 + 1 := ⟨_, rfl⟩
                refine lv_iinc (v := x27) (lv' := [(5, .int x27), (8, .int 1), (7, .int x5), (6, .int x4), (0, .ref (b + 81)), (1, .int k), (2, .int u), (4, .int y4)]) hx hb dX12_bridgeOf_374 hl (k := 7) rfl (by rw [ex27]; rfl) (by decide) rfl (fun ls hl => ?_)
                have tx27 : x27.toInt = y5.toInt + 1 := m_addI ex27 (rfl : y5.toInt = _) (by decide : (1 : Int32).toInt = 1) (by omega) (by omega)
                refine lv_goto (tgt := 244) hx hb dX12_bridgeOf_377 (by decide) ?_
                exact ih y4 x27 (by omega) (by omega) μ hI _ _ hW ls (lv_sub hl [4, 5, 6, 7, 0] rfl)
              · have i26 := m_c4 (rfl : y4.toInt = _) (rfl : x25.toInt = _) c26
                refine lv_aload_n hx hb dX12_bridgeOf_365 rfl (lv_at hl 3 rfl) ?_
                refine m_getr hx hb hts hown hW (81) 14 (87) rfl rfl cw_12 rfl (by decide) k_X12_36 dX12_bridgeOf_366 ?_
                refine lv_iload hx hb dX12_bridgeOf_369 (lv_at hl 7 rfl) ?_
                refine m_iald hx hb hW (87) rfl (m_ixI (rfl : y5.toInt = _) (by omega) (by omega)) dX12_bridgeOf_371 ?_
                refine lv_topi (fun x28 ex28 => ?_)
                have ex28 : x28 = x25 := by rw [ex28]; exact ex25.symm
                have ex28 := ex28.symm
                subst ex28
                refine lv_istore (lv' := [(4, .int x25), (8, .int 1), (7, .int x5), (6, .int x4), (0, .ref (b + 81)), (1, .int k), (2, .int u), (5, .int y5)]) hx hb dX12_bridgeOf_372 hl (by decide) rfl (fun ls hl => ?_)
                obtain ⟨x29, ex29⟩ : ∃ z : Int32, z = y5 + 1 := ⟨_, rfl⟩
                refine lv_iinc (v := x29) (lv' := [(5, .int x29), (4, .int x25), (8, .int 1), (7, .int x5), (6, .int x4), (0, .ref (b + 81)), (1, .int k), (2, .int u)]) hx hb dX12_bridgeOf_374 hl (k := 7) rfl (by rw [ex29]; rfl) (by decide) rfl (fun ls hl => ?_)
                have tx29 : x29.toInt = y5.toInt + 1 := m_addI ex29 (rfl : y5.toInt = _) (by decide : (1 : Int32).toInt = 1) (by omega) (by omega)
                refine lv_goto (tgt := 244) hx hb dX12_bridgeOf_377 (by decide) ?_
                exact ih x25 x29 (by omega) (by omega) μ hI _ _ hW ls (lv_sub hl [5, 6, 7, 1, 0] rfl)
            · have i24 := m_c6 (rfl : x5.toInt = _) (by decide : (0 : Int32).toInt = 0) c24
              refine lv_iload hx hb dX12_bridgeOf_319 (lv_at hl 1 rfl) ?_
              refine lv_aload_n hx hb dX12_bridgeOf_321 rfl (lv_at hl 2 rfl) ?_
              refine m_geti hx hb hts hown hW (81) 6 rfl rfl cw_12 rfl (by decide) k_X12_177 dX12_bridgeOf_322 ?_
              refine lv_topi (fun x30 ex30 => ?_)
              have ex30 : x30 = x6 := by rw [ex30]; exact ex6.symm
              have ex30 := ex30.symm
              subst ex30
              refine lv_iconst (v := 1) hx hb dX12_bridgeOf_325 (by decide) ?_
              refine lv_isub hx hb dX12_bridgeOf_326 ?_
              refine lv_topi (fun x31 ex31 => ?_)
              have tx31 : x31.toInt = x6.toInt - 1 := m_subI ex31 (rfl : x6.toInt = _) (by decide : (1 : Int32).toInt = 1) (by omega) (by omega)
              refine lv_icmp_eq (tgt := 341) hx hb dX12_bridgeOf_327 (by decide) (fun c32 => ?_) (fun c32 => ?_)
              · have i32 := m_c5 (rfl : x4.toInt = _) (rfl : x31.toInt = _) c32
                refine lv_iconst (v := 1) hx hb dX12_bridgeOf_341 (by decide) ?_
                refine lv_goto (tgt := 346) hx hb dX12_bridgeOf_342 (by decide) ?_
                refine lv_istore (lv' := [(8, .int 1), (7, .int x5), (6, .int x4), (0, .ref (b + 81)), (1, .int k), (2, .int u), (4, .int y4), (5, .int y5)]) hx hb dX12_bridgeOf_346 hl (by decide) rfl (fun ls hl => ?_)
                refine lv_iload hx hb dX12_bridgeOf_348 (lv_at hl 0 rfl) ?_
                refine lv_if_eq (tgt := 374) hx hb dX12_bridgeOf_350 (by decide) (fun c => False.elim (by revert c; decide)) (fun _ => ?_)
                refine lv_aload_n hx hb dX12_bridgeOf_353 rfl (lv_at hl 3 rfl) ?_
                refine m_getr hx hb hts hown hW (81) 14 (87) rfl rfl cw_12 rfl (by decide) k_X12_36 dX12_bridgeOf_354 ?_
                refine lv_iload hx hb dX12_bridgeOf_357 (lv_at hl 7 rfl) ?_
                refine m_iald hx hb hW (87) rfl (m_ixI (rfl : y5.toInt = _) (by omega) (by omega)) dX12_bridgeOf_359 ?_
                refine lv_topi (fun x33 ex33 => ?_)
                refine lv_iload hx hb dX12_bridgeOf_360 (lv_at hl 6 rfl) ?_
                refine lv_icmp_ge (tgt := 374) hx hb dX12_bridgeOf_362 (by decide) (fun c34 => ?_) (fun c34 => ?_)
                · have i34 := m_c3 (rfl : y4.toInt = _) (rfl : x33.toInt = _) c34
                  obtain ⟨x35, ex35⟩ : ∃ z : Int32, z = y5 + 1 := ⟨_, rfl⟩
                  refine lv_iinc (v := x35) (lv' := [(5, .int x35), (8, .int 1), (7, .int x5), (6, .int x4), (0, .ref (b + 81)), (1, .int k), (2, .int u), (4, .int y4)]) hx hb dX12_bridgeOf_374 hl (k := 7) rfl (by rw [ex35]; rfl) (by decide) rfl (fun ls hl => ?_)
                  have tx35 : x35.toInt = y5.toInt + 1 := m_addI ex35 (rfl : y5.toInt = _) (by decide : (1 : Int32).toInt = 1) (by omega) (by omega)
                  refine lv_goto (tgt := 244) hx hb dX12_bridgeOf_377 (by decide) ?_
                  exact ih y4 x35 (by omega) (by omega) μ hI _ _ hW ls (lv_sub hl [4, 5, 6, 7, 0] rfl)
                · have i34 := m_c4 (rfl : y4.toInt = _) (rfl : x33.toInt = _) c34
                  refine lv_aload_n hx hb dX12_bridgeOf_365 rfl (lv_at hl 3 rfl) ?_
                  refine m_getr hx hb hts hown hW (81) 14 (87) rfl rfl cw_12 rfl (by decide) k_X12_36 dX12_bridgeOf_366 ?_
                  refine lv_iload hx hb dX12_bridgeOf_369 (lv_at hl 7 rfl) ?_
                  refine m_iald hx hb hW (87) rfl (m_ixI (rfl : y5.toInt = _) (by omega) (by omega)) dX12_bridgeOf_371 ?_
                  refine lv_topi (fun x36 ex36 => ?_)
                  have ex36 : x36 = x33 := by rw [ex36]; exact ex33.symm
                  have ex36 := ex36.symm
                  subst ex36
                  refine lv_istore (lv' := [(4, .int x33), (8, .int 1), (7, .int x5), (6, .int x4), (0, .ref (b + 81)), (1, .int k), (2, .int u), (5, .int y5)]) hx hb dX12_bridgeOf_372 hl (by decide) rfl (fun ls hl => ?_)
                  obtain ⟨x37, ex37⟩ : ∃ z : Int32, z = y5 + 1 := ⟨_, rfl⟩
                  refine lv_iinc (v := x37) (lv' := [(5, .int x37), (4, .int x33), (8, .int 1), (7, .int x5), (6, .int x4), (0, .ref (b + 81)), (1, .int k), (2, .int u)]) hx hb dX12_bridgeOf_374 hl (k := 7) rfl (by rw [ex37]; rfl) (by decide) rfl (fun ls hl => ?_)
                  have tx37 : x37.toInt = y5.toInt + 1 := m_addI ex37 (rfl : y5.toInt = _) (by decide : (1 : Int32).toInt = 1) (by omega) (by omega)
                  refine lv_goto (tgt := 244) hx hb dX12_bridgeOf_377 (by decide) ?_
                  exact ih x33 x37 (by omega) (by omega) μ hI _ _ hW ls (lv_sub hl [5, 6, 7, 1, 0] rfl)
              · have i32 := m_c6 (rfl : x4.toInt = _) (rfl : x31.toInt = _) c32
                refine lv_iload hx hb dX12_bridgeOf_330 (lv_at hl 0 rfl) ?_
                refine lv_aload_n hx hb dX12_bridgeOf_332 rfl (lv_at hl 2 rfl) ?_
                refine m_geti hx hb hts hown hW (81) 7 rfl rfl cw_12 rfl (by decide) k_X12_180 dX12_bridgeOf_333 ?_
                refine lv_topi (fun x38 ex38 => ?_)
                have ex38 : x38 = x1 := by rw [ex38]; exact ex1.symm
                have ex38 := ex38.symm
                subst ex38
                refine lv_iconst (v := 1) hx hb dX12_bridgeOf_336 (by decide) ?_
                refine lv_isub hx hb dX12_bridgeOf_337 ?_
                refine lv_topi (fun x39 ex39 => ?_)
                have tx39 : x39.toInt = x1.toInt - 1 := m_subI ex39 (rfl : x1.toInt = _) (by decide : (1 : Int32).toInt = 1) (by omega) (by omega)
                refine lv_icmp_ne (tgt := 345) hx hb dX12_bridgeOf_338 (by decide) (fun c40 => ?_) (fun c40 => ?_)
                · have i40 := m_c6 (rfl : x5.toInt = _) (rfl : x39.toInt = _) c40
                  refine lv_iconst (v := 0) hx hb dX12_bridgeOf_345 (by decide) ?_
                  refine lv_istore (lv' := [(8, .int 0), (7, .int x5), (6, .int x4), (0, .ref (b + 81)), (1, .int k), (2, .int u), (4, .int y4), (5, .int y5)]) hx hb dX12_bridgeOf_346 hl (by decide) rfl (fun ls hl => ?_)
                  refine lv_iload hx hb dX12_bridgeOf_348 (lv_at hl 0 rfl) ?_
                  refine lv_if_eq (tgt := 374) hx hb dX12_bridgeOf_350 (by decide) (fun _ => ?_) (fun c => False.elim (by revert c; decide))
                  obtain ⟨x41, ex41⟩ : ∃ z : Int32, z = y5 + 1 := ⟨_, rfl⟩
                  refine lv_iinc (v := x41) (lv' := [(5, .int x41), (8, .int 0), (7, .int x5), (6, .int x4), (0, .ref (b + 81)), (1, .int k), (2, .int u), (4, .int y4)]) hx hb dX12_bridgeOf_374 hl (k := 7) rfl (by rw [ex41]; rfl) (by decide) rfl (fun ls hl => ?_)
                  have tx41 : x41.toInt = y5.toInt + 1 := m_addI ex41 (rfl : y5.toInt = _) (by decide : (1 : Int32).toInt = 1) (by omega) (by omega)
                  refine lv_goto (tgt := 244) hx hb dX12_bridgeOf_377 (by decide) ?_
                  exact ih y4 x41 (by omega) (by omega) μ hI _ _ hW ls (lv_sub hl [4, 5, 6, 7, 0] rfl)
                · have i40 := m_c5 (rfl : x5.toInt = _) (rfl : x39.toInt = _) c40
                  refine lv_iconst (v := 1) hx hb dX12_bridgeOf_341 (by decide) ?_
                  refine lv_goto (tgt := 346) hx hb dX12_bridgeOf_342 (by decide) ?_
                  refine lv_istore (lv' := [(8, .int 1), (7, .int x5), (6, .int x4), (0, .ref (b + 81)), (1, .int k), (2, .int u), (4, .int y4), (5, .int y5)]) hx hb dX12_bridgeOf_346 hl (by decide) rfl (fun ls hl => ?_)
                  refine lv_iload hx hb dX12_bridgeOf_348 (lv_at hl 0 rfl) ?_
                  refine lv_if_eq (tgt := 374) hx hb dX12_bridgeOf_350 (by decide) (fun c => False.elim (by revert c; decide)) (fun _ => ?_)
                  refine lv_aload_n hx hb dX12_bridgeOf_353 rfl (lv_at hl 3 rfl) ?_
                  refine m_getr hx hb hts hown hW (81) 14 (87) rfl rfl cw_12 rfl (by decide) k_X12_36 dX12_bridgeOf_354 ?_
                  refine lv_iload hx hb dX12_bridgeOf_357 (lv_at hl 7 rfl) ?_
                  refine m_iald hx hb hW (87) rfl (m_ixI (rfl : y5.toInt = _) (by omega) (by omega)) dX12_bridgeOf_359 ?_
                  refine lv_topi (fun x42 ex42 => ?_)
                  refine lv_iload hx hb dX12_bridgeOf_360 (lv_at hl 6 rfl) ?_
                  refine lv_icmp_ge (tgt := 374) hx hb dX12_bridgeOf_362 (by decide) (fun c43 => ?_) (fun c43 => ?_)
                  · have i43 := m_c3 (rfl : y4.toInt = _) (rfl : x42.toInt = _) c43
                    obtain ⟨x44, ex44⟩ : ∃ z : Int32, z = y5 + 1 := ⟨_, rfl⟩
                    refine lv_iinc (v := x44) (lv' := [(5, .int x44), (8, .int 1), (7, .int x5), (6, .int x4), (0, .ref (b + 81)), (1, .int k), (2, .int u), (4, .int y4)]) hx hb dX12_bridgeOf_374 hl (k := 7) rfl (by rw [ex44]; rfl) (by decide) rfl (fun ls hl => ?_)
                    have tx44 : x44.toInt = y5.toInt + 1 := m_addI ex44 (rfl : y5.toInt = _) (by decide : (1 : Int32).toInt = 1) (by omega) (by omega)
                    refine lv_goto (tgt := 244) hx hb dX12_bridgeOf_377 (by decide) ?_
                    exact ih y4 x44 (by omega) (by omega) μ hI _ _ hW ls (lv_sub hl [4, 5, 6, 7, 0] rfl)
                  · have i43 := m_c4 (rfl : y4.toInt = _) (rfl : x42.toInt = _) c43
                    refine lv_aload_n hx hb dX12_bridgeOf_365 rfl (lv_at hl 3 rfl) ?_
                    refine m_getr hx hb hts hown hW (81) 14 (87) rfl rfl cw_12 rfl (by decide) k_X12_36 dX12_bridgeOf_366 ?_
                    refine lv_iload hx hb dX12_bridgeOf_369 (lv_at hl 7 rfl) ?_
                    refine m_iald hx hb hW (87) rfl (m_ixI (rfl : y5.toInt = _) (by omega) (by omega)) dX12_bridgeOf_371 ?_
                    refine lv_topi (fun x45 ex45 => ?_)
                    have ex45 : x45 = x42 := by rw [ex45]; exact ex42.symm
                    have ex45 := ex45.symm
                    subst ex45
                    refine lv_istore (lv' := [(4, .int x42), (8, .int 1), (7, .int x5), (6, .int x4), (0, .ref (b + 81)), (1, .int k), (2, .int u), (5, .int y5)]) hx hb dX12_bridgeOf_372 hl (by decide) rfl (fun ls hl => ?_)
                    obtain ⟨x46, ex46⟩ : ∃ z : Int32, z = y5 + 1 := ⟨_, rfl⟩
                    refine lv_iinc (v := x46) (lv' := [(5, .int x46), (4, .int x42), (8, .int 1), (7, .int x5), (6, .int x4), (0, .ref (b + 81)), (1, .int k), (2, .int u)]) hx hb dX12_bridgeOf_374 hl (k := 7) rfl (by rw [ex46]; rfl) (by decide) rfl (fun ls hl => ?_)
                    have tx46 : x46.toInt = y5.toInt + 1 := m_addI ex46 (rfl : y5.toInt = _) (by decide : (1 : Int32).toInt = 1) (by omega) (by omega)
                    refine lv_goto (tgt := 244) hx hb dX12_bridgeOf_377 (by decide) ?_
                    exact ih x42 x46 (by omega) (by omega) μ hI _ _ hW ls (lv_sub hl [5, 6, 7, 1, 0] rfl)
      · have i7 := m_c2 (rfl : x4.toInt = _) (rfl : x6.toInt = _) c7
        refine lv_goto (tgt := 374) hx hb dX12_bridgeOf_279 (by decide) ?_
        obtain ⟨x47, ex47⟩ : ∃ z : Int32, z = y5 + 1 := ⟨_, rfl⟩
        refine lv_iinc (v := x47) (lv' := [(5, .int x47), (7, .int x5), (6, .int x4), (0, .ref (b + 81)), (1, .int k), (2, .int u), (4, .int y4)]) hx hb dX12_bridgeOf_374 hl (k := 6) rfl (by rw [ex47]; rfl) (by decide) rfl (fun ls hl => ?_)
        have tx47 : x47.toInt = y5.toInt + 1 := m_addI ex47 (rfl : y5.toInt = _) (by decide : (1 : Int32).toInt = 1) (by omega) (by omega)
        refine lv_goto (tgt := 244) hx hb dX12_bridgeOf_377 (by decide) ?_
        exact ih y4 x47 (by omega) (by omega) μ hI _ _ hW ls (lv_sub hl [3, 4, 5, 6, 0] rfl)
set_option maxHeartbeats 4000000 in
set_option maxRecDepth 100000 in
theorem L_X12_bridgeOf_95 {p : Program} {l : Launch} {e : Env} {s : State} {m : MethodId} {args : Array Value} {below : List Frame} {meth : Method} {c : Code} {D : va_G} {cy : Nat → ClassId} {b : Nat} (hx : p.tables.exec = Jvm.exec) (hb : c.code = cX12_bridgeOf) (hr : meth.sig.returnType = ((some .int))) (hml : c.maxLocals = 9) (hown : s.vm.findClass RX12 = some m.cls) (hts : ∀ w ∈ TB, w.before args s = true) (hlocks : meth.locks = false) (S : Nat → Bool) (μ0 : mM) (hS22 : S 22 = true) (k u : Int32) (h_k : 0 ≤ k.toInt ∧ k.toInt ≤ 15) (h_u : 0 ≤ u.toInt ∧ u.toInt ≤ 11) (F71 : Nat) (O71 : ∀ (y3 : Int32) (gs : Int) (hy : 0 ≤ y3.toInt ∧ y3.toInt ≤ 1 ∧ 0 ≤ gs) (hf : gs + y3.toInt < (F71 : Int)) (μ : mM) (hI : IY S μ0 μ) (hs : m_sn (μ.1 87) 192 = gs) (hr_ : m_rg 192 (μ.1 87)) (H : Heap) (locs : List Loc), m_WA (m_A b LAY) D cy s b LAY μ H locs → ∀ ls : Array Slot, lv_has ls 9 [(0, .ref (b + 81)), (1, .int k), (2, .int u), (3, .int y3)] → W p l e (m_R 2 0 0) s m args below meth c H locs 0 0 (MQ below (m_Qi D cy b LAY (fun r ν => IY S μ0 ν ∧ (True))) args s 0 0 (m_A b LAY)) (F0 m 71 ls [])) (F80 : Nat) (O80 : ∀ (y3 y4 : Int32) (gs : Int) (hy : gs + y3.toInt < (F71 : Int) + 1 ∧ 0 ≤ y3.toInt ∧ y3.toInt ≤ 1 ∧ 0 ≤ y4.toInt ∧ y4.toInt ≤ 192 ∧ 0 ≤ y3.toInt ∧ y3.toInt ≤ 1 ∧ gs + y3.toInt < F71) (hf : 192 - y4.toInt < (F80 : Int)) (μ : mM) (hI : IY S μ0 μ) (hs : m_sn (μ.1 87) 192 = gs) (hr_ : m_rg 192 (μ.1 87)) (H : Heap) (locs : List Loc), m_WA (m_A b LAY) D cy s b LAY μ H locs → ∀ ls : Array Slot, lv_has ls 9 [(0, .ref (b + 81)), (1, .int k), (2, .int u), (3, .int y3), (4, .int y4)] → W p l e (m_R 2 0 0) s m args below meth c H locs 0 0 (MQ below (m_Qi D cy b LAY (fun r ν => IY S μ0 ν ∧ (True))) args s 0 0 (m_A b LAY)) (F0 m 80 ls [])) : ∀ (f : Nat), ∀ (y3 y4 y5 : Int32) (gs : Int) (hy : gs + y3.toInt < (F71 : Int) + 1 ∧ 192 - y4.toInt < (F80 : Int) + 1 ∧ 0 ≤ y3.toInt ∧ y3.toInt ≤ 1 ∧ 0 ≤ y4.toInt ∧ y4.toInt ≤ 191 ∧ 0 ≤ y5.toInt ∧ y5.toInt ≤ 4 ∧ 0 ≤ y3.toInt ∧ y3.toInt ≤ 1 ∧ 0 ≤ y3.toInt ∧ y3.toInt ≤ 1 ∧ 0 ≤ y4.toInt ∧ y4.toInt ≤ 192 ∧ gs + y3.toInt < F71) (hf : 4 - y5.toInt < (f : Int)) (μ : mM) (hI : IY S μ0 μ) (hs : m_sn (μ.1 87) 192 = gs) (hr_ : m_rg 192 (μ.1 87)) (H : Heap) (locs : List Loc), m_WA (m_A b LAY) D cy s b LAY μ H locs → ∀ ls : Array Slot, lv_has ls 9 [(0, .ref (b + 81)), (1, .int k), (2, .int u), (3, .int y3), (4, .int y4), (5, .int y5)] → W p l e (m_R 2 0 0) s m args below meth c H locs 0 0 (MQ below (m_Qi D cy b LAY (fun r ν => IY S μ0 ν ∧ (True))) args s 0 0 (m_A b LAY)) (F0 m 95 ls []) := by
  intro f
  induction f with
  | zero => intro y3 y4 y5 gs hy hf; exfalso; omega
  | succ f ih =>
    intro y3 y4 y5 gs hy hf μ hI hs hr_ H locs hW ls hl
    have hsr := m_sn_rg 192 hr_
    rw [hs] at hsr
    refine lv_iload hx hb dX12_bridgeOf_95 (lv_at hl 5 rfl) ?_
    refine lv_iconst (v := 4) hx hb dX12_bridgeOf_97 (by decide) ?_
    refine lv_icmp_ge (tgt := 227) hx hb dX12_bridgeOf_98 (by decide) (fun c1 => ?_) (fun c1 => ?_)
    · have i1 := m_c3 (by decide : (4 : Int32).toInt = 4) (rfl : y5.toInt = _) c1
      obtain ⟨x2, ex2⟩ : ∃ z : Int32, z = y4 + 1 := ⟨_, rfl⟩
      refine lv_iinc (v := x2) (lv' := [(4, .int x2), (0, .ref (b + 81)), (1, .int k), (2, .int u), (3, .int y3), (5, .int y5)]) hx hb dX12_bridgeOf_227 hl (k := 4) rfl (by rw [ex2]; rfl) (by decide) rfl (fun ls hl => ?_)
      have tx2 : x2.toInt = y4.toInt + 1 := m_addI ex2 (rfl : y4.toInt = _) (by decide : (1 : Int32).toInt = 1) (by omega) (by omega)
      refine lv_goto (tgt := 80) hx hb dX12_bridgeOf_230 (by decide) ?_
      exact O80 y3 x2 gs (by omega) (by omega) μ hI (hs) (hr_) _ _ hW ls (lv_sub hl [1, 2, 3, 4, 0] rfl)
    · have i1 := m_c4 (by decide : (4 : Int32).toInt = 4) (rfl : y5.toInt = _) c1
      refine lv_aload_n hx hb dX12_bridgeOf_101 rfl (lv_at hl 0 rfl) ?_
      refine m_getr hx hb hts hown hW (81) 14 (87) rfl rfl cw_12 rfl (by decide) k_X12_36 dX12_bridgeOf_102 ?_
      refine lv_iload hx hb dX12_bridgeOf_105 (lv_at hl 4 rfl) ?_
      refine m_iald hx hb hW (87) rfl (m_ixI (rfl : y4.toInt = _) (by omega) (by omega)) dX12_bridgeOf_107 ?_
      refine lv_topi (fun x3 ex3 => ?_)
      have bx3 : 0 ≤ x3.toInt ∧ x3.toInt ≤ 192 := by rw [ex3]; exact hr_ _ (m_ck (by omega))
      refine lv_sipush (v := 192) hx hb dX12_bridgeOf_108 (by decide) ?_
      refine lv_icmp_ge (tgt := 227) hx hb dX12_bridgeOf_111 (by decide) (fun c4 => ?_) (fun c4 => ?_)
      · have i4 := m_c3 (by decide : (192 : Int32).toInt = 192) (rfl : x3.toInt = _) c4
        obtain ⟨x5, ex5⟩ : ∃ z : Int32, z = y4 + 1 := ⟨_, rfl⟩
        refine lv_iinc (v := x5) (lv' := [(4, .int x5), (0, .ref (b + 81)), (1, .int k), (2, .int u), (3, .int y3), (5, .int y5)]) hx hb dX12_bridgeOf_227 hl (k := 4) rfl (by rw [ex5]; rfl) (by decide) rfl (fun ls hl => ?_)
        have tx5 : x5.toInt = y4.toInt + 1 := m_addI ex5 (rfl : y4.toInt = _) (by decide : (1 : Int32).toInt = 1) (by omega) (by omega)
        refine lv_goto (tgt := 80) hx hb dX12_bridgeOf_230 (by decide) ?_
        exact O80 y3 x5 gs (by omega) (by omega) μ hI (hs) (hr_) _ _ hW ls (lv_sub hl [1, 2, 3, 4, 0] rfl)
      · have i4 := m_c4 (by decide : (192 : Int32).toInt = 192) (rfl : x3.toInt = _) c4
        refine lv_iload hx hb dX12_bridgeOf_114 (lv_at hl 4 rfl) ?_
        refine lv_bipush (v := 16) hx hb dX12_bridgeOf_116 (by decide) ?_
        refine lv_irem hx hb dX12_bridgeOf_118 (by decide) ?_
        refine lv_topi (fun x6 ex6 => ?_)
        have tx6 : x6.toInt = y4.toInt % 16 := m_remI ex6 (rfl : y4.toInt = _) (by decide : (16 : Int32).toInt = 16) (by omega) (by decide)
        refine lv_aload_n hx hb dX12_bridgeOf_119 rfl (lv_at hl 0 rfl) ?_
        refine lv_iload hx hb dX12_bridgeOf_120 (lv_at hl 5 rfl) ?_
        refine m_aI hW (m_runV (As := [.int y5]) (rest := [.int x6]) hx hb hml hown hts hW (81) (g_X12_stepX l D cy b y5 μ hI.1) mi_X12_stepX k_X12_193 rfl rfl rfl hl.1 rfl (Nat.le_of_ble_eq_true rfl) dX12_bridgeOf_122 ⟨Nat.le_of_ble_eq_true rfl, Nat.le_of_ble_eq_true rfl⟩ ⟨Nat.le_of_ble_eq_true rfl, Nat.le_of_ble_eq_true rfl⟩) (fun x7 μ7 H locs q7 hW => ?_)
        obtain ⟨q7_m, q7⟩ := q7
        subst q7_m
        refine lv_iadd hx hb dX12_bridgeOf_125 ?_
        refine lv_topi (fun x8 ex8 => ?_)
        have tx8 : x8.toInt = x6.toInt + x7.toInt := m_addI ex8 (rfl : x6.toInt = _) (rfl : x7.toInt = _) (by omega) (by omega)
        refine lv_istore (lv' := [(6, .int x8), (0, .ref (b + 81)), (1, .int k), (2, .int u), (3, .int y3), (4, .int y4), (5, .int y5)]) hx hb dX12_bridgeOf_126 hl (by decide) rfl (fun ls hl => ?_)
        refine lv_iload hx hb dX12_bridgeOf_128 (lv_at hl 5 rfl) ?_
        refine lv_bipush (v := 16) hx hb dX12_bridgeOf_130 (by decide) ?_
        refine lv_idiv hx hb dX12_bridgeOf_132 (by decide) ?_
        refine lv_topi (fun x9 ex9 => ?_)
        have tx9 : x9.toInt = y4.toInt / 16 := m_divI ex9 (rfl : y4.toInt = _) (by decide : (16 : Int32).toInt = 16) (by omega) (by decide)
        refine lv_aload_n hx hb dX12_bridgeOf_133 rfl (lv_at hl 1 rfl) ?_
        refine lv_iload hx hb dX12_bridgeOf_134 (lv_at hl 6 rfl) ?_
        refine m_aI hW (m_runV (As := [.int y5]) (rest := [.int x9]) hx hb hml hown hts hW (81) (g_X12_stepY l D cy b y5 μ hI.1) mi_X12_stepY k_X12_197 rfl rfl rfl hl.1 rfl (Nat.le_of_ble_eq_true rfl) dX12_bridgeOf_136 ⟨Nat.le_of_ble_eq_true rfl, Nat.le_of_ble_eq_true rfl⟩ ⟨Nat.le_of_ble_eq_true rfl, Nat.le_of_ble_eq_true rfl⟩) (fun x10 μ10 H locs q10 hW => ?_)
        obtain ⟨q10_m, q10⟩ := q10
        subst q10_m
        refine lv_iadd hx hb dX12_bridgeOf_139 ?_
        refine lv_topi (fun x11 ex11 => ?_)
        have tx11 : x11.toInt = x9.toInt + x10.toInt := m_addI ex11 (rfl : x9.toInt = _) (rfl : x10.toInt = _) (by omega) (by omega)
        refine lv_istore (lv' := [(7, .int x11), (6, .int x8), (0, .ref (b + 81)), (1, .int k), (2, .int u), (3, .int y3), (4, .int y4), (5, .int y5)]) hx hb dX12_bridgeOf_140 hl (by decide) rfl (fun ls hl => ?_)
        refine lv_aload_n hx hb dX12_bridgeOf_142 rfl (lv_at hl 2 rfl) ?_
        refine lv_iload hx hb dX12_bridgeOf_143 (lv_at hl 1 rfl) ?_
        refine lv_iload hx hb dX12_bridgeOf_145 (lv_at hl 0 rfl) ?_
        refine m_aI hW (m_runV (As := [.int x8, .int x11]) (rest := []) hx hb hml hown hts hW (81) (g_X12_isOnPlate l D cy b x8 x11 μ hI.1) mi_X12_isOnPlate k_X12_189 rfl rfl rfl hl.1 rfl (Nat.le_of_ble_eq_true rfl) dX12_bridgeOf_147 ⟨Nat.le_of_ble_eq_true rfl, Nat.le_of_ble_eq_true rfl⟩ ⟨Nat.le_of_ble_eq_true rfl, Nat.le_of_ble_eq_true rfl⟩) (fun x12 μ12 H locs q12 hW => ?_)
        obtain ⟨q12_m, q12⟩ := q12
        subst q12_m
        rcases q12 with ⟨rfl, q12⟩ | ⟨rfl, q12⟩
        · refine lv_if_ne (tgt := 156) hx hb dX12_bridgeOf_150 (by decide) (fun _ => ?_) (fun c => False.elim (by revert c; decide))
          refine lv_aload_n hx hb dX12_bridgeOf_156 rfl (lv_at hl 2 rfl) ?_
          refine m_getr hx hb hts hown hW (81) 14 (87) rfl rfl cw_12 rfl (by decide) k_X12_36 dX12_bridgeOf_157 ?_
          refine lv_iload hx hb dX12_bridgeOf_160 (lv_at hl 6 rfl) ?_
          refine m_iald hx hb hW (87) rfl (m_ixI (rfl : y4.toInt = _) (by omega) (by omega)) dX12_bridgeOf_162 ?_
          refine lv_topi (fun x13 ex13 => ?_)
          have ex13 : x13 = x3 := by rw [ex13]; exact ex3.symm
          have ex13 := ex13.symm
          subst ex13
          refine lv_aload_n hx hb dX12_bridgeOf_163 rfl (lv_at hl 2 rfl) ?_
          refine lv_iconst (v := 0) hx hb dX12_bridgeOf_164 (by decide) ?_
          refine lv_iload hx hb dX12_bridgeOf_165 (lv_at hl 1 rfl) ?_
          refine lv_iload hx hb dX12_bridgeOf_167 (lv_at hl 0 rfl) ?_
          have l_0 : (0 : Int32).toInt = 0 := by decide
          refine m_aI hW (m_runV (As := [.int 0, .int x8, .int x11]) (rest := [.int x3]) hx hb hml hown hts hW (81) (g_X12_isThere l D cy b 0 x8 x11 (by omega) μ hI.1) mi_X12_isThere k_X12_200 rfl rfl rfl hl.1 rfl (Nat.le_of_ble_eq_true rfl) dX12_bridgeOf_169 ⟨Nat.le_of_ble_eq_true rfl, Nat.le_of_ble_eq_true rfl⟩ ⟨Nat.le_of_ble_eq_true rfl, Nat.le_of_ble_eq_true rfl⟩) (fun x14 μ14 H locs q14 hW => ?_)
          obtain ⟨q14_m, q14⟩ := q14
          subst q14_m
          rcases q14 with ⟨rfl, q14⟩ | ⟨rfl, q14⟩
          · refine lv_if_eq (tgt := 179) hx hb dX12_bridgeOf_172 (by decide) (fun c => False.elim (by revert c; decide)) (fun _ => ?_)
            refine lv_iconst (v := 0) hx hb dX12_bridgeOf_175 (by decide) ?_
            refine lv_goto (tgt := 180) hx hb dX12_bridgeOf_176 (by decide) ?_
            refine lv_iadd hx hb dX12_bridgeOf_180 ?_
            refine lv_topi (fun x15 ex15 => ?_)
            have tx15 : x15.toInt = x3.toInt + 0 := m_addI ex15 (rfl : x3.toInt = _) (by decide : (0 : Int32).toInt = 0) (by omega) (by omega)
            refine lv_istore (lv' := [(8, .int x15), (7, .int x11), (6, .int x8), (0, .ref (b + 81)), (1, .int k), (2, .int u), (3, .int y3), (4, .int y4), (5, .int y5)]) hx hb dX12_bridgeOf_181 hl (by decide) rfl (fun ls hl => ?_)
            refine lv_iload hx hb dX12_bridgeOf_183 (lv_at hl 0 rfl) ?_
            refine lv_aload_n hx hb dX12_bridgeOf_185 rfl (lv_at hl 3 rfl) ?_
            refine m_getr hx hb hts hown hW (81) 14 (87) rfl rfl cw_12 rfl (by decide) k_X12_36 dX12_bridgeOf_186 ?_
            refine lv_bipush (v := 16) hx hb dX12_bridgeOf_189 (by decide) ?_
            refine lv_iload hx hb dX12_bridgeOf_191 (lv_at hl 1 rfl) ?_
            refine lv_imul hx hb dX12_bridgeOf_193 ?_
            refine lv_topi (fun x16 ex16 => ?_)
            have tx16 : x16.toInt = 16 * x11.toInt := m_mulI ex16 (by decide : (16 : Int32).toInt = 16) (rfl : x11.toInt = _) (by omega) (by omega)
            refine lv_iload hx hb dX12_bridgeOf_194 (lv_at hl 2 rfl) ?_
            refine lv_iadd hx hb dX12_bridgeOf_196 ?_
            refine lv_topi (fun x17 ex17 => ?_)
            have tx17 : x17.toInt = x16.toInt + x8.toInt := m_addI ex17 (rfl : x16.toInt = _) (rfl : x8.toInt = _) (by omega) (by omega)
            refine m_iald hx hb hW (87) rfl (m_ixI (rfl : x17.toInt = _) (by omega) (by omega)) dX12_bridgeOf_197 ?_
            refine lv_topi (fun x18 ex18 => ?_)
            have bx18 : 0 ≤ x18.toInt ∧ x18.toInt ≤ 192 := by rw [ex18]; exact hr_ _ (m_ck (by omega))
            refine lv_icmp_lt (tgt := 204) hx hb dX12_bridgeOf_198 (by decide) (fun c19 => ?_) (fun c19 => ?_)
            · have i19 := m_c1 (rfl : x15.toInt = _) (rfl : x18.toInt = _) c19
              refine lv_aload_n hx hb dX12_bridgeOf_204 rfl (lv_at hl 3 rfl) ?_
              refine m_getr hx hb hts hown hW (81) 14 (87) rfl rfl cw_12 rfl (by decide) k_X12_36 dX12_bridgeOf_205 ?_
              refine lv_bipush (v := 16) hx hb dX12_bridgeOf_208 (by decide) ?_
              refine lv_iload hx hb dX12_bridgeOf_210 (lv_at hl 1 rfl) ?_
              refine lv_imul hx hb dX12_bridgeOf_212 ?_
              refine lv_topi (fun x20 ex20 => ?_)
              have ex20 : x20 = x16 := ex20.trans ex16.symm
              have ex20 := ex20.symm
              subst ex20
              refine lv_iload hx hb dX12_bridgeOf_213 (lv_at hl 2 rfl) ?_
              refine lv_iadd hx hb dX12_bridgeOf_215 ?_
              refine lv_topi (fun x21 ex21 => ?_)
              have ex21 : x21 = x17 := ex21.trans ex17.symm
              have ex21 := ex21.symm
              subst ex21
              refine lv_iload hx hb dX12_bridgeOf_216 (lv_at hl 0 rfl) ?_
              refine m_iast hx hb hW (87) rfl (m_ixI (rfl : x17.toInt = _) (by omega) (by omega)) dX12_bridgeOf_218 (fun H locs hW _ => ?_)
              generalize hμ22 : m_si μ (87) (x17 : Int32).toNatClampNeg x15 = μ22 at hW
              obtain ⟨s23, hs23⟩ : ∃ n, m_sn (μ22.1 87) 192 = n := ⟨_, rfl⟩
              have hcs23 : s23 = gs - x18.toInt + x15.toInt := by rw [← hs23, ← hs, ← hμ22, m_sn_set (m_ck (by omega)), show μ.1 87 (x17 : Int32).toNatClampNeg = x18 from ex18.symm]
              have hr_ : m_rg 192 (μ22.1 87) := by rw [← hμ22]; exact m_rg_set hr_ (by omega)
              have hI := hI.si0 hμ22 rfl hS22
              refine lv_iconst (v := 1) hx hb dX12_bridgeOf_219 (by decide) ?_
              refine lv_istore_n (lv' := [(3, .int 1), (8, .int x15), (7, .int x11), (6, .int x8), (0, .ref (b + 81)), (1, .int k), (2, .int u), (4, .int y4), (5, .int y5)]) hx hb dX12_bridgeOf_220 rfl hl (by decide) rfl (fun ls hl => ?_)
              obtain ⟨x25, ex25⟩ : ∃ z : Int32, z = y5 + 1 := ⟨_, rfl⟩
              refine lv_iinc (v := x25) (lv' := [(5, .int x25), (3, .int 1), (8, .int x15), (7, .int x11), (6, .int x8), (0, .ref (b + 81)), (1, .int k), (2, .int u), (4, .int y4)]) hx hb dX12_bridgeOf_221 hl (k := 8) rfl (by rw [ex25]; rfl) (by decide) rfl (fun ls hl => ?_)
              have tx25 : x25.toInt = y5.toInt + 1 := m_addI ex25 (rfl : y5.toInt = _) (by decide : (1 : Int32).toInt = 1) (by omega) (by omega)
              refine lv_goto (tgt := 95) hx hb dX12_bridgeOf_224 (by decide) ?_
              have l_1 : (1 : Int32).toInt = 1 := by decide
              exact ih 1 y4 x25 s23 (by omega) (by omega) μ22 hI (hs23) (hr_) _ _ hW ls (lv_sub hl [5, 6, 7, 1, 8, 0] rfl)
            · have i19 := m_c2 (rfl : x15.toInt = _) (rfl : x18.toInt = _) c19
              refine lv_goto (tgt := 221) hx hb dX12_bridgeOf_201 (by decide) ?_
              obtain ⟨x26, ex26⟩ : ∃ z : Int32, z = y5 + 1 := ⟨_, rfl⟩
              refine lv_iinc (v := x26) (lv' := [(5, .int x26), (8, .int x15), (7, .int x11), (6, .int x8), (0, .ref (b + 81)), (1, .int k), (2, .int u), (3, .int y3), (4, .int y4)]) hx hb dX12_bridgeOf_221 hl (k := 8) rfl (by rw [ex26]; rfl) (by decide) rfl (fun ls hl => ?_)
              have tx26 : x26.toInt = y5.toInt + 1 := m_addI ex26 (rfl : y5.toInt = _) (by decide : (1 : Int32).toInt = 1) (by omega) (by omega)
              refine lv_goto (tgt := 95) hx hb dX12_bridgeOf_224 (by decide) ?_
              exact ih y3 y4 x26 gs (by omega) (by omega) μ hI (hs) (hr_) _ _ hW ls (lv_sub hl [4, 5, 6, 7, 8, 0] rfl)
          · refine lv_if_eq (tgt := 179) hx hb dX12_bridgeOf_172 (by decide) (fun _ => ?_) (fun c => False.elim (by revert c; decide))
            refine lv_iconst (v := 1) hx hb dX12_bridgeOf_179 (by decide) ?_
            refine lv_iadd hx hb dX12_bridgeOf_180 ?_
            refine lv_topi (fun x27 ex27 => ?_)
            have tx27 : x27.toInt = x3.toInt + 1 := m_addI ex27 (rfl : x3.toInt = _) (by decide : (1 : Int32).toInt = 1) (by omega) (by omega)
            refine lv_istore (lv' := [(8, .int x27), (7, .int x11), (6, .int x8), (0, .ref (b + 81)), (1, .int k), (2, .int u), (3, .int y3), (4, .int y4), (5, .int y5)]) hx hb dX12_bridgeOf_181 hl (by decide) rfl (fun ls hl => ?_)
            refine lv_iload hx hb dX12_bridgeOf_183 (lv_at hl 0 rfl) ?_
            refine lv_aload_n hx hb dX12_bridgeOf_185 rfl (lv_at hl 3 rfl) ?_
            refine m_getr hx hb hts hown hW (81) 14 (87) rfl rfl cw_12 rfl (by decide) k_X12_36 dX12_bridgeOf_186 ?_
            refine lv_bipush (v := 16) hx hb dX12_bridgeOf_189 (by decide) ?_
            refine lv_iload hx hb dX12_bridgeOf_191 (lv_at hl 1 rfl) ?_
            refine lv_imul hx hb dX12_bridgeOf_193 ?_
            refine lv_topi (fun x28 ex28 => ?_)
            have tx28 : x28.toInt = 16 * x11.toInt := m_mulI ex28 (by decide : (16 : Int32).toInt = 16) (rfl : x11.toInt = _) (by omega) (by omega)
            refine lv_iload hx hb dX12_bridgeOf_194 (lv_at hl 2 rfl) ?_
            refine lv_iadd hx hb dX12_bridgeOf_196 ?_
            refine lv_topi (fun x29 ex29 => ?_)
            have tx29 : x29.toInt = x28.toInt + x8.toInt := m_addI ex29 (rfl : x28.toInt = _) (rfl : x8.toInt = _) (by omega) (by omega)
            refine m_iald hx hb hW (87) rfl (m_ixI (rfl : x29.toInt = _) (by omega) (by omega)) dX12_bridgeOf_197 ?_
            refine lv_topi (fun x30 ex30 => ?_)
            have bx30 : 0 ≤ x30.toInt ∧ x30.toInt ≤ 192 := by rw [ex30]; exact hr_ _ (m_ck (by omega))
            refine lv_icmp_lt (tgt := 204) hx hb dX12_bridgeOf_198 (by decide) (fun c31 => ?_) (fun c31 => ?_)
            · have i31 := m_c1 (rfl : x27.toInt = _) (rfl : x30.toInt = _) c31
              refine lv_aload_n hx hb dX12_bridgeOf_204 rfl (lv_at hl 3 rfl) ?_
              refine m_getr hx hb hts hown hW (81) 14 (87) rfl rfl cw_12 rfl (by decide) k_X12_36 dX12_bridgeOf_205 ?_
              refine lv_bipush (v := 16) hx hb dX12_bridgeOf_208 (by decide) ?_
              refine lv_iload hx hb dX12_bridgeOf_210 (lv_at hl 1 rfl) ?_
              refine lv_imul hx hb dX12_bridgeOf_212 ?_
              refine lv_topi (fun x32 ex32 => ?_)
              have ex32 : x32 = x28 := ex32.trans ex28.symm
              have ex32 := ex32.symm
              subst ex32
              refine lv_iload hx hb dX12_bridgeOf_213 (lv_at hl 2 rfl) ?_
              refine lv_iadd hx hb dX12_bridgeOf_215 ?_
              refine lv_topi (fun x33 ex33 => ?_)
              have ex33 : x33 = x29 := ex33.trans ex29.symm
              have ex33 := ex33.symm
              subst ex33
              refine lv_iload hx hb dX12_bridgeOf_216 (lv_at hl 0 rfl) ?_
              refine m_iast hx hb hW (87) rfl (m_ixI (rfl : x29.toInt = _) (by omega) (by omega)) dX12_bridgeOf_218 (fun H locs hW _ => ?_)
              generalize hμ34 : m_si μ (87) (x29 : Int32).toNatClampNeg x27 = μ34 at hW
              obtain ⟨s35, hs35⟩ : ∃ n, m_sn (μ34.1 87) 192 = n := ⟨_, rfl⟩
              have hcs35 : s35 = gs - x30.toInt + x27.toInt := by rw [← hs35, ← hs, ← hμ34, m_sn_set (m_ck (by omega)), show μ.1 87 (x29 : Int32).toNatClampNeg = x30 from ex30.symm]
              have hr_ : m_rg 192 (μ34.1 87) := by rw [← hμ34]; exact m_rg_set hr_ (by omega)
              have hI := hI.si0 hμ34 rfl hS22
              refine lv_iconst (v := 1) hx hb dX12_bridgeOf_219 (by decide) ?_
              refine lv_istore_n (lv' := [(3, .int 1), (8, .int x27), (7, .int x11), (6, .int x8), (0, .ref (b + 81)), (1, .int k), (2, .int u), (4, .int y4), (5, .int y5)]) hx hb dX12_bridgeOf_220 rfl hl (by decide) rfl (fun ls hl => ?_)
              obtain ⟨x37, ex37⟩ : ∃ z : Int32, z = y5 + 1 := ⟨_, rfl⟩
              refine lv_iinc (v := x37) (lv' := [(5, .int x37), (3, .int 1), (8, .int x27), (7, .int x11), (6, .int x8), (0, .ref (b + 81)), (1, .int k), (2, .int u), (4, .int y4)]) hx hb dX12_bridgeOf_221 hl (k := 8) rfl (by rw [ex37]; rfl) (by decide) rfl (fun ls hl => ?_)
              have tx37 : x37.toInt = y5.toInt + 1 := m_addI ex37 (rfl : y5.toInt = _) (by decide : (1 : Int32).toInt = 1) (by omega) (by omega)
              refine lv_goto (tgt := 95) hx hb dX12_bridgeOf_224 (by decide) ?_
              have l_1 : (1 : Int32).toInt = 1 := by decide
              exact ih 1 y4 x37 s35 (by omega) (by omega) μ34 hI (hs35) (hr_) _ _ hW ls (lv_sub hl [5, 6, 7, 1, 8, 0] rfl)
            · have i31 := m_c2 (rfl : x27.toInt = _) (rfl : x30.toInt = _) c31
              refine lv_goto (tgt := 221) hx hb dX12_bridgeOf_201 (by decide) ?_
              obtain ⟨x38, ex38⟩ : ∃ z : Int32, z = y5 + 1 := ⟨_, rfl⟩
              refine lv_iinc (v := x38) (lv' := [(5, .int x38), (8, .int x27), (7, .int x11), (6, .int x8), (0, .ref (b + 81)), (1, .int k), (2, .int u), (3, .int y3), (4, .int y4)]) hx hb dX12_bridgeOf_221 hl (k := 8) rfl (by rw [ex38]; rfl) (by decide) rfl (fun ls hl => ?_)
              have tx38 : x38.toInt = y5.toInt + 1 := m_addI ex38 (rfl : y5.toInt = _) (by decide : (1 : Int32).toInt = 1) (by omega) (by omega)
              refine lv_goto (tgt := 95) hx hb dX12_bridgeOf_224 (by decide) ?_
              exact ih y3 y4 x38 gs (by omega) (by omega) μ hI (hs) (hr_) _ _ hW ls (lv_sub hl [4, 5, 6, 7, 8, 0] rfl)
        · refine lv_if_ne (tgt := 156) hx hb dX12_bridgeOf_150 (by decide) (fun c => False.elim (by revert c; decide)) (fun _ => ?_)
          refine lv_goto (tgt := 221) hx hb dX12_bridgeOf_153 (by decide) ?_
          obtain ⟨x39, ex39⟩ : ∃ z : Int32, z = y5 + 1 := ⟨_, rfl⟩
          refine lv_iinc (v := x39) (lv' := [(5, .int x39), (7, .int x11), (6, .int x8), (0, .ref (b + 81)), (1, .int k), (2, .int u), (3, .int y3), (4, .int y4)]) hx hb dX12_bridgeOf_221 hl (k := 7) rfl (by rw [ex39]; rfl) (by decide) rfl (fun ls hl => ?_)
          have tx39 : x39.toInt = y5.toInt + 1 := m_addI ex39 (rfl : y5.toInt = _) (by decide : (1 : Int32).toInt = 1) (by omega) (by omega)
          refine lv_goto (tgt := 95) hx hb dX12_bridgeOf_224 (by decide) ?_
          exact ih y3 y4 x39 gs (by omega) (by omega) μ hI (hs) (hr_) _ _ hW ls (lv_sub hl [3, 4, 5, 6, 7, 0] rfl)
set_option maxHeartbeats 4000000 in
set_option maxRecDepth 100000 in
theorem L_X12_bridgeOf_80 {p : Program} {l : Launch} {e : Env} {s : State} {m : MethodId} {args : Array Value} {below : List Frame} {meth : Method} {c : Code} {D : va_G} {cy : Nat → ClassId} {b : Nat} (hx : p.tables.exec = Jvm.exec) (hb : c.code = cX12_bridgeOf) (hr : meth.sig.returnType = ((some .int))) (hml : c.maxLocals = 9) (hown : s.vm.findClass RX12 = some m.cls) (hts : ∀ w ∈ TB, w.before args s = true) (hlocks : meth.locks = false) (S : Nat → Bool) (μ0 : mM) (hS22 : S 22 = true) (k u : Int32) (h_k : 0 ≤ k.toInt ∧ k.toInt ≤ 15) (h_u : 0 ≤ u.toInt ∧ u.toInt ≤ 11) (F71 : Nat) (O71 : ∀ (y3 : Int32) (gs : Int) (hy : 0 ≤ y3.toInt ∧ y3.toInt ≤ 1 ∧ 0 ≤ gs) (hf : gs + y3.toInt < (F71 : Int)) (μ : mM) (hI : IY S μ0 μ) (hs : m_sn (μ.1 87) 192 = gs) (hr_ : m_rg 192 (μ.1 87)) (H : Heap) (locs : List Loc), m_WA (m_A b LAY) D cy s b LAY μ H locs → ∀ ls : Array Slot, lv_has ls 9 [(0, .ref (b + 81)), (1, .int k), (2, .int u), (3, .int y3)] → W p l e (m_R 2 0 0) s m args below meth c H locs 0 0 (MQ below (m_Qi D cy b LAY (fun r ν => IY S μ0 ν ∧ (True))) args s 0 0 (m_A b LAY)) (F0 m 71 ls [])) : ∀ (f : Nat), ∀ (y3 y4 : Int32) (gs : Int) (hy : gs + y3.toInt < (F71 : Int) + 1 ∧ 0 ≤ y3.toInt ∧ y3.toInt ≤ 1 ∧ 0 ≤ y4.toInt ∧ y4.toInt ≤ 192 ∧ 0 ≤ y3.toInt ∧ y3.toInt ≤ 1 ∧ gs + y3.toInt < F71) (hf : 192 - y4.toInt < (f : Int)) (μ : mM) (hI : IY S μ0 μ) (hs : m_sn (μ.1 87) 192 = gs) (hr_ : m_rg 192 (μ.1 87)) (H : Heap) (locs : List Loc), m_WA (m_A b LAY) D cy s b LAY μ H locs → ∀ ls : Array Slot, lv_has ls 9 [(0, .ref (b + 81)), (1, .int k), (2, .int u), (3, .int y3), (4, .int y4)] → W p l e (m_R 2 0 0) s m args below meth c H locs 0 0 (MQ below (m_Qi D cy b LAY (fun r ν => IY S μ0 ν ∧ (True))) args s 0 0 (m_A b LAY)) (F0 m 80 ls []) := by
  intro f
  induction f with
  | zero => intro y3 y4 gs hy hf; exfalso; omega
  | succ f ih =>
    intro y3 y4 gs hy hf μ hI hs hr_ H locs hW ls hl
    have hsr := m_sn_rg 192 hr_
    rw [hs] at hsr
    refine lv_iload hx hb dX12_bridgeOf_80 (lv_at hl 4 rfl) ?_
    refine lv_bipush (v := 16) hx hb dX12_bridgeOf_82 (by decide) ?_
    refine lv_aload_n hx hb dX12_bridgeOf_84 rfl (lv_at hl 0 rfl) ?_
    refine m_geti hx hb hts hown hW (81) 7 rfl rfl cw_12 rfl (by decide) k_X12_180 dX12_bridgeOf_85 ?_
    refine lv_topi (fun x1 ex1 => ?_)
    have bx1 : 0 ≤ x1.toInt ∧ x1.toInt ≤ 12 := by rw [ex1]; exact hI.1 _ _ _ _ rfl
    refine lv_imul hx hb dX12_bridgeOf_88 ?_
    refine lv_topi (fun x2 ex2 => ?_)
    have tx2 : x2.toInt = 16 * x1.toInt := m_mulI ex2 (by decide : (16 : Int32).toInt = 16) (rfl : x1.toInt = _) (by omega) (by omega)
    refine lv_icmp_ge (tgt := 233) hx hb dX12_bridgeOf_89 (by decide) (fun c3 => ?_) (fun c3 => ?_)
    · have i3 := m_c3 (rfl : x2.toInt = _) (rfl : y4.toInt = _) c3
      refine lv_goto (tgt := 71) hx hb dX12_bridgeOf_233 (by decide) ?_
      exact O71 y3 gs (by omega) (by omega) μ hI (hs) (hr_) _ _ hW ls (lv_sub hl [0, 1, 2, 3] rfl)
    · have i3 := m_c4 (rfl : x2.toInt = _) (rfl : y4.toInt = _) c3
      refine lv_iconst (v := 0) hx hb dX12_bridgeOf_92 (by decide) ?_
      refine lv_istore (lv' := [(5, .int 0), (0, .ref (b + 81)), (1, .int k), (2, .int u), (3, .int y3), (4, .int y4)]) hx hb dX12_bridgeOf_93 hl (by decide) rfl (fun ls hl => ?_)
      have l_0 : (0 : Int32).toInt = 0 := by decide
      exact L_X12_bridgeOf_95 hx hb hr hml hown hts hlocks S μ0 hS22 k u h_k h_u F71 O71 f ih 5 y3 y4 0 gs (by omega) (by omega) μ hI (hs) (hr_) _ _ hW ls (lv_sub hl [1, 2, 3, 4, 5, 0] rfl)
set_option maxHeartbeats 4000000 in
set_option maxRecDepth 100000 in
theorem L_X12_bridgeOf_71 {p : Program} {l : Launch} {e : Env} {s : State} {m : MethodId} {args : Array Value} {below : List Frame} {meth : Method} {c : Code} {D : va_G} {cy : Nat → ClassId} {b : Nat} (hx : p.tables.exec = Jvm.exec) (hb : c.code = cX12_bridgeOf) (hr : meth.sig.returnType = ((some .int))) (hml : c.maxLocals = 9) (hown : s.vm.findClass RX12 = some m.cls) (hts : ∀ w ∈ TB, w.before args s = true) (hlocks : meth.locks = false) (S : Nat → Bool) (μ0 : mM) (hS22 : S 22 = true) (k u : Int32) (h_k : 0 ≤ k.toInt ∧ k.toInt ≤ 15) (h_u : 0 ≤ u.toInt ∧ u.toInt ≤ 11) : ∀ (f : Nat), ∀ (y3 : Int32) (gs : Int) (hy : 0 ≤ y3.toInt ∧ y3.toInt ≤ 1 ∧ 0 ≤ gs) (hf : gs + y3.toInt < (f : Int)) (μ : mM) (hI : IY S μ0 μ) (hs : m_sn (μ.1 87) 192 = gs) (hr_ : m_rg 192 (μ.1 87)) (H : Heap) (locs : List Loc), m_WA (m_A b LAY) D cy s b LAY μ H locs → ∀ ls : Array Slot, lv_has ls 9 [(0, .ref (b + 81)), (1, .int k), (2, .int u), (3, .int y3)] → W p l e (m_R 2 0 0) s m args below meth c H locs 0 0 (MQ below (m_Qi D cy b LAY (fun r ν => IY S μ0 ν ∧ (True))) args s 0 0 (m_A b LAY)) (F0 m 71 ls []) := by
  intro f
  induction f with
  | zero => intro y3 gs hy hf; exfalso; omega
  | succ f ih =>
    intro y3 gs hy hf μ hI hs hr_ H locs hW ls hl
    have hsr := m_sn_rg 192 hr_
    rw [hs] at hsr
    refine lv_iload_n hx hb dX12_bridgeOf_71 rfl (lv_at hl 3 rfl) ?_
    refine lv_if_eq (tgt := 236) hx hb dX12_bridgeOf_72 (by decide) (fun c1 => ?_) (fun c1 => ?_)
    · have i1 := m_c5 (rfl : y3.toInt = _) (by decide : (0 : Int32).toInt = 0) c1
      refine lv_sipush (v := 192) hx hb dX12_bridgeOf_236 (by decide) ?_
      refine lv_istore (lv' := [(4, .int 192), (0, .ref (b + 81)), (1, .int k), (2, .int u), (3, .int y3)]) hx hb dX12_bridgeOf_239 hl (by decide) rfl (fun ls hl => ?_)
      refine lv_iconst (v := 0) hx hb dX12_bridgeOf_241 (by decide) ?_
      refine lv_istore (lv' := [(5, .int 0), (4, .int 192), (0, .ref (b + 81)), (1, .int k), (2, .int u), (3, .int y3)]) hx hb dX12_bridgeOf_242 hl (by decide) rfl (fun ls hl => ?_)
      have l_192 : (192 : Int32).toInt = 192 := by decide
      have l_0 : (0 : Int32).toInt = 0 := by decide
      exact L_X12_bridgeOf_244 hx hb hr hml hown hts hlocks S μ0 hS22 k u h_k h_u  193 192 0 (by omega) (by omega) μ hI _ _ hW ls (lv_sub hl [2, 3, 4, 1, 0] rfl)
    · have i1 := m_c6 (rfl : y3.toInt = _) (by decide : (0 : Int32).toInt = 0) c1
      refine lv_iconst (v := 0) hx hb dX12_bridgeOf_75 (by decide) ?_
      refine lv_istore_n (lv' := [(3, .int 0), (0, .ref (b + 81)), (1, .int k), (2, .int u)]) hx hb dX12_bridgeOf_76 rfl hl (by decide) rfl (fun ls hl => ?_)
      refine lv_iconst (v := 0) hx hb dX12_bridgeOf_77 (by decide) ?_
      refine lv_istore (lv' := [(4, .int 0), (3, .int 0), (0, .ref (b + 81)), (1, .int k), (2, .int u)]) hx hb dX12_bridgeOf_78 hl (by decide) rfl (fun ls hl => ?_)
      have l_0 : (0 : Int32).toInt = 0 := by decide
      exact L_X12_bridgeOf_80 hx hb hr hml hown hts hlocks S μ0 hS22 k u h_k h_u f ih 193 0 0 gs (by omega) (by omega) μ hI (hs) (hr_) _ _ hW ls (lv_sub hl [2, 3, 4, 1, 0] rfl)
set_option maxHeartbeats 4000000 in
set_option maxRecDepth 100000 in
theorem L_X12_bridgeOf_23 {p : Program} {l : Launch} {e : Env} {s : State} {m : MethodId} {args : Array Value} {below : List Frame} {meth : Method} {c : Code} {D : va_G} {cy : Nat → ClassId} {b : Nat} (hx : p.tables.exec = Jvm.exec) (hb : c.code = cX12_bridgeOf) (hr : meth.sig.returnType = ((some .int))) (hml : c.maxLocals = 9) (hown : s.vm.findClass RX12 = some m.cls) (hts : ∀ w ∈ TB, w.before args s = true) (hlocks : meth.locks = false) (S : Nat → Bool) (μ0 : mM) (hS22 : S 22 = true) (k u : Int32) (h_k : 0 ≤ k.toInt ∧ k.toInt ≤ 15) (h_u : 0 ≤ u.toInt ∧ u.toInt ≤ 11) : ∀ (f : Nat), ∀ (y3 : Int32) (hy : 0 ≤ y3.toInt ∧ y3.toInt ≤ 192) (hf : 192 - y3.toInt < (f : Int)) (μ : mM) (hI : IY S μ0 μ) (hr_ : m_rg y3.toNatClampNeg (μ.1 87)) (H : Heap) (locs : List Loc), m_WA (m_A b LAY) D cy s b LAY μ H locs → ∀ ls : Array Slot, lv_has ls 9 [(0, .ref (b + 81)), (1, .int k), (2, .int u), (3, .int y3)] → W p l e (m_R 2 0 0) s m args below meth c H locs 0 0 (MQ below (m_Qi D cy b LAY (fun r ν => IY S μ0 ν ∧ (True))) args s 0 0 (m_A b LAY)) (F0 m 23 ls []) := by
  intro f
  induction f with
  | zero => intro y3 hy hf; exfalso; omega
  | succ f ih =>
    intro y3 hy hf μ hI hr_ H locs hW ls hl
    refine lv_iload_n hx hb dX12_bridgeOf_23 rfl (lv_at hl 3 rfl) ?_
    refine lv_sipush (v := 192) hx hb dX12_bridgeOf_24 (by decide) ?_
    refine lv_icmp_ge (tgt := 69) hx hb dX12_bridgeOf_27 (by decide) (fun c1 => ?_) (fun c1 => ?_)
    · have i1 := m_c3 (by decide : (192 : Int32).toInt = 192) (rfl : y3.toInt = _) c1
      refine lv_iconst (v := 1) hx hb dX12_bridgeOf_69 (by decide) ?_
      refine lv_istore_n (lv' := [(3, .int 1), (0, .ref (b + 81)), (1, .int k), (2, .int u)]) hx hb dX12_bridgeOf_70 rfl hl (by decide) rfl (fun ls hl => ?_)
      have l_1 : (1 : Int32).toInt = 1 := by decide
      have hr_ : m_rg 192 (μ.1 87) := fun c hc => hr_ c (by have := m_ckI (x := y3) (by omega); omega)
      obtain ⟨gs, hs⟩ : ∃ n, m_sn (μ.1 87) 192 = n := ⟨_, rfl⟩
      have hsr := m_sn_rg 192 hr_
      rw [hs] at hsr
      exact L_X12_bridgeOf_71 hx hb hr hml hown hts hlocks S μ0 hS22 k u h_k h_u  36867 1 gs (by omega) (by omega) μ hI (hs) (hr_) _ _ hW ls (lv_sub hl [1, 2, 3, 0] rfl)
    · have i1 := m_c4 (by decide : (192 : Int32).toInt = 192) (rfl : y3.toInt = _) c1
      refine lv_aload_n hx hb dX12_bridgeOf_30 rfl (lv_at hl 0 rfl) ?_
      refine m_getr hx hb hts hown hW (81) 14 (87) rfl rfl cw_12 rfl (by decide) k_X12_36 dX12_bridgeOf_31 ?_
      refine lv_iload_n hx hb dX12_bridgeOf_34 rfl (lv_at hl 3 rfl) ?_
      refine lv_aload_n hx hb dX12_bridgeOf_35 rfl (lv_at hl 0 rfl) ?_
      refine m_getr hx hb hts hown hW (81) 28 (101) rfl rfl cw_12 rfl (by decide) k_X12_80 dX12_bridgeOf_36 ?_
      refine lv_iload_n hx hb dX12_bridgeOf_39 rfl (lv_at hl 3 rfl) ?_
      refine m_iald hx hb hW (101) rfl (m_ixI (rfl : y3.toInt = _) (by omega) (by omega)) dX12_bridgeOf_40 ?_
      refine lv_topi (fun x2 ex2 => ?_)
      have bx2 : 0 ≤ x2.toInt ∧ x2.toInt ≤ 192 := by rw [ex2]; exact hI.1 _ _ _ _ rfl
      refine lv_aload_n hx hb dX12_bridgeOf_41 rfl (lv_at hl 0 rfl) ?_
      refine m_getr hx hb hts hown hW (81) 28 (101) rfl rfl cw_12 rfl (by decide) k_X12_80 dX12_bridgeOf_42 ?_
      refine lv_bipush (v := 16) hx hb dX12_bridgeOf_45 (by decide) ?_
      refine lv_iload_n hx hb dX12_bridgeOf_47 rfl (lv_at hl 2 rfl) ?_
      refine lv_imul hx hb dX12_bridgeOf_48 ?_
      refine lv_topi (fun x3 ex3 => ?_)
      have tx3 : x3.toInt = 16 * u.toInt := m_mulI ex3 (by decide : (16 : Int32).toInt = 16) (rfl : u.toInt = _) (by omega) (by omega)
      refine lv_iload_n hx hb dX12_bridgeOf_49 rfl (lv_at hl 1 rfl) ?_
      refine lv_iadd hx hb dX12_bridgeOf_50 ?_
      refine lv_topi (fun x4 ex4 => ?_)
      have tx4 : x4.toInt = x3.toInt + k.toInt := m_addI ex4 (rfl : x3.toInt = _) (rfl : k.toInt = _) (by omega) (by omega)
      refine m_iald hx hb hW (101) rfl (m_ixI (rfl : x4.toInt = _) (by omega) (by omega)) dX12_bridgeOf_51 ?_
      refine lv_topi (fun x5 ex5 => ?_)
      have bx5 : 0 ≤ x5.toInt ∧ x5.toInt ≤ 192 := by rw [ex5]; exact hI.1 _ _ _ _ rfl
      refine lv_icmp_ne (tgt := 59) hx hb dX12_bridgeOf_52 (by decide) (fun c6 => ?_) (fun c6 => ?_)
      · have i6 := m_c6 (rfl : x2.toInt = _) (rfl : x5.toInt = _) c6
        refine lv_sipush (v := 192) hx hb dX12_bridgeOf_59 (by decide) ?_
        refine m_iast hx hb hW (87) rfl (m_ixI (rfl : y3.toInt = _) (by omega) (by omega)) dX12_bridgeOf_62 (fun H locs hW _ => ?_)
        generalize hμ7 : m_si μ (87) (y3 : Int32).toNatClampNeg 192 = μ7 at hW
        have hI := hI.si0 hμ7 rfl hS22
        have hr_ : m_rg (y3.toNatClampNeg + 1) (μ7.1 87) := by rw [← hμ7]; exact m_rg_snoc hr_ (by decide)
        obtain ⟨x8, ex8⟩ : ∃ z : Int32, z = y3 + 1 := ⟨_, rfl⟩
        refine lv_iinc (v := x8) (lv' := [(3, .int x8), (0, .ref (b + 81)), (1, .int k), (2, .int u)]) hx hb dX12_bridgeOf_63 hl (k := 3) rfl (by rw [ex8]; rfl) (by decide) rfl (fun ls hl => ?_)
        have tx8 : x8.toInt = y3.toInt + 1 := m_addI ex8 (rfl : y3.toInt = _) (by decide : (1 : Int32).toInt = 1) (by omega) (by omega)
        refine lv_goto (tgt := 23) hx hb dX12_bridgeOf_66 (by decide) ?_
        exact ih x8 (by omega) (by omega) μ7 hI (by rw [show x8.toNatClampNeg = y3.toNatClampNeg + 1 from by have := m_ckI (x := x8) (by omega); have := m_ckI (x := y3) (by omega); omega]; exact hr_) _ _ hW ls (lv_sub hl [1, 2, 3, 0] rfl)
      · have i6 := m_c5 (rfl : x2.toInt = _) (rfl : x5.toInt = _) c6
        refine lv_iconst (v := 0) hx hb dX12_bridgeOf_55 (by decide) ?_
        refine lv_goto (tgt := 62) hx hb dX12_bridgeOf_56 (by decide) ?_
        refine m_iast hx hb hW (87) rfl (m_ixI (rfl : y3.toInt = _) (by omega) (by omega)) dX12_bridgeOf_62 (fun H locs hW _ => ?_)
        generalize hμ9 : m_si μ (87) (y3 : Int32).toNatClampNeg 0 = μ9 at hW
        have hI := hI.si0 hμ9 rfl hS22
        have hr_ : m_rg (y3.toNatClampNeg + 1) (μ9.1 87) := by rw [← hμ9]; exact m_rg_snoc hr_ (by decide)
        obtain ⟨x10, ex10⟩ : ∃ z : Int32, z = y3 + 1 := ⟨_, rfl⟩
        refine lv_iinc (v := x10) (lv' := [(3, .int x10), (0, .ref (b + 81)), (1, .int k), (2, .int u)]) hx hb dX12_bridgeOf_63 hl (k := 3) rfl (by rw [ex10]; rfl) (by decide) rfl (fun ls hl => ?_)
        have tx10 : x10.toInt = y3.toInt + 1 := m_addI ex10 (rfl : y3.toInt = _) (by decide : (1 : Int32).toInt = 1) (by omega) (by omega)
        refine lv_goto (tgt := 23) hx hb dX12_bridgeOf_66 (by decide) ?_
        exact ih x10 (by omega) (by omega) μ9 hI (by rw [show x10.toNatClampNeg = y3.toNatClampNeg + 1 from by have := m_ckI (x := x10) (by omega); have := m_ckI (x := y3) (by omega); omega]; exact hr_) _ _ hW ls (lv_sub hl [1, 2, 3, 0] rfl)
set_option maxHeartbeats 4000000 in
set_option maxRecDepth 100000 in
theorem g_X12_bridgeOf (l : Launch) (D : va_G) (cy : Nat → ClassId) (b : Nat) (S : Nat → Bool) (μ0 : mM) (hS22 : S 22 = true) (k u : Int32) (h_k : 0 ≤ k.toInt ∧ k.toInt ≤ 15) (h_u : 0 ≤ u.toInt ∧ u.toInt ≤ 11) (μ : mM) (hI : IY S μ0 μ) : m_Ci l yX12_bridgeOf cX12_bridgeOf 9 ((some .int)) 2 D cy b LAY μ [.ref (b + 81), .int k, .int u] (fun r ν => IY S μ0 ν ∧ (True)) := by
  unfold m_Ci
  refine m_of (by decide) (Nat.le_of_ble_eq_true rfl) ?_
  intro p e s m below meth c hx hb hr hml hown hts hlocks _ hW ls hl
  have hown : s.vm.findClass RX12 = some m.cls := hown
  have hl : lv_has ls 9 [(0, .ref (b + 81)), (1, .int k), (2, .int u)] := hl
  refine lv_aload_n hx hb dX12_bridgeOf_0 rfl (lv_at hl 0 rfl) ?_
  refine m_getr hx hb hts hown hW (81) 33 (105) rfl rfl cw_12 rfl (by decide) k_X12_92 dX12_bridgeOf_1 ?_
  refine lv_aload_n hx hb dX12_bridgeOf_4 rfl (lv_at hl 0 rfl) ?_
  refine m_getr hx hb hts hown hW (81) 28 (101) rfl rfl cw_12 rfl (by decide) k_X12_80 dX12_bridgeOf_5 ?_
  refine lv_bipush (v := 16) hx hb dX12_bridgeOf_8 (by decide) ?_
  refine lv_iload_n hx hb dX12_bridgeOf_10 rfl (lv_at hl 2 rfl) ?_
  refine lv_imul hx hb dX12_bridgeOf_11 ?_
  refine lv_topi (fun x1 ex1 => ?_)
  have tx1 : x1.toInt = 16 * u.toInt := m_mulI ex1 (by decide : (16 : Int32).toInt = 16) (rfl : u.toInt = _) (by omega) (by omega)
  refine lv_iload_n hx hb dX12_bridgeOf_12 rfl (lv_at hl 1 rfl) ?_
  refine lv_iadd hx hb dX12_bridgeOf_13 ?_
  refine lv_topi (fun x2 ex2 => ?_)
  have tx2 : x2.toInt = x1.toInt + k.toInt := m_addI ex2 (rfl : x1.toInt = _) (rfl : k.toInt = _) (by omega) (by omega)
  refine m_iald hx hb hW (101) rfl (m_ixI (rfl : x2.toInt = _) (by omega) (by omega)) dX12_bridgeOf_14 ?_
  refine lv_topi (fun x3 ex3 => ?_)
  have bx3 : 0 ≤ x3.toInt ∧ x3.toInt ≤ 192 := by rw [ex3]; exact hI.1 _ _ _ _ rfl
  refine m_zald hx hb hW (105) rfl (m_ixI (rfl : x3.toInt = _) (by omega) (by omega)) dX12_bridgeOf_15 ?_
  refine lv_topi (fun x4 ex4 => ?_)
  have bx4 : 0 ≤ x4.toInt ∧ x4.toInt ≤ 1 := by rw [ex4]; exact hI.1 _ _ _ _ rfl
  refine lv_if_eq (tgt := 21) hx hb dX12_bridgeOf_16 (by decide) (fun c5 => ?_) (fun c5 => ?_)
  · have i5 := m_c5 (rfl : x4.toInt = _) (by decide : (0 : Int32).toInt = 0) c5
    refine lv_iconst (v := 0) hx hb dX12_bridgeOf_21 (by decide) ?_
    refine lv_istore_n (lv' := [(3, .int 0), (0, .ref (b + 81)), (1, .int k), (2, .int u)]) hx hb dX12_bridgeOf_22 rfl hl (by decide) rfl (fun ls hl => ?_)
    have l_0 : (0 : Int32).toInt = 0 := by decide
    exact L_X12_bridgeOf_23 hx hb hr hml hown hts hlocks S μ0 hS22 k u h_k h_u  193 0 (by omega) (by omega) μ hI (fun c hc => absurd hc (by simp)) _ _ hW ls (lv_sub hl [1, 2, 3, 0] rfl)
  · have i5 := m_c6 (rfl : x4.toInt = _) (by decide : (0 : Int32).toInt = 0) c5
    refine lv_iconst (v := 0) hx hb dX12_bridgeOf_19 (by decide) ?_
    exact m_iret hx hb hr hlocks hW rfl (⟨hI, trivial⟩) dX12_bridgeOf_20
set_option maxHeartbeats 4000000 in
set_option maxRecDepth 100000 in
theorem g_X12_cell (l : Launch) (D : va_G) (cy : Nat → ClassId) (b : Nat) (S : Nat → Bool) (μ0 : mM) (hS20 : S 20 = true) (hS22 : S 22 = true) (hS32 : S 32 = true) (k u v : Int32) (μ : mM) (hI : IY S μ0 μ) : m_Ci l yX12_cell cX12_cell 6 ((some .int)) 4 D cy b LAY μ [.ref (b + 81), .int k, .int u, .int v] (fun r ν => IY S μ0 ν ∧ (True)) := by
  unfold m_Ci
  refine m_of (by decide) (Nat.le_of_ble_eq_true rfl) ?_
  intro p e s m below meth c hx hb hr hml hown hts hlocks _ hW ls hl
  have hown : s.vm.findClass RX12 = some m.cls := hown
  have hl : lv_has ls 6 [(0, .ref (b + 81)), (1, .int k), (2, .int u), (3, .int v)] := hl
  refine lv_aload_n hx hb dX12_cell_0 rfl (lv_at hl 0 rfl) ?_
  refine lv_iconst (v := 0) hx hb dX12_cell_1 (by decide) ?_
  refine m_puti hx hb hts hown hW (81) 0 rfl rfl cw_12 tyX12_ok nmX12 rfl (by decide) k_X12_167 rfl rfl rfl dX12_cell_2 (fun H locs hW _ => ?_)
  generalize hμ1 : m_si μ (81) 0 0 = μ1 at hW
  have hI := hI.si0 hμ1 rfl hS20
  refine lv_aload_n hx hb dX12_cell_5 rfl (lv_at hl 0 rfl) ?_
  refine m_geti hx hb hts hown hW (81) 5 rfl rfl cw_12 rfl (by decide) k_X12_174 dX12_cell_6 ?_
  refine lv_topi (fun x2 ex2 => ?_)
  have bx2 : 0 ≤ x2.toInt ∧ x2.toInt ≤ 1 := by rw [ex2]; exact hI.1 _ _ _ _ rfl
  refine lv_if_eq (tgt := 31) hx hb dX12_cell_9 (by decide) (fun c3 => ?_) (fun c3 => ?_)
  · have i3 := m_c5 (rfl : x2.toInt = _) (by decide : (0 : Int32).toInt = 0) c3
    refine lv_iconst (v := (-1)) hx hb dX12_cell_31 (by decide) ?_
    exact m_iret hx hb hr hlocks hW rfl (⟨hI, trivial⟩) dX12_cell_32
  · have i3 := m_c6 (rfl : x2.toInt = _) (by decide : (0 : Int32).toInt = 0) c3
    refine lv_aload_n hx hb dX12_cell_12 rfl (lv_at hl 0 rfl) ?_
    refine lv_iload_n hx hb dX12_cell_13 rfl (lv_at hl 1 rfl) ?_
    refine lv_iload_n hx hb dX12_cell_14 rfl (lv_at hl 2 rfl) ?_
    refine m_aI hW (m_runV (As := [.int k, .int u]) (rest := []) hx hb hml hown hts hW (81) (g_X12_isOnPlate l D cy b k u μ1 hI.1) mi_X12_isOnPlate k_X12_189 rfl rfl rfl hl.1 rfl (Nat.le_of_ble_eq_true rfl) dX12_cell_15 ⟨Nat.le_of_ble_eq_true rfl, Nat.le_of_ble_eq_true rfl⟩ ⟨Nat.le_of_ble_eq_true rfl, Nat.le_of_ble_eq_true rfl⟩) (fun x4 μ4 H locs q4 hW => ?_)
    obtain ⟨q4_m, q4⟩ := q4
    subst q4_m
    rcases q4 with ⟨rfl, q4⟩ | ⟨rfl, q4⟩
    · refine lv_if_eq (tgt := 31) hx hb dX12_cell_18 (by decide) (fun c => False.elim (by revert c; decide)) (fun _ => ?_)
      refine lv_aload_n hx hb dX12_cell_21 rfl (lv_at hl 0 rfl) ?_
      refine lv_iload_n hx hb dX12_cell_22 rfl (lv_at hl 3 rfl) ?_
      refine lv_iconst (v := 0) hx hb dX12_cell_23 (by decide) ?_
      refine lv_iconst (v := 5) hx hb dX12_cell_24 (by decide) ?_
      have l_0 : (0 : Int32).toInt = 0 := by decide
      have l_5 : (5 : Int32).toInt = 5 := by decide
      refine m_aI hW (m_runV (As := [.int v, .int 0, .int 5]) (rest := []) hx hb hml hown hts hW (81) (g_X12_isIn l D cy b v 0 5 μ1 hI.1) mi_X12_isIn k_X12_170 rfl rfl rfl hl.1 rfl (Nat.le_of_ble_eq_true rfl) dX12_cell_25 ⟨Nat.le_of_ble_eq_true rfl, Nat.le_of_ble_eq_true rfl⟩ ⟨Nat.le_of_ble_eq_true rfl, Nat.le_of_ble_eq_true rfl⟩) (fun x5 μ5 H locs q5 hW => ?_)
      obtain ⟨q5_m, q5⟩ := q5
      subst q5_m
      rcases q5 with ⟨rfl, q5⟩ | ⟨rfl, q5⟩
      · refine lv_if_ne (tgt := 33) hx hb dX12_cell_28 (by decide) (fun _ => ?_) (fun c => False.elim (by revert c; decide))
        refine lv_bipush (v := 16) hx hb dX12_cell_33 (by decide) ?_
        refine lv_iload_n hx hb dX12_cell_35 rfl (lv_at hl 2 rfl) ?_
        refine lv_imul hx hb dX12_cell_36 ?_
        refine lv_topi (fun x6 ex6 => ?_)
        have tx6 : x6.toInt = 16 * u.toInt := m_mulI ex6 (by decide : (16 : Int32).toInt = 16) (rfl : u.toInt = _) (by omega) (by omega)
        refine lv_iload_n hx hb dX12_cell_37 rfl (lv_at hl 1 rfl) ?_
        refine lv_iadd hx hb dX12_cell_38 ?_
        refine lv_topi (fun x7 ex7 => ?_)
        have tx7 : x7.toInt = x6.toInt + k.toInt := m_addI ex7 (rfl : x6.toInt = _) (rfl : k.toInt = _) (by omega) (by omega)
        refine lv_istore (lv' := [(4, .int x7), (0, .ref (b + 81)), (1, .int k), (2, .int u), (3, .int v)]) hx hb dX12_cell_39 hl (by decide) rfl (fun ls hl => ?_)
        refine lv_aload_n hx hb dX12_cell_41 rfl (lv_at hl 1 rfl) ?_
        refine m_getr hx hb hts hown hW (81) 15 (88) rfl rfl cw_12 rfl (by decide) k_X12_39 dX12_cell_42 ?_
        refine lv_iload hx hb dX12_cell_45 (lv_at hl 0 rfl) ?_
        refine m_iald hx hb hW (88) rfl (m_ixI (rfl : x7.toInt = _) (by omega) (by omega)) dX12_cell_47 ?_
        refine lv_topi (fun x8 ex8 => ?_)
        refine lv_if_ne (tgt := 55) hx hb dX12_cell_48 (by decide) (fun c9 => ?_) (fun c9 => ?_)
        · have i9 := m_c6 (rfl : x8.toInt = _) (by decide : (0 : Int32).toInt = 0) c9
          refine lv_iconst (v := 0) hx hb dX12_cell_55 (by decide) ?_
          refine lv_istore (lv' := [(5, .int 0), (4, .int x7), (0, .ref (b + 81)), (1, .int k), (2, .int u), (3, .int v)]) hx hb dX12_cell_56 hl (by decide) rfl (fun ls hl => ?_)
          refine lv_iload_n hx hb dX12_cell_58 rfl (lv_at hl 5 rfl) ?_
          refine lv_if_ne (tgt := 79) hx hb dX12_cell_59 (by decide) (fun c10 => ?_) (fun c10 => ?_)
          · have i10 := m_c6 (rfl : v.toInt = _) (by decide : (0 : Int32).toInt = 0) c10
            refine lv_iload_n hx hb dX12_cell_79 rfl (lv_at hl 5 rfl) ?_
            refine lv_iconst (v := 1) hx hb dX12_cell_80 (by decide) ?_
            refine lv_icmp_ne (tgt := 115) hx hb dX12_cell_81 (by decide) (fun c11 => ?_) (fun c11 => ?_)
            · have i11 := m_c6 (rfl : v.toInt = _) (by decide : (1 : Int32).toInt = 1) c11
              refine lv_iload_n hx hb dX12_cell_115 rfl (lv_at hl 5 rfl) ?_
              refine lv_iconst (v := 2) hx hb dX12_cell_116 (by decide) ?_
              refine lv_icmp_ne (tgt := 136) hx hb dX12_cell_117 (by decide) (fun c12 => ?_) (fun c12 => ?_)
              · have i12 := m_c6 (rfl : v.toInt = _) (by decide : (2 : Int32).toInt = 2) c12
                refine lv_aload_n hx hb dX12_cell_136 rfl (lv_at hl 2 rfl) ?_
                refine lv_iconst (v := 0) hx hb dX12_cell_137 (by decide) ?_
                refine m_aV hW (m_runV (As := [.int 0]) (rest := []) hx hb hml hown hts hW (81) (g_X12_findsParts l D cy b S μ0 hS22 hS32 0 (by omega) μ1 hI) mi_X12_findsParts k_X12_233 rfl rfl rfl hl.1 rfl (Nat.le_of_ble_eq_true rfl) dX12_cell_138 ⟨Nat.le_of_ble_eq_true rfl, Nat.le_of_ble_eq_true rfl⟩ ⟨Nat.le_of_ble_eq_true rfl, Nat.le_of_ble_eq_true rfl⟩) (fun μ13 H locs q13 hW => ?_)
                obtain ⟨hI, q13⟩ := q13
                refine lv_iload_n hx hb dX12_cell_141 rfl (lv_at hl 5 rfl) ?_
                refine lv_iconst (v := 3) hx hb dX12_cell_142 (by decide) ?_
                refine lv_icmp_ne (tgt := 168) hx hb dX12_cell_143 (by decide) (fun c14 => ?_) (fun c14 => ?_)
                · have i14 := m_c6 (rfl : v.toInt = _) (by decide : (3 : Int32).toInt = 3) c14
                  refine lv_iload_n hx hb dX12_cell_168 rfl (lv_at hl 5 rfl) ?_
                  refine lv_iconst (v := 4) hx hb dX12_cell_169 (by decide) ?_
                  refine lv_icmp_ne (tgt := 199) hx hb dX12_cell_170 (by decide) (fun c15 => ?_) (fun c15 => ?_)
                  · have i15 := m_c6 (rfl : v.toInt = _) (by decide : (4 : Int32).toInt = 4) c15
                    refine lv_iload hx hb dX12_cell_199 (lv_at hl 0 rfl) ?_
                    refine lv_if_eq (tgt := 213) hx hb dX12_cell_201 (by decide) (fun _ => ?_) (fun c => False.elim (by revert c; decide))
                    refine lv_iconst (v := (-1)) hx hb dX12_cell_213 (by decide) ?_
                    exact m_iret hx hb hr hlocks hW rfl (⟨hI, trivial⟩) dX12_cell_214
                  · have i15 := m_c5 (rfl : v.toInt = _) (by decide : (4 : Int32).toInt = 4) c15
                    refine lv_iload hx hb dX12_cell_173 (lv_at hl 0 rfl) ?_
                    refine lv_if_eq (tgt := 197) hx hb dX12_cell_175 (by decide) (fun _ => ?_) (fun c => False.elim (by revert c; decide))
                    refine lv_iconst (v := 0) hx hb dX12_cell_197 (by decide) ?_
                    exact m_iret hx hb hr hlocks hW rfl (⟨hI, trivial⟩) dX12_cell_198
                · have i14 := m_c5 (rfl : v.toInt = _) (by decide : (3 : Int32).toInt = 3) c14
                  refine lv_iload hx hb dX12_cell_146 (lv_at hl 0 rfl) ?_
                  refine lv_if_eq (tgt := 166) hx hb dX12_cell_148 (by decide) (fun _ => ?_) (fun c => False.elim (by revert c; decide))
                  refine lv_iconst (v := 0) hx hb dX12_cell_166 (by decide) ?_
                  exact m_iret hx hb hr hlocks hW rfl (⟨hI, trivial⟩) dX12_cell_167
              · have i12 := m_c5 (rfl : v.toInt = _) (by decide : (2 : Int32).toInt = 2) c12
                refine lv_aload_n hx hb dX12_cell_120 rfl (lv_at hl 2 rfl) ?_
                refine m_getr hx hb hts hown hW (81) 16 (89) rfl rfl cw_12 rfl (by decide) k_X12_42 dX12_cell_121 ?_
                refine lv_iload hx hb dX12_cell_124 (lv_at hl 1 rfl) ?_
                refine m_zald hx hb hW (89) rfl (m_ixI (rfl : x7.toInt = _) (by omega) (by omega)) dX12_cell_126 ?_
                refine lv_topi (fun x16 ex16 => ?_)
                have bx16 : 0 ≤ x16.toInt ∧ x16.toInt ≤ 1 := by rw [ex16]; exact hI.1 _ _ _ _ rfl
                refine lv_if_eq (tgt := 134) hx hb dX12_cell_127 (by decide) (fun c17 => ?_) (fun c17 => ?_)
                · have i17 := m_c5 (rfl : x16.toInt = _) (by decide : (0 : Int32).toInt = 0) c17
                  refine lv_iconst (v := 0) hx hb dX12_cell_134 (by decide) ?_
                  exact m_iret hx hb hr hlocks hW rfl (⟨hI, trivial⟩) dX12_cell_135
                · have i17 := m_c6 (rfl : x16.toInt = _) (by decide : (0 : Int32).toInt = 0) c17
                  refine lv_iconst (v := 1) hx hb dX12_cell_130 (by decide) ?_
                  refine lv_goto (tgt := 135) hx hb dX12_cell_131 (by decide) ?_
                  exact m_iret hx hb hr hlocks hW rfl (⟨hI, trivial⟩) dX12_cell_135
            · have i11 := m_c5 (rfl : v.toInt = _) (by decide : (1 : Int32).toInt = 1) c11
              refine lv_iload hx hb dX12_cell_84 (lv_at hl 0 rfl) ?_
              refine lv_if_ne (tgt := 99) hx hb dX12_cell_86 (by decide) (fun c => False.elim (by revert c; decide)) (fun _ => ?_)
              refine lv_aload_n hx hb dX12_cell_89 rfl (lv_at hl 2 rfl) ?_
              refine m_getr hx hb hts hown hW (81) 15 (88) rfl rfl cw_12 rfl (by decide) k_X12_39 dX12_cell_90 ?_
              refine lv_iload hx hb dX12_cell_93 (lv_at hl 1 rfl) ?_
              refine m_iald hx hb hW (88) rfl (m_ixI (rfl : x7.toInt = _) (by omega) (by omega)) dX12_cell_95 ?_
              refine lv_topi (fun x18 ex18 => ?_)
              have ex18 : x18 = x8 := by rw [ex18]; exact ex8.symm
              have ex18 := ex18.symm
              subst ex18
              refine lv_goto (tgt := 114) hx hb dX12_cell_96 (by decide) ?_
              exact m_iret hx hb hr hlocks hW rfl (⟨hI, trivial⟩) dX12_cell_114
          · have i10 := m_c5 (rfl : v.toInt = _) (by decide : (0 : Int32).toInt = 0) c10
            refine lv_iload hx hb dX12_cell_62 (lv_at hl 0 rfl) ?_
            refine lv_if_eq (tgt := 77) hx hb dX12_cell_64 (by decide) (fun _ => ?_) (fun c => False.elim (by revert c; decide))
            refine lv_iconst (v := 0) hx hb dX12_cell_77 (by decide) ?_
            exact m_iret hx hb hr hlocks hW rfl (⟨hI, trivial⟩) dX12_cell_78
        · have i9 := m_c5 (rfl : x8.toInt = _) (by decide : (0 : Int32).toInt = 0) c9
          refine lv_iconst (v := 1) hx hb dX12_cell_51 (by decide) ?_
          refine lv_goto (tgt := 56) hx hb dX12_cell_52 (by decide) ?_
          refine lv_istore (lv' := [(5, .int 1), (4, .int x7), (0, .ref (b + 81)), (1, .int k), (2, .int u), (3, .int v)]) hx hb dX12_cell_56 hl (by decide) rfl (fun ls hl => ?_)
          refine lv_iload_n hx hb dX12_cell_58 rfl (lv_at hl 5 rfl) ?_
          refine lv_if_ne (tgt := 79) hx hb dX12_cell_59 (by decide) (fun c19 => ?_) (fun c19 => ?_)
          · have i19 := m_c6 (rfl : v.toInt = _) (by decide : (0 : Int32).toInt = 0) c19
            refine lv_iload_n hx hb dX12_cell_79 rfl (lv_at hl 5 rfl) ?_
            refine lv_iconst (v := 1) hx hb dX12_cell_80 (by decide) ?_
            refine lv_icmp_ne (tgt := 115) hx hb dX12_cell_81 (by decide) (fun c20 => ?_) (fun c20 => ?_)
            · have i20 := m_c6 (rfl : v.toInt = _) (by decide : (1 : Int32).toInt = 1) c20
              refine lv_iload_n hx hb dX12_cell_115 rfl (lv_at hl 5 rfl) ?_
              refine lv_iconst (v := 2) hx hb dX12_cell_116 (by decide) ?_
              refine lv_icmp_ne (tgt := 136) hx hb dX12_cell_117 (by decide) (fun c21 => ?_) (fun c21 => ?_)
              · have i21 := m_c6 (rfl : v.toInt = _) (by decide : (2 : Int32).toInt = 2) c21
                refine lv_aload_n hx hb dX12_cell_136 rfl (lv_at hl 2 rfl) ?_
                refine lv_iconst (v := 0) hx hb dX12_cell_137 (by decide) ?_
                refine m_aV hW (m_runV (As := [.int 0]) (rest := []) hx hb hml hown hts hW (81) (g_X12_findsParts l D cy b S μ0 hS22 hS32 0 (by omega) μ1 hI) mi_X12_findsParts k_X12_233 rfl rfl rfl hl.1 rfl (Nat.le_of_ble_eq_true rfl) dX12_cell_138 ⟨Nat.le_of_ble_eq_true rfl, Nat.le_of_ble_eq_true rfl⟩ ⟨Nat.le_of_ble_eq_true rfl, Nat.le_of_ble_eq_true rfl⟩) (fun μ22 H locs q22 hW => ?_)
                obtain ⟨hI, q22⟩ := q22
                refine lv_iload_n hx hb dX12_cell_141 rfl (lv_at hl 5 rfl) ?_
                refine lv_iconst (v := 3) hx hb dX12_cell_142 (by decide) ?_
                refine lv_icmp_ne (tgt := 168) hx hb dX12_cell_143 (by decide) (fun c23 => ?_) (fun c23 => ?_)
                · have i23 := m_c6 (rfl : v.toInt = _) (by decide : (3 : Int32).toInt = 3) c23
                  refine lv_iload_n hx hb dX12_cell_168 rfl (lv_at hl 5 rfl) ?_
                  refine lv_iconst (v := 4) hx hb dX12_cell_169 (by decide) ?_
                  refine lv_icmp_ne (tgt := 199) hx hb dX12_cell_170 (by decide) (fun c24 => ?_) (fun c24 => ?_)
                  · have i24 := m_c6 (rfl : v.toInt = _) (by decide : (4 : Int32).toInt = 4) c24
                    refine lv_iload hx hb dX12_cell_199 (lv_at hl 0 rfl) ?_
                    refine lv_if_eq (tgt := 213) hx hb dX12_cell_201 (by decide) (fun c => False.elim (by revert c; decide)) (fun _ => ?_)
                    refine lv_aload_n hx hb dX12_cell_204 rfl (lv_at hl 2 rfl) ?_
                    refine lv_iload_n hx hb dX12_cell_205 rfl (lv_at hl 3 rfl) ?_
                    refine lv_iload_n hx hb dX12_cell_206 rfl (lv_at hl 4 rfl) ?_
                    refine m_aI hW (m_runV (As := [.int k, .int u]) (rest := []) hx hb hml hown hts hW (81) (g_X12_bridgeOf l D cy b S μ0 hS22 k u (by omega) (by omega) μ22 hI) mi_X12_bridgeOf k_X12_375 rfl rfl rfl hl.1 rfl (Nat.le_of_ble_eq_true rfl) dX12_cell_207 ⟨Nat.le_of_ble_eq_true rfl, Nat.le_of_ble_eq_true rfl⟩ ⟨Nat.le_of_ble_eq_true rfl, Nat.le_of_ble_eq_true rfl⟩) (fun x25 μ25 H locs q25 hW => ?_)
                    obtain ⟨hI, q25⟩ := q25
                    refine lv_goto (tgt := 214) hx hb dX12_cell_210 (by decide) ?_
                    exact m_iret hx hb hr hlocks hW rfl (⟨hI, trivial⟩) dX12_cell_214
                  · have i24 := m_c5 (rfl : v.toInt = _) (by decide : (4 : Int32).toInt = 4) c24
                    refine lv_iload hx hb dX12_cell_173 (lv_at hl 0 rfl) ?_
                    refine lv_if_eq (tgt := 197) hx hb dX12_cell_175 (by decide) (fun c => False.elim (by revert c; decide)) (fun _ => ?_)
                    refine lv_aload_n hx hb dX12_cell_178 rfl (lv_at hl 2 rfl) ?_
                    refine m_getr hx hb hts hown hW (81) 33 (105) rfl rfl cw_12 rfl (by decide) k_X12_92 dX12_cell_179 ?_
                    refine lv_aload_n hx hb dX12_cell_182 rfl (lv_at hl 2 rfl) ?_
                    refine m_getr hx hb hts hown hW (81) 28 (101) rfl rfl cw_12 rfl (by decide) k_X12_80 dX12_cell_183 ?_
                    refine lv_iload hx hb dX12_cell_186 (lv_at hl 1 rfl) ?_
                    refine m_iald hx hb hW (101) rfl (m_ixI (rfl : x7.toInt = _) (by omega) (by omega)) dX12_cell_188 ?_
                    refine lv_topi (fun x26 ex26 => ?_)
                    have bx26 : 0 ≤ x26.toInt ∧ x26.toInt ≤ 192 := by rw [ex26]; exact hI.1 _ _ _ _ rfl
                    refine m_zald hx hb hW (105) rfl (m_ixI (rfl : x26.toInt = _) (by omega) (by omega)) dX12_cell_189 ?_
                    refine lv_topi (fun x27 ex27 => ?_)
                    have bx27 : 0 ≤ x27.toInt ∧ x27.toInt ≤ 1 := by rw [ex27]; exact hI.1 _ _ _ _ rfl
                    refine lv_if_eq (tgt := 197) hx hb dX12_cell_190 (by decide) (fun c28 => ?_) (fun c28 => ?_)
                    · have i28 := m_c5 (rfl : x27.toInt = _) (by decide : (0 : Int32).toInt = 0) c28
                      refine lv_iconst (v := 0) hx hb dX12_cell_197 (by decide) ?_
                      exact m_iret hx hb hr hlocks hW rfl (⟨hI, trivial⟩) dX12_cell_198
                    · have i28 := m_c6 (rfl : x27.toInt = _) (by decide : (0 : Int32).toInt = 0) c28
                      refine lv_iconst (v := 1) hx hb dX12_cell_193 (by decide) ?_
                      refine lv_goto (tgt := 198) hx hb dX12_cell_194 (by decide) ?_
                      exact m_iret hx hb hr hlocks hW rfl (⟨hI, trivial⟩) dX12_cell_198
                · have i23 := m_c5 (rfl : v.toInt = _) (by decide : (3 : Int32).toInt = 3) c23
                  refine lv_iload hx hb dX12_cell_146 (lv_at hl 0 rfl) ?_
                  refine lv_if_eq (tgt := 166) hx hb dX12_cell_148 (by decide) (fun c => False.elim (by revert c; decide)) (fun _ => ?_)
                  refine lv_aload_n hx hb dX12_cell_151 rfl (lv_at hl 2 rfl) ?_
                  refine m_getr hx hb hts hown hW (81) 31 (103) rfl rfl cw_12 rfl (by decide) k_X12_86 dX12_cell_152 ?_
                  refine lv_aload_n hx hb dX12_cell_155 rfl (lv_at hl 2 rfl) ?_
                  refine m_getr hx hb hts hown hW (81) 28 (101) rfl rfl cw_12 rfl (by decide) k_X12_80 dX12_cell_156 ?_
                  refine lv_iload hx hb dX12_cell_159 (lv_at hl 1 rfl) ?_
                  refine m_iald hx hb hW (101) rfl (m_ixI (rfl : x7.toInt = _) (by omega) (by omega)) dX12_cell_161 ?_
                  refine lv_topi (fun x29 ex29 => ?_)
                  have bx29 : 0 ≤ x29.toInt ∧ x29.toInt ≤ 192 := by rw [ex29]; exact hI.1 _ _ _ _ rfl
                  refine m_iald hx hb hW (103) rfl (m_ixI (rfl : x29.toInt = _) (by omega) (by omega)) dX12_cell_162 ?_
                  refine lv_topi (fun x30 ex30 => ?_)
                  refine lv_goto (tgt := 167) hx hb dX12_cell_163 (by decide) ?_
                  exact m_iret hx hb hr hlocks hW rfl (⟨hI, trivial⟩) dX12_cell_167
              · have i21 := m_c5 (rfl : v.toInt = _) (by decide : (2 : Int32).toInt = 2) c21
                refine lv_aload_n hx hb dX12_cell_120 rfl (lv_at hl 2 rfl) ?_
                refine m_getr hx hb hts hown hW (81) 16 (89) rfl rfl cw_12 rfl (by decide) k_X12_42 dX12_cell_121 ?_
                refine lv_iload hx hb dX12_cell_124 (lv_at hl 1 rfl) ?_
                refine m_zald hx hb hW (89) rfl (m_ixI (rfl : x7.toInt = _) (by omega) (by omega)) dX12_cell_126 ?_
                refine lv_topi (fun x31 ex31 => ?_)
                have bx31 : 0 ≤ x31.toInt ∧ x31.toInt ≤ 1 := by rw [ex31]; exact hI.1 _ _ _ _ rfl
                refine lv_if_eq (tgt := 134) hx hb dX12_cell_127 (by decide) (fun c32 => ?_) (fun c32 => ?_)
                · have i32 := m_c5 (rfl : x31.toInt = _) (by decide : (0 : Int32).toInt = 0) c32
                  refine lv_iconst (v := 0) hx hb dX12_cell_134 (by decide) ?_
                  exact m_iret hx hb hr hlocks hW rfl (⟨hI, trivial⟩) dX12_cell_135
                · have i32 := m_c6 (rfl : x31.toInt = _) (by decide : (0 : Int32).toInt = 0) c32
                  refine lv_iconst (v := 1) hx hb dX12_cell_130 (by decide) ?_
                  refine lv_goto (tgt := 135) hx hb dX12_cell_131 (by decide) ?_
                  exact m_iret hx hb hr hlocks hW rfl (⟨hI, trivial⟩) dX12_cell_135
            · have i20 := m_c5 (rfl : v.toInt = _) (by decide : (1 : Int32).toInt = 1) c20
              refine lv_iload hx hb dX12_cell_84 (lv_at hl 0 rfl) ?_
              refine lv_if_ne (tgt := 99) hx hb dX12_cell_86 (by decide) (fun _ => ?_) (fun c => False.elim (by revert c; decide))
              refine lv_aload_n hx hb dX12_cell_99 rfl (lv_at hl 2 rfl) ?_
              refine m_getr hx hb hts hown hW (81) 17 (90) rfl rfl cw_12 rfl (by decide) k_X12_46 dX12_cell_100 ?_
              refine lv_iload hx hb dX12_cell_103 (lv_at hl 1 rfl) ?_
              refine m_zald hx hb hW (90) rfl (m_ixI (rfl : x7.toInt = _) (by omega) (by omega)) dX12_cell_105 ?_
              refine lv_topi (fun x33 ex33 => ?_)
              have bx33 : 0 ≤ x33.toInt ∧ x33.toInt ≤ 1 := by rw [ex33]; exact hI.1 _ _ _ _ rfl
              refine lv_if_eq (tgt := 113) hx hb dX12_cell_106 (by decide) (fun c34 => ?_) (fun c34 => ?_)
              · have i34 := m_c5 (rfl : x33.toInt = _) (by decide : (0 : Int32).toInt = 0) c34
                refine lv_iconst (v := 0) hx hb dX12_cell_113 (by decide) ?_
                exact m_iret hx hb hr hlocks hW rfl (⟨hI, trivial⟩) dX12_cell_114
              · have i34 := m_c6 (rfl : x33.toInt = _) (by decide : (0 : Int32).toInt = 0) c34
                refine lv_iconst (v := 3) hx hb dX12_cell_109 (by decide) ?_
                refine lv_goto (tgt := 114) hx hb dX12_cell_110 (by decide) ?_
                exact m_iret hx hb hr hlocks hW rfl (⟨hI, trivial⟩) dX12_cell_114
          · have i19 := m_c5 (rfl : v.toInt = _) (by decide : (0 : Int32).toInt = 0) c19
            refine lv_iload hx hb dX12_cell_62 (lv_at hl 0 rfl) ?_
            refine lv_if_eq (tgt := 77) hx hb dX12_cell_64 (by decide) (fun c => False.elim (by revert c; decide)) (fun _ => ?_)
            refine lv_aload_n hx hb dX12_cell_67 rfl (lv_at hl 2 rfl) ?_
            refine m_getr hx hb hts hown hW (81) 13 (86) rfl rfl cw_12 rfl (by decide) k_X12_33 dX12_cell_68 ?_
            refine lv_iload hx hb dX12_cell_71 (lv_at hl 1 rfl) ?_
            refine m_iald hx hb hW (86) rfl (m_ixI (rfl : x7.toInt = _) (by omega) (by omega)) dX12_cell_73 ?_
            refine lv_topi (fun x35 ex35 => ?_)
            refine lv_goto (tgt := 78) hx hb dX12_cell_74 (by decide) ?_
            exact m_iret hx hb hr hlocks hW rfl (⟨hI, trivial⟩) dX12_cell_78
      · refine lv_if_ne (tgt := 33) hx hb dX12_cell_28 (by decide) (fun c => False.elim (by revert c; decide)) (fun _ => ?_)
        refine lv_iconst (v := (-1)) hx hb dX12_cell_31 (by decide) ?_
        exact m_iret hx hb hr hlocks hW rfl (⟨hI, trivial⟩) dX12_cell_32
    · refine lv_if_eq (tgt := 31) hx hb dX12_cell_18 (by decide) (fun _ => ?_) (fun c => False.elim (by revert c; decide))
      refine lv_iconst (v := (-1)) hx hb dX12_cell_31 (by decide) ?_
      exact m_iret hx hb hr hlocks hW rfl (⟨hI, trivial⟩) dX12_cell_32
