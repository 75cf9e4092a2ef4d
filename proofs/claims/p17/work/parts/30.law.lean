def m_REL (μ : mM) : Prop := m_RT μ ∧ m_RP μ ∧ m_RK μ ∧ m_RE μ ∧ m_RF μ
def m_LI (μ : mM) : Prop := IX μ ∧ m_GP μ ∧ m_REL μ
set_option maxHeartbeats 4000000 in
set_option maxRecDepth 100000 in
theorem law_0 {p : Program} {e : Env} {s : State} {m : MethodId} {below : List Frame} {meth : Method} {c : Code} {l : Launch} {a L : Nat} {xs : Nat → Int32} {D : va_G} {cy : Nat → ClassId} {b oq oa ov : Nat} (hx : p.tables.exec = Jvm.exec) (hb : c.code = cL_law) (hr : meth.sig.returnType = ret) (hml : c.maxLocals = 4) (hown : s.vm.findClass RL = some m.cls) (hts : ∀ w ∈ TB, w.before #[Value.ref a] s = true) (hlocks : meth.locks = false) (hL : L ≤ 3072) (hX : va_X a L xs s s.heap) (hbl : a < s.heap.size) (hbA : ¬ (fun q => b ≤ q) a) (hbz : s.heap.size = b) (hO : m_O (fun q => b ≤ q) oq oa ov s s.heap) (y3 : Int32) (hy : 0 ≤ y3.toInt ∧ y3.toInt + 6 ≤ (L : Int)) (O : ∀ (μ : mM) (_ : m_LI μ) (H : Heap) (locs : List Loc) (_ : m_W D cy s b LAY μ H locs) (ls : Array Slot) (_ : lv_has ls 4 [(3, .int y3), (2, .ref (b + 81)), (1, .ref (b + 0)), (0, .ref a)]), W p l e room_1 s m #[Value.ref a] below meth c H locs (0 + 1 + 80 + 1 + 47) (0 + 11 + 14956 + 74 + 38526) (lw_Z below #[Value.ref a] s) (F0 m 860 ls [])) {μ : mM} (hLI : m_LI μ) {H : Heap} {locs : List Loc} (hW : m_W D cy s b LAY μ H locs) {ls : Array Slot} (hl : lv_has ls 4 [(3, .int y3), (2, .ref (b + 81)), (1, .ref (b + 0)), (0, .ref a)]) : W p l e room_1 s m #[Value.ref a] below meth c H locs (0 + 1 + 80 + 1 + 47) (0 + 11 + 14956 + 74 + 38526) (lw_Z below #[Value.ref a] s) (F0 m 128 ls []) := by
  obtain ⟨hI, hgp, hRT, hRP, hRK, hRE, hRF⟩ := hLI
  refine lv_aload_n hx hb dL_law_128 rfl (lv_at hl 2 rfl) ?_
  refine lv_aload_n hx hb dL_law_129 rfl (lv_at hl 3 rfl) ?_
  refine lv_iload_n hx hb dL_law_130 rfl (lv_at hl 0 rfl) ?_
  refine lv_iconst (v := 1) hx hb dL_law_131 (by decide) ?_
  refine lv_iadd hx hb dL_law_132 ?_
  refine lv_topi (fun x1 ex1 => ?_)
  have tx1 : x1.toInt = y3.toInt + 1 := m_addI ex1 (rfl : y3.toInt = _) (by decide : (1 : Int32).toInt = 1) (by omega) (by omega)
  refine va_sld hx hb hX hbl hbA hW.2.2.1 (m_ixI (rfl : x1.toInt = _) (by omega) (by omega)) dL_law_133 ?_
  refine lv_topi (fun x2 ex2 => ?_)
  refine lv_aload_n hx hb dL_law_134 rfl (lv_at hl 3 rfl) ?_
  refine lv_iload_n hx hb dL_law_135 rfl (lv_at hl 0 rfl) ?_
  refine lv_iconst (v := 2) hx hb dL_law_136 (by decide) ?_
  refine lv_iadd hx hb dL_law_137 ?_
  refine lv_topi (fun x3 ex3 => ?_)
  have tx3 : x3.toInt = y3.toInt + 2 := m_addI ex3 (rfl : y3.toInt = _) (by decide : (2 : Int32).toInt = 2) (by omega) (by omega)
  refine va_sld hx hb hX hbl hbA hW.2.2.1 (m_ixI (rfl : x3.toInt = _) (by omega) (by omega)) dL_law_138 ?_
  refine lv_topi (fun x4 ex4 => ?_)
  refine lv_aload_n hx hb dL_law_139 rfl (lv_at hl 3 rfl) ?_
  refine lv_iload_n hx hb dL_law_140 rfl (lv_at hl 0 rfl) ?_
  refine lv_iconst (v := 3) hx hb dL_law_141 (by decide) ?_
  refine lv_iadd hx hb dL_law_142 ?_
  refine lv_topi (fun x5 ex5 => ?_)
  have tx5 : x5.toInt = y3.toInt + 3 := m_addI ex5 (rfl : y3.toInt = _) (by decide : (3 : Int32).toInt = 3) (by omega) (by omega)
  refine va_sld hx hb hX hbl hbA hW.2.2.1 (m_ixI (rfl : x5.toInt = _) (by omega) (by omega)) dL_law_143 ?_
  refine lv_topi (fun x6 ex6 => ?_)
  refine lv_aload_n hx hb dL_law_144 rfl (lv_at hl 3 rfl) ?_
  refine lv_iload_n hx hb dL_law_145 rfl (lv_at hl 0 rfl) ?_
  refine lv_iconst (v := 4) hx hb dL_law_146 (by decide) ?_
  refine lv_iadd hx hb dL_law_147 ?_
  refine lv_topi (fun x7 ex7 => ?_)
  have tx7 : x7.toInt = y3.toInt + 4 := m_addI ex7 (rfl : y3.toInt = _) (by decide : (4 : Int32).toInt = 4) (by omega) (by omega)
  refine va_sld hx hb hX hbl hbA hW.2.2.1 (m_ixI (rfl : x7.toInt = _) (by omega) (by omega)) dL_law_148 ?_
  refine lv_topi (fun x8 ex8 => ?_)
  refine lv_aload_n hx hb dL_law_149 rfl (lv_at hl 3 rfl) ?_
  refine lv_iload_n hx hb dL_law_150 rfl (lv_at hl 0 rfl) ?_
  refine lv_iconst (v := 5) hx hb dL_law_151 (by decide) ?_
  refine lv_iadd hx hb dL_law_152 ?_
  refine lv_topi (fun x9 ex9 => ?_)
  have tx9 : x9.toInt = y3.toInt + 5 := m_addI ex9 (rfl : y3.toInt = _) (by decide : (5 : Int32).toInt = 5) (by omega) (by omega)
  refine va_sld hx hb hX hbl hbA hW.2.2.1 (m_ixI (rfl : x9.toInt = _) (by omega) (by omega)) dL_law_153 ?_
  refine lv_topi (fun x10 ex10 => ?_)
  refine m_aI hW (m_runV (As := [.int x2, .int x4, .int x6, .int x8, .int x10]) (rest := []) hx hb hml hown hts hW (0) (g_X11_stuff l D cy b (fun g => [1].contains g) μ rfl x2 x4 x6 x8 x10 μ (IY.rf hI)) mi_X11_stuff k_L_13 rfl rfl rfl hl.1 rfl (Nat.le_of_ble_eq_true rfl) dL_law_154 ⟨Nat.le_of_ble_eq_true rfl, Nat.le_of_ble_eq_true rfl⟩ ⟨Nat.le_of_ble_eq_true rfl, Nat.le_of_ble_eq_true rfl⟩) (fun x11 μ11 H locs q11 hW => ?_)
  have hI0 := hI
  obtain ⟨hJ11, q11⟩ := q11
  have hI := hJ11.1
  have hgp := hgp.fr hJ11 rfl rfl
  have hRT := hRT.fr hJ11 rfl rfl
  have hRP := hRP.fr hJ11 rfl rfl
  have hRK := hRK.fr hJ11 rfl rfl
  have hRE := hRE.fr hJ11 rfl rfl
  have hRF := hRF.fr hJ11 rfl
  refine lv_pop hx hb dL_law_157 rfl ?_
  refine lv_aload_n hx hb dL_law_158 rfl (lv_at hl 1 rfl) ?_
  refine lv_aload_n hx hb dL_law_159 rfl (lv_at hl 3 rfl) ?_
  refine lv_iload_n hx hb dL_law_160 rfl (lv_at hl 0 rfl) ?_
  refine lv_iconst (v := 1) hx hb dL_law_161 (by decide) ?_
  refine lv_iadd hx hb dL_law_162 ?_
  refine lv_topi (fun x12 ex12 => ?_)
  have ex12 : x12 = x1 := ex12.trans ex1.symm
  have ex12 := ex12.symm
  subst ex12
  refine va_sld hx hb hX hbl hbA hW.2.2.1 (m_ixI (rfl : x1.toInt = _) (by omega) (by omega)) dL_law_163 ?_
  refine lv_topi (fun x13 ex13 => ?_)
  have ex13 : x13 = x2 := ex13.trans ex2.symm
  have ex13 := ex13.symm
  subst ex13
  refine lv_aload_n hx hb dL_law_164 rfl (lv_at hl 3 rfl) ?_
  refine lv_iload_n hx hb dL_law_165 rfl (lv_at hl 0 rfl) ?_
  refine lv_iconst (v := 2) hx hb dL_law_166 (by decide) ?_
  refine lv_iadd hx hb dL_law_167 ?_
  refine lv_topi (fun x14 ex14 => ?_)
  have ex14 : x14 = x3 := ex14.trans ex3.symm
  have ex14 := ex14.symm
  subst ex14
  refine va_sld hx hb hX hbl hbA hW.2.2.1 (m_ixI (rfl : x3.toInt = _) (by omega) (by omega)) dL_law_168 ?_
  refine lv_topi (fun x15 ex15 => ?_)
  have ex15 : x15 = x4 := ex15.trans ex4.symm
  have ex15 := ex15.symm
  subst ex15
  refine lv_aload_n hx hb dL_law_169 rfl (lv_at hl 3 rfl) ?_
  refine lv_iload_n hx hb dL_law_170 rfl (lv_at hl 0 rfl) ?_
  refine lv_iconst (v := 3) hx hb dL_law_171 (by decide) ?_
  refine lv_iadd hx hb dL_law_172 ?_
  refine lv_topi (fun x16 ex16 => ?_)
  have ex16 : x16 = x5 := ex16.trans ex5.symm
  have ex16 := ex16.symm
  subst ex16
  refine va_sld hx hb hX hbl hbA hW.2.2.1 (m_ixI (rfl : x5.toInt = _) (by omega) (by omega)) dL_law_173 ?_
  refine lv_topi (fun x17 ex17 => ?_)
  have ex17 : x17 = x6 := ex17.trans ex6.symm
  have ex17 := ex17.symm
  subst ex17
  refine lv_aload_n hx hb dL_law_174 rfl (lv_at hl 3 rfl) ?_
  refine lv_iload_n hx hb dL_law_175 rfl (lv_at hl 0 rfl) ?_
  refine lv_iconst (v := 4) hx hb dL_law_176 (by decide) ?_
  refine lv_iadd hx hb dL_law_177 ?_
  refine lv_topi (fun x18 ex18 => ?_)
  have ex18 : x18 = x7 := ex18.trans ex7.symm
  have ex18 := ex18.symm
  subst ex18
  refine va_sld hx hb hX hbl hbA hW.2.2.1 (m_ixI (rfl : x7.toInt = _) (by omega) (by omega)) dL_law_178 ?_
  refine lv_topi (fun x19 ex19 => ?_)
  have ex19 : x19 = x8 := ex19.trans ex8.symm
  have ex19 := ex19.symm
  subst ex19
  refine lv_aload_n hx hb dL_law_179 rfl (lv_at hl 3 rfl) ?_
  refine lv_iload_n hx hb dL_law_180 rfl (lv_at hl 0 rfl) ?_
  refine lv_iconst (v := 5) hx hb dL_law_181 (by decide) ?_
  refine lv_iadd hx hb dL_law_182 ?_
  refine lv_topi (fun x20 ex20 => ?_)
  have ex20 : x20 = x9 := ex20.trans ex9.symm
  have ex20 := ex20.symm
  subst ex20
  refine va_sld hx hb hX hbl hbA hW.2.2.1 (m_ixI (rfl : x9.toInt = _) (by omega) (by omega)) dL_law_183 ?_
  refine lv_topi (fun x21 ex21 => ?_)
  have ex21 : x21 = x10 := ex21.trans ex10.symm
  have ex21 := ex21.symm
  subst ex21
  refine m_aI hW (m_runV (As := [.int x2, .int x4, .int x6, .int x8, .int x10]) (rest := []) hx hb hml hown hts hW (81) (g_X12_stuff l D cy b (fun g => [20, 21].contains g) μ11 rfl rfl x2 x4 x6 x8 x10 μ11 (IY.rf hI)) mi_X12_stuff k_L_17 rfl rfl rfl hl.1 rfl (Nat.le_of_ble_eq_true rfl) dL_law_184 ⟨Nat.le_of_ble_eq_true rfl, Nat.le_of_ble_eq_true rfl⟩ ⟨Nat.le_of_ble_eq_true rfl, Nat.le_of_ble_eq_true rfl⟩) (fun x22 μ22 H locs q22 hW => ?_)
  obtain ⟨hJ22, q22⟩ := q22
  have hI := hJ22.1
  have hgp := hgp.fr hJ22 rfl rfl
  have hRT := hRT.fr hJ22 rfl rfl
  have hRP := hRP.fr hJ22 rfl rfl
  have hRK := hRK.fr hJ22 rfl rfl
  have hRE := hRE.fr hJ22 rfl rfl
  have hRF := hRF.fr hJ22 rfl
  refine lv_pop hx hb dL_law_187 rfl ?_
  refine lv_goto (tgt := 860) hx hb dL_law_188 (by decide) ?_
  exact O _ ⟨hI, hgp, ⟨hRT, hRP, hRK, hRE, hRF⟩⟩ _ _ hW _ hl
set_option maxHeartbeats 4000000 in
set_option maxRecDepth 100000 in
theorem law_1 {p : Program} {e : Env} {s : State} {m : MethodId} {below : List Frame} {meth : Method} {c : Code} {l : Launch} {a L : Nat} {xs : Nat → Int32} {D : va_G} {cy : Nat → ClassId} {b oq oa ov : Nat} (hx : p.tables.exec = Jvm.exec) (hb : c.code = cL_law) (hr : meth.sig.returnType = ret) (hml : c.maxLocals = 4) (hown : s.vm.findClass RL = some m.cls) (hts : ∀ w ∈ TB, w.before #[Value.ref a] s = true) (hlocks : meth.locks = false) (hL : L ≤ 3072) (hX : va_X a L xs s s.heap) (hbl : a < s.heap.size) (hbA : ¬ (fun q => b ≤ q) a) (hbz : s.heap.size = b) (hO : m_O (fun q => b ≤ q) oq oa ov s s.heap) (y3 : Int32) (hy : 0 ≤ y3.toInt ∧ y3.toInt + 6 ≤ (L : Int)) (O : ∀ (μ : mM) (_ : m_LI μ) (H : Heap) (locs : List Loc) (_ : m_W D cy s b LAY μ H locs) (ls : Array Slot) (_ : lv_has ls 4 [(3, .int y3), (2, .ref (b + 81)), (1, .ref (b + 0)), (0, .ref a)]), W p l e room_1 s m #[Value.ref a] below meth c H locs (0 + 1 + 80 + 1 + 47) (0 + 11 + 14956 + 74 + 38526) (lw_Z below #[Value.ref a] s) (F0 m 860 ls [])) {μ : mM} (hLI : m_LI μ) {H : Heap} {locs : List Loc} (hW : m_W D cy s b LAY μ H locs) {ls : Array Slot} (hl : lv_has ls 4 [(3, .int y3), (2, .ref (b + 81)), (1, .ref (b + 0)), (0, .ref a)]) : W p l e room_1 s m #[Value.ref a] below meth c H locs (0 + 1 + 80 + 1 + 47) (0 + 11 + 14956 + 74 + 38526) (lw_Z below #[Value.ref a] s) (F0 m 191 ls []) := by
  obtain ⟨hI, hgp, hRT, hRP, hRK, hRE, hRF⟩ := hLI
  refine lv_aload_n hx hb dL_law_191 rfl (lv_at hl 2 rfl) ?_
  refine lv_aload_n hx hb dL_law_192 rfl (lv_at hl 3 rfl) ?_
  refine lv_iload_n hx hb dL_law_193 rfl (lv_at hl 0 rfl) ?_
  refine lv_iconst (v := 1) hx hb dL_law_194 (by decide) ?_
  refine lv_iadd hx hb dL_law_195 ?_
  refine lv_topi (fun x1 ex1 => ?_)
  have tx1 : x1.toInt = y3.toInt + 1 := m_addI ex1 (rfl : y3.toInt = _) (by decide : (1 : Int32).toInt = 1) (by omega) (by omega)
  refine va_sld hx hb hX hbl hbA hW.2.2.1 (m_ixI (rfl : x1.toInt = _) (by omega) (by omega)) dL_law_196 ?_
  refine lv_topi (fun x2 ex2 => ?_)
  refine lv_aload_n hx hb dL_law_197 rfl (lv_at hl 3 rfl) ?_
  refine lv_iload_n hx hb dL_law_198 rfl (lv_at hl 0 rfl) ?_
  refine lv_iconst (v := 2) hx hb dL_law_199 (by decide) ?_
  refine lv_iadd hx hb dL_law_200 ?_
  refine lv_topi (fun x3 ex3 => ?_)
  have tx3 : x3.toInt = y3.toInt + 2 := m_addI ex3 (rfl : y3.toInt = _) (by decide : (2 : Int32).toInt = 2) (by omega) (by omega)
  refine va_sld hx hb hX hbl hbA hW.2.2.1 (m_ixI (rfl : x3.toInt = _) (by omega) (by omega)) dL_law_201 ?_
  refine lv_topi (fun x4 ex4 => ?_)
  refine lv_aload_n hx hb dL_law_202 rfl (lv_at hl 3 rfl) ?_
  refine lv_iload_n hx hb dL_law_203 rfl (lv_at hl 0 rfl) ?_
  refine lv_iconst (v := 3) hx hb dL_law_204 (by decide) ?_
  refine lv_iadd hx hb dL_law_205 ?_
  refine lv_topi (fun x5 ex5 => ?_)
  have tx5 : x5.toInt = y3.toInt + 3 := m_addI ex5 (rfl : y3.toInt = _) (by decide : (3 : Int32).toInt = 3) (by omega) (by omega)
  refine va_sld hx hb hX hbl hbA hW.2.2.1 (m_ixI (rfl : x5.toInt = _) (by omega) (by omega)) dL_law_206 ?_
  refine lv_topi (fun x6 ex6 => ?_)
  refine lv_aload_n hx hb dL_law_207 rfl (lv_at hl 3 rfl) ?_
  refine lv_iload_n hx hb dL_law_208 rfl (lv_at hl 0 rfl) ?_
  refine lv_iconst (v := 4) hx hb dL_law_209 (by decide) ?_
  refine lv_iadd hx hb dL_law_210 ?_
  refine lv_topi (fun x7 ex7 => ?_)
  have tx7 : x7.toInt = y3.toInt + 4 := m_addI ex7 (rfl : y3.toInt = _) (by decide : (4 : Int32).toInt = 4) (by omega) (by omega)
  refine va_sld hx hb hX hbl hbA hW.2.2.1 (m_ixI (rfl : x7.toInt = _) (by omega) (by omega)) dL_law_211 ?_
  refine lv_topi (fun x8 ex8 => ?_)
  refine m_aI hW (m_runV (As := [.int x2, .int x4, .int x6, .int x8]) (rest := []) hx hb hml hown hts hW (0) (g_X11_plate l D cy b (fun g => [6].contains g) μ rfl x2 x4 x6 x8 μ (IY.rf hI)) mi_X11_plate k_L_18 rfl rfl rfl hl.1 rfl (Nat.le_of_ble_eq_true rfl) dL_law_212 ⟨Nat.le_of_ble_eq_true rfl, Nat.le_of_ble_eq_true rfl⟩ ⟨Nat.le_of_ble_eq_true rfl, Nat.le_of_ble_eq_true rfl⟩) (fun x9 μ9 H locs q9 hW => ?_)
  have hI0 := hI
  obtain ⟨hJ9, q9⟩ := q9
  have hI := hJ9.1
  have hgp := hgp.fr hJ9 rfl rfl
  have hRT := hRT.fr hJ9 rfl rfl
  have hRP := hRP.fr hJ9 rfl rfl
  have hRK := hRK.fr hJ9 rfl rfl
  have hRE := hRE.fr hJ9 rfl rfl
  have hRF := hRF.fr hJ9 rfl
  refine lv_pop hx hb dL_law_215 rfl ?_
  refine lv_aload_n hx hb dL_law_216 rfl (lv_at hl 1 rfl) ?_
  refine lv_aload_n hx hb dL_law_217 rfl (lv_at hl 3 rfl) ?_
  refine lv_iload_n hx hb dL_law_218 rfl (lv_at hl 0 rfl) ?_
  refine lv_iconst (v := 1) hx hb dL_law_219 (by decide) ?_
  refine lv_iadd hx hb dL_law_220 ?_
  refine lv_topi (fun x10 ex10 => ?_)
  have ex10 : x10 = x1 := ex10.trans ex1.symm
  have ex10 := ex10.symm
  subst ex10
  refine va_sld hx hb hX hbl hbA hW.2.2.1 (m_ixI (rfl : x1.toInt = _) (by omega) (by omega)) dL_law_221 ?_
  refine lv_topi (fun x11 ex11 => ?_)
  have ex11 : x11 = x2 := ex11.trans ex2.symm
  have ex11 := ex11.symm
  subst ex11
  refine lv_aload_n hx hb dL_law_222 rfl (lv_at hl 3 rfl) ?_
  refine lv_iload_n hx hb dL_law_223 rfl (lv_at hl 0 rfl) ?_
  refine lv_iconst (v := 2) hx hb dL_law_224 (by decide) ?_
  refine lv_iadd hx hb dL_law_225 ?_
  refine lv_topi (fun x12 ex12 => ?_)
  have ex12 : x12 = x3 := ex12.trans ex3.symm
  have ex12 := ex12.symm
  subst ex12
  refine va_sld hx hb hX hbl hbA hW.2.2.1 (m_ixI (rfl : x3.toInt = _) (by omega) (by omega)) dL_law_226 ?_
  refine lv_topi (fun x13 ex13 => ?_)
  have ex13 : x13 = x4 := ex13.trans ex4.symm
  have ex13 := ex13.symm
  subst ex13
  refine lv_aload_n hx hb dL_law_227 rfl (lv_at hl 3 rfl) ?_
  refine lv_iload_n hx hb dL_law_228 rfl (lv_at hl 0 rfl) ?_
  refine lv_iconst (v := 3) hx hb dL_law_229 (by decide) ?_
  refine lv_iadd hx hb dL_law_230 ?_
  refine lv_topi (fun x14 ex14 => ?_)
  have ex14 : x14 = x5 := ex14.trans ex5.symm
  have ex14 := ex14.symm
  subst ex14
  refine va_sld hx hb hX hbl hbA hW.2.2.1 (m_ixI (rfl : x5.toInt = _) (by omega) (by omega)) dL_law_231 ?_
  refine lv_topi (fun x15 ex15 => ?_)
  have ex15 : x15 = x6 := ex15.trans ex6.symm
  have ex15 := ex15.symm
  subst ex15
  refine lv_aload_n hx hb dL_law_232 rfl (lv_at hl 3 rfl) ?_
  refine lv_iload_n hx hb dL_law_233 rfl (lv_at hl 0 rfl) ?_
  refine lv_iconst (v := 4) hx hb dL_law_234 (by decide) ?_
  refine lv_iadd hx hb dL_law_235 ?_
  refine lv_topi (fun x16 ex16 => ?_)
  have ex16 : x16 = x7 := ex16.trans ex7.symm
  have ex16 := ex16.symm
  subst ex16
  refine va_sld hx hb hX hbl hbA hW.2.2.1 (m_ixI (rfl : x7.toInt = _) (by omega) (by omega)) dL_law_236 ?_
  refine lv_topi (fun x17 ex17 => ?_)
  have ex17 : x17 = x8 := ex17.trans ex8.symm
  have ex17 := ex17.symm
  subst ex17
  refine m_aI hW (m_runV (As := [.int x2, .int x4, .int x6, .int x8]) (rest := []) hx hb hml hown hts hW (81) (g_X12_plate l D cy b (fun g => [20, 22].contains g) μ9 rfl rfl x2 x4 x6 x8 μ9 (IY.rf hI)) mi_X12_plate k_L_22 rfl rfl rfl hl.1 rfl (Nat.le_of_ble_eq_true rfl) dL_law_237 ⟨Nat.le_of_ble_eq_true rfl, Nat.le_of_ble_eq_true rfl⟩ ⟨Nat.le_of_ble_eq_true rfl, Nat.le_of_ble_eq_true rfl⟩) (fun x18 μ18 H locs q18 hW => ?_)
  obtain ⟨hJ18, q18⟩ := q18
  have hI := hJ18.1
  have hgp := hgp.fr hJ18 rfl rfl
  have hRT := hRT.fr hJ18 rfl rfl
  have hRP := hRP.fr hJ18 rfl rfl
  have hRK := hRK.fr hJ18 rfl rfl
  have hRE := hRE.fr hJ18 rfl rfl
  have hRF := hRF.fr hJ18 rfl
  refine lv_pop hx hb dL_law_240 rfl ?_
  refine lv_goto (tgt := 860) hx hb dL_law_241 (by decide) ?_
  exact O _ ⟨hI, hgp, ⟨hRT, hRP, hRK, hRE, hRF⟩⟩ _ _ hW _ hl
set_option maxHeartbeats 4000000 in
set_option maxRecDepth 100000 in
theorem law_2 {p : Program} {e : Env} {s : State} {m : MethodId} {below : List Frame} {meth : Method} {c : Code} {l : Launch} {a L : Nat} {xs : Nat → Int32} {D : va_G} {cy : Nat → ClassId} {b oq oa ov : Nat} (hx : p.tables.exec = Jvm.exec) (hb : c.code = cL_law) (hr : meth.sig.returnType = ret) (hml : c.maxLocals = 4) (hown : s.vm.findClass RL = some m.cls) (hts : ∀ w ∈ TB, w.before #[Value.ref a] s = true) (hlocks : meth.locks = false) (hL : L ≤ 3072) (hX : va_X a L xs s s.heap) (hbl : a < s.heap.size) (hbA : ¬ (fun q => b ≤ q) a) (hbz : s.heap.size = b) (hO : m_O (fun q => b ≤ q) oq oa ov s s.heap) (y3 : Int32) (hy : 0 ≤ y3.toInt ∧ y3.toInt + 6 ≤ (L : Int)) (O : ∀ (μ : mM) (_ : m_LI μ) (H : Heap) (locs : List Loc) (_ : m_W D cy s b LAY μ H locs) (ls : Array Slot) (_ : lv_has ls 4 [(3, .int y3), (2, .ref (b + 81)), (1, .ref (b + 0)), (0, .ref a)]), W p l e room_1 s m #[Value.ref a] below meth c H locs (0 + 1 + 80 + 1 + 47) (0 + 11 + 14956 + 74 + 38526) (lw_Z below #[Value.ref a] s) (F0 m 860 ls [])) {μ : mM} (hLI : m_LI μ) {H : Heap} {locs : List Loc} (hW : m_W D cy s b LAY μ H locs) {ls : Array Slot} (hl : lv_has ls 4 [(3, .int y3), (2, .ref (b + 81)), (1, .ref (b + 0)), (0, .ref a)]) : W p l e room_1 s m #[Value.ref a] below meth c H locs (0 + 1 + 80 + 1 + 47) (0 + 11 + 14956 + 74 + 38526) (lw_Z below #[Value.ref a] s) (F0 m 244 ls []) := by
  obtain ⟨hI, hgp, hRT, hRP, hRK, hRE, hRF⟩ := hLI
  refine lv_aload_n hx hb dL_law_244 rfl (lv_at hl 2 rfl) ?_
  refine lv_aload_n hx hb dL_law_245 rfl (lv_at hl 3 rfl) ?_
  refine lv_iload_n hx hb dL_law_246 rfl (lv_at hl 0 rfl) ?_
  refine lv_iconst (v := 1) hx hb dL_law_247 (by decide) ?_
  refine lv_iadd hx hb dL_law_248 ?_
  refine lv_topi (fun x1 ex1 => ?_)
  have tx1 : x1.toInt = y3.toInt + 1 := m_addI ex1 (rfl : y3.toInt = _) (by decide : (1 : Int32).toInt = 1) (by omega) (by omega)
  refine va_sld hx hb hX hbl hbA hW.2.2.1 (m_ixI (rfl : x1.toInt = _) (by omega) (by omega)) dL_law_249 ?_
  refine lv_topi (fun x2 ex2 => ?_)
  refine lv_aload_n hx hb dL_law_250 rfl (lv_at hl 3 rfl) ?_
  refine lv_iload_n hx hb dL_law_251 rfl (lv_at hl 0 rfl) ?_
  refine lv_iconst (v := 2) hx hb dL_law_252 (by decide) ?_
  refine lv_iadd hx hb dL_law_253 ?_
  refine lv_topi (fun x3 ex3 => ?_)
  have tx3 : x3.toInt = y3.toInt + 2 := m_addI ex3 (rfl : y3.toInt = _) (by decide : (2 : Int32).toInt = 2) (by omega) (by omega)
  refine va_sld hx hb hX hbl hbA hW.2.2.1 (m_ixI (rfl : x3.toInt = _) (by omega) (by omega)) dL_law_254 ?_
  refine lv_topi (fun x4 ex4 => ?_)
  refine lv_if_eq (tgt := 262) hx hb dL_law_255 (by decide) (fun c5 => ?_) (fun c5 => ?_)
  · have i5 := m_c5 (rfl : x4.toInt = _) (by decide : (0 : Int32).toInt = 0) c5
    refine lv_iconst (v := 0) hx hb dL_law_262 (by decide) ?_
    have l_0 : (0 : Int32).toInt = 0 := by decide
    refine m_aI hW (m_runV (As := [.int x2, .int 0]) (rest := []) hx hb hml hown hts hW (0) (g_X11_beam l D cy b (fun g => [1].contains g) μ rfl x2 0 (by omega) μ (IY.rf hI)) mi_X11_beam k_L_23 rfl rfl rfl hl.1 rfl (Nat.le_of_ble_eq_true rfl) dL_law_263 ⟨Nat.le_of_ble_eq_true rfl, Nat.le_of_ble_eq_true rfl⟩ ⟨Nat.le_of_ble_eq_true rfl, Nat.le_of_ble_eq_true rfl⟩) (fun x6 μ6 H locs q6 hW => ?_)
    have hI0 := hI
    obtain ⟨hJ6, q6⟩ := q6
    have hI := hJ6.1
    have hgp := hgp.fr hJ6 rfl rfl
    have hRT := hRT.fr hJ6 rfl rfl
    have hRP := hRP.fr hJ6 rfl rfl
    have hRK := hRK.fr hJ6 rfl rfl
    have hRE := hRE.fr hJ6 rfl rfl
    have hRF := hRF.fr hJ6 rfl
    refine lv_pop hx hb dL_law_266 rfl ?_
    refine lv_aload_n hx hb dL_law_267 rfl (lv_at hl 1 rfl) ?_
    refine lv_aload_n hx hb dL_law_268 rfl (lv_at hl 3 rfl) ?_
    refine lv_iload_n hx hb dL_law_269 rfl (lv_at hl 0 rfl) ?_
    refine lv_iconst (v := 1) hx hb dL_law_270 (by decide) ?_
    refine lv_iadd hx hb dL_law_271 ?_
    refine lv_topi (fun x7 ex7 => ?_)
    have ex7 : x7 = x1 := ex7.trans ex1.symm
    have ex7 := ex7.symm
    subst ex7
    refine va_sld hx hb hX hbl hbA hW.2.2.1 (m_ixI (rfl : x1.toInt = _) (by omega) (by omega)) dL_law_272 ?_
    refine lv_topi (fun x8 ex8 => ?_)
    have ex8 : x8 = x2 := ex8.trans ex2.symm
    have ex8 := ex8.symm
    subst ex8
    refine lv_aload_n hx hb dL_law_273 rfl (lv_at hl 3 rfl) ?_
    refine lv_iload_n hx hb dL_law_274 rfl (lv_at hl 0 rfl) ?_
    refine lv_iconst (v := 2) hx hb dL_law_275 (by decide) ?_
    refine lv_iadd hx hb dL_law_276 ?_
    refine lv_topi (fun x9 ex9 => ?_)
    have ex9 : x9 = x3 := ex9.trans ex3.symm
    have ex9 := ex9.symm
    subst ex9
    refine va_sld hx hb hX hbl hbA hW.2.2.1 (m_ixI (rfl : x3.toInt = _) (by omega) (by omega)) dL_law_277 ?_
    refine lv_topi (fun x10 ex10 => ?_)
    have ex10 : x10 = x4 := ex10.trans ex4.symm
    have ex10 := ex10.symm
    subst ex10
    refine lv_if_eq (tgt := 285) hx hb dL_law_278 (by decide) (fun c11 => ?_) (fun c => absurd (c5) c)
    refine lv_iconst (v := 0) hx hb dL_law_285 (by decide) ?_
    refine m_aI hW (m_runV (As := [.int x2, .int 0]) (rest := []) hx hb hml hown hts hW (81) (g_X12_beam l D cy b (fun g => [20, 21].contains g) μ6 rfl rfl x2 0 (by omega) μ6 (IY.rf hI)) mi_X12_beam k_L_27 rfl rfl rfl hl.1 rfl (Nat.le_of_ble_eq_true rfl) dL_law_286 ⟨Nat.le_of_ble_eq_true rfl, Nat.le_of_ble_eq_true rfl⟩ ⟨Nat.le_of_ble_eq_true rfl, Nat.le_of_ble_eq_true rfl⟩) (fun x12 μ12 H locs q12 hW => ?_)
    obtain ⟨hJ12, q12⟩ := q12
    have hI := hJ12.1
    have hgp := hgp.fr hJ12 rfl rfl
    have hRT := hRT.fr hJ12 rfl rfl
    have hRP := hRP.fr hJ12 rfl rfl
    have hRK := hRK.fr hJ12 rfl rfl
    have hRE := hRE.fr hJ12 rfl rfl
    have hRF := hRF.fr hJ12 rfl
    refine lv_pop hx hb dL_law_289 rfl ?_
    refine lv_goto (tgt := 860) hx hb dL_law_290 (by decide) ?_
    exact O _ ⟨hI, hgp, ⟨hRT, hRP, hRK, hRE, hRF⟩⟩ _ _ hW _ hl
  · have i5 := m_c6 (rfl : x4.toInt = _) (by decide : (0 : Int32).toInt = 0) c5
    refine lv_iconst (v := 1) hx hb dL_law_258 (by decide) ?_
    refine lv_goto (tgt := 263) hx hb dL_law_259 (by decide) ?_
    have l_1 : (1 : Int32).toInt = 1 := by decide
    refine m_aI hW (m_runV (As := [.int x2, .int 1]) (rest := []) hx hb hml hown hts hW (0) (g_X11_beam l D cy b (fun g => [1].contains g) μ rfl x2 1 (by omega) μ (IY.rf hI)) mi_X11_beam k_L_23 rfl rfl rfl hl.1 rfl (Nat.le_of_ble_eq_true rfl) dL_law_263 ⟨Nat.le_of_ble_eq_true rfl, Nat.le_of_ble_eq_true rfl⟩ ⟨Nat.le_of_ble_eq_true rfl, Nat.le_of_ble_eq_true rfl⟩) (fun x13 μ13 H locs q13 hW => ?_)
    have hI0 := hI
    obtain ⟨hJ13, q13⟩ := q13
    have hI := hJ13.1
    have hgp := hgp.fr hJ13 rfl rfl
    have hRT := hRT.fr hJ13 rfl rfl
    have hRP := hRP.fr hJ13 rfl rfl
    have hRK := hRK.fr hJ13 rfl rfl
    have hRE := hRE.fr hJ13 rfl rfl
    have hRF := hRF.fr hJ13 rfl
    refine lv_pop hx hb dL_law_266 rfl ?_
    refine lv_aload_n hx hb dL_law_267 rfl (lv_at hl 1 rfl) ?_
    refine lv_aload_n hx hb dL_law_268 rfl (lv_at hl 3 rfl) ?_
    refine lv_iload_n hx hb dL_law_269 rfl (lv_at hl 0 rfl) ?_
    refine lv_iconst (v := 1) hx hb dL_law_270 (by decide) ?_
    refine lv_iadd hx hb dL_law_271 ?_
    refine lv_topi (fun x14 ex14 => ?_)
    have ex14 : x14 = x1 := ex14.trans ex1.symm
    have ex14 := ex14.symm
    subst ex14
    refine va_sld hx hb hX hbl hbA hW.2.2.1 (m_ixI (rfl : x1.toInt = _) (by omega) (by omega)) dL_law_272 ?_
    refine lv_topi (fun x15 ex15 => ?_)
    have ex15 : x15 = x2 := ex15.trans ex2.symm
    have ex15 := ex15.symm
    subst ex15
    refine lv_aload_n hx hb dL_law_273 rfl (lv_at hl 3 rfl) ?_
    refine lv_iload_n hx hb dL_law_274 rfl (lv_at hl 0 rfl) ?_
    refine lv_iconst (v := 2) hx hb dL_law_275 (by decide) ?_
    refine lv_iadd hx hb dL_law_276 ?_
    refine lv_topi (fun x16 ex16 => ?_)
    have ex16 : x16 = x3 := ex16.trans ex3.symm
    have ex16 := ex16.symm
    subst ex16
    refine va_sld hx hb hX hbl hbA hW.2.2.1 (m_ixI (rfl : x3.toInt = _) (by omega) (by omega)) dL_law_277 ?_
    refine lv_topi (fun x17 ex17 => ?_)
    have ex17 : x17 = x4 := ex17.trans ex4.symm
    have ex17 := ex17.symm
    subst ex17
    refine lv_if_eq (tgt := 285) hx hb dL_law_278 (by decide) (fun c => absurd c (c5)) (fun c18 => ?_)
    refine lv_iconst (v := 1) hx hb dL_law_281 (by decide) ?_
    refine lv_goto (tgt := 286) hx hb dL_law_282 (by decide) ?_
    refine m_aI hW (m_runV (As := [.int x2, .int 1]) (rest := []) hx hb hml hown hts hW (81) (g_X12_beam l D cy b (fun g => [20, 21].contains g) μ13 rfl rfl x2 1 (by omega) μ13 (IY.rf hI)) mi_X12_beam k_L_27 rfl rfl rfl hl.1 rfl (Nat.le_of_ble_eq_true rfl) dL_law_286 ⟨Nat.le_of_ble_eq_true rfl, Nat.le_of_ble_eq_true rfl⟩ ⟨Nat.le_of_ble_eq_true rfl, Nat.le_of_ble_eq_true rfl⟩) (fun x19 μ19 H locs q19 hW => ?_)
    obtain ⟨hJ19, q19⟩ := q19
    have hI := hJ19.1
    have hgp := hgp.fr hJ19 rfl rfl
    have hRT := hRT.fr hJ19 rfl rfl
    have hRP := hRP.fr hJ19 rfl rfl
    have hRK := hRK.fr hJ19 rfl rfl
    have hRE := hRE.fr hJ19 rfl rfl
    have hRF := hRF.fr hJ19 rfl
    refine lv_pop hx hb dL_law_289 rfl ?_
    refine lv_goto (tgt := 860) hx hb dL_law_290 (by decide) ?_
    exact O _ ⟨hI, hgp, ⟨hRT, hRP, hRK, hRE, hRF⟩⟩ _ _ hW _ hl
set_option maxHeartbeats 4000000 in
set_option maxRecDepth 100000 in
theorem law_3 {p : Program} {e : Env} {s : State} {m : MethodId} {below : List Frame} {meth : Method} {c : Code} {l : Launch} {a L : Nat} {xs : Nat → Int32} {D : va_G} {cy : Nat → ClassId} {b oq oa ov : Nat} (hx : p.tables.exec = Jvm.exec) (hb : c.code = cL_law) (hr : meth.sig.returnType = ret) (hml : c.maxLocals = 4) (hown : s.vm.findClass RL = some m.cls) (hts : ∀ w ∈ TB, w.before #[Value.ref a] s = true) (hlocks : meth.locks = false) (hL : L ≤ 3072) (hX : va_X a L xs s s.heap) (hbl : a < s.heap.size) (hbA : ¬ (fun q => b ≤ q) a) (hbz : s.heap.size = b) (hO : m_O (fun q => b ≤ q) oq oa ov s s.heap) (y3 : Int32) (hy : 0 ≤ y3.toInt ∧ y3.toInt + 6 ≤ (L : Int)) (O : ∀ (μ : mM) (_ : m_LI μ) (H : Heap) (locs : List Loc) (_ : m_W D cy s b LAY μ H locs) (ls : Array Slot) (_ : lv_has ls 4 [(3, .int y3), (2, .ref (b + 81)), (1, .ref (b + 0)), (0, .ref a)]), W p l e room_1 s m #[Value.ref a] below meth c H locs (0 + 1 + 80 + 1 + 47) (0 + 11 + 14956 + 74 + 38526) (lw_Z below #[Value.ref a] s) (F0 m 860 ls [])) {μ : mM} (hLI : m_LI μ) {H : Heap} {locs : List Loc} (hW : m_W D cy s b LAY μ H locs) {ls : Array Slot} (hl : lv_has ls 4 [(3, .int y3), (2, .ref (b + 81)), (1, .ref (b + 0)), (0, .ref a)]) : W p l e room_1 s m #[Value.ref a] below meth c H locs (0 + 1 + 80 + 1 + 47) (0 + 11 + 14956 + 74 + 38526) (lw_Z below #[Value.ref a] s) (F0 m 293 ls []) := by
  obtain ⟨hI, hgp, hRT, hRP, hRK, hRE, hRF⟩ := hLI
  refine lv_aload_n hx hb dL_law_293 rfl (lv_at hl 2 rfl) ?_
  refine lv_aload_n hx hb dL_law_294 rfl (lv_at hl 3 rfl) ?_
  refine lv_iload_n hx hb dL_law_295 rfl (lv_at hl 0 rfl) ?_
  refine lv_iconst (v := 1) hx hb dL_law_296 (by decide) ?_
  refine lv_iadd hx hb dL_law_297 ?_
  refine lv_topi (fun x1 ex1 => ?_)
  have tx1 : x1.toInt = y3.toInt + 1 := m_addI ex1 (rfl : y3.toInt = _) (by decide : (1 : Int32).toInt = 1) (by omega) (by omega)
  refine va_sld hx hb hX hbl hbA hW.2.2.1 (m_ixI (rfl : x1.toInt = _) (by omega) (by omega)) dL_law_298 ?_
  refine lv_topi (fun x2 ex2 => ?_)
  refine m_aI hW (m_runV (As := [.int x2]) (rest := []) hx hb hml hown hts hW (0) (g_X11_pitch l D cy b (fun g => [1].contains g) μ rfl x2 μ (IY.rf hI)) mi_X11_pitch k_L_28 rfl rfl rfl hl.1 rfl (Nat.le_of_ble_eq_true rfl) dL_law_299 ⟨Nat.le_of_ble_eq_true rfl, Nat.le_of_ble_eq_true rfl⟩ ⟨Nat.le_of_ble_eq_true rfl, Nat.le_of_ble_eq_true rfl⟩) (fun x3 μ3 H locs q3 hW => ?_)
  have hI0 := hI
  obtain ⟨hJ3, q3⟩ := q3
  have hI := hJ3.1
  have hgp := hgp.fr hJ3 rfl rfl
  have hRT := hRT.fr hJ3 rfl rfl
  have hRP := hRP.fr hJ3 rfl rfl
  have hRK := hRK.fr hJ3 rfl rfl
  have hRE := hRE.fr hJ3 rfl rfl
  have hRF := hRF.fr hJ3 rfl
  refine lv_pop hx hb dL_law_302 rfl ?_
  refine lv_aload_n hx hb dL_law_303 rfl (lv_at hl 1 rfl) ?_
  refine lv_aload_n hx hb dL_law_304 rfl (lv_at hl 3 rfl) ?_
  refine lv_iload_n hx hb dL_law_305 rfl (lv_at hl 0 rfl) ?_
  refine lv_iconst (v := 1) hx hb dL_law_306 (by decide) ?_
  refine lv_iadd hx hb dL_law_307 ?_
  refine lv_topi (fun x4 ex4 => ?_)
  have ex4 : x4 = x1 := ex4.trans ex1.symm
  have ex4 := ex4.symm
  subst ex4
  refine va_sld hx hb hX hbl hbA hW.2.2.1 (m_ixI (rfl : x1.toInt = _) (by omega) (by omega)) dL_law_308 ?_
  refine lv_topi (fun x5 ex5 => ?_)
  have ex5 : x5 = x2 := ex5.trans ex2.symm
  have ex5 := ex5.symm
  subst ex5
  refine m_aI hW (m_runV (As := [.int x2]) (rest := []) hx hb hml hown hts hW (81) (g_X12_pitch l D cy b (fun g => [20, 21].contains g) μ3 rfl rfl x2 μ3 (IY.rf hI)) mi_X12_pitch k_L_32 rfl rfl rfl hl.1 rfl (Nat.le_of_ble_eq_true rfl) dL_law_309 ⟨Nat.le_of_ble_eq_true rfl, Nat.le_of_ble_eq_true rfl⟩ ⟨Nat.le_of_ble_eq_true rfl, Nat.le_of_ble_eq_true rfl⟩) (fun x6 μ6 H locs q6 hW => ?_)
  obtain ⟨hJ6, q6⟩ := q6
  have hI := hJ6.1
  have hgp := hgp.fr hJ6 rfl rfl
  have hRT := hRT.fr hJ6 rfl rfl
  have hRP := hRP.fr hJ6 rfl rfl
  have hRK := hRK.fr hJ6 rfl rfl
  have hRE := hRE.fr hJ6 rfl rfl
  have hRF := hRF.fr hJ6 rfl
  refine lv_pop hx hb dL_law_312 rfl ?_
  refine lv_goto (tgt := 860) hx hb dL_law_313 (by decide) ?_
  exact O _ ⟨hI, hgp, ⟨hRT, hRP, hRK, hRE, hRF⟩⟩ _ _ hW _ hl
set_option maxHeartbeats 4000000 in
set_option maxRecDepth 100000 in
theorem law_4 {p : Program} {e : Env} {s : State} {m : MethodId} {below : List Frame} {meth : Method} {c : Code} {l : Launch} {a L : Nat} {xs : Nat → Int32} {D : va_G} {cy : Nat → ClassId} {b oq oa ov : Nat} (hx : p.tables.exec = Jvm.exec) (hb : c.code = cL_law) (hr : meth.sig.returnType = ret) (hml : c.maxLocals = 4) (hown : s.vm.findClass RL = some m.cls) (hts : ∀ w ∈ TB, w.before #[Value.ref a] s = true) (hlocks : meth.locks = false) (hL : L ≤ 3072) (hX : va_X a L xs s s.heap) (hbl : a < s.heap.size) (hbA : ¬ (fun q => b ≤ q) a) (hbz : s.heap.size = b) (hO : m_O (fun q => b ≤ q) oq oa ov s s.heap) (y3 : Int32) (hy : 0 ≤ y3.toInt ∧ y3.toInt + 6 ≤ (L : Int)) (O : ∀ (μ : mM) (_ : m_LI μ) (H : Heap) (locs : List Loc) (_ : m_W D cy s b LAY μ H locs) (ls : Array Slot) (_ : lv_has ls 4 [(3, .int y3), (2, .ref (b + 81)), (1, .ref (b + 0)), (0, .ref a)]), W p l e room_1 s m #[Value.ref a] below meth c H locs (0 + 1 + 80 + 1 + 47) (0 + 11 + 14956 + 74 + 38526) (lw_Z below #[Value.ref a] s) (F0 m 860 ls [])) {μ : mM} (hLI : m_LI μ) {H : Heap} {locs : List Loc} (hW : m_W D cy s b LAY μ H locs) {ls : Array Slot} (hl : lv_has ls 4 [(3, .int y3), (2, .ref (b + 81)), (1, .ref (b + 0)), (0, .ref a)]) : W p l e room_1 s m #[Value.ref a] below meth c H locs (0 + 1 + 80 + 1 + 47) (0 + 11 + 14956 + 74 + 38526) (lw_Z below #[Value.ref a] s) (F0 m 316 ls []) := by
  obtain ⟨hI, hgp, hRT, hRP, hRK, hRE, hRF⟩ := hLI
  refine lv_aload_n hx hb dL_law_316 rfl (lv_at hl 2 rfl) ?_
  refine lv_aload_n hx hb dL_law_317 rfl (lv_at hl 3 rfl) ?_
  refine lv_iload_n hx hb dL_law_318 rfl (lv_at hl 0 rfl) ?_
  refine lv_iconst (v := 1) hx hb dL_law_319 (by decide) ?_
  refine lv_iadd hx hb dL_law_320 ?_
  refine lv_topi (fun x1 ex1 => ?_)
  have tx1 : x1.toInt = y3.toInt + 1 := m_addI ex1 (rfl : y3.toInt = _) (by decide : (1 : Int32).toInt = 1) (by omega) (by omega)
  refine va_sld hx hb hX hbl hbA hW.2.2.1 (m_ixI (rfl : x1.toInt = _) (by omega) (by omega)) dL_law_321 ?_
  refine lv_topi (fun x2 ex2 => ?_)
  refine lv_aload_n hx hb dL_law_322 rfl (lv_at hl 3 rfl) ?_
  refine lv_iload_n hx hb dL_law_323 rfl (lv_at hl 0 rfl) ?_
  refine lv_iconst (v := 2) hx hb dL_law_324 (by decide) ?_
  refine lv_iadd hx hb dL_law_325 ?_
  refine lv_topi (fun x3 ex3 => ?_)
  have tx3 : x3.toInt = y3.toInt + 2 := m_addI ex3 (rfl : y3.toInt = _) (by decide : (2 : Int32).toInt = 2) (by omega) (by omega)
  refine va_sld hx hb hX hbl hbA hW.2.2.1 (m_ixI (rfl : x3.toInt = _) (by omega) (by omega)) dL_law_326 ?_
  refine lv_topi (fun x4 ex4 => ?_)
  refine lv_aload_n hx hb dL_law_327 rfl (lv_at hl 3 rfl) ?_
  refine lv_iload_n hx hb dL_law_328 rfl (lv_at hl 0 rfl) ?_
  refine lv_iconst (v := 3) hx hb dL_law_329 (by decide) ?_
  refine lv_iadd hx hb dL_law_330 ?_
  refine lv_topi (fun x5 ex5 => ?_)
  have tx5 : x5.toInt = y3.toInt + 3 := m_addI ex5 (rfl : y3.toInt = _) (by decide : (3 : Int32).toInt = 3) (by omega) (by omega)
  refine va_sld hx hb hX hbl hbA hW.2.2.1 (m_ixI (rfl : x5.toInt = _) (by omega) (by omega)) dL_law_331 ?_
  refine lv_topi (fun x6 ex6 => ?_)
  refine lv_aload_n hx hb dL_law_332 rfl (lv_at hl 3 rfl) ?_
  refine lv_iload_n hx hb dL_law_333 rfl (lv_at hl 0 rfl) ?_
  refine lv_iconst (v := 4) hx hb dL_law_334 (by decide) ?_
  refine lv_iadd hx hb dL_law_335 ?_
  refine lv_topi (fun x7 ex7 => ?_)
  have tx7 : x7.toInt = y3.toInt + 4 := m_addI ex7 (rfl : y3.toInt = _) (by decide : (4 : Int32).toInt = 4) (by omega) (by omega)
  refine va_sld hx hb hX hbl hbA hW.2.2.1 (m_ixI (rfl : x7.toInt = _) (by omega) (by omega)) dL_law_336 ?_
  refine lv_topi (fun x8 ex8 => ?_)
  refine lv_aload_n hx hb dL_law_337 rfl (lv_at hl 3 rfl) ?_
  refine lv_iload_n hx hb dL_law_338 rfl (lv_at hl 0 rfl) ?_
  refine lv_iconst (v := 5) hx hb dL_law_339 (by decide) ?_
  refine lv_iadd hx hb dL_law_340 ?_
  refine lv_topi (fun x9 ex9 => ?_)
  have tx9 : x9.toInt = y3.toInt + 5 := m_addI ex9 (rfl : y3.toInt = _) (by decide : (5 : Int32).toInt = 5) (by omega) (by omega)
  refine va_sld hx hb hX hbl hbA hW.2.2.1 (m_ixI (rfl : x9.toInt = _) (by omega) (by omega)) dL_law_341 ?_
  refine lv_topi (fun x10 ex10 => ?_)
  refine m_aI hW (m_runV (As := [.int x2, .int x4, .int x6, .int x8, .int x10]) (rest := []) hx hb hml hown hts hW (0) (g_X11_feed_f l D cy b (fun g => [3].contains g) μ rfl (μ.1 23 1) (hI 23 1 0 400 rfl) x2 x4 x6 x8 x10 μ (IY.rf hI) rfl) mi_X11_feed k_L_33 rfl rfl rfl hl.1 rfl (Nat.le_of_ble_eq_true rfl) dL_law_342 ⟨Nat.le_of_ble_eq_true rfl, Nat.le_of_ble_eq_true rfl⟩ ⟨Nat.le_of_ble_eq_true rfl, Nat.le_of_ble_eq_true rfl⟩) (fun x11 μ11 H locs q11 hW => ?_)
  have hI0 := hI
  obtain ⟨hJ11, q11⟩ := q11
  have hI := hJ11.1
  have hgp := hgp.fr hJ11 rfl rfl
  have hRP := hRP.fr hJ11 rfl rfl
  have hRK := hRK.fr hJ11 rfl rfl
  have hRE := hRE.fr hJ11 rfl rfl
  have hRF := hRF.fr hJ11 rfl
  refine lv_pop hx hb dL_law_345 rfl ?_
  refine lv_aload_n hx hb dL_law_346 rfl (lv_at hl 1 rfl) ?_
  refine lv_aload_n hx hb dL_law_347 rfl (lv_at hl 3 rfl) ?_
  refine lv_iload_n hx hb dL_law_348 rfl (lv_at hl 0 rfl) ?_
  refine lv_iconst (v := 1) hx hb dL_law_349 (by decide) ?_
  refine lv_iadd hx hb dL_law_350 ?_
  refine lv_topi (fun x12 ex12 => ?_)
  have ex12 : x12 = x1 := ex12.trans ex1.symm
  have ex12 := ex12.symm
  subst ex12
  refine va_sld hx hb hX hbl hbA hW.2.2.1 (m_ixI (rfl : x1.toInt = _) (by omega) (by omega)) dL_law_351 ?_
  refine lv_topi (fun x13 ex13 => ?_)
  have ex13 : x13 = x2 := ex13.trans ex2.symm
  have ex13 := ex13.symm
  subst ex13
  refine lv_aload_n hx hb dL_law_352 rfl (lv_at hl 3 rfl) ?_
  refine lv_iload_n hx hb dL_law_353 rfl (lv_at hl 0 rfl) ?_
  refine lv_iconst (v := 2) hx hb dL_law_354 (by decide) ?_
  refine lv_iadd hx hb dL_law_355 ?_
  refine lv_topi (fun x14 ex14 => ?_)
  have ex14 : x14 = x3 := ex14.trans ex3.symm
  have ex14 := ex14.symm
  subst ex14
  refine va_sld hx hb hX hbl hbA hW.2.2.1 (m_ixI (rfl : x3.toInt = _) (by omega) (by omega)) dL_law_356 ?_
  refine lv_topi (fun x15 ex15 => ?_)
  have ex15 : x15 = x4 := ex15.trans ex4.symm
  have ex15 := ex15.symm
  subst ex15
  refine lv_aload_n hx hb dL_law_357 rfl (lv_at hl 3 rfl) ?_
  refine lv_iload_n hx hb dL_law_358 rfl (lv_at hl 0 rfl) ?_
  refine lv_iconst (v := 3) hx hb dL_law_359 (by decide) ?_
  refine lv_iadd hx hb dL_law_360 ?_
  refine lv_topi (fun x16 ex16 => ?_)
  have ex16 : x16 = x5 := ex16.trans ex5.symm
  have ex16 := ex16.symm
  subst ex16
  refine va_sld hx hb hX hbl hbA hW.2.2.1 (m_ixI (rfl : x5.toInt = _) (by omega) (by omega)) dL_law_361 ?_
  refine lv_topi (fun x17 ex17 => ?_)
  have ex17 : x17 = x6 := ex17.trans ex6.symm
  have ex17 := ex17.symm
  subst ex17
  refine lv_aload_n hx hb dL_law_362 rfl (lv_at hl 3 rfl) ?_
  refine lv_iload_n hx hb dL_law_363 rfl (lv_at hl 0 rfl) ?_
  refine lv_iconst (v := 4) hx hb dL_law_364 (by decide) ?_
  refine lv_iadd hx hb dL_law_365 ?_
  refine lv_topi (fun x18 ex18 => ?_)
  have ex18 : x18 = x7 := ex18.trans ex7.symm
  have ex18 := ex18.symm
  subst ex18
  refine va_sld hx hb hX hbl hbA hW.2.2.1 (m_ixI (rfl : x7.toInt = _) (by omega) (by omega)) dL_law_366 ?_
  refine lv_topi (fun x19 ex19 => ?_)
  have ex19 : x19 = x8 := ex19.trans ex8.symm
  have ex19 := ex19.symm
  subst ex19
  refine lv_aload_n hx hb dL_law_367 rfl (lv_at hl 3 rfl) ?_
  refine lv_iload_n hx hb dL_law_368 rfl (lv_at hl 0 rfl) ?_
  refine lv_iconst (v := 5) hx hb dL_law_369 (by decide) ?_
  refine lv_iadd hx hb dL_law_370 ?_
  refine lv_topi (fun x20 ex20 => ?_)
  have ex20 : x20 = x9 := ex20.trans ex9.symm
  have ex20 := ex20.symm
  subst ex20
  refine va_sld hx hb hX hbl hbA hW.2.2.1 (m_ixI (rfl : x9.toInt = _) (by omega) (by omega)) dL_law_371 ?_
  refine lv_topi (fun x21 ex21 => ?_)
  have ex21 : x21 = x10 := ex21.trans ex10.symm
  have ex21 := ex21.symm
  subst ex21
  refine m_aI hW (m_runV (As := [.int x2, .int x4, .int x6, .int x8, .int x10]) (rest := []) hx hb hml hown hts hW (81) (g_X12_feed_f l D cy b (fun g => [20, 23].contains g) μ11 rfl rfl (μ11.1 81 35) (hI 81 35 0 400 rfl) x2 x4 x6 x8 x10 μ11 (IY.rf hI) rfl) mi_X12_feed k_L_37 rfl rfl rfl hl.1 rfl (Nat.le_of_ble_eq_true rfl) dL_law_372 ⟨Nat.le_of_ble_eq_true rfl, Nat.le_of_ble_eq_true rfl⟩ ⟨Nat.le_of_ble_eq_true rfl, Nat.le_of_ble_eq_true rfl⟩) (fun x22 μ22 H locs q22 hW => ?_)
  obtain ⟨hJ22, q22⟩ := q22
  have hI := hJ22.1
  have hgp := hgp.fr hJ22 rfl rfl
  have hRP := hRP.fr hJ22 rfl rfl
  have hRK := hRK.fr hJ22 rfl rfl
  have hRE := hRE.fr hJ22 rfl rfl
  obtain ⟨hRT, hc⟩ := hRT.feed (hI0 81 35 0 400 rfl).1 q11 q22 hJ11 rfl hJ22 rfl
  have hRF := hRF.fr hJ22 rfl
  refine lv_pop hx hb dL_law_375 rfl ?_
  refine lv_goto (tgt := 860) hx hb dL_law_376 (by decide) ?_
  exact O _ ⟨hI, hgp, ⟨hRT, hRP, hRK, hRE, hRF⟩⟩ _ _ hW _ hl
set_option maxHeartbeats 4000000 in
set_option maxRecDepth 100000 in
theorem law_5 {p : Program} {e : Env} {s : State} {m : MethodId} {below : List Frame} {meth : Method} {c : Code} {l : Launch} {a L : Nat} {xs : Nat → Int32} {D : va_G} {cy : Nat → ClassId} {b oq oa ov : Nat} (hx : p.tables.exec = Jvm.exec) (hb : c.code = cL_law) (hr : meth.sig.returnType = ret) (hml : c.maxLocals = 4) (hown : s.vm.findClass RL = some m.cls) (hts : ∀ w ∈ TB, w.before #[Value.ref a] s = true) (hlocks : meth.locks = false) (hL : L ≤ 3072) (hX : va_X a L xs s s.heap) (hbl : a < s.heap.size) (hbA : ¬ (fun q => b ≤ q) a) (hbz : s.heap.size = b) (hO : m_O (fun q => b ≤ q) oq oa ov s s.heap) (y3 : Int32) (hy : 0 ≤ y3.toInt ∧ y3.toInt + 6 ≤ (L : Int)) (O : ∀ (μ : mM) (_ : m_LI μ) (H : Heap) (locs : List Loc) (_ : m_W D cy s b LAY μ H locs) (ls : Array Slot) (_ : lv_has ls 4 [(3, .int y3), (2, .ref (b + 81)), (1, .ref (b + 0)), (0, .ref a)]), W p l e room_1 s m #[Value.ref a] below meth c H locs (0 + 1 + 80 + 1 + 47) (0 + 11 + 14956 + 74 + 38526) (lw_Z below #[Value.ref a] s) (F0 m 860 ls [])) {μ : mM} (hLI : m_LI μ) {H : Heap} {locs : List Loc} (hW : m_W D cy s b LAY μ H locs) {ls : Array Slot} (hl : lv_has ls 4 [(3, .int y3), (2, .ref (b + 81)), (1, .ref (b + 0)), (0, .ref a)]) : W p l e room_1 s m #[Value.ref a] below meth c H locs (0 + 1 + 80 + 1 + 47) (0 + 11 + 14956 + 74 + 38526) (lw_Z below #[Value.ref a] s) (F0 m 379 ls []) := by
  obtain ⟨hI, hgp, hRT, hRP, hRK, hRE, hRF⟩ := hLI
  refine lv_aload_n hx hb dL_law_379 rfl (lv_at hl 2 rfl) ?_
  refine lv_aload_n hx hb dL_law_380 rfl (lv_at hl 3 rfl) ?_
  refine lv_iload_n hx hb dL_law_381 rfl (lv_at hl 0 rfl) ?_
  refine lv_iconst (v := 1) hx hb dL_law_382 (by decide) ?_
  refine lv_iadd hx hb dL_law_383 ?_
  refine lv_topi (fun x1 ex1 => ?_)
  have tx1 : x1.toInt = y3.toInt + 1 := m_addI ex1 (rfl : y3.toInt = _) (by decide : (1 : Int32).toInt = 1) (by omega) (by omega)
  refine va_sld hx hb hX hbl hbA hW.2.2.1 (m_ixI (rfl : x1.toInt = _) (by omega) (by omega)) dL_law_384 ?_
  refine lv_topi (fun x2 ex2 => ?_)
  refine m_aI hW (m_runV (As := [.int x2]) (rest := []) hx hb hml hown hts hW (0) (g_X11_end_f l D cy b (fun g => [3].contains g) μ rfl (μ.1 23 1) (hI 23 1 0 400 rfl) x2 μ (IY.rf hI) rfl) mi_X11_end k_L_38 rfl rfl rfl hl.1 rfl (Nat.le_of_ble_eq_true rfl) dL_law_385 ⟨Nat.le_of_ble_eq_true rfl, Nat.le_of_ble_eq_true rfl⟩ ⟨Nat.le_of_ble_eq_true rfl, Nat.le_of_ble_eq_true rfl⟩) (fun x3 μ3 H locs q3 hW => ?_)
  have hI0 := hI
  obtain ⟨hJ3, q3⟩ := q3
  have hI := hJ3.1
  have hgp := hgp.fr hJ3 rfl rfl
  have hRP := hRP.fr hJ3 rfl rfl
  have hRK := hRK.fr hJ3 rfl rfl
  have hRE := hRE.fr hJ3 rfl rfl
  have hRF := hRF.fr hJ3 rfl
  refine lv_pop hx hb dL_law_388 rfl ?_
  refine lv_aload_n hx hb dL_law_389 rfl (lv_at hl 1 rfl) ?_
  refine lv_aload_n hx hb dL_law_390 rfl (lv_at hl 3 rfl) ?_
  refine lv_iload_n hx hb dL_law_391 rfl (lv_at hl 0 rfl) ?_
  refine lv_iconst (v := 1) hx hb dL_law_392 (by decide) ?_
  refine lv_iadd hx hb dL_law_393 ?_
  refine lv_topi (fun x4 ex4 => ?_)
  have ex4 : x4 = x1 := ex4.trans ex1.symm
  have ex4 := ex4.symm
  subst ex4
  refine va_sld hx hb hX hbl hbA hW.2.2.1 (m_ixI (rfl : x1.toInt = _) (by omega) (by omega)) dL_law_394 ?_
  refine lv_topi (fun x5 ex5 => ?_)
  have ex5 : x5 = x2 := ex5.trans ex2.symm
  have ex5 := ex5.symm
  subst ex5
  refine m_aI hW (m_runV (As := [.int x2]) (rest := []) hx hb hml hown hts hW (81) (g_X12_end_f l D cy b (fun g => [20, 23].contains g) μ3 rfl rfl (μ3.1 81 35) (hI 81 35 0 400 rfl) x2 μ3 (IY.rf hI) rfl) mi_X12_end k_L_41 rfl rfl rfl hl.1 rfl (Nat.le_of_ble_eq_true rfl) dL_law_395 ⟨Nat.le_of_ble_eq_true rfl, Nat.le_of_ble_eq_true rfl⟩ ⟨Nat.le_of_ble_eq_true rfl, Nat.le_of_ble_eq_true rfl⟩) (fun x6 μ6 H locs q6 hW => ?_)
  obtain ⟨hJ6, q6⟩ := q6
  have hI := hJ6.1
  have hgp := hgp.fr hJ6 rfl rfl
  have hRP := hRP.fr hJ6 rfl rfl
  have hRK := hRK.fr hJ6 rfl rfl
  have hRE := hRE.fr hJ6 rfl rfl
  obtain ⟨hRT, hc⟩ := hRT.end_ q3 q6 hJ3 rfl hJ6 rfl
  have hRF := hRF.fr hJ6 rfl
  refine lv_pop hx hb dL_law_398 rfl ?_
  refine lv_goto (tgt := 860) hx hb dL_law_399 (by decide) ?_
  exact O _ ⟨hI, hgp, ⟨hRT, hRP, hRK, hRE, hRF⟩⟩ _ _ hW _ hl
set_option maxHeartbeats 4000000 in
set_option maxRecDepth 100000 in
theorem law_6 {p : Program} {e : Env} {s : State} {m : MethodId} {below : List Frame} {meth : Method} {c : Code} {l : Launch} {a L : Nat} {xs : Nat → Int32} {D : va_G} {cy : Nat → ClassId} {b oq oa ov : Nat} (hx : p.tables.exec = Jvm.exec) (hb : c.code = cL_law) (hr : meth.sig.returnType = ret) (hml : c.maxLocals = 4) (hown : s.vm.findClass RL = some m.cls) (hts : ∀ w ∈ TB, w.before #[Value.ref a] s = true) (hlocks : meth.locks = false) (hL : L ≤ 3072) (hX : va_X a L xs s s.heap) (hbl : a < s.heap.size) (hbA : ¬ (fun q => b ≤ q) a) (hbz : s.heap.size = b) (hO : m_O (fun q => b ≤ q) oq oa ov s s.heap) (y3 : Int32) (hy : 0 ≤ y3.toInt ∧ y3.toInt + 6 ≤ (L : Int)) (O : ∀ (μ : mM) (_ : m_LI μ) (H : Heap) (locs : List Loc) (_ : m_W D cy s b LAY μ H locs) (ls : Array Slot) (_ : lv_has ls 4 [(3, .int y3), (2, .ref (b + 81)), (1, .ref (b + 0)), (0, .ref a)]), W p l e room_1 s m #[Value.ref a] below meth c H locs (0 + 1 + 80 + 1 + 47) (0 + 11 + 14956 + 74 + 38526) (lw_Z below #[Value.ref a] s) (F0 m 860 ls [])) {μ : mM} (hLI : m_LI μ) {H : Heap} {locs : List Loc} (hW : m_W D cy s b LAY μ H locs) {ls : Array Slot} (hl : lv_has ls 4 [(3, .int y3), (2, .ref (b + 81)), (1, .ref (b + 0)), (0, .ref a)]) : W p l e room_1 s m #[Value.ref a] below meth c H locs (0 + 1 + 80 + 1 + 47) (0 + 11 + 14956 + 74 + 38526) (lw_Z below #[Value.ref a] s) (F0 m 402 ls []) := by
  obtain ⟨hI, hgp, hRT, hRP, hRK, hRE, hRF⟩ := hLI
  refine lv_aload_n hx hb dL_law_402 rfl (lv_at hl 2 rfl) ?_
  refine lv_aload_n hx hb dL_law_403 rfl (lv_at hl 3 rfl) ?_
  refine lv_iload_n hx hb dL_law_404 rfl (lv_at hl 0 rfl) ?_
  refine lv_iconst (v := 1) hx hb dL_law_405 (by decide) ?_
  refine lv_iadd hx hb dL_law_406 ?_
  refine lv_topi (fun x1 ex1 => ?_)
  have tx1 : x1.toInt = y3.toInt + 1 := m_addI ex1 (rfl : y3.toInt = _) (by decide : (1 : Int32).toInt = 1) (by omega) (by omega)
  refine va_sld hx hb hX hbl hbA hW.2.2.1 (m_ixI (rfl : x1.toInt = _) (by omega) (by omega)) dL_law_407 ?_
  refine lv_topi (fun x2 ex2 => ?_)
  refine m_aI hW (m_runVOL (As := [.int x2]) (rest := []) hx hb hml hown hts hW hO (0) (g_X11_way_f l D cy b oq oa ov (fun g => [0, 2, 3, 5].contains g) μ rfl rfl rfl rfl x2 μ (IY.rf hI)) mi_X11_way k_L_42 rfl rfl rfl hl.1 rfl (Nat.le_of_ble_eq_true rfl) dL_law_408 ⟨Nat.le_of_ble_eq_true rfl, Nat.le_of_ble_eq_true rfl⟩ ⟨Nat.le_of_ble_eq_true rfl, Nat.le_of_ble_eq_true rfl⟩) (fun x3 μ3 H locs q3 hW => ?_)
  have hI0 := hI
  obtain ⟨hJ3, q3⟩ := q3
  have hI := hJ3.1
  have hgp := hgp.fr hJ3 rfl rfl
  have hRP := hRP.fr hJ3 rfl rfl
  have hRK := hRK.fr hJ3 rfl rfl
  have hRE := hRE.fr hJ3 rfl rfl
  have hRF := hRF.fr hJ3 rfl
  refine lv_pop hx hb dL_law_411 rfl ?_
  refine lv_aload_n hx hb dL_law_412 rfl (lv_at hl 1 rfl) ?_
  refine lv_aload_n hx hb dL_law_413 rfl (lv_at hl 3 rfl) ?_
  refine lv_iload_n hx hb dL_law_414 rfl (lv_at hl 0 rfl) ?_
  refine lv_iconst (v := 1) hx hb dL_law_415 (by decide) ?_
  refine lv_iadd hx hb dL_law_416 ?_
  refine lv_topi (fun x4 ex4 => ?_)
  have ex4 : x4 = x1 := ex4.trans ex1.symm
  have ex4 := ex4.symm
  subst ex4
  refine va_sld hx hb hX hbl hbA hW.2.2.1 (m_ixI (rfl : x1.toInt = _) (by omega) (by omega)) dL_law_417 ?_
  refine lv_topi (fun x5 ex5 => ?_)
  have ex5 : x5 = x2 := ex5.trans ex2.symm
  have ex5 := ex5.symm
  subst ex5
  refine m_aI hW (m_runV (As := [.int x2]) (rest := []) hx hb hml hown hts hW (81) (g_X12_way_f l D cy b (fun g => [20, 23, 26, 24, 25, 33, 34, 35, 36, 41].contains g) μ3 rfl rfl rfl rfl rfl rfl rfl rfl rfl rfl x2 μ3 (IY.rf hI) hgp) mi_X12_way k_L_45 rfl rfl rfl hl.1 rfl (Nat.le_of_ble_eq_true rfl) dL_law_418 ⟨Nat.le_of_ble_eq_true rfl, Nat.le_of_ble_eq_true rfl⟩ ⟨Nat.le_of_ble_eq_true rfl, Nat.le_of_ble_eq_true rfl⟩) (fun x6 μ6 H locs q6 hW => ?_)
  obtain ⟨hJ6, q6⟩ := q6
  have hI := hJ6.1
  obtain ⟨q6, hgp⟩ := q6
  have hRP := hRP.fr hJ6 rfl rfl
  have hRK := hRK.fr hJ6 rfl rfl
  have hRE := hRE.fr hJ6 rfl rfl
  have hRT := m_RT.zero q3.2 q6.2 hJ6 rfl
  have hRF := hRF.fr hJ6 rfl
  refine lv_pop hx hb dL_law_421 rfl ?_
  refine lv_goto (tgt := 860) hx hb dL_law_422 (by decide) ?_
  exact O _ ⟨hI, hgp, ⟨hRT, hRP, hRK, hRE, hRF⟩⟩ _ _ hW _ hl
set_option maxHeartbeats 4000000 in
set_option maxRecDepth 100000 in
theorem law_7 {p : Program} {e : Env} {s : State} {m : MethodId} {below : List Frame} {meth : Method} {c : Code} {l : Launch} {a L : Nat} {xs : Nat → Int32} {D : va_G} {cy : Nat → ClassId} {b oq oa ov : Nat} (hx : p.tables.exec = Jvm.exec) (hb : c.code = cL_law) (hr : meth.sig.returnType = ret) (hml : c.maxLocals = 4) (hown : s.vm.findClass RL = some m.cls) (hts : ∀ w ∈ TB, w.before #[Value.ref a] s = true) (hlocks : meth.locks = false) (hL : L ≤ 3072) (hX : va_X a L xs s s.heap) (hbl : a < s.heap.size) (hbA : ¬ (fun q => b ≤ q) a) (hbz : s.heap.size = b) (hO : m_O (fun q => b ≤ q) oq oa ov s s.heap) (y3 : Int32) (hy : 0 ≤ y3.toInt ∧ y3.toInt + 6 ≤ (L : Int)) (O : ∀ (μ : mM) (_ : m_LI μ) (H : Heap) (locs : List Loc) (_ : m_W D cy s b LAY μ H locs) (ls : Array Slot) (_ : lv_has ls 4 [(3, .int y3), (2, .ref (b + 81)), (1, .ref (b + 0)), (0, .ref a)]), W p l e room_1 s m #[Value.ref a] below meth c H locs (0 + 1 + 80 + 1 + 47) (0 + 11 + 14956 + 74 + 38526) (lw_Z below #[Value.ref a] s) (F0 m 860 ls [])) {μ : mM} (hLI : m_LI μ) {H : Heap} {locs : List Loc} (hW : m_W D cy s b LAY μ H locs) {ls : Array Slot} (hl : lv_has ls 4 [(3, .int y3), (2, .ref (b + 81)), (1, .ref (b + 0)), (0, .ref a)]) : W p l e room_1 s m #[Value.ref a] below meth c H locs (0 + 1 + 80 + 1 + 47) (0 + 11 + 14956 + 74 + 38526) (lw_Z below #[Value.ref a] s) (F0 m 425 ls []) := by
  obtain ⟨hI, hgp, hRT, hRP, hRK, hRE, hRF⟩ := hLI
  refine lv_aload_n hx hb dL_law_425 rfl (lv_at hl 2 rfl) ?_
  refine lv_aload_n hx hb dL_law_426 rfl (lv_at hl 3 rfl) ?_
  refine lv_iload_n hx hb dL_law_427 rfl (lv_at hl 0 rfl) ?_
  refine lv_iconst (v := 1) hx hb dL_law_428 (by decide) ?_
  refine lv_iadd hx hb dL_law_429 ?_
  refine lv_topi (fun x1 ex1 => ?_)
  have tx1 : x1.toInt = y3.toInt + 1 := m_addI ex1 (rfl : y3.toInt = _) (by decide : (1 : Int32).toInt = 1) (by omega) (by omega)
  refine va_sld hx hb hX hbl hbA hW.2.2.1 (m_ixI (rfl : x1.toInt = _) (by omega) (by omega)) dL_law_430 ?_
  refine lv_topi (fun x2 ex2 => ?_)
  refine m_aI hW (m_runV (As := [.int x2]) (rest := []) hx hb hml hown hts hW (0) (g_X11_fault l D cy b x2 μ hI) mi_X11_fault k_L_46 rfl rfl rfl hl.1 rfl (Nat.le_of_ble_eq_true rfl) dL_law_431 ⟨Nat.le_of_ble_eq_true rfl, Nat.le_of_ble_eq_true rfl⟩ ⟨Nat.le_of_ble_eq_true rfl, Nat.le_of_ble_eq_true rfl⟩) (fun x3 μ3 H locs q3 hW => ?_)
  have hI0 := hI
  obtain ⟨q3_m, q3⟩ := q3
  subst q3_m
  refine lv_pop hx hb dL_law_434 rfl ?_
  refine lv_aload_n hx hb dL_law_435 rfl (lv_at hl 1 rfl) ?_
  refine lv_aload_n hx hb dL_law_436 rfl (lv_at hl 3 rfl) ?_
  refine lv_iload_n hx hb dL_law_437 rfl (lv_at hl 0 rfl) ?_
  refine lv_iconst (v := 1) hx hb dL_law_438 (by decide) ?_
  refine lv_iadd hx hb dL_law_439 ?_
  refine lv_topi (fun x4 ex4 => ?_)
  have ex4 : x4 = x1 := ex4.trans ex1.symm
  have ex4 := ex4.symm
  subst ex4
  refine va_sld hx hb hX hbl hbA hW.2.2.1 (m_ixI (rfl : x1.toInt = _) (by omega) (by omega)) dL_law_440 ?_
  refine lv_topi (fun x5 ex5 => ?_)
  have ex5 : x5 = x2 := ex5.trans ex2.symm
  have ex5 := ex5.symm
  subst ex5
  refine m_aI hW (m_runV (As := [.int x2]) (rest := []) hx hb hml hown hts hW (81) (g_X12_fault l D cy b (fun g => [20].contains g) μ rfl x2 μ (IY.rf hI)) mi_X12_fault k_L_50 rfl rfl rfl hl.1 rfl (Nat.le_of_ble_eq_true rfl) dL_law_441 ⟨Nat.le_of_ble_eq_true rfl, Nat.le_of_ble_eq_true rfl⟩ ⟨Nat.le_of_ble_eq_true rfl, Nat.le_of_ble_eq_true rfl⟩) (fun x6 μ6 H locs q6 hW => ?_)
  obtain ⟨hJ6, q6⟩ := q6
  have hI := hJ6.1
  have hgp := hgp.fr hJ6 rfl rfl
  have hRT := hRT.fr hJ6 rfl rfl
  have hRP := hRP.fr hJ6 rfl rfl
  have hRK := hRK.fr hJ6 rfl rfl
  have hRE := hRE.fr hJ6 rfl rfl
  have hRF := hRF.fr hJ6 rfl
  refine lv_pop hx hb dL_law_444 rfl ?_
  refine lv_goto (tgt := 860) hx hb dL_law_445 (by decide) ?_
  exact O _ ⟨hI, hgp, ⟨hRT, hRP, hRK, hRE, hRF⟩⟩ _ _ hW _ hl
set_option maxHeartbeats 4000000 in
set_option maxRecDepth 100000 in
theorem law_8 {p : Program} {e : Env} {s : State} {m : MethodId} {below : List Frame} {meth : Method} {c : Code} {l : Launch} {a L : Nat} {xs : Nat → Int32} {D : va_G} {cy : Nat → ClassId} {b oq oa ov : Nat} (hx : p.tables.exec = Jvm.exec) (hb : c.code = cL_law) (hr : meth.sig.returnType = ret) (hml : c.maxLocals = 4) (hown : s.vm.findClass RL = some m.cls) (hts : ∀ w ∈ TB, w.before #[Value.ref a] s = true) (hlocks : meth.locks = false) (hL : L ≤ 3072) (hX : va_X a L xs s s.heap) (hbl : a < s.heap.size) (hbA : ¬ (fun q => b ≤ q) a) (hbz : s.heap.size = b) (hO : m_O (fun q => b ≤ q) oq oa ov s s.heap) (y3 : Int32) (hy : 0 ≤ y3.toInt ∧ y3.toInt + 6 ≤ (L : Int)) (O : ∀ (μ : mM) (_ : m_LI μ) (H : Heap) (locs : List Loc) (_ : m_W D cy s b LAY μ H locs) (ls : Array Slot) (_ : lv_has ls 4 [(3, .int y3), (2, .ref (b + 81)), (1, .ref (b + 0)), (0, .ref a)]), W p l e room_1 s m #[Value.ref a] below meth c H locs (0 + 1 + 80 + 1 + 47) (0 + 11 + 14956 + 74 + 38526) (lw_Z below #[Value.ref a] s) (F0 m 860 ls [])) {μ : mM} (hLI : m_LI μ) {H : Heap} {locs : List Loc} (hW : m_W D cy s b LAY μ H locs) {ls : Array Slot} (hl : lv_has ls 4 [(3, .int y3), (2, .ref (b + 81)), (1, .ref (b + 0)), (0, .ref a)]) : W p l e room_1 s m #[Value.ref a] below meth c H locs (0 + 1 + 80 + 1 + 47) (0 + 11 + 14956 + 74 + 38526) (lw_Z below #[Value.ref a] s) (F0 m 448 ls []) := by
  obtain ⟨hI, hgp, hRT, hRP, hRK, hRE, hRF⟩ := hLI
  refine lv_aload_n hx hb dL_law_448 rfl (lv_at hl 2 rfl) ?_
  refine lv_aload_n hx hb dL_law_449 rfl (lv_at hl 3 rfl) ?_
  refine lv_iload_n hx hb dL_law_450 rfl (lv_at hl 0 rfl) ?_
  refine lv_iconst (v := 1) hx hb dL_law_451 (by decide) ?_
  refine lv_iadd hx hb dL_law_452 ?_
  refine lv_topi (fun x1 ex1 => ?_)
  have tx1 : x1.toInt = y3.toInt + 1 := m_addI ex1 (rfl : y3.toInt = _) (by decide : (1 : Int32).toInt = 1) (by omega) (by omega)
  refine va_sld hx hb hX hbl hbA hW.2.2.1 (m_ixI (rfl : x1.toInt = _) (by omega) (by omega)) dL_law_453 ?_
  refine lv_topi (fun x2 ex2 => ?_)
  refine m_aI hW (m_runV (As := [.int x2]) (rest := []) hx hb hml hown hts hW (0) (g_X11_run l D cy b (fun g => [6, 7].contains g) μ rfl rfl x2 μ (IY.rf hI)) mi_X11_run k_L_51 rfl rfl rfl hl.1 rfl (Nat.le_of_ble_eq_true rfl) dL_law_454 ⟨Nat.le_of_ble_eq_true rfl, Nat.le_of_ble_eq_true rfl⟩ ⟨Nat.le_of_ble_eq_true rfl, Nat.le_of_ble_eq_true rfl⟩) (fun x3 μ3 H locs q3 hW => ?_)
  have hI0 := hI
  obtain ⟨hJ3, q3⟩ := q3
  have hI := hJ3.1
  have hgp := hgp.fr hJ3 rfl rfl
  have hRT := hRT.fr hJ3 rfl rfl
  have hRP := hRP.fr hJ3 rfl rfl
  have hRK := hRK.fr hJ3 rfl rfl
  have hRE := hRE.fr hJ3 rfl rfl
  have hRF := hRF.fr hJ3 rfl
  refine lv_pop hx hb dL_law_457 rfl ?_
  refine lv_aload_n hx hb dL_law_458 rfl (lv_at hl 1 rfl) ?_
  refine lv_aload_n hx hb dL_law_459 rfl (lv_at hl 3 rfl) ?_
  refine lv_iload_n hx hb dL_law_460 rfl (lv_at hl 0 rfl) ?_
  refine lv_iconst (v := 1) hx hb dL_law_461 (by decide) ?_
  refine lv_iadd hx hb dL_law_462 ?_
  refine lv_topi (fun x4 ex4 => ?_)
  have ex4 : x4 = x1 := ex4.trans ex1.symm
  have ex4 := ex4.symm
  subst ex4
  refine va_sld hx hb hX hbl hbA hW.2.2.1 (m_ixI (rfl : x1.toInt = _) (by omega) (by omega)) dL_law_463 ?_
  refine lv_topi (fun x5 ex5 => ?_)
  have ex5 : x5 = x2 := ex5.trans ex2.symm
  have ex5 := ex5.symm
  subst ex5
  refine m_aI hW (m_runV (As := [.int x2]) (rest := []) hx hb hml hown hts hW (81) (g_X12_run l D cy b (fun g => [20, 22, 32, 27, 37, 38].contains g) μ3 rfl rfl rfl rfl rfl rfl x2 μ3 (IY.rf hI) hgp) mi_X12_run k_L_54 rfl rfl rfl hl.1 rfl (Nat.le_of_ble_eq_true rfl) dL_law_464 ⟨Nat.le_of_ble_eq_true rfl, Nat.le_of_ble_eq_true rfl⟩ ⟨Nat.le_of_ble_eq_true rfl, Nat.le_of_ble_eq_true rfl⟩) (fun x6 μ6 H locs q6 hW => ?_)
  obtain ⟨hJ6, q6⟩ := q6
  have hI := hJ6.1
  have hgp := hgp.fr hJ6 rfl rfl
  have hRT := hRT.fr hJ6 rfl rfl
  have hRP := hRP.fr hJ6 rfl rfl
  have hRK := hRK.fr hJ6 rfl rfl
  have hRE := hRE.fr hJ6 rfl rfl
  have hRF := hRF.fr hJ6 rfl
  refine lv_pop hx hb dL_law_467 rfl ?_
  refine lv_goto (tgt := 860) hx hb dL_law_468 (by decide) ?_
  exact O _ ⟨hI, hgp, ⟨hRT, hRP, hRK, hRE, hRF⟩⟩ _ _ hW _ hl
set_option maxHeartbeats 4000000 in
set_option maxRecDepth 100000 in
theorem law_9 {p : Program} {e : Env} {s : State} {m : MethodId} {below : List Frame} {meth : Method} {c : Code} {l : Launch} {a L : Nat} {xs : Nat → Int32} {D : va_G} {cy : Nat → ClassId} {b oq oa ov : Nat} (hx : p.tables.exec = Jvm.exec) (hb : c.code = cL_law) (hr : meth.sig.returnType = ret) (hml : c.maxLocals = 4) (hown : s.vm.findClass RL = some m.cls) (hts : ∀ w ∈ TB, w.before #[Value.ref a] s = true) (hlocks : meth.locks = false) (hL : L ≤ 3072) (hX : va_X a L xs s s.heap) (hbl : a < s.heap.size) (hbA : ¬ (fun q => b ≤ q) a) (hbz : s.heap.size = b) (hO : m_O (fun q => b ≤ q) oq oa ov s s.heap) (y3 : Int32) (hy : 0 ≤ y3.toInt ∧ y3.toInt + 6 ≤ (L : Int)) (O : ∀ (μ : mM) (_ : m_LI μ) (H : Heap) (locs : List Loc) (_ : m_W D cy s b LAY μ H locs) (ls : Array Slot) (_ : lv_has ls 4 [(3, .int y3), (2, .ref (b + 81)), (1, .ref (b + 0)), (0, .ref a)]), W p l e room_1 s m #[Value.ref a] below meth c H locs (0 + 1 + 80 + 1 + 47) (0 + 11 + 14956 + 74 + 38526) (lw_Z below #[Value.ref a] s) (F0 m 860 ls [])) {μ : mM} (hLI : m_LI μ) {H : Heap} {locs : List Loc} (hW : m_W D cy s b LAY μ H locs) {ls : Array Slot} (hl : lv_has ls 4 [(3, .int y3), (2, .ref (b + 81)), (1, .ref (b + 0)), (0, .ref a)]) : W p l e room_1 s m #[Value.ref a] below meth c H locs (0 + 1 + 80 + 1 + 47) (0 + 11 + 14956 + 74 + 38526) (lw_Z below #[Value.ref a] s) (F0 m 471 ls []) := by
  obtain ⟨hI, hgp, hRT, hRP, hRK, hRE, hRF⟩ := hLI
  refine lv_aload_n hx hb dL_law_471 rfl (lv_at hl 2 rfl) ?_
  refine lv_aload_n hx hb dL_law_472 rfl (lv_at hl 3 rfl) ?_
  refine lv_iload_n hx hb dL_law_473 rfl (lv_at hl 0 rfl) ?_
  refine lv_iconst (v := 1) hx hb dL_law_474 (by decide) ?_
  refine lv_iadd hx hb dL_law_475 ?_
  refine lv_topi (fun x1 ex1 => ?_)
  have tx1 : x1.toInt = y3.toInt + 1 := m_addI ex1 (rfl : y3.toInt = _) (by decide : (1 : Int32).toInt = 1) (by omega) (by omega)
  refine va_sld hx hb hX hbl hbA hW.2.2.1 (m_ixI (rfl : x1.toInt = _) (by omega) (by omega)) dL_law_476 ?_
  refine lv_topi (fun x2 ex2 => ?_)
  refine lv_aload_n hx hb dL_law_477 rfl (lv_at hl 3 rfl) ?_
  refine lv_iload_n hx hb dL_law_478 rfl (lv_at hl 0 rfl) ?_
  refine lv_iconst (v := 2) hx hb dL_law_479 (by decide) ?_
  refine lv_iadd hx hb dL_law_480 ?_
  refine lv_topi (fun x3 ex3 => ?_)
  have tx3 : x3.toInt = y3.toInt + 2 := m_addI ex3 (rfl : y3.toInt = _) (by decide : (2 : Int32).toInt = 2) (by omega) (by omega)
  refine va_sld hx hb hX hbl hbA hW.2.2.1 (m_ixI (rfl : x3.toInt = _) (by omega) (by omega)) dL_law_481 ?_
  refine lv_topi (fun x4 ex4 => ?_)
  refine lv_aload_n hx hb dL_law_482 rfl (lv_at hl 3 rfl) ?_
  refine lv_iload_n hx hb dL_law_483 rfl (lv_at hl 0 rfl) ?_
  refine lv_iconst (v := 3) hx hb dL_law_484 (by decide) ?_
  refine lv_iadd hx hb dL_law_485 ?_
  refine lv_topi (fun x5 ex5 => ?_)
  have tx5 : x5.toInt = y3.toInt + 3 := m_addI ex5 (rfl : y3.toInt = _) (by decide : (3 : Int32).toInt = 3) (by omega) (by omega)
  refine va_sld hx hb hX hbl hbA hW.2.2.1 (m_ixI (rfl : x5.toInt = _) (by omega) (by omega)) dL_law_486 ?_
  refine lv_topi (fun x6 ex6 => ?_)
  refine m_aI hW (m_runV (As := [.int x2, .int x4, .int x6]) (rest := []) hx hb hml hown hts hW (0) (g_X11_cell l D cy b (fun g => [6].contains g) μ rfl x2 x4 x6 μ (IY.rf hI)) mi_X11_cell k_L_55 rfl rfl rfl hl.1 rfl (Nat.le_of_ble_eq_true rfl) dL_law_487 ⟨Nat.le_of_ble_eq_true rfl, Nat.le_of_ble_eq_true rfl⟩ ⟨Nat.le_of_ble_eq_true rfl, Nat.le_of_ble_eq_true rfl⟩) (fun x7 μ7 H locs q7 hW => ?_)
  have hI0 := hI
  obtain ⟨hJ7, q7⟩ := q7
  have hI := hJ7.1
  have hgp := hgp.fr hJ7 rfl rfl
  have hRT := hRT.fr hJ7 rfl rfl
  have hRP := hRP.fr hJ7 rfl rfl
  have hRK := hRK.fr hJ7 rfl rfl
  have hRE := hRE.fr hJ7 rfl rfl
  have hRF := hRF.fr hJ7 rfl
  refine lv_pop hx hb dL_law_490 rfl ?_
  refine lv_aload_n hx hb dL_law_491 rfl (lv_at hl 1 rfl) ?_
  refine lv_aload_n hx hb dL_law_492 rfl (lv_at hl 3 rfl) ?_
  refine lv_iload_n hx hb dL_law_493 rfl (lv_at hl 0 rfl) ?_
  refine lv_iconst (v := 1) hx hb dL_law_494 (by decide) ?_
  refine lv_iadd hx hb dL_law_495 ?_
  refine lv_topi (fun x8 ex8 => ?_)
  have ex8 : x8 = x1 := ex8.trans ex1.symm
  have ex8 := ex8.symm
  subst ex8
  refine va_sld hx hb hX hbl hbA hW.2.2.1 (m_ixI (rfl : x1.toInt = _) (by omega) (by omega)) dL_law_496 ?_
  refine lv_topi (fun x9 ex9 => ?_)
  have ex9 : x9 = x2 := ex9.trans ex2.symm
  have ex9 := ex9.symm
  subst ex9
  refine lv_aload_n hx hb dL_law_497 rfl (lv_at hl 3 rfl) ?_
  refine lv_iload_n hx hb dL_law_498 rfl (lv_at hl 0 rfl) ?_
  refine lv_iconst (v := 2) hx hb dL_law_499 (by decide) ?_
  refine lv_iadd hx hb dL_law_500 ?_
  refine lv_topi (fun x10 ex10 => ?_)
  have ex10 : x10 = x3 := ex10.trans ex3.symm
  have ex10 := ex10.symm
  subst ex10
  refine va_sld hx hb hX hbl hbA hW.2.2.1 (m_ixI (rfl : x3.toInt = _) (by omega) (by omega)) dL_law_501 ?_
  refine lv_topi (fun x11 ex11 => ?_)
  have ex11 : x11 = x4 := ex11.trans ex4.symm
  have ex11 := ex11.symm
  subst ex11
  refine lv_aload_n hx hb dL_law_502 rfl (lv_at hl 3 rfl) ?_
  refine lv_iload_n hx hb dL_law_503 rfl (lv_at hl 0 rfl) ?_
  refine lv_iconst (v := 3) hx hb dL_law_504 (by decide) ?_
  refine lv_iadd hx hb dL_law_505 ?_
  refine lv_topi (fun x12 ex12 => ?_)
  have ex12 : x12 = x5 := ex12.trans ex5.symm
  have ex12 := ex12.symm
  subst ex12
  refine va_sld hx hb hX hbl hbA hW.2.2.1 (m_ixI (rfl : x5.toInt = _) (by omega) (by omega)) dL_law_506 ?_
  refine lv_topi (fun x13 ex13 => ?_)
  have ex13 : x13 = x6 := ex13.trans ex6.symm
  have ex13 := ex13.symm
  subst ex13
  refine m_aI hW (m_runV (As := [.int x2, .int x4, .int x6]) (rest := []) hx hb hml hown hts hW (81) (g_X12_cell l D cy b (fun g => [20, 22, 32].contains g) μ7 rfl rfl rfl x2 x4 x6 μ7 (IY.rf hI)) mi_X12_cell k_L_59 rfl rfl rfl hl.1 rfl (Nat.le_of_ble_eq_true rfl) dL_law_507 ⟨Nat.le_of_ble_eq_true rfl, Nat.le_of_ble_eq_true rfl⟩ ⟨Nat.le_of_ble_eq_true rfl, Nat.le_of_ble_eq_true rfl⟩) (fun x14 μ14 H locs q14 hW => ?_)
  obtain ⟨hJ14, q14⟩ := q14
  have hI := hJ14.1
  have hgp := hgp.fr hJ14 rfl rfl
  have hRT := hRT.fr hJ14 rfl rfl
  have hRP := hRP.fr hJ14 rfl rfl
  have hRK := hRK.fr hJ14 rfl rfl
  have hRE := hRE.fr hJ14 rfl rfl
  have hRF := hRF.fr hJ14 rfl
  refine lv_pop hx hb dL_law_510 rfl ?_
  refine lv_goto (tgt := 860) hx hb dL_law_511 (by decide) ?_
  exact O _ ⟨hI, hgp, ⟨hRT, hRP, hRK, hRE, hRF⟩⟩ _ _ hW _ hl
set_option maxHeartbeats 4000000 in
set_option maxRecDepth 100000 in
theorem law_10 {p : Program} {e : Env} {s : State} {m : MethodId} {below : List Frame} {meth : Method} {c : Code} {l : Launch} {a L : Nat} {xs : Nat → Int32} {D : va_G} {cy : Nat → ClassId} {b oq oa ov : Nat} (hx : p.tables.exec = Jvm.exec) (hb : c.code = cL_law) (hr : meth.sig.returnType = ret) (hml : c.maxLocals = 4) (hown : s.vm.findClass RL = some m.cls) (hts : ∀ w ∈ TB, w.before #[Value.ref a] s = true) (hlocks : meth.locks = false) (hL : L ≤ 3072) (hX : va_X a L xs s s.heap) (hbl : a < s.heap.size) (hbA : ¬ (fun q => b ≤ q) a) (hbz : s.heap.size = b) (hO : m_O (fun q => b ≤ q) oq oa ov s s.heap) (y3 : Int32) (hy : 0 ≤ y3.toInt ∧ y3.toInt + 6 ≤ (L : Int)) (O : ∀ (μ : mM) (_ : m_LI μ) (H : Heap) (locs : List Loc) (_ : m_W D cy s b LAY μ H locs) (ls : Array Slot) (_ : lv_has ls 4 [(3, .int y3), (2, .ref (b + 81)), (1, .ref (b + 0)), (0, .ref a)]), W p l e room_1 s m #[Value.ref a] below meth c H locs (0 + 1 + 80 + 1 + 47) (0 + 11 + 14956 + 74 + 38526) (lw_Z below #[Value.ref a] s) (F0 m 860 ls [])) {μ : mM} (hLI : m_LI μ) {H : Heap} {locs : List Loc} (hW : m_W D cy s b LAY μ H locs) {ls : Array Slot} (hl : lv_has ls 4 [(3, .int y3), (2, .ref (b + 81)), (1, .ref (b + 0)), (0, .ref a)]) : W p l e room_1 s m #[Value.ref a] below meth c H locs (0 + 1 + 80 + 1 + 47) (0 + 11 + 14956 + 74 + 38526) (lw_Z below #[Value.ref a] s) (F0 m 514 ls []) := by
  obtain ⟨hI, hgp, hRT, hRP, hRK, hRE, hRF⟩ := hLI
  refine lv_aload_n hx hb dL_law_514 rfl (lv_at hl 2 rfl) ?_
  refine lv_aload_n hx hb dL_law_515 rfl (lv_at hl 3 rfl) ?_
  refine lv_iload_n hx hb dL_law_516 rfl (lv_at hl 0 rfl) ?_
  refine lv_iconst (v := 1) hx hb dL_law_517 (by decide) ?_
  refine lv_iadd hx hb dL_law_518 ?_
  refine lv_topi (fun x1 ex1 => ?_)
  have tx1 : x1.toInt = y3.toInt + 1 := m_addI ex1 (rfl : y3.toInt = _) (by decide : (1 : Int32).toInt = 1) (by omega) (by omega)
  refine va_sld hx hb hX hbl hbA hW.2.2.1 (m_ixI (rfl : x1.toInt = _) (by omega) (by omega)) dL_law_519 ?_
  refine lv_topi (fun x2 ex2 => ?_)
  refine m_aI hW (m_runV (As := [.int x2]) (rest := []) hx hb hml hown hts hW (0) (g_X11_look l D cy b (fun g => [6].contains g) μ rfl x2 μ (IY.rf hI)) mi_X11_look k_L_60 rfl rfl rfl hl.1 rfl (Nat.le_of_ble_eq_true rfl) dL_law_520 ⟨Nat.le_of_ble_eq_true rfl, Nat.le_of_ble_eq_true rfl⟩ ⟨Nat.le_of_ble_eq_true rfl, Nat.le_of_ble_eq_true rfl⟩) (fun x3 μ3 H locs q3 hW => ?_)
  have hI0 := hI
  obtain ⟨hJ3, q3⟩ := q3
  have hI := hJ3.1
  have hgp := hgp.fr hJ3 rfl rfl
  have hRT := hRT.fr hJ3 rfl rfl
  have hRP := hRP.fr hJ3 rfl rfl
  have hRK := hRK.fr hJ3 rfl rfl
  have hRE := hRE.fr hJ3 rfl rfl
  have hRF := hRF.fr hJ3 rfl
  refine lv_pop hx hb dL_law_523 rfl ?_
  refine lv_aload_n hx hb dL_law_524 rfl (lv_at hl 1 rfl) ?_
  refine lv_aload_n hx hb dL_law_525 rfl (lv_at hl 3 rfl) ?_
  refine lv_iload_n hx hb dL_law_526 rfl (lv_at hl 0 rfl) ?_
  refine lv_iconst (v := 1) hx hb dL_law_527 (by decide) ?_
  refine lv_iadd hx hb dL_law_528 ?_
  refine lv_topi (fun x4 ex4 => ?_)
  have ex4 : x4 = x1 := ex4.trans ex1.symm
  have ex4 := ex4.symm
  subst ex4
  refine va_sld hx hb hX hbl hbA hW.2.2.1 (m_ixI (rfl : x1.toInt = _) (by omega) (by omega)) dL_law_529 ?_
  refine lv_topi (fun x5 ex5 => ?_)
  have ex5 : x5 = x2 := ex5.trans ex2.symm
  have ex5 := ex5.symm
  subst ex5
  refine m_aI hW (m_runV (As := [.int x2]) (rest := []) hx hb hml hown hts hW (81) (g_X12_look l D cy b (fun g => [20, 22, 32].contains g) μ3 rfl rfl rfl x2 μ3 (IY.rf hI)) mi_X12_look k_L_63 rfl rfl rfl hl.1 rfl (Nat.le_of_ble_eq_true rfl) dL_law_530 ⟨Nat.le_of_ble_eq_true rfl, Nat.le_of_ble_eq_true rfl⟩ ⟨Nat.le_of_ble_eq_true rfl, Nat.le_of_ble_eq_true rfl⟩) (fun x6 μ6 H locs q6 hW => ?_)
  obtain ⟨hJ6, q6⟩ := q6
  have hI := hJ6.1
  have hgp := hgp.fr hJ6 rfl rfl
  have hRT := hRT.fr hJ6 rfl rfl
  have hRP := hRP.fr hJ6 rfl rfl
  have hRK := hRK.fr hJ6 rfl rfl
  have hRE := hRE.fr hJ6 rfl rfl
  have hRF := hRF.fr hJ6 rfl
  refine lv_pop hx hb dL_law_533 rfl ?_
  refine lv_goto (tgt := 860) hx hb dL_law_534 (by decide) ?_
  exact O _ ⟨hI, hgp, ⟨hRT, hRP, hRK, hRE, hRF⟩⟩ _ _ hW _ hl
set_option maxHeartbeats 4000000 in
set_option maxRecDepth 100000 in
theorem law_11 {p : Program} {e : Env} {s : State} {m : MethodId} {below : List Frame} {meth : Method} {c : Code} {l : Launch} {a L : Nat} {xs : Nat → Int32} {D : va_G} {cy : Nat → ClassId} {b oq oa ov : Nat} (hx : p.tables.exec = Jvm.exec) (hb : c.code = cL_law) (hr : meth.sig.returnType = ret) (hml : c.maxLocals = 4) (hown : s.vm.findClass RL = some m.cls) (hts : ∀ w ∈ TB, w.before #[Value.ref a] s = true) (hlocks : meth.locks = false) (hL : L ≤ 3072) (hX : va_X a L xs s s.heap) (hbl : a < s.heap.size) (hbA : ¬ (fun q => b ≤ q) a) (hbz : s.heap.size = b) (hO : m_O (fun q => b ≤ q) oq oa ov s s.heap) (y3 : Int32) (hy : 0 ≤ y3.toInt ∧ y3.toInt + 6 ≤ (L : Int)) (O : ∀ (μ : mM) (_ : m_LI μ) (H : Heap) (locs : List Loc) (_ : m_W D cy s b LAY μ H locs) (ls : Array Slot) (_ : lv_has ls 4 [(3, .int y3), (2, .ref (b + 81)), (1, .ref (b + 0)), (0, .ref a)]), W p l e room_1 s m #[Value.ref a] below meth c H locs (0 + 1 + 80 + 1 + 47) (0 + 11 + 14956 + 74 + 38526) (lw_Z below #[Value.ref a] s) (F0 m 860 ls [])) {μ : mM} (hLI : m_LI μ) {H : Heap} {locs : List Loc} (hW : m_W D cy s b LAY μ H locs) {ls : Array Slot} (hl : lv_has ls 4 [(3, .int y3), (2, .ref (b + 81)), (1, .ref (b + 0)), (0, .ref a)]) : W p l e room_1 s m #[Value.ref a] below meth c H locs (0 + 1 + 80 + 1 + 47) (0 + 11 + 14956 + 74 + 38526) (lw_Z below #[Value.ref a] s) (F0 m 537 ls []) := by
  obtain ⟨hI, hgp, hRT, hRP, hRK, hRE, hRF⟩ := hLI
  refine lv_aload_n hx hb dL_law_537 rfl (lv_at hl 2 rfl) ?_
  refine lv_aload_n hx hb dL_law_538 rfl (lv_at hl 3 rfl) ?_
  refine lv_iload_n hx hb dL_law_539 rfl (lv_at hl 0 rfl) ?_
  refine lv_iconst (v := 1) hx hb dL_law_540 (by decide) ?_
  refine lv_iadd hx hb dL_law_541 ?_
  refine lv_topi (fun x1 ex1 => ?_)
  have tx1 : x1.toInt = y3.toInt + 1 := m_addI ex1 (rfl : y3.toInt = _) (by decide : (1 : Int32).toInt = 1) (by omega) (by omega)
  refine va_sld hx hb hX hbl hbA hW.2.2.1 (m_ixI (rfl : x1.toInt = _) (by omega) (by omega)) dL_law_542 ?_
  refine lv_topi (fun x2 ex2 => ?_)
  refine m_aL hW (m_runV (As := [.int x2]) (rest := []) hx hb hml hown hts hW (0) (g_X11_heat l D cy b (fun g => [6].contains g) μ rfl x2 μ (IY.rf hI)) mi_X11_heat k_L_64 rfl rfl rfl hl.1 rfl (Nat.le_of_ble_eq_true rfl) dL_law_543 ⟨Nat.le_of_ble_eq_true rfl, Nat.le_of_ble_eq_true rfl⟩ ⟨Nat.le_of_ble_eq_true rfl, Nat.le_of_ble_eq_true rfl⟩) (fun x3 μ3 H locs q3 hW => ?_)
  have hI0 := hI
  obtain ⟨hJ3, q3⟩ := q3
  have hI := hJ3.1
  have hgp := hgp.fr hJ3 rfl rfl
  have hRT := hRT.fr hJ3 rfl rfl
  have hRP := hRP.fr hJ3 rfl rfl
  have hRK := hRK.fr hJ3 rfl rfl
  have hRE := hRE.fr hJ3 rfl rfl
  have hRF := hRF.fr hJ3 rfl
  refine lv_pop2_2 hx hb dL_law_546 rfl ?_
  refine lv_aload_n hx hb dL_law_547 rfl (lv_at hl 1 rfl) ?_
  refine lv_aload_n hx hb dL_law_548 rfl (lv_at hl 3 rfl) ?_
  refine lv_iload_n hx hb dL_law_549 rfl (lv_at hl 0 rfl) ?_
  refine lv_iconst (v := 1) hx hb dL_law_550 (by decide) ?_
  refine lv_iadd hx hb dL_law_551 ?_
  refine lv_topi (fun x4 ex4 => ?_)
  have ex4 : x4 = x1 := ex4.trans ex1.symm
  have ex4 := ex4.symm
  subst ex4
  refine va_sld hx hb hX hbl hbA hW.2.2.1 (m_ixI (rfl : x1.toInt = _) (by omega) (by omega)) dL_law_552 ?_
  refine lv_topi (fun x5 ex5 => ?_)
  have ex5 : x5 = x2 := ex5.trans ex2.symm
  have ex5 := ex5.symm
  subst ex5
  refine m_aL hW (m_runV (As := [.int x2]) (rest := []) hx hb hml hown hts hW (81) (g_X12_heat l D cy b (fun g => [20].contains g) μ3 rfl x2 μ3 (IY.rf hI)) mi_X12_heat k_L_68 rfl rfl rfl hl.1 rfl (Nat.le_of_ble_eq_true rfl) dL_law_553 ⟨Nat.le_of_ble_eq_true rfl, Nat.le_of_ble_eq_true rfl⟩ ⟨Nat.le_of_ble_eq_true rfl, Nat.le_of_ble_eq_true rfl⟩) (fun x6 μ6 H locs q6 hW => ?_)
  obtain ⟨hJ6, q6⟩ := q6
  have hI := hJ6.1
  have hgp := hgp.fr hJ6 rfl rfl
  have hRT := hRT.fr hJ6 rfl rfl
  have hRP := hRP.fr hJ6 rfl rfl
  have hRK := hRK.fr hJ6 rfl rfl
  have hRE := hRE.fr hJ6 rfl rfl
  have hRF := hRF.fr hJ6 rfl
  refine lv_pop2_2 hx hb dL_law_556 rfl ?_
  refine lv_goto (tgt := 860) hx hb dL_law_557 (by decide) ?_
  exact O _ ⟨hI, hgp, ⟨hRT, hRP, hRK, hRE, hRF⟩⟩ _ _ hW _ hl
set_option maxHeartbeats 4000000 in
set_option maxRecDepth 100000 in
theorem law_12 {p : Program} {e : Env} {s : State} {m : MethodId} {below : List Frame} {meth : Method} {c : Code} {l : Launch} {a L : Nat} {xs : Nat → Int32} {D : va_G} {cy : Nat → ClassId} {b oq oa ov : Nat} (hx : p.tables.exec = Jvm.exec) (hb : c.code = cL_law) (hr : meth.sig.returnType = ret) (hml : c.maxLocals = 4) (hown : s.vm.findClass RL = some m.cls) (hts : ∀ w ∈ TB, w.before #[Value.ref a] s = true) (hlocks : meth.locks = false) (hL : L ≤ 3072) (hX : va_X a L xs s s.heap) (hbl : a < s.heap.size) (hbA : ¬ (fun q => b ≤ q) a) (hbz : s.heap.size = b) (hO : m_O (fun q => b ≤ q) oq oa ov s s.heap) (y3 : Int32) (hy : 0 ≤ y3.toInt ∧ y3.toInt + 6 ≤ (L : Int)) (O : ∀ (μ : mM) (_ : m_LI μ) (H : Heap) (locs : List Loc) (_ : m_W D cy s b LAY μ H locs) (ls : Array Slot) (_ : lv_has ls 4 [(3, .int y3), (2, .ref (b + 81)), (1, .ref (b + 0)), (0, .ref a)]), W p l e room_1 s m #[Value.ref a] below meth c H locs (0 + 1 + 80 + 1 + 47) (0 + 11 + 14956 + 74 + 38526) (lw_Z below #[Value.ref a] s) (F0 m 860 ls [])) {μ : mM} (hLI : m_LI μ) {H : Heap} {locs : List Loc} (hW : m_W D cy s b LAY μ H locs) {ls : Array Slot} (hl : lv_has ls 4 [(3, .int y3), (2, .ref (b + 81)), (1, .ref (b + 0)), (0, .ref a)]) : W p l e room_1 s m #[Value.ref a] below meth c H locs (0 + 1 + 80 + 1 + 47) (0 + 11 + 14956 + 74 + 38526) (lw_Z below #[Value.ref a] s) (F0 m 560 ls []) := by
  obtain ⟨hI, hgp, hRT, hRP, hRK, hRE, hRF⟩ := hLI
  refine lv_aload_n hx hb dL_law_560 rfl (lv_at hl 2 rfl) ?_
  refine lv_aload_n hx hb dL_law_561 rfl (lv_at hl 3 rfl) ?_
  refine lv_iload_n hx hb dL_law_562 rfl (lv_at hl 0 rfl) ?_
  refine lv_iconst (v := 1) hx hb dL_law_563 (by decide) ?_
  refine lv_iadd hx hb dL_law_564 ?_
  refine lv_topi (fun x1 ex1 => ?_)
  have tx1 : x1.toInt = y3.toInt + 1 := m_addI ex1 (rfl : y3.toInt = _) (by decide : (1 : Int32).toInt = 1) (by omega) (by omega)
  refine va_sld hx hb hX hbl hbA hW.2.2.1 (m_ixI (rfl : x1.toInt = _) (by omega) (by omega)) dL_law_565 ?_
  refine lv_topi (fun x2 ex2 => ?_)
  refine lv_aload_n hx hb dL_law_566 rfl (lv_at hl 3 rfl) ?_
  refine lv_iload_n hx hb dL_law_567 rfl (lv_at hl 0 rfl) ?_
  refine lv_iconst (v := 2) hx hb dL_law_568 (by decide) ?_
  refine lv_iadd hx hb dL_law_569 ?_
  refine lv_topi (fun x3 ex3 => ?_)
  have tx3 : x3.toInt = y3.toInt + 2 := m_addI ex3 (rfl : y3.toInt = _) (by decide : (2 : Int32).toInt = 2) (by omega) (by omega)
  refine va_sld hx hb hX hbl hbA hW.2.2.1 (m_ixI (rfl : x3.toInt = _) (by omega) (by omega)) dL_law_570 ?_
  refine lv_topi (fun x4 ex4 => ?_)
  refine m_aI hW (m_runVOL (As := [.int x2, .int x4]) (rest := []) hx hb hml hown hts hW hO (0) (g_X11_order l D cy b oq oa ov (fun g => [8].contains g) μ rfl x2 x4 μ (IY.rf hI)) mi_X11_order k_L_69 rfl rfl rfl hl.1 rfl (Nat.le_of_ble_eq_true rfl) dL_law_571 ⟨Nat.le_of_ble_eq_true rfl, Nat.le_of_ble_eq_true rfl⟩ ⟨Nat.le_of_ble_eq_true rfl, Nat.le_of_ble_eq_true rfl⟩) (fun x5 μ5 H locs q5 hW => ?_)
  have hI0 := hI
  obtain ⟨hJ5, q5⟩ := q5
  have hI := hJ5.1
  have hgp := hgp.fr hJ5 rfl rfl
  have hRT := hRT.fr hJ5 rfl rfl
  have hRP := hRP.fr hJ5 rfl rfl
  have hRK := hRK.fr hJ5 rfl rfl
  have hRE := hRE.fr hJ5 rfl rfl
  have hRF := hRF.fr hJ5 rfl
  refine lv_pop hx hb dL_law_574 rfl ?_
  refine lv_aload_n hx hb dL_law_575 rfl (lv_at hl 1 rfl) ?_
  refine lv_aload_n hx hb dL_law_576 rfl (lv_at hl 3 rfl) ?_
  refine lv_iload_n hx hb dL_law_577 rfl (lv_at hl 0 rfl) ?_
  refine lv_iconst (v := 1) hx hb dL_law_578 (by decide) ?_
  refine lv_iadd hx hb dL_law_579 ?_
  refine lv_topi (fun x6 ex6 => ?_)
  have ex6 : x6 = x1 := ex6.trans ex1.symm
  have ex6 := ex6.symm
  subst ex6
  refine va_sld hx hb hX hbl hbA hW.2.2.1 (m_ixI (rfl : x1.toInt = _) (by omega) (by omega)) dL_law_580 ?_
  refine lv_topi (fun x7 ex7 => ?_)
  have ex7 : x7 = x2 := ex7.trans ex2.symm
  have ex7 := ex7.symm
  subst ex7
  refine lv_aload_n hx hb dL_law_581 rfl (lv_at hl 3 rfl) ?_
  refine lv_iload_n hx hb dL_law_582 rfl (lv_at hl 0 rfl) ?_
  refine lv_iconst (v := 2) hx hb dL_law_583 (by decide) ?_
  refine lv_iadd hx hb dL_law_584 ?_
  refine lv_topi (fun x8 ex8 => ?_)
  have ex8 : x8 = x3 := ex8.trans ex3.symm
  have ex8 := ex8.symm
  subst ex8
  refine va_sld hx hb hX hbl hbA hW.2.2.1 (m_ixI (rfl : x3.toInt = _) (by omega) (by omega)) dL_law_585 ?_
  refine lv_topi (fun x9 ex9 => ?_)
  have ex9 : x9 = x4 := ex9.trans ex4.symm
  have ex9 := ex9.symm
  subst ex9
  refine m_aI hW (m_runV (As := [.int x2, .int x4]) (rest := []) hx hb hml hown hts hW (81) (g_X12_order l D cy b (fun g => [20, 22, 32, 27, 37, 38].contains g) μ5 rfl rfl rfl rfl rfl rfl x2 x4 μ5 (IY.rf hI) hgp) mi_X12_order k_L_73 rfl rfl rfl hl.1 rfl (Nat.le_of_ble_eq_true rfl) dL_law_586 ⟨Nat.le_of_ble_eq_true rfl, Nat.le_of_ble_eq_true rfl⟩ ⟨Nat.le_of_ble_eq_true rfl, Nat.le_of_ble_eq_true rfl⟩) (fun x10 μ10 H locs q10 hW => ?_)
  obtain ⟨hJ10, q10⟩ := q10
  have hI := hJ10.1
  have hgp := hgp.fr hJ10 rfl rfl
  have hRT := hRT.fr hJ10 rfl rfl
  have hRP := hRP.fr hJ10 rfl rfl
  have hRK := hRK.fr hJ10 rfl rfl
  have hRE := hRE.fr hJ10 rfl rfl
  have hRF := hRF.fr hJ10 rfl
  refine lv_pop hx hb dL_law_589 rfl ?_
  refine lv_goto (tgt := 860) hx hb dL_law_590 (by decide) ?_
  exact O _ ⟨hI, hgp, ⟨hRT, hRP, hRK, hRE, hRF⟩⟩ _ _ hW _ hl
set_option maxHeartbeats 4000000 in
set_option maxRecDepth 100000 in
theorem law_13 {p : Program} {e : Env} {s : State} {m : MethodId} {below : List Frame} {meth : Method} {c : Code} {l : Launch} {a L : Nat} {xs : Nat → Int32} {D : va_G} {cy : Nat → ClassId} {b oq oa ov : Nat} (hx : p.tables.exec = Jvm.exec) (hb : c.code = cL_law) (hr : meth.sig.returnType = ret) (hml : c.maxLocals = 4) (hown : s.vm.findClass RL = some m.cls) (hts : ∀ w ∈ TB, w.before #[Value.ref a] s = true) (hlocks : meth.locks = false) (hL : L ≤ 3072) (hX : va_X a L xs s s.heap) (hbl : a < s.heap.size) (hbA : ¬ (fun q => b ≤ q) a) (hbz : s.heap.size = b) (hO : m_O (fun q => b ≤ q) oq oa ov s s.heap) (y3 : Int32) (hy : 0 ≤ y3.toInt ∧ y3.toInt + 6 ≤ (L : Int)) (O : ∀ (μ : mM) (_ : m_LI μ) (H : Heap) (locs : List Loc) (_ : m_W D cy s b LAY μ H locs) (ls : Array Slot) (_ : lv_has ls 4 [(3, .int y3), (2, .ref (b + 81)), (1, .ref (b + 0)), (0, .ref a)]), W p l e room_1 s m #[Value.ref a] below meth c H locs (0 + 1 + 80 + 1 + 47) (0 + 11 + 14956 + 74 + 38526) (lw_Z below #[Value.ref a] s) (F0 m 860 ls [])) {μ : mM} (hLI : m_LI μ) {H : Heap} {locs : List Loc} (hW : m_W D cy s b LAY μ H locs) {ls : Array Slot} (hl : lv_has ls 4 [(3, .int y3), (2, .ref (b + 81)), (1, .ref (b + 0)), (0, .ref a)]) : W p l e room_1 s m #[Value.ref a] below meth c H locs (0 + 1 + 80 + 1 + 47) (0 + 11 + 14956 + 74 + 38526) (lw_Z below #[Value.ref a] s) (F0 m 593 ls []) := by
  obtain ⟨hI, hgp, hRT, hRP, hRK, hRE, hRF⟩ := hLI
  refine lv_aload_n hx hb dL_law_593 rfl (lv_at hl 2 rfl) ?_
  refine lv_aload_n hx hb dL_law_594 rfl (lv_at hl 3 rfl) ?_
  refine lv_iload_n hx hb dL_law_595 rfl (lv_at hl 0 rfl) ?_
  refine lv_iconst (v := 1) hx hb dL_law_596 (by decide) ?_
  refine lv_iadd hx hb dL_law_597 ?_
  refine lv_topi (fun x1 ex1 => ?_)
  have tx1 : x1.toInt = y3.toInt + 1 := m_addI ex1 (rfl : y3.toInt = _) (by decide : (1 : Int32).toInt = 1) (by omega) (by omega)
  refine va_sld hx hb hX hbl hbA hW.2.2.1 (m_ixI (rfl : x1.toInt = _) (by omega) (by omega)) dL_law_598 ?_
  refine lv_topi (fun x2 ex2 => ?_)
  refine lv_aload_n hx hb dL_law_599 rfl (lv_at hl 3 rfl) ?_
  refine lv_iload_n hx hb dL_law_600 rfl (lv_at hl 0 rfl) ?_
  refine lv_iconst (v := 2) hx hb dL_law_601 (by decide) ?_
  refine lv_iadd hx hb dL_law_602 ?_
  refine lv_topi (fun x3 ex3 => ?_)
  have tx3 : x3.toInt = y3.toInt + 2 := m_addI ex3 (rfl : y3.toInt = _) (by decide : (2 : Int32).toInt = 2) (by omega) (by omega)
  refine va_sld hx hb hX hbl hbA hW.2.2.1 (m_ixI (rfl : x3.toInt = _) (by omega) (by omega)) dL_law_603 ?_
  refine lv_topi (fun x4 ex4 => ?_)
  refine m_aI hW (m_runV (As := [.int x2, .int x4]) (rest := []) hx hb hml hown hts hW (0) (g_X11_speed l D cy b (fun g => [8].contains g) μ rfl x2 x4 μ (IY.rf hI)) mi_X11_speed k_L_74 rfl rfl rfl hl.1 rfl (Nat.le_of_ble_eq_true rfl) dL_law_604 ⟨Nat.le_of_ble_eq_true rfl, Nat.le_of_ble_eq_true rfl⟩ ⟨Nat.le_of_ble_eq_true rfl, Nat.le_of_ble_eq_true rfl⟩) (fun x5 μ5 H locs q5 hW => ?_)
  have hI0 := hI
  obtain ⟨hJ5, q5⟩ := q5
  have hI := hJ5.1
  have hgp := hgp.fr hJ5 rfl rfl
  have hRT := hRT.fr hJ5 rfl rfl
  have hRP := hRP.fr hJ5 rfl rfl
  have hRK := hRK.fr hJ5 rfl rfl
  have hRE := hRE.fr hJ5 rfl rfl
  have hRF := hRF.fr hJ5 rfl
  refine lv_pop hx hb dL_law_607 rfl ?_
  refine lv_aload_n hx hb dL_law_608 rfl (lv_at hl 1 rfl) ?_
  refine lv_aload_n hx hb dL_law_609 rfl (lv_at hl 3 rfl) ?_
  refine lv_iload_n hx hb dL_law_610 rfl (lv_at hl 0 rfl) ?_
  refine lv_iconst (v := 1) hx hb dL_law_611 (by decide) ?_
  refine lv_iadd hx hb dL_law_612 ?_
  refine lv_topi (fun x6 ex6 => ?_)
  have ex6 : x6 = x1 := ex6.trans ex1.symm
  have ex6 := ex6.symm
  subst ex6
  refine va_sld hx hb hX hbl hbA hW.2.2.1 (m_ixI (rfl : x1.toInt = _) (by omega) (by omega)) dL_law_613 ?_
  refine lv_topi (fun x7 ex7 => ?_)
  have ex7 : x7 = x2 := ex7.trans ex2.symm
  have ex7 := ex7.symm
  subst ex7
  refine lv_aload_n hx hb dL_law_614 rfl (lv_at hl 3 rfl) ?_
  refine lv_iload_n hx hb dL_law_615 rfl (lv_at hl 0 rfl) ?_
  refine lv_iconst (v := 2) hx hb dL_law_616 (by decide) ?_
  refine lv_iadd hx hb dL_law_617 ?_
  refine lv_topi (fun x8 ex8 => ?_)
  have ex8 : x8 = x3 := ex8.trans ex3.symm
  have ex8 := ex8.symm
  subst ex8
  refine va_sld hx hb hX hbl hbA hW.2.2.1 (m_ixI (rfl : x3.toInt = _) (by omega) (by omega)) dL_law_618 ?_
  refine lv_topi (fun x9 ex9 => ?_)
  have ex9 : x9 = x4 := ex9.trans ex4.symm
  have ex9 := ex9.symm
  subst ex9
  refine m_aI hW (m_runV (As := [.int x2, .int x4]) (rest := []) hx hb hml hown hts hW (81) (g_X12_speed l D cy b (fun g => [20, 22, 32, 27, 37].contains g) μ5 rfl rfl rfl rfl rfl x2 x4 μ5 (IY.rf hI)) mi_X12_speed k_L_77 rfl rfl rfl hl.1 rfl (Nat.le_of_ble_eq_true rfl) dL_law_619 ⟨Nat.le_of_ble_eq_true rfl, Nat.le_of_ble_eq_true rfl⟩ ⟨Nat.le_of_ble_eq_true rfl, Nat.le_of_ble_eq_true rfl⟩) (fun x10 μ10 H locs q10 hW => ?_)
  obtain ⟨hJ10, q10⟩ := q10
  have hI := hJ10.1
  have hgp := hgp.fr hJ10 rfl rfl
  have hRT := hRT.fr hJ10 rfl rfl
  have hRP := hRP.fr hJ10 rfl rfl
  have hRK := hRK.fr hJ10 rfl rfl
  have hRE := hRE.fr hJ10 rfl rfl
  have hRF := hRF.fr hJ10 rfl
  refine lv_pop hx hb dL_law_622 rfl ?_
  refine lv_goto (tgt := 860) hx hb dL_law_623 (by decide) ?_
  exact O _ ⟨hI, hgp, ⟨hRT, hRP, hRK, hRE, hRF⟩⟩ _ _ hW _ hl
set_option maxHeartbeats 4000000 in
set_option maxRecDepth 100000 in
theorem law_14 {p : Program} {e : Env} {s : State} {m : MethodId} {below : List Frame} {meth : Method} {c : Code} {l : Launch} {a L : Nat} {xs : Nat → Int32} {D : va_G} {cy : Nat → ClassId} {b oq oa ov : Nat} (hx : p.tables.exec = Jvm.exec) (hb : c.code = cL_law) (hr : meth.sig.returnType = ret) (hml : c.maxLocals = 4) (hown : s.vm.findClass RL = some m.cls) (hts : ∀ w ∈ TB, w.before #[Value.ref a] s = true) (hlocks : meth.locks = false) (hL : L ≤ 3072) (hX : va_X a L xs s s.heap) (hbl : a < s.heap.size) (hbA : ¬ (fun q => b ≤ q) a) (hbz : s.heap.size = b) (hO : m_O (fun q => b ≤ q) oq oa ov s s.heap) (y3 : Int32) (hy : 0 ≤ y3.toInt ∧ y3.toInt + 6 ≤ (L : Int)) (O : ∀ (μ : mM) (_ : m_LI μ) (H : Heap) (locs : List Loc) (_ : m_W D cy s b LAY μ H locs) (ls : Array Slot) (_ : lv_has ls 4 [(3, .int y3), (2, .ref (b + 81)), (1, .ref (b + 0)), (0, .ref a)]), W p l e room_1 s m #[Value.ref a] below meth c H locs (0 + 1 + 80 + 1 + 47) (0 + 11 + 14956 + 74 + 38526) (lw_Z below #[Value.ref a] s) (F0 m 860 ls [])) {μ : mM} (hLI : m_LI μ) {H : Heap} {locs : List Loc} (hW : m_W D cy s b LAY μ H locs) {ls : Array Slot} (hl : lv_has ls 4 [(3, .int y3), (2, .ref (b + 81)), (1, .ref (b + 0)), (0, .ref a)]) : W p l e room_1 s m #[Value.ref a] below meth c H locs (0 + 1 + 80 + 1 + 47) (0 + 11 + 14956 + 74 + 38526) (lw_Z below #[Value.ref a] s) (F0 m 626 ls []) := by
  obtain ⟨hI, hgp, hRT, hRP, hRK, hRE, hRF⟩ := hLI
  refine lv_aload_n hx hb dL_law_626 rfl (lv_at hl 2 rfl) ?_
  refine lv_aload_n hx hb dL_law_627 rfl (lv_at hl 3 rfl) ?_
  refine lv_iload_n hx hb dL_law_628 rfl (lv_at hl 0 rfl) ?_
  refine lv_iconst (v := 1) hx hb dL_law_629 (by decide) ?_
  refine lv_iadd hx hb dL_law_630 ?_
  refine lv_topi (fun x1 ex1 => ?_)
  have tx1 : x1.toInt = y3.toInt + 1 := m_addI ex1 (rfl : y3.toInt = _) (by decide : (1 : Int32).toInt = 1) (by omega) (by omega)
  refine va_sld hx hb hX hbl hbA hW.2.2.1 (m_ixI (rfl : x1.toInt = _) (by omega) (by omega)) dL_law_631 ?_
  refine lv_topi (fun x2 ex2 => ?_)
  refine lv_aload_n hx hb dL_law_632 rfl (lv_at hl 3 rfl) ?_
  refine lv_iload_n hx hb dL_law_633 rfl (lv_at hl 0 rfl) ?_
  refine lv_iconst (v := 2) hx hb dL_law_634 (by decide) ?_
  refine lv_iadd hx hb dL_law_635 ?_
  refine lv_topi (fun x3 ex3 => ?_)
  have tx3 : x3.toInt = y3.toInt + 2 := m_addI ex3 (rfl : y3.toInt = _) (by decide : (2 : Int32).toInt = 2) (by omega) (by omega)
  refine va_sld hx hb hX hbl hbA hW.2.2.1 (m_ixI (rfl : x3.toInt = _) (by omega) (by omega)) dL_law_636 ?_
  refine lv_topi (fun x4 ex4 => ?_)
  refine lv_aload_n hx hb dL_law_637 rfl (lv_at hl 3 rfl) ?_
  refine lv_iload_n hx hb dL_law_638 rfl (lv_at hl 0 rfl) ?_
  refine lv_iconst (v := 3) hx hb dL_law_639 (by decide) ?_
  refine lv_iadd hx hb dL_law_640 ?_
  refine lv_topi (fun x5 ex5 => ?_)
  have tx5 : x5.toInt = y3.toInt + 3 := m_addI ex5 (rfl : y3.toInt = _) (by decide : (3 : Int32).toInt = 3) (by omega) (by omega)
  refine va_sld hx hb hX hbl hbA hW.2.2.1 (m_ixI (rfl : x5.toInt = _) (by omega) (by omega)) dL_law_641 ?_
  refine lv_topi (fun x6 ex6 => ?_)
  refine m_aI hW (m_runV (As := [.int x2, .int x4, .int x6]) (rest := []) hx hb hml hown hts hW (0) (g_X11_kind_g l D cy b (fun g => [9].contains g) μ rfl (μ.1 71 4) (hI 71 4 0 6 rfl) x2 x4 x6 μ (IY.rf hI) rfl hRF) mi_X11_kind k_L_78 rfl rfl rfl hl.1 rfl (Nat.le_of_ble_eq_true rfl) dL_law_642 ⟨Nat.le_of_ble_eq_true rfl, Nat.le_of_ble_eq_true rfl⟩ ⟨Nat.le_of_ble_eq_true rfl, Nat.le_of_ble_eq_true rfl⟩) (fun x7 μ7 H locs q7 hW => ?_)
  have hI0 := hI
  obtain ⟨hJ7, q7⟩ := q7
  have hI := hJ7.1
  have hgp := hgp.fr hJ7 rfl rfl
  have hRT := hRT.fr hJ7 rfl rfl
  have hRP := hRP.fr hJ7 rfl rfl
  have hRE := hRE.fr hJ7 rfl rfl
  obtain ⟨q7, hRF⟩ := q7
  refine lv_pop hx hb dL_law_645 rfl ?_
  refine lv_aload_n hx hb dL_law_646 rfl (lv_at hl 1 rfl) ?_
  refine lv_aload_n hx hb dL_law_647 rfl (lv_at hl 3 rfl) ?_
  refine lv_iload_n hx hb dL_law_648 rfl (lv_at hl 0 rfl) ?_
  refine lv_iconst (v := 1) hx hb dL_law_649 (by decide) ?_
  refine lv_iadd hx hb dL_law_650 ?_
  refine lv_topi (fun x8 ex8 => ?_)
  have ex8 : x8 = x1 := ex8.trans ex1.symm
  have ex8 := ex8.symm
  subst ex8
  refine va_sld hx hb hX hbl hbA hW.2.2.1 (m_ixI (rfl : x1.toInt = _) (by omega) (by omega)) dL_law_651 ?_
  refine lv_topi (fun x9 ex9 => ?_)
  have ex9 : x9 = x2 := ex9.trans ex2.symm
  have ex9 := ex9.symm
  subst ex9
  refine lv_aload_n hx hb dL_law_652 rfl (lv_at hl 3 rfl) ?_
  refine lv_iload_n hx hb dL_law_653 rfl (lv_at hl 0 rfl) ?_
  refine lv_iconst (v := 2) hx hb dL_law_654 (by decide) ?_
  refine lv_iadd hx hb dL_law_655 ?_
  refine lv_topi (fun x10 ex10 => ?_)
  have ex10 : x10 = x3 := ex10.trans ex3.symm
  have ex10 := ex10.symm
  subst ex10
  refine va_sld hx hb hX hbl hbA hW.2.2.1 (m_ixI (rfl : x3.toInt = _) (by omega) (by omega)) dL_law_656 ?_
  refine lv_topi (fun x11 ex11 => ?_)
  have ex11 : x11 = x4 := ex11.trans ex4.symm
  have ex11 := ex11.symm
  subst ex11
  refine lv_aload_n hx hb dL_law_657 rfl (lv_at hl 3 rfl) ?_
  refine lv_iload_n hx hb dL_law_658 rfl (lv_at hl 0 rfl) ?_
  refine lv_iconst (v := 3) hx hb dL_law_659 (by decide) ?_
  refine lv_iadd hx hb dL_law_660 ?_
  refine lv_topi (fun x12 ex12 => ?_)
  have ex12 : x12 = x5 := ex12.trans ex5.symm
  have ex12 := ex12.symm
  subst ex12
  refine va_sld hx hb hX hbl hbA hW.2.2.1 (m_ixI (rfl : x5.toInt = _) (by omega) (by omega)) dL_law_661 ?_
  refine lv_topi (fun x13 ex13 => ?_)
  have ex13 : x13 = x6 := ex13.trans ex6.symm
  have ex13 := ex13.symm
  subst ex13
  refine m_aI hW (m_runV (As := [.int x2, .int x4, .int x6]) (rest := []) hx hb hml hown hts hW (81) (g_X12_kind_f l D cy b (fun g => [20, 28].contains g) μ7 rfl rfl (μ7.1 81 62) (hI 81 62 0 6 rfl) x2 x4 x6 μ7 (IY.rf hI) rfl) mi_X12_kind k_L_81 rfl rfl rfl hl.1 rfl (Nat.le_of_ble_eq_true rfl) dL_law_662 ⟨Nat.le_of_ble_eq_true rfl, Nat.le_of_ble_eq_true rfl⟩ ⟨Nat.le_of_ble_eq_true rfl, Nat.le_of_ble_eq_true rfl⟩) (fun x14 μ14 H locs q14 hW => ?_)
  obtain ⟨hJ14, q14⟩ := q14
  have hI := hJ14.1
  have hgp := hgp.fr hJ14 rfl rfl
  have hRT := hRT.fr hJ14 rfl rfl
  have hRP := hRP.fr hJ14 rfl rfl
  have hRE := hRE.fr hJ14 rfl rfl
  obtain ⟨hRK, hc⟩ := hRK.kind (hI0 81 62 0 6 rfl).1 q7 q14 hJ7 rfl hJ14 rfl
  have hRF := hRF.fr hJ14 rfl
  refine lv_pop hx hb dL_law_665 rfl ?_
  refine lv_goto (tgt := 860) hx hb dL_law_666 (by decide) ?_
  exact O _ ⟨hI, hgp, ⟨hRT, hRP, hRK, hRE, hRF⟩⟩ _ _ hW _ hl
set_option maxHeartbeats 4000000 in
set_option maxRecDepth 100000 in
theorem law_15 {p : Program} {e : Env} {s : State} {m : MethodId} {below : List Frame} {meth : Method} {c : Code} {l : Launch} {a L : Nat} {xs : Nat → Int32} {D : va_G} {cy : Nat → ClassId} {b oq oa ov : Nat} (hx : p.tables.exec = Jvm.exec) (hb : c.code = cL_law) (hr : meth.sig.returnType = ret) (hml : c.maxLocals = 4) (hown : s.vm.findClass RL = some m.cls) (hts : ∀ w ∈ TB, w.before #[Value.ref a] s = true) (hlocks : meth.locks = false) (hL : L ≤ 3072) (hX : va_X a L xs s s.heap) (hbl : a < s.heap.size) (hbA : ¬ (fun q => b ≤ q) a) (hbz : s.heap.size = b) (hO : m_O (fun q => b ≤ q) oq oa ov s s.heap) (y3 : Int32) (hy : 0 ≤ y3.toInt ∧ y3.toInt + 6 ≤ (L : Int)) (O : ∀ (μ : mM) (_ : m_LI μ) (H : Heap) (locs : List Loc) (_ : m_W D cy s b LAY μ H locs) (ls : Array Slot) (_ : lv_has ls 4 [(3, .int y3), (2, .ref (b + 81)), (1, .ref (b + 0)), (0, .ref a)]), W p l e room_1 s m #[Value.ref a] below meth c H locs (0 + 1 + 80 + 1 + 47) (0 + 11 + 14956 + 74 + 38526) (lw_Z below #[Value.ref a] s) (F0 m 860 ls [])) {μ : mM} (hLI : m_LI μ) {H : Heap} {locs : List Loc} (hW : m_W D cy s b LAY μ H locs) {ls : Array Slot} (hl : lv_has ls 4 [(3, .int y3), (2, .ref (b + 81)), (1, .ref (b + 0)), (0, .ref a)]) : W p l e room_1 s m #[Value.ref a] below meth c H locs (0 + 1 + 80 + 1 + 47) (0 + 11 + 14956 + 74 + 38526) (lw_Z below #[Value.ref a] s) (F0 m 669 ls []) := by
  obtain ⟨hI, hgp, hRT, hRP, hRK, hRE, hRF⟩ := hLI
  refine lv_aload_n hx hb dL_law_669 rfl (lv_at hl 2 rfl) ?_
  refine lv_aload_n hx hb dL_law_670 rfl (lv_at hl 3 rfl) ?_
  refine lv_iload_n hx hb dL_law_671 rfl (lv_at hl 0 rfl) ?_
  refine lv_iconst (v := 1) hx hb dL_law_672 (by decide) ?_
  refine lv_iadd hx hb dL_law_673 ?_
  refine lv_topi (fun x1 ex1 => ?_)
  have tx1 : x1.toInt = y3.toInt + 1 := m_addI ex1 (rfl : y3.toInt = _) (by decide : (1 : Int32).toInt = 1) (by omega) (by omega)
  refine va_sld hx hb hX hbl hbA hW.2.2.1 (m_ixI (rfl : x1.toInt = _) (by omega) (by omega)) dL_law_674 ?_
  refine lv_topi (fun x2 ex2 => ?_)
  refine lv_aload_n hx hb dL_law_675 rfl (lv_at hl 3 rfl) ?_
  refine lv_iload_n hx hb dL_law_676 rfl (lv_at hl 0 rfl) ?_
  refine lv_iconst (v := 2) hx hb dL_law_677 (by decide) ?_
  refine lv_iadd hx hb dL_law_678 ?_
  refine lv_topi (fun x3 ex3 => ?_)
  have tx3 : x3.toInt = y3.toInt + 2 := m_addI ex3 (rfl : y3.toInt = _) (by decide : (2 : Int32).toInt = 2) (by omega) (by omega)
  refine va_sld hx hb hX hbl hbA hW.2.2.1 (m_ixI (rfl : x3.toInt = _) (by omega) (by omega)) dL_law_679 ?_
  refine lv_topi (fun x4 ex4 => ?_)
  refine m_aI hW (m_runV (As := [.int x2, .int x4]) (rest := []) hx hb hml hown hts hW (0) (g_X11_fill_g l D cy b (μ.1 75) x2 x4 μ hI rfl) mi_X11_fill k_L_82 rfl rfl rfl hl.1 rfl (Nat.le_of_ble_eq_true rfl) dL_law_680 ⟨Nat.le_of_ble_eq_true rfl, Nat.le_of_ble_eq_true rfl⟩ ⟨Nat.le_of_ble_eq_true rfl, Nat.le_of_ble_eq_true rfl⟩) (fun x5 μ5 H locs q5 hW => ?_)
  have hI0 := hI
  obtain ⟨q5_m, q5⟩ := q5
  subst q5_m
  refine lv_aload_n hx hb dL_law_683 rfl (lv_at hl 1 rfl) ?_
  refine lv_aload_n hx hb dL_law_684 rfl (lv_at hl 3 rfl) ?_
  refine lv_iload_n hx hb dL_law_685 rfl (lv_at hl 0 rfl) ?_
  refine lv_iconst (v := 1) hx hb dL_law_686 (by decide) ?_
  refine lv_iadd hx hb dL_law_687 ?_
  refine lv_topi (fun x6 ex6 => ?_)
  have ex6 : x6 = x1 := ex6.trans ex1.symm
  have ex6 := ex6.symm
  subst ex6
  refine va_sld hx hb hX hbl hbA hW.2.2.1 (m_ixI (rfl : x1.toInt = _) (by omega) (by omega)) dL_law_688 ?_
  refine lv_topi (fun x7 ex7 => ?_)
  have ex7 : x7 = x2 := ex7.trans ex2.symm
  have ex7 := ex7.symm
  subst ex7
  refine lv_aload_n hx hb dL_law_689 rfl (lv_at hl 3 rfl) ?_
  refine lv_iload_n hx hb dL_law_690 rfl (lv_at hl 0 rfl) ?_
  refine lv_iconst (v := 2) hx hb dL_law_691 (by decide) ?_
  refine lv_iadd hx hb dL_law_692 ?_
  refine lv_topi (fun x8 ex8 => ?_)
  have ex8 : x8 = x3 := ex8.trans ex3.symm
  have ex8 := ex8.symm
  subst ex8
  refine va_sld hx hb hX hbl hbA hW.2.2.1 (m_ixI (rfl : x3.toInt = _) (by omega) (by omega)) dL_law_693 ?_
  refine lv_topi (fun x9 ex9 => ?_)
  have ex9 : x9 = x4 := ex9.trans ex4.symm
  have ex9 := ex9.symm
  subst ex9
  have hRF0 := hRF
  have hRK0 := hRK
  refine m_aI hW (m_runV (As := [.int x2, .int x4]) (rest := [.int x5]) hx hb hml hown hts hW (81) (g_X12_fill_g l D cy b (fun g => [20, 31].contains g) μ rfl rfl (μ.1 81 62) (hI 81 62 0 6 rfl) (μ.1 120) (μ.1 121) (μ.1 122) x2 x4 μ (IY.rf hI) rfl rfl rfl rfl) mi_X12_fill k_L_85 rfl rfl rfl hl.1 rfl (Nat.le_of_ble_eq_true rfl) dL_law_694 ⟨Nat.le_of_ble_eq_true rfl, Nat.le_of_ble_eq_true rfl⟩ ⟨Nat.le_of_ble_eq_true rfl, Nat.le_of_ble_eq_true rfl⟩) (fun x10 μ10 H locs q10 hW => ?_)
  obtain ⟨hJ10, q10⟩ := q10
  have hI := hJ10.1
  have hgp := hgp.fr hJ10 rfl rfl
  have hRT := hRT.fr hJ10 rfl rfl
  have hRP := hRP.fr hJ10 rfl rfl
  have hRK := hRK.fr hJ10 rfl rfl
  have hRE := hRE.fr hJ10 rfl rfl
  have hc := m_RF.fill hRF0 hRK0 q5 q10
  have hRF := hRF.fr hJ10 rfl
  refine lv_icmp_eq (tgt := 860) hx hb dL_law_697 (by decide) (fun c11 => ?_) (fun c => absurd (hc) c)
  exact O _ ⟨hI, hgp, ⟨hRT, hRP, hRK, hRE, hRF⟩⟩ _ _ hW _ hl
set_option maxHeartbeats 4000000 in
set_option maxRecDepth 100000 in
theorem law_16 {p : Program} {e : Env} {s : State} {m : MethodId} {below : List Frame} {meth : Method} {c : Code} {l : Launch} {a L : Nat} {xs : Nat → Int32} {D : va_G} {cy : Nat → ClassId} {b oq oa ov : Nat} (hx : p.tables.exec = Jvm.exec) (hb : c.code = cL_law) (hr : meth.sig.returnType = ret) (hml : c.maxLocals = 4) (hown : s.vm.findClass RL = some m.cls) (hts : ∀ w ∈ TB, w.before #[Value.ref a] s = true) (hlocks : meth.locks = false) (hL : L ≤ 3072) (hX : va_X a L xs s s.heap) (hbl : a < s.heap.size) (hbA : ¬ (fun q => b ≤ q) a) (hbz : s.heap.size = b) (hO : m_O (fun q => b ≤ q) oq oa ov s s.heap) (y3 : Int32) (hy : 0 ≤ y3.toInt ∧ y3.toInt + 6 ≤ (L : Int)) (O : ∀ (μ : mM) (_ : m_LI μ) (H : Heap) (locs : List Loc) (_ : m_W D cy s b LAY μ H locs) (ls : Array Slot) (_ : lv_has ls 4 [(3, .int y3), (2, .ref (b + 81)), (1, .ref (b + 0)), (0, .ref a)]), W p l e room_1 s m #[Value.ref a] below meth c H locs (0 + 1 + 80 + 1 + 47) (0 + 11 + 14956 + 74 + 38526) (lw_Z below #[Value.ref a] s) (F0 m 860 ls [])) {μ : mM} (hLI : m_LI μ) {H : Heap} {locs : List Loc} (hW : m_W D cy s b LAY μ H locs) {ls : Array Slot} (hl : lv_has ls 4 [(3, .int y3), (2, .ref (b + 81)), (1, .ref (b + 0)), (0, .ref a)]) : W p l e room_1 s m #[Value.ref a] below meth c H locs (0 + 1 + 80 + 1 + 47) (0 + 11 + 14956 + 74 + 38526) (lw_Z below #[Value.ref a] s) (F0 m 702 ls []) := by
  obtain ⟨hI, hgp, hRT, hRP, hRK, hRE, hRF⟩ := hLI
  refine lv_aload_n hx hb dL_law_702 rfl (lv_at hl 2 rfl) ?_
  refine lv_aload_n hx hb dL_law_703 rfl (lv_at hl 3 rfl) ?_
  refine lv_iload_n hx hb dL_law_704 rfl (lv_at hl 0 rfl) ?_
  refine lv_iconst (v := 1) hx hb dL_law_705 (by decide) ?_
  refine lv_iadd hx hb dL_law_706 ?_
  refine lv_topi (fun x1 ex1 => ?_)
  have tx1 : x1.toInt = y3.toInt + 1 := m_addI ex1 (rfl : y3.toInt = _) (by decide : (1 : Int32).toInt = 1) (by omega) (by omega)
  refine va_sld hx hb hX hbl hbA hW.2.2.1 (m_ixI (rfl : x1.toInt = _) (by omega) (by omega)) dL_law_707 ?_
  refine lv_topi (fun x2 ex2 => ?_)
  refine lv_aload_n hx hb dL_law_708 rfl (lv_at hl 3 rfl) ?_
  refine lv_iload_n hx hb dL_law_709 rfl (lv_at hl 0 rfl) ?_
  refine lv_iconst (v := 2) hx hb dL_law_710 (by decide) ?_
  refine lv_iadd hx hb dL_law_711 ?_
  refine lv_topi (fun x3 ex3 => ?_)
  have tx3 : x3.toInt = y3.toInt + 2 := m_addI ex3 (rfl : y3.toInt = _) (by decide : (2 : Int32).toInt = 2) (by omega) (by omega)
  refine va_sld hx hb hX hbl hbA hW.2.2.1 (m_ixI (rfl : x3.toInt = _) (by omega) (by omega)) dL_law_712 ?_
  refine lv_topi (fun x4 ex4 => ?_)
  refine lv_aload_n hx hb dL_law_713 rfl (lv_at hl 3 rfl) ?_
  refine lv_iload_n hx hb dL_law_714 rfl (lv_at hl 0 rfl) ?_
  refine lv_iconst (v := 3) hx hb dL_law_715 (by decide) ?_
  refine lv_iadd hx hb dL_law_716 ?_
  refine lv_topi (fun x5 ex5 => ?_)
  have tx5 : x5.toInt = y3.toInt + 3 := m_addI ex5 (rfl : y3.toInt = _) (by decide : (3 : Int32).toInt = 3) (by omega) (by omega)
  refine va_sld hx hb hX hbl hbA hW.2.2.1 (m_ixI (rfl : x5.toInt = _) (by omega) (by omega)) dL_law_717 ?_
  refine lv_topi (fun x6 ex6 => ?_)
  refine lv_if_eq (tgt := 725) hx hb dL_law_718 (by decide) (fun c7 => ?_) (fun c7 => ?_)
  · have i7 := m_c5 (rfl : x6.toInt = _) (by decide : (0 : Int32).toInt = 0) c7
    refine lv_iconst (v := 0) hx hb dL_law_725 (by decide) ?_
    refine lv_aload_n hx hb dL_law_726 rfl (lv_at hl 3 rfl) ?_
    refine lv_iload_n hx hb dL_law_727 rfl (lv_at hl 0 rfl) ?_
    refine lv_iconst (v := 4) hx hb dL_law_728 (by decide) ?_
    refine lv_iadd hx hb dL_law_729 ?_
    refine lv_topi (fun x8 ex8 => ?_)
    have tx8 : x8.toInt = y3.toInt + 4 := m_addI ex8 (rfl : y3.toInt = _) (by decide : (4 : Int32).toInt = 4) (by omega) (by omega)
    refine va_sld hx hb hX hbl hbA hW.2.2.1 (m_ixI (rfl : x8.toInt = _) (by omega) (by omega)) dL_law_730 ?_
    refine lv_topi (fun x9 ex9 => ?_)
    have l_0 : (0 : Int32).toInt = 0 := by decide
    refine m_aI hW (m_runV (As := [.int x2, .int x4, .int 0, .int x9]) (rest := []) hx hb hml hown hts hW (0) (g_X11_test_f l D cy b (fun g => [10].contains g) μ rfl (μ.1 76 4) (hI 76 4 0 200 rfl) (μ.1 76 5) x2 x4 0 x9 (by omega) μ (IY.rf hI) rfl rfl) mi_X11_test k_L_86 rfl rfl rfl hl.1 rfl (Nat.le_of_ble_eq_true rfl) dL_law_731 ⟨Nat.le_of_ble_eq_true rfl, Nat.le_of_ble_eq_true rfl⟩ ⟨Nat.le_of_ble_eq_true rfl, Nat.le_of_ble_eq_true rfl⟩) (fun x10 μ10 H locs q10 hW => ?_)
    have hI0 := hI
    obtain ⟨hJ10, q10⟩ := q10
    have hI := hJ10.1
    have hgp := hgp.fr hJ10 rfl rfl
    have hRT := hRT.fr hJ10 rfl rfl
    have hRP := hRP.fr hJ10 rfl rfl
    have hRK := hRK.fr hJ10 rfl rfl
    have hRF := hRF.fr hJ10 rfl
    refine lv_pop hx hb dL_law_734 rfl ?_
    refine lv_aload_n hx hb dL_law_735 rfl (lv_at hl 1 rfl) ?_
    refine lv_aload_n hx hb dL_law_736 rfl (lv_at hl 3 rfl) ?_
    refine lv_iload_n hx hb dL_law_737 rfl (lv_at hl 0 rfl) ?_
    refine lv_iconst (v := 1) hx hb dL_law_738 (by decide) ?_
    refine lv_iadd hx hb dL_law_739 ?_
    refine lv_topi (fun x11 ex11 => ?_)
    have ex11 : x11 = x1 := ex11.trans ex1.symm
    have ex11 := ex11.symm
    subst ex11
    refine va_sld hx hb hX hbl hbA hW.2.2.1 (m_ixI (rfl : x1.toInt = _) (by omega) (by omega)) dL_law_740 ?_
    refine lv_topi (fun x12 ex12 => ?_)
    have ex12 : x12 = x2 := ex12.trans ex2.symm
    have ex12 := ex12.symm
    subst ex12
    refine lv_aload_n hx hb dL_law_741 rfl (lv_at hl 3 rfl) ?_
    refine lv_iload_n hx hb dL_law_742 rfl (lv_at hl 0 rfl) ?_
    refine lv_iconst (v := 2) hx hb dL_law_743 (by decide) ?_
    refine lv_iadd hx hb dL_law_744 ?_
    refine lv_topi (fun x13 ex13 => ?_)
    have ex13 : x13 = x3 := ex13.trans ex3.symm
    have ex13 := ex13.symm
    subst ex13
    refine va_sld hx hb hX hbl hbA hW.2.2.1 (m_ixI (rfl : x3.toInt = _) (by omega) (by omega)) dL_law_745 ?_
    refine lv_topi (fun x14 ex14 => ?_)
    have ex14 : x14 = x4 := ex14.trans ex4.symm
    have ex14 := ex14.symm
    subst ex14
    refine lv_aload_n hx hb dL_law_746 rfl (lv_at hl 3 rfl) ?_
    refine lv_iload_n hx hb dL_law_747 rfl (lv_at hl 0 rfl) ?_
    refine lv_iconst (v := 3) hx hb dL_law_748 (by decide) ?_
    refine lv_iadd hx hb dL_law_749 ?_
    refine lv_topi (fun x15 ex15 => ?_)
    have ex15 : x15 = x5 := ex15.trans ex5.symm
    have ex15 := ex15.symm
    subst ex15
    refine va_sld hx hb hX hbl hbA hW.2.2.1 (m_ixI (rfl : x5.toInt = _) (by omega) (by omega)) dL_law_750 ?_
    refine lv_topi (fun x16 ex16 => ?_)
    have ex16 : x16 = x6 := ex16.trans ex6.symm
    have ex16 := ex16.symm
    subst ex16
    refine lv_if_eq (tgt := 758) hx hb dL_law_751 (by decide) (fun c17 => ?_) (fun c => absurd (c7) c)
    refine lv_iconst (v := 0) hx hb dL_law_758 (by decide) ?_
    refine lv_aload_n hx hb dL_law_759 rfl (lv_at hl 3 rfl) ?_
    refine lv_iload_n hx hb dL_law_760 rfl (lv_at hl 0 rfl) ?_
    refine lv_iconst (v := 4) hx hb dL_law_761 (by decide) ?_
    refine lv_iadd hx hb dL_law_762 ?_
    refine lv_topi (fun x18 ex18 => ?_)
    have ex18 : x18 = x8 := ex18.trans ex8.symm
    have ex18 := ex18.symm
    subst ex18
    refine va_sld hx hb hX hbl hbA hW.2.2.1 (m_ixI (rfl : x8.toInt = _) (by omega) (by omega)) dL_law_763 ?_
    refine lv_topi (fun x19 ex19 => ?_)
    have ex19 : x19 = x9 := ex19.trans ex9.symm
    have ex19 := ex19.symm
    subst ex19
    refine m_aI hW (m_runV (As := [.int x2, .int x4, .int 0, .int x9]) (rest := []) hx hb hml hown hts hW (81) (g_X12_test_f l D cy b (fun g => [20, 29].contains g) μ10 rfl rfl (μ10.1 81 67) (hI 81 67 0 200 rfl) (m_ld (μ10.1 81 67) (μ10.1 127)) x2 x4 0 x9 (by omega) μ10 (IY.rf hI) rfl rfl) mi_X12_test k_L_90 rfl rfl rfl hl.1 rfl (Nat.le_of_ble_eq_true rfl) dL_law_764 ⟨Nat.le_of_ble_eq_true rfl, Nat.le_of_ble_eq_true rfl⟩ ⟨Nat.le_of_ble_eq_true rfl, Nat.le_of_ble_eq_true rfl⟩) (fun x20 μ20 H locs q20 hW => ?_)
    obtain ⟨hJ20, q20⟩ := q20
    have hI := hJ20.1
    have hgp := hgp.fr hJ20 rfl rfl
    have hRT := hRT.fr hJ20 rfl rfl
    have hRP := hRP.fr hJ20 rfl rfl
    have hRK := hRK.fr hJ20 rfl rfl
    obtain ⟨hRE, hc⟩ := hRE.test (hI0 81 67 0 200 rfl).1 q10 q20 hJ10 rfl hJ20 rfl
    have hRF := hRF.fr hJ20 rfl
    refine lv_pop hx hb dL_law_767 rfl ?_
    refine lv_goto (tgt := 860) hx hb dL_law_768 (by decide) ?_
    exact O _ ⟨hI, hgp, ⟨hRT, hRP, hRK, hRE, hRF⟩⟩ _ _ hW _ hl
  · have i7 := m_c6 (rfl : x6.toInt = _) (by decide : (0 : Int32).toInt = 0) c7
    refine lv_iconst (v := 1) hx hb dL_law_721 (by decide) ?_
    refine lv_goto (tgt := 726) hx hb dL_law_722 (by decide) ?_
    refine lv_aload_n hx hb dL_law_726 rfl (lv_at hl 3 rfl) ?_
    refine lv_iload_n hx hb dL_law_727 rfl (lv_at hl 0 rfl) ?_
    refine lv_iconst (v := 4) hx hb dL_law_728 (by decide) ?_
    refine lv_iadd hx hb dL_law_729 ?_
    refine lv_topi (fun x21 ex21 => ?_)
    have tx21 : x21.toInt = y3.toInt + 4 := m_addI ex21 (rfl : y3.toInt = _) (by decide : (4 : Int32).toInt = 4) (by omega) (by omega)
    refine va_sld hx hb hX hbl hbA hW.2.2.1 (m_ixI (rfl : x21.toInt = _) (by omega) (by omega)) dL_law_730 ?_
    refine lv_topi (fun x22 ex22 => ?_)
    have l_1 : (1 : Int32).toInt = 1 := by decide
    refine m_aI hW (m_runV (As := [.int x2, .int x4, .int 1, .int x22]) (rest := []) hx hb hml hown hts hW (0) (g_X11_test_f l D cy b (fun g => [10].contains g) μ rfl (μ.1 76 4) (hI 76 4 0 200 rfl) (μ.1 76 5) x2 x4 1 x22 (by omega) μ (IY.rf hI) rfl rfl) mi_X11_test k_L_86 rfl rfl rfl hl.1 rfl (Nat.le_of_ble_eq_true rfl) dL_law_731 ⟨Nat.le_of_ble_eq_true rfl, Nat.le_of_ble_eq_true rfl⟩ ⟨Nat.le_of_ble_eq_true rfl, Nat.le_of_ble_eq_true rfl⟩) (fun x23 μ23 H locs q23 hW => ?_)
    have hI0 := hI
    obtain ⟨hJ23, q23⟩ := q23
    have hI := hJ23.1
    have hgp := hgp.fr hJ23 rfl rfl
    have hRT := hRT.fr hJ23 rfl rfl
    have hRP := hRP.fr hJ23 rfl rfl
    have hRK := hRK.fr hJ23 rfl rfl
    have hRF := hRF.fr hJ23 rfl
    refine lv_pop hx hb dL_law_734 rfl ?_
    refine lv_aload_n hx hb dL_law_735 rfl (lv_at hl 1 rfl) ?_
    refine lv_aload_n hx hb dL_law_736 rfl (lv_at hl 3 rfl) ?_
    refine lv_iload_n hx hb dL_law_737 rfl (lv_at hl 0 rfl) ?_
    refine lv_iconst (v := 1) hx hb dL_law_738 (by decide) ?_
    refine lv_iadd hx hb dL_law_739 ?_
    refine lv_topi (fun x24 ex24 => ?_)
    have ex24 : x24 = x1 := ex24.trans ex1.symm
    have ex24 := ex24.symm
    subst ex24
    refine va_sld hx hb hX hbl hbA hW.2.2.1 (m_ixI (rfl : x1.toInt = _) (by omega) (by omega)) dL_law_740 ?_
    refine lv_topi (fun x25 ex25 => ?_)
    have ex25 : x25 = x2 := ex25.trans ex2.symm
    have ex25 := ex25.symm
    subst ex25
    refine lv_aload_n hx hb dL_law_741 rfl (lv_at hl 3 rfl) ?_
    refine lv_iload_n hx hb dL_law_742 rfl (lv_at hl 0 rfl) ?_
    refine lv_iconst (v := 2) hx hb dL_law_743 (by decide) ?_
    refine lv_iadd hx hb dL_law_744 ?_
    refine lv_topi (fun x26 ex26 => ?_)
    have ex26 : x26 = x3 := ex26.trans ex3.symm
    have ex26 := ex26.symm
    subst ex26
    refine va_sld hx hb hX hbl hbA hW.2.2.1 (m_ixI (rfl : x3.toInt = _) (by omega) (by omega)) dL_law_745 ?_
    refine lv_topi (fun x27 ex27 => ?_)
    have ex27 : x27 = x4 := ex27.trans ex4.symm
    have ex27 := ex27.symm
    subst ex27
    refine lv_aload_n hx hb dL_law_746 rfl (lv_at hl 3 rfl) ?_
    refine lv_iload_n hx hb dL_law_747 rfl (lv_at hl 0 rfl) ?_
    refine lv_iconst (v := 3) hx hb dL_law_748 (by decide) ?_
    refine lv_iadd hx hb dL_law_749 ?_
    refine lv_topi (fun x28 ex28 => ?_)
    have ex28 : x28 = x5 := ex28.trans ex5.symm
    have ex28 := ex28.symm
    subst ex28
    refine va_sld hx hb hX hbl hbA hW.2.2.1 (m_ixI (rfl : x5.toInt = _) (by omega) (by omega)) dL_law_750 ?_
    refine lv_topi (fun x29 ex29 => ?_)
    have ex29 : x29 = x6 := ex29.trans ex6.symm
    have ex29 := ex29.symm
    subst ex29
    refine lv_if_eq (tgt := 758) hx hb dL_law_751 (by decide) (fun c => absurd c (c7)) (fun c30 => ?_)
    refine lv_iconst (v := 1) hx hb dL_law_754 (by decide) ?_
    refine lv_goto (tgt := 759) hx hb dL_law_755 (by decide) ?_
    refine lv_aload_n hx hb dL_law_759 rfl (lv_at hl 3 rfl) ?_
    refine lv_iload_n hx hb dL_law_760 rfl (lv_at hl 0 rfl) ?_
    refine lv_iconst (v := 4) hx hb dL_law_761 (by decide) ?_
    refine lv_iadd hx hb dL_law_762 ?_
    refine lv_topi (fun x31 ex31 => ?_)
    have ex31 : x31 = x21 := ex31.trans ex21.symm
    have ex31 := ex31.symm
    subst ex31
    refine va_sld hx hb hX hbl hbA hW.2.2.1 (m_ixI (rfl : x21.toInt = _) (by omega) (by omega)) dL_law_763 ?_
    refine lv_topi (fun x32 ex32 => ?_)
    have ex32 : x32 = x22 := ex32.trans ex22.symm
    have ex32 := ex32.symm
    subst ex32
    refine m_aI hW (m_runV (As := [.int x2, .int x4, .int 1, .int x22]) (rest := []) hx hb hml hown hts hW (81) (g_X12_test_f l D cy b (fun g => [20, 29].contains g) μ23 rfl rfl (μ23.1 81 67) (hI 81 67 0 200 rfl) (m_ld (μ23.1 81 67) (μ23.1 127)) x2 x4 1 x22 (by omega) μ23 (IY.rf hI) rfl rfl) mi_X12_test k_L_90 rfl rfl rfl hl.1 rfl (Nat.le_of_ble_eq_true rfl) dL_law_764 ⟨Nat.le_of_ble_eq_true rfl, Nat.le_of_ble_eq_true rfl⟩ ⟨Nat.le_of_ble_eq_true rfl, Nat.le_of_ble_eq_true rfl⟩) (fun x33 μ33 H locs q33 hW => ?_)
    obtain ⟨hJ33, q33⟩ := q33
    have hI := hJ33.1
    have hgp := hgp.fr hJ33 rfl rfl
    have hRT := hRT.fr hJ33 rfl rfl
    have hRP := hRP.fr hJ33 rfl rfl
    have hRK := hRK.fr hJ33 rfl rfl
    obtain ⟨hRE, hc⟩ := hRE.test (hI0 81 67 0 200 rfl).1 q23 q33 hJ23 rfl hJ33 rfl
    have hRF := hRF.fr hJ33 rfl
    refine lv_pop hx hb dL_law_767 rfl ?_
    refine lv_goto (tgt := 860) hx hb dL_law_768 (by decide) ?_
    exact O _ ⟨hI, hgp, ⟨hRT, hRP, hRK, hRE, hRF⟩⟩ _ _ hW _ hl
set_option maxHeartbeats 4000000 in
set_option maxRecDepth 100000 in
theorem law_17 {p : Program} {e : Env} {s : State} {m : MethodId} {below : List Frame} {meth : Method} {c : Code} {l : Launch} {a L : Nat} {xs : Nat → Int32} {D : va_G} {cy : Nat → ClassId} {b oq oa ov : Nat} (hx : p.tables.exec = Jvm.exec) (hb : c.code = cL_law) (hr : meth.sig.returnType = ret) (hml : c.maxLocals = 4) (hown : s.vm.findClass RL = some m.cls) (hts : ∀ w ∈ TB, w.before #[Value.ref a] s = true) (hlocks : meth.locks = false) (hL : L ≤ 3072) (hX : va_X a L xs s s.heap) (hbl : a < s.heap.size) (hbA : ¬ (fun q => b ≤ q) a) (hbz : s.heap.size = b) (hO : m_O (fun q => b ≤ q) oq oa ov s s.heap) (y3 : Int32) (hy : 0 ≤ y3.toInt ∧ y3.toInt + 6 ≤ (L : Int)) (O : ∀ (μ : mM) (_ : m_LI μ) (H : Heap) (locs : List Loc) (_ : m_W D cy s b LAY μ H locs) (ls : Array Slot) (_ : lv_has ls 4 [(3, .int y3), (2, .ref (b + 81)), (1, .ref (b + 0)), (0, .ref a)]), W p l e room_1 s m #[Value.ref a] below meth c H locs (0 + 1 + 80 + 1 + 47) (0 + 11 + 14956 + 74 + 38526) (lw_Z below #[Value.ref a] s) (F0 m 860 ls [])) {μ : mM} (hLI : m_LI μ) {H : Heap} {locs : List Loc} (hW : m_W D cy s b LAY μ H locs) {ls : Array Slot} (hl : lv_has ls 4 [(3, .int y3), (2, .ref (b + 81)), (1, .ref (b + 0)), (0, .ref a)]) : W p l e room_1 s m #[Value.ref a] below meth c H locs (0 + 1 + 80 + 1 + 47) (0 + 11 + 14956 + 74 + 38526) (lw_Z below #[Value.ref a] s) (F0 m 771 ls []) := by
  obtain ⟨hI, hgp, hRT, hRP, hRK, hRE, hRF⟩ := hLI
  refine lv_aload_n hx hb dL_law_771 rfl (lv_at hl 2 rfl) ?_
  refine lv_aload_n hx hb dL_law_772 rfl (lv_at hl 3 rfl) ?_
  refine lv_iload_n hx hb dL_law_773 rfl (lv_at hl 0 rfl) ?_
  refine lv_iconst (v := 1) hx hb dL_law_774 (by decide) ?_
  refine lv_iadd hx hb dL_law_775 ?_
  refine lv_topi (fun x1 ex1 => ?_)
  have tx1 : x1.toInt = y3.toInt + 1 := m_addI ex1 (rfl : y3.toInt = _) (by decide : (1 : Int32).toInt = 1) (by omega) (by omega)
  refine va_sld hx hb hX hbl hbA hW.2.2.1 (m_ixI (rfl : x1.toInt = _) (by omega) (by omega)) dL_law_776 ?_
  refine lv_topi (fun x2 ex2 => ?_)
  refine lv_aload_n hx hb dL_law_777 rfl (lv_at hl 3 rfl) ?_
  refine lv_iload_n hx hb dL_law_778 rfl (lv_at hl 0 rfl) ?_
  refine lv_iconst (v := 2) hx hb dL_law_779 (by decide) ?_
  refine lv_iadd hx hb dL_law_780 ?_
  refine lv_topi (fun x3 ex3 => ?_)
  have tx3 : x3.toInt = y3.toInt + 2 := m_addI ex3 (rfl : y3.toInt = _) (by decide : (2 : Int32).toInt = 2) (by omega) (by omega)
  refine va_sld hx hb hX hbl hbA hW.2.2.1 (m_ixI (rfl : x3.toInt = _) (by omega) (by omega)) dL_law_781 ?_
  refine lv_topi (fun x4 ex4 => ?_)
  refine lv_aload_n hx hb dL_law_782 rfl (lv_at hl 3 rfl) ?_
  refine lv_iload_n hx hb dL_law_783 rfl (lv_at hl 0 rfl) ?_
  refine lv_iconst (v := 3) hx hb dL_law_784 (by decide) ?_
  refine lv_iadd hx hb dL_law_785 ?_
  refine lv_topi (fun x5 ex5 => ?_)
  have tx5 : x5.toInt = y3.toInt + 3 := m_addI ex5 (rfl : y3.toInt = _) (by decide : (3 : Int32).toInt = 3) (by omega) (by omega)
  refine va_sld hx hb hX hbl hbA hW.2.2.1 (m_ixI (rfl : x5.toInt = _) (by omega) (by omega)) dL_law_786 ?_
  refine lv_topi (fun x6 ex6 => ?_)
  refine m_aI hW (m_runV (As := [.int x2, .int x4, .int x6]) (rest := []) hx hb hml hown hts hW (0) (g_X11_known_f l D cy b (μ.1 76 4) (hI 76 4 0 200 rfl) (μ.1 77) (μ.1 78) (μ.1 79) (μ.1 80) x2 x4 x6 μ hI rfl rfl rfl rfl rfl (m_hbX hRE)) mi_X11_known k_L_91 rfl rfl rfl hl.1 rfl (Nat.le_of_ble_eq_true rfl) dL_law_787 ⟨Nat.le_of_ble_eq_true rfl, Nat.le_of_ble_eq_true rfl⟩ ⟨Nat.le_of_ble_eq_true rfl, Nat.le_of_ble_eq_true rfl⟩) (fun x7 μ7 H locs q7 hW => ?_)
  have hI0 := hI
  obtain ⟨q7_m, q7⟩ := q7
  subst q7_m
  refine lv_pop hx hb dL_law_790 rfl ?_
  refine lv_aload_n hx hb dL_law_791 rfl (lv_at hl 1 rfl) ?_
  refine lv_aload_n hx hb dL_law_792 rfl (lv_at hl 3 rfl) ?_
  refine lv_iload_n hx hb dL_law_793 rfl (lv_at hl 0 rfl) ?_
  refine lv_iconst (v := 1) hx hb dL_law_794 (by decide) ?_
  refine lv_iadd hx hb dL_law_795 ?_
  refine lv_topi (fun x8 ex8 => ?_)
  have ex8 : x8 = x1 := ex8.trans ex1.symm
  have ex8 := ex8.symm
  subst ex8
  refine va_sld hx hb hX hbl hbA hW.2.2.1 (m_ixI (rfl : x1.toInt = _) (by omega) (by omega)) dL_law_796 ?_
  refine lv_topi (fun x9 ex9 => ?_)
  have ex9 : x9 = x2 := ex9.trans ex2.symm
  have ex9 := ex9.symm
  subst ex9
  refine lv_aload_n hx hb dL_law_797 rfl (lv_at hl 3 rfl) ?_
  refine lv_iload_n hx hb dL_law_798 rfl (lv_at hl 0 rfl) ?_
  refine lv_iconst (v := 2) hx hb dL_law_799 (by decide) ?_
  refine lv_iadd hx hb dL_law_800 ?_
  refine lv_topi (fun x10 ex10 => ?_)
  have ex10 : x10 = x3 := ex10.trans ex3.symm
  have ex10 := ex10.symm
  subst ex10
  refine va_sld hx hb hX hbl hbA hW.2.2.1 (m_ixI (rfl : x3.toInt = _) (by omega) (by omega)) dL_law_801 ?_
  refine lv_topi (fun x11 ex11 => ?_)
  have ex11 : x11 = x4 := ex11.trans ex4.symm
  have ex11 := ex11.symm
  subst ex11
  refine lv_aload_n hx hb dL_law_802 rfl (lv_at hl 3 rfl) ?_
  refine lv_iload_n hx hb dL_law_803 rfl (lv_at hl 0 rfl) ?_
  refine lv_iconst (v := 3) hx hb dL_law_804 (by decide) ?_
  refine lv_iadd hx hb dL_law_805 ?_
  refine lv_topi (fun x12 ex12 => ?_)
  have ex12 : x12 = x5 := ex12.trans ex5.symm
  have ex12 := ex12.symm
  subst ex12
  refine va_sld hx hb hX hbl hbA hW.2.2.1 (m_ixI (rfl : x5.toInt = _) (by omega) (by omega)) dL_law_806 ?_
  refine lv_topi (fun x13 ex13 => ?_)
  have ex13 : x13 = x6 := ex13.trans ex6.symm
  have ex13 := ex13.symm
  subst ex13
  have hRP0 := hRP
  have hRE0 := hRE
  refine m_aI hW (m_runV (As := [.int x2, .int x4, .int x6]) (rest := []) hx hb hml hown hts hW (81) (g_X12_known_f l D cy b (fun g => [20].contains g) μ rfl (μ.1 81 67) (hI 81 67 0 200 rfl) (μ.1 124) (μ.1 125) (μ.1 127) (μ.1 126) x2 x4 x6 μ (IY.rf hI) rfl rfl rfl rfl rfl (m_hbM hRE)) mi_X12_known k_L_94 rfl rfl rfl hl.1 rfl (Nat.le_of_ble_eq_true rfl) dL_law_807 ⟨Nat.le_of_ble_eq_true rfl, Nat.le_of_ble_eq_true rfl⟩ ⟨Nat.le_of_ble_eq_true rfl, Nat.le_of_ble_eq_true rfl⟩) (fun x14 μ14 H locs q14 hW => ?_)
  obtain ⟨hJ14, q14⟩ := q14
  have hI := hJ14.1
  have hgp := hgp.fr hJ14 rfl rfl
  have hRT := hRT.fr hJ14 rfl rfl
  have hRP := hRP.fr hJ14 rfl rfl
  have hRK := hRK.fr hJ14 rfl rfl
  have hRE := hRE.fr hJ14 rfl rfl
  have hc := m_RE.known hRE0 q7 q14
  have hRF := hRF.fr hJ14 rfl
  refine lv_pop hx hb dL_law_810 rfl ?_
  refine lv_goto (tgt := 860) hx hb dL_law_811 (by decide) ?_
  exact O _ ⟨hI, hgp, ⟨hRT, hRP, hRK, hRE, hRF⟩⟩ _ _ hW _ hl
set_option maxHeartbeats 4000000 in
set_option maxRecDepth 100000 in
theorem law_18 {p : Program} {e : Env} {s : State} {m : MethodId} {below : List Frame} {meth : Method} {c : Code} {l : Launch} {a L : Nat} {xs : Nat → Int32} {D : va_G} {cy : Nat → ClassId} {b oq oa ov : Nat} (hx : p.tables.exec = Jvm.exec) (hb : c.code = cL_law) (hr : meth.sig.returnType = ret) (hml : c.maxLocals = 4) (hown : s.vm.findClass RL = some m.cls) (hts : ∀ w ∈ TB, w.before #[Value.ref a] s = true) (hlocks : meth.locks = false) (hL : L ≤ 3072) (hX : va_X a L xs s s.heap) (hbl : a < s.heap.size) (hbA : ¬ (fun q => b ≤ q) a) (hbz : s.heap.size = b) (hO : m_O (fun q => b ≤ q) oq oa ov s s.heap) (y3 : Int32) (hy : 0 ≤ y3.toInt ∧ y3.toInt + 6 ≤ (L : Int)) (O : ∀ (μ : mM) (_ : m_LI μ) (H : Heap) (locs : List Loc) (_ : m_W D cy s b LAY μ H locs) (ls : Array Slot) (_ : lv_has ls 4 [(3, .int y3), (2, .ref (b + 81)), (1, .ref (b + 0)), (0, .ref a)]), W p l e room_1 s m #[Value.ref a] below meth c H locs (0 + 1 + 80 + 1 + 47) (0 + 11 + 14956 + 74 + 38526) (lw_Z below #[Value.ref a] s) (F0 m 860 ls [])) {μ : mM} (hLI : m_LI μ) {H : Heap} {locs : List Loc} (hW : m_W D cy s b LAY μ H locs) {ls : Array Slot} (hl : lv_has ls 4 [(3, .int y3), (2, .ref (b + 81)), (1, .ref (b + 0)), (0, .ref a)]) : W p l e room_1 s m #[Value.ref a] below meth c H locs (0 + 1 + 80 + 1 + 47) (0 + 11 + 14956 + 74 + 38526) (lw_Z below #[Value.ref a] s) (F0 m 814 ls []) := by
  obtain ⟨hI, hgp, hRT, hRP, hRK, hRE, hRF⟩ := hLI
  refine lv_aload_n hx hb dL_law_814 rfl (lv_at hl 2 rfl) ?_
  refine m_aI hW (m_runV (As := []) (rest := []) hx hb hml hown hts hW (0) (g_X11_sparks_f l D cy b (fun g => [3, 4].contains g) μ rfl rfl (μ.1 23 1) (hI 23 1 0 400 rfl) μ (IY.rf hI) rfl) mi_X11_sparks k_L_95 rfl rfl rfl hl.1 rfl (Nat.le_of_ble_eq_true rfl) dL_law_815 ⟨Nat.le_of_ble_eq_true rfl, Nat.le_of_ble_eq_true rfl⟩ ⟨Nat.le_of_ble_eq_true rfl, Nat.le_of_ble_eq_true rfl⟩) (fun x1 μ1 H locs q1 hW => ?_)
  have hI0 := hI
  obtain ⟨hJ1, q1⟩ := q1
  have hI := hJ1.1
  have hgp := hgp.fr hJ1 rfl rfl
  have hRK := hRK.fr hJ1 rfl rfl
  have hRE := hRE.fr hJ1 rfl rfl
  have hRF := hRF.fr hJ1 rfl
  refine lv_pop hx hb dL_law_818 rfl ?_
  refine lv_aload_n hx hb dL_law_819 rfl (lv_at hl 1 rfl) ?_
  refine m_aI hW (m_runV (As := []) (rest := []) hx hb hml hown hts hW (81) (g_X12_sparks_f l D cy b (fun g => [20, 23, 30].contains g) μ1 rfl rfl rfl (μ1.1 81 35) (hI 81 35 0 400 rfl) (μ1.1 106) μ1 (IY.rf hI) rfl rfl) mi_X12_sparks k_L_99 rfl rfl rfl hl.1 rfl (Nat.le_of_ble_eq_true rfl) dL_law_820 ⟨Nat.le_of_ble_eq_true rfl, Nat.le_of_ble_eq_true rfl⟩ ⟨Nat.le_of_ble_eq_true rfl, Nat.le_of_ble_eq_true rfl⟩) (fun x2 μ2 H locs q2 hW => ?_)
  obtain ⟨hJ2, q2⟩ := q2
  have hI := hJ2.1
  have hgp := hgp.fr hJ2 rfl rfl
  have hRK := hRK.fr hJ2 rfl rfl
  have hRE := hRE.fr hJ2 rfl rfl
  obtain ⟨hRT, hRP, hc⟩ := m_RP.spark hRT (hI0 81 35 0 400 rfl).1 q1 q2 hJ1 rfl hJ2 rfl rfl
  have hRF := hRF.fr hJ2 rfl
  refine lv_pop hx hb dL_law_823 rfl ?_
  refine lv_goto (tgt := 860) hx hb dL_law_824 (by decide) ?_
  exact O _ ⟨hI, hgp, ⟨hRT, hRP, hRK, hRE, hRF⟩⟩ _ _ hW _ hl
set_option maxHeartbeats 4000000 in
set_option maxRecDepth 100000 in
theorem law_19 {p : Program} {e : Env} {s : State} {m : MethodId} {below : List Frame} {meth : Method} {c : Code} {l : Launch} {a L : Nat} {xs : Nat → Int32} {D : va_G} {cy : Nat → ClassId} {b oq oa ov : Nat} (hx : p.tables.exec = Jvm.exec) (hb : c.code = cL_law) (hr : meth.sig.returnType = ret) (hml : c.maxLocals = 4) (hown : s.vm.findClass RL = some m.cls) (hts : ∀ w ∈ TB, w.before #[Value.ref a] s = true) (hlocks : meth.locks = false) (hL : L ≤ 3072) (hX : va_X a L xs s s.heap) (hbl : a < s.heap.size) (hbA : ¬ (fun q => b ≤ q) a) (hbz : s.heap.size = b) (hO : m_O (fun q => b ≤ q) oq oa ov s s.heap) (y3 : Int32) (hy : 0 ≤ y3.toInt ∧ y3.toInt + 6 ≤ (L : Int)) (O : ∀ (μ : mM) (_ : m_LI μ) (H : Heap) (locs : List Loc) (_ : m_W D cy s b LAY μ H locs) (ls : Array Slot) (_ : lv_has ls 4 [(3, .int y3), (2, .ref (b + 81)), (1, .ref (b + 0)), (0, .ref a)]), W p l e room_1 s m #[Value.ref a] below meth c H locs (0 + 1 + 80 + 1 + 47) (0 + 11 + 14956 + 74 + 38526) (lw_Z below #[Value.ref a] s) (F0 m 860 ls [])) {μ : mM} (hLI : m_LI μ) {H : Heap} {locs : List Loc} (hW : m_W D cy s b LAY μ H locs) {ls : Array Slot} (hl : lv_has ls 4 [(3, .int y3), (2, .ref (b + 81)), (1, .ref (b + 0)), (0, .ref a)]) : W p l e room_1 s m #[Value.ref a] below meth c H locs (0 + 1 + 80 + 1 + 47) (0 + 11 + 14956 + 74 + 38526) (lw_Z below #[Value.ref a] s) (F0 m 827 ls []) := by
  obtain ⟨hI, hgp, hRT, hRP, hRK, hRE, hRF⟩ := hLI
  refine lv_aload_n hx hb dL_law_827 rfl (lv_at hl 2 rfl) ?_
  refine lv_aload_n hx hb dL_law_828 rfl (lv_at hl 3 rfl) ?_
  refine lv_iload_n hx hb dL_law_829 rfl (lv_at hl 0 rfl) ?_
  refine lv_iconst (v := 1) hx hb dL_law_830 (by decide) ?_
  refine lv_iadd hx hb dL_law_831 ?_
  refine lv_topi (fun x1 ex1 => ?_)
  have tx1 : x1.toInt = y3.toInt + 1 := m_addI ex1 (rfl : y3.toInt = _) (by decide : (1 : Int32).toInt = 1) (by omega) (by omega)
  refine va_sld hx hb hX hbl hbA hW.2.2.1 (m_ixI (rfl : x1.toInt = _) (by omega) (by omega)) dL_law_832 ?_
  refine lv_topi (fun x2 ex2 => ?_)
  refine lv_aload_n hx hb dL_law_833 rfl (lv_at hl 3 rfl) ?_
  refine lv_iload_n hx hb dL_law_834 rfl (lv_at hl 0 rfl) ?_
  refine lv_iconst (v := 2) hx hb dL_law_835 (by decide) ?_
  refine lv_iadd hx hb dL_law_836 ?_
  refine lv_topi (fun x3 ex3 => ?_)
  have tx3 : x3.toInt = y3.toInt + 2 := m_addI ex3 (rfl : y3.toInt = _) (by decide : (2 : Int32).toInt = 2) (by omega) (by omega)
  refine va_sld hx hb hX hbl hbA hW.2.2.1 (m_ixI (rfl : x3.toInt = _) (by omega) (by omega)) dL_law_837 ?_
  refine lv_topi (fun x4 ex4 => ?_)
  refine m_aI hW (m_runV (As := [.int x2, .int x4]) (rest := []) hx hb hml hown hts hW (0) (g_X11_lost_f l D cy b (μ.1 25 1) (hI 25 1 0 400 rfl) (μ.1 26) x2 x4 μ hI rfl rfl) mi_X11_lost k_L_100 rfl rfl rfl hl.1 rfl (Nat.le_of_ble_eq_true rfl) dL_law_838 ⟨Nat.le_of_ble_eq_true rfl, Nat.le_of_ble_eq_true rfl⟩ ⟨Nat.le_of_ble_eq_true rfl, Nat.le_of_ble_eq_true rfl⟩) (fun x5 μ5 H locs q5 hW => ?_)
  have hI0 := hI
  obtain ⟨q5_m, q5⟩ := q5
  subst q5_m
  refine lv_pop hx hb dL_law_841 rfl ?_
  refine lv_aload_n hx hb dL_law_842 rfl (lv_at hl 1 rfl) ?_
  refine lv_aload_n hx hb dL_law_843 rfl (lv_at hl 3 rfl) ?_
  refine lv_iload_n hx hb dL_law_844 rfl (lv_at hl 0 rfl) ?_
  refine lv_iconst (v := 1) hx hb dL_law_845 (by decide) ?_
  refine lv_iadd hx hb dL_law_846 ?_
  refine lv_topi (fun x6 ex6 => ?_)
  have ex6 : x6 = x1 := ex6.trans ex1.symm
  have ex6 := ex6.symm
  subst ex6
  refine va_sld hx hb hX hbl hbA hW.2.2.1 (m_ixI (rfl : x1.toInt = _) (by omega) (by omega)) dL_law_847 ?_
  refine lv_topi (fun x7 ex7 => ?_)
  have ex7 : x7 = x2 := ex7.trans ex2.symm
  have ex7 := ex7.symm
  subst ex7
  refine lv_aload_n hx hb dL_law_848 rfl (lv_at hl 3 rfl) ?_
  refine lv_iload_n hx hb dL_law_849 rfl (lv_at hl 0 rfl) ?_
  refine lv_iconst (v := 2) hx hb dL_law_850 (by decide) ?_
  refine lv_iadd hx hb dL_law_851 ?_
  refine lv_topi (fun x8 ex8 => ?_)
  have ex8 : x8 = x3 := ex8.trans ex3.symm
  have ex8 := ex8.symm
  subst ex8
  refine va_sld hx hb hX hbl hbA hW.2.2.1 (m_ixI (rfl : x3.toInt = _) (by omega) (by omega)) dL_law_852 ?_
  refine lv_topi (fun x9 ex9 => ?_)
  have ex9 : x9 = x4 := ex9.trans ex4.symm
  have ex9 := ex9.symm
  subst ex9
  have hRP0 := hRP
  have hRE0 := hRE
  refine m_aI hW (m_runV (As := [.int x2, .int x4]) (rest := []) hx hb hml hown hts hW (81) (g_X12_lost_f l D cy b (fun g => [20].contains g) μ rfl (μ.1 81 73) (hI 81 73 0 400 rfl) (μ.1 128) x2 x4 μ (IY.rf hI) rfl rfl) mi_X12_lost k_L_103 rfl rfl rfl hl.1 rfl (Nat.le_of_ble_eq_true rfl) dL_law_853 ⟨Nat.le_of_ble_eq_true rfl, Nat.le_of_ble_eq_true rfl⟩ ⟨Nat.le_of_ble_eq_true rfl, Nat.le_of_ble_eq_true rfl⟩) (fun x10 μ10 H locs q10 hW => ?_)
  obtain ⟨hJ10, q10⟩ := q10
  have hI := hJ10.1
  have hgp := hgp.fr hJ10 rfl rfl
  have hRT := hRT.fr hJ10 rfl rfl
  have hRP := hRP.fr hJ10 rfl rfl
  have hRK := hRK.fr hJ10 rfl rfl
  have hRE := hRE.fr hJ10 rfl rfl
  have hc := m_RP.lost hRP0 q5 q10
  have hRF := hRF.fr hJ10 rfl
  refine lv_pop hx hb dL_law_856 rfl ?_
  refine lv_goto (tgt := 860) hx hb dL_law_857 (by decide) ?_
  exact O _ ⟨hI, hgp, ⟨hRT, hRP, hRK, hRE, hRF⟩⟩ _ _ hW _ hl
set_option maxHeartbeats 4000000 in
set_option maxRecDepth 100000 in
theorem law_next {p : Program} {e : Env} {s : State} {m : MethodId} {below : List Frame} {meth : Method} {c : Code} {l : Launch} {a L : Nat} {xs : Nat → Int32} {D : va_G} {cy : Nat → ClassId} {b oq oa ov : Nat} (hx : p.tables.exec = Jvm.exec) (hb : c.code = cL_law) (hr : meth.sig.returnType = ret) (hml : c.maxLocals = 4) (hown : s.vm.findClass RL = some m.cls) (hts : ∀ w ∈ TB, w.before #[Value.ref a] s = true) (hlocks : meth.locks = false) (hL : L ≤ 3072) (hX : va_X a L xs s s.heap) (hbl : a < s.heap.size) (hbA : ¬ (fun q => b ≤ q) a) (hbz : s.heap.size = b) (hO : m_O (fun q => b ≤ q) oq oa ov s s.heap) (f : Nat) (ih : ∀ (y3 : Int32) (_ : 0 ≤ y3.toInt ∧ y3.toInt ≤ (L : Int)) (_ : 3072 - y3.toInt < (f : Int)) (μ : mM) (_ : m_LI μ) (H : Heap) (locs : List Loc) (_ : m_W D cy s b LAY μ H locs) (ls : Array Slot) (_ : lv_has ls 4 [(3, .int y3), (2, .ref (b + 81)), (1, .ref (b + 0)), (0, .ref a)]), W p l e room_1 s m #[Value.ref a] below meth c H locs (0 + 1 + 80 + 1 + 47) (0 + 11 + 14956 + 74 + 38526) (lw_Z below #[Value.ref a] s) (F0 m 18 ls [])) (y3 : Int32) (hy : 0 ≤ y3.toInt ∧ y3.toInt + 6 ≤ (L : Int)) (hf : 3072 - y3.toInt < (f : Int) + 1) : ∀ (μ : mM) (_ : m_LI μ) (H : Heap) (locs : List Loc) (_ : m_W D cy s b LAY μ H locs) (ls : Array Slot) (_ : lv_has ls 4 [(3, .int y3), (2, .ref (b + 81)), (1, .ref (b + 0)), (0, .ref a)]), W p l e room_1 s m #[Value.ref a] below meth c H locs (0 + 1 + 80 + 1 + 47) (0 + 11 + 14956 + 74 + 38526) (lw_Z below #[Value.ref a] s) (F0 m 860 ls []) := by
  intro μ hLI H locs hW ls hl
  obtain ⟨x1, ex1⟩ : ∃ z : Int32, z = y3 + 6 := ⟨_, rfl⟩
  refine lv_iinc (v := x1) (lv' := [(3, .int x1), (2, .ref (b + 81)), (1, .ref (b + 0)), (0, .ref a)]) hx hb dL_law_860 hl (k := 0) rfl (by rw [ex1]; rfl) (by decide) rfl (fun ls hl => ?_)
  have tx1 : x1.toInt = y3.toInt + 6 := m_addI ex1 (rfl : y3.toInt = _) (by decide : (6 : Int32).toInt = 6) (by omega) (by omega)
  refine lv_goto (tgt := 18) hx hb dL_law_863 (by decide) ?_
  exact ih x1 (by omega) (by omega) μ hLI H locs hW ls hl
set_option maxHeartbeats 4000000 in
set_option maxRecDepth 100000 in
theorem law_loop {p : Program} {e : Env} {s : State} {m : MethodId} {below : List Frame} {meth : Method} {c : Code} {l : Launch} {a L : Nat} {xs : Nat → Int32} {D : va_G} {cy : Nat → ClassId} {b oq oa ov : Nat} (hx : p.tables.exec = Jvm.exec) (hb : c.code = cL_law) (hr : meth.sig.returnType = ret) (hml : c.maxLocals = 4) (hown : s.vm.findClass RL = some m.cls) (hts : ∀ w ∈ TB, w.before #[Value.ref a] s = true) (hlocks : meth.locks = false) (hL : L ≤ 3072) (hX : va_X a L xs s s.heap) (hbl : a < s.heap.size) (hbA : ¬ (fun q => b ≤ q) a) (hbz : s.heap.size = b) (hO : m_O (fun q => b ≤ q) oq oa ov s s.heap) : ∀ (f : Nat), ∀ (y3 : Int32) (_ : 0 ≤ y3.toInt ∧ y3.toInt ≤ (L : Int)) (_ : 3072 - y3.toInt < (f : Int)) (μ : mM) (_ : m_LI μ) (H : Heap) (locs : List Loc) (_ : m_W D cy s b LAY μ H locs) (ls : Array Slot) (_ : lv_has ls 4 [(3, .int y3), (2, .ref (b + 81)), (1, .ref (b + 0)), (0, .ref a)]), W p l e room_1 s m #[Value.ref a] below meth c H locs (0 + 1 + 80 + 1 + 47) (0 + 11 + 14956 + 74 + 38526) (lw_Z below #[Value.ref a] s) (F0 m 18 ls []) := by
  intro f
  induction f with
  | zero => intro y3 hy hf; exfalso; omega
  | succ f ih =>
    intro y3 hy hf μ hLI H locs hW ls hl
    refine lv_iload_n hx hb dL_law_18 rfl (lv_at hl 0 rfl) ?_
    refine lv_aload_n hx hb dL_law_19 rfl (lv_at hl 3 rfl) ?_
    refine va_slen hx hb hX hbl hbA hW.2.2.1 dL_law_20 ?_
    refine lv_topi (fun x1 ex1 => ?_)
    have tx1 : x1.toInt = (L : Int) := by rw [ex1]; exact nI_toInt (n := L) (by omega)
    refine lv_bipush (v := 6) hx hb dL_law_21 (by decide) ?_
    refine lv_isub hx hb dL_law_23 ?_
    refine lv_topi (fun x2 ex2 => ?_)
    have tx2 : x2.toInt = x1.toInt - 6 := m_subI ex2 (rfl : x1.toInt = _) (by decide : (6 : Int32).toInt = 6) (by omega) (by omega)
    refine lv_icmp_gt (tgt := 866) hx hb dL_law_24 (by decide) (fun c3 => ?_) (fun c3 => ?_)
    · have i3 := m_c1 (rfl : x2.toInt = _) (rfl : y3.toInt = _) c3
      refine lv_iconst (v := 1) hx hb dL_law_866 (by decide) ?_
      refine va_forget (fun q hq => by rw [hbz]; exact hW.2.2.1.2.2 q hq) ?_
      refine W.widen (k := 600000) (n := 7302250) (Nat.le_of_ble_eq_true rfl) (Nat.le_of_ble_eq_true rfl) ?_
      exact lw_ret hx hb hr hlocks dL_law_867
    · have i3 := m_c2 (rfl : x2.toInt = _) (rfl : y3.toInt = _) c3
      refine lv_aload_n hx hb dL_law_27 rfl (lv_at hl 3 rfl) ?_
      refine lv_iload_n hx hb dL_law_28 rfl (lv_at hl 0 rfl) ?_
      refine va_sld hx hb hX hbl hbA hW.2.2.1 (m_ixI (rfl : y3.toInt = _) (by omega) (by omega)) dL_law_29 ?_
      refine lv_topi (fun x4 ex4 => ?_)
      refine lv_bipush (v := 31) hx hb dL_law_30 (by decide) ?_
      refine lv_iand hx hb dL_law_32 ?_
      refine lv_topi (fun x5 ex5 => ?_)
      have bx5 : 0 ≤ x5.toInt ∧ x5.toInt ≤ 31 := m_andN (n := 31) ex5 rfl (by decide)
      by_cases c6 : x5.toInt < 0 ∨ 19 < x5.toInt
      · refine lv_tableOut (tgt := 860) hx hb dL_law_33 c6 (by decide) ?_
        exact law_next hx hb hr hml hown hts hlocks hL hX hbl hbA hbz hO f ih y3 (by omega) (by omega) μ hLI H locs hW ls hl
      · have q6 : x5.toInt = 0 ∨ x5.toInt = 1 ∨ x5.toInt = 2 ∨ x5.toInt = 3 ∨ x5.toInt = 4 ∨ x5.toInt = 5 ∨ x5.toInt = 6 ∨ x5.toInt = 7 ∨ x5.toInt = 8 ∨ x5.toInt = 9 ∨ x5.toInt = 10 ∨ x5.toInt = 11 ∨ x5.toInt = 12 ∨ x5.toInt = 13 ∨ x5.toInt = 14 ∨ x5.toInt = 15 ∨ x5.toInt = 16 ∨ x5.toInt = 17 ∨ x5.toInt = 18 ∨ x5.toInt = 19 := by omega
        rcases q6 with q6 | q6 | q6 | q6 | q6 | q6 | q6 | q6 | q6 | q6 | q6 | q6 | q6 | q6 | q6 | q6 | q6 | q6 | q6 | q6
        · refine lv_tableIn (off := 95) (tgt := 128) hx hb dL_law_33 (fun z => c6 (Or.inl z)) (fun z => c6 (Or.inr z)) (by rw [q6]; rfl) (by decide) ?_
          exact law_0 hx hb hr hml hown hts hlocks hL hX hbl hbA hbz hO y3 (by omega) (law_next hx hb hr hml hown hts hlocks hL hX hbl hbA hbz hO f ih y3 (by omega) (by omega)) hLI hW hl
        · refine lv_tableIn (off := 158) (tgt := 191) hx hb dL_law_33 (fun z => c6 (Or.inl z)) (fun z => c6 (Or.inr z)) (by rw [q6]; rfl) (by decide) ?_
          exact law_1 hx hb hr hml hown hts hlocks hL hX hbl hbA hbz hO y3 (by omega) (law_next hx hb hr hml hown hts hlocks hL hX hbl hbA hbz hO f ih y3 (by omega) (by omega)) hLI hW hl
        · refine lv_tableIn (off := 211) (tgt := 244) hx hb dL_law_33 (fun z => c6 (Or.inl z)) (fun z => c6 (Or.inr z)) (by rw [q6]; rfl) (by decide) ?_
          exact law_2 hx hb hr hml hown hts hlocks hL hX hbl hbA hbz hO y3 (by omega) (law_next hx hb hr hml hown hts hlocks hL hX hbl hbA hbz hO f ih y3 (by omega) (by omega)) hLI hW hl
        · refine lv_tableIn (off := 260) (tgt := 293) hx hb dL_law_33 (fun z => c6 (Or.inl z)) (fun z => c6 (Or.inr z)) (by rw [q6]; rfl) (by decide) ?_
          exact law_3 hx hb hr hml hown hts hlocks hL hX hbl hbA hbz hO y3 (by omega) (law_next hx hb hr hml hown hts hlocks hL hX hbl hbA hbz hO f ih y3 (by omega) (by omega)) hLI hW hl
        · refine lv_tableIn (off := 283) (tgt := 316) hx hb dL_law_33 (fun z => c6 (Or.inl z)) (fun z => c6 (Or.inr z)) (by rw [q6]; rfl) (by decide) ?_
          exact law_4 hx hb hr hml hown hts hlocks hL hX hbl hbA hbz hO y3 (by omega) (law_next hx hb hr hml hown hts hlocks hL hX hbl hbA hbz hO f ih y3 (by omega) (by omega)) hLI hW hl
        · refine lv_tableIn (off := 346) (tgt := 379) hx hb dL_law_33 (fun z => c6 (Or.inl z)) (fun z => c6 (Or.inr z)) (by rw [q6]; rfl) (by decide) ?_
          exact law_5 hx hb hr hml hown hts hlocks hL hX hbl hbA hbz hO y3 (by omega) (law_next hx hb hr hml hown hts hlocks hL hX hbl hbA hbz hO f ih y3 (by omega) (by omega)) hLI hW hl
        · refine lv_tableIn (off := 369) (tgt := 402) hx hb dL_law_33 (fun z => c6 (Or.inl z)) (fun z => c6 (Or.inr z)) (by rw [q6]; rfl) (by decide) ?_
          exact law_6 hx hb hr hml hown hts hlocks hL hX hbl hbA hbz hO y3 (by omega) (law_next hx hb hr hml hown hts hlocks hL hX hbl hbA hbz hO f ih y3 (by omega) (by omega)) hLI hW hl
        · refine lv_tableIn (off := 392) (tgt := 425) hx hb dL_law_33 (fun z => c6 (Or.inl z)) (fun z => c6 (Or.inr z)) (by rw [q6]; rfl) (by decide) ?_
          exact law_7 hx hb hr hml hown hts hlocks hL hX hbl hbA hbz hO y3 (by omega) (law_next hx hb hr hml hown hts hlocks hL hX hbl hbA hbz hO f ih y3 (by omega) (by omega)) hLI hW hl
        · refine lv_tableIn (off := 415) (tgt := 448) hx hb dL_law_33 (fun z => c6 (Or.inl z)) (fun z => c6 (Or.inr z)) (by rw [q6]; rfl) (by decide) ?_
          exact law_8 hx hb hr hml hown hts hlocks hL hX hbl hbA hbz hO y3 (by omega) (law_next hx hb hr hml hown hts hlocks hL hX hbl hbA hbz hO f ih y3 (by omega) (by omega)) hLI hW hl
        · refine lv_tableIn (off := 438) (tgt := 471) hx hb dL_law_33 (fun z => c6 (Or.inl z)) (fun z => c6 (Or.inr z)) (by rw [q6]; rfl) (by decide) ?_
          exact law_9 hx hb hr hml hown hts hlocks hL hX hbl hbA hbz hO y3 (by omega) (law_next hx hb hr hml hown hts hlocks hL hX hbl hbA hbz hO f ih y3 (by omega) (by omega)) hLI hW hl
        · refine lv_tableIn (off := 481) (tgt := 514) hx hb dL_law_33 (fun z => c6 (Or.inl z)) (fun z => c6 (Or.inr z)) (by rw [q6]; rfl) (by decide) ?_
          exact law_10 hx hb hr hml hown hts hlocks hL hX hbl hbA hbz hO y3 (by omega) (law_next hx hb hr hml hown hts hlocks hL hX hbl hbA hbz hO f ih y3 (by omega) (by omega)) hLI hW hl
        · refine lv_tableIn (off := 504) (tgt := 537) hx hb dL_law_33 (fun z => c6 (Or.inl z)) (fun z => c6 (Or.inr z)) (by rw [q6]; rfl) (by decide) ?_
          exact law_11 hx hb hr hml hown hts hlocks hL hX hbl hbA hbz hO y3 (by omega) (law_next hx hb hr hml hown hts hlocks hL hX hbl hbA hbz hO f ih y3 (by omega) (by omega)) hLI hW hl
        · refine lv_tableIn (off := 527) (tgt := 560) hx hb dL_law_33 (fun z => c6 (Or.inl z)) (fun z => c6 (Or.inr z)) (by rw [q6]; rfl) (by decide) ?_
          exact law_12 hx hb hr hml hown hts hlocks hL hX hbl hbA hbz hO y3 (by omega) (law_next hx hb hr hml hown hts hlocks hL hX hbl hbA hbz hO f ih y3 (by omega) (by omega)) hLI hW hl
        · refine lv_tableIn (off := 560) (tgt := 593) hx hb dL_law_33 (fun z => c6 (Or.inl z)) (fun z => c6 (Or.inr z)) (by rw [q6]; rfl) (by decide) ?_
          exact law_13 hx hb hr hml hown hts hlocks hL hX hbl hbA hbz hO y3 (by omega) (law_next hx hb hr hml hown hts hlocks hL hX hbl hbA hbz hO f ih y3 (by omega) (by omega)) hLI hW hl
        · refine lv_tableIn (off := 593) (tgt := 626) hx hb dL_law_33 (fun z => c6 (Or.inl z)) (fun z => c6 (Or.inr z)) (by rw [q6]; rfl) (by decide) ?_
          exact law_14 hx hb hr hml hown hts hlocks hL hX hbl hbA hbz hO y3 (by omega) (law_next hx hb hr hml hown hts hlocks hL hX hbl hbA hbz hO f ih y3 (by omega) (by omega)) hLI hW hl
        · refine lv_tableIn (off := 636) (tgt := 669) hx hb dL_law_33 (fun z => c6 (Or.inl z)) (fun z => c6 (Or.inr z)) (by rw [q6]; rfl) (by decide) ?_
          exact law_15 hx hb hr hml hown hts hlocks hL hX hbl hbA hbz hO y3 (by omega) (law_next hx hb hr hml hown hts hlocks hL hX hbl hbA hbz hO f ih y3 (by omega) (by omega)) hLI hW hl
        · refine lv_tableIn (off := 669) (tgt := 702) hx hb dL_law_33 (fun z => c6 (Or.inl z)) (fun z => c6 (Or.inr z)) (by rw [q6]; rfl) (by decide) ?_
          exact law_16 hx hb hr hml hown hts hlocks hL hX hbl hbA hbz hO y3 (by omega) (law_next hx hb hr hml hown hts hlocks hL hX hbl hbA hbz hO f ih y3 (by omega) (by omega)) hLI hW hl
        · refine lv_tableIn (off := 738) (tgt := 771) hx hb dL_law_33 (fun z => c6 (Or.inl z)) (fun z => c6 (Or.inr z)) (by rw [q6]; rfl) (by decide) ?_
          exact law_17 hx hb hr hml hown hts hlocks hL hX hbl hbA hbz hO y3 (by omega) (law_next hx hb hr hml hown hts hlocks hL hX hbl hbA hbz hO f ih y3 (by omega) (by omega)) hLI hW hl
        · refine lv_tableIn (off := 781) (tgt := 814) hx hb dL_law_33 (fun z => c6 (Or.inl z)) (fun z => c6 (Or.inr z)) (by rw [q6]; rfl) (by decide) ?_
          exact law_18 hx hb hr hml hown hts hlocks hL hX hbl hbA hbz hO y3 (by omega) (law_next hx hb hr hml hown hts hlocks hL hX hbl hbA hbz hO f ih y3 (by omega) (by omega)) hLI hW hl
        · refine lv_tableIn (off := 794) (tgt := 827) hx hb dL_law_33 (fun z => c6 (Or.inl z)) (fun z => c6 (Or.inr z)) (by rw [q6]; rfl) (by decide) ?_
          exact law_19 hx hb hr hml hown hts hlocks hL hX hbl hbA hbz hO y3 (by omega) (law_next hx hb hr hml hown hts hlocks hL hX hbl hbA hbz hO f ih y3 (by omega) (by omega)) hLI hW hl
set_option maxHeartbeats 4000000 in
set_option maxRecDepth 100000 in
theorem law_go {p : Program} {e : Env} {s : State} {m : MethodId} {below : List Frame} {meth : Method} {c : Code} {l : Launch} {a L : Nat} {xs : Nat → Int32} {D : va_G} {cy : Nat → ClassId} {b oq oa ov : Nat} (hx : p.tables.exec = Jvm.exec) (hb : c.code = cL_law) (hr : meth.sig.returnType = ret) (hml : c.maxLocals = 4) (hown : s.vm.findClass RL = some m.cls) (hts : ∀ w ∈ TB, w.before #[Value.ref a] s = true) (hlocks : meth.locks = false) (hL : L ≤ 3072) (hX : va_X a L xs s s.heap) (hbl : a < s.heap.size) (hbA : ¬ (fun q => b ≤ q) a) (hbz : s.heap.size = b) (hO : m_O (fun q => b ≤ q) oq oa ov s s.heap) {H : Heap} {locs : List Loc} (hW : m_W D cy s b LAY MU0 H locs) {ls : Array Slot} (hl : lv_has ls 4 [(2, .ref (b + 81)), (1, .ref (b + 0)), (0, .ref a)]) : W p l e room_1 s m #[Value.ref a] below meth c H locs (0 + 1 + 80 + 1 + 47) (0 + 11 + 14956 + 74 + 38526) (lw_Z below #[Value.ref a] s) (F0 m 16 ls []) := by
  refine lv_iconst (v := 0) hx hb dL_law_16 (by decide) ?_
  refine lv_istore_n (lv' := [(3, .int 0), (2, .ref (b + 81)), (1, .ref (b + 0)), (0, .ref a)]) hx hb dL_law_17 rfl hl (by decide) rfl (fun ls hl => ?_)
  exact law_loop hx hb hr hml hown hts hlocks hL hX hbl hbA hbz hO 3073 0 ⟨by decide, by show (0 : Int) ≤ L; omega⟩ (by decide) MU0 ⟨MU0_I, MU0_G, ⟨MU0_R.1, MU0_R.2.1, MU0_R.2.2.1, MU0_R.2.2.2, MU0_F⟩⟩ H locs hW ls hl
