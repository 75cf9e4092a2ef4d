set_option maxHeartbeats 4000000 in
set_option maxRecDepth 100000 in
theorem law_end {p : Program} {e : Env} {s : State} {m : MethodId} {below : List Frame} {meth : Method} {c : Code} {l : Launch} {a : Nat} {xs : Nat → Int32} {D : va_G} {cy : Nat → ClassId} {b : Nat} (hx : p.tables.exec = Jvm.exec) (hb : c.code = cL_law) (hr : meth.sig.returnType = ret) (hml : c.maxLocals = 4) (hown : s.vm.findClass RL = some m.cls) (hts : ∀ w ∈ TB, w.before #[Value.ref a] s = true) (hlocks : meth.locks = false) (hX : va_X a 6 xs s s.heap) (hbl : a < s.heap.size) (hbA : ¬ (fun q => b ≤ q) a) (hbz : s.heap.size = b) {H : Heap} {locs : List Loc} {μ : mM} (hW : m_W D cy s b LAY μ H locs) {ls : Array Slot} (hl : lv_has ls 4 [(3, .int 0), (2, .ref (b + 81)), (1, .ref (b + 0)), (0, .ref a)]) : W p l e room_1 s m #[Value.ref a] below meth c H locs (0 + 1 + 80 + 1 + 47) (0 + 11 + 14956 + 74 + 38526) (lw_Z below #[Value.ref a] s) (F0 m 861 ls []) := by
  refine lv_iinc (v := 6) (lv' := [(3, .int 6), (2, .ref (b + 81)), (1, .ref (b + 0)), (0, .ref a)]) hx hb dL_law_861 hl (k := 0) rfl (by decide) (by decide) rfl (fun ls hl => ?_)
  refine lv_goto (tgt := 18) hx hb dL_law_864 (by decide) ?_
  refine lv_iload_n hx hb dL_law_18 rfl (lv_at hl 0 rfl) ?_
  refine lv_aload_n hx hb dL_law_19 rfl (lv_at hl 3 rfl) ?_
  refine va_slen hx hb hX hbl hbA hW.2.2.1 dL_law_20 ?_
  refine lv_topi (fun x1 ex1 => ?_)
  have ex1 : x1 = 6 := by rw [ex1]; rfl
  subst ex1
  refine lv_bipush (v := 6) hx hb dL_law_21 (by decide) ?_
  refine lv_isub hx hb dL_law_23 ?_
  refine lv_topi (fun x2 ex2 => ?_)
  have ex2 : x2 = 0 := by rw [ex2]; decide
  subst ex2
  refine lv_icmp_gt (tgt := 867) hx hb dL_law_24 (by decide) (fun _ => ?_) (fun c => False.elim (by revert c; decide))
  refine lv_iconst (v := 1) hx hb dL_law_867 (by decide) ?_
  refine va_forget (fun q hq => by rw [hbz]; exact hW.2.2.1.2.2 q hq) ?_
  refine W.widen (k := 600000) (n := 7302250) (Nat.le_of_ble_eq_true rfl) (Nat.le_of_ble_eq_true rfl) ?_
  exact lw_ret hx hb hr hlocks dL_law_868
set_option maxHeartbeats 4000000 in
set_option maxRecDepth 100000 in
theorem law_0 {p : Program} {e : Env} {s : State} {m : MethodId} {below : List Frame} {meth : Method} {c : Code} {l : Launch} {a : Nat} {xs : Nat → Int32} {D : va_G} {cy : Nat → ClassId} {b : Nat} (hx : p.tables.exec = Jvm.exec) (hb : c.code = cL_law) (hr : meth.sig.returnType = ret) (hml : c.maxLocals = 4) (hown : s.vm.findClass RL = some m.cls) (hts : ∀ w ∈ TB, w.before #[Value.ref a] s = true) (hlocks : meth.locks = false) (hX : va_X a 6 xs s s.heap) (hbl : a < s.heap.size) (hbA : ¬ (fun q => b ≤ q) a) (hbz : s.heap.size = b) {H : Heap} {locs : List Loc} (hW : m_W D cy s b LAY MU0 H locs) {ls : Array Slot} (hl : lv_has ls 4 [(3, .int 0), (2, .ref (b + 81)), (1, .ref (b + 0)), (0, .ref a)]) : W p l e room_1 s m #[Value.ref a] below meth c H locs (0 + 1 + 80 + 1 + 47) (0 + 11 + 14956 + 74 + 38526) (lw_Z below #[Value.ref a] s) (F0 m 128 ls []) := by
  refine lv_aload_n hx hb dL_law_128 rfl (lv_at hl 2 rfl) ?_
  refine lv_aload_n hx hb dL_law_129 rfl (lv_at hl 3 rfl) ?_
  refine lv_iload_n hx hb dL_law_130 rfl (lv_at hl 0 rfl) ?_
  refine lv_iconst (v := 1) hx hb dL_law_131 (by decide) ?_
  refine lv_iadd hx hb dL_law_132 ?_
  refine lv_topi (fun x1 ex1 => ?_)
  have ex1 : x1 = 1 := by rw [ex1]; decide
  subst ex1
  refine va_sld hx hb hX hbl hbA hW.2.2.1 (vp_in_iff.mpr ⟨by decide, by decide⟩) dL_law_133 ?_
  refine lv_topi (fun x2 ex2 => ?_)
  have ex2 : x2 = (xs 1) := by rw [ex2]; rfl
  subst ex2
  refine lv_aload_n hx hb dL_law_134 rfl (lv_at hl 3 rfl) ?_
  refine lv_iload_n hx hb dL_law_135 rfl (lv_at hl 0 rfl) ?_
  refine lv_iconst (v := 2) hx hb dL_law_136 (by decide) ?_
  refine lv_iadd hx hb dL_law_137 ?_
  refine lv_topi (fun x3 ex3 => ?_)
  have ex3 : x3 = 2 := by rw [ex3]; decide
  subst ex3
  refine va_sld hx hb hX hbl hbA hW.2.2.1 (vp_in_iff.mpr ⟨by decide, by decide⟩) dL_law_138 ?_
  refine lv_topi (fun x4 ex4 => ?_)
  have ex4 : x4 = (xs 2) := by rw [ex4]; rfl
  subst ex4
  refine lv_aload_n hx hb dL_law_139 rfl (lv_at hl 3 rfl) ?_
  refine lv_iload_n hx hb dL_law_140 rfl (lv_at hl 0 rfl) ?_
  refine lv_iconst (v := 3) hx hb dL_law_141 (by decide) ?_
  refine lv_iadd hx hb dL_law_142 ?_
  refine lv_topi (fun x5 ex5 => ?_)
  have ex5 : x5 = 3 := by rw [ex5]; decide
  subst ex5
  refine va_sld hx hb hX hbl hbA hW.2.2.1 (vp_in_iff.mpr ⟨by decide, by decide⟩) dL_law_143 ?_
  refine lv_topi (fun x6 ex6 => ?_)
  have ex6 : x6 = (xs 3) := by rw [ex6]; rfl
  subst ex6
  refine lv_aload_n hx hb dL_law_144 rfl (lv_at hl 3 rfl) ?_
  refine lv_iload_n hx hb dL_law_145 rfl (lv_at hl 0 rfl) ?_
  refine lv_iconst (v := 4) hx hb dL_law_146 (by decide) ?_
  refine lv_iadd hx hb dL_law_147 ?_
  refine lv_topi (fun x7 ex7 => ?_)
  have ex7 : x7 = 4 := by rw [ex7]; decide
  subst ex7
  refine va_sld hx hb hX hbl hbA hW.2.2.1 (vp_in_iff.mpr ⟨by decide, by decide⟩) dL_law_148 ?_
  refine lv_topi (fun x8 ex8 => ?_)
  have ex8 : x8 = (xs 4) := by rw [ex8]; rfl
  subst ex8
  refine lv_aload_n hx hb dL_law_149 rfl (lv_at hl 3 rfl) ?_
  refine lv_iload_n hx hb dL_law_150 rfl (lv_at hl 0 rfl) ?_
  refine lv_iconst (v := 5) hx hb dL_law_151 (by decide) ?_
  refine lv_iadd hx hb dL_law_152 ?_
  refine lv_topi (fun x9 ex9 => ?_)
  have ex9 : x9 = 5 := by rw [ex9]; decide
  subst ex9
  refine va_sld hx hb hX hbl hbA hW.2.2.1 (vp_in_iff.mpr ⟨by decide, by decide⟩) dL_law_153 ?_
  refine lv_topi (fun x10 ex10 => ?_)
  have ex10 : x10 = (xs 5) := by rw [ex10]; rfl
  subst ex10
  refine m_aIx hW (m_runV (As := [.int (xs 1), .int (xs 2), .int (xs 3), .int (xs 4), .int (xs 5)]) (rest := []) hx hb hml hown hts (m_pre (l1 := LX) (l2 := LM) hW) (0) (c_X11_stuff l D cy b MU0  (xs 1) (xs 2) (xs 3) (xs 4) (xs 5)) mi_X11_stuff k_L_13 rfl rfl rfl hl.1 rfl (Nat.le_of_ble_eq_true rfl) dL_law_154 ⟨Nat.le_of_ble_eq_true rfl, Nat.le_of_ble_eq_true rfl⟩ ⟨Nat.le_of_ble_eq_true rfl, Nat.le_of_ble_eq_true rfl⟩) (fun x11 μ11 H locs q11 hW => ?_)
  refine lv_aload_n hx hb dL_law_157 rfl (lv_at hl 1 rfl) ?_
  refine lv_aload_n hx hb dL_law_158 rfl (lv_at hl 3 rfl) ?_
  refine lv_iload_n hx hb dL_law_159 rfl (lv_at hl 0 rfl) ?_
  refine lv_iconst (v := 1) hx hb dL_law_160 (by decide) ?_
  refine lv_iadd hx hb dL_law_161 ?_
  refine lv_topi (fun x12 ex12 => ?_)
  have ex12 : x12 = 1 := by rw [ex12]; decide
  subst ex12
  refine va_sld hx hb hX hbl hbA hW.2.2.1 (vp_in_iff.mpr ⟨by decide, by decide⟩) dL_law_162 ?_
  refine lv_topi (fun x13 ex13 => ?_)
  have ex13 : x13 = (xs 1) := by rw [ex13]; rfl
  subst ex13
  refine lv_aload_n hx hb dL_law_163 rfl (lv_at hl 3 rfl) ?_
  refine lv_iload_n hx hb dL_law_164 rfl (lv_at hl 0 rfl) ?_
  refine lv_iconst (v := 2) hx hb dL_law_165 (by decide) ?_
  refine lv_iadd hx hb dL_law_166 ?_
  refine lv_topi (fun x14 ex14 => ?_)
  have ex14 : x14 = 2 := by rw [ex14]; decide
  subst ex14
  refine va_sld hx hb hX hbl hbA hW.2.2.1 (vp_in_iff.mpr ⟨by decide, by decide⟩) dL_law_167 ?_
  refine lv_topi (fun x15 ex15 => ?_)
  have ex15 : x15 = (xs 2) := by rw [ex15]; rfl
  subst ex15
  refine lv_aload_n hx hb dL_law_168 rfl (lv_at hl 3 rfl) ?_
  refine lv_iload_n hx hb dL_law_169 rfl (lv_at hl 0 rfl) ?_
  refine lv_iconst (v := 3) hx hb dL_law_170 (by decide) ?_
  refine lv_iadd hx hb dL_law_171 ?_
  refine lv_topi (fun x16 ex16 => ?_)
  have ex16 : x16 = 3 := by rw [ex16]; decide
  subst ex16
  refine va_sld hx hb hX hbl hbA hW.2.2.1 (vp_in_iff.mpr ⟨by decide, by decide⟩) dL_law_172 ?_
  refine lv_topi (fun x17 ex17 => ?_)
  have ex17 : x17 = (xs 3) := by rw [ex17]; rfl
  subst ex17
  refine lv_aload_n hx hb dL_law_173 rfl (lv_at hl 3 rfl) ?_
  refine lv_iload_n hx hb dL_law_174 rfl (lv_at hl 0 rfl) ?_
  refine lv_iconst (v := 4) hx hb dL_law_175 (by decide) ?_
  refine lv_iadd hx hb dL_law_176 ?_
  refine lv_topi (fun x18 ex18 => ?_)
  have ex18 : x18 = 4 := by rw [ex18]; decide
  subst ex18
  refine va_sld hx hb hX hbl hbA hW.2.2.1 (vp_in_iff.mpr ⟨by decide, by decide⟩) dL_law_177 ?_
  refine lv_topi (fun x19 ex19 => ?_)
  have ex19 : x19 = (xs 4) := by rw [ex19]; rfl
  subst ex19
  refine lv_aload_n hx hb dL_law_178 rfl (lv_at hl 3 rfl) ?_
  refine lv_iload_n hx hb dL_law_179 rfl (lv_at hl 0 rfl) ?_
  refine lv_iconst (v := 5) hx hb dL_law_180 (by decide) ?_
  refine lv_iadd hx hb dL_law_181 ?_
  refine lv_topi (fun x20 ex20 => ?_)
  have ex20 : x20 = 5 := by rw [ex20]; decide
  subst ex20
  refine va_sld hx hb hX hbl hbA hW.2.2.1 (vp_in_iff.mpr ⟨by decide, by decide⟩) dL_law_182 ?_
  refine lv_topi (fun x21 ex21 => ?_)
  have ex21 : x21 = (xs 5) := by rw [ex21]; rfl
  subst ex21
  refine m_aI hW (m_runV (As := [.int (xs 1), .int (xs 2), .int (xs 3), .int (xs 4), .int (xs 5)]) (rest := [.int x11]) hx hb hml hown hts hW (81) (c_X12_stuff l D cy b (m_gl LX.length μ11 MU0)  (xs 1) (xs 2) (xs 3) (xs 4) (xs 5)) mi_X12_stuff k_L_17 rfl rfl rfl hl.1 rfl (Nat.le_of_ble_eq_true rfl) dL_law_183 ⟨Nat.le_of_ble_eq_true rfl, Nat.le_of_ble_eq_true rfl⟩ ⟨Nat.le_of_ble_eq_true rfl, Nat.le_of_ble_eq_true rfl⟩) (fun x22 μ22 H locs q22 hW => ?_)
  refine lv_icmp_eq (tgt := 861) hx hb dL_law_186 (by decide) (fun c23 => ?_) (fun c => absurd (q11.trans q22.symm) c)
  exact law_end hx hb hr hml hown hts hlocks hX hbl hbA hbz hW hl
set_option maxHeartbeats 4000000 in
set_option maxRecDepth 100000 in
theorem law_1 {p : Program} {e : Env} {s : State} {m : MethodId} {below : List Frame} {meth : Method} {c : Code} {l : Launch} {a : Nat} {xs : Nat → Int32} {D : va_G} {cy : Nat → ClassId} {b : Nat} (hx : p.tables.exec = Jvm.exec) (hb : c.code = cL_law) (hr : meth.sig.returnType = ret) (hml : c.maxLocals = 4) (hown : s.vm.findClass RL = some m.cls) (hts : ∀ w ∈ TB, w.before #[Value.ref a] s = true) (hlocks : meth.locks = false) (hX : va_X a 6 xs s s.heap) (hbl : a < s.heap.size) (hbA : ¬ (fun q => b ≤ q) a) (hbz : s.heap.size = b) {H : Heap} {locs : List Loc} (hW : m_W D cy s b LAY MU0 H locs) {ls : Array Slot} (hl : lv_has ls 4 [(3, .int 0), (2, .ref (b + 81)), (1, .ref (b + 0)), (0, .ref a)]) : W p l e room_1 s m #[Value.ref a] below meth c H locs (0 + 1 + 80 + 1 + 47) (0 + 11 + 14956 + 74 + 38526) (lw_Z below #[Value.ref a] s) (F0 m 191 ls []) := by
  refine lv_aload_n hx hb dL_law_191 rfl (lv_at hl 2 rfl) ?_
  refine lv_aload_n hx hb dL_law_192 rfl (lv_at hl 3 rfl) ?_
  refine lv_iload_n hx hb dL_law_193 rfl (lv_at hl 0 rfl) ?_
  refine lv_iconst (v := 1) hx hb dL_law_194 (by decide) ?_
  refine lv_iadd hx hb dL_law_195 ?_
  refine lv_topi (fun x1 ex1 => ?_)
  have ex1 : x1 = 1 := by rw [ex1]; decide
  subst ex1
  refine va_sld hx hb hX hbl hbA hW.2.2.1 (vp_in_iff.mpr ⟨by decide, by decide⟩) dL_law_196 ?_
  refine lv_topi (fun x2 ex2 => ?_)
  have ex2 : x2 = (xs 1) := by rw [ex2]; rfl
  subst ex2
  refine lv_aload_n hx hb dL_law_197 rfl (lv_at hl 3 rfl) ?_
  refine lv_iload_n hx hb dL_law_198 rfl (lv_at hl 0 rfl) ?_
  refine lv_iconst (v := 2) hx hb dL_law_199 (by decide) ?_
  refine lv_iadd hx hb dL_law_200 ?_
  refine lv_topi (fun x3 ex3 => ?_)
  have ex3 : x3 = 2 := by rw [ex3]; decide
  subst ex3
  refine va_sld hx hb hX hbl hbA hW.2.2.1 (vp_in_iff.mpr ⟨by decide, by decide⟩) dL_law_201 ?_
  refine lv_topi (fun x4 ex4 => ?_)
  have ex4 : x4 = (xs 2) := by rw [ex4]; rfl
  subst ex4
  refine lv_aload_n hx hb dL_law_202 rfl (lv_at hl 3 rfl) ?_
  refine lv_iload_n hx hb dL_law_203 rfl (lv_at hl 0 rfl) ?_
  refine lv_iconst (v := 3) hx hb dL_law_204 (by decide) ?_
  refine lv_iadd hx hb dL_law_205 ?_
  refine lv_topi (fun x5 ex5 => ?_)
  have ex5 : x5 = 3 := by rw [ex5]; decide
  subst ex5
  refine va_sld hx hb hX hbl hbA hW.2.2.1 (vp_in_iff.mpr ⟨by decide, by decide⟩) dL_law_206 ?_
  refine lv_topi (fun x6 ex6 => ?_)
  have ex6 : x6 = (xs 3) := by rw [ex6]; rfl
  subst ex6
  refine lv_aload_n hx hb dL_law_207 rfl (lv_at hl 3 rfl) ?_
  refine lv_iload_n hx hb dL_law_208 rfl (lv_at hl 0 rfl) ?_
  refine lv_iconst (v := 4) hx hb dL_law_209 (by decide) ?_
  refine lv_iadd hx hb dL_law_210 ?_
  refine lv_topi (fun x7 ex7 => ?_)
  have ex7 : x7 = 4 := by rw [ex7]; decide
  subst ex7
  refine va_sld hx hb hX hbl hbA hW.2.2.1 (vp_in_iff.mpr ⟨by decide, by decide⟩) dL_law_211 ?_
  refine lv_topi (fun x8 ex8 => ?_)
  have ex8 : x8 = (xs 4) := by rw [ex8]; rfl
  subst ex8
  refine m_aIx hW (m_runV (As := [.int (xs 1), .int (xs 2), .int (xs 3), .int (xs 4)]) (rest := []) hx hb hml hown hts (m_pre (l1 := LX) (l2 := LM) hW) (0) (c_X11_plate l D cy b MU0  (xs 1) (xs 2) (xs 3) (xs 4)) mi_X11_plate k_L_18 rfl rfl rfl hl.1 rfl (Nat.le_of_ble_eq_true rfl) dL_law_212 ⟨Nat.le_of_ble_eq_true rfl, Nat.le_of_ble_eq_true rfl⟩ ⟨Nat.le_of_ble_eq_true rfl, Nat.le_of_ble_eq_true rfl⟩) (fun x9 μ9 H locs q9 hW => ?_)
  refine lv_aload_n hx hb dL_law_215 rfl (lv_at hl 1 rfl) ?_
  refine lv_aload_n hx hb dL_law_216 rfl (lv_at hl 3 rfl) ?_
  refine lv_iload_n hx hb dL_law_217 rfl (lv_at hl 0 rfl) ?_
  refine lv_iconst (v := 1) hx hb dL_law_218 (by decide) ?_
  refine lv_iadd hx hb dL_law_219 ?_
  refine lv_topi (fun x10 ex10 => ?_)
  have ex10 : x10 = 1 := by rw [ex10]; decide
  subst ex10
  refine va_sld hx hb hX hbl hbA hW.2.2.1 (vp_in_iff.mpr ⟨by decide, by decide⟩) dL_law_220 ?_
  refine lv_topi (fun x11 ex11 => ?_)
  have ex11 : x11 = (xs 1) := by rw [ex11]; rfl
  subst ex11
  refine lv_aload_n hx hb dL_law_221 rfl (lv_at hl 3 rfl) ?_
  refine lv_iload_n hx hb dL_law_222 rfl (lv_at hl 0 rfl) ?_
  refine lv_iconst (v := 2) hx hb dL_law_223 (by decide) ?_
  refine lv_iadd hx hb dL_law_224 ?_
  refine lv_topi (fun x12 ex12 => ?_)
  have ex12 : x12 = 2 := by rw [ex12]; decide
  subst ex12
  refine va_sld hx hb hX hbl hbA hW.2.2.1 (vp_in_iff.mpr ⟨by decide, by decide⟩) dL_law_225 ?_
  refine lv_topi (fun x13 ex13 => ?_)
  have ex13 : x13 = (xs 2) := by rw [ex13]; rfl
  subst ex13
  refine lv_aload_n hx hb dL_law_226 rfl (lv_at hl 3 rfl) ?_
  refine lv_iload_n hx hb dL_law_227 rfl (lv_at hl 0 rfl) ?_
  refine lv_iconst (v := 3) hx hb dL_law_228 (by decide) ?_
  refine lv_iadd hx hb dL_law_229 ?_
  refine lv_topi (fun x14 ex14 => ?_)
  have ex14 : x14 = 3 := by rw [ex14]; decide
  subst ex14
  refine va_sld hx hb hX hbl hbA hW.2.2.1 (vp_in_iff.mpr ⟨by decide, by decide⟩) dL_law_230 ?_
  refine lv_topi (fun x15 ex15 => ?_)
  have ex15 : x15 = (xs 3) := by rw [ex15]; rfl
  subst ex15
  refine lv_aload_n hx hb dL_law_231 rfl (lv_at hl 3 rfl) ?_
  refine lv_iload_n hx hb dL_law_232 rfl (lv_at hl 0 rfl) ?_
  refine lv_iconst (v := 4) hx hb dL_law_233 (by decide) ?_
  refine lv_iadd hx hb dL_law_234 ?_
  refine lv_topi (fun x16 ex16 => ?_)
  have ex16 : x16 = 4 := by rw [ex16]; decide
  subst ex16
  refine va_sld hx hb hX hbl hbA hW.2.2.1 (vp_in_iff.mpr ⟨by decide, by decide⟩) dL_law_235 ?_
  refine lv_topi (fun x17 ex17 => ?_)
  have ex17 : x17 = (xs 4) := by rw [ex17]; rfl
  subst ex17
  refine m_aI hW (m_runV (As := [.int (xs 1), .int (xs 2), .int (xs 3), .int (xs 4)]) (rest := [.int x9]) hx hb hml hown hts hW (81) (c_X12_plate l D cy b (m_gl LX.length μ9 MU0)  (xs 1) (xs 2) (xs 3) (xs 4)) mi_X12_plate k_L_22 rfl rfl rfl hl.1 rfl (Nat.le_of_ble_eq_true rfl) dL_law_236 ⟨Nat.le_of_ble_eq_true rfl, Nat.le_of_ble_eq_true rfl⟩ ⟨Nat.le_of_ble_eq_true rfl, Nat.le_of_ble_eq_true rfl⟩) (fun x18 μ18 H locs q18 hW => ?_)
  refine lv_icmp_eq (tgt := 861) hx hb dL_law_239 (by decide) (fun c19 => ?_) (fun c => absurd (q9.trans q18.symm) c)
  exact law_end hx hb hr hml hown hts hlocks hX hbl hbA hbz hW hl
set_option maxHeartbeats 4000000 in
set_option maxRecDepth 100000 in
theorem law_2 {p : Program} {e : Env} {s : State} {m : MethodId} {below : List Frame} {meth : Method} {c : Code} {l : Launch} {a : Nat} {xs : Nat → Int32} {D : va_G} {cy : Nat → ClassId} {b : Nat} (hx : p.tables.exec = Jvm.exec) (hb : c.code = cL_law) (hr : meth.sig.returnType = ret) (hml : c.maxLocals = 4) (hown : s.vm.findClass RL = some m.cls) (hts : ∀ w ∈ TB, w.before #[Value.ref a] s = true) (hlocks : meth.locks = false) (hX : va_X a 6 xs s s.heap) (hbl : a < s.heap.size) (hbA : ¬ (fun q => b ≤ q) a) (hbz : s.heap.size = b) {H : Heap} {locs : List Loc} (hW : m_W D cy s b LAY MU0 H locs) {ls : Array Slot} (hl : lv_has ls 4 [(3, .int 0), (2, .ref (b + 81)), (1, .ref (b + 0)), (0, .ref a)]) : W p l e room_1 s m #[Value.ref a] below meth c H locs (0 + 1 + 80 + 1 + 47) (0 + 11 + 14956 + 74 + 38526) (lw_Z below #[Value.ref a] s) (F0 m 244 ls []) := by
  refine lv_aload_n hx hb dL_law_244 rfl (lv_at hl 2 rfl) ?_
  refine lv_aload_n hx hb dL_law_245 rfl (lv_at hl 3 rfl) ?_
  refine lv_iload_n hx hb dL_law_246 rfl (lv_at hl 0 rfl) ?_
  refine lv_iconst (v := 1) hx hb dL_law_247 (by decide) ?_
  refine lv_iadd hx hb dL_law_248 ?_
  refine lv_topi (fun x1 ex1 => ?_)
  have ex1 : x1 = 1 := by rw [ex1]; decide
  subst ex1
  refine va_sld hx hb hX hbl hbA hW.2.2.1 (vp_in_iff.mpr ⟨by decide, by decide⟩) dL_law_249 ?_
  refine lv_topi (fun x2 ex2 => ?_)
  have ex2 : x2 = (xs 1) := by rw [ex2]; rfl
  subst ex2
  refine lv_aload_n hx hb dL_law_250 rfl (lv_at hl 3 rfl) ?_
  refine lv_iload_n hx hb dL_law_251 rfl (lv_at hl 0 rfl) ?_
  refine lv_iconst (v := 2) hx hb dL_law_252 (by decide) ?_
  refine lv_iadd hx hb dL_law_253 ?_
  refine lv_topi (fun x3 ex3 => ?_)
  have ex3 : x3 = 2 := by rw [ex3]; decide
  subst ex3
  refine va_sld hx hb hX hbl hbA hW.2.2.1 (vp_in_iff.mpr ⟨by decide, by decide⟩) dL_law_254 ?_
  refine lv_topi (fun x4 ex4 => ?_)
  have ex4 : x4 = (xs 2) := by rw [ex4]; rfl
  subst ex4
  refine lv_if_eq (tgt := 262) hx hb dL_law_255 (by decide) (fun c5 => ?_) (fun c5 => ?_)
  · refine lv_iconst (v := 0) hx hb dL_law_262 (by decide) ?_
    refine m_aIx hW (m_runV (As := [.int (xs 1), .int 0]) (rest := []) hx hb hml hown hts (m_pre (l1 := LX) (l2 := LM) hW) (0) (c_X11_beam l D cy b MU0  (xs 1) 0 (Or.inl rfl)) mi_X11_beam k_L_23 rfl rfl rfl hl.1 rfl (Nat.le_of_ble_eq_true rfl) dL_law_263 ⟨Nat.le_of_ble_eq_true rfl, Nat.le_of_ble_eq_true rfl⟩ ⟨Nat.le_of_ble_eq_true rfl, Nat.le_of_ble_eq_true rfl⟩) (fun x6 μ6 H locs q6 hW => ?_)
    refine lv_aload_n hx hb dL_law_266 rfl (lv_at hl 1 rfl) ?_
    refine lv_aload_n hx hb dL_law_267 rfl (lv_at hl 3 rfl) ?_
    refine lv_iload_n hx hb dL_law_268 rfl (lv_at hl 0 rfl) ?_
    refine lv_iconst (v := 1) hx hb dL_law_269 (by decide) ?_
    refine lv_iadd hx hb dL_law_270 ?_
    refine lv_topi (fun x7 ex7 => ?_)
    have ex7 : x7 = 1 := by rw [ex7]; decide
    subst ex7
    refine va_sld hx hb hX hbl hbA hW.2.2.1 (vp_in_iff.mpr ⟨by decide, by decide⟩) dL_law_271 ?_
    refine lv_topi (fun x8 ex8 => ?_)
    have ex8 : x8 = (xs 1) := by rw [ex8]; rfl
    subst ex8
    refine lv_aload_n hx hb dL_law_272 rfl (lv_at hl 3 rfl) ?_
    refine lv_iload_n hx hb dL_law_273 rfl (lv_at hl 0 rfl) ?_
    refine lv_iconst (v := 2) hx hb dL_law_274 (by decide) ?_
    refine lv_iadd hx hb dL_law_275 ?_
    refine lv_topi (fun x9 ex9 => ?_)
    have ex9 : x9 = 2 := by rw [ex9]; decide
    subst ex9
    refine va_sld hx hb hX hbl hbA hW.2.2.1 (vp_in_iff.mpr ⟨by decide, by decide⟩) dL_law_276 ?_
    refine lv_topi (fun x10 ex10 => ?_)
    have ex10 : x10 = (xs 2) := by rw [ex10]; rfl
    subst ex10
    refine lv_if_eq (tgt := 284) hx hb dL_law_277 (by decide) (fun c11 => ?_) (fun c11 => ?_)
    · refine lv_iconst (v := 0) hx hb dL_law_284 (by decide) ?_
      refine m_aI hW (m_runV (As := [.int (xs 1), .int 0]) (rest := [.int x6]) hx hb hml hown hts hW (81) (c_X12_beam l D cy b (m_gl LX.length μ6 MU0)  (xs 1) 0 (Or.inl rfl)) mi_X12_beam k_L_27 rfl rfl rfl hl.1 rfl (Nat.le_of_ble_eq_true rfl) dL_law_285 ⟨Nat.le_of_ble_eq_true rfl, Nat.le_of_ble_eq_true rfl⟩ ⟨Nat.le_of_ble_eq_true rfl, Nat.le_of_ble_eq_true rfl⟩) (fun x12 μ12 H locs q12 hW => ?_)
      refine lv_icmp_eq (tgt := 861) hx hb dL_law_288 (by decide) (fun c13 => ?_) (fun c => absurd (q6.trans q12.symm) c)
      exact law_end hx hb hr hml hown hts hlocks hX hbl hbA hbz hW hl
    · refine lv_iconst (v := 1) hx hb dL_law_280 (by decide) ?_
      refine lv_goto (tgt := 285) hx hb dL_law_281 (by decide) ?_
      refine m_aI hW (m_runV (As := [.int (xs 1), .int 1]) (rest := [.int x6]) hx hb hml hown hts hW (81) (c_X12_beam l D cy b (m_gl LX.length μ6 MU0)  (xs 1) 1 (Or.inr rfl)) mi_X12_beam k_L_27 rfl rfl rfl hl.1 rfl (Nat.le_of_ble_eq_true rfl) dL_law_285 ⟨Nat.le_of_ble_eq_true rfl, Nat.le_of_ble_eq_true rfl⟩ ⟨Nat.le_of_ble_eq_true rfl, Nat.le_of_ble_eq_true rfl⟩) (fun x14 μ14 H locs q14 hW => ?_)
      refine lv_icmp_eq (tgt := 861) hx hb dL_law_288 (by decide) (fun c15 => ?_) (fun c => absurd (q6.trans q14.symm) c)
      exact law_end hx hb hr hml hown hts hlocks hX hbl hbA hbz hW hl
  · refine lv_iconst (v := 1) hx hb dL_law_258 (by decide) ?_
    refine lv_goto (tgt := 263) hx hb dL_law_259 (by decide) ?_
    refine m_aIx hW (m_runV (As := [.int (xs 1), .int 1]) (rest := []) hx hb hml hown hts (m_pre (l1 := LX) (l2 := LM) hW) (0) (c_X11_beam l D cy b MU0  (xs 1) 1 (Or.inr rfl)) mi_X11_beam k_L_23 rfl rfl rfl hl.1 rfl (Nat.le_of_ble_eq_true rfl) dL_law_263 ⟨Nat.le_of_ble_eq_true rfl, Nat.le_of_ble_eq_true rfl⟩ ⟨Nat.le_of_ble_eq_true rfl, Nat.le_of_ble_eq_true rfl⟩) (fun x16 μ16 H locs q16 hW => ?_)
    refine lv_aload_n hx hb dL_law_266 rfl (lv_at hl 1 rfl) ?_
    refine lv_aload_n hx hb dL_law_267 rfl (lv_at hl 3 rfl) ?_
    refine lv_iload_n hx hb dL_law_268 rfl (lv_at hl 0 rfl) ?_
    refine lv_iconst (v := 1) hx hb dL_law_269 (by decide) ?_
    refine lv_iadd hx hb dL_law_270 ?_
    refine lv_topi (fun x17 ex17 => ?_)
    have ex17 : x17 = 1 := by rw [ex17]; decide
    subst ex17
    refine va_sld hx hb hX hbl hbA hW.2.2.1 (vp_in_iff.mpr ⟨by decide, by decide⟩) dL_law_271 ?_
    refine lv_topi (fun x18 ex18 => ?_)
    have ex18 : x18 = (xs 1) := by rw [ex18]; rfl
    subst ex18
    refine lv_aload_n hx hb dL_law_272 rfl (lv_at hl 3 rfl) ?_
    refine lv_iload_n hx hb dL_law_273 rfl (lv_at hl 0 rfl) ?_
    refine lv_iconst (v := 2) hx hb dL_law_274 (by decide) ?_
    refine lv_iadd hx hb dL_law_275 ?_
    refine lv_topi (fun x19 ex19 => ?_)
    have ex19 : x19 = 2 := by rw [ex19]; decide
    subst ex19
    refine va_sld hx hb hX hbl hbA hW.2.2.1 (vp_in_iff.mpr ⟨by decide, by decide⟩) dL_law_276 ?_
    refine lv_topi (fun x20 ex20 => ?_)
    have ex20 : x20 = (xs 2) := by rw [ex20]; rfl
    subst ex20
    refine lv_if_eq (tgt := 284) hx hb dL_law_277 (by decide) (fun c21 => ?_) (fun c21 => ?_)
    · refine lv_iconst (v := 0) hx hb dL_law_284 (by decide) ?_
      refine m_aI hW (m_runV (As := [.int (xs 1), .int 0]) (rest := [.int x16]) hx hb hml hown hts hW (81) (c_X12_beam l D cy b (m_gl LX.length μ16 MU0)  (xs 1) 0 (Or.inl rfl)) mi_X12_beam k_L_27 rfl rfl rfl hl.1 rfl (Nat.le_of_ble_eq_true rfl) dL_law_285 ⟨Nat.le_of_ble_eq_true rfl, Nat.le_of_ble_eq_true rfl⟩ ⟨Nat.le_of_ble_eq_true rfl, Nat.le_of_ble_eq_true rfl⟩) (fun x22 μ22 H locs q22 hW => ?_)
      refine lv_icmp_eq (tgt := 861) hx hb dL_law_288 (by decide) (fun c23 => ?_) (fun c => absurd (q16.trans q22.symm) c)
      exact law_end hx hb hr hml hown hts hlocks hX hbl hbA hbz hW hl
    · refine lv_iconst (v := 1) hx hb dL_law_280 (by decide) ?_
      refine lv_goto (tgt := 285) hx hb dL_law_281 (by decide) ?_
      refine m_aI hW (m_runV (As := [.int (xs 1), .int 1]) (rest := [.int x16]) hx hb hml hown hts hW (81) (c_X12_beam l D cy b (m_gl LX.length μ16 MU0)  (xs 1) 1 (Or.inr rfl)) mi_X12_beam k_L_27 rfl rfl rfl hl.1 rfl (Nat.le_of_ble_eq_true rfl) dL_law_285 ⟨Nat.le_of_ble_eq_true rfl, Nat.le_of_ble_eq_true rfl⟩ ⟨Nat.le_of_ble_eq_true rfl, Nat.le_of_ble_eq_true rfl⟩) (fun x24 μ24 H locs q24 hW => ?_)
      refine lv_icmp_eq (tgt := 861) hx hb dL_law_288 (by decide) (fun c25 => ?_) (fun c => absurd (q16.trans q24.symm) c)
      exact law_end hx hb hr hml hown hts hlocks hX hbl hbA hbz hW hl
set_option maxHeartbeats 4000000 in
set_option maxRecDepth 100000 in
theorem law_3 {p : Program} {e : Env} {s : State} {m : MethodId} {below : List Frame} {meth : Method} {c : Code} {l : Launch} {a : Nat} {xs : Nat → Int32} {D : va_G} {cy : Nat → ClassId} {b : Nat} (hx : p.tables.exec = Jvm.exec) (hb : c.code = cL_law) (hr : meth.sig.returnType = ret) (hml : c.maxLocals = 4) (hown : s.vm.findClass RL = some m.cls) (hts : ∀ w ∈ TB, w.before #[Value.ref a] s = true) (hlocks : meth.locks = false) (hX : va_X a 6 xs s s.heap) (hbl : a < s.heap.size) (hbA : ¬ (fun q => b ≤ q) a) (hbz : s.heap.size = b) {H : Heap} {locs : List Loc} (hW : m_W D cy s b LAY MU0 H locs) {ls : Array Slot} (hl : lv_has ls 4 [(3, .int 0), (2, .ref (b + 81)), (1, .ref (b + 0)), (0, .ref a)]) : W p l e room_1 s m #[Value.ref a] below meth c H locs (0 + 1 + 80 + 1 + 47) (0 + 11 + 14956 + 74 + 38526) (lw_Z below #[Value.ref a] s) (F0 m 293 ls []) := by
  refine lv_aload_n hx hb dL_law_293 rfl (lv_at hl 2 rfl) ?_
  refine lv_aload_n hx hb dL_law_294 rfl (lv_at hl 3 rfl) ?_
  refine lv_iload_n hx hb dL_law_295 rfl (lv_at hl 0 rfl) ?_
  refine lv_iconst (v := 1) hx hb dL_law_296 (by decide) ?_
  refine lv_iadd hx hb dL_law_297 ?_
  refine lv_topi (fun x1 ex1 => ?_)
  have ex1 : x1 = 1 := by rw [ex1]; decide
  subst ex1
  refine va_sld hx hb hX hbl hbA hW.2.2.1 (vp_in_iff.mpr ⟨by decide, by decide⟩) dL_law_298 ?_
  refine lv_topi (fun x2 ex2 => ?_)
  have ex2 : x2 = (xs 1) := by rw [ex2]; rfl
  subst ex2
  refine m_aIx hW (m_runV (As := [.int (xs 1)]) (rest := []) hx hb hml hown hts (m_pre (l1 := LX) (l2 := LM) hW) (0) (c_X11_pitch l D cy b MU0  (xs 1)) mi_X11_pitch k_L_28 rfl rfl rfl hl.1 rfl (Nat.le_of_ble_eq_true rfl) dL_law_299 ⟨Nat.le_of_ble_eq_true rfl, Nat.le_of_ble_eq_true rfl⟩ ⟨Nat.le_of_ble_eq_true rfl, Nat.le_of_ble_eq_true rfl⟩) (fun x3 μ3 H locs q3 hW => ?_)
  refine lv_aload_n hx hb dL_law_302 rfl (lv_at hl 1 rfl) ?_
  refine lv_aload_n hx hb dL_law_303 rfl (lv_at hl 3 rfl) ?_
  refine lv_iload_n hx hb dL_law_304 rfl (lv_at hl 0 rfl) ?_
  refine lv_iconst (v := 1) hx hb dL_law_305 (by decide) ?_
  refine lv_iadd hx hb dL_law_306 ?_
  refine lv_topi (fun x4 ex4 => ?_)
  have ex4 : x4 = 1 := by rw [ex4]; decide
  subst ex4
  refine va_sld hx hb hX hbl hbA hW.2.2.1 (vp_in_iff.mpr ⟨by decide, by decide⟩) dL_law_307 ?_
  refine lv_topi (fun x5 ex5 => ?_)
  have ex5 : x5 = (xs 1) := by rw [ex5]; rfl
  subst ex5
  refine m_aI hW (m_runV (As := [.int (xs 1)]) (rest := [.int x3]) hx hb hml hown hts hW (81) (c_X12_pitch l D cy b (m_gl LX.length μ3 MU0)  (xs 1)) mi_X12_pitch k_L_32 rfl rfl rfl hl.1 rfl (Nat.le_of_ble_eq_true rfl) dL_law_308 ⟨Nat.le_of_ble_eq_true rfl, Nat.le_of_ble_eq_true rfl⟩ ⟨Nat.le_of_ble_eq_true rfl, Nat.le_of_ble_eq_true rfl⟩) (fun x6 μ6 H locs q6 hW => ?_)
  refine lv_icmp_eq (tgt := 861) hx hb dL_law_311 (by decide) (fun c7 => ?_) (fun c => absurd (q3.trans q6.symm) c)
  exact law_end hx hb hr hml hown hts hlocks hX hbl hbA hbz hW hl
set_option maxHeartbeats 4000000 in
set_option maxRecDepth 100000 in
theorem law_4 {p : Program} {e : Env} {s : State} {m : MethodId} {below : List Frame} {meth : Method} {c : Code} {l : Launch} {a : Nat} {xs : Nat → Int32} {D : va_G} {cy : Nat → ClassId} {b : Nat} (hx : p.tables.exec = Jvm.exec) (hb : c.code = cL_law) (hr : meth.sig.returnType = ret) (hml : c.maxLocals = 4) (hown : s.vm.findClass RL = some m.cls) (hts : ∀ w ∈ TB, w.before #[Value.ref a] s = true) (hlocks : meth.locks = false) (hX : va_X a 6 xs s s.heap) (hbl : a < s.heap.size) (hbA : ¬ (fun q => b ≤ q) a) (hbz : s.heap.size = b) {H : Heap} {locs : List Loc} (hW : m_W D cy s b LAY MU0 H locs) {ls : Array Slot} (hl : lv_has ls 4 [(3, .int 0), (2, .ref (b + 81)), (1, .ref (b + 0)), (0, .ref a)]) : W p l e room_1 s m #[Value.ref a] below meth c H locs (0 + 1 + 80 + 1 + 47) (0 + 11 + 14956 + 74 + 38526) (lw_Z below #[Value.ref a] s) (F0 m 316 ls []) := by
  refine lv_aload_n hx hb dL_law_316 rfl (lv_at hl 2 rfl) ?_
  refine lv_aload_n hx hb dL_law_317 rfl (lv_at hl 3 rfl) ?_
  refine lv_iload_n hx hb dL_law_318 rfl (lv_at hl 0 rfl) ?_
  refine lv_iconst (v := 1) hx hb dL_law_319 (by decide) ?_
  refine lv_iadd hx hb dL_law_320 ?_
  refine lv_topi (fun x1 ex1 => ?_)
  have ex1 : x1 = 1 := by rw [ex1]; decide
  subst ex1
  refine va_sld hx hb hX hbl hbA hW.2.2.1 (vp_in_iff.mpr ⟨by decide, by decide⟩) dL_law_321 ?_
  refine lv_topi (fun x2 ex2 => ?_)
  have ex2 : x2 = (xs 1) := by rw [ex2]; rfl
  subst ex2
  refine lv_aload_n hx hb dL_law_322 rfl (lv_at hl 3 rfl) ?_
  refine lv_iload_n hx hb dL_law_323 rfl (lv_at hl 0 rfl) ?_
  refine lv_iconst (v := 2) hx hb dL_law_324 (by decide) ?_
  refine lv_iadd hx hb dL_law_325 ?_
  refine lv_topi (fun x3 ex3 => ?_)
  have ex3 : x3 = 2 := by rw [ex3]; decide
  subst ex3
  refine va_sld hx hb hX hbl hbA hW.2.2.1 (vp_in_iff.mpr ⟨by decide, by decide⟩) dL_law_326 ?_
  refine lv_topi (fun x4 ex4 => ?_)
  have ex4 : x4 = (xs 2) := by rw [ex4]; rfl
  subst ex4
  refine lv_aload_n hx hb dL_law_327 rfl (lv_at hl 3 rfl) ?_
  refine lv_iload_n hx hb dL_law_328 rfl (lv_at hl 0 rfl) ?_
  refine lv_iconst (v := 3) hx hb dL_law_329 (by decide) ?_
  refine lv_iadd hx hb dL_law_330 ?_
  refine lv_topi (fun x5 ex5 => ?_)
  have ex5 : x5 = 3 := by rw [ex5]; decide
  subst ex5
  refine va_sld hx hb hX hbl hbA hW.2.2.1 (vp_in_iff.mpr ⟨by decide, by decide⟩) dL_law_331 ?_
  refine lv_topi (fun x6 ex6 => ?_)
  have ex6 : x6 = (xs 3) := by rw [ex6]; rfl
  subst ex6
  refine lv_aload_n hx hb dL_law_332 rfl (lv_at hl 3 rfl) ?_
  refine lv_iload_n hx hb dL_law_333 rfl (lv_at hl 0 rfl) ?_
  refine lv_iconst (v := 4) hx hb dL_law_334 (by decide) ?_
  refine lv_iadd hx hb dL_law_335 ?_
  refine lv_topi (fun x7 ex7 => ?_)
  have ex7 : x7 = 4 := by rw [ex7]; decide
  subst ex7
  refine va_sld hx hb hX hbl hbA hW.2.2.1 (vp_in_iff.mpr ⟨by decide, by decide⟩) dL_law_336 ?_
  refine lv_topi (fun x8 ex8 => ?_)
  have ex8 : x8 = (xs 4) := by rw [ex8]; rfl
  subst ex8
  refine lv_aload_n hx hb dL_law_337 rfl (lv_at hl 3 rfl) ?_
  refine lv_iload_n hx hb dL_law_338 rfl (lv_at hl 0 rfl) ?_
  refine lv_iconst (v := 5) hx hb dL_law_339 (by decide) ?_
  refine lv_iadd hx hb dL_law_340 ?_
  refine lv_topi (fun x9 ex9 => ?_)
  have ex9 : x9 = 5 := by rw [ex9]; decide
  subst ex9
  refine va_sld hx hb hX hbl hbA hW.2.2.1 (vp_in_iff.mpr ⟨by decide, by decide⟩) dL_law_341 ?_
  refine lv_topi (fun x10 ex10 => ?_)
  have ex10 : x10 = (xs 5) := by rw [ex10]; rfl
  subst ex10
  refine m_aIx hW (m_runV (As := [.int (xs 1), .int (xs 2), .int (xs 3), .int (xs 4), .int (xs 5)]) (rest := []) hx hb hml hown hts (m_pre (l1 := LX) (l2 := LM) hW) (0) (c_X11_feed l D cy b MU0 z_23_1 (xs 1) (xs 2) (xs 3) (xs 4) (xs 5)) mi_X11_feed k_L_33 rfl rfl rfl hl.1 rfl (Nat.le_of_ble_eq_true rfl) dL_law_342 ⟨Nat.le_of_ble_eq_true rfl, Nat.le_of_ble_eq_true rfl⟩ ⟨Nat.le_of_ble_eq_true rfl, Nat.le_of_ble_eq_true rfl⟩) (fun x11 μ11 H locs q11 hW => ?_)
  refine lv_aload_n hx hb dL_law_345 rfl (lv_at hl 1 rfl) ?_
  refine lv_aload_n hx hb dL_law_346 rfl (lv_at hl 3 rfl) ?_
  refine lv_iload_n hx hb dL_law_347 rfl (lv_at hl 0 rfl) ?_
  refine lv_iconst (v := 1) hx hb dL_law_348 (by decide) ?_
  refine lv_iadd hx hb dL_law_349 ?_
  refine lv_topi (fun x12 ex12 => ?_)
  have ex12 : x12 = 1 := by rw [ex12]; decide
  subst ex12
  refine va_sld hx hb hX hbl hbA hW.2.2.1 (vp_in_iff.mpr ⟨by decide, by decide⟩) dL_law_350 ?_
  refine lv_topi (fun x13 ex13 => ?_)
  have ex13 : x13 = (xs 1) := by rw [ex13]; rfl
  subst ex13
  refine lv_aload_n hx hb dL_law_351 rfl (lv_at hl 3 rfl) ?_
  refine lv_iload_n hx hb dL_law_352 rfl (lv_at hl 0 rfl) ?_
  refine lv_iconst (v := 2) hx hb dL_law_353 (by decide) ?_
  refine lv_iadd hx hb dL_law_354 ?_
  refine lv_topi (fun x14 ex14 => ?_)
  have ex14 : x14 = 2 := by rw [ex14]; decide
  subst ex14
  refine va_sld hx hb hX hbl hbA hW.2.2.1 (vp_in_iff.mpr ⟨by decide, by decide⟩) dL_law_355 ?_
  refine lv_topi (fun x15 ex15 => ?_)
  have ex15 : x15 = (xs 2) := by rw [ex15]; rfl
  subst ex15
  refine lv_aload_n hx hb dL_law_356 rfl (lv_at hl 3 rfl) ?_
  refine lv_iload_n hx hb dL_law_357 rfl (lv_at hl 0 rfl) ?_
  refine lv_iconst (v := 3) hx hb dL_law_358 (by decide) ?_
  refine lv_iadd hx hb dL_law_359 ?_
  refine lv_topi (fun x16 ex16 => ?_)
  have ex16 : x16 = 3 := by rw [ex16]; decide
  subst ex16
  refine va_sld hx hb hX hbl hbA hW.2.2.1 (vp_in_iff.mpr ⟨by decide, by decide⟩) dL_law_360 ?_
  refine lv_topi (fun x17 ex17 => ?_)
  have ex17 : x17 = (xs 3) := by rw [ex17]; rfl
  subst ex17
  refine lv_aload_n hx hb dL_law_361 rfl (lv_at hl 3 rfl) ?_
  refine lv_iload_n hx hb dL_law_362 rfl (lv_at hl 0 rfl) ?_
  refine lv_iconst (v := 4) hx hb dL_law_363 (by decide) ?_
  refine lv_iadd hx hb dL_law_364 ?_
  refine lv_topi (fun x18 ex18 => ?_)
  have ex18 : x18 = 4 := by rw [ex18]; decide
  subst ex18
  refine va_sld hx hb hX hbl hbA hW.2.2.1 (vp_in_iff.mpr ⟨by decide, by decide⟩) dL_law_365 ?_
  refine lv_topi (fun x19 ex19 => ?_)
  have ex19 : x19 = (xs 4) := by rw [ex19]; rfl
  subst ex19
  refine lv_aload_n hx hb dL_law_366 rfl (lv_at hl 3 rfl) ?_
  refine lv_iload_n hx hb dL_law_367 rfl (lv_at hl 0 rfl) ?_
  refine lv_iconst (v := 5) hx hb dL_law_368 (by decide) ?_
  refine lv_iadd hx hb dL_law_369 ?_
  refine lv_topi (fun x20 ex20 => ?_)
  have ex20 : x20 = 5 := by rw [ex20]; decide
  subst ex20
  refine va_sld hx hb hX hbl hbA hW.2.2.1 (vp_in_iff.mpr ⟨by decide, by decide⟩) dL_law_370 ?_
  refine lv_topi (fun x21 ex21 => ?_)
  have ex21 : x21 = (xs 5) := by rw [ex21]; rfl
  subst ex21
  refine m_aI hW (m_runV (As := [.int (xs 1), .int (xs 2), .int (xs 3), .int (xs 4), .int (xs 5)]) (rest := [.int x11]) hx hb hml hown hts hW (81) (c_X12_feed l D cy b (m_gl LX.length μ11 MU0) z_81_35 (xs 1) (xs 2) (xs 3) (xs 4) (xs 5)) mi_X12_feed k_L_37 rfl rfl rfl hl.1 rfl (Nat.le_of_ble_eq_true rfl) dL_law_371 ⟨Nat.le_of_ble_eq_true rfl, Nat.le_of_ble_eq_true rfl⟩ ⟨Nat.le_of_ble_eq_true rfl, Nat.le_of_ble_eq_true rfl⟩) (fun x22 μ22 H locs q22 hW => ?_)
  refine lv_icmp_eq (tgt := 861) hx hb dL_law_374 (by decide) (fun c23 => ?_) (fun c => absurd (q11.trans q22.symm) c)
  exact law_end hx hb hr hml hown hts hlocks hX hbl hbA hbz hW hl
set_option maxHeartbeats 4000000 in
set_option maxRecDepth 100000 in
theorem law_5 {p : Program} {e : Env} {s : State} {m : MethodId} {below : List Frame} {meth : Method} {c : Code} {l : Launch} {a : Nat} {xs : Nat → Int32} {D : va_G} {cy : Nat → ClassId} {b : Nat} (hx : p.tables.exec = Jvm.exec) (hb : c.code = cL_law) (hr : meth.sig.returnType = ret) (hml : c.maxLocals = 4) (hown : s.vm.findClass RL = some m.cls) (hts : ∀ w ∈ TB, w.before #[Value.ref a] s = true) (hlocks : meth.locks = false) (hX : va_X a 6 xs s s.heap) (hbl : a < s.heap.size) (hbA : ¬ (fun q => b ≤ q) a) (hbz : s.heap.size = b) {H : Heap} {locs : List Loc} (hW : m_W D cy s b LAY MU0 H locs) {ls : Array Slot} (hl : lv_has ls 4 [(3, .int 0), (2, .ref (b + 81)), (1, .ref (b + 0)), (0, .ref a)]) : W p l e room_1 s m #[Value.ref a] below meth c H locs (0 + 1 + 80 + 1 + 47) (0 + 11 + 14956 + 74 + 38526) (lw_Z below #[Value.ref a] s) (F0 m 379 ls []) := by
  refine lv_aload_n hx hb dL_law_379 rfl (lv_at hl 2 rfl) ?_
  refine lv_aload_n hx hb dL_law_380 rfl (lv_at hl 3 rfl) ?_
  refine lv_iload_n hx hb dL_law_381 rfl (lv_at hl 0 rfl) ?_
  refine lv_iconst (v := 1) hx hb dL_law_382 (by decide) ?_
  refine lv_iadd hx hb dL_law_383 ?_
  refine lv_topi (fun x1 ex1 => ?_)
  have ex1 : x1 = 1 := by rw [ex1]; decide
  subst ex1
  refine va_sld hx hb hX hbl hbA hW.2.2.1 (vp_in_iff.mpr ⟨by decide, by decide⟩) dL_law_384 ?_
  refine lv_topi (fun x2 ex2 => ?_)
  have ex2 : x2 = (xs 1) := by rw [ex2]; rfl
  subst ex2
  refine m_aIx hW (m_runV (As := [.int (xs 1)]) (rest := []) hx hb hml hown hts (m_pre (l1 := LX) (l2 := LM) hW) (0) (c_X11_end l D cy b MU0 z_23_1 (xs 1)) mi_X11_end k_L_38 rfl rfl rfl hl.1 rfl (Nat.le_of_ble_eq_true rfl) dL_law_385 ⟨Nat.le_of_ble_eq_true rfl, Nat.le_of_ble_eq_true rfl⟩ ⟨Nat.le_of_ble_eq_true rfl, Nat.le_of_ble_eq_true rfl⟩) (fun x3 μ3 H locs q3 hW => ?_)
  refine lv_aload_n hx hb dL_law_388 rfl (lv_at hl 1 rfl) ?_
  refine lv_aload_n hx hb dL_law_389 rfl (lv_at hl 3 rfl) ?_
  refine lv_iload_n hx hb dL_law_390 rfl (lv_at hl 0 rfl) ?_
  refine lv_iconst (v := 1) hx hb dL_law_391 (by decide) ?_
  refine lv_iadd hx hb dL_law_392 ?_
  refine lv_topi (fun x4 ex4 => ?_)
  have ex4 : x4 = 1 := by rw [ex4]; decide
  subst ex4
  refine va_sld hx hb hX hbl hbA hW.2.2.1 (vp_in_iff.mpr ⟨by decide, by decide⟩) dL_law_393 ?_
  refine lv_topi (fun x5 ex5 => ?_)
  have ex5 : x5 = (xs 1) := by rw [ex5]; rfl
  subst ex5
  refine m_aI hW (m_runV (As := [.int (xs 1)]) (rest := [.int x3]) hx hb hml hown hts hW (81) (c_X12_end l D cy b (m_gl LX.length μ3 MU0) z_81_35 (xs 1)) mi_X12_end k_L_41 rfl rfl rfl hl.1 rfl (Nat.le_of_ble_eq_true rfl) dL_law_394 ⟨Nat.le_of_ble_eq_true rfl, Nat.le_of_ble_eq_true rfl⟩ ⟨Nat.le_of_ble_eq_true rfl, Nat.le_of_ble_eq_true rfl⟩) (fun x6 μ6 H locs q6 hW => ?_)
  refine lv_icmp_eq (tgt := 861) hx hb dL_law_397 (by decide) (fun c7 => ?_) (fun c => absurd (q3.trans q6.symm) c)
  exact law_end hx hb hr hml hown hts hlocks hX hbl hbA hbz hW hl
set_option maxHeartbeats 4000000 in
set_option maxRecDepth 100000 in
theorem law_6 {p : Program} {e : Env} {s : State} {m : MethodId} {below : List Frame} {meth : Method} {c : Code} {l : Launch} {a : Nat} {xs : Nat → Int32} {D : va_G} {cy : Nat → ClassId} {b : Nat} (hx : p.tables.exec = Jvm.exec) (hb : c.code = cL_law) (hr : meth.sig.returnType = ret) (hml : c.maxLocals = 4) (hown : s.vm.findClass RL = some m.cls) (hts : ∀ w ∈ TB, w.before #[Value.ref a] s = true) (hlocks : meth.locks = false) (hX : va_X a 6 xs s s.heap) (hbl : a < s.heap.size) (hbA : ¬ (fun q => b ≤ q) a) (hbz : s.heap.size = b) {H : Heap} {locs : List Loc} (hW : m_W D cy s b LAY MU0 H locs) {ls : Array Slot} (hl : lv_has ls 4 [(3, .int 0), (2, .ref (b + 81)), (1, .ref (b + 0)), (0, .ref a)]) : W p l e room_1 s m #[Value.ref a] below meth c H locs (0 + 1 + 80 + 1 + 47) (0 + 11 + 14956 + 74 + 38526) (lw_Z below #[Value.ref a] s) (F0 m 402 ls []) := by
  refine lv_aload_n hx hb dL_law_402 rfl (lv_at hl 2 rfl) ?_
  refine lv_aload_n hx hb dL_law_403 rfl (lv_at hl 3 rfl) ?_
  refine lv_iload_n hx hb dL_law_404 rfl (lv_at hl 0 rfl) ?_
  refine lv_iconst (v := 1) hx hb dL_law_405 (by decide) ?_
  refine lv_iadd hx hb dL_law_406 ?_
  refine lv_topi (fun x1 ex1 => ?_)
  have ex1 : x1 = 1 := by rw [ex1]; decide
  subst ex1
  refine va_sld hx hb hX hbl hbA hW.2.2.1 (vp_in_iff.mpr ⟨by decide, by decide⟩) dL_law_407 ?_
  refine lv_topi (fun x2 ex2 => ?_)
  have ex2 : x2 = (xs 1) := by rw [ex2]; rfl
  subst ex2
  refine m_aIx hW (m_runV (As := [.int (xs 1)]) (rest := []) hx hb hml hown hts (m_pre (l1 := LX) (l2 := LM) hW) (0) (c_X11_way l D cy b MU0 z_23_1 (xs 1)) mi_X11_way k_L_42 rfl rfl rfl hl.1 rfl (Nat.le_of_ble_eq_true rfl) dL_law_408 ⟨Nat.le_of_ble_eq_true rfl, Nat.le_of_ble_eq_true rfl⟩ ⟨Nat.le_of_ble_eq_true rfl, Nat.le_of_ble_eq_true rfl⟩) (fun x3 μ3 H locs q3 hW => ?_)
  refine lv_aload_n hx hb dL_law_411 rfl (lv_at hl 1 rfl) ?_
  refine lv_aload_n hx hb dL_law_412 rfl (lv_at hl 3 rfl) ?_
  refine lv_iload_n hx hb dL_law_413 rfl (lv_at hl 0 rfl) ?_
  refine lv_iconst (v := 1) hx hb dL_law_414 (by decide) ?_
  refine lv_iadd hx hb dL_law_415 ?_
  refine lv_topi (fun x4 ex4 => ?_)
  have ex4 : x4 = 1 := by rw [ex4]; decide
  subst ex4
  refine va_sld hx hb hX hbl hbA hW.2.2.1 (vp_in_iff.mpr ⟨by decide, by decide⟩) dL_law_416 ?_
  refine lv_topi (fun x5 ex5 => ?_)
  have ex5 : x5 = (xs 1) := by rw [ex5]; rfl
  subst ex5
  refine m_aI hW (m_runV (As := [.int (xs 1)]) (rest := [.int x3]) hx hb hml hown hts hW (81) (c_X12_way l D cy b (m_gl LX.length μ3 MU0) z_81_35 (xs 1)) mi_X12_way k_L_45 rfl rfl rfl hl.1 rfl (Nat.le_of_ble_eq_true rfl) dL_law_417 ⟨Nat.le_of_ble_eq_true rfl, Nat.le_of_ble_eq_true rfl⟩ ⟨Nat.le_of_ble_eq_true rfl, Nat.le_of_ble_eq_true rfl⟩) (fun x6 μ6 H locs q6 hW => ?_)
  refine lv_icmp_eq (tgt := 861) hx hb dL_law_420 (by decide) (fun c7 => ?_) (fun c => absurd (q3.trans q6.symm) c)
  exact law_end hx hb hr hml hown hts hlocks hX hbl hbA hbz hW hl
set_option maxHeartbeats 4000000 in
set_option maxRecDepth 100000 in
theorem law_7 {p : Program} {e : Env} {s : State} {m : MethodId} {below : List Frame} {meth : Method} {c : Code} {l : Launch} {a : Nat} {xs : Nat → Int32} {D : va_G} {cy : Nat → ClassId} {b : Nat} (hx : p.tables.exec = Jvm.exec) (hb : c.code = cL_law) (hr : meth.sig.returnType = ret) (hml : c.maxLocals = 4) (hown : s.vm.findClass RL = some m.cls) (hts : ∀ w ∈ TB, w.before #[Value.ref a] s = true) (hlocks : meth.locks = false) (hX : va_X a 6 xs s s.heap) (hbl : a < s.heap.size) (hbA : ¬ (fun q => b ≤ q) a) (hbz : s.heap.size = b) {H : Heap} {locs : List Loc} (hW : m_W D cy s b LAY MU0 H locs) {ls : Array Slot} (hl : lv_has ls 4 [(3, .int 0), (2, .ref (b + 81)), (1, .ref (b + 0)), (0, .ref a)]) : W p l e room_1 s m #[Value.ref a] below meth c H locs (0 + 1 + 80 + 1 + 47) (0 + 11 + 14956 + 74 + 38526) (lw_Z below #[Value.ref a] s) (F0 m 425 ls []) := by
  refine lv_aload_n hx hb dL_law_425 rfl (lv_at hl 2 rfl) ?_
  refine lv_aload_n hx hb dL_law_426 rfl (lv_at hl 3 rfl) ?_
  refine lv_iload_n hx hb dL_law_427 rfl (lv_at hl 0 rfl) ?_
  refine lv_iconst (v := 1) hx hb dL_law_428 (by decide) ?_
  refine lv_iadd hx hb dL_law_429 ?_
  refine lv_topi (fun x1 ex1 => ?_)
  have ex1 : x1 = 1 := by rw [ex1]; decide
  subst ex1
  refine va_sld hx hb hX hbl hbA hW.2.2.1 (vp_in_iff.mpr ⟨by decide, by decide⟩) dL_law_430 ?_
  refine lv_topi (fun x2 ex2 => ?_)
  have ex2 : x2 = (xs 1) := by rw [ex2]; rfl
  subst ex2
  refine m_aIx hW (m_runV (As := [.int (xs 1)]) (rest := []) hx hb hml hown hts (m_pre (l1 := LX) (l2 := LM) hW) (0) (c_X11_fault l D cy b MU0 z_0_9 z_0_10 (xs 1)) mi_X11_fault k_L_46 rfl rfl rfl hl.1 rfl (Nat.le_of_ble_eq_true rfl) dL_law_431 ⟨Nat.le_of_ble_eq_true rfl, Nat.le_of_ble_eq_true rfl⟩ ⟨Nat.le_of_ble_eq_true rfl, Nat.le_of_ble_eq_true rfl⟩) (fun x3 μ3 H locs q3 hW => ?_)
  refine lv_aload_n hx hb dL_law_434 rfl (lv_at hl 1 rfl) ?_
  refine lv_aload_n hx hb dL_law_435 rfl (lv_at hl 3 rfl) ?_
  refine lv_iload_n hx hb dL_law_436 rfl (lv_at hl 0 rfl) ?_
  refine lv_iconst (v := 1) hx hb dL_law_437 (by decide) ?_
  refine lv_iadd hx hb dL_law_438 ?_
  refine lv_topi (fun x4 ex4 => ?_)
  have ex4 : x4 = 1 := by rw [ex4]; decide
  subst ex4
  refine va_sld hx hb hX hbl hbA hW.2.2.1 (vp_in_iff.mpr ⟨by decide, by decide⟩) dL_law_439 ?_
  refine lv_topi (fun x5 ex5 => ?_)
  have ex5 : x5 = (xs 1) := by rw [ex5]; rfl
  subst ex5
  refine m_aI hW (m_runV (As := [.int (xs 1)]) (rest := [.int x3]) hx hb hml hown hts hW (81) (c_X12_fault l D cy b (m_gl LX.length μ3 MU0) z_81_56 z_81_57 (xs 1)) mi_X12_fault k_L_50 rfl rfl rfl hl.1 rfl (Nat.le_of_ble_eq_true rfl) dL_law_440 ⟨Nat.le_of_ble_eq_true rfl, Nat.le_of_ble_eq_true rfl⟩ ⟨Nat.le_of_ble_eq_true rfl, Nat.le_of_ble_eq_true rfl⟩) (fun x6 μ6 H locs q6 hW => ?_)
  refine lv_icmp_eq (tgt := 861) hx hb dL_law_443 (by decide) (fun c7 => ?_) (fun c => absurd (q3.trans q6.symm) c)
  exact law_end hx hb hr hml hown hts hlocks hX hbl hbA hbz hW hl
set_option maxHeartbeats 4000000 in
set_option maxRecDepth 100000 in
theorem law_8 {p : Program} {e : Env} {s : State} {m : MethodId} {below : List Frame} {meth : Method} {c : Code} {l : Launch} {a : Nat} {xs : Nat → Int32} {D : va_G} {cy : Nat → ClassId} {b : Nat} (hx : p.tables.exec = Jvm.exec) (hb : c.code = cL_law) (hr : meth.sig.returnType = ret) (hml : c.maxLocals = 4) (hown : s.vm.findClass RL = some m.cls) (hts : ∀ w ∈ TB, w.before #[Value.ref a] s = true) (hlocks : meth.locks = false) (hX : va_X a 6 xs s s.heap) (hbl : a < s.heap.size) (hbA : ¬ (fun q => b ≤ q) a) (hbz : s.heap.size = b) {H : Heap} {locs : List Loc} (hW : m_W D cy s b LAY MU0 H locs) {ls : Array Slot} (hl : lv_has ls 4 [(3, .int 0), (2, .ref (b + 81)), (1, .ref (b + 0)), (0, .ref a)]) : W p l e room_1 s m #[Value.ref a] below meth c H locs (0 + 1 + 80 + 1 + 47) (0 + 11 + 14956 + 74 + 38526) (lw_Z below #[Value.ref a] s) (F0 m 448 ls []) := by
  refine lv_aload_n hx hb dL_law_448 rfl (lv_at hl 2 rfl) ?_
  refine lv_aload_n hx hb dL_law_449 rfl (lv_at hl 3 rfl) ?_
  refine lv_iload_n hx hb dL_law_450 rfl (lv_at hl 0 rfl) ?_
  refine lv_iconst (v := 1) hx hb dL_law_451 (by decide) ?_
  refine lv_iadd hx hb dL_law_452 ?_
  refine lv_topi (fun x1 ex1 => ?_)
  have ex1 : x1 = 1 := by rw [ex1]; decide
  subst ex1
  refine va_sld hx hb hX hbl hbA hW.2.2.1 (vp_in_iff.mpr ⟨by decide, by decide⟩) dL_law_453 ?_
  refine lv_topi (fun x2 ex2 => ?_)
  have ex2 : x2 = (xs 1) := by rw [ex2]; rfl
  subst ex2
  refine m_aIx hW (m_runV (As := [.int (xs 1)]) (rest := []) hx hb hml hown hts (m_pre (l1 := LX) (l2 := LM) hW) (0) (c_X11_run l D cy b MU0 z_41_2 (xs 1)) mi_X11_run k_L_51 rfl rfl rfl hl.1 rfl (Nat.le_of_ble_eq_true rfl) dL_law_454 ⟨Nat.le_of_ble_eq_true rfl, Nat.le_of_ble_eq_true rfl⟩ ⟨Nat.le_of_ble_eq_true rfl, Nat.le_of_ble_eq_true rfl⟩) (fun x3 μ3 H locs q3 hW => ?_)
  refine lv_aload_n hx hb dL_law_457 rfl (lv_at hl 1 rfl) ?_
  refine lv_aload_n hx hb dL_law_458 rfl (lv_at hl 3 rfl) ?_
  refine lv_iload_n hx hb dL_law_459 rfl (lv_at hl 0 rfl) ?_
  refine lv_iconst (v := 1) hx hb dL_law_460 (by decide) ?_
  refine lv_iadd hx hb dL_law_461 ?_
  refine lv_topi (fun x4 ex4 => ?_)
  have ex4 : x4 = 1 := by rw [ex4]; decide
  subst ex4
  refine va_sld hx hb hX hbl hbA hW.2.2.1 (vp_in_iff.mpr ⟨by decide, by decide⟩) dL_law_462 ?_
  refine lv_topi (fun x5 ex5 => ?_)
  have ex5 : x5 = (xs 1) := by rw [ex5]; rfl
  subst ex5
  refine m_aI hW (m_runV (As := [.int (xs 1)]) (rest := [.int x3]) hx hb hml hown hts hW (81) (c_X12_run l D cy b (m_gl LX.length μ3 MU0) z_81_5 (xs 1)) mi_X12_run k_L_54 rfl rfl rfl hl.1 rfl (Nat.le_of_ble_eq_true rfl) dL_law_463 ⟨Nat.le_of_ble_eq_true rfl, Nat.le_of_ble_eq_true rfl⟩ ⟨Nat.le_of_ble_eq_true rfl, Nat.le_of_ble_eq_true rfl⟩) (fun x6 μ6 H locs q6 hW => ?_)
  refine lv_icmp_eq (tgt := 861) hx hb dL_law_466 (by decide) (fun c7 => ?_) (fun c => absurd (q3.trans q6.symm) c)
  exact law_end hx hb hr hml hown hts hlocks hX hbl hbA hbz hW hl
set_option maxHeartbeats 4000000 in
set_option maxRecDepth 100000 in
theorem law_9 {p : Program} {e : Env} {s : State} {m : MethodId} {below : List Frame} {meth : Method} {c : Code} {l : Launch} {a : Nat} {xs : Nat → Int32} {D : va_G} {cy : Nat → ClassId} {b : Nat} (hx : p.tables.exec = Jvm.exec) (hb : c.code = cL_law) (hr : meth.sig.returnType = ret) (hml : c.maxLocals = 4) (hown : s.vm.findClass RL = some m.cls) (hts : ∀ w ∈ TB, w.before #[Value.ref a] s = true) (hlocks : meth.locks = false) (hX : va_X a 6 xs s s.heap) (hbl : a < s.heap.size) (hbA : ¬ (fun q => b ≤ q) a) (hbz : s.heap.size = b) {H : Heap} {locs : List Loc} (hW : m_W D cy s b LAY MU0 H locs) {ls : Array Slot} (hl : lv_has ls 4 [(3, .int 0), (2, .ref (b + 81)), (1, .ref (b + 0)), (0, .ref a)]) : W p l e room_1 s m #[Value.ref a] below meth c H locs (0 + 1 + 80 + 1 + 47) (0 + 11 + 14956 + 74 + 38526) (lw_Z below #[Value.ref a] s) (F0 m 471 ls []) := by
  refine lv_aload_n hx hb dL_law_471 rfl (lv_at hl 2 rfl) ?_
  refine lv_aload_n hx hb dL_law_472 rfl (lv_at hl 3 rfl) ?_
  refine lv_iload_n hx hb dL_law_473 rfl (lv_at hl 0 rfl) ?_
  refine lv_iconst (v := 1) hx hb dL_law_474 (by decide) ?_
  refine lv_iadd hx hb dL_law_475 ?_
  refine lv_topi (fun x1 ex1 => ?_)
  have ex1 : x1 = 1 := by rw [ex1]; decide
  subst ex1
  refine va_sld hx hb hX hbl hbA hW.2.2.1 (vp_in_iff.mpr ⟨by decide, by decide⟩) dL_law_476 ?_
  refine lv_topi (fun x2 ex2 => ?_)
  have ex2 : x2 = (xs 1) := by rw [ex2]; rfl
  subst ex2
  refine lv_aload_n hx hb dL_law_477 rfl (lv_at hl 3 rfl) ?_
  refine lv_iload_n hx hb dL_law_478 rfl (lv_at hl 0 rfl) ?_
  refine lv_iconst (v := 2) hx hb dL_law_479 (by decide) ?_
  refine lv_iadd hx hb dL_law_480 ?_
  refine lv_topi (fun x3 ex3 => ?_)
  have ex3 : x3 = 2 := by rw [ex3]; decide
  subst ex3
  refine va_sld hx hb hX hbl hbA hW.2.2.1 (vp_in_iff.mpr ⟨by decide, by decide⟩) dL_law_481 ?_
  refine lv_topi (fun x4 ex4 => ?_)
  have ex4 : x4 = (xs 2) := by rw [ex4]; rfl
  subst ex4
  refine lv_aload_n hx hb dL_law_482 rfl (lv_at hl 3 rfl) ?_
  refine lv_iload_n hx hb dL_law_483 rfl (lv_at hl 0 rfl) ?_
  refine lv_iconst (v := 3) hx hb dL_law_484 (by decide) ?_
  refine lv_iadd hx hb dL_law_485 ?_
  refine lv_topi (fun x5 ex5 => ?_)
  have ex5 : x5 = 3 := by rw [ex5]; decide
  subst ex5
  refine va_sld hx hb hX hbl hbA hW.2.2.1 (vp_in_iff.mpr ⟨by decide, by decide⟩) dL_law_486 ?_
  refine lv_topi (fun x6 ex6 => ?_)
  have ex6 : x6 = (xs 3) := by rw [ex6]; rfl
  subst ex6
  refine m_aIx hW (m_runV (As := [.int (xs 1), .int (xs 2), .int (xs 3)]) (rest := []) hx hb hml hown hts (m_pre (l1 := LX) (l2 := LM) hW) (0) (c_X11_cell l D cy b MU0 z_41_0 (xs 1) (xs 2) (xs 3)) mi_X11_cell k_L_55 rfl rfl rfl hl.1 rfl (Nat.le_of_ble_eq_true rfl) dL_law_487 ⟨Nat.le_of_ble_eq_true rfl, Nat.le_of_ble_eq_true rfl⟩ ⟨Nat.le_of_ble_eq_true rfl, Nat.le_of_ble_eq_true rfl⟩) (fun x7 μ7 H locs q7 hW => ?_)
  refine lv_aload_n hx hb dL_law_490 rfl (lv_at hl 1 rfl) ?_
  refine lv_aload_n hx hb dL_law_491 rfl (lv_at hl 3 rfl) ?_
  refine lv_iload_n hx hb dL_law_492 rfl (lv_at hl 0 rfl) ?_
  refine lv_iconst (v := 1) hx hb dL_law_493 (by decide) ?_
  refine lv_iadd hx hb dL_law_494 ?_
  refine lv_topi (fun x8 ex8 => ?_)
  have ex8 : x8 = 1 := by rw [ex8]; decide
  subst ex8
  refine va_sld hx hb hX hbl hbA hW.2.2.1 (vp_in_iff.mpr ⟨by decide, by decide⟩) dL_law_495 ?_
  refine lv_topi (fun x9 ex9 => ?_)
  have ex9 : x9 = (xs 1) := by rw [ex9]; rfl
  subst ex9
  refine lv_aload_n hx hb dL_law_496 rfl (lv_at hl 3 rfl) ?_
  refine lv_iload_n hx hb dL_law_497 rfl (lv_at hl 0 rfl) ?_
  refine lv_iconst (v := 2) hx hb dL_law_498 (by decide) ?_
  refine lv_iadd hx hb dL_law_499 ?_
  refine lv_topi (fun x10 ex10 => ?_)
  have ex10 : x10 = 2 := by rw [ex10]; decide
  subst ex10
  refine va_sld hx hb hX hbl hbA hW.2.2.1 (vp_in_iff.mpr ⟨by decide, by decide⟩) dL_law_500 ?_
  refine lv_topi (fun x11 ex11 => ?_)
  have ex11 : x11 = (xs 2) := by rw [ex11]; rfl
  subst ex11
  refine lv_aload_n hx hb dL_law_501 rfl (lv_at hl 3 rfl) ?_
  refine lv_iload_n hx hb dL_law_502 rfl (lv_at hl 0 rfl) ?_
  refine lv_iconst (v := 3) hx hb dL_law_503 (by decide) ?_
  refine lv_iadd hx hb dL_law_504 ?_
  refine lv_topi (fun x12 ex12 => ?_)
  have ex12 : x12 = 3 := by rw [ex12]; decide
  subst ex12
  refine va_sld hx hb hX hbl hbA hW.2.2.1 (vp_in_iff.mpr ⟨by decide, by decide⟩) dL_law_505 ?_
  refine lv_topi (fun x13 ex13 => ?_)
  have ex13 : x13 = (xs 3) := by rw [ex13]; rfl
  subst ex13
  refine m_aI hW (m_runV (As := [.int (xs 1), .int (xs 2), .int (xs 3)]) (rest := [.int x7]) hx hb hml hown hts hW (81) (c_X12_cell l D cy b (m_gl LX.length μ7 MU0) z_81_5 (xs 1) (xs 2) (xs 3)) mi_X12_cell k_L_59 rfl rfl rfl hl.1 rfl (Nat.le_of_ble_eq_true rfl) dL_law_506 ⟨Nat.le_of_ble_eq_true rfl, Nat.le_of_ble_eq_true rfl⟩ ⟨Nat.le_of_ble_eq_true rfl, Nat.le_of_ble_eq_true rfl⟩) (fun x14 μ14 H locs q14 hW => ?_)
  refine lv_icmp_eq (tgt := 861) hx hb dL_law_509 (by decide) (fun c15 => ?_) (fun c => absurd (q7.trans q14.symm) c)
  exact law_end hx hb hr hml hown hts hlocks hX hbl hbA hbz hW hl
set_option maxHeartbeats 4000000 in
set_option maxRecDepth 100000 in
theorem law_10 {p : Program} {e : Env} {s : State} {m : MethodId} {below : List Frame} {meth : Method} {c : Code} {l : Launch} {a : Nat} {xs : Nat → Int32} {D : va_G} {cy : Nat → ClassId} {b : Nat} (hx : p.tables.exec = Jvm.exec) (hb : c.code = cL_law) (hr : meth.sig.returnType = ret) (hml : c.maxLocals = 4) (hown : s.vm.findClass RL = some m.cls) (hts : ∀ w ∈ TB, w.before #[Value.ref a] s = true) (hlocks : meth.locks = false) (hX : va_X a 6 xs s s.heap) (hbl : a < s.heap.size) (hbA : ¬ (fun q => b ≤ q) a) (hbz : s.heap.size = b) {H : Heap} {locs : List Loc} (hW : m_W D cy s b LAY MU0 H locs) {ls : Array Slot} (hl : lv_has ls 4 [(3, .int 0), (2, .ref (b + 81)), (1, .ref (b + 0)), (0, .ref a)]) : W p l e room_1 s m #[Value.ref a] below meth c H locs (0 + 1 + 80 + 1 + 47) (0 + 11 + 14956 + 74 + 38526) (lw_Z below #[Value.ref a] s) (F0 m 514 ls []) := by
  refine lv_aload_n hx hb dL_law_514 rfl (lv_at hl 2 rfl) ?_
  refine lv_aload_n hx hb dL_law_515 rfl (lv_at hl 3 rfl) ?_
  refine lv_iload_n hx hb dL_law_516 rfl (lv_at hl 0 rfl) ?_
  refine lv_iconst (v := 1) hx hb dL_law_517 (by decide) ?_
  refine lv_iadd hx hb dL_law_518 ?_
  refine lv_topi (fun x1 ex1 => ?_)
  have ex1 : x1 = 1 := by rw [ex1]; decide
  subst ex1
  refine va_sld hx hb hX hbl hbA hW.2.2.1 (vp_in_iff.mpr ⟨by decide, by decide⟩) dL_law_519 ?_
  refine lv_topi (fun x2 ex2 => ?_)
  have ex2 : x2 = (xs 1) := by rw [ex2]; rfl
  subst ex2
  refine m_aIx hW (m_runV (As := [.int (xs 1)]) (rest := []) hx hb hml hown hts (m_pre (l1 := LX) (l2 := LM) hW) (0) (c_X11_look l D cy b MU0 z_41_2 (xs 1)) mi_X11_look k_L_60 rfl rfl rfl hl.1 rfl (Nat.le_of_ble_eq_true rfl) dL_law_520 ⟨Nat.le_of_ble_eq_true rfl, Nat.le_of_ble_eq_true rfl⟩ ⟨Nat.le_of_ble_eq_true rfl, Nat.le_of_ble_eq_true rfl⟩) (fun x3 μ3 H locs q3 hW => ?_)
  refine lv_aload_n hx hb dL_law_523 rfl (lv_at hl 1 rfl) ?_
  refine lv_aload_n hx hb dL_law_524 rfl (lv_at hl 3 rfl) ?_
  refine lv_iload_n hx hb dL_law_525 rfl (lv_at hl 0 rfl) ?_
  refine lv_iconst (v := 1) hx hb dL_law_526 (by decide) ?_
  refine lv_iadd hx hb dL_law_527 ?_
  refine lv_topi (fun x4 ex4 => ?_)
  have ex4 : x4 = 1 := by rw [ex4]; decide
  subst ex4
  refine va_sld hx hb hX hbl hbA hW.2.2.1 (vp_in_iff.mpr ⟨by decide, by decide⟩) dL_law_528 ?_
  refine lv_topi (fun x5 ex5 => ?_)
  have ex5 : x5 = (xs 1) := by rw [ex5]; rfl
  subst ex5
  refine m_aI hW (m_runV (As := [.int (xs 1)]) (rest := [.int x3]) hx hb hml hown hts hW (81) (c_X12_look l D cy b (m_gl LX.length μ3 MU0) z_81_5 (xs 1)) mi_X12_look k_L_63 rfl rfl rfl hl.1 rfl (Nat.le_of_ble_eq_true rfl) dL_law_529 ⟨Nat.le_of_ble_eq_true rfl, Nat.le_of_ble_eq_true rfl⟩ ⟨Nat.le_of_ble_eq_true rfl, Nat.le_of_ble_eq_true rfl⟩) (fun x6 μ6 H locs q6 hW => ?_)
  refine lv_icmp_eq (tgt := 861) hx hb dL_law_532 (by decide) (fun c7 => ?_) (fun c => absurd (q3.trans q6.symm) c)
  exact law_end hx hb hr hml hown hts hlocks hX hbl hbA hbz hW hl
set_option maxHeartbeats 4000000 in
set_option maxRecDepth 100000 in
theorem law_11 {p : Program} {e : Env} {s : State} {m : MethodId} {below : List Frame} {meth : Method} {c : Code} {l : Launch} {a : Nat} {xs : Nat → Int32} {D : va_G} {cy : Nat → ClassId} {b : Nat} (hx : p.tables.exec = Jvm.exec) (hb : c.code = cL_law) (hr : meth.sig.returnType = ret) (hml : c.maxLocals = 4) (hown : s.vm.findClass RL = some m.cls) (hts : ∀ w ∈ TB, w.before #[Value.ref a] s = true) (hlocks : meth.locks = false) (hX : va_X a 6 xs s s.heap) (hbl : a < s.heap.size) (hbA : ¬ (fun q => b ≤ q) a) (hbz : s.heap.size = b) {H : Heap} {locs : List Loc} (hW : m_W D cy s b LAY MU0 H locs) {ls : Array Slot} (hl : lv_has ls 4 [(3, .int 0), (2, .ref (b + 81)), (1, .ref (b + 0)), (0, .ref a)]) : W p l e room_1 s m #[Value.ref a] below meth c H locs (0 + 1 + 80 + 1 + 47) (0 + 11 + 14956 + 74 + 38526) (lw_Z below #[Value.ref a] s) (F0 m 537 ls []) := by
  refine lv_aload_n hx hb dL_law_537 rfl (lv_at hl 2 rfl) ?_
  refine lv_aload_n hx hb dL_law_538 rfl (lv_at hl 3 rfl) ?_
  refine lv_iload_n hx hb dL_law_539 rfl (lv_at hl 0 rfl) ?_
  refine lv_iconst (v := 1) hx hb dL_law_540 (by decide) ?_
  refine lv_iadd hx hb dL_law_541 ?_
  refine lv_topi (fun x1 ex1 => ?_)
  have ex1 : x1 = 1 := by rw [ex1]; decide
  subst ex1
  refine va_sld hx hb hX hbl hbA hW.2.2.1 (vp_in_iff.mpr ⟨by decide, by decide⟩) dL_law_542 ?_
  refine lv_topi (fun x2 ex2 => ?_)
  have ex2 : x2 = (xs 1) := by rw [ex2]; rfl
  subst ex2
  refine m_aLx hW (m_runV (As := [.int (xs 1)]) (rest := []) hx hb hml hown hts (m_pre (l1 := LX) (l2 := LM) hW) (0) (c_X11_heat l D cy b MU0 z_41_2 (MU0_l 41 7) (MU0_l 41 8) (MU0_l 41 9) (xs 1)) mi_X11_heat k_L_64 rfl rfl rfl hl.1 rfl (Nat.le_of_ble_eq_true rfl) dL_law_543 ⟨Nat.le_of_ble_eq_true rfl, Nat.le_of_ble_eq_true rfl⟩ ⟨Nat.le_of_ble_eq_true rfl, Nat.le_of_ble_eq_true rfl⟩) (fun x3 μ3 H locs q3 hW => ?_)
  refine lv_aload_n hx hb dL_law_546 rfl (lv_at hl 1 rfl) ?_
  refine lv_aload_n hx hb dL_law_547 rfl (lv_at hl 3 rfl) ?_
  refine lv_iload_n hx hb dL_law_548 rfl (lv_at hl 0 rfl) ?_
  refine lv_iconst (v := 1) hx hb dL_law_549 (by decide) ?_
  refine lv_iadd hx hb dL_law_550 ?_
  refine lv_topi (fun x4 ex4 => ?_)
  have ex4 : x4 = 1 := by rw [ex4]; decide
  subst ex4
  refine va_sld hx hb hX hbl hbA hW.2.2.1 (vp_in_iff.mpr ⟨by decide, by decide⟩) dL_law_551 ?_
  refine lv_topi (fun x5 ex5 => ?_)
  have ex5 : x5 = (xs 1) := by rw [ex5]; rfl
  subst ex5
  refine m_aL hW (m_runV (As := [.int (xs 1)]) (rest := [.long x3]) hx hb hml hown hts hW (81) (c_X12_heat l D cy b (m_gl LX.length μ3 MU0) z_86 (MU0_l 98 0) (MU0_l 99 0) (MU0_l 100 0) (xs 1)) mi_X12_heat k_L_68 rfl rfl rfl hl.1 rfl (Nat.le_of_ble_eq_true rfl) dL_law_552 ⟨Nat.le_of_ble_eq_true rfl, Nat.le_of_ble_eq_true rfl⟩ ⟨Nat.le_of_ble_eq_true rfl, Nat.le_of_ble_eq_true rfl⟩) (fun x6 μ6 H locs q6 hW => ?_)
  refine W.lcmp hx hb dL_law_555 ?_
  refine lv_topi (fun x7 ex7 => ?_)
  have ex7 : x7 = 0 := by rw [ex7, q3, q6]; exact m_cmp _
  subst ex7
  refine lv_if_eq (tgt := 861) hx hb dL_law_556 (by decide) (fun _ => ?_) (fun c => False.elim (by revert c; decide))
  exact law_end hx hb hr hml hown hts hlocks hX hbl hbA hbz hW hl
set_option maxHeartbeats 4000000 in
set_option maxRecDepth 100000 in
theorem law_12 {p : Program} {e : Env} {s : State} {m : MethodId} {below : List Frame} {meth : Method} {c : Code} {l : Launch} {a : Nat} {xs : Nat → Int32} {D : va_G} {cy : Nat → ClassId} {b : Nat} (hx : p.tables.exec = Jvm.exec) (hb : c.code = cL_law) (hr : meth.sig.returnType = ret) (hml : c.maxLocals = 4) (hown : s.vm.findClass RL = some m.cls) (hts : ∀ w ∈ TB, w.before #[Value.ref a] s = true) (hlocks : meth.locks = false) (hX : va_X a 6 xs s s.heap) (hbl : a < s.heap.size) (hbA : ¬ (fun q => b ≤ q) a) (hbz : s.heap.size = b) {H : Heap} {locs : List Loc} (hW : m_W D cy s b LAY MU0 H locs) {ls : Array Slot} (hl : lv_has ls 4 [(3, .int 0), (2, .ref (b + 81)), (1, .ref (b + 0)), (0, .ref a)]) : W p l e room_1 s m #[Value.ref a] below meth c H locs (0 + 1 + 80 + 1 + 47) (0 + 11 + 14956 + 74 + 38526) (lw_Z below #[Value.ref a] s) (F0 m 561 ls []) := by
  refine lv_aload_n hx hb dL_law_561 rfl (lv_at hl 2 rfl) ?_
  refine lv_aload_n hx hb dL_law_562 rfl (lv_at hl 3 rfl) ?_
  refine lv_iload_n hx hb dL_law_563 rfl (lv_at hl 0 rfl) ?_
  refine lv_iconst (v := 1) hx hb dL_law_564 (by decide) ?_
  refine lv_iadd hx hb dL_law_565 ?_
  refine lv_topi (fun x1 ex1 => ?_)
  have ex1 : x1 = 1 := by rw [ex1]; decide
  subst ex1
  refine va_sld hx hb hX hbl hbA hW.2.2.1 (vp_in_iff.mpr ⟨by decide, by decide⟩) dL_law_566 ?_
  refine lv_topi (fun x2 ex2 => ?_)
  have ex2 : x2 = (xs 1) := by rw [ex2]; rfl
  subst ex2
  refine lv_aload_n hx hb dL_law_567 rfl (lv_at hl 3 rfl) ?_
  refine lv_iload_n hx hb dL_law_568 rfl (lv_at hl 0 rfl) ?_
  refine lv_iconst (v := 2) hx hb dL_law_569 (by decide) ?_
  refine lv_iadd hx hb dL_law_570 ?_
  refine lv_topi (fun x3 ex3 => ?_)
  have ex3 : x3 = 2 := by rw [ex3]; decide
  subst ex3
  refine va_sld hx hb hX hbl hbA hW.2.2.1 (vp_in_iff.mpr ⟨by decide, by decide⟩) dL_law_571 ?_
  refine lv_topi (fun x4 ex4 => ?_)
  have ex4 : x4 = (xs 2) := by rw [ex4]; rfl
  subst ex4
  refine m_aIx hW (m_runV (As := [.int (xs 1), .int (xs 2)]) (rest := []) hx hb hml hown hts (m_pre (l1 := LX) (l2 := LM) hW) (0) (c_X11_order l D cy b MU0 z_41_2 (xs 1) (xs 2)) mi_X11_order k_L_69 rfl rfl rfl hl.1 rfl (Nat.le_of_ble_eq_true rfl) dL_law_572 ⟨Nat.le_of_ble_eq_true rfl, Nat.le_of_ble_eq_true rfl⟩ ⟨Nat.le_of_ble_eq_true rfl, Nat.le_of_ble_eq_true rfl⟩) (fun x5 μ5 H locs q5 hW => ?_)
  refine lv_aload_n hx hb dL_law_575 rfl (lv_at hl 1 rfl) ?_
  refine lv_aload_n hx hb dL_law_576 rfl (lv_at hl 3 rfl) ?_
  refine lv_iload_n hx hb dL_law_577 rfl (lv_at hl 0 rfl) ?_
  refine lv_iconst (v := 1) hx hb dL_law_578 (by decide) ?_
  refine lv_iadd hx hb dL_law_579 ?_
  refine lv_topi (fun x6 ex6 => ?_)
  have ex6 : x6 = 1 := by rw [ex6]; decide
  subst ex6
  refine va_sld hx hb hX hbl hbA hW.2.2.1 (vp_in_iff.mpr ⟨by decide, by decide⟩) dL_law_580 ?_
  refine lv_topi (fun x7 ex7 => ?_)
  have ex7 : x7 = (xs 1) := by rw [ex7]; rfl
  subst ex7
  refine lv_aload_n hx hb dL_law_581 rfl (lv_at hl 3 rfl) ?_
  refine lv_iload_n hx hb dL_law_582 rfl (lv_at hl 0 rfl) ?_
  refine lv_iconst (v := 2) hx hb dL_law_583 (by decide) ?_
  refine lv_iadd hx hb dL_law_584 ?_
  refine lv_topi (fun x8 ex8 => ?_)
  have ex8 : x8 = 2 := by rw [ex8]; decide
  subst ex8
  refine va_sld hx hb hX hbl hbA hW.2.2.1 (vp_in_iff.mpr ⟨by decide, by decide⟩) dL_law_585 ?_
  refine lv_topi (fun x9 ex9 => ?_)
  have ex9 : x9 = (xs 2) := by rw [ex9]; rfl
  subst ex9
  refine m_aI hW (m_runV (As := [.int (xs 1), .int (xs 2)]) (rest := [.int x5]) hx hb hml hown hts hW (81) (c_X12_order l D cy b (m_gl LX.length μ5 MU0) z_81_5 (xs 1) (xs 2)) mi_X12_order k_L_73 rfl rfl rfl hl.1 rfl (Nat.le_of_ble_eq_true rfl) dL_law_586 ⟨Nat.le_of_ble_eq_true rfl, Nat.le_of_ble_eq_true rfl⟩ ⟨Nat.le_of_ble_eq_true rfl, Nat.le_of_ble_eq_true rfl⟩) (fun x10 μ10 H locs q10 hW => ?_)
  refine lv_icmp_eq (tgt := 861) hx hb dL_law_589 (by decide) (fun c11 => ?_) (fun c => absurd (q5.trans q10.symm) c)
  exact law_end hx hb hr hml hown hts hlocks hX hbl hbA hbz hW hl
set_option maxHeartbeats 4000000 in
set_option maxRecDepth 100000 in
theorem law_13 {p : Program} {e : Env} {s : State} {m : MethodId} {below : List Frame} {meth : Method} {c : Code} {l : Launch} {a : Nat} {xs : Nat → Int32} {D : va_G} {cy : Nat → ClassId} {b : Nat} (hx : p.tables.exec = Jvm.exec) (hb : c.code = cL_law) (hr : meth.sig.returnType = ret) (hml : c.maxLocals = 4) (hown : s.vm.findClass RL = some m.cls) (hts : ∀ w ∈ TB, w.before #[Value.ref a] s = true) (hlocks : meth.locks = false) (hX : va_X a 6 xs s s.heap) (hbl : a < s.heap.size) (hbA : ¬ (fun q => b ≤ q) a) (hbz : s.heap.size = b) {H : Heap} {locs : List Loc} (hW : m_W D cy s b LAY MU0 H locs) {ls : Array Slot} (hl : lv_has ls 4 [(3, .int 0), (2, .ref (b + 81)), (1, .ref (b + 0)), (0, .ref a)]) : W p l e room_1 s m #[Value.ref a] below meth c H locs (0 + 1 + 80 + 1 + 47) (0 + 11 + 14956 + 74 + 38526) (lw_Z below #[Value.ref a] s) (F0 m 594 ls []) := by
  refine lv_aload_n hx hb dL_law_594 rfl (lv_at hl 2 rfl) ?_
  refine lv_aload_n hx hb dL_law_595 rfl (lv_at hl 3 rfl) ?_
  refine lv_iload_n hx hb dL_law_596 rfl (lv_at hl 0 rfl) ?_
  refine lv_iconst (v := 1) hx hb dL_law_597 (by decide) ?_
  refine lv_iadd hx hb dL_law_598 ?_
  refine lv_topi (fun x1 ex1 => ?_)
  have ex1 : x1 = 1 := by rw [ex1]; decide
  subst ex1
  refine va_sld hx hb hX hbl hbA hW.2.2.1 (vp_in_iff.mpr ⟨by decide, by decide⟩) dL_law_599 ?_
  refine lv_topi (fun x2 ex2 => ?_)
  have ex2 : x2 = (xs 1) := by rw [ex2]; rfl
  subst ex2
  refine lv_aload_n hx hb dL_law_600 rfl (lv_at hl 3 rfl) ?_
  refine lv_iload_n hx hb dL_law_601 rfl (lv_at hl 0 rfl) ?_
  refine lv_iconst (v := 2) hx hb dL_law_602 (by decide) ?_
  refine lv_iadd hx hb dL_law_603 ?_
  refine lv_topi (fun x3 ex3 => ?_)
  have ex3 : x3 = 2 := by rw [ex3]; decide
  subst ex3
  refine va_sld hx hb hX hbl hbA hW.2.2.1 (vp_in_iff.mpr ⟨by decide, by decide⟩) dL_law_604 ?_
  refine lv_topi (fun x4 ex4 => ?_)
  have ex4 : x4 = (xs 2) := by rw [ex4]; rfl
  subst ex4
  refine m_aIx hW (m_runV (As := [.int (xs 1), .int (xs 2)]) (rest := []) hx hb hml hown hts (m_pre (l1 := LX) (l2 := LM) hW) (0) (c_X11_speed l D cy b MU0 z_41_2 (xs 1) (xs 2)) mi_X11_speed k_L_74 rfl rfl rfl hl.1 rfl (Nat.le_of_ble_eq_true rfl) dL_law_605 ⟨Nat.le_of_ble_eq_true rfl, Nat.le_of_ble_eq_true rfl⟩ ⟨Nat.le_of_ble_eq_true rfl, Nat.le_of_ble_eq_true rfl⟩) (fun x5 μ5 H locs q5 hW => ?_)
  refine lv_aload_n hx hb dL_law_608 rfl (lv_at hl 1 rfl) ?_
  refine lv_aload_n hx hb dL_law_609 rfl (lv_at hl 3 rfl) ?_
  refine lv_iload_n hx hb dL_law_610 rfl (lv_at hl 0 rfl) ?_
  refine lv_iconst (v := 1) hx hb dL_law_611 (by decide) ?_
  refine lv_iadd hx hb dL_law_612 ?_
  refine lv_topi (fun x6 ex6 => ?_)
  have ex6 : x6 = 1 := by rw [ex6]; decide
  subst ex6
  refine va_sld hx hb hX hbl hbA hW.2.2.1 (vp_in_iff.mpr ⟨by decide, by decide⟩) dL_law_613 ?_
  refine lv_topi (fun x7 ex7 => ?_)
  have ex7 : x7 = (xs 1) := by rw [ex7]; rfl
  subst ex7
  refine lv_aload_n hx hb dL_law_614 rfl (lv_at hl 3 rfl) ?_
  refine lv_iload_n hx hb dL_law_615 rfl (lv_at hl 0 rfl) ?_
  refine lv_iconst (v := 2) hx hb dL_law_616 (by decide) ?_
  refine lv_iadd hx hb dL_law_617 ?_
  refine lv_topi (fun x8 ex8 => ?_)
  have ex8 : x8 = 2 := by rw [ex8]; decide
  subst ex8
  refine va_sld hx hb hX hbl hbA hW.2.2.1 (vp_in_iff.mpr ⟨by decide, by decide⟩) dL_law_618 ?_
  refine lv_topi (fun x9 ex9 => ?_)
  have ex9 : x9 = (xs 2) := by rw [ex9]; rfl
  subst ex9
  refine m_aI hW (m_runV (As := [.int (xs 1), .int (xs 2)]) (rest := [.int x5]) hx hb hml hown hts hW (81) (c_X12_speed l D cy b (m_gl LX.length μ5 MU0) z_81_5 (xs 1) (xs 2)) mi_X12_speed k_L_77 rfl rfl rfl hl.1 rfl (Nat.le_of_ble_eq_true rfl) dL_law_619 ⟨Nat.le_of_ble_eq_true rfl, Nat.le_of_ble_eq_true rfl⟩ ⟨Nat.le_of_ble_eq_true rfl, Nat.le_of_ble_eq_true rfl⟩) (fun x10 μ10 H locs q10 hW => ?_)
  refine lv_icmp_eq (tgt := 861) hx hb dL_law_622 (by decide) (fun c11 => ?_) (fun c => absurd (q5.trans q10.symm) c)
  exact law_end hx hb hr hml hown hts hlocks hX hbl hbA hbz hW hl
set_option maxHeartbeats 4000000 in
set_option maxRecDepth 100000 in
theorem law_14 {p : Program} {e : Env} {s : State} {m : MethodId} {below : List Frame} {meth : Method} {c : Code} {l : Launch} {a : Nat} {xs : Nat → Int32} {D : va_G} {cy : Nat → ClassId} {b : Nat} (hx : p.tables.exec = Jvm.exec) (hb : c.code = cL_law) (hr : meth.sig.returnType = ret) (hml : c.maxLocals = 4) (hown : s.vm.findClass RL = some m.cls) (hts : ∀ w ∈ TB, w.before #[Value.ref a] s = true) (hlocks : meth.locks = false) (hX : va_X a 6 xs s s.heap) (hbl : a < s.heap.size) (hbA : ¬ (fun q => b ≤ q) a) (hbz : s.heap.size = b) {H : Heap} {locs : List Loc} (hW : m_W D cy s b LAY MU0 H locs) {ls : Array Slot} (hl : lv_has ls 4 [(3, .int 0), (2, .ref (b + 81)), (1, .ref (b + 0)), (0, .ref a)]) : W p l e room_1 s m #[Value.ref a] below meth c H locs (0 + 1 + 80 + 1 + 47) (0 + 11 + 14956 + 74 + 38526) (lw_Z below #[Value.ref a] s) (F0 m 627 ls []) := by
  refine lv_aload_n hx hb dL_law_627 rfl (lv_at hl 2 rfl) ?_
  refine lv_aload_n hx hb dL_law_628 rfl (lv_at hl 3 rfl) ?_
  refine lv_iload_n hx hb dL_law_629 rfl (lv_at hl 0 rfl) ?_
  refine lv_iconst (v := 1) hx hb dL_law_630 (by decide) ?_
  refine lv_iadd hx hb dL_law_631 ?_
  refine lv_topi (fun x1 ex1 => ?_)
  have ex1 : x1 = 1 := by rw [ex1]; decide
  subst ex1
  refine va_sld hx hb hX hbl hbA hW.2.2.1 (vp_in_iff.mpr ⟨by decide, by decide⟩) dL_law_632 ?_
  refine lv_topi (fun x2 ex2 => ?_)
  have ex2 : x2 = (xs 1) := by rw [ex2]; rfl
  subst ex2
  refine lv_aload_n hx hb dL_law_633 rfl (lv_at hl 3 rfl) ?_
  refine lv_iload_n hx hb dL_law_634 rfl (lv_at hl 0 rfl) ?_
  refine lv_iconst (v := 2) hx hb dL_law_635 (by decide) ?_
  refine lv_iadd hx hb dL_law_636 ?_
  refine lv_topi (fun x3 ex3 => ?_)
  have ex3 : x3 = 2 := by rw [ex3]; decide
  subst ex3
  refine va_sld hx hb hX hbl hbA hW.2.2.1 (vp_in_iff.mpr ⟨by decide, by decide⟩) dL_law_637 ?_
  refine lv_topi (fun x4 ex4 => ?_)
  have ex4 : x4 = (xs 2) := by rw [ex4]; rfl
  subst ex4
  refine lv_aload_n hx hb dL_law_638 rfl (lv_at hl 3 rfl) ?_
  refine lv_iload_n hx hb dL_law_639 rfl (lv_at hl 0 rfl) ?_
  refine lv_iconst (v := 3) hx hb dL_law_640 (by decide) ?_
  refine lv_iadd hx hb dL_law_641 ?_
  refine lv_topi (fun x5 ex5 => ?_)
  have ex5 : x5 = 3 := by rw [ex5]; decide
  subst ex5
  refine va_sld hx hb hX hbl hbA hW.2.2.1 (vp_in_iff.mpr ⟨by decide, by decide⟩) dL_law_642 ?_
  refine lv_topi (fun x6 ex6 => ?_)
  have ex6 : x6 = (xs 3) := by rw [ex6]; rfl
  subst ex6
  refine m_aIx hW (m_runV (As := [.int (xs 1), .int (xs 2), .int (xs 3)]) (rest := []) hx hb hml hown hts (m_pre (l1 := LX) (l2 := LM) hW) (0) (c_X11_kind l D cy b MU0 z_71_4 (xs 1) (xs 2) (xs 3)) mi_X11_kind k_L_78 rfl rfl rfl hl.1 rfl (Nat.le_of_ble_eq_true rfl) dL_law_643 ⟨Nat.le_of_ble_eq_true rfl, Nat.le_of_ble_eq_true rfl⟩ ⟨Nat.le_of_ble_eq_true rfl, Nat.le_of_ble_eq_true rfl⟩) (fun x7 μ7 H locs q7 hW => ?_)
  refine lv_aload_n hx hb dL_law_646 rfl (lv_at hl 1 rfl) ?_
  refine lv_aload_n hx hb dL_law_647 rfl (lv_at hl 3 rfl) ?_
  refine lv_iload_n hx hb dL_law_648 rfl (lv_at hl 0 rfl) ?_
  refine lv_iconst (v := 1) hx hb dL_law_649 (by decide) ?_
  refine lv_iadd hx hb dL_law_650 ?_
  refine lv_topi (fun x8 ex8 => ?_)
  have ex8 : x8 = 1 := by rw [ex8]; decide
  subst ex8
  refine va_sld hx hb hX hbl hbA hW.2.2.1 (vp_in_iff.mpr ⟨by decide, by decide⟩) dL_law_651 ?_
  refine lv_topi (fun x9 ex9 => ?_)
  have ex9 : x9 = (xs 1) := by rw [ex9]; rfl
  subst ex9
  refine lv_aload_n hx hb dL_law_652 rfl (lv_at hl 3 rfl) ?_
  refine lv_iload_n hx hb dL_law_653 rfl (lv_at hl 0 rfl) ?_
  refine lv_iconst (v := 2) hx hb dL_law_654 (by decide) ?_
  refine lv_iadd hx hb dL_law_655 ?_
  refine lv_topi (fun x10 ex10 => ?_)
  have ex10 : x10 = 2 := by rw [ex10]; decide
  subst ex10
  refine va_sld hx hb hX hbl hbA hW.2.2.1 (vp_in_iff.mpr ⟨by decide, by decide⟩) dL_law_656 ?_
  refine lv_topi (fun x11 ex11 => ?_)
  have ex11 : x11 = (xs 2) := by rw [ex11]; rfl
  subst ex11
  refine lv_aload_n hx hb dL_law_657 rfl (lv_at hl 3 rfl) ?_
  refine lv_iload_n hx hb dL_law_658 rfl (lv_at hl 0 rfl) ?_
  refine lv_iconst (v := 3) hx hb dL_law_659 (by decide) ?_
  refine lv_iadd hx hb dL_law_660 ?_
  refine lv_topi (fun x12 ex12 => ?_)
  have ex12 : x12 = 3 := by rw [ex12]; decide
  subst ex12
  refine va_sld hx hb hX hbl hbA hW.2.2.1 (vp_in_iff.mpr ⟨by decide, by decide⟩) dL_law_661 ?_
  refine lv_topi (fun x13 ex13 => ?_)
  have ex13 : x13 = (xs 3) := by rw [ex13]; rfl
  subst ex13
  refine m_aI hW (m_runV (As := [.int (xs 1), .int (xs 2), .int (xs 3)]) (rest := [.int x7]) hx hb hml hown hts hW (81) (c_X12_kind l D cy b (m_gl LX.length μ7 MU0) z_81_62 (xs 1) (xs 2) (xs 3)) mi_X12_kind k_L_81 rfl rfl rfl hl.1 rfl (Nat.le_of_ble_eq_true rfl) dL_law_662 ⟨Nat.le_of_ble_eq_true rfl, Nat.le_of_ble_eq_true rfl⟩ ⟨Nat.le_of_ble_eq_true rfl, Nat.le_of_ble_eq_true rfl⟩) (fun x14 μ14 H locs q14 hW => ?_)
  refine lv_icmp_eq (tgt := 861) hx hb dL_law_665 (by decide) (fun c15 => ?_) (fun c => absurd (q7.trans q14.symm) c)
  exact law_end hx hb hr hml hown hts hlocks hX hbl hbA hbz hW hl
set_option maxHeartbeats 4000000 in
set_option maxRecDepth 100000 in
theorem law_15 {p : Program} {e : Env} {s : State} {m : MethodId} {below : List Frame} {meth : Method} {c : Code} {l : Launch} {a : Nat} {xs : Nat → Int32} {D : va_G} {cy : Nat → ClassId} {b : Nat} (hx : p.tables.exec = Jvm.exec) (hb : c.code = cL_law) (hr : meth.sig.returnType = ret) (hml : c.maxLocals = 4) (hown : s.vm.findClass RL = some m.cls) (hts : ∀ w ∈ TB, w.before #[Value.ref a] s = true) (hlocks : meth.locks = false) (hX : va_X a 6 xs s s.heap) (hbl : a < s.heap.size) (hbA : ¬ (fun q => b ≤ q) a) (hbz : s.heap.size = b) {H : Heap} {locs : List Loc} (hW : m_W D cy s b LAY MU0 H locs) {ls : Array Slot} (hl : lv_has ls 4 [(3, .int 0), (2, .ref (b + 81)), (1, .ref (b + 0)), (0, .ref a)]) : W p l e room_1 s m #[Value.ref a] below meth c H locs (0 + 1 + 80 + 1 + 47) (0 + 11 + 14956 + 74 + 38526) (lw_Z below #[Value.ref a] s) (F0 m 670 ls []) := by
  refine lv_aload_n hx hb dL_law_670 rfl (lv_at hl 2 rfl) ?_
  refine lv_aload_n hx hb dL_law_671 rfl (lv_at hl 3 rfl) ?_
  refine lv_iload_n hx hb dL_law_672 rfl (lv_at hl 0 rfl) ?_
  refine lv_iconst (v := 1) hx hb dL_law_673 (by decide) ?_
  refine lv_iadd hx hb dL_law_674 ?_
  refine lv_topi (fun x1 ex1 => ?_)
  have ex1 : x1 = 1 := by rw [ex1]; decide
  subst ex1
  refine va_sld hx hb hX hbl hbA hW.2.2.1 (vp_in_iff.mpr ⟨by decide, by decide⟩) dL_law_675 ?_
  refine lv_topi (fun x2 ex2 => ?_)
  have ex2 : x2 = (xs 1) := by rw [ex2]; rfl
  subst ex2
  refine lv_aload_n hx hb dL_law_676 rfl (lv_at hl 3 rfl) ?_
  refine lv_iload_n hx hb dL_law_677 rfl (lv_at hl 0 rfl) ?_
  refine lv_iconst (v := 2) hx hb dL_law_678 (by decide) ?_
  refine lv_iadd hx hb dL_law_679 ?_
  refine lv_topi (fun x3 ex3 => ?_)
  have ex3 : x3 = 2 := by rw [ex3]; decide
  subst ex3
  refine va_sld hx hb hX hbl hbA hW.2.2.1 (vp_in_iff.mpr ⟨by decide, by decide⟩) dL_law_680 ?_
  refine lv_topi (fun x4 ex4 => ?_)
  have ex4 : x4 = (xs 2) := by rw [ex4]; rfl
  subst ex4
  refine m_aIx hW (m_runV (As := [.int (xs 1), .int (xs 2)]) (rest := []) hx hb hml hown hts (m_pre (l1 := LX) (l2 := LM) hW) (0) (c_X11_fill l D cy b MU0 z_75 (xs 1) (xs 2)) mi_X11_fill k_L_82 rfl rfl rfl hl.1 rfl (Nat.le_of_ble_eq_true rfl) dL_law_681 ⟨Nat.le_of_ble_eq_true rfl, Nat.le_of_ble_eq_true rfl⟩ ⟨Nat.le_of_ble_eq_true rfl, Nat.le_of_ble_eq_true rfl⟩) (fun x5 μ5 H locs q5 hW => ?_)
  refine lv_aload_n hx hb dL_law_684 rfl (lv_at hl 1 rfl) ?_
  refine lv_aload_n hx hb dL_law_685 rfl (lv_at hl 3 rfl) ?_
  refine lv_iload_n hx hb dL_law_686 rfl (lv_at hl 0 rfl) ?_
  refine lv_iconst (v := 1) hx hb dL_law_687 (by decide) ?_
  refine lv_iadd hx hb dL_law_688 ?_
  refine lv_topi (fun x6 ex6 => ?_)
  have ex6 : x6 = 1 := by rw [ex6]; decide
  subst ex6
  refine va_sld hx hb hX hbl hbA hW.2.2.1 (vp_in_iff.mpr ⟨by decide, by decide⟩) dL_law_689 ?_
  refine lv_topi (fun x7 ex7 => ?_)
  have ex7 : x7 = (xs 1) := by rw [ex7]; rfl
  subst ex7
  refine lv_aload_n hx hb dL_law_690 rfl (lv_at hl 3 rfl) ?_
  refine lv_iload_n hx hb dL_law_691 rfl (lv_at hl 0 rfl) ?_
  refine lv_iconst (v := 2) hx hb dL_law_692 (by decide) ?_
  refine lv_iadd hx hb dL_law_693 ?_
  refine lv_topi (fun x8 ex8 => ?_)
  have ex8 : x8 = 2 := by rw [ex8]; decide
  subst ex8
  refine va_sld hx hb hX hbl hbA hW.2.2.1 (vp_in_iff.mpr ⟨by decide, by decide⟩) dL_law_694 ?_
  refine lv_topi (fun x9 ex9 => ?_)
  have ex9 : x9 = (xs 2) := by rw [ex9]; rfl
  subst ex9
  refine m_aI hW (m_runV (As := [.int (xs 1), .int (xs 2)]) (rest := [.int x5]) hx hb hml hown hts hW (81) (c_X12_fill l D cy b (m_gl LX.length μ5 MU0) z_123 z_81_62 (xs 1) (xs 2)) mi_X12_fill k_L_85 rfl rfl rfl hl.1 rfl (Nat.le_of_ble_eq_true rfl) dL_law_695 ⟨Nat.le_of_ble_eq_true rfl, Nat.le_of_ble_eq_true rfl⟩ ⟨Nat.le_of_ble_eq_true rfl, Nat.le_of_ble_eq_true rfl⟩) (fun x10 μ10 H locs q10 hW => ?_)
  refine lv_icmp_eq (tgt := 861) hx hb dL_law_698 (by decide) (fun c11 => ?_) (fun c => absurd (q5.trans q10.symm) c)
  exact law_end hx hb hr hml hown hts hlocks hX hbl hbA hbz hW hl
set_option maxHeartbeats 4000000 in
set_option maxRecDepth 100000 in
theorem law_16 {p : Program} {e : Env} {s : State} {m : MethodId} {below : List Frame} {meth : Method} {c : Code} {l : Launch} {a : Nat} {xs : Nat → Int32} {D : va_G} {cy : Nat → ClassId} {b : Nat} (hx : p.tables.exec = Jvm.exec) (hb : c.code = cL_law) (hr : meth.sig.returnType = ret) (hml : c.maxLocals = 4) (hown : s.vm.findClass RL = some m.cls) (hts : ∀ w ∈ TB, w.before #[Value.ref a] s = true) (hlocks : meth.locks = false) (hX : va_X a 6 xs s s.heap) (hbl : a < s.heap.size) (hbA : ¬ (fun q => b ≤ q) a) (hbz : s.heap.size = b) {H : Heap} {locs : List Loc} (hW : m_W D cy s b LAY MU0 H locs) {ls : Array Slot} (hl : lv_has ls 4 [(3, .int 0), (2, .ref (b + 81)), (1, .ref (b + 0)), (0, .ref a)]) : W p l e room_1 s m #[Value.ref a] below meth c H locs (0 + 1 + 80 + 1 + 47) (0 + 11 + 14956 + 74 + 38526) (lw_Z below #[Value.ref a] s) (F0 m 703 ls []) := by
  refine lv_aload_n hx hb dL_law_703 rfl (lv_at hl 2 rfl) ?_
  refine lv_aload_n hx hb dL_law_704 rfl (lv_at hl 3 rfl) ?_
  refine lv_iload_n hx hb dL_law_705 rfl (lv_at hl 0 rfl) ?_
  refine lv_iconst (v := 1) hx hb dL_law_706 (by decide) ?_
  refine lv_iadd hx hb dL_law_707 ?_
  refine lv_topi (fun x1 ex1 => ?_)
  have ex1 : x1 = 1 := by rw [ex1]; decide
  subst ex1
  refine va_sld hx hb hX hbl hbA hW.2.2.1 (vp_in_iff.mpr ⟨by decide, by decide⟩) dL_law_708 ?_
  refine lv_topi (fun x2 ex2 => ?_)
  have ex2 : x2 = (xs 1) := by rw [ex2]; rfl
  subst ex2
  refine lv_aload_n hx hb dL_law_709 rfl (lv_at hl 3 rfl) ?_
  refine lv_iload_n hx hb dL_law_710 rfl (lv_at hl 0 rfl) ?_
  refine lv_iconst (v := 2) hx hb dL_law_711 (by decide) ?_
  refine lv_iadd hx hb dL_law_712 ?_
  refine lv_topi (fun x3 ex3 => ?_)
  have ex3 : x3 = 2 := by rw [ex3]; decide
  subst ex3
  refine va_sld hx hb hX hbl hbA hW.2.2.1 (vp_in_iff.mpr ⟨by decide, by decide⟩) dL_law_713 ?_
  refine lv_topi (fun x4 ex4 => ?_)
  have ex4 : x4 = (xs 2) := by rw [ex4]; rfl
  subst ex4
  refine lv_aload_n hx hb dL_law_714 rfl (lv_at hl 3 rfl) ?_
  refine lv_iload_n hx hb dL_law_715 rfl (lv_at hl 0 rfl) ?_
  refine lv_iconst (v := 3) hx hb dL_law_716 (by decide) ?_
  refine lv_iadd hx hb dL_law_717 ?_
  refine lv_topi (fun x5 ex5 => ?_)
  have ex5 : x5 = 3 := by rw [ex5]; decide
  subst ex5
  refine va_sld hx hb hX hbl hbA hW.2.2.1 (vp_in_iff.mpr ⟨by decide, by decide⟩) dL_law_718 ?_
  refine lv_topi (fun x6 ex6 => ?_)
  have ex6 : x6 = (xs 3) := by rw [ex6]; rfl
  subst ex6
  refine lv_if_eq (tgt := 726) hx hb dL_law_719 (by decide) (fun c7 => ?_) (fun c7 => ?_)
  · refine lv_iconst (v := 0) hx hb dL_law_726 (by decide) ?_
    refine lv_aload_n hx hb dL_law_727 rfl (lv_at hl 3 rfl) ?_
    refine lv_iload_n hx hb dL_law_728 rfl (lv_at hl 0 rfl) ?_
    refine lv_iconst (v := 4) hx hb dL_law_729 (by decide) ?_
    refine lv_iadd hx hb dL_law_730 ?_
    refine lv_topi (fun x8 ex8 => ?_)
    have ex8 : x8 = 4 := by rw [ex8]; decide
    subst ex8
    refine va_sld hx hb hX hbl hbA hW.2.2.1 (vp_in_iff.mpr ⟨by decide, by decide⟩) dL_law_731 ?_
    refine lv_topi (fun x9 ex9 => ?_)
    have ex9 : x9 = (xs 4) := by rw [ex9]; rfl
    subst ex9
    refine m_aIx hW (m_runV (As := [.int (xs 1), .int (xs 2), .int 0, .int (xs 4)]) (rest := []) hx hb hml hown hts (m_pre (l1 := LX) (l2 := LM) hW) (0) (c_X11_test l D cy b MU0 z_76_4 z_76_5 (xs 1) (xs 2) 0 (xs 4) (Or.inl rfl)) mi_X11_test k_L_86 rfl rfl rfl hl.1 rfl (Nat.le_of_ble_eq_true rfl) dL_law_732 ⟨Nat.le_of_ble_eq_true rfl, Nat.le_of_ble_eq_true rfl⟩ ⟨Nat.le_of_ble_eq_true rfl, Nat.le_of_ble_eq_true rfl⟩) (fun x10 μ10 H locs q10 hW => ?_)
    refine lv_aload_n hx hb dL_law_735 rfl (lv_at hl 1 rfl) ?_
    refine lv_aload_n hx hb dL_law_736 rfl (lv_at hl 3 rfl) ?_
    refine lv_iload_n hx hb dL_law_737 rfl (lv_at hl 0 rfl) ?_
    refine lv_iconst (v := 1) hx hb dL_law_738 (by decide) ?_
    refine lv_iadd hx hb dL_law_739 ?_
    refine lv_topi (fun x11 ex11 => ?_)
    have ex11 : x11 = 1 := by rw [ex11]; decide
    subst ex11
    refine va_sld hx hb hX hbl hbA hW.2.2.1 (vp_in_iff.mpr ⟨by decide, by decide⟩) dL_law_740 ?_
    refine lv_topi (fun x12 ex12 => ?_)
    have ex12 : x12 = (xs 1) := by rw [ex12]; rfl
    subst ex12
    refine lv_aload_n hx hb dL_law_741 rfl (lv_at hl 3 rfl) ?_
    refine lv_iload_n hx hb dL_law_742 rfl (lv_at hl 0 rfl) ?_
    refine lv_iconst (v := 2) hx hb dL_law_743 (by decide) ?_
    refine lv_iadd hx hb dL_law_744 ?_
    refine lv_topi (fun x13 ex13 => ?_)
    have ex13 : x13 = 2 := by rw [ex13]; decide
    subst ex13
    refine va_sld hx hb hX hbl hbA hW.2.2.1 (vp_in_iff.mpr ⟨by decide, by decide⟩) dL_law_745 ?_
    refine lv_topi (fun x14 ex14 => ?_)
    have ex14 : x14 = (xs 2) := by rw [ex14]; rfl
    subst ex14
    refine lv_aload_n hx hb dL_law_746 rfl (lv_at hl 3 rfl) ?_
    refine lv_iload_n hx hb dL_law_747 rfl (lv_at hl 0 rfl) ?_
    refine lv_iconst (v := 3) hx hb dL_law_748 (by decide) ?_
    refine lv_iadd hx hb dL_law_749 ?_
    refine lv_topi (fun x15 ex15 => ?_)
    have ex15 : x15 = 3 := by rw [ex15]; decide
    subst ex15
    refine va_sld hx hb hX hbl hbA hW.2.2.1 (vp_in_iff.mpr ⟨by decide, by decide⟩) dL_law_750 ?_
    refine lv_topi (fun x16 ex16 => ?_)
    have ex16 : x16 = (xs 3) := by rw [ex16]; rfl
    subst ex16
    refine lv_if_eq (tgt := 758) hx hb dL_law_751 (by decide) (fun c17 => ?_) (fun c17 => ?_)
    · refine lv_iconst (v := 0) hx hb dL_law_758 (by decide) ?_
      refine lv_aload_n hx hb dL_law_759 rfl (lv_at hl 3 rfl) ?_
      refine lv_iload_n hx hb dL_law_760 rfl (lv_at hl 0 rfl) ?_
      refine lv_iconst (v := 4) hx hb dL_law_761 (by decide) ?_
      refine lv_iadd hx hb dL_law_762 ?_
      refine lv_topi (fun x18 ex18 => ?_)
      have ex18 : x18 = 4 := by rw [ex18]; decide
      subst ex18
      refine va_sld hx hb hX hbl hbA hW.2.2.1 (vp_in_iff.mpr ⟨by decide, by decide⟩) dL_law_763 ?_
      refine lv_topi (fun x19 ex19 => ?_)
      have ex19 : x19 = (xs 4) := by rw [ex19]; rfl
      subst ex19
      refine m_aI hW (m_runV (As := [.int (xs 1), .int (xs 2), .int 0, .int (xs 4)]) (rest := [.int x10]) hx hb hml hown hts hW (81) (c_X12_test l D cy b (m_gl LX.length μ10 MU0) z_81_67 (xs 1) (xs 2) 0 (xs 4) (Or.inl rfl)) mi_X12_test k_L_90 rfl rfl rfl hl.1 rfl (Nat.le_of_ble_eq_true rfl) dL_law_764 ⟨Nat.le_of_ble_eq_true rfl, Nat.le_of_ble_eq_true rfl⟩ ⟨Nat.le_of_ble_eq_true rfl, Nat.le_of_ble_eq_true rfl⟩) (fun x20 μ20 H locs q20 hW => ?_)
      refine lv_icmp_eq (tgt := 861) hx hb dL_law_767 (by decide) (fun c21 => ?_) (fun c => absurd (q10.trans q20.symm) c)
      exact law_end hx hb hr hml hown hts hlocks hX hbl hbA hbz hW hl
    · refine lv_iconst (v := 1) hx hb dL_law_754 (by decide) ?_
      refine lv_goto (tgt := 759) hx hb dL_law_755 (by decide) ?_
      refine lv_aload_n hx hb dL_law_759 rfl (lv_at hl 3 rfl) ?_
      refine lv_iload_n hx hb dL_law_760 rfl (lv_at hl 0 rfl) ?_
      refine lv_iconst (v := 4) hx hb dL_law_761 (by decide) ?_
      refine lv_iadd hx hb dL_law_762 ?_
      refine lv_topi (fun x22 ex22 => ?_)
      have ex22 : x22 = 4 := by rw [ex22]; decide
      subst ex22
      refine va_sld hx hb hX hbl hbA hW.2.2.1 (vp_in_iff.mpr ⟨by decide, by decide⟩) dL_law_763 ?_
      refine lv_topi (fun x23 ex23 => ?_)
      have ex23 : x23 = (xs 4) := by rw [ex23]; rfl
      subst ex23
      refine m_aI hW (m_runV (As := [.int (xs 1), .int (xs 2), .int 1, .int (xs 4)]) (rest := [.int x10]) hx hb hml hown hts hW (81) (c_X12_test l D cy b (m_gl LX.length μ10 MU0) z_81_67 (xs 1) (xs 2) 1 (xs 4) (Or.inr rfl)) mi_X12_test k_L_90 rfl rfl rfl hl.1 rfl (Nat.le_of_ble_eq_true rfl) dL_law_764 ⟨Nat.le_of_ble_eq_true rfl, Nat.le_of_ble_eq_true rfl⟩ ⟨Nat.le_of_ble_eq_true rfl, Nat.le_of_ble_eq_true rfl⟩) (fun x24 μ24 H locs q24 hW => ?_)
      refine lv_icmp_eq (tgt := 861) hx hb dL_law_767 (by decide) (fun c25 => ?_) (fun c => absurd (q10.trans q24.symm) c)
      exact law_end hx hb hr hml hown hts hlocks hX hbl hbA hbz hW hl
  · refine lv_iconst (v := 1) hx hb dL_law_722 (by decide) ?_
    refine lv_goto (tgt := 727) hx hb dL_law_723 (by decide) ?_
    refine lv_aload_n hx hb dL_law_727 rfl (lv_at hl 3 rfl) ?_
    refine lv_iload_n hx hb dL_law_728 rfl (lv_at hl 0 rfl) ?_
    refine lv_iconst (v := 4) hx hb dL_law_729 (by decide) ?_
    refine lv_iadd hx hb dL_law_730 ?_
    refine lv_topi (fun x26 ex26 => ?_)
    have ex26 : x26 = 4 := by rw [ex26]; decide
    subst ex26
    refine va_sld hx hb hX hbl hbA hW.2.2.1 (vp_in_iff.mpr ⟨by decide, by decide⟩) dL_law_731 ?_
    refine lv_topi (fun x27 ex27 => ?_)
    have ex27 : x27 = (xs 4) := by rw [ex27]; rfl
    subst ex27
    refine m_aIx hW (m_runV (As := [.int (xs 1), .int (xs 2), .int 1, .int (xs 4)]) (rest := []) hx hb hml hown hts (m_pre (l1 := LX) (l2 := LM) hW) (0) (c_X11_test l D cy b MU0 z_76_4 z_76_5 (xs 1) (xs 2) 1 (xs 4) (Or.inr rfl)) mi_X11_test k_L_86 rfl rfl rfl hl.1 rfl (Nat.le_of_ble_eq_true rfl) dL_law_732 ⟨Nat.le_of_ble_eq_true rfl, Nat.le_of_ble_eq_true rfl⟩ ⟨Nat.le_of_ble_eq_true rfl, Nat.le_of_ble_eq_true rfl⟩) (fun x28 μ28 H locs q28 hW => ?_)
    refine lv_aload_n hx hb dL_law_735 rfl (lv_at hl 1 rfl) ?_
    refine lv_aload_n hx hb dL_law_736 rfl (lv_at hl 3 rfl) ?_
    refine lv_iload_n hx hb dL_law_737 rfl (lv_at hl 0 rfl) ?_
    refine lv_iconst (v := 1) hx hb dL_law_738 (by decide) ?_
    refine lv_iadd hx hb dL_law_739 ?_
    refine lv_topi (fun x29 ex29 => ?_)
    have ex29 : x29 = 1 := by rw [ex29]; decide
    subst ex29
    refine va_sld hx hb hX hbl hbA hW.2.2.1 (vp_in_iff.mpr ⟨by decide, by decide⟩) dL_law_740 ?_
    refine lv_topi (fun x30 ex30 => ?_)
    have ex30 : x30 = (xs 1) := by rw [ex30]; rfl
    subst ex30
    refine lv_aload_n hx hb dL_law_741 rfl (lv_at hl 3 rfl) ?_
    refine lv_iload_n hx hb dL_law_742 rfl (lv_at hl 0 rfl) ?_
    refine lv_iconst (v := 2) hx hb dL_law_743 (by decide) ?_
    refine lv_iadd hx hb dL_law_744 ?_
    refine lv_topi (fun x31 ex31 => ?_)
    have ex31 : x31 = 2 := by rw [ex31]; decide
    subst ex31
    refine va_sld hx hb hX hbl hbA hW.2.2.1 (vp_in_iff.mpr ⟨by decide, by decide⟩) dL_law_745 ?_
    refine lv_topi (fun x32 ex32 => ?_)
    have ex32 : x32 = (xs 2) := by rw [ex32]; rfl
    subst ex32
    refine lv_aload_n hx hb dL_law_746 rfl (lv_at hl 3 rfl) ?_
    refine lv_iload_n hx hb dL_law_747 rfl (lv_at hl 0 rfl) ?_
    refine lv_iconst (v := 3) hx hb dL_law_748 (by decide) ?_
    refine lv_iadd hx hb dL_law_749 ?_
    refine lv_topi (fun x33 ex33 => ?_)
    have ex33 : x33 = 3 := by rw [ex33]; decide
    subst ex33
    refine va_sld hx hb hX hbl hbA hW.2.2.1 (vp_in_iff.mpr ⟨by decide, by decide⟩) dL_law_750 ?_
    refine lv_topi (fun x34 ex34 => ?_)
    have ex34 : x34 = (xs 3) := by rw [ex34]; rfl
    subst ex34
    refine lv_if_eq (tgt := 758) hx hb dL_law_751 (by decide) (fun c35 => ?_) (fun c35 => ?_)
    · refine lv_iconst (v := 0) hx hb dL_law_758 (by decide) ?_
      refine lv_aload_n hx hb dL_law_759 rfl (lv_at hl 3 rfl) ?_
      refine lv_iload_n hx hb dL_law_760 rfl (lv_at hl 0 rfl) ?_
      refine lv_iconst (v := 4) hx hb dL_law_761 (by decide) ?_
      refine lv_iadd hx hb dL_law_762 ?_
      refine lv_topi (fun x36 ex36 => ?_)
      have ex36 : x36 = 4 := by rw [ex36]; decide
      subst ex36
      refine va_sld hx hb hX hbl hbA hW.2.2.1 (vp_in_iff.mpr ⟨by decide, by decide⟩) dL_law_763 ?_
      refine lv_topi (fun x37 ex37 => ?_)
      have ex37 : x37 = (xs 4) := by rw [ex37]; rfl
      subst ex37
      refine m_aI hW (m_runV (As := [.int (xs 1), .int (xs 2), .int 0, .int (xs 4)]) (rest := [.int x28]) hx hb hml hown hts hW (81) (c_X12_test l D cy b (m_gl LX.length μ28 MU0) z_81_67 (xs 1) (xs 2) 0 (xs 4) (Or.inl rfl)) mi_X12_test k_L_90 rfl rfl rfl hl.1 rfl (Nat.le_of_ble_eq_true rfl) dL_law_764 ⟨Nat.le_of_ble_eq_true rfl, Nat.le_of_ble_eq_true rfl⟩ ⟨Nat.le_of_ble_eq_true rfl, Nat.le_of_ble_eq_true rfl⟩) (fun x38 μ38 H locs q38 hW => ?_)
      refine lv_icmp_eq (tgt := 861) hx hb dL_law_767 (by decide) (fun c39 => ?_) (fun c => absurd (q28.trans q38.symm) c)
      exact law_end hx hb hr hml hown hts hlocks hX hbl hbA hbz hW hl
    · refine lv_iconst (v := 1) hx hb dL_law_754 (by decide) ?_
      refine lv_goto (tgt := 759) hx hb dL_law_755 (by decide) ?_
      refine lv_aload_n hx hb dL_law_759 rfl (lv_at hl 3 rfl) ?_
      refine lv_iload_n hx hb dL_law_760 rfl (lv_at hl 0 rfl) ?_
      refine lv_iconst (v := 4) hx hb dL_law_761 (by decide) ?_
      refine lv_iadd hx hb dL_law_762 ?_
      refine lv_topi (fun x40 ex40 => ?_)
      have ex40 : x40 = 4 := by rw [ex40]; decide
      subst ex40
      refine va_sld hx hb hX hbl hbA hW.2.2.1 (vp_in_iff.mpr ⟨by decide, by decide⟩) dL_law_763 ?_
      refine lv_topi (fun x41 ex41 => ?_)
      have ex41 : x41 = (xs 4) := by rw [ex41]; rfl
      subst ex41
      refine m_aI hW (m_runV (As := [.int (xs 1), .int (xs 2), .int 1, .int (xs 4)]) (rest := [.int x28]) hx hb hml hown hts hW (81) (c_X12_test l D cy b (m_gl LX.length μ28 MU0) z_81_67 (xs 1) (xs 2) 1 (xs 4) (Or.inr rfl)) mi_X12_test k_L_90 rfl rfl rfl hl.1 rfl (Nat.le_of_ble_eq_true rfl) dL_law_764 ⟨Nat.le_of_ble_eq_true rfl, Nat.le_of_ble_eq_true rfl⟩ ⟨Nat.le_of_ble_eq_true rfl, Nat.le_of_ble_eq_true rfl⟩) (fun x42 μ42 H locs q42 hW => ?_)
      refine lv_icmp_eq (tgt := 861) hx hb dL_law_767 (by decide) (fun c43 => ?_) (fun c => absurd (q28.trans q42.symm) c)
      exact law_end hx hb hr hml hown hts hlocks hX hbl hbA hbz hW hl
set_option maxHeartbeats 4000000 in
set_option maxRecDepth 100000 in
theorem law_17 {p : Program} {e : Env} {s : State} {m : MethodId} {below : List Frame} {meth : Method} {c : Code} {l : Launch} {a : Nat} {xs : Nat → Int32} {D : va_G} {cy : Nat → ClassId} {b : Nat} (hx : p.tables.exec = Jvm.exec) (hb : c.code = cL_law) (hr : meth.sig.returnType = ret) (hml : c.maxLocals = 4) (hown : s.vm.findClass RL = some m.cls) (hts : ∀ w ∈ TB, w.before #[Value.ref a] s = true) (hlocks : meth.locks = false) (hX : va_X a 6 xs s s.heap) (hbl : a < s.heap.size) (hbA : ¬ (fun q => b ≤ q) a) (hbz : s.heap.size = b) {H : Heap} {locs : List Loc} (hW : m_W D cy s b LAY MU0 H locs) {ls : Array Slot} (hl : lv_has ls 4 [(3, .int 0), (2, .ref (b + 81)), (1, .ref (b + 0)), (0, .ref a)]) : W p l e room_1 s m #[Value.ref a] below meth c H locs (0 + 1 + 80 + 1 + 47) (0 + 11 + 14956 + 74 + 38526) (lw_Z below #[Value.ref a] s) (F0 m 772 ls []) := by
  refine lv_aload_n hx hb dL_law_772 rfl (lv_at hl 2 rfl) ?_
  refine lv_aload_n hx hb dL_law_773 rfl (lv_at hl 3 rfl) ?_
  refine lv_iload_n hx hb dL_law_774 rfl (lv_at hl 0 rfl) ?_
  refine lv_iconst (v := 1) hx hb dL_law_775 (by decide) ?_
  refine lv_iadd hx hb dL_law_776 ?_
  refine lv_topi (fun x1 ex1 => ?_)
  have ex1 : x1 = 1 := by rw [ex1]; decide
  subst ex1
  refine va_sld hx hb hX hbl hbA hW.2.2.1 (vp_in_iff.mpr ⟨by decide, by decide⟩) dL_law_777 ?_
  refine lv_topi (fun x2 ex2 => ?_)
  have ex2 : x2 = (xs 1) := by rw [ex2]; rfl
  subst ex2
  refine lv_aload_n hx hb dL_law_778 rfl (lv_at hl 3 rfl) ?_
  refine lv_iload_n hx hb dL_law_779 rfl (lv_at hl 0 rfl) ?_
  refine lv_iconst (v := 2) hx hb dL_law_780 (by decide) ?_
  refine lv_iadd hx hb dL_law_781 ?_
  refine lv_topi (fun x3 ex3 => ?_)
  have ex3 : x3 = 2 := by rw [ex3]; decide
  subst ex3
  refine va_sld hx hb hX hbl hbA hW.2.2.1 (vp_in_iff.mpr ⟨by decide, by decide⟩) dL_law_782 ?_
  refine lv_topi (fun x4 ex4 => ?_)
  have ex4 : x4 = (xs 2) := by rw [ex4]; rfl
  subst ex4
  refine lv_aload_n hx hb dL_law_783 rfl (lv_at hl 3 rfl) ?_
  refine lv_iload_n hx hb dL_law_784 rfl (lv_at hl 0 rfl) ?_
  refine lv_iconst (v := 3) hx hb dL_law_785 (by decide) ?_
  refine lv_iadd hx hb dL_law_786 ?_
  refine lv_topi (fun x5 ex5 => ?_)
  have ex5 : x5 = 3 := by rw [ex5]; decide
  subst ex5
  refine va_sld hx hb hX hbl hbA hW.2.2.1 (vp_in_iff.mpr ⟨by decide, by decide⟩) dL_law_787 ?_
  refine lv_topi (fun x6 ex6 => ?_)
  have ex6 : x6 = (xs 3) := by rw [ex6]; rfl
  subst ex6
  refine m_aIx hW (m_runV (As := [.int (xs 1), .int (xs 2), .int (xs 3)]) (rest := []) hx hb hml hown hts (m_pre (l1 := LX) (l2 := LM) hW) (0) (c_X11_known l D cy b MU0 z_76_4 (xs 1) (xs 2) (xs 3)) mi_X11_known k_L_91 rfl rfl rfl hl.1 rfl (Nat.le_of_ble_eq_true rfl) dL_law_788 ⟨Nat.le_of_ble_eq_true rfl, Nat.le_of_ble_eq_true rfl⟩ ⟨Nat.le_of_ble_eq_true rfl, Nat.le_of_ble_eq_true rfl⟩) (fun x7 μ7 H locs q7 hW => ?_)
  refine lv_aload_n hx hb dL_law_791 rfl (lv_at hl 1 rfl) ?_
  refine lv_aload_n hx hb dL_law_792 rfl (lv_at hl 3 rfl) ?_
  refine lv_iload_n hx hb dL_law_793 rfl (lv_at hl 0 rfl) ?_
  refine lv_iconst (v := 1) hx hb dL_law_794 (by decide) ?_
  refine lv_iadd hx hb dL_law_795 ?_
  refine lv_topi (fun x8 ex8 => ?_)
  have ex8 : x8 = 1 := by rw [ex8]; decide
  subst ex8
  refine va_sld hx hb hX hbl hbA hW.2.2.1 (vp_in_iff.mpr ⟨by decide, by decide⟩) dL_law_796 ?_
  refine lv_topi (fun x9 ex9 => ?_)
  have ex9 : x9 = (xs 1) := by rw [ex9]; rfl
  subst ex9
  refine lv_aload_n hx hb dL_law_797 rfl (lv_at hl 3 rfl) ?_
  refine lv_iload_n hx hb dL_law_798 rfl (lv_at hl 0 rfl) ?_
  refine lv_iconst (v := 2) hx hb dL_law_799 (by decide) ?_
  refine lv_iadd hx hb dL_law_800 ?_
  refine lv_topi (fun x10 ex10 => ?_)
  have ex10 : x10 = 2 := by rw [ex10]; decide
  subst ex10
  refine va_sld hx hb hX hbl hbA hW.2.2.1 (vp_in_iff.mpr ⟨by decide, by decide⟩) dL_law_801 ?_
  refine lv_topi (fun x11 ex11 => ?_)
  have ex11 : x11 = (xs 2) := by rw [ex11]; rfl
  subst ex11
  refine lv_aload_n hx hb dL_law_802 rfl (lv_at hl 3 rfl) ?_
  refine lv_iload_n hx hb dL_law_803 rfl (lv_at hl 0 rfl) ?_
  refine lv_iconst (v := 3) hx hb dL_law_804 (by decide) ?_
  refine lv_iadd hx hb dL_law_805 ?_
  refine lv_topi (fun x12 ex12 => ?_)
  have ex12 : x12 = 3 := by rw [ex12]; decide
  subst ex12
  refine va_sld hx hb hX hbl hbA hW.2.2.1 (vp_in_iff.mpr ⟨by decide, by decide⟩) dL_law_806 ?_
  refine lv_topi (fun x13 ex13 => ?_)
  have ex13 : x13 = (xs 3) := by rw [ex13]; rfl
  subst ex13
  refine m_aI hW (m_runV (As := [.int (xs 1), .int (xs 2), .int (xs 3)]) (rest := [.int x7]) hx hb hml hown hts hW (81) (c_X12_known l D cy b (m_gl LX.length μ7 MU0) z_81_67 (xs 1) (xs 2) (xs 3)) mi_X12_known k_L_94 rfl rfl rfl hl.1 rfl (Nat.le_of_ble_eq_true rfl) dL_law_807 ⟨Nat.le_of_ble_eq_true rfl, Nat.le_of_ble_eq_true rfl⟩ ⟨Nat.le_of_ble_eq_true rfl, Nat.le_of_ble_eq_true rfl⟩) (fun x14 μ14 H locs q14 hW => ?_)
  refine lv_icmp_eq (tgt := 861) hx hb dL_law_810 (by decide) (fun c15 => ?_) (fun c => absurd (q7.trans q14.symm) c)
  exact law_end hx hb hr hml hown hts hlocks hX hbl hbA hbz hW hl
set_option maxHeartbeats 4000000 in
set_option maxRecDepth 100000 in
theorem law_18 {p : Program} {e : Env} {s : State} {m : MethodId} {below : List Frame} {meth : Method} {c : Code} {l : Launch} {a : Nat} {xs : Nat → Int32} {D : va_G} {cy : Nat → ClassId} {b : Nat} (hx : p.tables.exec = Jvm.exec) (hb : c.code = cL_law) (hr : meth.sig.returnType = ret) (hml : c.maxLocals = 4) (hown : s.vm.findClass RL = some m.cls) (hts : ∀ w ∈ TB, w.before #[Value.ref a] s = true) (hlocks : meth.locks = false) (hX : va_X a 6 xs s s.heap) (hbl : a < s.heap.size) (hbA : ¬ (fun q => b ≤ q) a) (hbz : s.heap.size = b) {H : Heap} {locs : List Loc} (hW : m_W D cy s b LAY MU0 H locs) {ls : Array Slot} (hl : lv_has ls 4 [(3, .int 0), (2, .ref (b + 81)), (1, .ref (b + 0)), (0, .ref a)]) : W p l e room_1 s m #[Value.ref a] below meth c H locs (0 + 1 + 80 + 1 + 47) (0 + 11 + 14956 + 74 + 38526) (lw_Z below #[Value.ref a] s) (F0 m 815 ls []) := by
  refine lv_aload_n hx hb dL_law_815 rfl (lv_at hl 2 rfl) ?_
  refine m_aIx hW (m_runV (As := []) (rest := []) hx hb hml hown hts (m_pre (l1 := LX) (l2 := LM) hW) (0) (c_X11_sparks l D cy b MU0 z_23_1 ) mi_X11_sparks k_L_95 rfl rfl rfl hl.1 rfl (Nat.le_of_ble_eq_true rfl) dL_law_816 ⟨Nat.le_of_ble_eq_true rfl, Nat.le_of_ble_eq_true rfl⟩ ⟨Nat.le_of_ble_eq_true rfl, Nat.le_of_ble_eq_true rfl⟩) (fun x1 μ1 H locs q1 hW => ?_)
  refine lv_aload_n hx hb dL_law_819 rfl (lv_at hl 1 rfl) ?_
  refine m_aI hW (m_runV (As := []) (rest := [.int x1]) hx hb hml hown hts hW (81) (c_X12_sparks l D cy b (m_gl LX.length μ1 MU0) z_81_35 ) mi_X12_sparks k_L_99 rfl rfl rfl hl.1 rfl (Nat.le_of_ble_eq_true rfl) dL_law_820 ⟨Nat.le_of_ble_eq_true rfl, Nat.le_of_ble_eq_true rfl⟩ ⟨Nat.le_of_ble_eq_true rfl, Nat.le_of_ble_eq_true rfl⟩) (fun x2 μ2 H locs q2 hW => ?_)
  refine lv_icmp_eq (tgt := 861) hx hb dL_law_823 (by decide) (fun c3 => ?_) (fun c => absurd (q1.trans q2.symm) c)
  exact law_end hx hb hr hml hown hts hlocks hX hbl hbA hbz hW hl
set_option maxHeartbeats 4000000 in
set_option maxRecDepth 100000 in
theorem law_19 {p : Program} {e : Env} {s : State} {m : MethodId} {below : List Frame} {meth : Method} {c : Code} {l : Launch} {a : Nat} {xs : Nat → Int32} {D : va_G} {cy : Nat → ClassId} {b : Nat} (hx : p.tables.exec = Jvm.exec) (hb : c.code = cL_law) (hr : meth.sig.returnType = ret) (hml : c.maxLocals = 4) (hown : s.vm.findClass RL = some m.cls) (hts : ∀ w ∈ TB, w.before #[Value.ref a] s = true) (hlocks : meth.locks = false) (hX : va_X a 6 xs s s.heap) (hbl : a < s.heap.size) (hbA : ¬ (fun q => b ≤ q) a) (hbz : s.heap.size = b) {H : Heap} {locs : List Loc} (hW : m_W D cy s b LAY MU0 H locs) {ls : Array Slot} (hl : lv_has ls 4 [(3, .int 0), (2, .ref (b + 81)), (1, .ref (b + 0)), (0, .ref a)]) : W p l e room_1 s m #[Value.ref a] below meth c H locs (0 + 1 + 80 + 1 + 47) (0 + 11 + 14956 + 74 + 38526) (lw_Z below #[Value.ref a] s) (F0 m 828 ls []) := by
  refine lv_aload_n hx hb dL_law_828 rfl (lv_at hl 2 rfl) ?_
  refine lv_aload_n hx hb dL_law_829 rfl (lv_at hl 3 rfl) ?_
  refine lv_iload_n hx hb dL_law_830 rfl (lv_at hl 0 rfl) ?_
  refine lv_iconst (v := 1) hx hb dL_law_831 (by decide) ?_
  refine lv_iadd hx hb dL_law_832 ?_
  refine lv_topi (fun x1 ex1 => ?_)
  have ex1 : x1 = 1 := by rw [ex1]; decide
  subst ex1
  refine va_sld hx hb hX hbl hbA hW.2.2.1 (vp_in_iff.mpr ⟨by decide, by decide⟩) dL_law_833 ?_
  refine lv_topi (fun x2 ex2 => ?_)
  have ex2 : x2 = (xs 1) := by rw [ex2]; rfl
  subst ex2
  refine lv_aload_n hx hb dL_law_834 rfl (lv_at hl 3 rfl) ?_
  refine lv_iload_n hx hb dL_law_835 rfl (lv_at hl 0 rfl) ?_
  refine lv_iconst (v := 2) hx hb dL_law_836 (by decide) ?_
  refine lv_iadd hx hb dL_law_837 ?_
  refine lv_topi (fun x3 ex3 => ?_)
  have ex3 : x3 = 2 := by rw [ex3]; decide
  subst ex3
  refine va_sld hx hb hX hbl hbA hW.2.2.1 (vp_in_iff.mpr ⟨by decide, by decide⟩) dL_law_838 ?_
  refine lv_topi (fun x4 ex4 => ?_)
  have ex4 : x4 = (xs 2) := by rw [ex4]; rfl
  subst ex4
  refine m_aIx hW (m_runV (As := [.int (xs 1), .int (xs 2)]) (rest := []) hx hb hml hown hts (m_pre (l1 := LX) (l2 := LM) hW) (0) (c_X11_lost l D cy b MU0 z_25_1 (xs 1) (xs 2)) mi_X11_lost k_L_100 rfl rfl rfl hl.1 rfl (Nat.le_of_ble_eq_true rfl) dL_law_839 ⟨Nat.le_of_ble_eq_true rfl, Nat.le_of_ble_eq_true rfl⟩ ⟨Nat.le_of_ble_eq_true rfl, Nat.le_of_ble_eq_true rfl⟩) (fun x5 μ5 H locs q5 hW => ?_)
  refine lv_aload_n hx hb dL_law_842 rfl (lv_at hl 1 rfl) ?_
  refine lv_aload_n hx hb dL_law_843 rfl (lv_at hl 3 rfl) ?_
  refine lv_iload_n hx hb dL_law_844 rfl (lv_at hl 0 rfl) ?_
  refine lv_iconst (v := 1) hx hb dL_law_845 (by decide) ?_
  refine lv_iadd hx hb dL_law_846 ?_
  refine lv_topi (fun x6 ex6 => ?_)
  have ex6 : x6 = 1 := by rw [ex6]; decide
  subst ex6
  refine va_sld hx hb hX hbl hbA hW.2.2.1 (vp_in_iff.mpr ⟨by decide, by decide⟩) dL_law_847 ?_
  refine lv_topi (fun x7 ex7 => ?_)
  have ex7 : x7 = (xs 1) := by rw [ex7]; rfl
  subst ex7
  refine lv_aload_n hx hb dL_law_848 rfl (lv_at hl 3 rfl) ?_
  refine lv_iload_n hx hb dL_law_849 rfl (lv_at hl 0 rfl) ?_
  refine lv_iconst (v := 2) hx hb dL_law_850 (by decide) ?_
  refine lv_iadd hx hb dL_law_851 ?_
  refine lv_topi (fun x8 ex8 => ?_)
  have ex8 : x8 = 2 := by rw [ex8]; decide
  subst ex8
  refine va_sld hx hb hX hbl hbA hW.2.2.1 (vp_in_iff.mpr ⟨by decide, by decide⟩) dL_law_852 ?_
  refine lv_topi (fun x9 ex9 => ?_)
  have ex9 : x9 = (xs 2) := by rw [ex9]; rfl
  subst ex9
  refine m_aI hW (m_runV (As := [.int (xs 1), .int (xs 2)]) (rest := [.int x5]) hx hb hml hown hts hW (81) (c_X12_lost l D cy b (m_gl LX.length μ5 MU0) z_81_73 (xs 1) (xs 2)) mi_X12_lost k_L_103 rfl rfl rfl hl.1 rfl (Nat.le_of_ble_eq_true rfl) dL_law_853 ⟨Nat.le_of_ble_eq_true rfl, Nat.le_of_ble_eq_true rfl⟩ ⟨Nat.le_of_ble_eq_true rfl, Nat.le_of_ble_eq_true rfl⟩) (fun x10 μ10 H locs q10 hW => ?_)
  refine lv_icmp_eq (tgt := 861) hx hb dL_law_856 (by decide) (fun c11 => ?_) (fun c => absurd (q5.trans q10.symm) c)
  exact law_end hx hb hr hml hown hts hlocks hX hbl hbA hbz hW hl
set_option maxHeartbeats 4000000 in
set_option maxRecDepth 100000 in
theorem law_go {p : Program} {e : Env} {s : State} {m : MethodId} {below : List Frame} {meth : Method} {c : Code} {l : Launch} {a : Nat} {xs : Nat → Int32} {D : va_G} {cy : Nat → ClassId} {b : Nat} (hx : p.tables.exec = Jvm.exec) (hb : c.code = cL_law) (hr : meth.sig.returnType = ret) (hml : c.maxLocals = 4) (hown : s.vm.findClass RL = some m.cls) (hts : ∀ w ∈ TB, w.before #[Value.ref a] s = true) (hlocks : meth.locks = false) (hbl : a < s.heap.size) (hbA : ¬ (fun q => b ≤ q) a) (hbz : s.heap.size = b) {H : Heap} {locs : List Loc} {L : Nat} (hL : L ≤ 6) (hX : va_X a L xs s s.heap) (hW : m_W D cy s b LAY MU0 H locs) {ls : Array Slot} (hl : lv_has ls 4 [(2, .ref (b + 81)), (1, .ref (b + 0)), (0, .ref a)]) : W p l e room_1 s m #[Value.ref a] below meth c H locs (0 + 1 + 80 + 1 + 47) (0 + 11 + 14956 + 74 + 38526) (lw_Z below #[Value.ref a] s) (F0 m 16 ls []) := by
  refine lv_iconst (v := 0) hx hb dL_law_16 (by decide) ?_
  refine lv_istore_n (lv' := [(3, .int 0), (2, .ref (b + 81)), (1, .ref (b + 0)), (0, .ref a)]) hx hb dL_law_17 rfl hl (by decide) rfl (fun ls hl => ?_)
  refine lv_iload_n hx hb dL_law_18 rfl (lv_at hl 0 rfl) ?_
  refine lv_aload_n hx hb dL_law_19 rfl (lv_at hl 3 rfl) ?_
  refine va_slen hx hb hX hbl hbA hW.2.2.1 dL_law_20 ?_
  refine lv_bipush (v := 6) hx hb dL_law_21 (by decide) ?_
  refine lv_isub hx hb dL_law_23 ?_
  refine lv_topi (fun x1 ex1 => ?_)
  refine lv_icmp_gt (tgt := 867) hx hb dL_law_24 (by decide) (fun c2 => ?_) (fun c2 => ?_)
  · refine lv_iconst (v := 1) hx hb dL_law_867 (by decide) ?_
    refine va_forget (fun q hq => by rw [hbz]; exact hW.2.2.1.2.2 q hq) ?_
    refine W.widen (k := 600000) (n := 7302250) (Nat.le_of_ble_eq_true rfl) (Nat.le_of_ble_eq_true rfl) ?_
    exact lw_ret hx hb hr hlocks dL_law_868
  · have hL6 : L = 6 := m_L6 hL ex1 c2
    subst hL6
    refine lv_aload_n hx hb dL_law_27 rfl (lv_at hl 3 rfl) ?_
    refine lv_iload_n hx hb dL_law_28 rfl (lv_at hl 0 rfl) ?_
    refine va_sld hx hb hX hbl hbA hW.2.2.1 (vp_in_iff.mpr ⟨by decide, by decide⟩) dL_law_29 ?_
    refine lv_topi (fun x3 ex3 => ?_)
    have ex3 : x3 = (xs 0) := by rw [ex3]; rfl
    subst ex3
    refine lv_bipush (v := 31) hx hb dL_law_30 (by decide) ?_
    refine lv_iand hx hb dL_law_32 ?_
    refine lv_topi (fun x4 ex4 => ?_)
    by_cases c5 : x4.toInt < 0 ∨ 19 < x4.toInt
    · refine lv_tableOut (tgt := 861) hx hb dL_law_33 c5 (by decide) ?_
      exact law_end hx hb hr hml hown hts hlocks hX hbl hbA hbz hW hl
    · have q5 : x4.toInt = 0 ∨ x4.toInt = 1 ∨ x4.toInt = 2 ∨ x4.toInt = 3 ∨ x4.toInt = 4 ∨ x4.toInt = 5 ∨ x4.toInt = 6 ∨ x4.toInt = 7 ∨ x4.toInt = 8 ∨ x4.toInt = 9 ∨ x4.toInt = 10 ∨ x4.toInt = 11 ∨ x4.toInt = 12 ∨ x4.toInt = 13 ∨ x4.toInt = 14 ∨ x4.toInt = 15 ∨ x4.toInt = 16 ∨ x4.toInt = 17 ∨ x4.toInt = 18 ∨ x4.toInt = 19 := by omega
      rcases q5 with q5 | q5 | q5 | q5 | q5 | q5 | q5 | q5 | q5 | q5 | q5 | q5 | q5 | q5 | q5 | q5 | q5 | q5 | q5 | q5
      · refine lv_tableIn (off := 95) (tgt := 128) hx hb dL_law_33 (fun z => c5 (Or.inl z)) (fun z => c5 (Or.inr z)) (by rw [q5]; rfl) (by decide) ?_
        exact law_0 hx hb hr hml hown hts hlocks hX hbl hbA hbz hW hl
      · refine lv_tableIn (off := 158) (tgt := 191) hx hb dL_law_33 (fun z => c5 (Or.inl z)) (fun z => c5 (Or.inr z)) (by rw [q5]; rfl) (by decide) ?_
        exact law_1 hx hb hr hml hown hts hlocks hX hbl hbA hbz hW hl
      · refine lv_tableIn (off := 211) (tgt := 244) hx hb dL_law_33 (fun z => c5 (Or.inl z)) (fun z => c5 (Or.inr z)) (by rw [q5]; rfl) (by decide) ?_
        exact law_2 hx hb hr hml hown hts hlocks hX hbl hbA hbz hW hl
      · refine lv_tableIn (off := 260) (tgt := 293) hx hb dL_law_33 (fun z => c5 (Or.inl z)) (fun z => c5 (Or.inr z)) (by rw [q5]; rfl) (by decide) ?_
        exact law_3 hx hb hr hml hown hts hlocks hX hbl hbA hbz hW hl
      · refine lv_tableIn (off := 283) (tgt := 316) hx hb dL_law_33 (fun z => c5 (Or.inl z)) (fun z => c5 (Or.inr z)) (by rw [q5]; rfl) (by decide) ?_
        exact law_4 hx hb hr hml hown hts hlocks hX hbl hbA hbz hW hl
      · refine lv_tableIn (off := 346) (tgt := 379) hx hb dL_law_33 (fun z => c5 (Or.inl z)) (fun z => c5 (Or.inr z)) (by rw [q5]; rfl) (by decide) ?_
        exact law_5 hx hb hr hml hown hts hlocks hX hbl hbA hbz hW hl
      · refine lv_tableIn (off := 369) (tgt := 402) hx hb dL_law_33 (fun z => c5 (Or.inl z)) (fun z => c5 (Or.inr z)) (by rw [q5]; rfl) (by decide) ?_
        exact law_6 hx hb hr hml hown hts hlocks hX hbl hbA hbz hW hl
      · refine lv_tableIn (off := 392) (tgt := 425) hx hb dL_law_33 (fun z => c5 (Or.inl z)) (fun z => c5 (Or.inr z)) (by rw [q5]; rfl) (by decide) ?_
        exact law_7 hx hb hr hml hown hts hlocks hX hbl hbA hbz hW hl
      · refine lv_tableIn (off := 415) (tgt := 448) hx hb dL_law_33 (fun z => c5 (Or.inl z)) (fun z => c5 (Or.inr z)) (by rw [q5]; rfl) (by decide) ?_
        exact law_8 hx hb hr hml hown hts hlocks hX hbl hbA hbz hW hl
      · refine lv_tableIn (off := 438) (tgt := 471) hx hb dL_law_33 (fun z => c5 (Or.inl z)) (fun z => c5 (Or.inr z)) (by rw [q5]; rfl) (by decide) ?_
        exact law_9 hx hb hr hml hown hts hlocks hX hbl hbA hbz hW hl
      · refine lv_tableIn (off := 481) (tgt := 514) hx hb dL_law_33 (fun z => c5 (Or.inl z)) (fun z => c5 (Or.inr z)) (by rw [q5]; rfl) (by decide) ?_
        exact law_10 hx hb hr hml hown hts hlocks hX hbl hbA hbz hW hl
      · refine lv_tableIn (off := 504) (tgt := 537) hx hb dL_law_33 (fun z => c5 (Or.inl z)) (fun z => c5 (Or.inr z)) (by rw [q5]; rfl) (by decide) ?_
        exact law_11 hx hb hr hml hown hts hlocks hX hbl hbA hbz hW hl
      · refine lv_tableIn (off := 528) (tgt := 561) hx hb dL_law_33 (fun z => c5 (Or.inl z)) (fun z => c5 (Or.inr z)) (by rw [q5]; rfl) (by decide) ?_
        exact law_12 hx hb hr hml hown hts hlocks hX hbl hbA hbz hW hl
      · refine lv_tableIn (off := 561) (tgt := 594) hx hb dL_law_33 (fun z => c5 (Or.inl z)) (fun z => c5 (Or.inr z)) (by rw [q5]; rfl) (by decide) ?_
        exact law_13 hx hb hr hml hown hts hlocks hX hbl hbA hbz hW hl
      · refine lv_tableIn (off := 594) (tgt := 627) hx hb dL_law_33 (fun z => c5 (Or.inl z)) (fun z => c5 (Or.inr z)) (by rw [q5]; rfl) (by decide) ?_
        exact law_14 hx hb hr hml hown hts hlocks hX hbl hbA hbz hW hl
      · refine lv_tableIn (off := 637) (tgt := 670) hx hb dL_law_33 (fun z => c5 (Or.inl z)) (fun z => c5 (Or.inr z)) (by rw [q5]; rfl) (by decide) ?_
        exact law_15 hx hb hr hml hown hts hlocks hX hbl hbA hbz hW hl
      · refine lv_tableIn (off := 670) (tgt := 703) hx hb dL_law_33 (fun z => c5 (Or.inl z)) (fun z => c5 (Or.inr z)) (by rw [q5]; rfl) (by decide) ?_
        exact law_16 hx hb hr hml hown hts hlocks hX hbl hbA hbz hW hl
      · refine lv_tableIn (off := 739) (tgt := 772) hx hb dL_law_33 (fun z => c5 (Or.inl z)) (fun z => c5 (Or.inr z)) (by rw [q5]; rfl) (by decide) ?_
        exact law_17 hx hb hr hml hown hts hlocks hX hbl hbA hbz hW hl
      · refine lv_tableIn (off := 782) (tgt := 815) hx hb dL_law_33 (fun z => c5 (Or.inl z)) (fun z => c5 (Or.inr z)) (by rw [q5]; rfl) (by decide) ?_
        exact law_18 hx hb hr hml hown hts hlocks hX hbl hbA hbz hW hl
      · refine lv_tableIn (off := 795) (tgt := 828) hx hb dL_law_33 (fun z => c5 (Or.inl z)) (fun z => c5 (Or.inr z)) (by rw [q5]; rfl) (by decide) ?_
        exact law_19 hx hb hr hml hown hts hlocks hX hbl hbA hbz hW hl
