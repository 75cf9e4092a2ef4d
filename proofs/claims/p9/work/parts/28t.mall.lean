theorem a_stP {K L V : Nat → Int} {i : Nat} {sl : List Bool} (h : 9 ≤ K i ∧ K i ≤ 14) : a_step K L V i sl = a_b (a_plain K L V i) (a_close K L sl) := if_pos h
theorem a_stA {K L V : Nat → Int} {i : Nat} {sl : List Bool} (h : K i = 15) : a_step K L V i sl = (if 4 ≤ sl.length then .inl (3, L i) else a_b (a_again K L V i) (fun j => .inr (j, true :: sl))) := by
  unfold a_step
  rw [if_neg (by omega), if_pos h]
theorem a_stI {K L V : Nat → Int} {i : Nat} {sl : List Bool} (h : K i = 16) : a_step K L V i sl = (if 4 ≤ sl.length then .inl (3, L i) else a_b (a_if K L i) (fun j => .inr (j, false :: sl))) := by
  unfold a_step
  rw [if_neg (by omega), if_neg (by omega), if_pos h]
theorem a_stC {K L V : Nat → Int} {i : Nat} {sl t : List Bool} (h : K i = 18) (hs : sl = true :: t) : a_step K L V i sl = a_close K L t (i + 1) := by
  subst hs
  unfold a_step
  rw [if_neg (by omega), if_neg (by omega), if_neg (by omega)]
  show (if K i = 18 then _ else _) = _
  rw [if_pos h]
theorem a_st0 {K L V : Nat → Int} {i : Nat} {sl : List Bool} (h : ¬ (9 ≤ K i ∧ K i ≤ 16)) (hs : K i = 18 → ∀ t, sl ≠ true :: t) : a_step K L V i sl = .inl (1, L i) := by
  unfold a_step
  rw [if_neg (by omega), if_neg (by omega), if_neg (by omega)]
  cases sl with
  | nil => rfl
  | cons b t =>
    cases b with
    | false => rfl
    | true =>
      show (if K i = 18 then _ else _) = _
      rw [if_neg (fun q => hs q t rfl)]
theorem a_all_fin {K L V : Nat → Int} {m i : Nat} {sl : List Bool} (hm : 1 ≤ m) (h : K i = 1) (hs : sl = []) : a_all K L V m i sl = none := by
  obtain ⟨k, rfl⟩ : ∃ k, m = k + 1 := ⟨m - 1, by omega⟩
  show (if K i = 1 ∧ sl = [] then _ else _) = _
  rw [if_pos ⟨h, hs⟩]
theorem a_all_err {K L V : Nat → Int} {m i : Nat} {sl : List Bool} {e : Int × Int} (hm : 1 ≤ m) (h : ¬ (K i = 1 ∧ sl = [])) (hs : a_step K L V i sl = .inl e) : a_all K L V m i sl = some e := by
  obtain ⟨k, rfl⟩ : ∃ k, m = k + 1 := ⟨m - 1, by omega⟩
  show (if K i = 1 ∧ sl = [] then _ else _) = _
  rw [if_neg h, hs]
theorem a_all_go {K L V : Nat → Int} {m i j : Nat} {sl t : List Bool} (hm : 1 ≤ m) (h : ¬ (K i = 1 ∧ sl = [])) (hs : a_step K L V i sl = .inr (j, t)) : a_all K L V m i sl = a_all K L V (m - 1) j t := by
  obtain ⟨k, rfl⟩ : ∃ k, m = k + 1 := ⟨m - 1, by omega⟩
  show (if K i = 1 ∧ sl = [] then _ else _) = _
  rw [if_neg h, hs]
  rfl
theorem a_pop_nf : ∀ (sl t : List Bool), a_pop sl ≠ false :: t
  | [], _ => by intro h; cases h
  | true :: sl, _ => by intro h; cases h
  | false :: sl, t => a_pop_nf sl t
set_option maxHeartbeats 4000000 in
set_option maxRecDepth 100000 in
theorem L_X12_readAll_g_29 {p : Program} {l : Launch} {e : Env} {s : State} {m : MethodId} {args : Array Value} {below : List Frame} {meth : Method} {c : Code} {D : va_G} {cy : Nat → ClassId} {b : Nat} (hx : p.tables.exec = Jvm.exec) (hb : c.code = cX12_readAll) (hr : meth.sig.returnType = ((some .int))) (hml : c.maxLocals = 2) (hown : s.vm.findClass RX12 = some m.cls) (hts : ∀ w ∈ TB, w.before args s = true) (hlocks : meth.locks = false) (S : Nat → Bool) (μ0 : mM) (hS24 : S 24 = true) (hS25 : S 25 = true) (hS33 : S 33 = true) (hS34 : S 34 = true) (hS35 : S 35 = true) (hS36 : S 36 = true) (hS41 : S 41 = true) (t : Int32) (h_tt : 0 ≤ t.toInt ∧ t.toInt ≤ 400) (fT : Nat → Int32) : ∀ (f : Nat), ∀ (y1 : Int32) (av2 : Int32) (fv2 : Int32) (tk2 : Int32) (vv2 : Int32) (uv2 : Int32) (ov2 : Int32) (gj : Nat) (gm : Nat) (gs : List Bool) (hy : 0 ≤ y1.toInt ∧ y1.toInt ≤ 1 ∧ 0 ≤ av2.toInt ∧ av2.toInt ≤ 400 ∧ 0 ≤ fv2.toInt ∧ fv2.toInt ≤ 400 ∧ 0 ≤ tk2.toInt ∧ tk2.toInt ≤ 4 ∧ -1 ≤ vv2.toInt ∧ vv2.toInt ≤ 99999 ∧ 0 ≤ uv2.toInt ∧ uv2.toInt ≤ 400 ∧ 0 ≤ ov2.toInt ∧ ov2.toInt ≤ 400 ∧ uv2.toInt ≤ fv2.toInt ∧ fv2.toInt ≤ av2.toInt ∧ (tk2.toInt = 0 ∨ fv2.toInt + 1 ≤ av2.toInt) ∧ ov2.toInt ≤ fv2.toInt ∧ 401 ≤ gm + fv2.toInt) (hf : 400 - fv2.toInt < (f : Int)) (μ : mM) (hI : IY S μ0 μ) (h_av2 : μ.1 81 36 = av2) (h_fv2 : μ.1 81 37 = fv2) (h_tk2 : μ.1 81 38 = tk2) (h_vv2 : μ.1 81 39 = vv2) (h_uv2 : μ.1 81 51 = uv2) (h_ov2 : μ.1 111 8 = ov2) (hps : m_PS μ) (hgp : m_GP μ) (htp : μ.1 81 35 = t) (hfT : μ.1 106 = fT) (hRW : m_RW μ) (hms : m_MS μ fT t.toNatClampNeg gj) (hfm : m_FM μ gs) (hdue : y1.toInt = 1 ↔ ∃ t, gs = false :: t) (hall : a_all (t_K fT t.toNatClampNeg) (t_L fT t.toNatClampNeg) (t_V fT t.toNatClampNeg) gm gj gs = a_all (t_K fT t.toNatClampNeg) (t_L fT t.toNatClampNeg) (t_V fT t.toNatClampNeg) 401 0 []) (H : Heap) (locs : List Loc), m_WA (m_A b LAY) D cy s b LAY μ H locs → ∀ ls : Array Slot, lv_has ls 2 [(0, .ref (b + 81)), (1, .int y1)] → W p l e (m_R 6 0 0) s m args below meth c H locs 0 0 (MQ below (m_Qi D cy b LAY (fun r ν => IY S μ0 ν ∧ (m_GP ν ∧ ((r = -1 ∧ ∃ e, a_all (t_K fT t.toNatClampNeg) (t_L fT t.toNatClampNeg) (t_V fT t.toNatClampNeg) 401 0 [] = some e ∧ m_FT ν e) ∨ (r = 0 ∧ a_all (t_K fT t.toNatClampNeg) (t_L fT t.toNatClampNeg) (t_V fT t.toNatClampNeg) 401 0 [] = none ∧ m_WD ν))))) args s 0 0 (m_A b LAY)) (F0 m 29 ls []) := by
  intro f
  induction f with
  | zero => intro y1 av2 fv2 tk2 vv2 uv2 ov2 gj gm gs hy hf; exfalso; omega
  | succ f ih =>
    intro y1 av2 fv2 tk2 vv2 uv2 ov2 gj gm gs hy hf μ hI h_av2 h_fv2 h_tk2 h_vv2 h_uv2 h_ov2 hps hgp htp hfT hRW hms hfm hdue hall H locs hW ls hl
    have hkk : m_TQ ((t_K fT t.toNatClampNeg) gj) (m_VV fT t.toNatClampNeg gj) tk2 vv2 := by have z := hms.2.2; rw [h_tk2, h_vv2] at z; exact z
    obtain ⟨nv0, hnv0⟩ : ∃ z, μ.1 81 53 = z := ⟨_, rfl⟩
    have bnv0 : 0 ≤ nv0.toInt ∧ nv0.toInt ≤ 4 := by rw [← hnv0]; exact hI.1 _ _ _ _ rfl
    have hlen := hfm.len hnv0 (by omega)
    refine lv_aload_n hx hb dX12_readAll_29 rfl (lv_at hl 0 rfl) ?_
    refine m_geti hx hb hts hown hW (81) 38 rfl rfl cw_12 rfl (by decide) k_X12_254 dX12_readAll_30 ?_
    refine lv_topi (fun x1 ex1 => ?_)
    have ex1 : x1 = tk2 := by rw [ex1]; exact h_tk2
    have ex1 := ex1.symm
    subst ex1
    refine lv_if_ne (tgt := 47) hx hb dX12_readAll_33 (by decide) (fun c2 => ?_) (fun c2 => ?_)
    · have i2 := m_c6 (rfl : tk2.toInt = _) (by decide : (0 : Int32).toInt = 0) c2
      refine lv_iload_n hx hb dX12_readAll_47 rfl (lv_at hl 1 rfl) ?_
      refine lv_if_ne (tgt := 81) hx hb dX12_readAll_48 (by decide) (fun c3 => ?_) (fun c3 => ?_)
      · have i3 := m_c6 (rfl : y1.toInt = _) (by decide : (0 : Int32).toInt = 0) c3
        have hnt : t_K fT t.toNatClampNeg gj = 18 → ∀ tl, gs ≠ true :: tl := fun z tl ht => by obtain ⟨t2, ht2⟩ := hdue.mp (by omega); rw [ht2] at ht; cases ht
        refine lv_aload_n hx hb dX12_readAll_81 rfl (lv_at hl 0 rfl) ?_
        refine m_geti hx hb hts hown hW (81) 38 rfl rfl cw_12 rfl (by decide) k_X12_254 dX12_readAll_82 ?_
        refine lv_topi (fun x4 ex4 => ?_)
        have ex4 : x4 = tk2 := by rw [ex4]; exact h_tk2
        have ex4 := ex4.symm
        subst ex4
        refine lv_iconst (v := 2) hx hb dX12_readAll_85 (by decide) ?_
        refine lv_icmp_eq (tgt := 95) hx hb dX12_readAll_86 (by decide) (fun c5 => ?_) (fun c5 => ?_)
        · have i5 := m_c5 (rfl : tk2.toInt = _) (by decide : (2 : Int32).toInt = 2) c5
          refine lv_aload_n hx hb dX12_readAll_95 rfl (lv_at hl 0 rfl) ?_
          refine m_geti hx hb hts hown hW (81) 39 rfl rfl cw_12 rfl (by decide) k_X12_257 dX12_readAll_96 ?_
          refine lv_topi (fun x6 ex6 => ?_)
          have ex6 : x6 = vv2 := by rw [ex6]; exact h_vv2
          have ex6 := ex6.symm
          subst ex6
          refine lv_bipush (v := 9) hx hb dX12_readAll_99 (by decide) ?_
          refine lv_icmp_ne (tgt := 119) hx hb dX12_readAll_101 (by decide) (fun c7 => ?_) (fun c7 => ?_)
          · have i7 := m_c6 (rfl : vv2.toInt = _) (by decide : (9 : Int32).toInt = 9) c7
            refine lv_aload_n hx hb dX12_readAll_119 rfl (lv_at hl 0 rfl) ?_
            refine m_geti hx hb hts hown hW (81) 39 rfl rfl cw_12 rfl (by decide) k_X12_257 dX12_readAll_120 ?_
            refine lv_topi (fun x8 ex8 => ?_)
            have ex8 : x8 = vv2 := by rw [ex8]; exact h_vv2
            have ex8 := ex8.symm
            subst ex8
            refine lv_bipush (v := 6) hx hb dX12_readAll_123 (by decide) ?_
            refine lv_icmp_ne (tgt := 143) hx hb dX12_readAll_125 (by decide) (fun c9 => ?_) (fun c9 => ?_)
            · have i9 := m_c6 (rfl : vv2.toInt = _) (by decide : (6 : Int32).toInt = 6) c9
              refine lv_aload_n hx hb dX12_readAll_143 rfl (lv_at hl 0 rfl) ?_
              refine m_geti hx hb hts hown hW (81) 39 rfl rfl cw_12 rfl (by decide) k_X12_257 dX12_readAll_144 ?_
              refine lv_topi (fun x10 ex10 => ?_)
              have ex10 : x10 = vv2 := by rw [ex10]; exact h_vv2
              have ex10 := ex10.symm
              subst ex10
              refine lv_iconst (v := 5) hx hb dX12_readAll_147 (by decide) ?_
              refine lv_icmp_gt (tgt := 174) hx hb dX12_readAll_148 (by decide) (fun c11 => ?_) (fun c11 => ?_)
              · have i11 := m_c1 (by decide : (5 : Int32).toInt = 5) (rfl : vv2.toInt = _) c11
                refine lv_aload_n hx hb dX12_readAll_174 rfl (lv_at hl 0 rfl) ?_
                refine lv_iconst (v := 1) hx hb dX12_readAll_175 (by decide) ?_
                have l_1 : (1 : Int32).toInt = 1 := by decide
                refine m_aI hW (m_runV (As := [.int 1]) (rest := []) hx hb hml hown hts hW (81) (g_X12_fails_f l D cy b (fun g => [36].contains g) μ rfl 1 μ (IY.rf hI.1)) mi_X12_fails k_X12_282 rfl rfl rfl hl.1 rfl (Nat.le_of_ble_eq_true rfl) dX12_readAll_176 ⟨Nat.le_of_ble_eq_true rfl, Nat.le_of_ble_eq_true rfl⟩ ⟨Nat.le_of_ble_eq_true rfl, Nat.le_of_ble_eq_true rfl⟩) (fun x12 μ12 H locs q12 hW => ?_)
                obtain ⟨hJ12, q12⟩ := q12
                have hI := hI.tr hJ12 (m_subL (by simp [hS36]))
                have hfT : μ12.1 106 = fT := by rw [show μ12.1 106 = μ.1 106 from funext fun j => hJ12.2.1 106 j rfl]; exact hfT
                have hRW : m_RW μ12 := hRW.fr hJ12 rfl
                have hms : m_MS μ12 fT t.toNatClampNeg gj := hms.fr hJ12 rfl
                have hps : m_PS μ12 := hps.fr hJ12 rfl rfl rfl
                have hgp : m_GP μ12 := hgp.fr hJ12 rfl rfl
                have hfm : m_FM μ12 gs := hfm.fr hJ12 rfl
                obtain ⟨rfl, q121, q122⟩ := q12
                have hft : m_FT μ12 (1, (t_L fT t.toNatClampNeg) gj) := ⟨by rw [q121]; rfl, by rw [q122]; exact hms.2.1⟩
                exact m_iret hx hb hr hlocks hW rfl (⟨hI, ⟨hgp, Or.inl ⟨rfl, (1, (t_L fT t.toNatClampNeg) gj), (by rw [← hall]; exact a_all_err (by have := m_ckI (x := fv2) (by omega); omega) (fun z => by first | (have hz := hkk.t; omega) | (have z2 := z.2; rw [z2] at hlen; simp only [List.length_nil] at hlen; omega) | (obtain ⟨t, ht⟩ := hdue.mp (by omega); rw [ht] at z; exact absurd z.2 (by simp))) (a_st0 (by have hz := hkk.all; omega) (fun z t ht => hnt z t ht))), hft⟩⟩⟩) dX12_readAll_179
              · have i11 := m_c2 (by decide : (5 : Int32).toInt = 5) (rfl : vv2.toInt = _) c11
                refine lv_aload_n hx hb dX12_readAll_151 rfl (lv_at hl 0 rfl) ?_
                refine m_aI hW (m_runV (As := []) (rest := []) hx hb hml hown hts hW (81) (g_X12_readPlain_g l D cy b (fun g => [24, 25, 33, 34, 35, 36, 41].contains g) μ rfl rfl rfl rfl rfl rfl rfl av2 fv2 tk2 vv2 uv2 ov2 nv0 (by omega) t (by omega) fT gj gs μ (IY.rf hI.1) (by exact h_av2) (by exact h_fv2) (by exact h_tk2) (by exact h_vv2) (by exact h_uv2) (by exact h_ov2) (by exact hnv0) (by exact htp) hfT hRW hms hps hgp hfm) mi_X12_readPlain k_X12_326 rfl rfl rfl hl.1 rfl (Nat.le_of_ble_eq_true rfl) dX12_readAll_152 ⟨Nat.le_of_ble_eq_true rfl, Nat.le_of_ble_eq_true rfl⟩ ⟨Nat.le_of_ble_eq_true rfl, Nat.le_of_ble_eq_true rfl⟩) (fun x13 μ13 H locs q13 hW => ?_)
                obtain ⟨hJ13, q13⟩ := q13
                have hI := hI.tr hJ13 (m_subL (by simp [hS24, hS25, hS33, hS34, hS35, hS36, hS41]))
                have hfT : μ13.1 106 = fT := by rw [show μ13.1 106 = μ.1 106 from funext fun j => hJ13.2.1 106 j rfl]; exact hfT
                have hRW : m_RW μ13 := hRW.fr hJ13 rfl
                obtain ⟨hgp, q13⟩ := q13
                rcases q13 with ⟨rfl, e14, ha14, hft⟩ | ⟨rfl, q13, hps, j14, ha14, hms, hfm⟩
                · refine lv_iconst (v := (-1)) hx hb dX12_readAll_155 (by decide) ?_
                  refine lv_icmp_eq (tgt := 167) hx hb dX12_readAll_156 (by decide) (fun _ => ?_) (fun c => False.elim (by revert c; decide))
                  refine lv_iconst (v := (-1)) hx hb dX12_readAll_167 (by decide) ?_
                  exact m_iret hx hb hr hlocks hW rfl (⟨hI, ⟨hgp, Or.inl ⟨rfl, e14, (by rw [← hall]; exact a_all_err (by have := m_ckI (x := fv2) (by omega); omega) (fun z => by first | (have hz := hkk.t; omega) | (have z2 := z.2; rw [z2] at hlen; simp only [List.length_nil] at hlen; omega) | (obtain ⟨t, ht⟩ := hdue.mp (by omega); rw [ht] at z; exact absurd z.2 (by simp))) (by rw [a_stP (by have hz := hkk.all; omega)]; simp only [a_b, ha14])), hft⟩⟩⟩) dX12_readAll_168
                · obtain ⟨x15, hx15⟩ : ∃ z, μ13.1 81 51 = z := ⟨_, rfl⟩
                  have bx15 : 0 ≤ x15.toInt ∧ x15.toInt ≤ 400 := by rw [← hx15]; exact hI.1 _ _ _ _ rfl
                  rw [show μ13.1 81 51 = x15 from by exact hx15] at q13
                  obtain ⟨x16, hx16⟩ : ∃ z, μ13.1 81 37 = z := ⟨_, rfl⟩
                  have bx16 : 0 ≤ x16.toInt ∧ x16.toInt ≤ 400 := by rw [← hx16]; exact hI.1 _ _ _ _ rfl
                  rw [show μ13.1 81 37 = x16 from by exact hx16] at q13
                  obtain ⟨x17, hx17⟩ : ∃ z, μ13.1 81 36 = z := ⟨_, rfl⟩
                  have bx17 : 0 ≤ x17.toInt ∧ x17.toInt ≤ 400 := by rw [← hx17]; exact hI.1 _ _ _ _ rfl
                  rw [show μ13.1 81 36 = x17 from by exact hx17] at q13
                  obtain ⟨x18, hx18⟩ : ∃ z, μ13.1 81 38 = z := ⟨_, rfl⟩
                  have bx18 : 0 ≤ x18.toInt ∧ x18.toInt ≤ 4 := by rw [← hx18]; exact hI.1 _ _ _ _ rfl
                  rw [show μ13.1 81 38 = x18 from by exact hx18] at q13
                  obtain ⟨x19, hx19⟩ : ∃ z, μ13.1 111 8 = z := ⟨_, rfl⟩
                  have bx19 : 0 ≤ x19.toInt ∧ x19.toInt ≤ 400 := by rw [← hx19]; exact hI.1 _ _ _ _ rfl
                  rw [show μ13.1 111 8 = x19 from by exact hx19] at q13
                  obtain ⟨x21, hx21⟩ : ∃ z, μ13.1 81 39 = z := ⟨_, rfl⟩
                  have bx21 : -1 ≤ x21.toInt ∧ x21.toInt ≤ 99999 := by rw [← hx21]; exact hI.1 _ _ _ _ rfl
                  have hk20 : m_TQ ((t_K fT t.toNatClampNeg) j14) (m_VV fT t.toNatClampNeg j14) x18 x21 := by
                    have z := hms.2.2
                    rw [show μ13.1 81 38 = x18 from by exact hx18, show μ13.1 81 39 = x21 from by exact hx21] at z
                    exact z
                  refine lv_iconst (v := (-1)) hx hb dX12_readAll_155 (by decide) ?_
                  refine lv_icmp_eq (tgt := 167) hx hb dX12_readAll_156 (by decide) (fun c => False.elim (by revert c; decide)) (fun _ => ?_)
                  refine lv_aload_n hx hb dX12_readAll_159 rfl (lv_at hl 0 rfl) ?_
                  refine m_aI hW (m_runV (As := []) (rest := []) hx hb hml hown hts hW (81) (g_X12_ends_g l D cy b (fun g => [24, 25, 33, 34, 35, 36, 41].contains g) μ13 rfl rfl rfl rfl rfl rfl rfl x17 x16 x18 x21 x15 x19 (by omega) t (by omega) fT j14 gs μ13 (IY.rf hI.1) (by exact hx17) (by exact hx16) (by exact hx18) (by exact hx21) (by exact hx15) (by exact hx19) (by exact ((hJ13.2.1 81 35 rfl).trans (by exact htp))) hfT hRW hms hps hgp hfm) mi_X12_ends k_X12_317 rfl rfl rfl hl.1 rfl (Nat.le_of_ble_eq_true rfl) dX12_readAll_160 ⟨Nat.le_of_ble_eq_true rfl, Nat.le_of_ble_eq_true rfl⟩ ⟨Nat.le_of_ble_eq_true rfl, Nat.le_of_ble_eq_true rfl⟩) (fun x22 μ22 H locs q22 hW => ?_)
                  obtain ⟨hJ22, q22⟩ := q22
                  have hI := hI.tr hJ22 (m_subL (by simp [hS24, hS25, hS33, hS34, hS35, hS36, hS41]))
                  have hfT : μ22.1 106 = fT := by rw [show μ22.1 106 = μ13.1 106 from funext fun j => hJ22.2.1 106 j rfl]; exact hfT
                  have hRW : m_RW μ22 := hRW.fr hJ22 rfl
                  obtain ⟨hgp, q22⟩ := q22
                  rcases q22 with ⟨rfl, e23, ha23, hft⟩ | ⟨rfl, q22, hps, j23, ha23, hms, hfm⟩
                  · refine lv_iconst (v := (-1)) hx hb dX12_readAll_163 (by decide) ?_
                    refine lv_icmp_ne (tgt := 169) hx hb dX12_readAll_164 (by decide) (fun c => False.elim (by revert c; decide)) (fun _ => ?_)
                    refine lv_iconst (v := (-1)) hx hb dX12_readAll_167 (by decide) ?_
                    exact m_iret hx hb hr hlocks hW rfl (⟨hI, ⟨hgp, Or.inl ⟨rfl, e23, (by rw [← hall]; exact a_all_err (by have := m_ckI (x := fv2) (by omega); omega) (fun z => by first | (have hz := hkk.t; omega) | (have z2 := z.2; rw [z2] at hlen; simp only [List.length_nil] at hlen; omega) | (obtain ⟨t, ht⟩ := hdue.mp (by omega); rw [ht] at z; exact absurd z.2 (by simp))) (by rw [a_stP (by have hz := hkk.all; omega)]; simp only [a_b, ha14, ha23])), hft⟩⟩⟩) dX12_readAll_168
                  · obtain ⟨x24, hx24⟩ : ∃ z, μ22.1 81 51 = z := ⟨_, rfl⟩
                    have bx24 : 0 ≤ x24.toInt ∧ x24.toInt ≤ 400 := by rw [← hx24]; exact hI.1 _ _ _ _ rfl
                    rw [show μ22.1 81 51 = x24 from by exact hx24] at q22
                    obtain ⟨x25, hx25⟩ : ∃ z, μ22.1 81 37 = z := ⟨_, rfl⟩
                    have bx25 : 0 ≤ x25.toInt ∧ x25.toInt ≤ 400 := by rw [← hx25]; exact hI.1 _ _ _ _ rfl
                    rw [show μ22.1 81 37 = x25 from by exact hx25] at q22
                    obtain ⟨x26, hx26⟩ : ∃ z, μ22.1 81 36 = z := ⟨_, rfl⟩
                    have bx26 : 0 ≤ x26.toInt ∧ x26.toInt ≤ 400 := by rw [← hx26]; exact hI.1 _ _ _ _ rfl
                    rw [show μ22.1 81 36 = x26 from by exact hx26] at q22
                    obtain ⟨x27, hx27⟩ : ∃ z, μ22.1 81 38 = z := ⟨_, rfl⟩
                    have bx27 : 0 ≤ x27.toInt ∧ x27.toInt ≤ 4 := by rw [← hx27]; exact hI.1 _ _ _ _ rfl
                    rw [show μ22.1 81 38 = x27 from by exact hx27] at q22
                    obtain ⟨x28, hx28⟩ : ∃ z, μ22.1 111 8 = z := ⟨_, rfl⟩
                    have bx28 : 0 ≤ x28.toInt ∧ x28.toInt ≤ 400 := by rw [← hx28]; exact hI.1 _ _ _ _ rfl
                    rw [show μ22.1 111 8 = x28 from by exact hx28] at q22
                    obtain ⟨x30, hx30⟩ : ∃ z, μ22.1 81 39 = z := ⟨_, rfl⟩
                    have bx30 : -1 ≤ x30.toInt ∧ x30.toInt ≤ 99999 := by rw [← hx30]; exact hI.1 _ _ _ _ rfl
                    have hk29 : m_TQ ((t_K fT t.toNatClampNeg) j23) (m_VV fT t.toNatClampNeg j23) x27 x30 := by
                      have z := hms.2.2
                      rw [show μ22.1 81 38 = x27 from by exact hx27, show μ22.1 81 39 = x30 from by exact hx30] at z
                      exact z
                    refine lv_iconst (v := (-1)) hx hb dX12_readAll_163 (by decide) ?_
                    refine lv_icmp_ne (tgt := 169) hx hb dX12_readAll_164 (by decide) (fun _ => ?_) (fun c => False.elim (by revert c; decide))
                    refine lv_iconst (v := 0) hx hb dX12_readAll_169 (by decide) ?_
                    refine lv_istore_n (lv' := [(1, .int 0), (0, .ref (b + 81))]) hx hb dX12_readAll_170 rfl hl (by decide) rfl (fun ls hl => ?_)
                    refine lv_goto (tgt := 29) hx hb dX12_readAll_171 (by decide) ?_
                    have l_0 : (0 : Int32).toInt = 0 := by decide
                    exact ih 0 x26 x25 x27 x30 x24 x28 j23 (gm - 1) (a_pop gs) (by omega) (by omega) μ22 hI (by exact hx26) (by exact hx25) (by exact hx27) (by exact hx30) (by exact hx24) (by exact hx28) (hps) (hgp) (by exact ((hJ22.2.1 81 35 rfl).trans (by exact ((hJ13.2.1 81 35 rfl).trans (by exact htp))))) (hfT) (hRW) (hms) (hfm) (⟨fun z => absurd z (by decide), fun ⟨t, ht⟩ => absurd ht (a_pop_nf _ t)⟩) (((a_all_go (by have := m_ckI (x := fv2) (by omega); omega) (fun z => by first | (have hz := hkk.t; omega) | (have z2 := z.2; rw [z2] at hlen; simp only [List.length_nil] at hlen; omega) | (obtain ⟨t, ht⟩ := hdue.mp (by omega); rw [ht] at z; exact absurd z.2 (by simp))) (by rw [a_stP (by have hz := hkk.all; omega)]; simp only [a_b, ha14, ha23])).symm.trans hall)) _ _ hW ls (lv_sub hl [1, 0] rfl)
            · have i9 := m_c5 (rfl : vv2.toInt = _) (by decide : (6 : Int32).toInt = 6) c9
              refine lv_aload_n hx hb dX12_readAll_128 rfl (lv_at hl 0 rfl) ?_
              refine m_aI hW (m_runV (As := []) (rest := []) hx hb hml hown hts hW (81) (g_X12_readAgain_g l D cy b (fun g => [24, 25, 33, 34, 35, 36, 41].contains g) μ rfl rfl rfl rfl rfl rfl rfl av2 fv2 tk2 vv2 uv2 ov2 nv0 (by omega) t (by omega) fT gj gs μ (IY.rf hI.1) (by exact h_av2) (by exact h_fv2) (by exact h_tk2) (by exact h_vv2) (by exact h_uv2) (by exact h_ov2) (by exact hnv0) (by exact htp) hfT hRW hms hps hgp hfm) mi_X12_readAgain k_X12_323 rfl rfl rfl hl.1 rfl (Nat.le_of_ble_eq_true rfl) dX12_readAll_129 ⟨Nat.le_of_ble_eq_true rfl, Nat.le_of_ble_eq_true rfl⟩ ⟨Nat.le_of_ble_eq_true rfl, Nat.le_of_ble_eq_true rfl⟩) (fun x31 μ31 H locs q31 hW => ?_)
              obtain ⟨hJ31, q31⟩ := q31
              have hI := hI.tr hJ31 (m_subL (by simp [hS24, hS25, hS33, hS34, hS35, hS36, hS41]))
              have hfT : μ31.1 106 = fT := by rw [show μ31.1 106 = μ.1 106 from funext fun j => hJ31.2.1 106 j rfl]; exact hfT
              have hRW : m_RW μ31 := hRW.fr hJ31 rfl
              obtain ⟨hgp, q31⟩ := q31
              rcases q31 with ⟨rfl, e32, ha32, hft⟩ | ⟨rfl, q31, hps, j32, ha32, hms, hfm⟩
              · refine lv_iconst (v := (-1)) hx hb dX12_readAll_132 (by decide) ?_
                refine lv_icmp_ne (tgt := 138) hx hb dX12_readAll_133 (by decide) (fun c => False.elim (by revert c; decide)) (fun _ => ?_)
                refine lv_iconst (v := (-1)) hx hb dX12_readAll_136 (by decide) ?_
                exact m_iret hx hb hr hlocks hW rfl (⟨hI, ⟨hgp, Or.inl ⟨rfl, e32, (by rw [← hall]; exact a_all_err (by have := m_ckI (x := fv2) (by omega); omega) (fun z => by first | (have hz := hkk.t; omega) | (have z2 := z.2; rw [z2] at hlen; simp only [List.length_nil] at hlen; omega) | (obtain ⟨t, ht⟩ := hdue.mp (by omega); rw [ht] at z; exact absurd z.2 (by simp))) ((a_stA (by have hz := hkk.all; omega)).trans ha32)), hft⟩⟩⟩) dX12_readAll_137
              · obtain ⟨x33, hx33⟩ : ∃ z, μ31.1 81 51 = z := ⟨_, rfl⟩
                have bx33 : 0 ≤ x33.toInt ∧ x33.toInt ≤ 400 := by rw [← hx33]; exact hI.1 _ _ _ _ rfl
                rw [show μ31.1 81 51 = x33 from by exact hx33] at q31
                obtain ⟨x34, hx34⟩ : ∃ z, μ31.1 81 37 = z := ⟨_, rfl⟩
                have bx34 : 0 ≤ x34.toInt ∧ x34.toInt ≤ 400 := by rw [← hx34]; exact hI.1 _ _ _ _ rfl
                rw [show μ31.1 81 37 = x34 from by exact hx34] at q31
                obtain ⟨x35, hx35⟩ : ∃ z, μ31.1 81 36 = z := ⟨_, rfl⟩
                have bx35 : 0 ≤ x35.toInt ∧ x35.toInt ≤ 400 := by rw [← hx35]; exact hI.1 _ _ _ _ rfl
                rw [show μ31.1 81 36 = x35 from by exact hx35] at q31
                obtain ⟨x36, hx36⟩ : ∃ z, μ31.1 81 38 = z := ⟨_, rfl⟩
                have bx36 : 0 ≤ x36.toInt ∧ x36.toInt ≤ 4 := by rw [← hx36]; exact hI.1 _ _ _ _ rfl
                rw [show μ31.1 81 38 = x36 from by exact hx36] at q31
                obtain ⟨x37, hx37⟩ : ∃ z, μ31.1 111 8 = z := ⟨_, rfl⟩
                have bx37 : 0 ≤ x37.toInt ∧ x37.toInt ≤ 400 := by rw [← hx37]; exact hI.1 _ _ _ _ rfl
                rw [show μ31.1 111 8 = x37 from by exact hx37] at q31
                obtain ⟨x39, hx39⟩ : ∃ z, μ31.1 81 39 = z := ⟨_, rfl⟩
                have bx39 : -1 ≤ x39.toInt ∧ x39.toInt ≤ 99999 := by rw [← hx39]; exact hI.1 _ _ _ _ rfl
                have hk38 : m_TQ ((t_K fT t.toNatClampNeg) j32) (m_VV fT t.toNatClampNeg j32) x36 x39 := by
                  have z := hms.2.2
                  rw [show μ31.1 81 38 = x36 from by exact hx36, show μ31.1 81 39 = x39 from by exact hx39] at z
                  exact z
                refine lv_iconst (v := (-1)) hx hb dX12_readAll_132 (by decide) ?_
                refine lv_icmp_ne (tgt := 138) hx hb dX12_readAll_133 (by decide) (fun _ => ?_) (fun c => False.elim (by revert c; decide))
                refine lv_iconst (v := 0) hx hb dX12_readAll_138 (by decide) ?_
                refine lv_istore_n (lv' := [(1, .int 0), (0, .ref (b + 81))]) hx hb dX12_readAll_139 rfl hl (by decide) rfl (fun ls hl => ?_)
                refine lv_goto (tgt := 29) hx hb dX12_readAll_140 (by decide) ?_
                have l_0 : (0 : Int32).toInt = 0 := by decide
                exact ih 0 x35 x34 x36 x39 x33 x37 j32 (gm - 1) (true :: gs) (by omega) (by omega) μ31 hI (by exact hx35) (by exact hx34) (by exact hx36) (by exact hx39) (by exact hx33) (by exact hx37) (hps) (hgp) (by exact ((hJ31.2.1 81 35 rfl).trans (by exact htp))) (hfT) (hRW) (hms) (hfm) (⟨fun z => absurd z (by decide), fun ⟨t, ht⟩ => absurd ht (by simp)⟩) (((a_all_go (by have := m_ckI (x := fv2) (by omega); omega) (fun z => by first | (have hz := hkk.t; omega) | (have z2 := z.2; rw [z2] at hlen; simp only [List.length_nil] at hlen; omega) | (obtain ⟨t, ht⟩ := hdue.mp (by omega); rw [ht] at z; exact absurd z.2 (by simp))) ((a_stA (by have hz := hkk.all; omega)).trans ha32)).symm.trans hall)) _ _ hW ls (lv_sub hl [1, 0] rfl)
          · have i7 := m_c5 (rfl : vv2.toInt = _) (by decide : (9 : Int32).toInt = 9) c7
            refine lv_aload_n hx hb dX12_readAll_104 rfl (lv_at hl 0 rfl) ?_
            refine m_aI hW (m_runV (As := []) (rest := []) hx hb hml hown hts hW (81) (g_X12_readIf_g l D cy b (fun g => [24, 25, 33, 34, 35, 36, 41].contains g) μ rfl rfl rfl rfl rfl rfl rfl av2 fv2 tk2 vv2 uv2 ov2 nv0 (by omega) t (by omega) fT gj gs μ (IY.rf hI.1) (by exact h_av2) (by exact h_fv2) (by exact h_tk2) (by exact h_vv2) (by exact h_uv2) (by exact h_ov2) (by exact hnv0) (by exact htp) hfT hRW hms hps hgp hfm) mi_X12_readIf k_X12_320 rfl rfl rfl hl.1 rfl (Nat.le_of_ble_eq_true rfl) dX12_readAll_105 ⟨Nat.le_of_ble_eq_true rfl, Nat.le_of_ble_eq_true rfl⟩ ⟨Nat.le_of_ble_eq_true rfl, Nat.le_of_ble_eq_true rfl⟩) (fun x40 μ40 H locs q40 hW => ?_)
            obtain ⟨hJ40, q40⟩ := q40
            have hI := hI.tr hJ40 (m_subL (by simp [hS24, hS25, hS33, hS34, hS35, hS36, hS41]))
            have hfT : μ40.1 106 = fT := by rw [show μ40.1 106 = μ.1 106 from funext fun j => hJ40.2.1 106 j rfl]; exact hfT
            have hRW : m_RW μ40 := hRW.fr hJ40 rfl
            obtain ⟨hgp, q40⟩ := q40
            rcases q40 with ⟨rfl, e41, ha41, hft⟩ | ⟨rfl, q40, hps, j41, ha41, hms, hfm⟩
            · refine lv_iconst (v := (-1)) hx hb dX12_readAll_108 (by decide) ?_
              refine lv_icmp_ne (tgt := 114) hx hb dX12_readAll_109 (by decide) (fun c => False.elim (by revert c; decide)) (fun _ => ?_)
              refine lv_iconst (v := (-1)) hx hb dX12_readAll_112 (by decide) ?_
              exact m_iret hx hb hr hlocks hW rfl (⟨hI, ⟨hgp, Or.inl ⟨rfl, e41, (by rw [← hall]; exact a_all_err (by have := m_ckI (x := fv2) (by omega); omega) (fun z => by first | (have hz := hkk.t; omega) | (have z2 := z.2; rw [z2] at hlen; simp only [List.length_nil] at hlen; omega) | (obtain ⟨t, ht⟩ := hdue.mp (by omega); rw [ht] at z; exact absurd z.2 (by simp))) ((a_stI (by have hz := hkk.all; omega)).trans ha41)), hft⟩⟩⟩) dX12_readAll_113
            · obtain ⟨x42, hx42⟩ : ∃ z, μ40.1 81 51 = z := ⟨_, rfl⟩
              have bx42 : 0 ≤ x42.toInt ∧ x42.toInt ≤ 400 := by rw [← hx42]; exact hI.1 _ _ _ _ rfl
              rw [show μ40.1 81 51 = x42 from by exact hx42] at q40
              obtain ⟨x43, hx43⟩ : ∃ z, μ40.1 81 37 = z := ⟨_, rfl⟩
              have bx43 : 0 ≤ x43.toInt ∧ x43.toInt ≤ 400 := by rw [← hx43]; exact hI.1 _ _ _ _ rfl
              rw [show μ40.1 81 37 = x43 from by exact hx43] at q40
              obtain ⟨x44, hx44⟩ : ∃ z, μ40.1 81 36 = z := ⟨_, rfl⟩
              have bx44 : 0 ≤ x44.toInt ∧ x44.toInt ≤ 400 := by rw [← hx44]; exact hI.1 _ _ _ _ rfl
              rw [show μ40.1 81 36 = x44 from by exact hx44] at q40
              obtain ⟨x45, hx45⟩ : ∃ z, μ40.1 81 38 = z := ⟨_, rfl⟩
              have bx45 : 0 ≤ x45.toInt ∧ x45.toInt ≤ 4 := by rw [← hx45]; exact hI.1 _ _ _ _ rfl
              rw [show μ40.1 81 38 = x45 from by exact hx45] at q40
              obtain ⟨x46, hx46⟩ : ∃ z, μ40.1 111 8 = z := ⟨_, rfl⟩
              have bx46 : 0 ≤ x46.toInt ∧ x46.toInt ≤ 400 := by rw [← hx46]; exact hI.1 _ _ _ _ rfl
              rw [show μ40.1 111 8 = x46 from by exact hx46] at q40
              obtain ⟨x48, hx48⟩ : ∃ z, μ40.1 81 39 = z := ⟨_, rfl⟩
              have bx48 : -1 ≤ x48.toInt ∧ x48.toInt ≤ 99999 := by rw [← hx48]; exact hI.1 _ _ _ _ rfl
              have hk47 : m_TQ ((t_K fT t.toNatClampNeg) j41) (m_VV fT t.toNatClampNeg j41) x45 x48 := by
                have z := hms.2.2
                rw [show μ40.1 81 38 = x45 from by exact hx45, show μ40.1 81 39 = x48 from by exact hx48] at z
                exact z
              refine lv_iconst (v := (-1)) hx hb dX12_readAll_108 (by decide) ?_
              refine lv_icmp_ne (tgt := 114) hx hb dX12_readAll_109 (by decide) (fun _ => ?_) (fun c => False.elim (by revert c; decide))
              refine lv_iconst (v := 1) hx hb dX12_readAll_114 (by decide) ?_
              refine lv_istore_n (lv' := [(1, .int 1), (0, .ref (b + 81))]) hx hb dX12_readAll_115 rfl hl (by decide) rfl (fun ls hl => ?_)
              refine lv_goto (tgt := 29) hx hb dX12_readAll_116 (by decide) ?_
              have l_1 : (1 : Int32).toInt = 1 := by decide
              exact ih 1 x44 x43 x45 x48 x42 x46 j41 (gm - 1) (false :: gs) (by omega) (by omega) μ40 hI (by exact hx44) (by exact hx43) (by exact hx45) (by exact hx48) (by exact hx42) (by exact hx46) (hps) (hgp) (by exact ((hJ40.2.1 81 35 rfl).trans (by exact htp))) (hfT) (hRW) (hms) (hfm) (⟨fun _ => ⟨_, rfl⟩, fun _ => rfl⟩) (((a_all_go (by have := m_ckI (x := fv2) (by omega); omega) (fun z => by first | (have hz := hkk.t; omega) | (have z2 := z.2; rw [z2] at hlen; simp only [List.length_nil] at hlen; omega) | (obtain ⟨t, ht⟩ := hdue.mp (by omega); rw [ht] at z; exact absurd z.2 (by simp))) ((a_stI (by have hz := hkk.all; omega)).trans ha41)).symm.trans hall)) _ _ hW ls (lv_sub hl [1, 0] rfl)
        · have i5 := m_c6 (rfl : tk2.toInt = _) (by decide : (2 : Int32).toInt = 2) c5
          refine lv_aload_n hx hb dX12_readAll_89 rfl (lv_at hl 0 rfl) ?_
          refine lv_iconst (v := 1) hx hb dX12_readAll_90 (by decide) ?_
          have l_1 : (1 : Int32).toInt = 1 := by decide
          refine m_aI hW (m_runV (As := [.int 1]) (rest := []) hx hb hml hown hts hW (81) (g_X12_fails_f l D cy b (fun g => [36].contains g) μ rfl 1 μ (IY.rf hI.1)) mi_X12_fails k_X12_282 rfl rfl rfl hl.1 rfl (Nat.le_of_ble_eq_true rfl) dX12_readAll_91 ⟨Nat.le_of_ble_eq_true rfl, Nat.le_of_ble_eq_true rfl⟩ ⟨Nat.le_of_ble_eq_true rfl, Nat.le_of_ble_eq_true rfl⟩) (fun x49 μ49 H locs q49 hW => ?_)
          obtain ⟨hJ49, q49⟩ := q49
          have hI := hI.tr hJ49 (m_subL (by simp [hS36]))
          have hfT : μ49.1 106 = fT := by rw [show μ49.1 106 = μ.1 106 from funext fun j => hJ49.2.1 106 j rfl]; exact hfT
          have hRW : m_RW μ49 := hRW.fr hJ49 rfl
          have hms : m_MS μ49 fT t.toNatClampNeg gj := hms.fr hJ49 rfl
          have hps : m_PS μ49 := hps.fr hJ49 rfl rfl rfl
          have hgp : m_GP μ49 := hgp.fr hJ49 rfl rfl
          have hfm : m_FM μ49 gs := hfm.fr hJ49 rfl
          obtain ⟨rfl, q491, q492⟩ := q49
          have hft : m_FT μ49 (1, (t_L fT t.toNatClampNeg) gj) := ⟨by rw [q491]; rfl, by rw [q492]; exact hms.2.1⟩
          exact m_iret hx hb hr hlocks hW rfl (⟨hI, ⟨hgp, Or.inl ⟨rfl, (1, (t_L fT t.toNatClampNeg) gj), (by rw [← hall]; exact a_all_err (by have := m_ckI (x := fv2) (by omega); omega) (fun z => by first | (have hz := hkk.t; omega) | (have z2 := z.2; rw [z2] at hlen; simp only [List.length_nil] at hlen; omega) | (obtain ⟨t, ht⟩ := hdue.mp (by omega); rw [ht] at z; exact absurd z.2 (by simp))) (a_st0 (by have hz := hkk.all; omega) (fun z t ht => hnt z t ht))), hft⟩⟩⟩) dX12_readAll_94
      · have i3 := m_c5 (rfl : y1.toInt = _) (by decide : (0 : Int32).toInt = 0) c3
        refine lv_aload_n hx hb dX12_readAll_51 rfl (lv_at hl 0 rfl) ?_
        refine lv_bipush (v := 8) hx hb dX12_readAll_52 (by decide) ?_
        have l_8 : (8 : Int32).toInt = 8 := by decide
        refine m_aI hW (m_runV (As := [.int 8]) (rest := []) hx hb hml hown hts hW (81) (g_X12_isWord_f l D cy b 8 μ hI.1) mi_X12_isWord k_X12_307 rfl rfl rfl hl.1 rfl (Nat.le_of_ble_eq_true rfl) dX12_readAll_54 ⟨Nat.le_of_ble_eq_true rfl, Nat.le_of_ble_eq_true rfl⟩ ⟨Nat.le_of_ble_eq_true rfl, Nat.le_of_ble_eq_true rfl⟩) (fun x50 μ50 H locs q50 hW => ?_)
        obtain ⟨q50_m, q50⟩ := q50
        subst q50_m
        rw [show μ.1 81 38 = tk2 from by exact h_tk2, show μ.1 81 39 = vv2 from by exact h_vv2] at q50
        rcases q50 with ⟨rfl, q50⟩ | ⟨rfl, q50⟩
        · refine lv_if_eq (tgt := 81) hx hb dX12_readAll_57 (by decide) (fun c => False.elim (by revert c; decide)) (fun _ => ?_)
          refine lv_aload_n hx hb dX12_readAll_60 rfl (lv_at hl 0 rfl) ?_
          refine m_aI hW (m_runV (As := []) (rest := []) hx hb hml hown hts hW (81) (g_X12_isInAgain_f l D cy b nv0 (by omega) μ hI.1 (by exact hnv0)) mi_X12_isInAgain k_X12_310 rfl rfl rfl hl.1 rfl (Nat.le_of_ble_eq_true rfl) dX12_readAll_61 ⟨Nat.le_of_ble_eq_true rfl, Nat.le_of_ble_eq_true rfl⟩ ⟨Nat.le_of_ble_eq_true rfl, Nat.le_of_ble_eq_true rfl⟩) (fun x51 μ51 H locs q51 hW => ?_)
          obtain ⟨q51_m, q51⟩ := q51
          subst q51_m
          rcases q51 with ⟨rfl, q51, hbt⟩ | ⟨rfl, q51⟩
          · refine lv_if_eq (tgt := 81) hx hb dX12_readAll_64 (by decide) (fun c => False.elim (by revert c; decide)) (fun _ => ?_)
            refine lv_aload_n hx hb dX12_readAll_67 rfl (lv_at hl 0 rfl) ?_
            refine m_aV hW (m_runV (As := []) (rest := []) hx hb hml hown hts hW (81) (g_X12_closes_g l D cy b (fun g => [24, 25, 33, 34, 35, 36, 41].contains g) μ rfl rfl rfl rfl rfl rfl rfl av2 fv2 tk2 vv2 uv2 ov2 nv0 (by omega) t (by omega) fT gj gs μ (IY.rf hI.1) (by exact h_av2) (by exact h_fv2) (by exact h_tk2) (by exact h_vv2) (by exact h_uv2) (by exact h_ov2) (by exact hnv0) (by exact htp) hfT hRW hms hps hgp hfm hbt) mi_X12_closes k_X12_314 rfl rfl rfl hl.1 rfl (Nat.le_of_ble_eq_true rfl) dX12_readAll_68 ⟨Nat.le_of_ble_eq_true rfl, Nat.le_of_ble_eq_true rfl⟩ ⟨Nat.le_of_ble_eq_true rfl, Nat.le_of_ble_eq_true rfl⟩) (fun μ52 H locs q52 hW => ?_)
            obtain ⟨hJ52, q52⟩ := q52
            have hI := hI.tr hJ52 (m_subL (by simp [hS24, hS25, hS33, hS34, hS35, hS36, hS41]))
            have hfT : μ52.1 106 = fT := by rw [show μ52.1 106 = μ.1 106 from funext fun j => hJ52.2.1 106 j rfl]; exact hfT
            have hRW : m_RW μ52 := hRW.fr hJ52 rfl
            obtain ⟨hgp, q52, hps, hms, sl53, hs53, hfm⟩ := q52
            obtain ⟨x54, hx54⟩ : ∃ z, μ52.1 81 51 = z := ⟨_, rfl⟩
            have bx54 : 0 ≤ x54.toInt ∧ x54.toInt ≤ 400 := by rw [← hx54]; exact hI.1 _ _ _ _ rfl
            rw [show μ52.1 81 51 = x54 from by exact hx54] at q52
            obtain ⟨x55, hx55⟩ : ∃ z, μ52.1 81 37 = z := ⟨_, rfl⟩
            have bx55 : 0 ≤ x55.toInt ∧ x55.toInt ≤ 400 := by rw [← hx55]; exact hI.1 _ _ _ _ rfl
            rw [show μ52.1 81 37 = x55 from by exact hx55] at q52
            obtain ⟨x56, hx56⟩ : ∃ z, μ52.1 81 36 = z := ⟨_, rfl⟩
            have bx56 : 0 ≤ x56.toInt ∧ x56.toInt ≤ 400 := by rw [← hx56]; exact hI.1 _ _ _ _ rfl
            rw [show μ52.1 81 36 = x56 from by exact hx56] at q52
            obtain ⟨x57, hx57⟩ : ∃ z, μ52.1 81 38 = z := ⟨_, rfl⟩
            have bx57 : 0 ≤ x57.toInt ∧ x57.toInt ≤ 4 := by rw [← hx57]; exact hI.1 _ _ _ _ rfl
            rw [show μ52.1 81 38 = x57 from by exact hx57] at q52
            obtain ⟨x58, hx58⟩ : ∃ z, μ52.1 111 8 = z := ⟨_, rfl⟩
            have bx58 : 0 ≤ x58.toInt ∧ x58.toInt ≤ 400 := by rw [← hx58]; exact hI.1 _ _ _ _ rfl
            rw [show μ52.1 111 8 = x58 from by exact hx58] at q52
            obtain ⟨x60, hx60⟩ : ∃ z, μ52.1 81 39 = z := ⟨_, rfl⟩
            have bx60 : -1 ≤ x60.toInt ∧ x60.toInt ≤ 99999 := by rw [← hx60]; exact hI.1 _ _ _ _ rfl
            have hk59 : m_TQ ((t_K fT t.toNatClampNeg) (gj + 1)) (m_VV fT t.toNatClampNeg (gj + 1)) x57 x60 := by
              have z := hms.2.2
              rw [show μ52.1 81 38 = x57 from by exact hx57, show μ52.1 81 39 = x60 from by exact hx60] at z
              exact z
            refine lv_aload_n hx hb dX12_readAll_71 rfl (lv_at hl 0 rfl) ?_
            refine m_aI hW (m_runV (As := []) (rest := []) hx hb hml hown hts hW (81) (g_X12_ends_g l D cy b (fun g => [24, 25, 33, 34, 35, 36, 41].contains g) μ52 rfl rfl rfl rfl rfl rfl rfl x56 x55 x57 x60 x54 x58 (by omega) t (by omega) fT (gj + 1) sl53 μ52 (IY.rf hI.1) (by exact hx56) (by exact hx55) (by exact hx57) (by exact hx60) (by exact hx54) (by exact hx58) (by exact ((hJ52.2.1 81 35 rfl).trans (by exact htp))) hfT hRW hms hps hgp hfm) mi_X12_ends k_X12_317 rfl rfl rfl hl.1 rfl (Nat.le_of_ble_eq_true rfl) dX12_readAll_72 ⟨Nat.le_of_ble_eq_true rfl, Nat.le_of_ble_eq_true rfl⟩ ⟨Nat.le_of_ble_eq_true rfl, Nat.le_of_ble_eq_true rfl⟩) (fun x61 μ61 H locs q61 hW => ?_)
            obtain ⟨hJ61, q61⟩ := q61
            have hI := hI.tr hJ61 (m_subL (by simp [hS24, hS25, hS33, hS34, hS35, hS36, hS41]))
            have hfT : μ61.1 106 = fT := by rw [show μ61.1 106 = μ52.1 106 from funext fun j => hJ61.2.1 106 j rfl]; exact hfT
            have hRW : m_RW μ61 := hRW.fr hJ61 rfl
            obtain ⟨hgp, q61⟩ := q61
            rcases q61 with ⟨rfl, e62, ha62, hft⟩ | ⟨rfl, q61, hps, j62, ha62, hms, hfm⟩
            · refine lv_iconst (v := (-1)) hx hb dX12_readAll_75 (by decide) ?_
              refine lv_icmp_ne (tgt := 29) hx hb dX12_readAll_76 (by decide) (fun c => False.elim (by revert c; decide)) (fun _ => ?_)
              refine lv_iconst (v := (-1)) hx hb dX12_readAll_79 (by decide) ?_
              exact m_iret hx hb hr hlocks hW rfl (⟨hI, ⟨hgp, Or.inl ⟨rfl, e62, (by rw [← hall]; exact a_all_err (by have := m_ckI (x := fv2) (by omega); omega) (fun z => by first | (have hz := hkk.t; omega) | (have z2 := z.2; rw [z2] at hlen; simp only [List.length_nil] at hlen; omega) | (obtain ⟨t, ht⟩ := hdue.mp (by omega); rw [ht] at z; exact absurd z.2 (by simp))) (by rw [a_stC (by have hz := hkk.all; omega) hs53]; exact ha62)), hft⟩⟩⟩) dX12_readAll_80
            · obtain ⟨x63, hx63⟩ : ∃ z, μ61.1 81 51 = z := ⟨_, rfl⟩
              have bx63 : 0 ≤ x63.toInt ∧ x63.toInt ≤ 400 := by rw [← hx63]; exact hI.1 _ _ _ _ rfl
              rw [show μ61.1 81 51 = x63 from by exact hx63] at q61
              obtain ⟨x64, hx64⟩ : ∃ z, μ61.1 81 37 = z := ⟨_, rfl⟩
              have bx64 : 0 ≤ x64.toInt ∧ x64.toInt ≤ 400 := by rw [← hx64]; exact hI.1 _ _ _ _ rfl
              rw [show μ61.1 81 37 = x64 from by exact hx64] at q61
              obtain ⟨x65, hx65⟩ : ∃ z, μ61.1 81 36 = z := ⟨_, rfl⟩
              have bx65 : 0 ≤ x65.toInt ∧ x65.toInt ≤ 400 := by rw [← hx65]; exact hI.1 _ _ _ _ rfl
              rw [show μ61.1 81 36 = x65 from by exact hx65] at q61
              obtain ⟨x66, hx66⟩ : ∃ z, μ61.1 81 38 = z := ⟨_, rfl⟩
              have bx66 : 0 ≤ x66.toInt ∧ x66.toInt ≤ 4 := by rw [← hx66]; exact hI.1 _ _ _ _ rfl
              rw [show μ61.1 81 38 = x66 from by exact hx66] at q61
              obtain ⟨x67, hx67⟩ : ∃ z, μ61.1 111 8 = z := ⟨_, rfl⟩
              have bx67 : 0 ≤ x67.toInt ∧ x67.toInt ≤ 400 := by rw [← hx67]; exact hI.1 _ _ _ _ rfl
              rw [show μ61.1 111 8 = x67 from by exact hx67] at q61
              obtain ⟨x69, hx69⟩ : ∃ z, μ61.1 81 39 = z := ⟨_, rfl⟩
              have bx69 : -1 ≤ x69.toInt ∧ x69.toInt ≤ 99999 := by rw [← hx69]; exact hI.1 _ _ _ _ rfl
              have hk68 : m_TQ ((t_K fT t.toNatClampNeg) j62) (m_VV fT t.toNatClampNeg j62) x66 x69 := by
                have z := hms.2.2
                rw [show μ61.1 81 38 = x66 from by exact hx66, show μ61.1 81 39 = x69 from by exact hx69] at z
                exact z
              refine lv_iconst (v := (-1)) hx hb dX12_readAll_75 (by decide) ?_
              refine lv_icmp_ne (tgt := 29) hx hb dX12_readAll_76 (by decide) (fun _ => ?_) (fun c => False.elim (by revert c; decide))
              exact ih y1 x65 x64 x66 x69 x63 x67 j62 (gm - 1) (a_pop sl53) (by omega) (by omega) μ61 hI (by exact hx65) (by exact hx64) (by exact hx66) (by exact hx69) (by exact hx63) (by exact hx67) (hps) (hgp) (by exact ((hJ61.2.1 81 35 rfl).trans (by exact ((hJ52.2.1 81 35 rfl).trans (by exact htp))))) (hfT) (hRW) (hms) (hfm) (⟨fun z => absurd z (by omega), fun ⟨t, ht⟩ => absurd ht (a_pop_nf _ t)⟩) (((a_all_go (by have := m_ckI (x := fv2) (by omega); omega) (fun z => by first | (have hz := hkk.t; omega) | (have z2 := z.2; rw [z2] at hlen; simp only [List.length_nil] at hlen; omega) | (obtain ⟨t, ht⟩ := hdue.mp (by omega); rw [ht] at z; exact absurd z.2 (by simp))) (by rw [a_stC (by have hz := hkk.all; omega) hs53]; exact ha62)).symm.trans hall)) _ _ hW ls (lv_sub hl [0, 1] rfl)
          · refine lv_if_eq (tgt := 81) hx hb dX12_readAll_64 (by decide) (fun _ => ?_) (fun c => False.elim (by revert c; decide))
            have hnt : ∀ t, gs ≠ true :: t := fun t ht => by
              rw [ht] at hfm
              have hl2 := hfm.len hnv0 (by omega)
              simp only [List.length_cons] at hl2
              obtain ⟨y_, hy_⟩ : ∃ z : Int32, z = nv0 - 1 := ⟨_, rfl⟩
              have ty_ := m_subI hy_ rfl (by decide : (1 : Int32).toInt = 1) (by omega) (by omega)
              obtain ⟨b2, s2, e2, hb2⟩ := hfm.top (y := y_) hnv0 (by omega) ty_
              cases e2
              have hq := hb2.mp rfl
              rw [show y_.toNatClampNeg = nv0.toNatClampNeg - 1 from by have := m_ckI (x := y_) (by omega); have := m_ckI (x := nv0) (by omega); omega] at hq
              omega
            refine lv_aload_n hx hb dX12_readAll_81 rfl (lv_at hl 0 rfl) ?_
            refine m_geti hx hb hts hown hW (81) 38 rfl rfl cw_12 rfl (by decide) k_X12_254 dX12_readAll_82 ?_
            refine lv_topi (fun x70 ex70 => ?_)
            have ex70 : x70 = tk2 := by rw [ex70]; exact h_tk2
            have ex70 := ex70.symm
            subst ex70
            refine lv_iconst (v := 2) hx hb dX12_readAll_85 (by decide) ?_
            refine lv_icmp_eq (tgt := 95) hx hb dX12_readAll_86 (by decide) (fun c71 => ?_) (fun c71 => ?_)
            · have i71 := m_c5 (rfl : tk2.toInt = _) (by decide : (2 : Int32).toInt = 2) c71
              refine lv_aload_n hx hb dX12_readAll_95 rfl (lv_at hl 0 rfl) ?_
              refine m_geti hx hb hts hown hW (81) 39 rfl rfl cw_12 rfl (by decide) k_X12_257 dX12_readAll_96 ?_
              refine lv_topi (fun x72 ex72 => ?_)
              have ex72 : x72 = vv2 := by rw [ex72]; exact h_vv2
              have ex72 := ex72.symm
              subst ex72
              refine lv_bipush (v := 9) hx hb dX12_readAll_99 (by decide) ?_
              refine lv_icmp_ne (tgt := 119) hx hb dX12_readAll_101 (by decide) (fun c73 => ?_) (fun c73 => ?_)
              · have i73 := m_c6 (rfl : vv2.toInt = _) (by decide : (9 : Int32).toInt = 9) c73
                refine lv_aload_n hx hb dX12_readAll_119 rfl (lv_at hl 0 rfl) ?_
                refine m_geti hx hb hts hown hW (81) 39 rfl rfl cw_12 rfl (by decide) k_X12_257 dX12_readAll_120 ?_
                refine lv_topi (fun x74 ex74 => ?_)
                have ex74 : x74 = vv2 := by rw [ex74]; exact h_vv2
                have ex74 := ex74.symm
                subst ex74
                refine lv_bipush (v := 6) hx hb dX12_readAll_123 (by decide) ?_
                refine lv_icmp_ne (tgt := 143) hx hb dX12_readAll_125 (by decide) (fun c75 => ?_) (fun c75 => ?_)
                · have i75 := m_c6 (rfl : vv2.toInt = _) (by decide : (6 : Int32).toInt = 6) c75
                  refine lv_aload_n hx hb dX12_readAll_143 rfl (lv_at hl 0 rfl) ?_
                  refine m_geti hx hb hts hown hW (81) 39 rfl rfl cw_12 rfl (by decide) k_X12_257 dX12_readAll_144 ?_
                  refine lv_topi (fun x76 ex76 => ?_)
                  have ex76 : x76 = vv2 := by rw [ex76]; exact h_vv2
                  have ex76 := ex76.symm
                  subst ex76
                  refine lv_iconst (v := 5) hx hb dX12_readAll_147 (by decide) ?_
                  refine lv_icmp_gt (tgt := 174) hx hb dX12_readAll_148 (by decide) (fun c77 => ?_) (fun c77 => ?_)
                  · have i77 := m_c1 (by decide : (5 : Int32).toInt = 5) (rfl : vv2.toInt = _) c77
                    refine lv_aload_n hx hb dX12_readAll_174 rfl (lv_at hl 0 rfl) ?_
                    refine lv_iconst (v := 1) hx hb dX12_readAll_175 (by decide) ?_
                    have l_1 : (1 : Int32).toInt = 1 := by decide
                    refine m_aI hW (m_runV (As := [.int 1]) (rest := []) hx hb hml hown hts hW (81) (g_X12_fails_f l D cy b (fun g => [36].contains g) μ rfl 1 μ (IY.rf hI.1)) mi_X12_fails k_X12_282 rfl rfl rfl hl.1 rfl (Nat.le_of_ble_eq_true rfl) dX12_readAll_176 ⟨Nat.le_of_ble_eq_true rfl, Nat.le_of_ble_eq_true rfl⟩ ⟨Nat.le_of_ble_eq_true rfl, Nat.le_of_ble_eq_true rfl⟩) (fun x78 μ78 H locs q78 hW => ?_)
                    obtain ⟨hJ78, q78⟩ := q78
                    have hI := hI.tr hJ78 (m_subL (by simp [hS36]))
                    have hfT : μ78.1 106 = fT := by rw [show μ78.1 106 = μ.1 106 from funext fun j => hJ78.2.1 106 j rfl]; exact hfT
                    have hRW : m_RW μ78 := hRW.fr hJ78 rfl
                    have hms : m_MS μ78 fT t.toNatClampNeg gj := hms.fr hJ78 rfl
                    have hps : m_PS μ78 := hps.fr hJ78 rfl rfl rfl
                    have hgp : m_GP μ78 := hgp.fr hJ78 rfl rfl
                    have hfm : m_FM μ78 gs := hfm.fr hJ78 rfl
                    obtain ⟨rfl, q781, q782⟩ := q78
                    have hft : m_FT μ78 (1, (t_L fT t.toNatClampNeg) gj) := ⟨by rw [q781]; rfl, by rw [q782]; exact hms.2.1⟩
                    exact m_iret hx hb hr hlocks hW rfl (⟨hI, ⟨hgp, Or.inl ⟨rfl, (1, (t_L fT t.toNatClampNeg) gj), (by rw [← hall]; exact a_all_err (by have := m_ckI (x := fv2) (by omega); omega) (fun z => by first | (have hz := hkk.t; omega) | (have z2 := z.2; rw [z2] at hlen; simp only [List.length_nil] at hlen; omega) | (obtain ⟨t, ht⟩ := hdue.mp (by omega); rw [ht] at z; exact absurd z.2 (by simp))) (a_st0 (by have hz := hkk.all; omega) (fun z t ht => hnt t ht))), hft⟩⟩⟩) dX12_readAll_179
                  · have i77 := m_c2 (by decide : (5 : Int32).toInt = 5) (rfl : vv2.toInt = _) c77
                    refine lv_aload_n hx hb dX12_readAll_151 rfl (lv_at hl 0 rfl) ?_
                    refine m_aI hW (m_runV (As := []) (rest := []) hx hb hml hown hts hW (81) (g_X12_readPlain_g l D cy b (fun g => [24, 25, 33, 34, 35, 36, 41].contains g) μ rfl rfl rfl rfl rfl rfl rfl av2 fv2 tk2 vv2 uv2 ov2 nv0 (by omega) t (by omega) fT gj gs μ (IY.rf hI.1) (by exact h_av2) (by exact h_fv2) (by exact h_tk2) (by exact h_vv2) (by exact h_uv2) (by exact h_ov2) (by exact hnv0) (by exact htp) hfT hRW hms hps hgp hfm) mi_X12_readPlain k_X12_326 rfl rfl rfl hl.1 rfl (Nat.le_of_ble_eq_true rfl) dX12_readAll_152 ⟨Nat.le_of_ble_eq_true rfl, Nat.le_of_ble_eq_true rfl⟩ ⟨Nat.le_of_ble_eq_true rfl, Nat.le_of_ble_eq_true rfl⟩) (fun x79 μ79 H locs q79 hW => ?_)
                    obtain ⟨hJ79, q79⟩ := q79
                    have hI := hI.tr hJ79 (m_subL (by simp [hS24, hS25, hS33, hS34, hS35, hS36, hS41]))
                    have hfT : μ79.1 106 = fT := by rw [show μ79.1 106 = μ.1 106 from funext fun j => hJ79.2.1 106 j rfl]; exact hfT
                    have hRW : m_RW μ79 := hRW.fr hJ79 rfl
                    obtain ⟨hgp, q79⟩ := q79
                    rcases q79 with ⟨rfl, e80, ha80, hft⟩ | ⟨rfl, q79, hps, j80, ha80, hms, hfm⟩
                    · refine lv_iconst (v := (-1)) hx hb dX12_readAll_155 (by decide) ?_
                      refine lv_icmp_eq (tgt := 167) hx hb dX12_readAll_156 (by decide) (fun _ => ?_) (fun c => False.elim (by revert c; decide))
                      refine lv_iconst (v := (-1)) hx hb dX12_readAll_167 (by decide) ?_
                      exact m_iret hx hb hr hlocks hW rfl (⟨hI, ⟨hgp, Or.inl ⟨rfl, e80, (by rw [← hall]; exact a_all_err (by have := m_ckI (x := fv2) (by omega); omega) (fun z => by first | (have hz := hkk.t; omega) | (have z2 := z.2; rw [z2] at hlen; simp only [List.length_nil] at hlen; omega) | (obtain ⟨t, ht⟩ := hdue.mp (by omega); rw [ht] at z; exact absurd z.2 (by simp))) (by rw [a_stP (by have hz := hkk.all; omega)]; simp only [a_b, ha80])), hft⟩⟩⟩) dX12_readAll_168
                    · obtain ⟨x81, hx81⟩ : ∃ z, μ79.1 81 51 = z := ⟨_, rfl⟩
                      have bx81 : 0 ≤ x81.toInt ∧ x81.toInt ≤ 400 := by rw [← hx81]; exact hI.1 _ _ _ _ rfl
                      rw [show μ79.1 81 51 = x81 from by exact hx81] at q79
                      obtain ⟨x82, hx82⟩ : ∃ z, μ79.1 81 37 = z := ⟨_, rfl⟩
                      have bx82 : 0 ≤ x82.toInt ∧ x82.toInt ≤ 400 := by rw [← hx82]; exact hI.1 _ _ _ _ rfl
                      rw [show μ79.1 81 37 = x82 from by exact hx82] at q79
                      obtain ⟨x83, hx83⟩ : ∃ z, μ79.1 81 36 = z := ⟨_, rfl⟩
                      have bx83 : 0 ≤ x83.toInt ∧ x83.toInt ≤ 400 := by rw [← hx83]; exact hI.1 _ _ _ _ rfl
                      rw [show μ79.1 81 36 = x83 from by exact hx83] at q79
                      obtain ⟨x84, hx84⟩ : ∃ z, μ79.1 81 38 = z := ⟨_, rfl⟩
                      have bx84 : 0 ≤ x84.toInt ∧ x84.toInt ≤ 4 := by rw [← hx84]; exact hI.1 _ _ _ _ rfl
                      rw [show μ79.1 81 38 = x84 from by exact hx84] at q79
                      obtain ⟨x85, hx85⟩ : ∃ z, μ79.1 111 8 = z := ⟨_, rfl⟩
                      have bx85 : 0 ≤ x85.toInt ∧ x85.toInt ≤ 400 := by rw [← hx85]; exact hI.1 _ _ _ _ rfl
                      rw [show μ79.1 111 8 = x85 from by exact hx85] at q79
                      obtain ⟨x87, hx87⟩ : ∃ z, μ79.1 81 39 = z := ⟨_, rfl⟩
                      have bx87 : -1 ≤ x87.toInt ∧ x87.toInt ≤ 99999 := by rw [← hx87]; exact hI.1 _ _ _ _ rfl
                      have hk86 : m_TQ ((t_K fT t.toNatClampNeg) j80) (m_VV fT t.toNatClampNeg j80) x84 x87 := by
                        have z := hms.2.2
                        rw [show μ79.1 81 38 = x84 from by exact hx84, show μ79.1 81 39 = x87 from by exact hx87] at z
                        exact z
                      refine lv_iconst (v := (-1)) hx hb dX12_readAll_155 (by decide) ?_
                      refine lv_icmp_eq (tgt := 167) hx hb dX12_readAll_156 (by decide) (fun c => False.elim (by revert c; decide)) (fun _ => ?_)
                      refine lv_aload_n hx hb dX12_readAll_159 rfl (lv_at hl 0 rfl) ?_
                      refine m_aI hW (m_runV (As := []) (rest := []) hx hb hml hown hts hW (81) (g_X12_ends_g l D cy b (fun g => [24, 25, 33, 34, 35, 36, 41].contains g) μ79 rfl rfl rfl rfl rfl rfl rfl x83 x82 x84 x87 x81 x85 (by omega) t (by omega) fT j80 gs μ79 (IY.rf hI.1) (by exact hx83) (by exact hx82) (by exact hx84) (by exact hx87) (by exact hx81) (by exact hx85) (by exact ((hJ79.2.1 81 35 rfl).trans (by exact htp))) hfT hRW hms hps hgp hfm) mi_X12_ends k_X12_317 rfl rfl rfl hl.1 rfl (Nat.le_of_ble_eq_true rfl) dX12_readAll_160 ⟨Nat.le_of_ble_eq_true rfl, Nat.le_of_ble_eq_true rfl⟩ ⟨Nat.le_of_ble_eq_true rfl, Nat.le_of_ble_eq_true rfl⟩) (fun x88 μ88 H locs q88 hW => ?_)
                      obtain ⟨hJ88, q88⟩ := q88
                      have hI := hI.tr hJ88 (m_subL (by simp [hS24, hS25, hS33, hS34, hS35, hS36, hS41]))
                      have hfT : μ88.1 106 = fT := by rw [show μ88.1 106 = μ79.1 106 from funext fun j => hJ88.2.1 106 j rfl]; exact hfT
                      have hRW : m_RW μ88 := hRW.fr hJ88 rfl
                      obtain ⟨hgp, q88⟩ := q88
                      rcases q88 with ⟨rfl, e89, ha89, hft⟩ | ⟨rfl, q88, hps, j89, ha89, hms, hfm⟩
                      · refine lv_iconst (v := (-1)) hx hb dX12_readAll_163 (by decide) ?_
                        refine lv_icmp_ne (tgt := 169) hx hb dX12_readAll_164 (by decide) (fun c => False.elim (by revert c; decide)) (fun _ => ?_)
                        refine lv_iconst (v := (-1)) hx hb dX12_readAll_167 (by decide) ?_
                        exact m_iret hx hb hr hlocks hW rfl (⟨hI, ⟨hgp, Or.inl ⟨rfl, e89, (by rw [← hall]; exact a_all_err (by have := m_ckI (x := fv2) (by omega); omega) (fun z => by first | (have hz := hkk.t; omega) | (have z2 := z.2; rw [z2] at hlen; simp only [List.length_nil] at hlen; omega) | (obtain ⟨t, ht⟩ := hdue.mp (by omega); rw [ht] at z; exact absurd z.2 (by simp))) (by rw [a_stP (by have hz := hkk.all; omega)]; simp only [a_b, ha80, ha89])), hft⟩⟩⟩) dX12_readAll_168
                      · obtain ⟨x90, hx90⟩ : ∃ z, μ88.1 81 51 = z := ⟨_, rfl⟩
                        have bx90 : 0 ≤ x90.toInt ∧ x90.toInt ≤ 400 := by rw [← hx90]; exact hI.1 _ _ _ _ rfl
                        rw [show μ88.1 81 51 = x90 from by exact hx90] at q88
                        obtain ⟨x91, hx91⟩ : ∃ z, μ88.1 81 37 = z := ⟨_, rfl⟩
                        have bx91 : 0 ≤ x91.toInt ∧ x91.toInt ≤ 400 := by rw [← hx91]; exact hI.1 _ _ _ _ rfl
                        rw [show μ88.1 81 37 = x91 from by exact hx91] at q88
                        obtain ⟨x92, hx92⟩ : ∃ z, μ88.1 81 36 = z := ⟨_, rfl⟩
                        have bx92 : 0 ≤ x92.toInt ∧ x92.toInt ≤ 400 := by rw [← hx92]; exact hI.1 _ _ _ _ rfl
                        rw [show μ88.1 81 36 = x92 from by exact hx92] at q88
                        obtain ⟨x93, hx93⟩ : ∃ z, μ88.1 81 38 = z := ⟨_, rfl⟩
                        have bx93 : 0 ≤ x93.toInt ∧ x93.toInt ≤ 4 := by rw [← hx93]; exact hI.1 _ _ _ _ rfl
                        rw [show μ88.1 81 38 = x93 from by exact hx93] at q88
                        obtain ⟨x94, hx94⟩ : ∃ z, μ88.1 111 8 = z := ⟨_, rfl⟩
                        have bx94 : 0 ≤ x94.toInt ∧ x94.toInt ≤ 400 := by rw [← hx94]; exact hI.1 _ _ _ _ rfl
                        rw [show μ88.1 111 8 = x94 from by exact hx94] at q88
                        obtain ⟨x96, hx96⟩ : ∃ z, μ88.1 81 39 = z := ⟨_, rfl⟩
                        have bx96 : -1 ≤ x96.toInt ∧ x96.toInt ≤ 99999 := by rw [← hx96]; exact hI.1 _ _ _ _ rfl
                        have hk95 : m_TQ ((t_K fT t.toNatClampNeg) j89) (m_VV fT t.toNatClampNeg j89) x93 x96 := by
                          have z := hms.2.2
                          rw [show μ88.1 81 38 = x93 from by exact hx93, show μ88.1 81 39 = x96 from by exact hx96] at z
                          exact z
                        refine lv_iconst (v := (-1)) hx hb dX12_readAll_163 (by decide) ?_
                        refine lv_icmp_ne (tgt := 169) hx hb dX12_readAll_164 (by decide) (fun _ => ?_) (fun c => False.elim (by revert c; decide))
                        refine lv_iconst (v := 0) hx hb dX12_readAll_169 (by decide) ?_
                        refine lv_istore_n (lv' := [(1, .int 0), (0, .ref (b + 81))]) hx hb dX12_readAll_170 rfl hl (by decide) rfl (fun ls hl => ?_)
                        refine lv_goto (tgt := 29) hx hb dX12_readAll_171 (by decide) ?_
                        have l_0 : (0 : Int32).toInt = 0 := by decide
                        exact ih 0 x92 x91 x93 x96 x90 x94 j89 (gm - 1) (a_pop gs) (by omega) (by omega) μ88 hI (by exact hx92) (by exact hx91) (by exact hx93) (by exact hx96) (by exact hx90) (by exact hx94) (hps) (hgp) (by exact ((hJ88.2.1 81 35 rfl).trans (by exact ((hJ79.2.1 81 35 rfl).trans (by exact htp))))) (hfT) (hRW) (hms) (hfm) (⟨fun z => absurd z (by decide), fun ⟨t, ht⟩ => absurd ht (a_pop_nf _ t)⟩) (((a_all_go (by have := m_ckI (x := fv2) (by omega); omega) (fun z => by first | (have hz := hkk.t; omega) | (have z2 := z.2; rw [z2] at hlen; simp only [List.length_nil] at hlen; omega) | (obtain ⟨t, ht⟩ := hdue.mp (by omega); rw [ht] at z; exact absurd z.2 (by simp))) (by rw [a_stP (by have hz := hkk.all; omega)]; simp only [a_b, ha80, ha89])).symm.trans hall)) _ _ hW ls (lv_sub hl [1, 0] rfl)
                · have i75 := m_c5 (rfl : vv2.toInt = _) (by decide : (6 : Int32).toInt = 6) c75
                  refine lv_aload_n hx hb dX12_readAll_128 rfl (lv_at hl 0 rfl) ?_
                  refine m_aI hW (m_runV (As := []) (rest := []) hx hb hml hown hts hW (81) (g_X12_readAgain_g l D cy b (fun g => [24, 25, 33, 34, 35, 36, 41].contains g) μ rfl rfl rfl rfl rfl rfl rfl av2 fv2 tk2 vv2 uv2 ov2 nv0 (by omega) t (by omega) fT gj gs μ (IY.rf hI.1) (by exact h_av2) (by exact h_fv2) (by exact h_tk2) (by exact h_vv2) (by exact h_uv2) (by exact h_ov2) (by exact hnv0) (by exact htp) hfT hRW hms hps hgp hfm) mi_X12_readAgain k_X12_323 rfl rfl rfl hl.1 rfl (Nat.le_of_ble_eq_true rfl) dX12_readAll_129 ⟨Nat.le_of_ble_eq_true rfl, Nat.le_of_ble_eq_true rfl⟩ ⟨Nat.le_of_ble_eq_true rfl, Nat.le_of_ble_eq_true rfl⟩) (fun x97 μ97 H locs q97 hW => ?_)
                  obtain ⟨hJ97, q97⟩ := q97
                  have hI := hI.tr hJ97 (m_subL (by simp [hS24, hS25, hS33, hS34, hS35, hS36, hS41]))
                  have hfT : μ97.1 106 = fT := by rw [show μ97.1 106 = μ.1 106 from funext fun j => hJ97.2.1 106 j rfl]; exact hfT
                  have hRW : m_RW μ97 := hRW.fr hJ97 rfl
                  obtain ⟨hgp, q97⟩ := q97
                  rcases q97 with ⟨rfl, e98, ha98, hft⟩ | ⟨rfl, q97, hps, j98, ha98, hms, hfm⟩
                  · refine lv_iconst (v := (-1)) hx hb dX12_readAll_132 (by decide) ?_
                    refine lv_icmp_ne (tgt := 138) hx hb dX12_readAll_133 (by decide) (fun c => False.elim (by revert c; decide)) (fun _ => ?_)
                    refine lv_iconst (v := (-1)) hx hb dX12_readAll_136 (by decide) ?_
                    exact m_iret hx hb hr hlocks hW rfl (⟨hI, ⟨hgp, Or.inl ⟨rfl, e98, (by rw [← hall]; exact a_all_err (by have := m_ckI (x := fv2) (by omega); omega) (fun z => by first | (have hz := hkk.t; omega) | (have z2 := z.2; rw [z2] at hlen; simp only [List.length_nil] at hlen; omega) | (obtain ⟨t, ht⟩ := hdue.mp (by omega); rw [ht] at z; exact absurd z.2 (by simp))) ((a_stA (by have hz := hkk.all; omega)).trans ha98)), hft⟩⟩⟩) dX12_readAll_137
                  · obtain ⟨x99, hx99⟩ : ∃ z, μ97.1 81 51 = z := ⟨_, rfl⟩
                    have bx99 : 0 ≤ x99.toInt ∧ x99.toInt ≤ 400 := by rw [← hx99]; exact hI.1 _ _ _ _ rfl
                    rw [show μ97.1 81 51 = x99 from by exact hx99] at q97
                    obtain ⟨x100, hx100⟩ : ∃ z, μ97.1 81 37 = z := ⟨_, rfl⟩
                    have bx100 : 0 ≤ x100.toInt ∧ x100.toInt ≤ 400 := by rw [← hx100]; exact hI.1 _ _ _ _ rfl
                    rw [show μ97.1 81 37 = x100 from by exact hx100] at q97
                    obtain ⟨x101, hx101⟩ : ∃ z, μ97.1 81 36 = z := ⟨_, rfl⟩
                    have bx101 : 0 ≤ x101.toInt ∧ x101.toInt ≤ 400 := by rw [← hx101]; exact hI.1 _ _ _ _ rfl
                    rw [show μ97.1 81 36 = x101 from by exact hx101] at q97
                    obtain ⟨x102, hx102⟩ : ∃ z, μ97.1 81 38 = z := ⟨_, rfl⟩
                    have bx102 : 0 ≤ x102.toInt ∧ x102.toInt ≤ 4 := by rw [← hx102]; exact hI.1 _ _ _ _ rfl
                    rw [show μ97.1 81 38 = x102 from by exact hx102] at q97
                    obtain ⟨x103, hx103⟩ : ∃ z, μ97.1 111 8 = z := ⟨_, rfl⟩
                    have bx103 : 0 ≤ x103.toInt ∧ x103.toInt ≤ 400 := by rw [← hx103]; exact hI.1 _ _ _ _ rfl
                    rw [show μ97.1 111 8 = x103 from by exact hx103] at q97
                    obtain ⟨x105, hx105⟩ : ∃ z, μ97.1 81 39 = z := ⟨_, rfl⟩
                    have bx105 : -1 ≤ x105.toInt ∧ x105.toInt ≤ 99999 := by rw [← hx105]; exact hI.1 _ _ _ _ rfl
                    have hk104 : m_TQ ((t_K fT t.toNatClampNeg) j98) (m_VV fT t.toNatClampNeg j98) x102 x105 := by
                      have z := hms.2.2
                      rw [show μ97.1 81 38 = x102 from by exact hx102, show μ97.1 81 39 = x105 from by exact hx105] at z
                      exact z
                    refine lv_iconst (v := (-1)) hx hb dX12_readAll_132 (by decide) ?_
                    refine lv_icmp_ne (tgt := 138) hx hb dX12_readAll_133 (by decide) (fun _ => ?_) (fun c => False.elim (by revert c; decide))
                    refine lv_iconst (v := 0) hx hb dX12_readAll_138 (by decide) ?_
                    refine lv_istore_n (lv' := [(1, .int 0), (0, .ref (b + 81))]) hx hb dX12_readAll_139 rfl hl (by decide) rfl (fun ls hl => ?_)
                    refine lv_goto (tgt := 29) hx hb dX12_readAll_140 (by decide) ?_
                    have l_0 : (0 : Int32).toInt = 0 := by decide
                    exact ih 0 x101 x100 x102 x105 x99 x103 j98 (gm - 1) (true :: gs) (by omega) (by omega) μ97 hI (by exact hx101) (by exact hx100) (by exact hx102) (by exact hx105) (by exact hx99) (by exact hx103) (hps) (hgp) (by exact ((hJ97.2.1 81 35 rfl).trans (by exact htp))) (hfT) (hRW) (hms) (hfm) (⟨fun z => absurd z (by decide), fun ⟨t, ht⟩ => absurd ht (by simp)⟩) (((a_all_go (by have := m_ckI (x := fv2) (by omega); omega) (fun z => by first | (have hz := hkk.t; omega) | (have z2 := z.2; rw [z2] at hlen; simp only [List.length_nil] at hlen; omega) | (obtain ⟨t, ht⟩ := hdue.mp (by omega); rw [ht] at z; exact absurd z.2 (by simp))) ((a_stA (by have hz := hkk.all; omega)).trans ha98)).symm.trans hall)) _ _ hW ls (lv_sub hl [1, 0] rfl)
              · have i73 := m_c5 (rfl : vv2.toInt = _) (by decide : (9 : Int32).toInt = 9) c73
                refine lv_aload_n hx hb dX12_readAll_104 rfl (lv_at hl 0 rfl) ?_
                refine m_aI hW (m_runV (As := []) (rest := []) hx hb hml hown hts hW (81) (g_X12_readIf_g l D cy b (fun g => [24, 25, 33, 34, 35, 36, 41].contains g) μ rfl rfl rfl rfl rfl rfl rfl av2 fv2 tk2 vv2 uv2 ov2 nv0 (by omega) t (by omega) fT gj gs μ (IY.rf hI.1) (by exact h_av2) (by exact h_fv2) (by exact h_tk2) (by exact h_vv2) (by exact h_uv2) (by exact h_ov2) (by exact hnv0) (by exact htp) hfT hRW hms hps hgp hfm) mi_X12_readIf k_X12_320 rfl rfl rfl hl.1 rfl (Nat.le_of_ble_eq_true rfl) dX12_readAll_105 ⟨Nat.le_of_ble_eq_true rfl, Nat.le_of_ble_eq_true rfl⟩ ⟨Nat.le_of_ble_eq_true rfl, Nat.le_of_ble_eq_true rfl⟩) (fun x106 μ106 H locs q106 hW => ?_)
                obtain ⟨hJ106, q106⟩ := q106
                have hI := hI.tr hJ106 (m_subL (by simp [hS24, hS25, hS33, hS34, hS35, hS36, hS41]))
                have hfT : μ106.1 106 = fT := by rw [show μ106.1 106 = μ.1 106 from funext fun j => hJ106.2.1 106 j rfl]; exact hfT
                have hRW : m_RW μ106 := hRW.fr hJ106 rfl
                obtain ⟨hgp, q106⟩ := q106
                rcases q106 with ⟨rfl, e107, ha107, hft⟩ | ⟨rfl, q106, hps, j107, ha107, hms, hfm⟩
                · refine lv_iconst (v := (-1)) hx hb dX12_readAll_108 (by decide) ?_
                  refine lv_icmp_ne (tgt := 114) hx hb dX12_readAll_109 (by decide) (fun c => False.elim (by revert c; decide)) (fun _ => ?_)
                  refine lv_iconst (v := (-1)) hx hb dX12_readAll_112 (by decide) ?_
                  exact m_iret hx hb hr hlocks hW rfl (⟨hI, ⟨hgp, Or.inl ⟨rfl, e107, (by rw [← hall]; exact a_all_err (by have := m_ckI (x := fv2) (by omega); omega) (fun z => by first | (have hz := hkk.t; omega) | (have z2 := z.2; rw [z2] at hlen; simp only [List.length_nil] at hlen; omega) | (obtain ⟨t, ht⟩ := hdue.mp (by omega); rw [ht] at z; exact absurd z.2 (by simp))) ((a_stI (by have hz := hkk.all; omega)).trans ha107)), hft⟩⟩⟩) dX12_readAll_113
                · obtain ⟨x108, hx108⟩ : ∃ z, μ106.1 81 51 = z := ⟨_, rfl⟩
                  have bx108 : 0 ≤ x108.toInt ∧ x108.toInt ≤ 400 := by rw [← hx108]; exact hI.1 _ _ _ _ rfl
                  rw [show μ106.1 81 51 = x108 from by exact hx108] at q106
                  obtain ⟨x109, hx109⟩ : ∃ z, μ106.1 81 37 = z := ⟨_, rfl⟩
                  have bx109 : 0 ≤ x109.toInt ∧ x109.toInt ≤ 400 := by rw [← hx109]; exact hI.1 _ _ _ _ rfl
                  rw [show μ106.1 81 37 = x109 from by exact hx109] at q106
                  obtain ⟨x110, hx110⟩ : ∃ z, μ106.1 81 36 = z := ⟨_, rfl⟩
                  have bx110 : 0 ≤ x110.toInt ∧ x110.toInt ≤ 400 := by rw [← hx110]; exact hI.1 _ _ _ _ rfl
                  rw [show μ106.1 81 36 = x110 from by exact hx110] at q106
                  obtain ⟨x111, hx111⟩ : ∃ z, μ106.1 81 38 = z := ⟨_, rfl⟩
                  have bx111 : 0 ≤ x111.toInt ∧ x111.toInt ≤ 4 := by rw [← hx111]; exact hI.1 _ _ _ _ rfl
                  rw [show μ106.1 81 38 = x111 from by exact hx111] at q106
                  obtain ⟨x112, hx112⟩ : ∃ z, μ106.1 111 8 = z := ⟨_, rfl⟩
                  have bx112 : 0 ≤ x112.toInt ∧ x112.toInt ≤ 400 := by rw [← hx112]; exact hI.1 _ _ _ _ rfl
                  rw [show μ106.1 111 8 = x112 from by exact hx112] at q106
                  obtain ⟨x114, hx114⟩ : ∃ z, μ106.1 81 39 = z := ⟨_, rfl⟩
                  have bx114 : -1 ≤ x114.toInt ∧ x114.toInt ≤ 99999 := by rw [← hx114]; exact hI.1 _ _ _ _ rfl
                  have hk113 : m_TQ ((t_K fT t.toNatClampNeg) j107) (m_VV fT t.toNatClampNeg j107) x111 x114 := by
                    have z := hms.2.2
                    rw [show μ106.1 81 38 = x111 from by exact hx111, show μ106.1 81 39 = x114 from by exact hx114] at z
                    exact z
                  refine lv_iconst (v := (-1)) hx hb dX12_readAll_108 (by decide) ?_
                  refine lv_icmp_ne (tgt := 114) hx hb dX12_readAll_109 (by decide) (fun _ => ?_) (fun c => False.elim (by revert c; decide))
                  refine lv_iconst (v := 1) hx hb dX12_readAll_114 (by decide) ?_
                  refine lv_istore_n (lv' := [(1, .int 1), (0, .ref (b + 81))]) hx hb dX12_readAll_115 rfl hl (by decide) rfl (fun ls hl => ?_)
                  refine lv_goto (tgt := 29) hx hb dX12_readAll_116 (by decide) ?_
                  have l_1 : (1 : Int32).toInt = 1 := by decide
                  exact ih 1 x110 x109 x111 x114 x108 x112 j107 (gm - 1) (false :: gs) (by omega) (by omega) μ106 hI (by exact hx110) (by exact hx109) (by exact hx111) (by exact hx114) (by exact hx108) (by exact hx112) (hps) (hgp) (by exact ((hJ106.2.1 81 35 rfl).trans (by exact htp))) (hfT) (hRW) (hms) (hfm) (⟨fun _ => ⟨_, rfl⟩, fun _ => rfl⟩) (((a_all_go (by have := m_ckI (x := fv2) (by omega); omega) (fun z => by first | (have hz := hkk.t; omega) | (have z2 := z.2; rw [z2] at hlen; simp only [List.length_nil] at hlen; omega) | (obtain ⟨t, ht⟩ := hdue.mp (by omega); rw [ht] at z; exact absurd z.2 (by simp))) ((a_stI (by have hz := hkk.all; omega)).trans ha107)).symm.trans hall)) _ _ hW ls (lv_sub hl [1, 0] rfl)
            · have i71 := m_c6 (rfl : tk2.toInt = _) (by decide : (2 : Int32).toInt = 2) c71
              refine lv_aload_n hx hb dX12_readAll_89 rfl (lv_at hl 0 rfl) ?_
              refine lv_iconst (v := 1) hx hb dX12_readAll_90 (by decide) ?_
              have l_1 : (1 : Int32).toInt = 1 := by decide
              refine m_aI hW (m_runV (As := [.int 1]) (rest := []) hx hb hml hown hts hW (81) (g_X12_fails_f l D cy b (fun g => [36].contains g) μ rfl 1 μ (IY.rf hI.1)) mi_X12_fails k_X12_282 rfl rfl rfl hl.1 rfl (Nat.le_of_ble_eq_true rfl) dX12_readAll_91 ⟨Nat.le_of_ble_eq_true rfl, Nat.le_of_ble_eq_true rfl⟩ ⟨Nat.le_of_ble_eq_true rfl, Nat.le_of_ble_eq_true rfl⟩) (fun x115 μ115 H locs q115 hW => ?_)
              obtain ⟨hJ115, q115⟩ := q115
              have hI := hI.tr hJ115 (m_subL (by simp [hS36]))
              have hfT : μ115.1 106 = fT := by rw [show μ115.1 106 = μ.1 106 from funext fun j => hJ115.2.1 106 j rfl]; exact hfT
              have hRW : m_RW μ115 := hRW.fr hJ115 rfl
              have hms : m_MS μ115 fT t.toNatClampNeg gj := hms.fr hJ115 rfl
              have hps : m_PS μ115 := hps.fr hJ115 rfl rfl rfl
              have hgp : m_GP μ115 := hgp.fr hJ115 rfl rfl
              have hfm : m_FM μ115 gs := hfm.fr hJ115 rfl
              obtain ⟨rfl, q1151, q1152⟩ := q115
              have hft : m_FT μ115 (1, (t_L fT t.toNatClampNeg) gj) := ⟨by rw [q1151]; rfl, by rw [q1152]; exact hms.2.1⟩
              exact m_iret hx hb hr hlocks hW rfl (⟨hI, ⟨hgp, Or.inl ⟨rfl, (1, (t_L fT t.toNatClampNeg) gj), (by rw [← hall]; exact a_all_err (by have := m_ckI (x := fv2) (by omega); omega) (fun z => by first | (have hz := hkk.t; omega) | (have z2 := z.2; rw [z2] at hlen; simp only [List.length_nil] at hlen; omega) | (obtain ⟨t, ht⟩ := hdue.mp (by omega); rw [ht] at z; exact absurd z.2 (by simp))) (a_st0 (by have hz := hkk.all; omega) (fun z t ht => hnt t ht))), hft⟩⟩⟩) dX12_readAll_94
        · refine lv_if_eq (tgt := 81) hx hb dX12_readAll_57 (by decide) (fun _ => ?_) (fun c => False.elim (by revert c; decide))
          have hnt : t_K fT t.toNatClampNeg gj = 18 → ∀ tl, gs ≠ true :: tl := fun z tl ht => by exfalso; have hz := hkk.all; omega
          refine lv_aload_n hx hb dX12_readAll_81 rfl (lv_at hl 0 rfl) ?_
          refine m_geti hx hb hts hown hW (81) 38 rfl rfl cw_12 rfl (by decide) k_X12_254 dX12_readAll_82 ?_
          refine lv_topi (fun x116 ex116 => ?_)
          have ex116 : x116 = tk2 := by rw [ex116]; exact h_tk2
          have ex116 := ex116.symm
          subst ex116
          refine lv_iconst (v := 2) hx hb dX12_readAll_85 (by decide) ?_
          refine lv_icmp_eq (tgt := 95) hx hb dX12_readAll_86 (by decide) (fun c117 => ?_) (fun c117 => ?_)
          · have i117 := m_c5 (rfl : tk2.toInt = _) (by decide : (2 : Int32).toInt = 2) c117
            refine lv_aload_n hx hb dX12_readAll_95 rfl (lv_at hl 0 rfl) ?_
            refine m_geti hx hb hts hown hW (81) 39 rfl rfl cw_12 rfl (by decide) k_X12_257 dX12_readAll_96 ?_
            refine lv_topi (fun x118 ex118 => ?_)
            have ex118 : x118 = vv2 := by rw [ex118]; exact h_vv2
            have ex118 := ex118.symm
            subst ex118
            refine lv_bipush (v := 9) hx hb dX12_readAll_99 (by decide) ?_
            refine lv_icmp_ne (tgt := 119) hx hb dX12_readAll_101 (by decide) (fun c119 => ?_) (fun c119 => ?_)
            · have i119 := m_c6 (rfl : vv2.toInt = _) (by decide : (9 : Int32).toInt = 9) c119
              refine lv_aload_n hx hb dX12_readAll_119 rfl (lv_at hl 0 rfl) ?_
              refine m_geti hx hb hts hown hW (81) 39 rfl rfl cw_12 rfl (by decide) k_X12_257 dX12_readAll_120 ?_
              refine lv_topi (fun x120 ex120 => ?_)
              have ex120 : x120 = vv2 := by rw [ex120]; exact h_vv2
              have ex120 := ex120.symm
              subst ex120
              refine lv_bipush (v := 6) hx hb dX12_readAll_123 (by decide) ?_
              refine lv_icmp_ne (tgt := 143) hx hb dX12_readAll_125 (by decide) (fun c121 => ?_) (fun c121 => ?_)
              · have i121 := m_c6 (rfl : vv2.toInt = _) (by decide : (6 : Int32).toInt = 6) c121
                refine lv_aload_n hx hb dX12_readAll_143 rfl (lv_at hl 0 rfl) ?_
                refine m_geti hx hb hts hown hW (81) 39 rfl rfl cw_12 rfl (by decide) k_X12_257 dX12_readAll_144 ?_
                refine lv_topi (fun x122 ex122 => ?_)
                have ex122 : x122 = vv2 := by rw [ex122]; exact h_vv2
                have ex122 := ex122.symm
                subst ex122
                refine lv_iconst (v := 5) hx hb dX12_readAll_147 (by decide) ?_
                refine lv_icmp_gt (tgt := 174) hx hb dX12_readAll_148 (by decide) (fun c123 => ?_) (fun c123 => ?_)
                · have i123 := m_c1 (by decide : (5 : Int32).toInt = 5) (rfl : vv2.toInt = _) c123
                  refine lv_aload_n hx hb dX12_readAll_174 rfl (lv_at hl 0 rfl) ?_
                  refine lv_iconst (v := 1) hx hb dX12_readAll_175 (by decide) ?_
                  have l_1 : (1 : Int32).toInt = 1 := by decide
                  refine m_aI hW (m_runV (As := [.int 1]) (rest := []) hx hb hml hown hts hW (81) (g_X12_fails_f l D cy b (fun g => [36].contains g) μ rfl 1 μ (IY.rf hI.1)) mi_X12_fails k_X12_282 rfl rfl rfl hl.1 rfl (Nat.le_of_ble_eq_true rfl) dX12_readAll_176 ⟨Nat.le_of_ble_eq_true rfl, Nat.le_of_ble_eq_true rfl⟩ ⟨Nat.le_of_ble_eq_true rfl, Nat.le_of_ble_eq_true rfl⟩) (fun x124 μ124 H locs q124 hW => ?_)
                  obtain ⟨hJ124, q124⟩ := q124
                  have hI := hI.tr hJ124 (m_subL (by simp [hS36]))
                  have hfT : μ124.1 106 = fT := by rw [show μ124.1 106 = μ.1 106 from funext fun j => hJ124.2.1 106 j rfl]; exact hfT
                  have hRW : m_RW μ124 := hRW.fr hJ124 rfl
                  have hms : m_MS μ124 fT t.toNatClampNeg gj := hms.fr hJ124 rfl
                  have hps : m_PS μ124 := hps.fr hJ124 rfl rfl rfl
                  have hgp : m_GP μ124 := hgp.fr hJ124 rfl rfl
                  have hfm : m_FM μ124 gs := hfm.fr hJ124 rfl
                  obtain ⟨rfl, q1241, q1242⟩ := q124
                  have hft : m_FT μ124 (1, (t_L fT t.toNatClampNeg) gj) := ⟨by rw [q1241]; rfl, by rw [q1242]; exact hms.2.1⟩
                  exact m_iret hx hb hr hlocks hW rfl (⟨hI, ⟨hgp, Or.inl ⟨rfl, (1, (t_L fT t.toNatClampNeg) gj), (by rw [← hall]; exact a_all_err (by have := m_ckI (x := fv2) (by omega); omega) (fun z => by first | (have hz := hkk.t; omega) | (have z2 := z.2; rw [z2] at hlen; simp only [List.length_nil] at hlen; omega) | (obtain ⟨t, ht⟩ := hdue.mp (by omega); rw [ht] at z; exact absurd z.2 (by simp))) (a_st0 (by have hz := hkk.all; omega) (fun z t ht => hnt z t ht))), hft⟩⟩⟩) dX12_readAll_179
                · have i123 := m_c2 (by decide : (5 : Int32).toInt = 5) (rfl : vv2.toInt = _) c123
                  refine lv_aload_n hx hb dX12_readAll_151 rfl (lv_at hl 0 rfl) ?_
                  refine m_aI hW (m_runV (As := []) (rest := []) hx hb hml hown hts hW (81) (g_X12_readPlain_g l D cy b (fun g => [24, 25, 33, 34, 35, 36, 41].contains g) μ rfl rfl rfl rfl rfl rfl rfl av2 fv2 tk2 vv2 uv2 ov2 nv0 (by omega) t (by omega) fT gj gs μ (IY.rf hI.1) (by exact h_av2) (by exact h_fv2) (by exact h_tk2) (by exact h_vv2) (by exact h_uv2) (by exact h_ov2) (by exact hnv0) (by exact htp) hfT hRW hms hps hgp hfm) mi_X12_readPlain k_X12_326 rfl rfl rfl hl.1 rfl (Nat.le_of_ble_eq_true rfl) dX12_readAll_152 ⟨Nat.le_of_ble_eq_true rfl, Nat.le_of_ble_eq_true rfl⟩ ⟨Nat.le_of_ble_eq_true rfl, Nat.le_of_ble_eq_true rfl⟩) (fun x125 μ125 H locs q125 hW => ?_)
                  obtain ⟨hJ125, q125⟩ := q125
                  have hI := hI.tr hJ125 (m_subL (by simp [hS24, hS25, hS33, hS34, hS35, hS36, hS41]))
                  have hfT : μ125.1 106 = fT := by rw [show μ125.1 106 = μ.1 106 from funext fun j => hJ125.2.1 106 j rfl]; exact hfT
                  have hRW : m_RW μ125 := hRW.fr hJ125 rfl
                  obtain ⟨hgp, q125⟩ := q125
                  rcases q125 with ⟨rfl, e126, ha126, hft⟩ | ⟨rfl, q125, hps, j126, ha126, hms, hfm⟩
                  · refine lv_iconst (v := (-1)) hx hb dX12_readAll_155 (by decide) ?_
                    refine lv_icmp_eq (tgt := 167) hx hb dX12_readAll_156 (by decide) (fun _ => ?_) (fun c => False.elim (by revert c; decide))
                    refine lv_iconst (v := (-1)) hx hb dX12_readAll_167 (by decide) ?_
                    exact m_iret hx hb hr hlocks hW rfl (⟨hI, ⟨hgp, Or.inl ⟨rfl, e126, (by rw [← hall]; exact a_all_err (by have := m_ckI (x := fv2) (by omega); omega) (fun z => by first | (have hz := hkk.t; omega) | (have z2 := z.2; rw [z2] at hlen; simp only [List.length_nil] at hlen; omega) | (obtain ⟨t, ht⟩ := hdue.mp (by omega); rw [ht] at z; exact absurd z.2 (by simp))) (by rw [a_stP (by have hz := hkk.all; omega)]; simp only [a_b, ha126])), hft⟩⟩⟩) dX12_readAll_168
                  · obtain ⟨x127, hx127⟩ : ∃ z, μ125.1 81 51 = z := ⟨_, rfl⟩
                    have bx127 : 0 ≤ x127.toInt ∧ x127.toInt ≤ 400 := by rw [← hx127]; exact hI.1 _ _ _ _ rfl
                    rw [show μ125.1 81 51 = x127 from by exact hx127] at q125
                    obtain ⟨x128, hx128⟩ : ∃ z, μ125.1 81 37 = z := ⟨_, rfl⟩
                    have bx128 : 0 ≤ x128.toInt ∧ x128.toInt ≤ 400 := by rw [← hx128]; exact hI.1 _ _ _ _ rfl
                    rw [show μ125.1 81 37 = x128 from by exact hx128] at q125
                    obtain ⟨x129, hx129⟩ : ∃ z, μ125.1 81 36 = z := ⟨_, rfl⟩
                    have bx129 : 0 ≤ x129.toInt ∧ x129.toInt ≤ 400 := by rw [← hx129]; exact hI.1 _ _ _ _ rfl
                    rw [show μ125.1 81 36 = x129 from by exact hx129] at q125
                    obtain ⟨x130, hx130⟩ : ∃ z, μ125.1 81 38 = z := ⟨_, rfl⟩
                    have bx130 : 0 ≤ x130.toInt ∧ x130.toInt ≤ 4 := by rw [← hx130]; exact hI.1 _ _ _ _ rfl
                    rw [show μ125.1 81 38 = x130 from by exact hx130] at q125
                    obtain ⟨x131, hx131⟩ : ∃ z, μ125.1 111 8 = z := ⟨_, rfl⟩
                    have bx131 : 0 ≤ x131.toInt ∧ x131.toInt ≤ 400 := by rw [← hx131]; exact hI.1 _ _ _ _ rfl
                    rw [show μ125.1 111 8 = x131 from by exact hx131] at q125
                    obtain ⟨x133, hx133⟩ : ∃ z, μ125.1 81 39 = z := ⟨_, rfl⟩
                    have bx133 : -1 ≤ x133.toInt ∧ x133.toInt ≤ 99999 := by rw [← hx133]; exact hI.1 _ _ _ _ rfl
                    have hk132 : m_TQ ((t_K fT t.toNatClampNeg) j126) (m_VV fT t.toNatClampNeg j126) x130 x133 := by
                      have z := hms.2.2
                      rw [show μ125.1 81 38 = x130 from by exact hx130, show μ125.1 81 39 = x133 from by exact hx133] at z
                      exact z
                    refine lv_iconst (v := (-1)) hx hb dX12_readAll_155 (by decide) ?_
                    refine lv_icmp_eq (tgt := 167) hx hb dX12_readAll_156 (by decide) (fun c => False.elim (by revert c; decide)) (fun _ => ?_)
                    refine lv_aload_n hx hb dX12_readAll_159 rfl (lv_at hl 0 rfl) ?_
                    refine m_aI hW (m_runV (As := []) (rest := []) hx hb hml hown hts hW (81) (g_X12_ends_g l D cy b (fun g => [24, 25, 33, 34, 35, 36, 41].contains g) μ125 rfl rfl rfl rfl rfl rfl rfl x129 x128 x130 x133 x127 x131 (by omega) t (by omega) fT j126 gs μ125 (IY.rf hI.1) (by exact hx129) (by exact hx128) (by exact hx130) (by exact hx133) (by exact hx127) (by exact hx131) (by exact ((hJ125.2.1 81 35 rfl).trans (by exact htp))) hfT hRW hms hps hgp hfm) mi_X12_ends k_X12_317 rfl rfl rfl hl.1 rfl (Nat.le_of_ble_eq_true rfl) dX12_readAll_160 ⟨Nat.le_of_ble_eq_true rfl, Nat.le_of_ble_eq_true rfl⟩ ⟨Nat.le_of_ble_eq_true rfl, Nat.le_of_ble_eq_true rfl⟩) (fun x134 μ134 H locs q134 hW => ?_)
                    obtain ⟨hJ134, q134⟩ := q134
                    have hI := hI.tr hJ134 (m_subL (by simp [hS24, hS25, hS33, hS34, hS35, hS36, hS41]))
                    have hfT : μ134.1 106 = fT := by rw [show μ134.1 106 = μ125.1 106 from funext fun j => hJ134.2.1 106 j rfl]; exact hfT
                    have hRW : m_RW μ134 := hRW.fr hJ134 rfl
                    obtain ⟨hgp, q134⟩ := q134
                    rcases q134 with ⟨rfl, e135, ha135, hft⟩ | ⟨rfl, q134, hps, j135, ha135, hms, hfm⟩
                    · refine lv_iconst (v := (-1)) hx hb dX12_readAll_163 (by decide) ?_
                      refine lv_icmp_ne (tgt := 169) hx hb dX12_readAll_164 (by decide) (fun c => False.elim (by revert c; decide)) (fun _ => ?_)
                      refine lv_iconst (v := (-1)) hx hb dX12_readAll_167 (by decide) ?_
                      exact m_iret hx hb hr hlocks hW rfl (⟨hI, ⟨hgp, Or.inl ⟨rfl, e135, (by rw [← hall]; exact a_all_err (by have := m_ckI (x := fv2) (by omega); omega) (fun z => by first | (have hz := hkk.t; omega) | (have z2 := z.2; rw [z2] at hlen; simp only [List.length_nil] at hlen; omega) | (obtain ⟨t, ht⟩ := hdue.mp (by omega); rw [ht] at z; exact absurd z.2 (by simp))) (by rw [a_stP (by have hz := hkk.all; omega)]; simp only [a_b, ha126, ha135])), hft⟩⟩⟩) dX12_readAll_168
                    · obtain ⟨x136, hx136⟩ : ∃ z, μ134.1 81 51 = z := ⟨_, rfl⟩
                      have bx136 : 0 ≤ x136.toInt ∧ x136.toInt ≤ 400 := by rw [← hx136]; exact hI.1 _ _ _ _ rfl
                      rw [show μ134.1 81 51 = x136 from by exact hx136] at q134
                      obtain ⟨x137, hx137⟩ : ∃ z, μ134.1 81 37 = z := ⟨_, rfl⟩
                      have bx137 : 0 ≤ x137.toInt ∧ x137.toInt ≤ 400 := by rw [← hx137]; exact hI.1 _ _ _ _ rfl
                      rw [show μ134.1 81 37 = x137 from by exact hx137] at q134
                      obtain ⟨x138, hx138⟩ : ∃ z, μ134.1 81 36 = z := ⟨_, rfl⟩
                      have bx138 : 0 ≤ x138.toInt ∧ x138.toInt ≤ 400 := by rw [← hx138]; exact hI.1 _ _ _ _ rfl
                      rw [show μ134.1 81 36 = x138 from by exact hx138] at q134
                      obtain ⟨x139, hx139⟩ : ∃ z, μ134.1 81 38 = z := ⟨_, rfl⟩
                      have bx139 : 0 ≤ x139.toInt ∧ x139.toInt ≤ 4 := by rw [← hx139]; exact hI.1 _ _ _ _ rfl
                      rw [show μ134.1 81 38 = x139 from by exact hx139] at q134
                      obtain ⟨x140, hx140⟩ : ∃ z, μ134.1 111 8 = z := ⟨_, rfl⟩
                      have bx140 : 0 ≤ x140.toInt ∧ x140.toInt ≤ 400 := by rw [← hx140]; exact hI.1 _ _ _ _ rfl
                      rw [show μ134.1 111 8 = x140 from by exact hx140] at q134
                      obtain ⟨x142, hx142⟩ : ∃ z, μ134.1 81 39 = z := ⟨_, rfl⟩
                      have bx142 : -1 ≤ x142.toInt ∧ x142.toInt ≤ 99999 := by rw [← hx142]; exact hI.1 _ _ _ _ rfl
                      have hk141 : m_TQ ((t_K fT t.toNatClampNeg) j135) (m_VV fT t.toNatClampNeg j135) x139 x142 := by
                        have z := hms.2.2
                        rw [show μ134.1 81 38 = x139 from by exact hx139, show μ134.1 81 39 = x142 from by exact hx142] at z
                        exact z
                      refine lv_iconst (v := (-1)) hx hb dX12_readAll_163 (by decide) ?_
                      refine lv_icmp_ne (tgt := 169) hx hb dX12_readAll_164 (by decide) (fun _ => ?_) (fun c => False.elim (by revert c; decide))
                      refine lv_iconst (v := 0) hx hb dX12_readAll_169 (by decide) ?_
                      refine lv_istore_n (lv' := [(1, .int 0), (0, .ref (b + 81))]) hx hb dX12_readAll_170 rfl hl (by decide) rfl (fun ls hl => ?_)
                      refine lv_goto (tgt := 29) hx hb dX12_readAll_171 (by decide) ?_
                      have l_0 : (0 : Int32).toInt = 0 := by decide
                      exact ih 0 x138 x137 x139 x142 x136 x140 j135 (gm - 1) (a_pop gs) (by omega) (by omega) μ134 hI (by exact hx138) (by exact hx137) (by exact hx139) (by exact hx142) (by exact hx136) (by exact hx140) (hps) (hgp) (by exact ((hJ134.2.1 81 35 rfl).trans (by exact ((hJ125.2.1 81 35 rfl).trans (by exact htp))))) (hfT) (hRW) (hms) (hfm) (⟨fun z => absurd z (by decide), fun ⟨t, ht⟩ => absurd ht (a_pop_nf _ t)⟩) (((a_all_go (by have := m_ckI (x := fv2) (by omega); omega) (fun z => by first | (have hz := hkk.t; omega) | (have z2 := z.2; rw [z2] at hlen; simp only [List.length_nil] at hlen; omega) | (obtain ⟨t, ht⟩ := hdue.mp (by omega); rw [ht] at z; exact absurd z.2 (by simp))) (by rw [a_stP (by have hz := hkk.all; omega)]; simp only [a_b, ha126, ha135])).symm.trans hall)) _ _ hW ls (lv_sub hl [1, 0] rfl)
              · have i121 := m_c5 (rfl : vv2.toInt = _) (by decide : (6 : Int32).toInt = 6) c121
                refine lv_aload_n hx hb dX12_readAll_128 rfl (lv_at hl 0 rfl) ?_
                refine m_aI hW (m_runV (As := []) (rest := []) hx hb hml hown hts hW (81) (g_X12_readAgain_g l D cy b (fun g => [24, 25, 33, 34, 35, 36, 41].contains g) μ rfl rfl rfl rfl rfl rfl rfl av2 fv2 tk2 vv2 uv2 ov2 nv0 (by omega) t (by omega) fT gj gs μ (IY.rf hI.1) (by exact h_av2) (by exact h_fv2) (by exact h_tk2) (by exact h_vv2) (by exact h_uv2) (by exact h_ov2) (by exact hnv0) (by exact htp) hfT hRW hms hps hgp hfm) mi_X12_readAgain k_X12_323 rfl rfl rfl hl.1 rfl (Nat.le_of_ble_eq_true rfl) dX12_readAll_129 ⟨Nat.le_of_ble_eq_true rfl, Nat.le_of_ble_eq_true rfl⟩ ⟨Nat.le_of_ble_eq_true rfl, Nat.le_of_ble_eq_true rfl⟩) (fun x143 μ143 H locs q143 hW => ?_)
                obtain ⟨hJ143, q143⟩ := q143
                have hI := hI.tr hJ143 (m_subL (by simp [hS24, hS25, hS33, hS34, hS35, hS36, hS41]))
                have hfT : μ143.1 106 = fT := by rw [show μ143.1 106 = μ.1 106 from funext fun j => hJ143.2.1 106 j rfl]; exact hfT
                have hRW : m_RW μ143 := hRW.fr hJ143 rfl
                obtain ⟨hgp, q143⟩ := q143
                rcases q143 with ⟨rfl, e144, ha144, hft⟩ | ⟨rfl, q143, hps, j144, ha144, hms, hfm⟩
                · refine lv_iconst (v := (-1)) hx hb dX12_readAll_132 (by decide) ?_
                  refine lv_icmp_ne (tgt := 138) hx hb dX12_readAll_133 (by decide) (fun c => False.elim (by revert c; decide)) (fun _ => ?_)
                  refine lv_iconst (v := (-1)) hx hb dX12_readAll_136 (by decide) ?_
                  exact m_iret hx hb hr hlocks hW rfl (⟨hI, ⟨hgp, Or.inl ⟨rfl, e144, (by rw [← hall]; exact a_all_err (by have := m_ckI (x := fv2) (by omega); omega) (fun z => by first | (have hz := hkk.t; omega) | (have z2 := z.2; rw [z2] at hlen; simp only [List.length_nil] at hlen; omega) | (obtain ⟨t, ht⟩ := hdue.mp (by omega); rw [ht] at z; exact absurd z.2 (by simp))) ((a_stA (by have hz := hkk.all; omega)).trans ha144)), hft⟩⟩⟩) dX12_readAll_137
                · obtain ⟨x145, hx145⟩ : ∃ z, μ143.1 81 51 = z := ⟨_, rfl⟩
                  have bx145 : 0 ≤ x145.toInt ∧ x145.toInt ≤ 400 := by rw [← hx145]; exact hI.1 _ _ _ _ rfl
                  rw [show μ143.1 81 51 = x145 from by exact hx145] at q143
                  obtain ⟨x146, hx146⟩ : ∃ z, μ143.1 81 37 = z := ⟨_, rfl⟩
                  have bx146 : 0 ≤ x146.toInt ∧ x146.toInt ≤ 400 := by rw [← hx146]; exact hI.1 _ _ _ _ rfl
                  rw [show μ143.1 81 37 = x146 from by exact hx146] at q143
                  obtain ⟨x147, hx147⟩ : ∃ z, μ143.1 81 36 = z := ⟨_, rfl⟩
                  have bx147 : 0 ≤ x147.toInt ∧ x147.toInt ≤ 400 := by rw [← hx147]; exact hI.1 _ _ _ _ rfl
                  rw [show μ143.1 81 36 = x147 from by exact hx147] at q143
                  obtain ⟨x148, hx148⟩ : ∃ z, μ143.1 81 38 = z := ⟨_, rfl⟩
                  have bx148 : 0 ≤ x148.toInt ∧ x148.toInt ≤ 4 := by rw [← hx148]; exact hI.1 _ _ _ _ rfl
                  rw [show μ143.1 81 38 = x148 from by exact hx148] at q143
                  obtain ⟨x149, hx149⟩ : ∃ z, μ143.1 111 8 = z := ⟨_, rfl⟩
                  have bx149 : 0 ≤ x149.toInt ∧ x149.toInt ≤ 400 := by rw [← hx149]; exact hI.1 _ _ _ _ rfl
                  rw [show μ143.1 111 8 = x149 from by exact hx149] at q143
                  obtain ⟨x151, hx151⟩ : ∃ z, μ143.1 81 39 = z := ⟨_, rfl⟩
                  have bx151 : -1 ≤ x151.toInt ∧ x151.toInt ≤ 99999 := by rw [← hx151]; exact hI.1 _ _ _ _ rfl
                  have hk150 : m_TQ ((t_K fT t.toNatClampNeg) j144) (m_VV fT t.toNatClampNeg j144) x148 x151 := by
                    have z := hms.2.2
                    rw [show μ143.1 81 38 = x148 from by exact hx148, show μ143.1 81 39 = x151 from by exact hx151] at z
                    exact z
                  refine lv_iconst (v := (-1)) hx hb dX12_readAll_132 (by decide) ?_
                  refine lv_icmp_ne (tgt := 138) hx hb dX12_readAll_133 (by decide) (fun _ => ?_) (fun c => False.elim (by revert c; decide))
                  refine lv_iconst (v := 0) hx hb dX12_readAll_138 (by decide) ?_
                  refine lv_istore_n (lv' := [(1, .int 0), (0, .ref (b + 81))]) hx hb dX12_readAll_139 rfl hl (by decide) rfl (fun ls hl => ?_)
                  refine lv_goto (tgt := 29) hx hb dX12_readAll_140 (by decide) ?_
                  have l_0 : (0 : Int32).toInt = 0 := by decide
                  exact ih 0 x147 x146 x148 x151 x145 x149 j144 (gm - 1) (true :: gs) (by omega) (by omega) μ143 hI (by exact hx147) (by exact hx146) (by exact hx148) (by exact hx151) (by exact hx145) (by exact hx149) (hps) (hgp) (by exact ((hJ143.2.1 81 35 rfl).trans (by exact htp))) (hfT) (hRW) (hms) (hfm) (⟨fun z => absurd z (by decide), fun ⟨t, ht⟩ => absurd ht (by simp)⟩) (((a_all_go (by have := m_ckI (x := fv2) (by omega); omega) (fun z => by first | (have hz := hkk.t; omega) | (have z2 := z.2; rw [z2] at hlen; simp only [List.length_nil] at hlen; omega) | (obtain ⟨t, ht⟩ := hdue.mp (by omega); rw [ht] at z; exact absurd z.2 (by simp))) ((a_stA (by have hz := hkk.all; omega)).trans ha144)).symm.trans hall)) _ _ hW ls (lv_sub hl [1, 0] rfl)
            · have i119 := m_c5 (rfl : vv2.toInt = _) (by decide : (9 : Int32).toInt = 9) c119
              refine lv_aload_n hx hb dX12_readAll_104 rfl (lv_at hl 0 rfl) ?_
              refine m_aI hW (m_runV (As := []) (rest := []) hx hb hml hown hts hW (81) (g_X12_readIf_g l D cy b (fun g => [24, 25, 33, 34, 35, 36, 41].contains g) μ rfl rfl rfl rfl rfl rfl rfl av2 fv2 tk2 vv2 uv2 ov2 nv0 (by omega) t (by omega) fT gj gs μ (IY.rf hI.1) (by exact h_av2) (by exact h_fv2) (by exact h_tk2) (by exact h_vv2) (by exact h_uv2) (by exact h_ov2) (by exact hnv0) (by exact htp) hfT hRW hms hps hgp hfm) mi_X12_readIf k_X12_320 rfl rfl rfl hl.1 rfl (Nat.le_of_ble_eq_true rfl) dX12_readAll_105 ⟨Nat.le_of_ble_eq_true rfl, Nat.le_of_ble_eq_true rfl⟩ ⟨Nat.le_of_ble_eq_true rfl, Nat.le_of_ble_eq_true rfl⟩) (fun x152 μ152 H locs q152 hW => ?_)
              obtain ⟨hJ152, q152⟩ := q152
              have hI := hI.tr hJ152 (m_subL (by simp [hS24, hS25, hS33, hS34, hS35, hS36, hS41]))
              have hfT : μ152.1 106 = fT := by rw [show μ152.1 106 = μ.1 106 from funext fun j => hJ152.2.1 106 j rfl]; exact hfT
              have hRW : m_RW μ152 := hRW.fr hJ152 rfl
              obtain ⟨hgp, q152⟩ := q152
              rcases q152 with ⟨rfl, e153, ha153, hft⟩ | ⟨rfl, q152, hps, j153, ha153, hms, hfm⟩
              · refine lv_iconst (v := (-1)) hx hb dX12_readAll_108 (by decide) ?_
                refine lv_icmp_ne (tgt := 114) hx hb dX12_readAll_109 (by decide) (fun c => False.elim (by revert c; decide)) (fun _ => ?_)
                refine lv_iconst (v := (-1)) hx hb dX12_readAll_112 (by decide) ?_
                exact m_iret hx hb hr hlocks hW rfl (⟨hI, ⟨hgp, Or.inl ⟨rfl, e153, (by rw [← hall]; exact a_all_err (by have := m_ckI (x := fv2) (by omega); omega) (fun z => by first | (have hz := hkk.t; omega) | (have z2 := z.2; rw [z2] at hlen; simp only [List.length_nil] at hlen; omega) | (obtain ⟨t, ht⟩ := hdue.mp (by omega); rw [ht] at z; exact absurd z.2 (by simp))) ((a_stI (by have hz := hkk.all; omega)).trans ha153)), hft⟩⟩⟩) dX12_readAll_113
              · obtain ⟨x154, hx154⟩ : ∃ z, μ152.1 81 51 = z := ⟨_, rfl⟩
                have bx154 : 0 ≤ x154.toInt ∧ x154.toInt ≤ 400 := by rw [← hx154]; exact hI.1 _ _ _ _ rfl
                rw [show μ152.1 81 51 = x154 from by exact hx154] at q152
                obtain ⟨x155, hx155⟩ : ∃ z, μ152.1 81 37 = z := ⟨_, rfl⟩
                have bx155 : 0 ≤ x155.toInt ∧ x155.toInt ≤ 400 := by rw [← hx155]; exact hI.1 _ _ _ _ rfl
                rw [show μ152.1 81 37 = x155 from by exact hx155] at q152
                obtain ⟨x156, hx156⟩ : ∃ z, μ152.1 81 36 = z := ⟨_, rfl⟩
                have bx156 : 0 ≤ x156.toInt ∧ x156.toInt ≤ 400 := by rw [← hx156]; exact hI.1 _ _ _ _ rfl
                rw [show μ152.1 81 36 = x156 from by exact hx156] at q152
                obtain ⟨x157, hx157⟩ : ∃ z, μ152.1 81 38 = z := ⟨_, rfl⟩
                have bx157 : 0 ≤ x157.toInt ∧ x157.toInt ≤ 4 := by rw [← hx157]; exact hI.1 _ _ _ _ rfl
                rw [show μ152.1 81 38 = x157 from by exact hx157] at q152
                obtain ⟨x158, hx158⟩ : ∃ z, μ152.1 111 8 = z := ⟨_, rfl⟩
                have bx158 : 0 ≤ x158.toInt ∧ x158.toInt ≤ 400 := by rw [← hx158]; exact hI.1 _ _ _ _ rfl
                rw [show μ152.1 111 8 = x158 from by exact hx158] at q152
                obtain ⟨x160, hx160⟩ : ∃ z, μ152.1 81 39 = z := ⟨_, rfl⟩
                have bx160 : -1 ≤ x160.toInt ∧ x160.toInt ≤ 99999 := by rw [← hx160]; exact hI.1 _ _ _ _ rfl
                have hk159 : m_TQ ((t_K fT t.toNatClampNeg) j153) (m_VV fT t.toNatClampNeg j153) x157 x160 := by
                  have z := hms.2.2
                  rw [show μ152.1 81 38 = x157 from by exact hx157, show μ152.1 81 39 = x160 from by exact hx160] at z
                  exact z
                refine lv_iconst (v := (-1)) hx hb dX12_readAll_108 (by decide) ?_
                refine lv_icmp_ne (tgt := 114) hx hb dX12_readAll_109 (by decide) (fun _ => ?_) (fun c => False.elim (by revert c; decide))
                refine lv_iconst (v := 1) hx hb dX12_readAll_114 (by decide) ?_
                refine lv_istore_n (lv' := [(1, .int 1), (0, .ref (b + 81))]) hx hb dX12_readAll_115 rfl hl (by decide) rfl (fun ls hl => ?_)
                refine lv_goto (tgt := 29) hx hb dX12_readAll_116 (by decide) ?_
                have l_1 : (1 : Int32).toInt = 1 := by decide
                exact ih 1 x156 x155 x157 x160 x154 x158 j153 (gm - 1) (false :: gs) (by omega) (by omega) μ152 hI (by exact hx156) (by exact hx155) (by exact hx157) (by exact hx160) (by exact hx154) (by exact hx158) (hps) (hgp) (by exact ((hJ152.2.1 81 35 rfl).trans (by exact htp))) (hfT) (hRW) (hms) (hfm) (⟨fun _ => ⟨_, rfl⟩, fun _ => rfl⟩) (((a_all_go (by have := m_ckI (x := fv2) (by omega); omega) (fun z => by first | (have hz := hkk.t; omega) | (have z2 := z.2; rw [z2] at hlen; simp only [List.length_nil] at hlen; omega) | (obtain ⟨t, ht⟩ := hdue.mp (by omega); rw [ht] at z; exact absurd z.2 (by simp))) ((a_stI (by have hz := hkk.all; omega)).trans ha153)).symm.trans hall)) _ _ hW ls (lv_sub hl [1, 0] rfl)
          · have i117 := m_c6 (rfl : tk2.toInt = _) (by decide : (2 : Int32).toInt = 2) c117
            refine lv_aload_n hx hb dX12_readAll_89 rfl (lv_at hl 0 rfl) ?_
            refine lv_iconst (v := 1) hx hb dX12_readAll_90 (by decide) ?_
            have l_1 : (1 : Int32).toInt = 1 := by decide
            refine m_aI hW (m_runV (As := [.int 1]) (rest := []) hx hb hml hown hts hW (81) (g_X12_fails_f l D cy b (fun g => [36].contains g) μ rfl 1 μ (IY.rf hI.1)) mi_X12_fails k_X12_282 rfl rfl rfl hl.1 rfl (Nat.le_of_ble_eq_true rfl) dX12_readAll_91 ⟨Nat.le_of_ble_eq_true rfl, Nat.le_of_ble_eq_true rfl⟩ ⟨Nat.le_of_ble_eq_true rfl, Nat.le_of_ble_eq_true rfl⟩) (fun x161 μ161 H locs q161 hW => ?_)
            obtain ⟨hJ161, q161⟩ := q161
            have hI := hI.tr hJ161 (m_subL (by simp [hS36]))
            have hfT : μ161.1 106 = fT := by rw [show μ161.1 106 = μ.1 106 from funext fun j => hJ161.2.1 106 j rfl]; exact hfT
            have hRW : m_RW μ161 := hRW.fr hJ161 rfl
            have hms : m_MS μ161 fT t.toNatClampNeg gj := hms.fr hJ161 rfl
            have hps : m_PS μ161 := hps.fr hJ161 rfl rfl rfl
            have hgp : m_GP μ161 := hgp.fr hJ161 rfl rfl
            have hfm : m_FM μ161 gs := hfm.fr hJ161 rfl
            obtain ⟨rfl, q1611, q1612⟩ := q161
            have hft : m_FT μ161 (1, (t_L fT t.toNatClampNeg) gj) := ⟨by rw [q1611]; rfl, by rw [q1612]; exact hms.2.1⟩
            exact m_iret hx hb hr hlocks hW rfl (⟨hI, ⟨hgp, Or.inl ⟨rfl, (1, (t_L fT t.toNatClampNeg) gj), (by rw [← hall]; exact a_all_err (by have := m_ckI (x := fv2) (by omega); omega) (fun z => by first | (have hz := hkk.t; omega) | (have z2 := z.2; rw [z2] at hlen; simp only [List.length_nil] at hlen; omega) | (obtain ⟨t, ht⟩ := hdue.mp (by omega); rw [ht] at z; exact absurd z.2 (by simp))) (a_st0 (by have hz := hkk.all; omega) (fun z t ht => hnt z t ht))), hft⟩⟩⟩) dX12_readAll_94
    · have i2 := m_c5 (rfl : tk2.toInt = _) (by decide : (0 : Int32).toInt = 0) c2
      refine lv_iload_n hx hb dX12_readAll_36 rfl (lv_at hl 1 rfl) ?_
      refine lv_if_ne (tgt := 47) hx hb dX12_readAll_37 (by decide) (fun c162 => ?_) (fun c162 => ?_)
      · have i162 := m_c6 (rfl : y1.toInt = _) (by decide : (0 : Int32).toInt = 0) c162
        refine lv_iload_n hx hb dX12_readAll_47 rfl (lv_at hl 1 rfl) ?_
        refine lv_if_ne (tgt := 81) hx hb dX12_readAll_48 (by decide) (fun c163 => ?_) (fun c163 => ?_)
        · have i163 := m_c6 (rfl : y1.toInt = _) (by decide : (0 : Int32).toInt = 0) c163
          have hnt : t_K fT t.toNatClampNeg gj = 18 → ∀ tl, gs ≠ true :: tl := fun z tl ht => by obtain ⟨t2, ht2⟩ := hdue.mp (by omega); rw [ht2] at ht; cases ht
          refine lv_aload_n hx hb dX12_readAll_81 rfl (lv_at hl 0 rfl) ?_
          refine m_geti hx hb hts hown hW (81) 38 rfl rfl cw_12 rfl (by decide) k_X12_254 dX12_readAll_82 ?_
          refine lv_topi (fun x164 ex164 => ?_)
          have ex164 : x164 = tk2 := by rw [ex164]; exact h_tk2
          have ex164 := ex164.symm
          subst ex164
          refine lv_iconst (v := 2) hx hb dX12_readAll_85 (by decide) ?_
          refine lv_icmp_eq (tgt := 95) hx hb dX12_readAll_86 (by decide) (fun c165 => ?_) (fun c165 => ?_)
          · have i165 := m_c5 (rfl : tk2.toInt = _) (by decide : (2 : Int32).toInt = 2) c165
            exfalso; omega
          · have i165 := m_c6 (rfl : tk2.toInt = _) (by decide : (2 : Int32).toInt = 2) c165
            refine lv_aload_n hx hb dX12_readAll_89 rfl (lv_at hl 0 rfl) ?_
            refine lv_iconst (v := 1) hx hb dX12_readAll_90 (by decide) ?_
            have l_1 : (1 : Int32).toInt = 1 := by decide
            refine m_aI hW (m_runV (As := [.int 1]) (rest := []) hx hb hml hown hts hW (81) (g_X12_fails_f l D cy b (fun g => [36].contains g) μ rfl 1 μ (IY.rf hI.1)) mi_X12_fails k_X12_282 rfl rfl rfl hl.1 rfl (Nat.le_of_ble_eq_true rfl) dX12_readAll_91 ⟨Nat.le_of_ble_eq_true rfl, Nat.le_of_ble_eq_true rfl⟩ ⟨Nat.le_of_ble_eq_true rfl, Nat.le_of_ble_eq_true rfl⟩) (fun x166 μ166 H locs q166 hW => ?_)
            obtain ⟨hJ166, q166⟩ := q166
            have hI := hI.tr hJ166 (m_subL (by simp [hS36]))
            have hfT : μ166.1 106 = fT := by rw [show μ166.1 106 = μ.1 106 from funext fun j => hJ166.2.1 106 j rfl]; exact hfT
            have hRW : m_RW μ166 := hRW.fr hJ166 rfl
            have hms : m_MS μ166 fT t.toNatClampNeg gj := hms.fr hJ166 rfl
            have hps : m_PS μ166 := hps.fr hJ166 rfl rfl rfl
            have hgp : m_GP μ166 := hgp.fr hJ166 rfl rfl
            have hfm : m_FM μ166 gs := hfm.fr hJ166 rfl
            obtain ⟨rfl, q1661, q1662⟩ := q166
            have hft : m_FT μ166 (1, (t_L fT t.toNatClampNeg) gj) := ⟨by rw [q1661]; rfl, by rw [q1662]; exact hms.2.1⟩
            exact m_iret hx hb hr hlocks hW rfl (⟨hI, ⟨hgp, Or.inl ⟨rfl, (1, (t_L fT t.toNatClampNeg) gj), (by rw [← hall]; exact a_all_err (by have := m_ckI (x := fv2) (by omega); omega) (fun z => by first | (have hz := hkk.t; omega) | (have z2 := z.2; rw [z2] at hlen; simp only [List.length_nil] at hlen; omega) | (obtain ⟨t, ht⟩ := hdue.mp (by omega); rw [ht] at z; exact absurd z.2 (by simp))) (a_st0 (by have hz := hkk.all; omega) (fun z t ht => hnt z t ht))), hft⟩⟩⟩) dX12_readAll_94
        · have i163 := m_c5 (rfl : y1.toInt = _) (by decide : (0 : Int32).toInt = 0) c163
          exfalso; omega
      · have i162 := m_c5 (rfl : y1.toInt = _) (by decide : (0 : Int32).toInt = 0) c162
        refine lv_aload_n hx hb dX12_readAll_40 rfl (lv_at hl 0 rfl) ?_
        refine m_geti hx hb hts hown hW (81) 53 rfl rfl cw_12 rfl (by decide) k_X12_294 dX12_readAll_41 ?_
        refine lv_topi (fun x167 ex167 => ?_)
        have ex167 : x167 = nv0 := by rw [ex167]; exact hnv0
        have ex167 := ex167.symm
        subst ex167
        refine lv_if_le (tgt := 180) hx hb dX12_readAll_44 (by decide) (fun c168 => ?_) (fun c168 => ?_)
        · have i168 := m_c3 (rfl : nv0.toInt = _) (by decide : (0 : Int32).toInt = 0) c168
          refine lv_iconst (v := 0) hx hb dX12_readAll_180 (by decide) ?_
          exact m_iret hx hb hr hlocks hW rfl (⟨hI, ⟨hgp, Or.inr ⟨rfl, (by rw [← hall]; exact a_all_fin (by have := m_ckI (x := fv2) (by omega); omega) (by have hz := hkk.t; omega) (List.eq_nil_of_length_eq_zero (by omega))), hps.wd (nv := nv0) (by exact hnv0) (by omega)⟩⟩⟩) dX12_readAll_181
        · have i168 := m_c4 (rfl : nv0.toInt = _) (by decide : (0 : Int32).toInt = 0) c168
          refine lv_iload_n hx hb dX12_readAll_47 rfl (lv_at hl 1 rfl) ?_
          refine lv_if_ne (tgt := 81) hx hb dX12_readAll_48 (by decide) (fun c169 => ?_) (fun c169 => ?_)
          · have i169 := m_c6 (rfl : y1.toInt = _) (by decide : (0 : Int32).toInt = 0) c169
            exfalso; omega
          · have i169 := m_c5 (rfl : y1.toInt = _) (by decide : (0 : Int32).toInt = 0) c169
            refine lv_aload_n hx hb dX12_readAll_51 rfl (lv_at hl 0 rfl) ?_
            refine lv_bipush (v := 8) hx hb dX12_readAll_52 (by decide) ?_
            have l_8 : (8 : Int32).toInt = 8 := by decide
            refine m_aI hW (m_runV (As := [.int 8]) (rest := []) hx hb hml hown hts hW (81) (g_X12_isWord_f l D cy b 8 μ hI.1) mi_X12_isWord k_X12_307 rfl rfl rfl hl.1 rfl (Nat.le_of_ble_eq_true rfl) dX12_readAll_54 ⟨Nat.le_of_ble_eq_true rfl, Nat.le_of_ble_eq_true rfl⟩ ⟨Nat.le_of_ble_eq_true rfl, Nat.le_of_ble_eq_true rfl⟩) (fun x170 μ170 H locs q170 hW => ?_)
            obtain ⟨q170_m, q170⟩ := q170
            subst q170_m
            rw [show μ.1 81 38 = tk2 from by exact h_tk2, show μ.1 81 39 = vv2 from by exact h_vv2] at q170
            rcases q170 with ⟨rfl, q170⟩ | ⟨rfl, q170⟩
            · refine lv_if_eq (tgt := 81) hx hb dX12_readAll_57 (by decide) (fun c => False.elim (by revert c; decide)) (fun _ => ?_)
              refine lv_aload_n hx hb dX12_readAll_60 rfl (lv_at hl 0 rfl) ?_
              refine m_aI hW (m_runV (As := []) (rest := []) hx hb hml hown hts hW (81) (g_X12_isInAgain_f l D cy b nv0 (by omega) μ hI.1 (by exact hnv0)) mi_X12_isInAgain k_X12_310 rfl rfl rfl hl.1 rfl (Nat.le_of_ble_eq_true rfl) dX12_readAll_61 ⟨Nat.le_of_ble_eq_true rfl, Nat.le_of_ble_eq_true rfl⟩ ⟨Nat.le_of_ble_eq_true rfl, Nat.le_of_ble_eq_true rfl⟩) (fun x171 μ171 H locs q171 hW => ?_)
              obtain ⟨q171_m, q171⟩ := q171
              subst q171_m
              rcases q171 with ⟨rfl, q171, hbt⟩ | ⟨rfl, q171⟩
              · refine lv_if_eq (tgt := 81) hx hb dX12_readAll_64 (by decide) (fun c => False.elim (by revert c; decide)) (fun _ => ?_)
                refine lv_aload_n hx hb dX12_readAll_67 rfl (lv_at hl 0 rfl) ?_
                refine m_aV hW (m_runV (As := []) (rest := []) hx hb hml hown hts hW (81) (g_X12_closes_g l D cy b (fun g => [24, 25, 33, 34, 35, 36, 41].contains g) μ rfl rfl rfl rfl rfl rfl rfl av2 fv2 tk2 vv2 uv2 ov2 nv0 (by omega) t (by omega) fT gj gs μ (IY.rf hI.1) (by exact h_av2) (by exact h_fv2) (by exact h_tk2) (by exact h_vv2) (by exact h_uv2) (by exact h_ov2) (by exact hnv0) (by exact htp) hfT hRW hms hps hgp hfm hbt) mi_X12_closes k_X12_314 rfl rfl rfl hl.1 rfl (Nat.le_of_ble_eq_true rfl) dX12_readAll_68 ⟨Nat.le_of_ble_eq_true rfl, Nat.le_of_ble_eq_true rfl⟩ ⟨Nat.le_of_ble_eq_true rfl, Nat.le_of_ble_eq_true rfl⟩) (fun μ172 H locs q172 hW => ?_)
                obtain ⟨hJ172, q172⟩ := q172
                have hI := hI.tr hJ172 (m_subL (by simp [hS24, hS25, hS33, hS34, hS35, hS36, hS41]))
                have hfT : μ172.1 106 = fT := by rw [show μ172.1 106 = μ.1 106 from funext fun j => hJ172.2.1 106 j rfl]; exact hfT
                have hRW : m_RW μ172 := hRW.fr hJ172 rfl
                obtain ⟨hgp, q172, hps, hms, sl173, hs173, hfm⟩ := q172
                obtain ⟨x174, hx174⟩ : ∃ z, μ172.1 81 51 = z := ⟨_, rfl⟩
                have bx174 : 0 ≤ x174.toInt ∧ x174.toInt ≤ 400 := by rw [← hx174]; exact hI.1 _ _ _ _ rfl
                rw [show μ172.1 81 51 = x174 from by exact hx174] at q172
                obtain ⟨x175, hx175⟩ : ∃ z, μ172.1 81 37 = z := ⟨_, rfl⟩
                have bx175 : 0 ≤ x175.toInt ∧ x175.toInt ≤ 400 := by rw [← hx175]; exact hI.1 _ _ _ _ rfl
                rw [show μ172.1 81 37 = x175 from by exact hx175] at q172
                obtain ⟨x176, hx176⟩ : ∃ z, μ172.1 81 36 = z := ⟨_, rfl⟩
                have bx176 : 0 ≤ x176.toInt ∧ x176.toInt ≤ 400 := by rw [← hx176]; exact hI.1 _ _ _ _ rfl
                rw [show μ172.1 81 36 = x176 from by exact hx176] at q172
                obtain ⟨x177, hx177⟩ : ∃ z, μ172.1 81 38 = z := ⟨_, rfl⟩
                have bx177 : 0 ≤ x177.toInt ∧ x177.toInt ≤ 4 := by rw [← hx177]; exact hI.1 _ _ _ _ rfl
                rw [show μ172.1 81 38 = x177 from by exact hx177] at q172
                obtain ⟨x178, hx178⟩ : ∃ z, μ172.1 111 8 = z := ⟨_, rfl⟩
                have bx178 : 0 ≤ x178.toInt ∧ x178.toInt ≤ 400 := by rw [← hx178]; exact hI.1 _ _ _ _ rfl
                rw [show μ172.1 111 8 = x178 from by exact hx178] at q172
                obtain ⟨x180, hx180⟩ : ∃ z, μ172.1 81 39 = z := ⟨_, rfl⟩
                have bx180 : -1 ≤ x180.toInt ∧ x180.toInt ≤ 99999 := by rw [← hx180]; exact hI.1 _ _ _ _ rfl
                have hk179 : m_TQ ((t_K fT t.toNatClampNeg) (gj + 1)) (m_VV fT t.toNatClampNeg (gj + 1)) x177 x180 := by
                  have z := hms.2.2
                  rw [show μ172.1 81 38 = x177 from by exact hx177, show μ172.1 81 39 = x180 from by exact hx180] at z
                  exact z
                refine lv_aload_n hx hb dX12_readAll_71 rfl (lv_at hl 0 rfl) ?_
                refine m_aI hW (m_runV (As := []) (rest := []) hx hb hml hown hts hW (81) (g_X12_ends_g l D cy b (fun g => [24, 25, 33, 34, 35, 36, 41].contains g) μ172 rfl rfl rfl rfl rfl rfl rfl x176 x175 x177 x180 x174 x178 (by omega) t (by omega) fT (gj + 1) sl173 μ172 (IY.rf hI.1) (by exact hx176) (by exact hx175) (by exact hx177) (by exact hx180) (by exact hx174) (by exact hx178) (by exact ((hJ172.2.1 81 35 rfl).trans (by exact htp))) hfT hRW hms hps hgp hfm) mi_X12_ends k_X12_317 rfl rfl rfl hl.1 rfl (Nat.le_of_ble_eq_true rfl) dX12_readAll_72 ⟨Nat.le_of_ble_eq_true rfl, Nat.le_of_ble_eq_true rfl⟩ ⟨Nat.le_of_ble_eq_true rfl, Nat.le_of_ble_eq_true rfl⟩) (fun x181 μ181 H locs q181 hW => ?_)
                obtain ⟨hJ181, q181⟩ := q181
                have hI := hI.tr hJ181 (m_subL (by simp [hS24, hS25, hS33, hS34, hS35, hS36, hS41]))
                have hfT : μ181.1 106 = fT := by rw [show μ181.1 106 = μ172.1 106 from funext fun j => hJ181.2.1 106 j rfl]; exact hfT
                have hRW : m_RW μ181 := hRW.fr hJ181 rfl
                obtain ⟨hgp, q181⟩ := q181
                rcases q181 with ⟨rfl, e182, ha182, hft⟩ | ⟨rfl, q181, hps, j182, ha182, hms, hfm⟩
                · refine lv_iconst (v := (-1)) hx hb dX12_readAll_75 (by decide) ?_
                  refine lv_icmp_ne (tgt := 29) hx hb dX12_readAll_76 (by decide) (fun c => False.elim (by revert c; decide)) (fun _ => ?_)
                  refine lv_iconst (v := (-1)) hx hb dX12_readAll_79 (by decide) ?_
                  exact m_iret hx hb hr hlocks hW rfl (⟨hI, ⟨hgp, Or.inl ⟨rfl, e182, (by rw [← hall]; exact a_all_err (by have := m_ckI (x := fv2) (by omega); omega) (fun z => by first | (have hz := hkk.t; omega) | (have z2 := z.2; rw [z2] at hlen; simp only [List.length_nil] at hlen; omega) | (obtain ⟨t, ht⟩ := hdue.mp (by omega); rw [ht] at z; exact absurd z.2 (by simp))) (by rw [a_stC (by have hz := hkk.all; omega) hs173]; exact ha182)), hft⟩⟩⟩) dX12_readAll_80
                · obtain ⟨x183, hx183⟩ : ∃ z, μ181.1 81 51 = z := ⟨_, rfl⟩
                  have bx183 : 0 ≤ x183.toInt ∧ x183.toInt ≤ 400 := by rw [← hx183]; exact hI.1 _ _ _ _ rfl
                  rw [show μ181.1 81 51 = x183 from by exact hx183] at q181
                  obtain ⟨x184, hx184⟩ : ∃ z, μ181.1 81 37 = z := ⟨_, rfl⟩
                  have bx184 : 0 ≤ x184.toInt ∧ x184.toInt ≤ 400 := by rw [← hx184]; exact hI.1 _ _ _ _ rfl
                  rw [show μ181.1 81 37 = x184 from by exact hx184] at q181
                  obtain ⟨x185, hx185⟩ : ∃ z, μ181.1 81 36 = z := ⟨_, rfl⟩
                  have bx185 : 0 ≤ x185.toInt ∧ x185.toInt ≤ 400 := by rw [← hx185]; exact hI.1 _ _ _ _ rfl
                  rw [show μ181.1 81 36 = x185 from by exact hx185] at q181
                  obtain ⟨x186, hx186⟩ : ∃ z, μ181.1 81 38 = z := ⟨_, rfl⟩
                  have bx186 : 0 ≤ x186.toInt ∧ x186.toInt ≤ 4 := by rw [← hx186]; exact hI.1 _ _ _ _ rfl
                  rw [show μ181.1 81 38 = x186 from by exact hx186] at q181
                  obtain ⟨x187, hx187⟩ : ∃ z, μ181.1 111 8 = z := ⟨_, rfl⟩
                  have bx187 : 0 ≤ x187.toInt ∧ x187.toInt ≤ 400 := by rw [← hx187]; exact hI.1 _ _ _ _ rfl
                  rw [show μ181.1 111 8 = x187 from by exact hx187] at q181
                  obtain ⟨x189, hx189⟩ : ∃ z, μ181.1 81 39 = z := ⟨_, rfl⟩
                  have bx189 : -1 ≤ x189.toInt ∧ x189.toInt ≤ 99999 := by rw [← hx189]; exact hI.1 _ _ _ _ rfl
                  have hk188 : m_TQ ((t_K fT t.toNatClampNeg) j182) (m_VV fT t.toNatClampNeg j182) x186 x189 := by
                    have z := hms.2.2
                    rw [show μ181.1 81 38 = x186 from by exact hx186, show μ181.1 81 39 = x189 from by exact hx189] at z
                    exact z
                  refine lv_iconst (v := (-1)) hx hb dX12_readAll_75 (by decide) ?_
                  refine lv_icmp_ne (tgt := 29) hx hb dX12_readAll_76 (by decide) (fun _ => ?_) (fun c => False.elim (by revert c; decide))
                  exact ih y1 x185 x184 x186 x189 x183 x187 j182 (gm - 1) (a_pop sl173) (by omega) (by omega) μ181 hI (by exact hx185) (by exact hx184) (by exact hx186) (by exact hx189) (by exact hx183) (by exact hx187) (hps) (hgp) (by exact ((hJ181.2.1 81 35 rfl).trans (by exact ((hJ172.2.1 81 35 rfl).trans (by exact htp))))) (hfT) (hRW) (hms) (hfm) (⟨fun z => absurd z (by omega), fun ⟨t, ht⟩ => absurd ht (a_pop_nf _ t)⟩) (((a_all_go (by have := m_ckI (x := fv2) (by omega); omega) (fun z => by first | (have hz := hkk.t; omega) | (have z2 := z.2; rw [z2] at hlen; simp only [List.length_nil] at hlen; omega) | (obtain ⟨t, ht⟩ := hdue.mp (by omega); rw [ht] at z; exact absurd z.2 (by simp))) (by rw [a_stC (by have hz := hkk.all; omega) hs173]; exact ha182)).symm.trans hall)) _ _ hW ls (lv_sub hl [0, 1] rfl)
              · refine lv_if_eq (tgt := 81) hx hb dX12_readAll_64 (by decide) (fun _ => ?_) (fun c => False.elim (by revert c; decide))
                have hnt : ∀ t, gs ≠ true :: t := fun t ht => by
                  rw [ht] at hfm
                  have hl2 := hfm.len hnv0 (by omega)
                  simp only [List.length_cons] at hl2
                  obtain ⟨y_, hy_⟩ : ∃ z : Int32, z = nv0 - 1 := ⟨_, rfl⟩
                  have ty_ := m_subI hy_ rfl (by decide : (1 : Int32).toInt = 1) (by omega) (by omega)
                  obtain ⟨b2, s2, e2, hb2⟩ := hfm.top (y := y_) hnv0 (by omega) ty_
                  cases e2
                  have hq := hb2.mp rfl
                  rw [show y_.toNatClampNeg = nv0.toNatClampNeg - 1 from by have := m_ckI (x := y_) (by omega); have := m_ckI (x := nv0) (by omega); omega] at hq
                  omega
                refine lv_aload_n hx hb dX12_readAll_81 rfl (lv_at hl 0 rfl) ?_
                refine m_geti hx hb hts hown hW (81) 38 rfl rfl cw_12 rfl (by decide) k_X12_254 dX12_readAll_82 ?_
                refine lv_topi (fun x190 ex190 => ?_)
                have ex190 : x190 = tk2 := by rw [ex190]; exact h_tk2
                have ex190 := ex190.symm
                subst ex190
                refine lv_iconst (v := 2) hx hb dX12_readAll_85 (by decide) ?_
                refine lv_icmp_eq (tgt := 95) hx hb dX12_readAll_86 (by decide) (fun c191 => ?_) (fun c191 => ?_)
                · have i191 := m_c5 (rfl : tk2.toInt = _) (by decide : (2 : Int32).toInt = 2) c191
                  exfalso; omega
                · have i191 := m_c6 (rfl : tk2.toInt = _) (by decide : (2 : Int32).toInt = 2) c191
                  refine lv_aload_n hx hb dX12_readAll_89 rfl (lv_at hl 0 rfl) ?_
                  refine lv_iconst (v := 1) hx hb dX12_readAll_90 (by decide) ?_
                  have l_1 : (1 : Int32).toInt = 1 := by decide
                  refine m_aI hW (m_runV (As := [.int 1]) (rest := []) hx hb hml hown hts hW (81) (g_X12_fails_f l D cy b (fun g => [36].contains g) μ rfl 1 μ (IY.rf hI.1)) mi_X12_fails k_X12_282 rfl rfl rfl hl.1 rfl (Nat.le_of_ble_eq_true rfl) dX12_readAll_91 ⟨Nat.le_of_ble_eq_true rfl, Nat.le_of_ble_eq_true rfl⟩ ⟨Nat.le_of_ble_eq_true rfl, Nat.le_of_ble_eq_true rfl⟩) (fun x192 μ192 H locs q192 hW => ?_)
                  obtain ⟨hJ192, q192⟩ := q192
                  have hI := hI.tr hJ192 (m_subL (by simp [hS36]))
                  have hfT : μ192.1 106 = fT := by rw [show μ192.1 106 = μ.1 106 from funext fun j => hJ192.2.1 106 j rfl]; exact hfT
                  have hRW : m_RW μ192 := hRW.fr hJ192 rfl
                  have hms : m_MS μ192 fT t.toNatClampNeg gj := hms.fr hJ192 rfl
                  have hps : m_PS μ192 := hps.fr hJ192 rfl rfl rfl
                  have hgp : m_GP μ192 := hgp.fr hJ192 rfl rfl
                  have hfm : m_FM μ192 gs := hfm.fr hJ192 rfl
                  obtain ⟨rfl, q1921, q1922⟩ := q192
                  have hft : m_FT μ192 (1, (t_L fT t.toNatClampNeg) gj) := ⟨by rw [q1921]; rfl, by rw [q1922]; exact hms.2.1⟩
                  exact m_iret hx hb hr hlocks hW rfl (⟨hI, ⟨hgp, Or.inl ⟨rfl, (1, (t_L fT t.toNatClampNeg) gj), (by rw [← hall]; exact a_all_err (by have := m_ckI (x := fv2) (by omega); omega) (fun z => by first | (have hz := hkk.t; omega) | (have z2 := z.2; rw [z2] at hlen; simp only [List.length_nil] at hlen; omega) | (obtain ⟨t, ht⟩ := hdue.mp (by omega); rw [ht] at z; exact absurd z.2 (by simp))) (a_st0 (by have hz := hkk.all; omega) (fun z t ht => hnt t ht))), hft⟩⟩⟩) dX12_readAll_94
            · refine lv_if_eq (tgt := 81) hx hb dX12_readAll_57 (by decide) (fun _ => ?_) (fun c => False.elim (by revert c; decide))
              have hnt : t_K fT t.toNatClampNeg gj = 18 → ∀ tl, gs ≠ true :: tl := fun z tl ht => by exfalso; have hz := hkk.all; omega
              refine lv_aload_n hx hb dX12_readAll_81 rfl (lv_at hl 0 rfl) ?_
              refine m_geti hx hb hts hown hW (81) 38 rfl rfl cw_12 rfl (by decide) k_X12_254 dX12_readAll_82 ?_
              refine lv_topi (fun x193 ex193 => ?_)
              have ex193 : x193 = tk2 := by rw [ex193]; exact h_tk2
              have ex193 := ex193.symm
              subst ex193
              refine lv_iconst (v := 2) hx hb dX12_readAll_85 (by decide) ?_
              refine lv_icmp_eq (tgt := 95) hx hb dX12_readAll_86 (by decide) (fun c194 => ?_) (fun c194 => ?_)
              · have i194 := m_c5 (rfl : tk2.toInt = _) (by decide : (2 : Int32).toInt = 2) c194
                exfalso; omega
              · have i194 := m_c6 (rfl : tk2.toInt = _) (by decide : (2 : Int32).toInt = 2) c194
                refine lv_aload_n hx hb dX12_readAll_89 rfl (lv_at hl 0 rfl) ?_
                refine lv_iconst (v := 1) hx hb dX12_readAll_90 (by decide) ?_
                have l_1 : (1 : Int32).toInt = 1 := by decide
                refine m_aI hW (m_runV (As := [.int 1]) (rest := []) hx hb hml hown hts hW (81) (g_X12_fails_f l D cy b (fun g => [36].contains g) μ rfl 1 μ (IY.rf hI.1)) mi_X12_fails k_X12_282 rfl rfl rfl hl.1 rfl (Nat.le_of_ble_eq_true rfl) dX12_readAll_91 ⟨Nat.le_of_ble_eq_true rfl, Nat.le_of_ble_eq_true rfl⟩ ⟨Nat.le_of_ble_eq_true rfl, Nat.le_of_ble_eq_true rfl⟩) (fun x195 μ195 H locs q195 hW => ?_)
                obtain ⟨hJ195, q195⟩ := q195
                have hI := hI.tr hJ195 (m_subL (by simp [hS36]))
                have hfT : μ195.1 106 = fT := by rw [show μ195.1 106 = μ.1 106 from funext fun j => hJ195.2.1 106 j rfl]; exact hfT
                have hRW : m_RW μ195 := hRW.fr hJ195 rfl
                have hms : m_MS μ195 fT t.toNatClampNeg gj := hms.fr hJ195 rfl
                have hps : m_PS μ195 := hps.fr hJ195 rfl rfl rfl
                have hgp : m_GP μ195 := hgp.fr hJ195 rfl rfl
                have hfm : m_FM μ195 gs := hfm.fr hJ195 rfl
                obtain ⟨rfl, q1951, q1952⟩ := q195
                have hft : m_FT μ195 (1, (t_L fT t.toNatClampNeg) gj) := ⟨by rw [q1951]; rfl, by rw [q1952]; exact hms.2.1⟩
                exact m_iret hx hb hr hlocks hW rfl (⟨hI, ⟨hgp, Or.inl ⟨rfl, (1, (t_L fT t.toNatClampNeg) gj), (by rw [← hall]; exact a_all_err (by have := m_ckI (x := fv2) (by omega); omega) (fun z => by first | (have hz := hkk.t; omega) | (have z2 := z.2; rw [z2] at hlen; simp only [List.length_nil] at hlen; omega) | (obtain ⟨t, ht⟩ := hdue.mp (by omega); rw [ht] at z; exact absurd z.2 (by simp))) (a_st0 (by have hz := hkk.all; omega) (fun z t ht => hnt z t ht))), hft⟩⟩⟩) dX12_readAll_94
set_option maxHeartbeats 4000000 in
set_option maxRecDepth 100000 in
theorem g_X12_readAll_g (l : Launch) (D : va_G) (cy : Nat → ClassId) (b : Nat) (S : Nat → Bool) (μ0 : mM) (hS24 : S 24 = true) (hS25 : S 25 = true) (hS33 : S 33 = true) (hS34 : S 34 = true) (hS35 : S 35 = true) (hS36 : S 36 = true) (hS41 : S 41 = true) (t : Int32) (h_tt : 0 ≤ t.toInt ∧ t.toInt ≤ 400) (fT : Nat → Int32) (μ : mM) (hI : IY S μ0 μ) (hgp : m_GP μ) (htp : μ.1 81 35 = t) (hfT : μ.1 106 = fT) (hRW : m_RW μ) : m_Ci l yX12_readAll cX12_readAll 2 ((some .int)) 6 D cy b LAY μ [.ref (b + 81)] (fun r ν => IY S μ0 ν ∧ (m_GP ν ∧ ((r = -1 ∧ ∃ e, a_all (t_K fT t.toNatClampNeg) (t_L fT t.toNatClampNeg) (t_V fT t.toNatClampNeg) 401 0 [] = some e ∧ m_FT ν e) ∨ (r = 0 ∧ a_all (t_K fT t.toNatClampNeg) (t_L fT t.toNatClampNeg) (t_V fT t.toNatClampNeg) 401 0 [] = none ∧ m_WD ν)))) := by
  unfold m_Ci
  refine m_of (by decide) (Nat.le_of_ble_eq_true rfl) ?_
  intro p e s m below meth c hx hb hr hml hown hts hlocks _ hW ls hl
  have hown : s.vm.findClass RX12 = some m.cls := hown
  have hl : lv_has ls 2 [(0, .ref (b + 81))] := hl
  refine lv_aload_n hx hb dX12_readAll_0 rfl (lv_at hl 0 rfl) ?_
  refine lv_iconst (v := 0) hx hb dX12_readAll_1 (by decide) ?_
  refine m_puti hx hb hts hown hW (81) 36 rfl rfl cw_12 tyX12_ok nmX12 rfl (by decide) k_X12_245 rfl rfl rfl dX12_readAll_2 (fun H locs hW _ => ?_)
  generalize hμ1 : m_si μ (81) 36 0 = μ1 at hW
  have hgp : m_GP μ1 := hgp.si hμ1 (by decide) (by decide) (by decide)
  have hfT : μ1.1 106 = fT := by rw [← hμ1, m_si_row (by decide)]; exact hfT
  have hRW : m_RW μ1 := fun i hi => by rw [← hμ1, m_si_ne (by decide)]; exact hRW i hi
  have hI := hI.si1 hμ1 rfl (by decide) hS24
  refine lv_aload_n hx hb dX12_readAll_5 rfl (lv_at hl 0 rfl) ?_
  refine m_getr hx hb hts hown hW (81) 44 (111) rfl rfl cw_12 rfl (by decide) k_X12_110 dX12_readAll_6 ?_
  refine lv_bipush (v := 8) hx hb dX12_readAll_9 (by decide) ?_
  refine lv_iconst (v := 0) hx hb dX12_readAll_11 (by decide) ?_
  refine m_iast hx hb hW (111) rfl (vp_in_iff.mpr ⟨by decide, by decide⟩) dX12_readAll_12 (fun H locs hW _ => ?_)
  generalize hμ2 : m_si μ1 (111) (8 : Int32).toNatClampNeg 0 = μ2 at hW
  have hgp : m_GP μ2 := hgp.pm hμ2
  have hfT : μ2.1 106 = fT := by rw [← hμ2, m_si_row (by decide)]; exact hfT
  have hRW : m_RW μ2 := fun i hi => by rw [← hμ2, m_si_ne (by decide)]; exact hRW i hi
  have hI := hI.si1 hμ2 rfl (by decide) hS33
  refine lv_aload_n hx hb dX12_readAll_13 rfl (lv_at hl 0 rfl) ?_
  refine lv_iconst (v := 0) hx hb dX12_readAll_14 (by decide) ?_
  refine m_puti hx hb hts hown hW (81) 51 rfl rfl cw_12 tyX12_ok nmX12 rfl (by decide) k_X12_285 rfl rfl rfl dX12_readAll_15 (fun H locs hW _ => ?_)
  generalize hμ3 : m_si μ2 (81) 51 0 = μ3 at hW
  have hgp : m_GP μ3 := hgp.si hμ3 (by decide) (by decide) (by decide)
  have hfT : μ3.1 106 = fT := by rw [← hμ3, m_si_row (by decide)]; exact hfT
  have hRW : m_RW μ3 := fun i hi => by rw [← hμ3, m_si_ne (by decide)]; exact hRW i hi
  have hI := hI.si1 hμ3 rfl (by decide) hS34
  refine lv_aload_n hx hb dX12_readAll_18 rfl (lv_at hl 0 rfl) ?_
  refine lv_iconst (v := 0) hx hb dX12_readAll_19 (by decide) ?_
  refine m_puti hx hb hts hown hW (81) 53 rfl rfl cw_12 tyX12_ok nmX12 rfl (by decide) k_X12_294 rfl rfl rfl dX12_readAll_20 (fun H locs hW _ => ?_)
  generalize hμ4 : m_si μ3 (81) 53 0 = μ4 at hW
  have hgp : m_GP μ4 := hgp.si hμ4 (by decide) (by decide) (by decide)
  have hfT : μ4.1 106 = fT := by rw [← hμ4, m_si_row (by decide)]; exact hfT
  have hRW : m_RW μ4 := fun i hi => by rw [← hμ4, m_si_ne (by decide)]; exact hRW i hi
  have hI := hI.si1 hμ4 rfl (by decide) hS35
  have hps : m_PS μ4 := m_PS_z (by rw [← hμ4, ← hμ3, ← hμ2]; first | rfl | exact if_pos ⟨rfl, rfl⟩) (by rw [← hμ4]; first | rfl | exact if_pos ⟨rfl, rfl⟩)
  have hfm : m_FM μ4 [] := m_FM.z (by rw [← hμ4]; first | rfl | exact if_pos ⟨rfl, rfl⟩)
  refine lv_aload_n hx hb dX12_readAll_23 rfl (lv_at hl 0 rfl) ?_
  have l_0 : (0 : Int32).toInt = 0 := by decide
  have ckt := m_ckI (x := t) (by omega)
  refine m_aV hW (m_runV (As := []) (rest := []) hx hb hml hown hts hW (81) (g_X12_reads_f l D cy b (fun g => [24].contains g) μ4 rfl 0 t (by omega) fT μ4 (IY.rf hI.1) (by rw [← hμ4, ← hμ3, ← hμ2, ← hμ1]; first | rfl | exact if_pos ⟨rfl, rfl⟩) (by rw [← hμ4, ← hμ3, ← hμ2, ← hμ1]; exact htp) hfT hRW) mi_X12_reads k_X12_279 rfl rfl rfl hl.1 rfl (Nat.le_of_ble_eq_true rfl) dX12_readAll_24 ⟨Nat.le_of_ble_eq_true rfl, Nat.le_of_ble_eq_true rfl⟩ ⟨Nat.le_of_ble_eq_true rfl, Nat.le_of_ble_eq_true rfl⟩) (fun μ5 H locs q5 hW => ?_)
  obtain ⟨hJ5, q5⟩ := q5
  have hI := hI.tr hJ5 (m_subL (by simp [hS24]))
  have hgp : m_GP μ5 := hgp.fr hJ5 rfl rfl
  have hfT : μ5.1 106 = fT := by rw [show μ5.1 106 = μ4.1 106 from funext fun j => hJ5.2.1 106 j rfl]; exact hfT
  have hRW : m_RW μ5 := hRW.fr hJ5 rfl
  have hps : m_PS μ5 := hps.fr hJ5 rfl rfl rfl
  have hfm : m_FM μ5 [] := hfm.fr hJ5 rfl
  obtain ⟨q5, q5f⟩ := q5
  have hms : m_MS μ5 fT t.toNatClampNeg 0 := m_MS.first (μ := μ5) q5f
  obtain ⟨x6, hx6⟩ : ∃ z, μ5.1 81 36 = z := ⟨_, rfl⟩
  have bx6 : 0 ≤ x6.toInt ∧ x6.toInt ≤ 400 := by rw [← hx6]; exact hI.1 _ _ _ _ rfl
  rw [show μ5.1 81 36 = x6 from by exact hx6] at q5
  obtain ⟨x7, hx7⟩ : ∃ z, μ5.1 81 37 = z := ⟨_, rfl⟩
  have bx7 : 0 ≤ x7.toInt ∧ x7.toInt ≤ 400 := by rw [← hx7]; exact hI.1 _ _ _ _ rfl
  rw [show μ5.1 81 37 = x7 from by exact hx7] at q5
  obtain ⟨x8, hx8⟩ : ∃ z, μ5.1 81 38 = z := ⟨_, rfl⟩
  have bx8 : 0 ≤ x8.toInt ∧ x8.toInt ≤ 4 := by rw [← hx8]; exact hI.1 _ _ _ _ rfl
  rw [show μ5.1 81 38 = x8 from by exact hx8] at q5
  obtain ⟨x9, hx9⟩ : ∃ z, μ5.1 81 39 = z := ⟨_, rfl⟩
  have bx9 : -1 ≤ x9.toInt ∧ x9.toInt ≤ 99999 := by rw [← hx9]; exact hI.1 _ _ _ _ rfl
  rw [show μ5.1 81 39 = x9 from by exact hx9] at q5
  have hk10 : m_TQ ((t_K fT t.toNatClampNeg) 0) (m_VV fT t.toNatClampNeg 0) x8 x9 := by
    have z := hms.2.2
    rw [show μ5.1 81 38 = x8 from by exact hx8, show μ5.1 81 39 = x9 from by exact hx9] at z
    exact z
  refine lv_iconst (v := 0) hx hb dX12_readAll_27 (by decide) ?_
  refine lv_istore_n (lv' := [(1, .int 0), (0, .ref (b + 81))]) hx hb dX12_readAll_28 rfl hl (by decide) rfl (fun ls hl => ?_)
  exact L_X12_readAll_g_29 hx hb hr hml hown hts hlocks S μ0 hS24 hS25 hS33 hS34 hS35 hS36 hS41 t h_tt fT  401 0 x6 x7 x8 x9 0 0 0 401 [] (by omega) (by omega) μ5 hI (by exact hx6) (by exact hx7) (by exact hx8) (by exact hx9) (by exact ((hJ5.2.1 81 51 rfl).trans (by rw [← hμ4, ← hμ3]; first | rfl | exact if_pos ⟨rfl, rfl⟩))) (by exact ((hJ5.2.1 111 8 rfl).trans (by rw [← hμ4, ← hμ3, ← hμ2]; first | rfl | exact if_pos ⟨rfl, rfl⟩))) (hps) (hgp) (by exact ((hJ5.2.1 81 35 rfl).trans (by rw [← hμ4, ← hμ3, ← hμ2, ← hμ1]; exact htp))) (hfT) (hRW) (hms) (hfm) (⟨fun z => absurd z (by decide), fun ⟨t, ht⟩ => absurd ht (by simp)⟩) (rfl) _ _ hW ls (lv_sub hl [1, 0] rfl)
