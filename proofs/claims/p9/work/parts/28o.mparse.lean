theorem a_k1 {K L : Nat → Int} {lo hi : Int} {i : Nat} (h : lo ≤ K i ∧ K i ≤ hi) : a_k K L lo hi i = .inr (i + 1) := if_pos h
theorem a_k0 {K L : Nat → Int} {lo hi : Int} {i : Nat} (h : ¬ (lo ≤ K i ∧ K i ≤ hi)) : a_k K L lo hi i = .inl (1, L i) := if_neg h
theorem a_T1 {K L : Nat → Int} {i : Nat} (h : K i = 2 ∨ (23 ≤ K i ∧ K i ≤ 27)) : a_T K L i = .inr (i + 1) := if_pos h
theorem a_T0 {K L : Nat → Int} {i : Nat} (h : ¬ (K i = 2 ∨ (23 ≤ K i ∧ K i ≤ 27))) : a_T K L i = .inl (1, L i) := if_neg h
theorem a_N1 {K L V : Nat → Int} {lo hi : Int} {i : Nat} (h : K i = 2) (h2 : lo ≤ V i ∧ V i ≤ hi) : a_N K L V lo hi i = .inr (i + 1) := by
  unfold a_N
  rw [if_pos h, if_pos h2]
theorem a_N2 {K L V : Nat → Int} {lo hi : Int} {i : Nat} (h : K i = 2) (h2 : ¬ (lo ≤ V i ∧ V i ≤ hi)) : a_N K L V lo hi i = .inl (2, L i) := by
  unfold a_N
  rw [if_pos h, if_neg h2]
theorem a_N0 {K L V : Nat → Int} {lo hi : Int} {i : Nat} (h : ¬ K i = 2) : a_N K L V lo hi i = .inl (1, L i) := if_neg h
theorem z_E_all {P : Int → Bool} {f : Nat → Int32} {n : Nat} : ∀ d p, n - p = d → ∀ j, p ≤ j → j < z_E P f n p → P (f j).toInt = true
  | 0, p, hd, j, h1, h2 => by
    rw [z_E0 (fun q => by omega)] at h2
    omega
  | d + 1, p, hd, j, h1, h2 => by
    by_cases q : p < n ∧ P (f p).toInt = true
    · rw [z_E1 q.1 q.2] at h2
      by_cases e : j = p
      · rw [e]
        exact q.2
      · exact z_E_all d (p + 1) (by omega) j (by omega) h2
    · rw [z_E0 q] at h2
      omega
theorem t_V_b {f : Nat → Int32} {n i : Nat} (h : t_K f n i = 2) : 0 ≤ t_V f n i ∧ t_V f n i ≤ 9999 := by
  unfold t_K m_KK m_tk at h
  by_cases h1 : n ≤ m_Q f n i
  · rw [if_pos h1] at h
    omega
  · rw [if_neg h1] at h
    by_cases h2 : bL (f (m_Q f n i)).toInt = true
    · rw [if_pos h2] at h
      have := m_wk_b f (m_Q f n i) (m_te f n (m_Q f n i))
      omega
    · rw [if_neg h2] at h
      by_cases h3 : bD (f (m_Q f n i)).toInt = true
      · rw [if_pos h3] at h
        by_cases h4 : m_te f n (m_Q f n i) - m_Q f n i ≤ 4
        · have e : m_te f n (m_Q f n i) = z_E bD f n (m_Q f n i + 1) := by
            unfold m_te
            rw [if_neg h1, if_neg h2, if_pos h3]
          have hd : m_dg f (m_Q f n i) (m_te f n (m_Q f n i) - m_Q f n i) := fun j hj => by
            by_cases z : j = 0
            · subst z
              exact bD_t.mp h3
            · exact bD_t.mp (z_E_all _ (m_Q f n i + 1) rfl (m_Q f n i + j) (by omega) (by rw [← e]; omega))
          have hb := m_nv_b h4 hd
          have ev : t_V f n i = (m_nv f (m_Q f n i) (m_te f n (m_Q f n i) - m_Q f n i)).toInt := by
            unfold t_V m_VV m_tv
            rw [if_pos ⟨by omega, h3⟩]
          rw [ev]
          omega
        · rw [if_neg h4] at h
          omega
      · rw [if_neg h3] at h
        unfold m_sk at h
        repeat' split at h
        all_goals omega
set_option maxHeartbeats 4000000 in
set_option maxRecDepth 100000 in
theorem g_X12_fails_f (l : Launch) (D : va_G) (cy : Nat → ClassId) (b : Nat) (S : Nat → Bool) (μ0 : mM) (hS36 : S 36 = true) (k : Int32) (μ : mM) (hI : IY S μ0 μ) : m_Ci l yX12_fails cX12_fails 2 ((some .int)) 0 D cy b LAY μ [.ref (b + 81), .int k] (fun r ν => IY S μ0 ν ∧ (r = -1 ∧ ν.1 81 54 = k ∧ ν.1 81 55 = ν.1 81 37)) := by
  unfold m_Ci
  refine m_of (by decide) (Nat.le_of_ble_eq_true rfl) ?_
  intro p e s m below meth c hx hb hr hml hown hts hlocks _ hW ls hl
  have hown : s.vm.findClass RX12 = some m.cls := hown
  have hl : lv_has ls 2 [(0, .ref (b + 81)), (1, .int k)] := hl
  refine lv_aload_n hx hb dX12_fails_0 rfl (lv_at hl 0 rfl) ?_
  refine lv_iload_n hx hb dX12_fails_1 rfl (lv_at hl 1 rfl) ?_
  refine m_puti hx hb hts hown hW (81) 54 rfl rfl cw_12 tyX12_ok nmX12 rfl (by decide) k_X12_273 rfl rfl rfl dX12_fails_2 (fun H locs hW _ => ?_)
  generalize hμ1 : m_si μ (81) 54 k = μ1 at hW
  have hI := hI.si0 hμ1 rfl hS36
  refine lv_aload_n hx hb dX12_fails_5 rfl (lv_at hl 0 rfl) ?_
  refine lv_aload_n hx hb dX12_fails_6 rfl (lv_at hl 0 rfl) ?_
  refine m_geti hx hb hts hown hW (81) 37 rfl rfl cw_12 rfl (by decide) k_X12_251 dX12_fails_7 ?_
  refine lv_topi (fun x2 ex2 => ?_)
  have bx2 : 0 ≤ x2.toInt ∧ x2.toInt ≤ 400 := by rw [ex2]; exact hI.1 _ _ _ _ rfl
  refine m_puti hx hb hts hown hW (81) 55 rfl rfl cw_12 tyX12_ok nmX12 rfl (by decide) k_X12_276 rfl rfl rfl dX12_fails_10 (fun H locs hW _ => ?_)
  generalize hμ3 : m_si μ1 (81) 55 x2 = μ3 at hW
  have hI := hI.si0 hμ3 rfl hS36
  refine lv_iconst (v := (-1)) hx hb dX12_fails_13 (by decide) ?_
  exact m_iret hx hb hr hlocks hW rfl (⟨hI, ⟨rfl, by rw [show μ3.1 81 54 = k from by rw [← hμ3, ← hμ1]; first | rfl | exact if_pos ⟨rfl, rfl⟩], by rw [show μ3.1 81 55 = x2 from by rw [← hμ3]; first | rfl | exact if_pos ⟨rfl, rfl⟩, show μ3.1 81 37 = x2 from by rw [← hμ3]; exact ex2.symm]⟩⟩) dX12_fails_14
set_option maxHeartbeats 4000000 in
set_option maxRecDepth 100000 in
theorem g_X12_isWord_f (l : Launch) (D : va_G) (cy : Nat → ClassId) (b : Nat) (k : Int32) (μ : mM) (hI : IX μ) : m_Ci l yX12_isWord cX12_isWord 2 ((some .boolean)) 0 D cy b LAY μ [.ref (b + 81), .int k] (fun r ν => μ = ν ∧ ((r = 1 ∧ (μ.1 81 38).toInt = 2 ∧ (μ.1 81 39).toInt = k.toInt) ∨ (r = 0 ∧ ¬ ((μ.1 81 38).toInt = 2 ∧ (μ.1 81 39).toInt = k.toInt)))) := by
  unfold m_Ci
  refine m_of (by decide) (Nat.le_of_ble_eq_true rfl) ?_
  intro p e s m below meth c hx hb hr hml hown hts hlocks _ hW ls hl
  have hown : s.vm.findClass RX12 = some m.cls := hown
  have hl : lv_has ls 2 [(0, .ref (b + 81)), (1, .int k)] := hl
  refine lv_aload_n hx hb dX12_isWord_0 rfl (lv_at hl 0 rfl) ?_
  refine m_geti hx hb hts hown hW (81) 38 rfl rfl cw_12 rfl (by decide) k_X12_254 dX12_isWord_1 ?_
  refine lv_topi (fun x1 ex1 => ?_)
  have bx1 : 0 ≤ x1.toInt ∧ x1.toInt ≤ 4 := by rw [ex1]; exact hI _ _ _ _ rfl
  refine lv_iconst (v := 2) hx hb dX12_isWord_4 (by decide) ?_
  refine lv_icmp_ne (tgt := 20) hx hb dX12_isWord_5 (by decide) (fun c2 => ?_) (fun c2 => ?_)
  · have i2 := m_c6 (rfl : x1.toInt = _) (by decide : (2 : Int32).toInt = 2) c2
    refine lv_iconst (v := 0) hx hb dX12_isWord_20 (by decide) ?_
    obtain ⟨x3, hx3⟩ : ∃ z, μ.1 81 39 = z := ⟨_, rfl⟩
    have bx3 : -1 ≤ x3.toInt ∧ x3.toInt ≤ 99999 := by rw [← hx3]; exact hI _ _ _ _ rfl
    exact m_iret hx hb hr hlocks hW (by decide) (⟨rfl, (by rw [show μ.1 81 38 = x1 from by exact ex1.symm, show μ.1 81 39 = x3 from by exact hx3]; exact Or.inr ⟨rfl, by omega⟩)⟩) dX12_isWord_21
  · have i2 := m_c5 (rfl : x1.toInt = _) (by decide : (2 : Int32).toInt = 2) c2
    refine lv_aload_n hx hb dX12_isWord_8 rfl (lv_at hl 0 rfl) ?_
    refine m_geti hx hb hts hown hW (81) 39 rfl rfl cw_12 rfl (by decide) k_X12_257 dX12_isWord_9 ?_
    refine lv_topi (fun x4 ex4 => ?_)
    have bx4 : -1 ≤ x4.toInt ∧ x4.toInt ≤ 99999 := by rw [ex4]; exact hI _ _ _ _ rfl
    refine lv_iload_n hx hb dX12_isWord_12 rfl (lv_at hl 1 rfl) ?_
    refine lv_icmp_ne (tgt := 20) hx hb dX12_isWord_13 (by decide) (fun c5 => ?_) (fun c5 => ?_)
    · have i5 := m_c6 (rfl : x4.toInt = _) (rfl : k.toInt = _) c5
      refine lv_iconst (v := 0) hx hb dX12_isWord_20 (by decide) ?_
      exact m_iret hx hb hr hlocks hW (by decide) (⟨rfl, (by rw [show μ.1 81 38 = x1 from by exact ex1.symm, show μ.1 81 39 = x4 from by exact ex4.symm]; exact Or.inr ⟨rfl, by omega⟩)⟩) dX12_isWord_21
    · have i5 := m_c5 (rfl : x4.toInt = _) (rfl : k.toInt = _) c5
      refine lv_iconst (v := 1) hx hb dX12_isWord_16 (by decide) ?_
      refine lv_goto (tgt := 21) hx hb dX12_isWord_17 (by decide) ?_
      exact m_iret hx hb hr hlocks hW (by decide) (⟨rfl, (by rw [show μ.1 81 38 = x1 from by exact ex1.symm, show μ.1 81 39 = x4 from by exact ex4.symm]; exact Or.inl ⟨rfl, by omega⟩)⟩) dX12_isWord_21
set_option maxHeartbeats 4000000 in
set_option maxRecDepth 100000 in
theorem g_X12_isSign_f (l : Launch) (D : va_G) (cy : Nat → ClassId) (b : Nat) (k : Int32) (μ : mM) (hI : IX μ) : m_Ci l yX12_isSign cX12_isSign 2 ((some .boolean)) 0 D cy b LAY μ [.ref (b + 81), .int k] (fun r ν => μ = ν ∧ ((r = 1 ∧ (μ.1 81 38).toInt = 4 ∧ (μ.1 81 39).toInt = k.toInt) ∨ (r = 0 ∧ ¬ ((μ.1 81 38).toInt = 4 ∧ (μ.1 81 39).toInt = k.toInt)))) := by
  unfold m_Ci
  refine m_of (by decide) (Nat.le_of_ble_eq_true rfl) ?_
  intro p e s m below meth c hx hb hr hml hown hts hlocks _ hW ls hl
  have hown : s.vm.findClass RX12 = some m.cls := hown
  have hl : lv_has ls 2 [(0, .ref (b + 81)), (1, .int k)] := hl
  refine lv_aload_n hx hb dX12_isSign_0 rfl (lv_at hl 0 rfl) ?_
  refine m_geti hx hb hts hown hW (81) 38 rfl rfl cw_12 rfl (by decide) k_X12_254 dX12_isSign_1 ?_
  refine lv_topi (fun x1 ex1 => ?_)
  have bx1 : 0 ≤ x1.toInt ∧ x1.toInt ≤ 4 := by rw [ex1]; exact hI _ _ _ _ rfl
  refine lv_iconst (v := 4) hx hb dX12_isSign_4 (by decide) ?_
  refine lv_icmp_ne (tgt := 20) hx hb dX12_isSign_5 (by decide) (fun c2 => ?_) (fun c2 => ?_)
  · have i2 := m_c6 (rfl : x1.toInt = _) (by decide : (4 : Int32).toInt = 4) c2
    refine lv_iconst (v := 0) hx hb dX12_isSign_20 (by decide) ?_
    obtain ⟨x3, hx3⟩ : ∃ z, μ.1 81 39 = z := ⟨_, rfl⟩
    have bx3 : -1 ≤ x3.toInt ∧ x3.toInt ≤ 99999 := by rw [← hx3]; exact hI _ _ _ _ rfl
    exact m_iret hx hb hr hlocks hW (by decide) (⟨rfl, (by rw [show μ.1 81 38 = x1 from by exact ex1.symm, show μ.1 81 39 = x3 from by exact hx3]; exact Or.inr ⟨rfl, by omega⟩)⟩) dX12_isSign_21
  · have i2 := m_c5 (rfl : x1.toInt = _) (by decide : (4 : Int32).toInt = 4) c2
    refine lv_aload_n hx hb dX12_isSign_8 rfl (lv_at hl 0 rfl) ?_
    refine m_geti hx hb hts hown hW (81) 39 rfl rfl cw_12 rfl (by decide) k_X12_257 dX12_isSign_9 ?_
    refine lv_topi (fun x4 ex4 => ?_)
    have bx4 : -1 ≤ x4.toInt ∧ x4.toInt ≤ 99999 := by rw [ex4]; exact hI _ _ _ _ rfl
    refine lv_iload_n hx hb dX12_isSign_12 rfl (lv_at hl 1 rfl) ?_
    refine lv_icmp_ne (tgt := 20) hx hb dX12_isSign_13 (by decide) (fun c5 => ?_) (fun c5 => ?_)
    · have i5 := m_c6 (rfl : x4.toInt = _) (rfl : k.toInt = _) c5
      refine lv_iconst (v := 0) hx hb dX12_isSign_20 (by decide) ?_
      exact m_iret hx hb hr hlocks hW (by decide) (⟨rfl, (by rw [show μ.1 81 38 = x1 from by exact ex1.symm, show μ.1 81 39 = x4 from by exact ex4.symm]; exact Or.inr ⟨rfl, by omega⟩)⟩) dX12_isSign_21
    · have i5 := m_c5 (rfl : x4.toInt = _) (rfl : k.toInt = _) c5
      refine lv_iconst (v := 1) hx hb dX12_isSign_16 (by decide) ?_
      refine lv_goto (tgt := 21) hx hb dX12_isSign_17 (by decide) ?_
      exact m_iret hx hb hr hlocks hW (by decide) (⟨rfl, (by rw [show μ.1 81 38 = x1 from by exact ex1.symm, show μ.1 81 39 = x4 from by exact ex4.symm]; exact Or.inl ⟨rfl, by omega⟩)⟩) dX12_isSign_21
set_option maxHeartbeats 4000000 in
set_option maxRecDepth 100000 in
theorem g_X12_readNumber_g (l : Launch) (D : va_G) (cy : Nat → ClassId) (b : Nat) (S : Nat → Bool) (μ0 : mM) (hS24 : S 24 = true) (hS36 : S 36 = true) (av : Int32) (h_g : 0 ≤ av.toInt ∧ av.toInt ≤ 400) (t : Int32) (h_tt : 0 ≤ t.toInt ∧ t.toInt ≤ 400) (fT : Nat → Int32) (gi : Nat) (μ : mM) (hI : IY S μ0 μ) (h_av : μ.1 81 36 = av) (htp : μ.1 81 35 = t) (hfT : μ.1 106 = fT) (hRW : m_RW μ) (hms : m_MS μ fT t.toNatClampNeg gi) : m_Ci l yX12_readNumber cX12_readNumber 1 ((some .int)) 3 D cy b LAY μ [.ref (b + 81)] (fun r ν => IY S μ0 ν ∧ ((r = -1 ∧ ¬ (t_K fT t.toNatClampNeg) (gi + 1) = 2 ∧ m_FT ν (1, (t_L fT t.toNatClampNeg) (gi + 1))) ∨ ((0 ≤ r.toInt ∧ r.toInt ≤ 9999 ∧ av.toInt ≤ (ν.1 81 37).toInt ∧ (ν.1 81 37).toInt + 1 ≤ (ν.1 81 36).toInt) ∧ (t_K fT t.toNatClampNeg) (gi + 1) = 2 ∧ r.toInt = (t_V fT t.toNatClampNeg) (gi + 1) ∧ m_MS ν fT t.toNatClampNeg (gi + 1)))) := by
  unfold m_Ci
  refine m_of (by decide) (Nat.le_of_ble_eq_true rfl) ?_
  intro p e s m below meth c hx hb hr hml hown hts hlocks _ hW ls hl
  have hown : s.vm.findClass RX12 = some m.cls := hown
  have hl : lv_has ls 1 [(0, .ref (b + 81))] := hl
  refine lv_aload_n hx hb dX12_readNumber_0 rfl (lv_at hl 0 rfl) ?_
  have hal1 := hms.at_le
  rw [show μ.1 81 36 = av from by exact h_av] at hal1
  have ckt := m_ckI (x := t) (by omega)
  refine m_aV hW (m_runV (As := []) (rest := []) hx hb hml hown hts hW (81) (g_X12_reads_f l D cy b (fun g => [24].contains g) μ rfl av t (by omega) fT μ (IY.rf hI.1) (by exact h_av) (by exact htp) hfT hRW) mi_X12_reads k_X12_279 rfl rfl rfl hl.1 rfl (Nat.le_of_ble_eq_true rfl) dX12_readNumber_1 ⟨Nat.le_of_ble_eq_true rfl, Nat.le_of_ble_eq_true rfl⟩ ⟨Nat.le_of_ble_eq_true rfl, Nat.le_of_ble_eq_true rfl⟩) (fun μ2 H locs q2 hW => ?_)
  obtain ⟨hJ2, q2⟩ := q2
  have hI := hI.tr hJ2 (m_subL (by simp [hS24]))
  have hfT : μ2.1 106 = fT := by rw [show μ2.1 106 = μ.1 106 from funext fun j => hJ2.2.1 106 j rfl]; exact hfT
  have hRW : m_RW μ2 := hRW.fr hJ2 rfl
  obtain ⟨q2, q2f⟩ := q2
  have hms : m_MS μ2 fT t.toNatClampNeg (gi + 1) := hms.next (a := av) (by exact h_av) q2f
  obtain ⟨x3, hx3⟩ : ∃ z, μ2.1 81 36 = z := ⟨_, rfl⟩
  have bx3 : 0 ≤ x3.toInt ∧ x3.toInt ≤ 400 := by rw [← hx3]; exact hI.1 _ _ _ _ rfl
  rw [show μ2.1 81 36 = x3 from by exact hx3] at q2
  obtain ⟨x4, hx4⟩ : ∃ z, μ2.1 81 37 = z := ⟨_, rfl⟩
  have bx4 : 0 ≤ x4.toInt ∧ x4.toInt ≤ 400 := by rw [← hx4]; exact hI.1 _ _ _ _ rfl
  rw [show μ2.1 81 37 = x4 from by exact hx4] at q2
  obtain ⟨x5, hx5⟩ : ∃ z, μ2.1 81 38 = z := ⟨_, rfl⟩
  have bx5 : 0 ≤ x5.toInt ∧ x5.toInt ≤ 4 := by rw [← hx5]; exact hI.1 _ _ _ _ rfl
  rw [show μ2.1 81 38 = x5 from by exact hx5] at q2
  obtain ⟨x6, hx6⟩ : ∃ z, μ2.1 81 39 = z := ⟨_, rfl⟩
  have bx6 : -1 ≤ x6.toInt ∧ x6.toInt ≤ 99999 := by rw [← hx6]; exact hI.1 _ _ _ _ rfl
  rw [show μ2.1 81 39 = x6 from by exact hx6] at q2
  have hk7 : m_TQ ((t_K fT t.toNatClampNeg) (gi + 1)) (m_VV fT t.toNatClampNeg (gi + 1)) x5 x6 := by
    have z := hms.2.2
    rw [show μ2.1 81 38 = x5 from by exact hx5, show μ2.1 81 39 = x6 from by exact hx6] at z
    exact z
  refine lv_aload_n hx hb dX12_readNumber_4 rfl (lv_at hl 0 rfl) ?_
  refine m_geti hx hb hts hown hW (81) 38 rfl rfl cw_12 rfl (by decide) k_X12_254 dX12_readNumber_5 ?_
  refine lv_topi (fun x8 ex8 => ?_)
  have ex8 : x8 = x5 := by rw [ex8]; exact hx5
  have ex8 := ex8.symm
  subst ex8
  refine lv_iconst (v := 3) hx hb dX12_readNumber_8 (by decide) ?_
  refine lv_icmp_ne (tgt := 19) hx hb dX12_readNumber_9 (by decide) (fun c9 => ?_) (fun c9 => ?_)
  · have i9 := m_c6 (rfl : x5.toInt = _) (by decide : (3 : Int32).toInt = 3) c9
    refine lv_aload_n hx hb dX12_readNumber_19 rfl (lv_at hl 0 rfl) ?_
    refine lv_iconst (v := 1) hx hb dX12_readNumber_20 (by decide) ?_
    have l_1 : (1 : Int32).toInt = 1 := by decide
    refine m_aI hW (m_runV (As := [.int 1]) (rest := []) hx hb hml hown hts hW (81) (g_X12_fails_f l D cy b (fun g => [36].contains g) μ2 rfl 1 μ2 (IY.rf hI.1)) mi_X12_fails k_X12_282 rfl rfl rfl hl.1 rfl (Nat.le_of_ble_eq_true rfl) dX12_readNumber_21 ⟨Nat.le_of_ble_eq_true rfl, Nat.le_of_ble_eq_true rfl⟩ ⟨Nat.le_of_ble_eq_true rfl, Nat.le_of_ble_eq_true rfl⟩) (fun x10 μ10 H locs q10 hW => ?_)
    obtain ⟨hJ10, q10⟩ := q10
    have hI := hI.tr hJ10 (m_subL (by simp [hS36]))
    have hfT : μ10.1 106 = fT := by rw [show μ10.1 106 = μ2.1 106 from funext fun j => hJ10.2.1 106 j rfl]; exact hfT
    have hRW : m_RW μ10 := hRW.fr hJ10 rfl
    have hms : m_MS μ10 fT t.toNatClampNeg (gi + 1) := hms.fr hJ10 rfl
    obtain ⟨rfl, q101, q102⟩ := q10
    have hft : m_FT μ10 (1, (t_L fT t.toNatClampNeg) (gi + 1)) := ⟨by rw [q101]; rfl, by rw [q102]; exact hms.2.1⟩
    exact m_iret hx hb hr hlocks hW rfl (⟨hI, Or.inl ⟨rfl, (by have hz := hk7.t; omega), hft⟩⟩) dX12_readNumber_24
  · have i9 := m_c5 (rfl : x5.toInt = _) (by decide : (3 : Int32).toInt = 3) c9
    refine lv_aload_n hx hb dX12_readNumber_12 rfl (lv_at hl 0 rfl) ?_
    refine m_geti hx hb hts hown hW (81) 39 rfl rfl cw_12 rfl (by decide) k_X12_257 dX12_readNumber_13 ?_
    refine lv_topi (fun x11 ex11 => ?_)
    have ex11 : x11 = x6 := by rw [ex11]; exact hx6
    have ex11 := ex11.symm
    subst ex11
    refine lv_goto (tgt := 24) hx hb dX12_readNumber_16 (by decide) ?_
    have hK2 : (t_K fT t.toNatClampNeg) (gi + 1) = 2 := (by have hz := hk7.t; omega)
    have hvb := t_V_b (f := fT) (n := t.toNatClampNeg) (i := gi + 1) hK2
    have hv : x6.toInt = t_V fT t.toNatClampNeg (gi + 1) := by rw [hk7.n (by omega)]; rfl
    exact m_iret hx hb hr hlocks hW rfl (⟨hI, Or.inr ⟨⟨by omega, by omega, by rw [show μ2.1 81 37 = x4 from by exact hx4, show μ2.1 81 36 = x3 from by exact hx3]; omega⟩, hK2, hv, hms⟩⟩) dX12_readNumber_24
set_option maxHeartbeats 4000000 in
set_option maxRecDepth 100000 in
theorem g_X12_readUnit_g (l : Launch) (D : va_G) (cy : Nat → ClassId) (b : Nat) (S : Nat → Bool) (μ0 : mM) (hS24 : S 24 = true) (hS25 : S 25 = true) (hS34 : S 34 = true) (hS36 : S 36 = true) (av fv tk vv uv : Int32) (h_g : 0 ≤ av.toInt ∧ av.toInt ≤ 400 ∧ 0 ≤ fv.toInt ∧ fv.toInt ≤ 400 ∧ 0 ≤ tk.toInt ∧ tk.toInt ≤ 4 ∧ -1 ≤ vv.toInt ∧ vv.toInt ≤ 99999 ∧ 0 ≤ uv.toInt ∧ uv.toInt ≤ 400 ∧ uv.toInt ≤ fv.toInt ∧ fv.toInt ≤ av.toInt ∧ (tk.toInt = 0 ∨ fv.toInt + 1 ≤ av.toInt)) (t : Int32) (h_tt : 0 ≤ t.toInt ∧ t.toInt ≤ 400) (fT : Nat → Int32) (gi : Nat) (k : Int32) (μ : mM) (hI : IY S μ0 μ) (h_av : μ.1 81 36 = av) (h_fv : μ.1 81 37 = fv) (h_tk : μ.1 81 38 = tk) (h_vv : μ.1 81 39 = vv) (h_uv : μ.1 81 51 = uv) (htp : μ.1 81 35 = t) (hfT : μ.1 106 = fT) (hRW : m_RW μ) (hms : m_MS μ fT t.toNatClampNeg gi) : m_Ci l yX12_readUnit cX12_readUnit 4 ((some .int)) 3 D cy b LAY μ [.ref (b + 81), .int k] (fun r ν => IY S μ0 ν ∧ ((r = -1 ∧ ∃ e, a_T (t_K fT t.toNatClampNeg) (t_L fT t.toNatClampNeg) gi = .inl e ∧ m_FT ν e) ∨ (r = 0 ∧ ((ν.1 81 51).toInt ≤ (ν.1 81 37).toInt ∧ fv.toInt + 1 ≤ (ν.1 81 37).toInt ∧ (ν.1 81 37).toInt ≤ (ν.1 81 36).toInt ∧ ((ν.1 81 38).toInt = 0 ∨ (ν.1 81 37).toInt + 1 ≤ (ν.1 81 36).toInt)) ∧ ∃ j, a_T (t_K fT t.toNatClampNeg) (t_L fT t.toNatClampNeg) gi = .inr j ∧ m_MS ν fT t.toNatClampNeg j))) := by
  unfold m_Ci
  refine m_of (by decide) (Nat.le_of_ble_eq_true rfl) ?_
  intro p e s m below meth c hx hb hr hml hown hts hlocks _ hW ls hl
  have hown : s.vm.findClass RX12 = some m.cls := hown
  have hl : lv_has ls 4 [(0, .ref (b + 81)), (1, .int k)] := hl
  have hkk : m_TQ ((t_K fT t.toNatClampNeg) gi) (m_VV fT t.toNatClampNeg gi) tk vv := by have z := hms.2.2; rw [h_tk, h_vv] at z; exact z
  refine lv_aload_n hx hb dX12_readUnit_0 rfl (lv_at hl 0 rfl) ?_
  refine m_geti hx hb hts hown hW (81) 38 rfl rfl cw_12 rfl (by decide) k_X12_254 dX12_readUnit_1 ?_
  refine lv_topi (fun x1 ex1 => ?_)
  have ex1 : x1 = tk := by rw [ex1]; exact h_tk
  have ex1 := ex1.symm
  subst ex1
  refine lv_iconst (v := 2) hx hb dX12_readUnit_4 (by decide) ?_
  refine lv_icmp_ne (tgt := 27) hx hb dX12_readUnit_5 (by decide) (fun c2 => ?_) (fun c2 => ?_)
  · have i2 := m_c6 (rfl : tk.toInt = _) (by decide : (2 : Int32).toInt = 2) c2
    refine lv_iconst (v := 0) hx hb dX12_readUnit_27 (by decide) ?_
    refine lv_istore_n (lv' := [(2, .int 0), (0, .ref (b + 81)), (1, .int k)]) hx hb dX12_readUnit_28 rfl hl (by decide) rfl (fun ls hl => ?_)
    refine lv_iload_n hx hb dX12_readUnit_29 rfl (lv_at hl 0 rfl) ?_
    refine lv_if_ne (tgt := 47) hx hb dX12_readUnit_30 (by decide) (fun c => False.elim (by revert c; decide)) (fun _ => ?_)
    refine lv_aload_n hx hb dX12_readUnit_33 rfl (lv_at hl 1 rfl) ?_
    refine m_geti hx hb hts hown hW (81) 38 rfl rfl cw_12 rfl (by decide) k_X12_254 dX12_readUnit_34 ?_
    refine lv_topi (fun x3 ex3 => ?_)
    have ex3 : x3 = tk := by rw [ex3]; exact h_tk
    have ex3 := ex3.symm
    subst ex3
    refine lv_iconst (v := 3) hx hb dX12_readUnit_37 (by decide) ?_
    refine lv_icmp_eq (tgt := 47) hx hb dX12_readUnit_38 (by decide) (fun c4 => ?_) (fun c4 => ?_)
    · have i4 := m_c5 (rfl : tk.toInt = _) (by decide : (3 : Int32).toInt = 3) c4
      refine lv_sipush (v := 3200) hx hb dX12_readUnit_47 (by decide) ?_
      refine lv_aload_n hx hb dX12_readUnit_50 rfl (lv_at hl 1 rfl) ?_
      refine m_geti hx hb hts hown hW (81) 51 rfl rfl cw_12 rfl (by decide) k_X12_285 dX12_readUnit_51 ?_
      refine lv_topi (fun x5 ex5 => ?_)
      have ex5 : x5 = uv := by rw [ex5]; exact h_uv
      have ex5 := ex5.symm
      subst ex5
      refine lv_iadd hx hb dX12_readUnit_54 ?_
      refine lv_topi (fun x6 ex6 => ?_)
      have tx6 : x6.toInt = 3200 + uv.toInt := m_addI ex6 (by decide : (3200 : Int32).toInt = 3200) (rfl : uv.toInt = _) (by omega) (by omega)
      refine lv_istore_n (lv' := [(3, .int x6), (2, .int 0), (0, .ref (b + 81)), (1, .int k)]) hx hb dX12_readUnit_55 rfl hl (by decide) rfl (fun ls hl => ?_)
      refine lv_aload_n hx hb dX12_readUnit_56 rfl (lv_at hl 2 rfl) ?_
      refine m_getr hx hb hts hown hW (81) 48 (115) rfl rfl cw_12 rfl (by decide) k_X12_122 dX12_readUnit_57 ?_
      refine lv_iload_n hx hb dX12_readUnit_60 rfl (lv_at hl 0 rfl) ?_
      refine lv_iload_n hx hb dX12_readUnit_61 rfl (lv_at hl 3 rfl) ?_
      refine m_iast hx hb hW (115) rfl (m_ixI (rfl : x6.toInt = _) (by omega) (by omega)) dX12_readUnit_62 (fun H locs hW _ => ?_)
      generalize hμ7 : m_si μ (115) (x6 : Int32).toNatClampNeg k = μ7 at hW
      have hfT : μ7.1 106 = fT := by rw [← hμ7, m_si_row (by decide)]; exact hfT
      have hRW : m_RW μ7 := fun i hi => by rw [← hμ7, m_si_ne (by decide)]; exact hRW i hi
      have hms : m_MS μ7 fT t.toNatClampNeg gi := hms.si hμ7 (fun q => absurd q (by decide))
      have hI := hI.si0 hμ7 rfl hS25
      refine lv_aload_n hx hb dX12_readUnit_63 rfl (lv_at hl 2 rfl) ?_
      refine m_getr hx hb hts hown hW (81) 49 (116) rfl rfl cw_12 rfl (by decide) k_X12_125 dX12_readUnit_64 ?_
      refine lv_iload_n hx hb dX12_readUnit_67 rfl (lv_at hl 0 rfl) ?_
      refine lv_iload_n hx hb dX12_readUnit_68 rfl (lv_at hl 1 rfl) ?_
      refine lv_if_eq (tgt := 79) hx hb dX12_readUnit_69 (by decide) (fun _ => ?_) (fun c => False.elim (by revert c; decide))
      refine lv_iconst (v := 0) hx hb dX12_readUnit_79 (by decide) ?_
      refine m_iast hx hb hW (116) rfl (m_ixI (rfl : x6.toInt = _) (by omega) (by omega)) dX12_readUnit_80 (fun H locs hW _ => ?_)
      generalize hμ8 : m_si μ7 (116) (x6 : Int32).toNatClampNeg 0 = μ8 at hW
      have hfT : μ8.1 106 = fT := by rw [← hμ8, m_si_row (by decide)]; exact hfT
      have hRW : m_RW μ8 := fun i hi => by rw [← hμ8, m_si_ne (by decide)]; exact hRW i hi
      have hms : m_MS μ8 fT t.toNatClampNeg gi := hms.si hμ8 (fun q => absurd q (by decide))
      have hI := hI.si0 hμ8 rfl hS25
      refine lv_aload_n hx hb dX12_readUnit_81 rfl (lv_at hl 2 rfl) ?_
      refine m_getr hx hb hts hown hW (81) 50 (117) rfl rfl cw_12 rfl (by decide) k_X12_128 dX12_readUnit_82 ?_
      refine lv_iload_n hx hb dX12_readUnit_85 rfl (lv_at hl 0 rfl) ?_
      refine lv_aload_n hx hb dX12_readUnit_86 rfl (lv_at hl 2 rfl) ?_
      refine m_geti hx hb hts hown hW (81) 39 rfl rfl cw_12 rfl (by decide) k_X12_257 dX12_readUnit_87 ?_
      refine lv_topi (fun x9 ex9 => ?_)
      have ex9 : x9 = vv := by rw [ex9, ← hμ8, ← hμ7]; exact h_vv
      have ex9 := ex9.symm
      subst ex9
      refine m_iast hx hb hW (117) rfl (m_ixI (rfl : x6.toInt = _) (by omega) (by omega)) dX12_readUnit_90 (fun H locs hW _ => ?_)
      generalize hμ10 : m_si μ8 (117) (x6 : Int32).toNatClampNeg vv = μ10 at hW
      have hfT : μ10.1 106 = fT := by rw [← hμ10, m_si_row (by decide)]; exact hfT
      have hRW : m_RW μ10 := fun i hi => by rw [← hμ10, m_si_ne (by decide)]; exact hRW i hi
      have hms : m_MS μ10 fT t.toNatClampNeg gi := hms.si hμ10 (fun q => absurd q (by decide))
      have hI := hI.si0 hμ10 rfl hS25
      refine lv_aload_n hx hb dX12_readUnit_91 rfl (lv_at hl 2 rfl) ?_
      refine lv_aload_n hx hb dX12_readUnit_92 rfl (lv_at hl 2 rfl) ?_
      refine m_geti hx hb hts hown hW (81) 51 rfl rfl cw_12 rfl (by decide) k_X12_285 dX12_readUnit_93 ?_
      refine lv_topi (fun x11 ex11 => ?_)
      have ex11 : x11 = uv := by rw [ex11, ← hμ10, ← hμ8, ← hμ7]; exact h_uv
      have ex11 := ex11.symm
      subst ex11
      refine lv_iconst (v := 1) hx hb dX12_readUnit_96 (by decide) ?_
      refine lv_iadd hx hb dX12_readUnit_97 ?_
      refine lv_topi (fun x12 ex12 => ?_)
      have tx12 : x12.toInt = uv.toInt + 1 := m_addI ex12 (rfl : uv.toInt = _) (by decide : (1 : Int32).toInt = 1) (by omega) (by omega)
      refine m_puti hx hb hts hown hW (81) 51 rfl rfl cw_12 tyX12_ok nmX12 rfl (by decide) k_X12_285 rfl rfl rfl dX12_readUnit_98 (fun H locs hW _ => ?_)
      generalize hμ13 : m_si μ10 (81) 51 x12 = μ13 at hW
      have hfT : μ13.1 106 = fT := by rw [← hμ13, m_si_row (by decide)]; exact hfT
      have hRW : m_RW μ13 := fun i hi => by rw [← hμ13, m_si_ne (by decide)]; exact hRW i hi
      have hms : m_MS μ13 fT t.toNatClampNeg gi := hms.si hμ13 (fun _ => by decide)
      have hI := hI.si1 hμ13 rfl (by omega) hS34
      refine lv_aload_n hx hb dX12_readUnit_101 rfl (lv_at hl 2 rfl) ?_
      have hal14 := hms.at_le
      rw [show μ13.1 81 36 = av from by rw [← hμ13, ← hμ10, ← hμ8, ← hμ7]; exact h_av] at hal14
      have ckt := m_ckI (x := t) (by omega)
      refine m_aV hW (m_runV (As := []) (rest := []) hx hb hml hown hts hW (81) (g_X12_reads_f l D cy b (fun g => [24].contains g) μ13 rfl av t (by omega) fT μ13 (IY.rf hI.1) (by rw [← hμ13, ← hμ10, ← hμ8, ← hμ7]; exact h_av) (by rw [← hμ13, ← hμ10, ← hμ8, ← hμ7]; exact htp) hfT hRW) mi_X12_reads k_X12_279 rfl rfl rfl hl.1 rfl (Nat.le_of_ble_eq_true rfl) dX12_readUnit_102 ⟨Nat.le_of_ble_eq_true rfl, Nat.le_of_ble_eq_true rfl⟩ ⟨Nat.le_of_ble_eq_true rfl, Nat.le_of_ble_eq_true rfl⟩) (fun μ15 H locs q15 hW => ?_)
      obtain ⟨hJ15, q15⟩ := q15
      have hI := hI.tr hJ15 (m_subL (by simp [hS24]))
      have hfT : μ15.1 106 = fT := by rw [show μ15.1 106 = μ13.1 106 from funext fun j => hJ15.2.1 106 j rfl]; exact hfT
      have hRW : m_RW μ15 := hRW.fr hJ15 rfl
      obtain ⟨q15, q15f⟩ := q15
      have hms : m_MS μ15 fT t.toNatClampNeg (gi + 1) := hms.next (a := av) (by rw [← hμ13, ← hμ10, ← hμ8, ← hμ7]; exact h_av) q15f
      obtain ⟨x16, hx16⟩ : ∃ z, μ15.1 81 36 = z := ⟨_, rfl⟩
      have bx16 : 0 ≤ x16.toInt ∧ x16.toInt ≤ 400 := by rw [← hx16]; exact hI.1 _ _ _ _ rfl
      rw [show μ15.1 81 36 = x16 from by exact hx16] at q15
      obtain ⟨x17, hx17⟩ : ∃ z, μ15.1 81 37 = z := ⟨_, rfl⟩
      have bx17 : 0 ≤ x17.toInt ∧ x17.toInt ≤ 400 := by rw [← hx17]; exact hI.1 _ _ _ _ rfl
      rw [show μ15.1 81 37 = x17 from by exact hx17] at q15
      obtain ⟨x18, hx18⟩ : ∃ z, μ15.1 81 38 = z := ⟨_, rfl⟩
      have bx18 : 0 ≤ x18.toInt ∧ x18.toInt ≤ 4 := by rw [← hx18]; exact hI.1 _ _ _ _ rfl
      rw [show μ15.1 81 38 = x18 from by exact hx18] at q15
      obtain ⟨x19, hx19⟩ : ∃ z, μ15.1 81 39 = z := ⟨_, rfl⟩
      have bx19 : -1 ≤ x19.toInt ∧ x19.toInt ≤ 99999 := by rw [← hx19]; exact hI.1 _ _ _ _ rfl
      rw [show μ15.1 81 39 = x19 from by exact hx19] at q15
      have hk20 : m_TQ ((t_K fT t.toNatClampNeg) (gi + 1)) (m_VV fT t.toNatClampNeg (gi + 1)) x18 x19 := by
        have z := hms.2.2
        rw [show μ15.1 81 38 = x18 from by exact hx18, show μ15.1 81 39 = x19 from by exact hx19] at z
        exact z
      refine lv_iconst (v := 0) hx hb dX12_readUnit_105 (by decide) ?_
      exact m_iret hx hb hr hlocks hW rfl (⟨hI, Or.inr ⟨rfl, by rw [show μ15.1 81 51 = x12 from by exact ((hJ15.2.1 81 51 rfl).trans (by rw [← hμ13]; first | rfl | exact if_pos ⟨rfl, rfl⟩)), show μ15.1 81 37 = x17 from by exact hx17, show μ15.1 81 36 = x16 from by exact hx16, show μ15.1 81 38 = x18 from by exact hx18]; omega, _, (by exact a_T1 (by have hz := hkk.all; omega)), hms⟩⟩) dX12_readUnit_106
    · have i4 := m_c6 (rfl : tk.toInt = _) (by decide : (3 : Int32).toInt = 3) c4
      refine lv_aload_n hx hb dX12_readUnit_41 rfl (lv_at hl 1 rfl) ?_
      refine lv_iconst (v := 1) hx hb dX12_readUnit_42 (by decide) ?_
      have l_1 : (1 : Int32).toInt = 1 := by decide
      refine m_aI hW (m_runV (As := [.int 1]) (rest := []) hx hb hml hown hts hW (81) (g_X12_fails_f l D cy b (fun g => [36].contains g) μ rfl 1 μ (IY.rf hI.1)) mi_X12_fails k_X12_282 rfl rfl rfl hl.1 rfl (Nat.le_of_ble_eq_true rfl) dX12_readUnit_43 ⟨Nat.le_of_ble_eq_true rfl, Nat.le_of_ble_eq_true rfl⟩ ⟨Nat.le_of_ble_eq_true rfl, Nat.le_of_ble_eq_true rfl⟩) (fun x21 μ21 H locs q21 hW => ?_)
      obtain ⟨hJ21, q21⟩ := q21
      have hI := hI.tr hJ21 (m_subL (by simp [hS36]))
      have hfT : μ21.1 106 = fT := by rw [show μ21.1 106 = μ.1 106 from funext fun j => hJ21.2.1 106 j rfl]; exact hfT
      have hRW : m_RW μ21 := hRW.fr hJ21 rfl
      have hms : m_MS μ21 fT t.toNatClampNeg gi := hms.fr hJ21 rfl
      obtain ⟨rfl, q211, q212⟩ := q21
      have hft : m_FT μ21 (1, (t_L fT t.toNatClampNeg) gi) := ⟨by rw [q211]; rfl, by rw [q212]; exact hms.2.1⟩
      exact m_iret hx hb hr hlocks hW rfl (⟨hI, Or.inl ⟨rfl, (1, (t_L fT t.toNatClampNeg) gi), (by exact a_T0 (by have hz := hkk.all; omega)), hft⟩⟩) dX12_readUnit_46
  · have i2 := m_c5 (rfl : tk.toInt = _) (by decide : (2 : Int32).toInt = 2) c2
    refine lv_aload_n hx hb dX12_readUnit_8 rfl (lv_at hl 0 rfl) ?_
    refine lv_aload_n hx hb dX12_readUnit_9 rfl (lv_at hl 0 rfl) ?_
    refine m_geti hx hb hts hown hW (81) 39 rfl rfl cw_12 rfl (by decide) k_X12_257 dX12_readUnit_10 ?_
    refine lv_topi (fun x22 ex22 => ?_)
    have ex22 : x22 = vv := by rw [ex22]; exact h_vv
    have ex22 := ex22.symm
    subst ex22
    refine lv_bipush (v := 14) hx hb dX12_readUnit_13 (by decide) ?_
    refine lv_bipush (v := 18) hx hb dX12_readUnit_15 (by decide) ?_
    have l_14 : (14 : Int32).toInt = 14 := by decide
    have l_18 : (18 : Int32).toInt = 18 := by decide
    refine m_aI hW (m_runV (As := [.int vv, .int 14, .int 18]) (rest := []) hx hb hml hown hts hW (81) (g_X12_isIn l D cy b vv 14 18 μ hI.1) mi_X12_isIn k_X12_170 rfl rfl rfl hl.1 rfl (Nat.le_of_ble_eq_true rfl) dX12_readUnit_17 ⟨Nat.le_of_ble_eq_true rfl, Nat.le_of_ble_eq_true rfl⟩ ⟨Nat.le_of_ble_eq_true rfl, Nat.le_of_ble_eq_true rfl⟩) (fun x23 μ23 H locs q23 hW => ?_)
    obtain ⟨q23_m, q23⟩ := q23
    subst q23_m
    rcases q23 with ⟨rfl, q23⟩ | ⟨rfl, q23⟩
    · refine lv_if_eq (tgt := 27) hx hb dX12_readUnit_20 (by decide) (fun c => False.elim (by revert c; decide)) (fun _ => ?_)
      refine lv_iconst (v := 1) hx hb dX12_readUnit_23 (by decide) ?_
      refine lv_goto (tgt := 28) hx hb dX12_readUnit_24 (by decide) ?_
      refine lv_istore_n (lv' := [(2, .int 1), (0, .ref (b + 81)), (1, .int k)]) hx hb dX12_readUnit_28 rfl hl (by decide) rfl (fun ls hl => ?_)
      refine lv_iload_n hx hb dX12_readUnit_29 rfl (lv_at hl 0 rfl) ?_
      refine lv_if_ne (tgt := 47) hx hb dX12_readUnit_30 (by decide) (fun _ => ?_) (fun c => False.elim (by revert c; decide))
      refine lv_sipush (v := 3200) hx hb dX12_readUnit_47 (by decide) ?_
      refine lv_aload_n hx hb dX12_readUnit_50 rfl (lv_at hl 1 rfl) ?_
      refine m_geti hx hb hts hown hW (81) 51 rfl rfl cw_12 rfl (by decide) k_X12_285 dX12_readUnit_51 ?_
      refine lv_topi (fun x24 ex24 => ?_)
      have ex24 : x24 = uv := by rw [ex24]; exact h_uv
      have ex24 := ex24.symm
      subst ex24
      refine lv_iadd hx hb dX12_readUnit_54 ?_
      refine lv_topi (fun x25 ex25 => ?_)
      have tx25 : x25.toInt = 3200 + uv.toInt := m_addI ex25 (by decide : (3200 : Int32).toInt = 3200) (rfl : uv.toInt = _) (by omega) (by omega)
      refine lv_istore_n (lv' := [(3, .int x25), (2, .int 1), (0, .ref (b + 81)), (1, .int k)]) hx hb dX12_readUnit_55 rfl hl (by decide) rfl (fun ls hl => ?_)
      refine lv_aload_n hx hb dX12_readUnit_56 rfl (lv_at hl 2 rfl) ?_
      refine m_getr hx hb hts hown hW (81) 48 (115) rfl rfl cw_12 rfl (by decide) k_X12_122 dX12_readUnit_57 ?_
      refine lv_iload_n hx hb dX12_readUnit_60 rfl (lv_at hl 0 rfl) ?_
      refine lv_iload_n hx hb dX12_readUnit_61 rfl (lv_at hl 3 rfl) ?_
      refine m_iast hx hb hW (115) rfl (m_ixI (rfl : x25.toInt = _) (by omega) (by omega)) dX12_readUnit_62 (fun H locs hW _ => ?_)
      generalize hμ26 : m_si μ (115) (x25 : Int32).toNatClampNeg k = μ26 at hW
      have hfT : μ26.1 106 = fT := by rw [← hμ26, m_si_row (by decide)]; exact hfT
      have hRW : m_RW μ26 := fun i hi => by rw [← hμ26, m_si_ne (by decide)]; exact hRW i hi
      have hms : m_MS μ26 fT t.toNatClampNeg gi := hms.si hμ26 (fun q => absurd q (by decide))
      have hI := hI.si0 hμ26 rfl hS25
      refine lv_aload_n hx hb dX12_readUnit_63 rfl (lv_at hl 2 rfl) ?_
      refine m_getr hx hb hts hown hW (81) 49 (116) rfl rfl cw_12 rfl (by decide) k_X12_125 dX12_readUnit_64 ?_
      refine lv_iload_n hx hb dX12_readUnit_67 rfl (lv_at hl 0 rfl) ?_
      refine lv_iload_n hx hb dX12_readUnit_68 rfl (lv_at hl 1 rfl) ?_
      refine lv_if_eq (tgt := 79) hx hb dX12_readUnit_69 (by decide) (fun c => False.elim (by revert c; decide)) (fun _ => ?_)
      refine lv_aload_n hx hb dX12_readUnit_72 rfl (lv_at hl 2 rfl) ?_
      refine m_geti hx hb hts hown hW (81) 39 rfl rfl cw_12 rfl (by decide) k_X12_257 dX12_readUnit_73 ?_
      refine lv_topi (fun x27 ex27 => ?_)
      have ex27 : x27 = vv := by rw [ex27, ← hμ26]; exact h_vv
      have ex27 := ex27.symm
      subst ex27
      refine lv_goto (tgt := 80) hx hb dX12_readUnit_76 (by decide) ?_
      refine m_iast hx hb hW (116) rfl (m_ixI (rfl : x25.toInt = _) (by omega) (by omega)) dX12_readUnit_80 (fun H locs hW _ => ?_)
      generalize hμ28 : m_si μ26 (116) (x25 : Int32).toNatClampNeg vv = μ28 at hW
      have hfT : μ28.1 106 = fT := by rw [← hμ28, m_si_row (by decide)]; exact hfT
      have hRW : m_RW μ28 := fun i hi => by rw [← hμ28, m_si_ne (by decide)]; exact hRW i hi
      have hms : m_MS μ28 fT t.toNatClampNeg gi := hms.si hμ28 (fun q => absurd q (by decide))
      have hI := hI.si0 hμ28 rfl hS25
      refine lv_aload_n hx hb dX12_readUnit_81 rfl (lv_at hl 2 rfl) ?_
      refine m_getr hx hb hts hown hW (81) 50 (117) rfl rfl cw_12 rfl (by decide) k_X12_128 dX12_readUnit_82 ?_
      refine lv_iload_n hx hb dX12_readUnit_85 rfl (lv_at hl 0 rfl) ?_
      refine lv_aload_n hx hb dX12_readUnit_86 rfl (lv_at hl 2 rfl) ?_
      refine m_geti hx hb hts hown hW (81) 39 rfl rfl cw_12 rfl (by decide) k_X12_257 dX12_readUnit_87 ?_
      refine lv_topi (fun x29 ex29 => ?_)
      have ex29 : x29 = vv := by rw [ex29, ← hμ28, ← hμ26]; exact h_vv
      have ex29 := ex29.symm
      subst ex29
      refine m_iast hx hb hW (117) rfl (m_ixI (rfl : x25.toInt = _) (by omega) (by omega)) dX12_readUnit_90 (fun H locs hW _ => ?_)
      generalize hμ30 : m_si μ28 (117) (x25 : Int32).toNatClampNeg vv = μ30 at hW
      have hfT : μ30.1 106 = fT := by rw [← hμ30, m_si_row (by decide)]; exact hfT
      have hRW : m_RW μ30 := fun i hi => by rw [← hμ30, m_si_ne (by decide)]; exact hRW i hi
      have hms : m_MS μ30 fT t.toNatClampNeg gi := hms.si hμ30 (fun q => absurd q (by decide))
      have hI := hI.si0 hμ30 rfl hS25
      refine lv_aload_n hx hb dX12_readUnit_91 rfl (lv_at hl 2 rfl) ?_
      refine lv_aload_n hx hb dX12_readUnit_92 rfl (lv_at hl 2 rfl) ?_
      refine m_geti hx hb hts hown hW (81) 51 rfl rfl cw_12 rfl (by decide) k_X12_285 dX12_readUnit_93 ?_
      refine lv_topi (fun x31 ex31 => ?_)
      have ex31 : x31 = uv := by rw [ex31, ← hμ30, ← hμ28, ← hμ26]; exact h_uv
      have ex31 := ex31.symm
      subst ex31
      refine lv_iconst (v := 1) hx hb dX12_readUnit_96 (by decide) ?_
      refine lv_iadd hx hb dX12_readUnit_97 ?_
      refine lv_topi (fun x32 ex32 => ?_)
      have tx32 : x32.toInt = uv.toInt + 1 := m_addI ex32 (rfl : uv.toInt = _) (by decide : (1 : Int32).toInt = 1) (by omega) (by omega)
      refine m_puti hx hb hts hown hW (81) 51 rfl rfl cw_12 tyX12_ok nmX12 rfl (by decide) k_X12_285 rfl rfl rfl dX12_readUnit_98 (fun H locs hW _ => ?_)
      generalize hμ33 : m_si μ30 (81) 51 x32 = μ33 at hW
      have hfT : μ33.1 106 = fT := by rw [← hμ33, m_si_row (by decide)]; exact hfT
      have hRW : m_RW μ33 := fun i hi => by rw [← hμ33, m_si_ne (by decide)]; exact hRW i hi
      have hms : m_MS μ33 fT t.toNatClampNeg gi := hms.si hμ33 (fun _ => by decide)
      have hI := hI.si1 hμ33 rfl (by omega) hS34
      refine lv_aload_n hx hb dX12_readUnit_101 rfl (lv_at hl 2 rfl) ?_
      have hal34 := hms.at_le
      rw [show μ33.1 81 36 = av from by rw [← hμ33, ← hμ30, ← hμ28, ← hμ26]; exact h_av] at hal34
      have ckt := m_ckI (x := t) (by omega)
      refine m_aV hW (m_runV (As := []) (rest := []) hx hb hml hown hts hW (81) (g_X12_reads_f l D cy b (fun g => [24].contains g) μ33 rfl av t (by omega) fT μ33 (IY.rf hI.1) (by rw [← hμ33, ← hμ30, ← hμ28, ← hμ26]; exact h_av) (by rw [← hμ33, ← hμ30, ← hμ28, ← hμ26]; exact htp) hfT hRW) mi_X12_reads k_X12_279 rfl rfl rfl hl.1 rfl (Nat.le_of_ble_eq_true rfl) dX12_readUnit_102 ⟨Nat.le_of_ble_eq_true rfl, Nat.le_of_ble_eq_true rfl⟩ ⟨Nat.le_of_ble_eq_true rfl, Nat.le_of_ble_eq_true rfl⟩) (fun μ35 H locs q35 hW => ?_)
      obtain ⟨hJ35, q35⟩ := q35
      have hI := hI.tr hJ35 (m_subL (by simp [hS24]))
      have hfT : μ35.1 106 = fT := by rw [show μ35.1 106 = μ33.1 106 from funext fun j => hJ35.2.1 106 j rfl]; exact hfT
      have hRW : m_RW μ35 := hRW.fr hJ35 rfl
      obtain ⟨q35, q35f⟩ := q35
      have hms : m_MS μ35 fT t.toNatClampNeg (gi + 1) := hms.next (a := av) (by rw [← hμ33, ← hμ30, ← hμ28, ← hμ26]; exact h_av) q35f
      obtain ⟨x36, hx36⟩ : ∃ z, μ35.1 81 36 = z := ⟨_, rfl⟩
      have bx36 : 0 ≤ x36.toInt ∧ x36.toInt ≤ 400 := by rw [← hx36]; exact hI.1 _ _ _ _ rfl
      rw [show μ35.1 81 36 = x36 from by exact hx36] at q35
      obtain ⟨x37, hx37⟩ : ∃ z, μ35.1 81 37 = z := ⟨_, rfl⟩
      have bx37 : 0 ≤ x37.toInt ∧ x37.toInt ≤ 400 := by rw [← hx37]; exact hI.1 _ _ _ _ rfl
      rw [show μ35.1 81 37 = x37 from by exact hx37] at q35
      obtain ⟨x38, hx38⟩ : ∃ z, μ35.1 81 38 = z := ⟨_, rfl⟩
      have bx38 : 0 ≤ x38.toInt ∧ x38.toInt ≤ 4 := by rw [← hx38]; exact hI.1 _ _ _ _ rfl
      rw [show μ35.1 81 38 = x38 from by exact hx38] at q35
      obtain ⟨x39, hx39⟩ : ∃ z, μ35.1 81 39 = z := ⟨_, rfl⟩
      have bx39 : -1 ≤ x39.toInt ∧ x39.toInt ≤ 99999 := by rw [← hx39]; exact hI.1 _ _ _ _ rfl
      rw [show μ35.1 81 39 = x39 from by exact hx39] at q35
      have hk40 : m_TQ ((t_K fT t.toNatClampNeg) (gi + 1)) (m_VV fT t.toNatClampNeg (gi + 1)) x38 x39 := by
        have z := hms.2.2
        rw [show μ35.1 81 38 = x38 from by exact hx38, show μ35.1 81 39 = x39 from by exact hx39] at z
        exact z
      refine lv_iconst (v := 0) hx hb dX12_readUnit_105 (by decide) ?_
      exact m_iret hx hb hr hlocks hW rfl (⟨hI, Or.inr ⟨rfl, by rw [show μ35.1 81 51 = x32 from by exact ((hJ35.2.1 81 51 rfl).trans (by rw [← hμ33]; first | rfl | exact if_pos ⟨rfl, rfl⟩)), show μ35.1 81 37 = x37 from by exact hx37, show μ35.1 81 36 = x36 from by exact hx36, show μ35.1 81 38 = x38 from by exact hx38]; omega, _, (by exact a_T1 (by have hz := hkk.all; omega)), hms⟩⟩) dX12_readUnit_106
    · refine lv_if_eq (tgt := 27) hx hb dX12_readUnit_20 (by decide) (fun _ => ?_) (fun c => False.elim (by revert c; decide))
      refine lv_iconst (v := 0) hx hb dX12_readUnit_27 (by decide) ?_
      refine lv_istore_n (lv' := [(2, .int 0), (0, .ref (b + 81)), (1, .int k)]) hx hb dX12_readUnit_28 rfl hl (by decide) rfl (fun ls hl => ?_)
      refine lv_iload_n hx hb dX12_readUnit_29 rfl (lv_at hl 0 rfl) ?_
      refine lv_if_ne (tgt := 47) hx hb dX12_readUnit_30 (by decide) (fun c => False.elim (by revert c; decide)) (fun _ => ?_)
      refine lv_aload_n hx hb dX12_readUnit_33 rfl (lv_at hl 1 rfl) ?_
      refine m_geti hx hb hts hown hW (81) 38 rfl rfl cw_12 rfl (by decide) k_X12_254 dX12_readUnit_34 ?_
      refine lv_topi (fun x41 ex41 => ?_)
      have ex41 : x41 = tk := by rw [ex41]; exact h_tk
      have ex41 := ex41.symm
      subst ex41
      refine lv_iconst (v := 3) hx hb dX12_readUnit_37 (by decide) ?_
      refine lv_icmp_eq (tgt := 47) hx hb dX12_readUnit_38 (by decide) (fun c42 => ?_) (fun c42 => ?_)
      · have i42 := m_c5 (rfl : tk.toInt = _) (by decide : (3 : Int32).toInt = 3) c42
        exfalso; omega
      · have i42 := m_c6 (rfl : tk.toInt = _) (by decide : (3 : Int32).toInt = 3) c42
        refine lv_aload_n hx hb dX12_readUnit_41 rfl (lv_at hl 1 rfl) ?_
        refine lv_iconst (v := 1) hx hb dX12_readUnit_42 (by decide) ?_
        have l_1 : (1 : Int32).toInt = 1 := by decide
        refine m_aI hW (m_runV (As := [.int 1]) (rest := []) hx hb hml hown hts hW (81) (g_X12_fails_f l D cy b (fun g => [36].contains g) μ rfl 1 μ (IY.rf hI.1)) mi_X12_fails k_X12_282 rfl rfl rfl hl.1 rfl (Nat.le_of_ble_eq_true rfl) dX12_readUnit_43 ⟨Nat.le_of_ble_eq_true rfl, Nat.le_of_ble_eq_true rfl⟩ ⟨Nat.le_of_ble_eq_true rfl, Nat.le_of_ble_eq_true rfl⟩) (fun x43 μ43 H locs q43 hW => ?_)
        obtain ⟨hJ43, q43⟩ := q43
        have hI := hI.tr hJ43 (m_subL (by simp [hS36]))
        have hfT : μ43.1 106 = fT := by rw [show μ43.1 106 = μ.1 106 from funext fun j => hJ43.2.1 106 j rfl]; exact hfT
        have hRW : m_RW μ43 := hRW.fr hJ43 rfl
        have hms : m_MS μ43 fT t.toNatClampNeg gi := hms.fr hJ43 rfl
        obtain ⟨rfl, q431, q432⟩ := q43
        have hft : m_FT μ43 (1, (t_L fT t.toNatClampNeg) gi) := ⟨by rw [q431]; rfl, by rw [q432]; exact hms.2.1⟩
        exact m_iret hx hb hr hlocks hW rfl (⟨hI, Or.inl ⟨rfl, (1, (t_L fT t.toNatClampNeg) gi), (by exact a_T0 (by have hz := hkk.all; omega)), hft⟩⟩) dX12_readUnit_46
set_option maxHeartbeats 4000000 in
set_option maxRecDepth 100000 in
theorem L_X12_readSum_g_11 {p : Program} {l : Launch} {e : Env} {s : State} {m : MethodId} {args : Array Value} {below : List Frame} {meth : Method} {c : Code} {D : va_G} {cy : Nat → ClassId} {b : Nat} (hx : p.tables.exec = Jvm.exec) (hb : c.code = cX12_readSum) (hr : meth.sig.returnType = ((some .int))) (hml : c.maxLocals = 2) (hown : s.vm.findClass RX12 = some m.cls) (hts : ∀ w ∈ TB, w.before args s = true) (hlocks : meth.locks = false) (S : Nat → Bool) (μ0 : mM) (hS24 : S 24 = true) (hS25 : S 25 = true) (hS34 : S 34 = true) (hS36 : S 36 = true) (av fv tk vv uv : Int32) (h_g : 0 ≤ av.toInt ∧ av.toInt ≤ 400 ∧ 0 ≤ fv.toInt ∧ fv.toInt ≤ 400 ∧ 0 ≤ tk.toInt ∧ tk.toInt ≤ 4 ∧ -1 ≤ vv.toInt ∧ vv.toInt ≤ 99999 ∧ 0 ≤ uv.toInt ∧ uv.toInt ≤ 400 ∧ uv.toInt ≤ fv.toInt ∧ fv.toInt ≤ av.toInt ∧ (tk.toInt = 0 ∨ fv.toInt + 1 ≤ av.toInt)) (t : Int32) (h_tt : 0 ≤ t.toInt ∧ t.toInt ≤ 400) (fT : Nat → Int32) (gi : Nat) : ∀ (f : Nat), ∀ (av2 : Int32) (fv2 : Int32) (tk2 : Int32) (vv2 : Int32) (uv2 : Int32) (gj : Nat) (hy : 0 ≤ av2.toInt ∧ av2.toInt ≤ 400 ∧ 0 ≤ fv2.toInt ∧ fv2.toInt ≤ 400 ∧ 0 ≤ tk2.toInt ∧ tk2.toInt ≤ 4 ∧ -1 ≤ vv2.toInt ∧ vv2.toInt ≤ 99999 ∧ 0 ≤ uv2.toInt ∧ uv2.toInt ≤ 400 ∧ uv2.toInt ≤ fv2.toInt ∧ fv2.toInt ≤ av2.toInt ∧ (tk2.toInt = 0 ∨ fv2.toInt + 1 ≤ av2.toInt) ∧ fv.toInt + 1 ≤ fv2.toInt) (hf : 400 - fv2.toInt < (f : Int)) (μ : mM) (hI : IY S μ0 μ) (h_av2 : μ.1 81 36 = av2) (h_fv2 : μ.1 81 37 = fv2) (h_tk2 : μ.1 81 38 = tk2) (h_vv2 : μ.1 81 39 = vv2) (h_uv2 : μ.1 81 51 = uv2) (htp : μ.1 81 35 = t) (hfT : μ.1 106 = fT) (hRW : m_RW μ) (hms : m_MS μ fT t.toNatClampNeg gj) (hsp : a_Sl (t_K fT t.toNatClampNeg) (t_L fT t.toNatClampNeg) 401 gj = a_S (t_K fT t.toNatClampNeg) (t_L fT t.toNatClampNeg) gi) (H : Heap) (locs : List Loc), m_WA (m_A b LAY) D cy s b LAY μ H locs → ∀ ls : Array Slot, lv_has ls 2 [(0, .ref (b + 81))] → W p l e (m_R 4 0 0) s m args below meth c H locs 0 0 (MQ below (m_Qi D cy b LAY (fun r ν => IY S μ0 ν ∧ ((r = -1 ∧ ∃ e, a_S (t_K fT t.toNatClampNeg) (t_L fT t.toNatClampNeg) gi = .inl e ∧ m_FT ν e) ∨ (r = 0 ∧ ((ν.1 81 51).toInt ≤ (ν.1 81 37).toInt ∧ fv.toInt + 1 ≤ (ν.1 81 37).toInt ∧ (ν.1 81 37).toInt ≤ (ν.1 81 36).toInt ∧ ((ν.1 81 38).toInt = 0 ∨ (ν.1 81 37).toInt + 1 ≤ (ν.1 81 36).toInt)) ∧ ∃ j, a_S (t_K fT t.toNatClampNeg) (t_L fT t.toNatClampNeg) gi = .inr j ∧ m_MS ν fT t.toNatClampNeg j)))) args s 0 0 (m_A b LAY)) (F0 m 11 ls []) := by
  intro f
  induction f with
  | zero => intro  av2 fv2 tk2 vv2 uv2 gj hy hf; exfalso; omega
  | succ f ih =>
    intro  av2 fv2 tk2 vv2 uv2 gj hy hf μ hI h_av2 h_fv2 h_tk2 h_vv2 h_uv2 htp hfT hRW hms hsp H locs hW ls hl
    have hkk : m_TQ ((t_K fT t.toNatClampNeg) gj) (m_VV fT t.toNatClampNeg gj) tk2 vv2 := by have z := hms.2.2; rw [h_tk2, h_vv2] at z; exact z
    have hK4 := t_K4 (f := fT) (n := t.toNatClampNeg) (by have := m_ckI (x := t) (by omega); omega)
    refine lv_aload_n hx hb dX12_readSum_11 rfl (lv_at hl 0 rfl) ?_
    refine lv_bipush (v := 43) hx hb dX12_readSum_12 (by decide) ?_
    have l_43 : (43 : Int32).toInt = 43 := by decide
    refine m_aI hW (m_runV (As := [.int 43]) (rest := []) hx hb hml hown hts hW (81) (g_X12_isSign_f l D cy b 43 μ hI.1) mi_X12_isSign k_X12_291 rfl rfl rfl hl.1 rfl (Nat.le_of_ble_eq_true rfl) dX12_readSum_14 ⟨Nat.le_of_ble_eq_true rfl, Nat.le_of_ble_eq_true rfl⟩ ⟨Nat.le_of_ble_eq_true rfl, Nat.le_of_ble_eq_true rfl⟩) (fun x1 μ1 H locs q1 hW => ?_)
    obtain ⟨q1_m, q1⟩ := q1
    subst q1_m
    rw [show μ.1 81 38 = tk2 from by exact h_tk2, show μ.1 81 39 = vv2 from by exact h_vv2] at q1
    rcases q1 with ⟨rfl, q1⟩ | ⟨rfl, q1⟩
    · refine lv_if_ne (tgt := 29) hx hb dX12_readSum_17 (by decide) (fun _ => ?_) (fun c => False.elim (by revert c; decide))
      refine lv_aload_n hx hb dX12_readSum_29 rfl (lv_at hl 0 rfl) ?_
      refine m_geti hx hb hts hown hW (81) 39 rfl rfl cw_12 rfl (by decide) k_X12_257 dX12_readSum_30 ?_
      refine lv_topi (fun x2 ex2 => ?_)
      have ex2 : x2 = vv2 := by rw [ex2]; exact h_vv2
      have ex2 := ex2.symm
      subst ex2
      refine lv_bipush (v := 43) hx hb dX12_readSum_33 (by decide) ?_
      refine lv_icmp_ne (tgt := 42) hx hb dX12_readSum_35 (by decide) (fun c3 => ?_) (fun c3 => ?_)
      · have i3 := m_c6 (rfl : vv2.toInt = _) (by decide : (43 : Int32).toInt = 43) c3
        refine lv_iconst (v := (-1)) hx hb dX12_readSum_42 (by decide) ?_
        refine lv_istore_n (lv' := [(1, .int (-1)), (0, .ref (b + 81))]) hx hb dX12_readSum_43 rfl hl (by decide) rfl (fun ls hl => ?_)
        refine lv_aload_n hx hb dX12_readSum_44 rfl (lv_at hl 1 rfl) ?_
        have hal4 := hms.at_le
        rw [show μ.1 81 36 = av2 from by exact h_av2] at hal4
        have ckt := m_ckI (x := t) (by omega)
        refine m_aV hW (m_runV (As := []) (rest := []) hx hb hml hown hts hW (81) (g_X12_reads_f l D cy b (fun g => [24].contains g) μ rfl av2 t (by omega) fT μ (IY.rf hI.1) (by exact h_av2) (by exact htp) hfT hRW) mi_X12_reads k_X12_279 rfl rfl rfl hl.1 rfl (Nat.le_of_ble_eq_true rfl) dX12_readSum_45 ⟨Nat.le_of_ble_eq_true rfl, Nat.le_of_ble_eq_true rfl⟩ ⟨Nat.le_of_ble_eq_true rfl, Nat.le_of_ble_eq_true rfl⟩) (fun μ5 H locs q5 hW => ?_)
        obtain ⟨hJ5, q5⟩ := q5
        have hI := hI.tr hJ5 (m_subL (by simp [hS24]))
        have hfT : μ5.1 106 = fT := by rw [show μ5.1 106 = μ.1 106 from funext fun j => hJ5.2.1 106 j rfl]; exact hfT
        have hRW : m_RW μ5 := hRW.fr hJ5 rfl
        obtain ⟨q5, q5f⟩ := q5
        have hms : m_MS μ5 fT t.toNatClampNeg (gj + 1) := hms.next (a := av2) (by exact h_av2) q5f
        obtain ⟨x6, hx6⟩ : ∃ z, μ5.1 81 36 = z := ⟨_, rfl⟩
        have bx6 : 0 ≤ x6.toInt ∧ x6.toInt ≤ 400 := by rw [← hx6]; exact hI.1 _ _ _ _ rfl
        rw [show μ5.1 81 36 = x6 from by exact hx6] at q5
        obtain ⟨x7, hx7⟩ : ∃ z, μ5.1 81 37 = z := ⟨_, rfl⟩
        have bx7 : 0 ≤ x7.toInt ∧ x7.toInt ≤ 400 := by rw [← hx7]; exact hI.1 _ _ _ _ rfl
        rw [show μ5.1 81 37 = x7 from by exact hx7] at q5
        obtain ⟨x8, hx8⟩ : ∃ z, μ5.1 81 38 = z := ⟨_, rfl⟩
        have bx8 : 0 ≤ x8.toInt ∧ x8.toInt ≤ 4 := by rw [← hx8]; exact hI.1 _ _ _ _ rfl
        rw [show μ5.1 81 38 = x8 from by exact hx8] at q5
        obtain ⟨x9, hx9⟩ : ∃ z, μ5.1 81 39 = z := ⟨_, rfl⟩
        have bx9 : -1 ≤ x9.toInt ∧ x9.toInt ≤ 99999 := by rw [← hx9]; exact hI.1 _ _ _ _ rfl
        rw [show μ5.1 81 39 = x9 from by exact hx9] at q5
        have hk10 : m_TQ ((t_K fT t.toNatClampNeg) (gj + 1)) (m_VV fT t.toNatClampNeg (gj + 1)) x8 x9 := by
          have z := hms.2.2
          rw [show μ5.1 81 38 = x8 from by exact hx8, show μ5.1 81 39 = x9 from by exact hx9] at z
          exact z
        refine lv_aload_n hx hb dX12_readSum_48 rfl (lv_at hl 1 rfl) ?_
        refine lv_iload_n hx hb dX12_readSum_49 rfl (lv_at hl 0 rfl) ?_
        have l_m1 : ((-1) : Int32).toInt = (-1) := by decide
        refine m_aI hW (m_runV (As := [.int (-1)]) (rest := []) hx hb hml hown hts hW (81) (g_X12_readUnit_g l D cy b (fun g => [24, 25, 34, 36].contains g) μ5 rfl rfl rfl rfl x6 x7 x8 x9 uv2 (by omega) t (by omega) fT (gj + 1) (-1) μ5 (IY.rf hI.1) (by exact hx6) (by exact hx7) (by exact hx8) (by exact hx9) (by exact ((hJ5.2.1 81 51 rfl).trans (by exact h_uv2))) (by exact ((hJ5.2.1 81 35 rfl).trans (by exact htp))) hfT hRW hms) mi_X12_readUnit k_X12_288 rfl rfl rfl hl.1 rfl (Nat.le_of_ble_eq_true rfl) dX12_readSum_50 ⟨Nat.le_of_ble_eq_true rfl, Nat.le_of_ble_eq_true rfl⟩ ⟨Nat.le_of_ble_eq_true rfl, Nat.le_of_ble_eq_true rfl⟩) (fun x11 μ11 H locs q11 hW => ?_)
        obtain ⟨hJ11, q11⟩ := q11
        have hI := hI.tr hJ11 (m_subL (by simp [hS24, hS25, hS34, hS36]))
        have hfT : μ11.1 106 = fT := by rw [show μ11.1 106 = μ5.1 106 from funext fun j => hJ11.2.1 106 j rfl]; exact hfT
        have hRW : m_RW μ11 := hRW.fr hJ11 rfl
        rcases q11 with ⟨rfl, e12, ha12, hft⟩ | ⟨rfl, q11, j12, ha12, hms⟩
        · refine lv_iconst (v := (-1)) hx hb dX12_readSum_53 (by decide) ?_
          refine lv_icmp_ne (tgt := 59) hx hb dX12_readSum_54 (by decide) (fun c => False.elim (by revert c; decide)) (fun _ => ?_)
          refine lv_iconst (v := (-1)) hx hb dX12_readSum_57 (by decide) ?_
          exact m_iret hx hb hr hlocks hW rfl (⟨hI, Or.inl ⟨rfl, e12, (by rw [← hsp, a_Sl_1 (j := gj) hK4 (by have hz := hkk.all; omega)]; simp only [a_b, ha12]), hft⟩⟩) dX12_readSum_58
        · obtain ⟨x13, hx13⟩ : ∃ z, μ11.1 81 51 = z := ⟨_, rfl⟩
          have bx13 : 0 ≤ x13.toInt ∧ x13.toInt ≤ 400 := by rw [← hx13]; exact hI.1 _ _ _ _ rfl
          rw [show μ11.1 81 51 = x13 from by exact hx13] at q11
          obtain ⟨x14, hx14⟩ : ∃ z, μ11.1 81 37 = z := ⟨_, rfl⟩
          have bx14 : 0 ≤ x14.toInt ∧ x14.toInt ≤ 400 := by rw [← hx14]; exact hI.1 _ _ _ _ rfl
          rw [show μ11.1 81 37 = x14 from by exact hx14] at q11
          obtain ⟨x15, hx15⟩ : ∃ z, μ11.1 81 36 = z := ⟨_, rfl⟩
          have bx15 : 0 ≤ x15.toInt ∧ x15.toInt ≤ 400 := by rw [← hx15]; exact hI.1 _ _ _ _ rfl
          rw [show μ11.1 81 36 = x15 from by exact hx15] at q11
          obtain ⟨x16, hx16⟩ : ∃ z, μ11.1 81 38 = z := ⟨_, rfl⟩
          have bx16 : 0 ≤ x16.toInt ∧ x16.toInt ≤ 4 := by rw [← hx16]; exact hI.1 _ _ _ _ rfl
          rw [show μ11.1 81 38 = x16 from by exact hx16] at q11
          obtain ⟨x18, hx18⟩ : ∃ z, μ11.1 81 39 = z := ⟨_, rfl⟩
          have bx18 : -1 ≤ x18.toInt ∧ x18.toInt ≤ 99999 := by rw [← hx18]; exact hI.1 _ _ _ _ rfl
          have hk17 : m_TQ ((t_K fT t.toNatClampNeg) j12) (m_VV fT t.toNatClampNeg j12) x16 x18 := by
            have z := hms.2.2
            rw [show μ11.1 81 38 = x16 from by exact hx16, show μ11.1 81 39 = x18 from by exact hx18] at z
            exact z
          refine lv_iconst (v := (-1)) hx hb dX12_readSum_53 (by decide) ?_
          refine lv_icmp_ne (tgt := 59) hx hb dX12_readSum_54 (by decide) (fun _ => ?_) (fun c => False.elim (by revert c; decide))
          refine lv_goto (tgt := 11) hx hb dX12_readSum_59 (by decide) ?_
          exact ih  x15 x14 x16 x18 x13 j12 (by omega) (by omega) μ11 hI (by exact hx15) (by exact hx14) (by exact hx16) (by exact hx18) (by exact hx13) (by exact ((hJ11.2.1 81 35 rfl).trans (by exact ((hJ5.2.1 81 35 rfl).trans (by exact htp))))) (hfT) (hRW) (hms) ((by rw [← hsp, a_Sl_1 (j := gj) hK4 (by have hz := hkk.all; omega)]; simp only [a_b, ha12])) _ _ hW ls (lv_sub hl [1] rfl)
      · have i3 := m_c5 (rfl : vv2.toInt = _) (by decide : (43 : Int32).toInt = 43) c3
        refine lv_iconst (v := 1) hx hb dX12_readSum_38 (by decide) ?_
        refine lv_goto (tgt := 43) hx hb dX12_readSum_39 (by decide) ?_
        refine lv_istore_n (lv' := [(1, .int 1), (0, .ref (b + 81))]) hx hb dX12_readSum_43 rfl hl (by decide) rfl (fun ls hl => ?_)
        refine lv_aload_n hx hb dX12_readSum_44 rfl (lv_at hl 1 rfl) ?_
        have hal19 := hms.at_le
        rw [show μ.1 81 36 = av2 from by exact h_av2] at hal19
        have ckt := m_ckI (x := t) (by omega)
        refine m_aV hW (m_runV (As := []) (rest := []) hx hb hml hown hts hW (81) (g_X12_reads_f l D cy b (fun g => [24].contains g) μ rfl av2 t (by omega) fT μ (IY.rf hI.1) (by exact h_av2) (by exact htp) hfT hRW) mi_X12_reads k_X12_279 rfl rfl rfl hl.1 rfl (Nat.le_of_ble_eq_true rfl) dX12_readSum_45 ⟨Nat.le_of_ble_eq_true rfl, Nat.le_of_ble_eq_true rfl⟩ ⟨Nat.le_of_ble_eq_true rfl, Nat.le_of_ble_eq_true rfl⟩) (fun μ20 H locs q20 hW => ?_)
        obtain ⟨hJ20, q20⟩ := q20
        have hI := hI.tr hJ20 (m_subL (by simp [hS24]))
        have hfT : μ20.1 106 = fT := by rw [show μ20.1 106 = μ.1 106 from funext fun j => hJ20.2.1 106 j rfl]; exact hfT
        have hRW : m_RW μ20 := hRW.fr hJ20 rfl
        obtain ⟨q20, q20f⟩ := q20
        have hms : m_MS μ20 fT t.toNatClampNeg (gj + 1) := hms.next (a := av2) (by exact h_av2) q20f
        obtain ⟨x21, hx21⟩ : ∃ z, μ20.1 81 36 = z := ⟨_, rfl⟩
        have bx21 : 0 ≤ x21.toInt ∧ x21.toInt ≤ 400 := by rw [← hx21]; exact hI.1 _ _ _ _ rfl
        rw [show μ20.1 81 36 = x21 from by exact hx21] at q20
        obtain ⟨x22, hx22⟩ : ∃ z, μ20.1 81 37 = z := ⟨_, rfl⟩
        have bx22 : 0 ≤ x22.toInt ∧ x22.toInt ≤ 400 := by rw [← hx22]; exact hI.1 _ _ _ _ rfl
        rw [show μ20.1 81 37 = x22 from by exact hx22] at q20
        obtain ⟨x23, hx23⟩ : ∃ z, μ20.1 81 38 = z := ⟨_, rfl⟩
        have bx23 : 0 ≤ x23.toInt ∧ x23.toInt ≤ 4 := by rw [← hx23]; exact hI.1 _ _ _ _ rfl
        rw [show μ20.1 81 38 = x23 from by exact hx23] at q20
        obtain ⟨x24, hx24⟩ : ∃ z, μ20.1 81 39 = z := ⟨_, rfl⟩
        have bx24 : -1 ≤ x24.toInt ∧ x24.toInt ≤ 99999 := by rw [← hx24]; exact hI.1 _ _ _ _ rfl
        rw [show μ20.1 81 39 = x24 from by exact hx24] at q20
        have hk25 : m_TQ ((t_K fT t.toNatClampNeg) (gj + 1)) (m_VV fT t.toNatClampNeg (gj + 1)) x23 x24 := by
          have z := hms.2.2
          rw [show μ20.1 81 38 = x23 from by exact hx23, show μ20.1 81 39 = x24 from by exact hx24] at z
          exact z
        refine lv_aload_n hx hb dX12_readSum_48 rfl (lv_at hl 1 rfl) ?_
        refine lv_iload_n hx hb dX12_readSum_49 rfl (lv_at hl 0 rfl) ?_
        have l_1 : (1 : Int32).toInt = 1 := by decide
        refine m_aI hW (m_runV (As := [.int 1]) (rest := []) hx hb hml hown hts hW (81) (g_X12_readUnit_g l D cy b (fun g => [24, 25, 34, 36].contains g) μ20 rfl rfl rfl rfl x21 x22 x23 x24 uv2 (by omega) t (by omega) fT (gj + 1) 1 μ20 (IY.rf hI.1) (by exact hx21) (by exact hx22) (by exact hx23) (by exact hx24) (by exact ((hJ20.2.1 81 51 rfl).trans (by exact h_uv2))) (by exact ((hJ20.2.1 81 35 rfl).trans (by exact htp))) hfT hRW hms) mi_X12_readUnit k_X12_288 rfl rfl rfl hl.1 rfl (Nat.le_of_ble_eq_true rfl) dX12_readSum_50 ⟨Nat.le_of_ble_eq_true rfl, Nat.le_of_ble_eq_true rfl⟩ ⟨Nat.le_of_ble_eq_true rfl, Nat.le_of_ble_eq_true rfl⟩) (fun x26 μ26 H locs q26 hW => ?_)
        obtain ⟨hJ26, q26⟩ := q26
        have hI := hI.tr hJ26 (m_subL (by simp [hS24, hS25, hS34, hS36]))
        have hfT : μ26.1 106 = fT := by rw [show μ26.1 106 = μ20.1 106 from funext fun j => hJ26.2.1 106 j rfl]; exact hfT
        have hRW : m_RW μ26 := hRW.fr hJ26 rfl
        rcases q26 with ⟨rfl, e27, ha27, hft⟩ | ⟨rfl, q26, j27, ha27, hms⟩
        · refine lv_iconst (v := (-1)) hx hb dX12_readSum_53 (by decide) ?_
          refine lv_icmp_ne (tgt := 59) hx hb dX12_readSum_54 (by decide) (fun c => False.elim (by revert c; decide)) (fun _ => ?_)
          refine lv_iconst (v := (-1)) hx hb dX12_readSum_57 (by decide) ?_
          exact m_iret hx hb hr hlocks hW rfl (⟨hI, Or.inl ⟨rfl, e27, (by rw [← hsp, a_Sl_1 (j := gj) hK4 (by have hz := hkk.all; omega)]; simp only [a_b, ha27]), hft⟩⟩) dX12_readSum_58
        · obtain ⟨x28, hx28⟩ : ∃ z, μ26.1 81 51 = z := ⟨_, rfl⟩
          have bx28 : 0 ≤ x28.toInt ∧ x28.toInt ≤ 400 := by rw [← hx28]; exact hI.1 _ _ _ _ rfl
          rw [show μ26.1 81 51 = x28 from by exact hx28] at q26
          obtain ⟨x29, hx29⟩ : ∃ z, μ26.1 81 37 = z := ⟨_, rfl⟩
          have bx29 : 0 ≤ x29.toInt ∧ x29.toInt ≤ 400 := by rw [← hx29]; exact hI.1 _ _ _ _ rfl
          rw [show μ26.1 81 37 = x29 from by exact hx29] at q26
          obtain ⟨x30, hx30⟩ : ∃ z, μ26.1 81 36 = z := ⟨_, rfl⟩
          have bx30 : 0 ≤ x30.toInt ∧ x30.toInt ≤ 400 := by rw [← hx30]; exact hI.1 _ _ _ _ rfl
          rw [show μ26.1 81 36 = x30 from by exact hx30] at q26
          obtain ⟨x31, hx31⟩ : ∃ z, μ26.1 81 38 = z := ⟨_, rfl⟩
          have bx31 : 0 ≤ x31.toInt ∧ x31.toInt ≤ 4 := by rw [← hx31]; exact hI.1 _ _ _ _ rfl
          rw [show μ26.1 81 38 = x31 from by exact hx31] at q26
          obtain ⟨x33, hx33⟩ : ∃ z, μ26.1 81 39 = z := ⟨_, rfl⟩
          have bx33 : -1 ≤ x33.toInt ∧ x33.toInt ≤ 99999 := by rw [← hx33]; exact hI.1 _ _ _ _ rfl
          have hk32 : m_TQ ((t_K fT t.toNatClampNeg) j27) (m_VV fT t.toNatClampNeg j27) x31 x33 := by
            have z := hms.2.2
            rw [show μ26.1 81 38 = x31 from by exact hx31, show μ26.1 81 39 = x33 from by exact hx33] at z
            exact z
          refine lv_iconst (v := (-1)) hx hb dX12_readSum_53 (by decide) ?_
          refine lv_icmp_ne (tgt := 59) hx hb dX12_readSum_54 (by decide) (fun _ => ?_) (fun c => False.elim (by revert c; decide))
          refine lv_goto (tgt := 11) hx hb dX12_readSum_59 (by decide) ?_
          exact ih  x30 x29 x31 x33 x28 j27 (by omega) (by omega) μ26 hI (by exact hx30) (by exact hx29) (by exact hx31) (by exact hx33) (by exact hx28) (by exact ((hJ26.2.1 81 35 rfl).trans (by exact ((hJ20.2.1 81 35 rfl).trans (by exact htp))))) (hfT) (hRW) (hms) ((by rw [← hsp, a_Sl_1 (j := gj) hK4 (by have hz := hkk.all; omega)]; simp only [a_b, ha27])) _ _ hW ls (lv_sub hl [1] rfl)
    · refine lv_if_ne (tgt := 29) hx hb dX12_readSum_17 (by decide) (fun c => False.elim (by revert c; decide)) (fun _ => ?_)
      refine lv_aload_n hx hb dX12_readSum_20 rfl (lv_at hl 0 rfl) ?_
      refine lv_bipush (v := 45) hx hb dX12_readSum_21 (by decide) ?_
      have l_45 : (45 : Int32).toInt = 45 := by decide
      refine m_aI hW (m_runV (As := [.int 45]) (rest := []) hx hb hml hown hts hW (81) (g_X12_isSign_f l D cy b 45 μ hI.1) mi_X12_isSign k_X12_291 rfl rfl rfl hl.1 rfl (Nat.le_of_ble_eq_true rfl) dX12_readSum_23 ⟨Nat.le_of_ble_eq_true rfl, Nat.le_of_ble_eq_true rfl⟩ ⟨Nat.le_of_ble_eq_true rfl, Nat.le_of_ble_eq_true rfl⟩) (fun x34 μ34 H locs q34 hW => ?_)
      obtain ⟨q34_m, q34⟩ := q34
      subst q34_m
      rw [show μ.1 81 38 = tk2 from by exact h_tk2, show μ.1 81 39 = vv2 from by exact h_vv2] at q34
      rcases q34 with ⟨rfl, q34⟩ | ⟨rfl, q34⟩
      · refine lv_if_eq (tgt := 62) hx hb dX12_readSum_26 (by decide) (fun c => False.elim (by revert c; decide)) (fun _ => ?_)
        refine lv_aload_n hx hb dX12_readSum_29 rfl (lv_at hl 0 rfl) ?_
        refine m_geti hx hb hts hown hW (81) 39 rfl rfl cw_12 rfl (by decide) k_X12_257 dX12_readSum_30 ?_
        refine lv_topi (fun x35 ex35 => ?_)
        have ex35 : x35 = vv2 := by rw [ex35]; exact h_vv2
        have ex35 := ex35.symm
        subst ex35
        refine lv_bipush (v := 43) hx hb dX12_readSum_33 (by decide) ?_
        refine lv_icmp_ne (tgt := 42) hx hb dX12_readSum_35 (by decide) (fun c36 => ?_) (fun c36 => ?_)
        · have i36 := m_c6 (rfl : vv2.toInt = _) (by decide : (43 : Int32).toInt = 43) c36
          refine lv_iconst (v := (-1)) hx hb dX12_readSum_42 (by decide) ?_
          refine lv_istore_n (lv' := [(1, .int (-1)), (0, .ref (b + 81))]) hx hb dX12_readSum_43 rfl hl (by decide) rfl (fun ls hl => ?_)
          refine lv_aload_n hx hb dX12_readSum_44 rfl (lv_at hl 1 rfl) ?_
          have hal37 := hms.at_le
          rw [show μ.1 81 36 = av2 from by exact h_av2] at hal37
          have ckt := m_ckI (x := t) (by omega)
          refine m_aV hW (m_runV (As := []) (rest := []) hx hb hml hown hts hW (81) (g_X12_reads_f l D cy b (fun g => [24].contains g) μ rfl av2 t (by omega) fT μ (IY.rf hI.1) (by exact h_av2) (by exact htp) hfT hRW) mi_X12_reads k_X12_279 rfl rfl rfl hl.1 rfl (Nat.le_of_ble_eq_true rfl) dX12_readSum_45 ⟨Nat.le_of_ble_eq_true rfl, Nat.le_of_ble_eq_true rfl⟩ ⟨Nat.le_of_ble_eq_true rfl, Nat.le_of_ble_eq_true rfl⟩) (fun μ38 H locs q38 hW => ?_)
          obtain ⟨hJ38, q38⟩ := q38
          have hI := hI.tr hJ38 (m_subL (by simp [hS24]))
          have hfT : μ38.1 106 = fT := by rw [show μ38.1 106 = μ.1 106 from funext fun j => hJ38.2.1 106 j rfl]; exact hfT
          have hRW : m_RW μ38 := hRW.fr hJ38 rfl
          obtain ⟨q38, q38f⟩ := q38
          have hms : m_MS μ38 fT t.toNatClampNeg (gj + 1) := hms.next (a := av2) (by exact h_av2) q38f
          obtain ⟨x39, hx39⟩ : ∃ z, μ38.1 81 36 = z := ⟨_, rfl⟩
          have bx39 : 0 ≤ x39.toInt ∧ x39.toInt ≤ 400 := by rw [← hx39]; exact hI.1 _ _ _ _ rfl
          rw [show μ38.1 81 36 = x39 from by exact hx39] at q38
          obtain ⟨x40, hx40⟩ : ∃ z, μ38.1 81 37 = z := ⟨_, rfl⟩
          have bx40 : 0 ≤ x40.toInt ∧ x40.toInt ≤ 400 := by rw [← hx40]; exact hI.1 _ _ _ _ rfl
          rw [show μ38.1 81 37 = x40 from by exact hx40] at q38
          obtain ⟨x41, hx41⟩ : ∃ z, μ38.1 81 38 = z := ⟨_, rfl⟩
          have bx41 : 0 ≤ x41.toInt ∧ x41.toInt ≤ 4 := by rw [← hx41]; exact hI.1 _ _ _ _ rfl
          rw [show μ38.1 81 38 = x41 from by exact hx41] at q38
          obtain ⟨x42, hx42⟩ : ∃ z, μ38.1 81 39 = z := ⟨_, rfl⟩
          have bx42 : -1 ≤ x42.toInt ∧ x42.toInt ≤ 99999 := by rw [← hx42]; exact hI.1 _ _ _ _ rfl
          rw [show μ38.1 81 39 = x42 from by exact hx42] at q38
          have hk43 : m_TQ ((t_K fT t.toNatClampNeg) (gj + 1)) (m_VV fT t.toNatClampNeg (gj + 1)) x41 x42 := by
            have z := hms.2.2
            rw [show μ38.1 81 38 = x41 from by exact hx41, show μ38.1 81 39 = x42 from by exact hx42] at z
            exact z
          refine lv_aload_n hx hb dX12_readSum_48 rfl (lv_at hl 1 rfl) ?_
          refine lv_iload_n hx hb dX12_readSum_49 rfl (lv_at hl 0 rfl) ?_
          have l_m1 : ((-1) : Int32).toInt = (-1) := by decide
          refine m_aI hW (m_runV (As := [.int (-1)]) (rest := []) hx hb hml hown hts hW (81) (g_X12_readUnit_g l D cy b (fun g => [24, 25, 34, 36].contains g) μ38 rfl rfl rfl rfl x39 x40 x41 x42 uv2 (by omega) t (by omega) fT (gj + 1) (-1) μ38 (IY.rf hI.1) (by exact hx39) (by exact hx40) (by exact hx41) (by exact hx42) (by exact ((hJ38.2.1 81 51 rfl).trans (by exact h_uv2))) (by exact ((hJ38.2.1 81 35 rfl).trans (by exact htp))) hfT hRW hms) mi_X12_readUnit k_X12_288 rfl rfl rfl hl.1 rfl (Nat.le_of_ble_eq_true rfl) dX12_readSum_50 ⟨Nat.le_of_ble_eq_true rfl, Nat.le_of_ble_eq_true rfl⟩ ⟨Nat.le_of_ble_eq_true rfl, Nat.le_of_ble_eq_true rfl⟩) (fun x44 μ44 H locs q44 hW => ?_)
          obtain ⟨hJ44, q44⟩ := q44
          have hI := hI.tr hJ44 (m_subL (by simp [hS24, hS25, hS34, hS36]))
          have hfT : μ44.1 106 = fT := by rw [show μ44.1 106 = μ38.1 106 from funext fun j => hJ44.2.1 106 j rfl]; exact hfT
          have hRW : m_RW μ44 := hRW.fr hJ44 rfl
          rcases q44 with ⟨rfl, e45, ha45, hft⟩ | ⟨rfl, q44, j45, ha45, hms⟩
          · refine lv_iconst (v := (-1)) hx hb dX12_readSum_53 (by decide) ?_
            refine lv_icmp_ne (tgt := 59) hx hb dX12_readSum_54 (by decide) (fun c => False.elim (by revert c; decide)) (fun _ => ?_)
            refine lv_iconst (v := (-1)) hx hb dX12_readSum_57 (by decide) ?_
            exact m_iret hx hb hr hlocks hW rfl (⟨hI, Or.inl ⟨rfl, e45, (by rw [← hsp, a_Sl_1 (j := gj) hK4 (by have hz := hkk.all; omega)]; simp only [a_b, ha45]), hft⟩⟩) dX12_readSum_58
          · obtain ⟨x46, hx46⟩ : ∃ z, μ44.1 81 51 = z := ⟨_, rfl⟩
            have bx46 : 0 ≤ x46.toInt ∧ x46.toInt ≤ 400 := by rw [← hx46]; exact hI.1 _ _ _ _ rfl
            rw [show μ44.1 81 51 = x46 from by exact hx46] at q44
            obtain ⟨x47, hx47⟩ : ∃ z, μ44.1 81 37 = z := ⟨_, rfl⟩
            have bx47 : 0 ≤ x47.toInt ∧ x47.toInt ≤ 400 := by rw [← hx47]; exact hI.1 _ _ _ _ rfl
            rw [show μ44.1 81 37 = x47 from by exact hx47] at q44
            obtain ⟨x48, hx48⟩ : ∃ z, μ44.1 81 36 = z := ⟨_, rfl⟩
            have bx48 : 0 ≤ x48.toInt ∧ x48.toInt ≤ 400 := by rw [← hx48]; exact hI.1 _ _ _ _ rfl
            rw [show μ44.1 81 36 = x48 from by exact hx48] at q44
            obtain ⟨x49, hx49⟩ : ∃ z, μ44.1 81 38 = z := ⟨_, rfl⟩
            have bx49 : 0 ≤ x49.toInt ∧ x49.toInt ≤ 4 := by rw [← hx49]; exact hI.1 _ _ _ _ rfl
            rw [show μ44.1 81 38 = x49 from by exact hx49] at q44
            obtain ⟨x51, hx51⟩ : ∃ z, μ44.1 81 39 = z := ⟨_, rfl⟩
            have bx51 : -1 ≤ x51.toInt ∧ x51.toInt ≤ 99999 := by rw [← hx51]; exact hI.1 _ _ _ _ rfl
            have hk50 : m_TQ ((t_K fT t.toNatClampNeg) j45) (m_VV fT t.toNatClampNeg j45) x49 x51 := by
              have z := hms.2.2
              rw [show μ44.1 81 38 = x49 from by exact hx49, show μ44.1 81 39 = x51 from by exact hx51] at z
              exact z
            refine lv_iconst (v := (-1)) hx hb dX12_readSum_53 (by decide) ?_
            refine lv_icmp_ne (tgt := 59) hx hb dX12_readSum_54 (by decide) (fun _ => ?_) (fun c => False.elim (by revert c; decide))
            refine lv_goto (tgt := 11) hx hb dX12_readSum_59 (by decide) ?_
            exact ih  x48 x47 x49 x51 x46 j45 (by omega) (by omega) μ44 hI (by exact hx48) (by exact hx47) (by exact hx49) (by exact hx51) (by exact hx46) (by exact ((hJ44.2.1 81 35 rfl).trans (by exact ((hJ38.2.1 81 35 rfl).trans (by exact htp))))) (hfT) (hRW) (hms) ((by rw [← hsp, a_Sl_1 (j := gj) hK4 (by have hz := hkk.all; omega)]; simp only [a_b, ha45])) _ _ hW ls (lv_sub hl [1] rfl)
        · have i36 := m_c5 (rfl : vv2.toInt = _) (by decide : (43 : Int32).toInt = 43) c36
          refine lv_iconst (v := 1) hx hb dX12_readSum_38 (by decide) ?_
          refine lv_goto (tgt := 43) hx hb dX12_readSum_39 (by decide) ?_
          refine lv_istore_n (lv' := [(1, .int 1), (0, .ref (b + 81))]) hx hb dX12_readSum_43 rfl hl (by decide) rfl (fun ls hl => ?_)
          refine lv_aload_n hx hb dX12_readSum_44 rfl (lv_at hl 1 rfl) ?_
          have hal52 := hms.at_le
          rw [show μ.1 81 36 = av2 from by exact h_av2] at hal52
          have ckt := m_ckI (x := t) (by omega)
          refine m_aV hW (m_runV (As := []) (rest := []) hx hb hml hown hts hW (81) (g_X12_reads_f l D cy b (fun g => [24].contains g) μ rfl av2 t (by omega) fT μ (IY.rf hI.1) (by exact h_av2) (by exact htp) hfT hRW) mi_X12_reads k_X12_279 rfl rfl rfl hl.1 rfl (Nat.le_of_ble_eq_true rfl) dX12_readSum_45 ⟨Nat.le_of_ble_eq_true rfl, Nat.le_of_ble_eq_true rfl⟩ ⟨Nat.le_of_ble_eq_true rfl, Nat.le_of_ble_eq_true rfl⟩) (fun μ53 H locs q53 hW => ?_)
          obtain ⟨hJ53, q53⟩ := q53
          have hI := hI.tr hJ53 (m_subL (by simp [hS24]))
          have hfT : μ53.1 106 = fT := by rw [show μ53.1 106 = μ.1 106 from funext fun j => hJ53.2.1 106 j rfl]; exact hfT
          have hRW : m_RW μ53 := hRW.fr hJ53 rfl
          obtain ⟨q53, q53f⟩ := q53
          have hms : m_MS μ53 fT t.toNatClampNeg (gj + 1) := hms.next (a := av2) (by exact h_av2) q53f
          obtain ⟨x54, hx54⟩ : ∃ z, μ53.1 81 36 = z := ⟨_, rfl⟩
          have bx54 : 0 ≤ x54.toInt ∧ x54.toInt ≤ 400 := by rw [← hx54]; exact hI.1 _ _ _ _ rfl
          rw [show μ53.1 81 36 = x54 from by exact hx54] at q53
          obtain ⟨x55, hx55⟩ : ∃ z, μ53.1 81 37 = z := ⟨_, rfl⟩
          have bx55 : 0 ≤ x55.toInt ∧ x55.toInt ≤ 400 := by rw [← hx55]; exact hI.1 _ _ _ _ rfl
          rw [show μ53.1 81 37 = x55 from by exact hx55] at q53
          obtain ⟨x56, hx56⟩ : ∃ z, μ53.1 81 38 = z := ⟨_, rfl⟩
          have bx56 : 0 ≤ x56.toInt ∧ x56.toInt ≤ 4 := by rw [← hx56]; exact hI.1 _ _ _ _ rfl
          rw [show μ53.1 81 38 = x56 from by exact hx56] at q53
          obtain ⟨x57, hx57⟩ : ∃ z, μ53.1 81 39 = z := ⟨_, rfl⟩
          have bx57 : -1 ≤ x57.toInt ∧ x57.toInt ≤ 99999 := by rw [← hx57]; exact hI.1 _ _ _ _ rfl
          rw [show μ53.1 81 39 = x57 from by exact hx57] at q53
          have hk58 : m_TQ ((t_K fT t.toNatClampNeg) (gj + 1)) (m_VV fT t.toNatClampNeg (gj + 1)) x56 x57 := by
            have z := hms.2.2
            rw [show μ53.1 81 38 = x56 from by exact hx56, show μ53.1 81 39 = x57 from by exact hx57] at z
            exact z
          refine lv_aload_n hx hb dX12_readSum_48 rfl (lv_at hl 1 rfl) ?_
          refine lv_iload_n hx hb dX12_readSum_49 rfl (lv_at hl 0 rfl) ?_
          have l_1 : (1 : Int32).toInt = 1 := by decide
          refine m_aI hW (m_runV (As := [.int 1]) (rest := []) hx hb hml hown hts hW (81) (g_X12_readUnit_g l D cy b (fun g => [24, 25, 34, 36].contains g) μ53 rfl rfl rfl rfl x54 x55 x56 x57 uv2 (by omega) t (by omega) fT (gj + 1) 1 μ53 (IY.rf hI.1) (by exact hx54) (by exact hx55) (by exact hx56) (by exact hx57) (by exact ((hJ53.2.1 81 51 rfl).trans (by exact h_uv2))) (by exact ((hJ53.2.1 81 35 rfl).trans (by exact htp))) hfT hRW hms) mi_X12_readUnit k_X12_288 rfl rfl rfl hl.1 rfl (Nat.le_of_ble_eq_true rfl) dX12_readSum_50 ⟨Nat.le_of_ble_eq_true rfl, Nat.le_of_ble_eq_true rfl⟩ ⟨Nat.le_of_ble_eq_true rfl, Nat.le_of_ble_eq_true rfl⟩) (fun x59 μ59 H locs q59 hW => ?_)
          obtain ⟨hJ59, q59⟩ := q59
          have hI := hI.tr hJ59 (m_subL (by simp [hS24, hS25, hS34, hS36]))
          have hfT : μ59.1 106 = fT := by rw [show μ59.1 106 = μ53.1 106 from funext fun j => hJ59.2.1 106 j rfl]; exact hfT
          have hRW : m_RW μ59 := hRW.fr hJ59 rfl
          rcases q59 with ⟨rfl, e60, ha60, hft⟩ | ⟨rfl, q59, j60, ha60, hms⟩
          · refine lv_iconst (v := (-1)) hx hb dX12_readSum_53 (by decide) ?_
            refine lv_icmp_ne (tgt := 59) hx hb dX12_readSum_54 (by decide) (fun c => False.elim (by revert c; decide)) (fun _ => ?_)
            refine lv_iconst (v := (-1)) hx hb dX12_readSum_57 (by decide) ?_
            exact m_iret hx hb hr hlocks hW rfl (⟨hI, Or.inl ⟨rfl, e60, (by rw [← hsp, a_Sl_1 (j := gj) hK4 (by have hz := hkk.all; omega)]; simp only [a_b, ha60]), hft⟩⟩) dX12_readSum_58
          · obtain ⟨x61, hx61⟩ : ∃ z, μ59.1 81 51 = z := ⟨_, rfl⟩
            have bx61 : 0 ≤ x61.toInt ∧ x61.toInt ≤ 400 := by rw [← hx61]; exact hI.1 _ _ _ _ rfl
            rw [show μ59.1 81 51 = x61 from by exact hx61] at q59
            obtain ⟨x62, hx62⟩ : ∃ z, μ59.1 81 37 = z := ⟨_, rfl⟩
            have bx62 : 0 ≤ x62.toInt ∧ x62.toInt ≤ 400 := by rw [← hx62]; exact hI.1 _ _ _ _ rfl
            rw [show μ59.1 81 37 = x62 from by exact hx62] at q59
            obtain ⟨x63, hx63⟩ : ∃ z, μ59.1 81 36 = z := ⟨_, rfl⟩
            have bx63 : 0 ≤ x63.toInt ∧ x63.toInt ≤ 400 := by rw [← hx63]; exact hI.1 _ _ _ _ rfl
            rw [show μ59.1 81 36 = x63 from by exact hx63] at q59
            obtain ⟨x64, hx64⟩ : ∃ z, μ59.1 81 38 = z := ⟨_, rfl⟩
            have bx64 : 0 ≤ x64.toInt ∧ x64.toInt ≤ 4 := by rw [← hx64]; exact hI.1 _ _ _ _ rfl
            rw [show μ59.1 81 38 = x64 from by exact hx64] at q59
            obtain ⟨x66, hx66⟩ : ∃ z, μ59.1 81 39 = z := ⟨_, rfl⟩
            have bx66 : -1 ≤ x66.toInt ∧ x66.toInt ≤ 99999 := by rw [← hx66]; exact hI.1 _ _ _ _ rfl
            have hk65 : m_TQ ((t_K fT t.toNatClampNeg) j60) (m_VV fT t.toNatClampNeg j60) x64 x66 := by
              have z := hms.2.2
              rw [show μ59.1 81 38 = x64 from by exact hx64, show μ59.1 81 39 = x66 from by exact hx66] at z
              exact z
            refine lv_iconst (v := (-1)) hx hb dX12_readSum_53 (by decide) ?_
            refine lv_icmp_ne (tgt := 59) hx hb dX12_readSum_54 (by decide) (fun _ => ?_) (fun c => False.elim (by revert c; decide))
            refine lv_goto (tgt := 11) hx hb dX12_readSum_59 (by decide) ?_
            exact ih  x63 x62 x64 x66 x61 j60 (by omega) (by omega) μ59 hI (by exact hx63) (by exact hx62) (by exact hx64) (by exact hx66) (by exact hx61) (by exact ((hJ59.2.1 81 35 rfl).trans (by exact ((hJ53.2.1 81 35 rfl).trans (by exact htp))))) (hfT) (hRW) (hms) ((by rw [← hsp, a_Sl_1 (j := gj) hK4 (by have hz := hkk.all; omega)]; simp only [a_b, ha60])) _ _ hW ls (lv_sub hl [1] rfl)
      · refine lv_if_eq (tgt := 62) hx hb dX12_readSum_26 (by decide) (fun _ => ?_) (fun c => False.elim (by revert c; decide))
        refine lv_iconst (v := 0) hx hb dX12_readSum_62 (by decide) ?_
        exact m_iret hx hb hr hlocks hW rfl (⟨hI, Or.inr ⟨rfl, by rw [show μ.1 81 51 = uv2 from by exact h_uv2, show μ.1 81 37 = fv2 from by exact h_fv2, show μ.1 81 36 = av2 from by exact h_av2, show μ.1 81 38 = tk2 from by exact h_tk2]; omega, _, (by rw [← hsp]; exact a_Sl_0 (by have hz := hkk.all; omega)), hms⟩⟩) dX12_readSum_63
set_option maxHeartbeats 4000000 in
set_option maxRecDepth 100000 in
theorem g_X12_readSum_g (l : Launch) (D : va_G) (cy : Nat → ClassId) (b : Nat) (S : Nat → Bool) (μ0 : mM) (hS24 : S 24 = true) (hS25 : S 25 = true) (hS34 : S 34 = true) (hS36 : S 36 = true) (av fv tk vv uv : Int32) (h_g : 0 ≤ av.toInt ∧ av.toInt ≤ 400 ∧ 0 ≤ fv.toInt ∧ fv.toInt ≤ 400 ∧ 0 ≤ tk.toInt ∧ tk.toInt ≤ 4 ∧ -1 ≤ vv.toInt ∧ vv.toInt ≤ 99999 ∧ 0 ≤ uv.toInt ∧ uv.toInt ≤ 400 ∧ uv.toInt ≤ fv.toInt ∧ fv.toInt ≤ av.toInt ∧ (tk.toInt = 0 ∨ fv.toInt + 1 ≤ av.toInt)) (t : Int32) (h_tt : 0 ≤ t.toInt ∧ t.toInt ≤ 400) (fT : Nat → Int32) (gi : Nat) (μ : mM) (hI : IY S μ0 μ) (h_av : μ.1 81 36 = av) (h_fv : μ.1 81 37 = fv) (h_tk : μ.1 81 38 = tk) (h_vv : μ.1 81 39 = vv) (h_uv : μ.1 81 51 = uv) (htp : μ.1 81 35 = t) (hfT : μ.1 106 = fT) (hRW : m_RW μ) (hms : m_MS μ fT t.toNatClampNeg gi) : m_Ci l yX12_readSum cX12_readSum 2 ((some .int)) 4 D cy b LAY μ [.ref (b + 81)] (fun r ν => IY S μ0 ν ∧ ((r = -1 ∧ ∃ e, a_S (t_K fT t.toNatClampNeg) (t_L fT t.toNatClampNeg) gi = .inl e ∧ m_FT ν e) ∨ (r = 0 ∧ ((ν.1 81 51).toInt ≤ (ν.1 81 37).toInt ∧ fv.toInt + 1 ≤ (ν.1 81 37).toInt ∧ (ν.1 81 37).toInt ≤ (ν.1 81 36).toInt ∧ ((ν.1 81 38).toInt = 0 ∨ (ν.1 81 37).toInt + 1 ≤ (ν.1 81 36).toInt)) ∧ ∃ j, a_S (t_K fT t.toNatClampNeg) (t_L fT t.toNatClampNeg) gi = .inr j ∧ m_MS ν fT t.toNatClampNeg j))) := by
  unfold m_Ci
  refine m_of (by decide) (Nat.le_of_ble_eq_true rfl) ?_
  intro p e s m below meth c hx hb hr hml hown hts hlocks _ hW ls hl
  have hown : s.vm.findClass RX12 = some m.cls := hown
  have hl : lv_has ls 2 [(0, .ref (b + 81))] := hl
  refine lv_aload_n hx hb dX12_readSum_0 rfl (lv_at hl 0 rfl) ?_
  refine lv_iconst (v := 1) hx hb dX12_readSum_1 (by decide) ?_
  have l_1 : (1 : Int32).toInt = 1 := by decide
  refine m_aI hW (m_runV (As := [.int 1]) (rest := []) hx hb hml hown hts hW (81) (g_X12_readUnit_g l D cy b (fun g => [24, 25, 34, 36].contains g) μ rfl rfl rfl rfl av fv tk vv uv (by omega) t (by omega) fT gi 1 μ (IY.rf hI.1) (by exact h_av) (by exact h_fv) (by exact h_tk) (by exact h_vv) (by exact h_uv) (by exact htp) hfT hRW hms) mi_X12_readUnit k_X12_288 rfl rfl rfl hl.1 rfl (Nat.le_of_ble_eq_true rfl) dX12_readSum_2 ⟨Nat.le_of_ble_eq_true rfl, Nat.le_of_ble_eq_true rfl⟩ ⟨Nat.le_of_ble_eq_true rfl, Nat.le_of_ble_eq_true rfl⟩) (fun x1 μ1 H locs q1 hW => ?_)
  obtain ⟨hJ1, q1⟩ := q1
  have hI := hI.tr hJ1 (m_subL (by simp [hS24, hS25, hS34, hS36]))
  have hfT : μ1.1 106 = fT := by rw [show μ1.1 106 = μ.1 106 from funext fun j => hJ1.2.1 106 j rfl]; exact hfT
  have hRW : m_RW μ1 := hRW.fr hJ1 rfl
  rcases q1 with ⟨rfl, e2, ha2, hft⟩ | ⟨rfl, q1, j2, ha2, hms⟩
  · refine lv_iconst (v := (-1)) hx hb dX12_readSum_5 (by decide) ?_
    refine lv_icmp_ne (tgt := 11) hx hb dX12_readSum_6 (by decide) (fun c => False.elim (by revert c; decide)) (fun _ => ?_)
    refine lv_iconst (v := (-1)) hx hb dX12_readSum_9 (by decide) ?_
    exact m_iret hx hb hr hlocks hW rfl (⟨hI, Or.inl ⟨rfl, e2, (by simp only [a_S, a_b, ha2]), hft⟩⟩) dX12_readSum_10
  · obtain ⟨x3, hx3⟩ : ∃ z, μ1.1 81 51 = z := ⟨_, rfl⟩
    have bx3 : 0 ≤ x3.toInt ∧ x3.toInt ≤ 400 := by rw [← hx3]; exact hI.1 _ _ _ _ rfl
    rw [show μ1.1 81 51 = x3 from by exact hx3] at q1
    obtain ⟨x4, hx4⟩ : ∃ z, μ1.1 81 37 = z := ⟨_, rfl⟩
    have bx4 : 0 ≤ x4.toInt ∧ x4.toInt ≤ 400 := by rw [← hx4]; exact hI.1 _ _ _ _ rfl
    rw [show μ1.1 81 37 = x4 from by exact hx4] at q1
    obtain ⟨x5, hx5⟩ : ∃ z, μ1.1 81 36 = z := ⟨_, rfl⟩
    have bx5 : 0 ≤ x5.toInt ∧ x5.toInt ≤ 400 := by rw [← hx5]; exact hI.1 _ _ _ _ rfl
    rw [show μ1.1 81 36 = x5 from by exact hx5] at q1
    obtain ⟨x6, hx6⟩ : ∃ z, μ1.1 81 38 = z := ⟨_, rfl⟩
    have bx6 : 0 ≤ x6.toInt ∧ x6.toInt ≤ 4 := by rw [← hx6]; exact hI.1 _ _ _ _ rfl
    rw [show μ1.1 81 38 = x6 from by exact hx6] at q1
    obtain ⟨x8, hx8⟩ : ∃ z, μ1.1 81 39 = z := ⟨_, rfl⟩
    have bx8 : -1 ≤ x8.toInt ∧ x8.toInt ≤ 99999 := by rw [← hx8]; exact hI.1 _ _ _ _ rfl
    have hk7 : m_TQ ((t_K fT t.toNatClampNeg) j2) (m_VV fT t.toNatClampNeg j2) x6 x8 := by
      have z := hms.2.2
      rw [show μ1.1 81 38 = x6 from by exact hx6, show μ1.1 81 39 = x8 from by exact hx8] at z
      exact z
    refine lv_iconst (v := (-1)) hx hb dX12_readSum_5 (by decide) ?_
    refine lv_icmp_ne (tgt := 11) hx hb dX12_readSum_6 (by decide) (fun _ => ?_) (fun c => False.elim (by revert c; decide))
    exact L_X12_readSum_g_11 hx hb hr hml hown hts hlocks S μ0 hS24 hS25 hS34 hS36 av fv tk vv uv h_g t h_tt fT gi  401  x5 x4 x6 x8 x3 j2 (by omega) (by omega) μ1 hI (by exact hx5) (by exact hx4) (by exact hx6) (by exact hx8) (by exact hx3) (by exact ((hJ1.2.1 81 35 rfl).trans (by exact htp))) (hfT) (hRW) (hms) ((by simp only [a_S, a_b, ha2])) _ _ hW ls (lv_sub hl [0] rfl)
