theorem a_b_r {α : Type} {x : Sum (Int × Int) Nat} {g : Nat → Sum (Int × Int) α} {y : α} (h : a_b x g = .inr y) : ∃ j, x = .inr j ∧ g j = .inr y := by
  cases x with
  | inl e => cases h
  | inr j => exact ⟨j, rfl, h⟩
theorem a_k_r {K L : Nat → Int} {lo hi : Int} {i j : Nat} (h : a_k K L lo hi i = .inr j) : j = i + 1 := by
  unfold a_k at h
  split at h
  · cases h; rfl
  · cases h
theorem a_N_r {K L V : Nat → Int} {lo hi : Int} {i j : Nat} (h : a_N K L V lo hi i = .inr j) : j = i + 1 := by
  unfold a_N at h
  split at h
  · split at h
    · cases h; rfl
    · cases h
  · cases h
theorem a_Sl_r {K L : Nat → Int} : ∀ {m i j : Nat}, a_Sl K L m i = .inr j → i ≤ j
  | 0, i, j, h => by cases h; exact Nat.le_refl i
  | m + 1, i, j, h => by
    unfold a_Sl at h
    split at h
    · obtain ⟨k, h1, h2⟩ := a_b_r h
      have := a_T_r h1
      have := a_Sl_r h2
      omega
    · cases h; exact Nat.le_refl i
theorem a_S_r {K L : Nat → Int} {i j : Nat} (h : a_S K L i = .inr j) : i + 1 ≤ j := by
  obtain ⟨k, h1, h2⟩ := a_b_r h
  have := a_T_r h1
  have := a_Sl_r h2
  omega
theorem a_plain_r {K L V : Nat → Int} {i j : Nat} (h : a_plain K L V i = .inr j) : i + 1 ≤ j := by
  unfold a_plain at h
  split at h
  · cases h; exact Nat.le_refl _
  · split at h
    · obtain ⟨k, h1, h2⟩ := a_b_r h
      have := a_N_r h1
      have := a_N_r h2
      omega
    · split at h
      · obtain ⟨k, h1, h2⟩ := a_b_r h
        have := a_k_r h1
        have := a_N_r h2
        omega
      · split at h
        · have := a_N_r h
          omega
        · have := a_N_r h
          omega
theorem a_close_r {K L : Nat → Int} {sl t : List Bool} {i j : Nat} (h : a_close K L sl i = .inr (j, t)) : i + 1 ≤ j := by
  obtain ⟨k, h1, h2⟩ := a_b_r h
  have := a_k_r h1
  cases h2
  omega
theorem a_step_r {K L V : Nat → Int} {sl t : List Bool} {i j : Nat} (h : a_step K L V i sl = .inr (j, t)) : i + 1 ≤ j := by
  unfold a_step at h
  split at h
  · obtain ⟨k, h1, h2⟩ := a_b_r h
    have := a_plain_r h1
    have := a_close_r h2
    omega
  · split at h
    · split at h
      · cases h
      · obtain ⟨k, h1, h2⟩ := a_b_r h
        obtain ⟨k2, h3, h4⟩ := a_b_r h1
        have := a_N_r h3
        have := a_k_r h4
        cases h2
        omega
    · split at h
      · split at h
        · cases h
        · obtain ⟨k, h1, h2⟩ := a_b_r h
          obtain ⟨k2, h3, h4⟩ := a_b_r h1
          have := a_S_r h3
          obtain ⟨k3, h5, h6⟩ := a_b_r h4
          have := a_k_r h5
          have := a_S_r h6
          cases h2
          omega
      · split at h
        · split at h
          · have := a_close_r h
            omega
          · cases h
        · cases h
theorem m_Q_lt {f : Nat → Int32} {n i : Nat} (h : t_K f n i ≠ 1) : m_Q f n i < n := by
  by_cases q : n ≤ m_Q f n i
  · exact absurd (m_KK_end q).1 h
  · omega
theorem m_Q_mono {f : Nat → Int32} {n : Nat} : ∀ d i, m_Q f n i ≤ m_Q f n (i + d)
  | 0, _ => Nat.le_refl _
  | d + 1, i => by
    have h1 := m_Q_mono (f := f) (n := n) d i
    by_cases q : m_Q f n (i + d) < n
    · have h2 := (m_te_b (f := f) q).1
      have h3 := m_P_Q (f := f) (n := n) (i := i + d + 1)
      have e : m_P f n (i + d + 1) = m_te f n (m_Q f n (i + d)) := rfl
      show _ ≤ m_Q f n (i + d + 1)
      omega
    · have h2 := (m_KK_end (f := f) (n := n) (i := i + d) (by omega)).2
      have h3 := m_Q_le (f := f) (n := n) (i := i + d)
      show _ ≤ m_Q f n (i + d + 1)
      omega
theorem t_L_lt {f : Nat → Int32} {n i j : Nat} (h : t_K f n i ≠ 1) (hj : i + 1 ≤ j) : t_L f n i + 1 ≤ t_L f n j := by
  have q := m_Q_lt h
  have h2 := (m_te_b (f := f) q).1
  have h3 := m_P_Q (f := f) (n := n) (i := i + 1)
  have e : m_P f n (i + 1) = m_te f n (m_Q f n i) := rfl
  have h4 := m_Q_mono (f := f) (n := n) (j - (i + 1)) (i + 1)
  rw [show i + 1 + (j - (i + 1)) = j from by omega] at h4
  unfold t_L
  omega
theorem t_L_4 {f : Nat → Int32} {n i : Nat} (hn : n ≤ 400) : 0 ≤ t_L f n i ∧ t_L f n i ≤ 400 := by
  have := m_Q_le (f := f) (n := n) (i := i)
  unfold t_L
  omega
set_option maxHeartbeats 4000000 in
set_option maxRecDepth 100000 in
theorem g_X10_programOf_k (l : Launch) (D : va_G) (cy : Nat → ClassId) (b : Nat) (k : Int32) (μ : mM) (hI : IX μ) : m_Cq l yX10_programOf cX10_programOf 2 ((some (.object "BeamPlate$Row"))) 1 D cy b LAY μ [.ref (b + 1), .int k] (fun q ν => μ = ν ∧ ((q = none ∧ (k.toInt < 0 ∨ 7 < k.toInt)) ∨ ∃ n, n < 8 ∧ q = some (7 + 2 * n) ∧ (0 ≤ k.toInt ∧ k.toInt ≤ 7))) := by
  unfold m_Cq
  refine m_of (by decide) (Nat.le_of_ble_eq_true rfl) ?_
  intro p e s m below meth c hx hb hr hml hown hts hlocks _ hW ls hl
  have hown : s.vm.findClass RX10 = some m.cls := hown
  have hl : lv_has ls 2 [(0, .ref (b + 1)), (1, .int k)] := hl
  refine lv_iload_n hx hb dX10_programOf_0 rfl (lv_at hl 1 rfl) ?_
  refine lv_iconst (v := 0) hx hb dX10_programOf_1 (by decide) ?_
  refine lv_bipush (v := 7) hx hb dX10_programOf_2 (by decide) ?_
  have l_0 : (0 : Int32).toInt = 0 := by decide
  have l_7 : (7 : Int32).toInt = 7 := by decide
  refine m_aI hW (m_runSN (As := [.int k, .int 0, .int 7]) (rest := []) hx hb hml hown hts hW (g_X11_within l D cy b k 0 7 μ hI) ms_X11_within n_X10_46 rfl hl.1 rfl (Nat.le_of_ble_eq_true rfl) dX10_programOf_4 ⟨Nat.le_of_ble_eq_true rfl, Nat.le_of_ble_eq_true rfl⟩ ⟨Nat.le_of_ble_eq_true rfl, Nat.le_of_ble_eq_true rfl⟩) (fun x1 μ1 H locs q1 hW => ?_)
  obtain ⟨q1_m, q1⟩ := q1
  subst q1_m
  rcases q1 with ⟨rfl, q1⟩ | ⟨rfl, q1⟩
  · refine lv_if_eq (tgt := 19) hx hb dX10_programOf_7 (by decide) (fun c => False.elim (by revert c; decide)) (fun _ => ?_)
    refine lv_aload_n hx hb dX10_programOf_10 rfl (lv_at hl 0 rfl) ?_
    refine m_getr hx hb hts hown hW (1) 7 (6) rfl rfl cw_10 rfl (by decide) k_X10_37 dX10_programOf_11 ?_
    refine lv_iload_n hx hb dX10_programOf_14 rfl (lv_at hl 1 rfl) ?_
    refine m_aald hx hb hW (6) rfl (m_ixI (rfl : k.toInt = _) (by omega) (by omega)) ((m_rows _ (m_nat (by omega))).1) dX10_programOf_15 ?_
    refine lv_goto (tgt := 20) hx hb dX10_programOf_16 (by decide) ?_
    exact m_aret hx hb hr hlocks hW (⟨rfl, Or.inr ⟨_, m_nat (by omega), rfl, by omega⟩⟩) dX10_programOf_20
  · refine lv_if_eq (tgt := 19) hx hb dX10_programOf_7 (by decide) (fun _ => ?_) (fun c => False.elim (by revert c; decide))
    refine lv_null hx hb dX10_programOf_19 ?_
    exact m_nret hx hb hr hlocks hW (⟨rfl, Or.inl ⟨rfl, by omega⟩⟩) dX10_programOf_20
set_option maxHeartbeats 4000000 in
set_option maxRecDepth 100000 in
theorem L_X4_read_f_66 {p : Program} {l : Launch} {e : Env} {s : State} {m : MethodId} {args : Array Value} {below : List Frame} {meth : Method} {c : Code} {D : va_G} {cy : Nat → ClassId} {b : Nat} (hx : p.tables.exec = Jvm.exec) (hb : c.code = cX4_read) (hr : meth.sig.returnType = ((some .boolean))) (hml : c.maxLocals = 4) (hown : s.vm.findClass RX4 = some m.cls) (hts : ∀ w ∈ TB, w.before args s = true) (hlocks : meth.locks = false) {oq oa ov : Nat} (hO : m_O (m_A b LAY) oq oa ov s s.heap) (S : Nat → Bool) (μ0 : mM) (hS5 : S 5 = true) (hS11 : S 11 = true) (hS12 : S 12 = true) (hS13 : S 13 = true) (hS14 : S 14 = true) (hS15 : S 15 = true) (hS16 : S 16 = true) (t : Int32) (h_t : 0 ≤ t.toInt ∧ t.toInt ≤ 400) (fT : Nat → Int32) (n : Nat) (h_n : n = t.toNatClampNeg) : ∀ (f : Nat), ∀ (y3 : Int32) (cn : Nat) (gj : Nat) (gs : List Bool) (hy : 0 ≤ y3.toInt ∧ y3.toInt ≤ 401 ∧ y3.toInt ≤ t_L fT n gj) (hf : 401 - y3.toInt < (f : Int)) (μ : mM) (hI : IY S μ0 μ) (hxt : m_XT μ fT n cn) (hxs : m_XS μ fT n cn gj) (hso : m_SO μ gs) (hall : a_all (t_K fT n) (t_L fT n) (t_V fT n) (401 - y3.toNatClampNeg) gj gs = a_all (t_K fT n) (t_L fT n) (t_V fT n) 401 0 []) (H : Heap) (locs : List Loc), m_WA (m_A b LAY) D cy s b LAY μ H locs → ∀ ls : Array Slot, lv_has ls 4 [(0, .ref (b + 27)), (1, .ref (b + 23)), (2, .int 0), (3, .int y3)] → W p l e (m_R 8 0 0) s m args below meth c H locs 0 0 (MQ below (m_Qi D cy b LAY (fun r ν => IY S μ0 ν ∧ ((r = 1 ∧ a_all (t_K fT n) (t_L fT n) (t_V fT n) 401 0 [] = none ∧ ν.1 27 1 = 0 ∧ ν.1 27 2 = -1) ∨ (r = 0 ∧ ∃ e, a_all (t_K fT n) (t_L fT n) (t_V fT n) 401 0 [] = some e ∧ (ν.1 27 1).toInt = e.1 ∧ (ν.1 27 2).toInt = e.2)))) args s 0 0 (m_A b LAY)) (F0 m 66 ls []) := by
  intro f
  induction f with
  | zero => intro y3 cn gj gs hy hf; exfalso; omega
  | succ f ih =>
    intro y3 cn gj gs hy hf μ hI hxt hxs hso hall H locs hW ls hl
    obtain ⟨xs1, xs2, xs3, xs4, xs5⟩ := hxs
    obtain ⟨cu, hcu⟩ : ∃ z, μ.1 27 4 = z := ⟨_, rfl⟩
    rw [hcu] at xs2
    obtain ⟨tk, htk⟩ : ∃ z, μ.1 27 5 = z := ⟨_, rfl⟩
    rw [htk] at xs3
    have hc4 : cn ≤ 400 := by have := hxt.1.2.2; have := hxt.2.2.2.2; omega
    have hL4 := t_L_4 (f := fT) (n := n) (i := gj) hxt.2.2.2.2
    refine lv_iload_n hx hb dX4_read_66 rfl (lv_at hl 3 rfl) ?_
    refine lv_sipush (v := 400) hx hb dX4_read_67 (by decide) ?_
    refine lv_icmp_gt (tgt := 162) hx hb dX4_read_70 (by decide) (fun c => absurd c (fun z => by have z2 := Int32.lt_iff_toInt_lt.mp z; have l4 : (400 : Int32).toInt = 400 := (by decide); omega)) (fun c1 => ?_)
    refine lv_aload_n hx hb dX4_read_73 rfl (lv_at hl 0 rfl) ?_
    refine m_geti hx hb hts hown hW (27) 1 rfl rfl cw_4 rfl (by decide) k_X4_20 dX4_read_74 ?_
    refine lv_topi (fun x2 ex2 => ?_)
    have ex2 : x2 = 0 := by rw [ex2]; exact xs1
    have ex2 := ex2.symm
    subst ex2
    refine lv_if_ne (tgt := 162) hx hb dX4_read_77 (by decide) (fun c => False.elim (by revert c; decide)) (fun _ => ?_)
    refine lv_iload_n hx hb dX4_read_80 rfl (lv_at hl 2 rfl) ?_
    refine lv_if_ne (tgt := 162) hx hb dX4_read_81 (by decide) (fun c => False.elim (by revert c; decide)) (fun _ => ?_)
    refine lv_aload_n hx hb dX4_read_84 rfl (lv_at hl 0 rfl) ?_
    refine m_geti hx hb hts hown hW (27) 5 rfl rfl cw_4 rfl (by decide) k_X4_37 dX4_read_85 ?_
    refine lv_topi (fun x3 ex3 => ?_)
    have ex3 : x3 = tk := by rw [ex3]; exact htk
    have ex3 := ex3.symm
    subst ex3
    refine lv_bipush (v := 9) hx hb dX4_read_88 (by decide) ?_
    refine lv_bipush (v := 16) hx hb dX4_read_90 (by decide) ?_
    have l_9 : (9 : Int32).toInt = 9 := by decide
    have l_16 : (16 : Int32).toInt = 16 := by decide
    refine m_aI hW (m_runSN (As := [.int tk, .int 9, .int 16]) (rest := []) hx hb hml hown hts hW (g_X11_within l D cy b tk 9 16 μ hI.1) ms_X11_within n_X4_60 rfl hl.1 rfl (Nat.le_of_ble_eq_true rfl) dX4_read_92 ⟨Nat.le_of_ble_eq_true rfl, Nat.le_of_ble_eq_true rfl⟩ ⟨Nat.le_of_ble_eq_true rfl, Nat.le_of_ble_eq_true rfl⟩) (fun x4 μ4 H locs q4 hW => ?_)
    obtain ⟨q4_m, q4⟩ := q4
    subst q4_m
    rcases q4 with ⟨rfl, q4⟩ | ⟨rfl, q4⟩
    · refine lv_if_eq (tgt := 105) hx hb dX4_read_95 (by decide) (fun c => False.elim (by revert c; decide)) (fun _ => ?_)
      refine lv_aload_n hx hb dX4_read_98 rfl (lv_at hl 0 rfl) ?_
      refine m_aV hW (m_runV (As := []) (rest := []) hx hb hml hown hts hW (27) (g_X4_readStep_o l D cy b (fun g => [5, 12, 13, 14].contains g) μ rfl rfl rfl rfl fT n cn gj gs μ (IY.rf hI.1) hxt ⟨by exact xs1, by rw [show μ.1 27 4 = cu from by exact hcu]; omega, by rw [show μ.1 27 5 = tk from by exact htk]; omega, by omega, by exact xs5⟩ hso (by omega)) mi_X4_readStep k_X4_64 rfl rfl rfl hl.1 rfl (Nat.le_of_ble_eq_true rfl) dX4_read_99 ⟨Nat.le_of_ble_eq_true rfl, Nat.le_of_ble_eq_true rfl⟩ ⟨Nat.le_of_ble_eq_true rfl, Nat.le_of_ble_eq_true rfl⟩) (fun μ5 H locs q5 hW => ?_)
      obtain ⟨hJ5, q5⟩ := q5
      have hI := hI.tr hJ5 (m_subL (by simp [hS5, hS12, hS13, hS14]))
      have hxt : m_XT μ5 fT n cn := hxt.fr hJ5 rfl rfl rfl
      rcases q5 with ⟨j6, sl6, ha6, hxs6, hso⟩ | ⟨e6, ha6, hxe6⟩
      · obtain ⟨xa7, xb7, xc7, xd7, xf7⟩ := hxs6
        obtain ⟨cu7, hcu7⟩ : ∃ z, μ5.1 27 4 = z := ⟨_, rfl⟩
        rw [hcu7] at xb7
        obtain ⟨tk7, htk7⟩ : ∃ z, μ5.1 27 5 = z := ⟨_, rfl⟩
        rw [htk7] at xc7
        refine lv_goto (tgt := 156) hx hb dX4_read_102 (by decide) ?_
        obtain ⟨x8, ex8⟩ : ∃ z : Int32, z = y3 + 1 := ⟨_, rfl⟩
        refine lv_iinc (v := x8) (lv' := [(3, .int x8), (0, .ref (b + 27)), (1, .ref (b + 23)), (2, .int 0)]) hx hb dX4_read_156 hl (k := 3) rfl (by rw [ex8]; rfl) (by decide) rfl (fun ls hl => ?_)
        have tx8 : x8.toInt = y3.toInt + 1 := m_addI ex8 (rfl : y3.toInt = _) (by decide : (1 : Int32).toInt = 1) (by omega) (by omega)
        refine lv_goto (tgt := 66) hx hb dX4_read_159 (by decide) ?_
        have hLj := t_L_lt (f := fT) (n := n) (i := gj) (by omega) (a_step_r ha6)
        exact ih x8 cn j6 sl6 (by omega) (by omega) μ5 hI (hxt) (⟨by rw [show μ5.1 27 1 = 0 from by exact xa7], by rw [show μ5.1 27 4 = cu7 from by exact hcu7]; omega, by rw [show μ5.1 27 5 = tk7 from by exact htk7]; omega, by omega, by rw [show μ5.1 27 2 = (-1) from by exact xf7]⟩) (hso) (((by rw [show 401 - x8.toNatClampNeg = 401 - y3.toNatClampNeg - 1 from by have := m_ckI (x := x8) (by omega); have := m_ckI (x := y3) (by omega); omega]; exact (a_all_go (by have := m_ckI (x := y3) (by omega); omega) (fun z => by omega) ha6).symm.trans hall))) _ _ hW ls (lv_sub hl [1, 2, 3, 0] rfl)
      · obtain ⟨xa9, xb9, xc9, xd9⟩ := hxe6
        obtain ⟨ef9, hef9⟩ : ∃ z, μ5.1 27 1 = z := ⟨_, rfl⟩
        rw [hef9] at xa9
        obtain ⟨ep9, hep9⟩ : ∃ z, μ5.1 27 2 = z := ⟨_, rfl⟩
        rw [hep9] at xc9
        refine lv_goto (tgt := 156) hx hb dX4_read_102 (by decide) ?_
        obtain ⟨x10, ex10⟩ : ∃ z : Int32, z = y3 + 1 := ⟨_, rfl⟩
        refine lv_iinc (v := x10) (lv' := [(3, .int x10), (0, .ref (b + 27)), (1, .ref (b + 23)), (2, .int 0)]) hx hb dX4_read_156 hl (k := 3) rfl (by rw [ex10]; rfl) (by decide) rfl (fun ls hl => ?_)
        have tx10 : x10.toInt = y3.toInt + 1 := m_addI ex10 (rfl : y3.toInt = _) (by decide : (1 : Int32).toInt = 1) (by omega) (by omega)
        refine lv_goto (tgt := 66) hx hb dX4_read_159 (by decide) ?_
        refine lv_iload_n hx hb dX4_read_66 rfl (lv_at hl 0 rfl) ?_
        refine lv_sipush (v := 400) hx hb dX4_read_67 (by decide) ?_
        refine lv_icmp_gt (tgt := 162) hx hb dX4_read_70 (by decide) (fun c11 => ?_) (fun c11 => ?_)
        · have i11 := m_c1 (by decide : (400 : Int32).toInt = 400) (rfl : x10.toInt = _) c11
          refine lv_iload_n hx hb dX4_read_162 rfl (lv_at hl 3 rfl) ?_
          exact m_iret hx hb hr hlocks hW (by decide) (⟨hI, Or.inr ⟨rfl, e6, (by rw [← hall]; exact a_all_err (by have := m_ckI (x := y3) (by omega); omega) (fun z => by first | omega | (rw [z.2] at hnn; exact hnn rfl)) ha6), by rw [show μ5.1 27 1 = ef9 from by exact hef9]; exact xa9, by rw [show μ5.1 27 2 = ep9 from by exact hep9]; exact xc9⟩⟩) dX4_read_163
        · have i11 := m_c2 (by decide : (400 : Int32).toInt = 400) (rfl : x10.toInt = _) c11
          refine lv_aload_n hx hb dX4_read_73 rfl (lv_at hl 1 rfl) ?_
          refine m_geti hx hb hts hown hW (27) 1 rfl rfl cw_4 rfl (by decide) k_X4_20 dX4_read_74 ?_
          refine lv_topi (fun x12 ex12 => ?_)
          have ex12 : x12 = ef9 := by rw [ex12]; exact hef9
          have ex12 := ex12.symm
          subst ex12
          refine lv_if_ne (tgt := 162) hx hb dX4_read_77 (by decide) (fun c13 => ?_) (fun c13 => ?_)
          · have i13 := m_c6 (rfl : ef9.toInt = _) (by decide : (0 : Int32).toInt = 0) c13
            refine lv_iload_n hx hb dX4_read_162 rfl (lv_at hl 3 rfl) ?_
            exact m_iret hx hb hr hlocks hW (by decide) (⟨hI, Or.inr ⟨rfl, e6, (by rw [← hall]; exact a_all_err (by have := m_ckI (x := y3) (by omega); omega) (fun z => by first | omega | (rw [z.2] at hnn; exact hnn rfl)) ha6), by rw [show μ5.1 27 1 = ef9 from by exact hef9]; exact xa9, by rw [show μ5.1 27 2 = ep9 from by exact hep9]; exact xc9⟩⟩) dX4_read_163
          · have i13 := m_c5 (rfl : ef9.toInt = _) (by decide : (0 : Int32).toInt = 0) c13
            exfalso; omega
    · refine lv_if_eq (tgt := 105) hx hb dX4_read_95 (by decide) (fun _ => ?_) (fun c => False.elim (by revert c; decide))
      refine lv_aload_n hx hb dX4_read_105 rfl (lv_at hl 0 rfl) ?_
      refine m_geti hx hb hts hown hW (27) 5 rfl rfl cw_4 rfl (by decide) k_X4_37 dX4_read_106 ?_
      refine lv_topi (fun x14 ex14 => ?_)
      have ex14 : x14 = tk := by rw [ex14]; exact htk
      have ex14 := ex14.symm
      subst ex14
      refine lv_bipush (v := 18) hx hb dX4_read_109 (by decide) ?_
      refine lv_icmp_ne (tgt := 130) hx hb dX4_read_111 (by decide) (fun c15 => ?_) (fun c15 => ?_)
      · have i15 := m_c6 (rfl : tk.toInt = _) (by decide : (18 : Int32).toInt = 18) c15
        refine lv_aload_n hx hb dX4_read_130 rfl (lv_at hl 0 rfl) ?_
        refine m_geti hx hb hts hown hW (27) 5 rfl rfl cw_4 rfl (by decide) k_X4_37 dX4_read_131 ?_
        refine lv_topi (fun x16 ex16 => ?_)
        have ex16 : x16 = tk := by rw [ex16]; exact htk
        have ex16 := ex16.symm
        subst ex16
        refine lv_iconst (v := 1) hx hb dX4_read_134 (by decide) ?_
        refine lv_icmp_ne (tgt := 151) hx hb dX4_read_135 (by decide) (fun c17 => ?_) (fun c17 => ?_)
        · have i17 := m_c6 (rfl : tk.toInt = _) (by decide : (1 : Int32).toInt = 1) c17
          refine lv_aload_n hx hb dX4_read_151 rfl (lv_at hl 0 rfl) ?_
          refine lv_iconst (v := 1) hx hb dX4_read_152 (by decide) ?_
          have l_1 : (1 : Int32).toInt = 1 := by decide
          refine m_aV hW (m_runV (As := [.int 1]) (rest := []) hx hb hml hown hts hW (27) (g_X4_fail_o l D cy b (fun g => [5].contains g) μ rfl fT n cn gj 1 (by omega) μ (IY.rf hI.1) hxt ⟨by exact xs1, by rw [show μ.1 27 4 = cu from by exact hcu]; omega, by rw [show μ.1 27 5 = tk from by exact htk]; omega, by omega, by exact xs5⟩) mi_X4_fail k_X4_74 rfl rfl rfl hl.1 rfl (Nat.le_of_ble_eq_true rfl) dX4_read_153 ⟨Nat.le_of_ble_eq_true rfl, Nat.le_of_ble_eq_true rfl⟩ ⟨Nat.le_of_ble_eq_true rfl, Nat.le_of_ble_eq_true rfl⟩) (fun μ18 H locs q18 hW => ?_)
          obtain ⟨hJ18, q18⟩ := q18
          have hI := hI.tr hJ18 (m_subL (by simp [hS5]))
          have hxt : m_XT μ18 fT n cn := hxt.fr hJ18 rfl rfl rfl
          have hso : m_SO μ18 gs := hso.fr hJ18 rfl
          rw [show (1 : Int32).toInt = 1 from by decide] at q18
          have hxe19 : m_XE μ18 (1, (t_L fT n) gj) := q18
          obtain ⟨xa20, xb20, xc20, xd20⟩ := hxe19
          obtain ⟨ef20, hef20⟩ : ∃ z, μ18.1 27 1 = z := ⟨_, rfl⟩
          rw [hef20] at xa20
          obtain ⟨ep20, hep20⟩ : ∃ z, μ18.1 27 2 = z := ⟨_, rfl⟩
          rw [hep20] at xc20
          obtain ⟨x21, ex21⟩ : ∃ z : Int32, z = y3 + 1 := ⟨_, rfl⟩
          refine lv_iinc (v := x21) (lv' := [(3, .int x21), (0, .ref (b + 27)), (1, .ref (b + 23)), (2, .int 0)]) hx hb dX4_read_156 hl (k := 3) rfl (by rw [ex21]; rfl) (by decide) rfl (fun ls hl => ?_)
          have tx21 : x21.toInt = y3.toInt + 1 := m_addI ex21 (rfl : y3.toInt = _) (by decide : (1 : Int32).toInt = 1) (by omega) (by omega)
          refine lv_goto (tgt := 66) hx hb dX4_read_159 (by decide) ?_
          refine lv_iload_n hx hb dX4_read_66 rfl (lv_at hl 0 rfl) ?_
          refine lv_sipush (v := 400) hx hb dX4_read_67 (by decide) ?_
          refine lv_icmp_gt (tgt := 162) hx hb dX4_read_70 (by decide) (fun c22 => ?_) (fun c22 => ?_)
          · have i22 := m_c1 (by decide : (400 : Int32).toInt = 400) (rfl : x21.toInt = _) c22
            refine lv_iload_n hx hb dX4_read_162 rfl (lv_at hl 3 rfl) ?_
            exact m_iret hx hb hr hlocks hW (by decide) (⟨hI, Or.inr ⟨rfl, (1, (t_L fT n) gj), (by rw [← hall]; exact a_all_err (by have := m_ckI (x := y3) (by omega); omega) (fun z => by omega) (a_st0 (by omega) (fun z t ht => by omega))), by rw [show μ18.1 27 1 = ef20 from by exact hef20]; exact xa20, by rw [show μ18.1 27 2 = ep20 from by exact hep20]; exact xc20⟩⟩) dX4_read_163
          · have i22 := m_c2 (by decide : (400 : Int32).toInt = 400) (rfl : x21.toInt = _) c22
            refine lv_aload_n hx hb dX4_read_73 rfl (lv_at hl 1 rfl) ?_
            refine m_geti hx hb hts hown hW (27) 1 rfl rfl cw_4 rfl (by decide) k_X4_20 dX4_read_74 ?_
            refine lv_topi (fun x23 ex23 => ?_)
            have ex23 : x23 = ef20 := by rw [ex23]; exact hef20
            have ex23 := ex23.symm
            subst ex23
            refine lv_if_ne (tgt := 162) hx hb dX4_read_77 (by decide) (fun c24 => ?_) (fun c24 => ?_)
            · have i24 := m_c6 (rfl : ef20.toInt = _) (by decide : (0 : Int32).toInt = 0) c24
              refine lv_iload_n hx hb dX4_read_162 rfl (lv_at hl 3 rfl) ?_
              exact m_iret hx hb hr hlocks hW (by decide) (⟨hI, Or.inr ⟨rfl, (1, (t_L fT n) gj), (by rw [← hall]; exact a_all_err (by have := m_ckI (x := y3) (by omega); omega) (fun z => by omega) (a_st0 (by omega) (fun z t ht => by omega))), by rw [show μ18.1 27 1 = ef20 from by exact hef20]; exact xa20, by rw [show μ18.1 27 2 = ep20 from by exact hep20]; exact xc20⟩⟩) dX4_read_163
            · have i24 := m_c5 (rfl : ef20.toInt = _) (by decide : (0 : Int32).toInt = 0) c24
              exfalso; omega
        · have i17 := m_c5 (rfl : tk.toInt = _) (by decide : (1 : Int32).toInt = 1) c17
          refine lv_aload_n hx hb dX4_read_138 rfl (lv_at hl 0 rfl) ?_
          refine m_aI hW (m_runV (As := []) (rest := []) hx hb hml hown hts hW (27) (g_X4_innermost_o l D cy b gs μ hI.1 hso) mi_X4_innermost k_X4_67 rfl rfl rfl hl.1 rfl (Nat.le_of_ble_eq_true rfl) dX4_read_139 ⟨Nat.le_of_ble_eq_true rfl, Nat.le_of_ble_eq_true rfl⟩ ⟨Nat.le_of_ble_eq_true rfl, Nat.le_of_ble_eq_true rfl⟩) (fun x25 μ25 H locs q25 hW => ?_)
          obtain ⟨q25_m, q25⟩ := q25
          subst q25_m
          rcases q25 with ⟨hst26, q25⟩ | ⟨t26, hst26, q25⟩ | ⟨t26, hst26, q25⟩
          · refine lv_iconst (v := (-1)) hx hb dX4_read_142 (by decide) ?_
            refine lv_icmp_ne (tgt := 151) hx hb dX4_read_143 (by decide) (fun c27 => ?_) (fun c27 => ?_)
            · have i27 := m_c6 (rfl : x25.toInt = _) (by decide : ((-1) : Int32).toInt = (-1)) c27
              exfalso; omega
            · have i27 := m_c5 (rfl : x25.toInt = _) (by decide : ((-1) : Int32).toInt = (-1)) c27
              refine lv_iconst (v := 1) hx hb dX4_read_146 (by decide) ?_
              refine lv_istore_n (lv' := [(2, .int 1), (0, .ref (b + 27)), (1, .ref (b + 23)), (3, .int y3)]) hx hb dX4_read_147 rfl hl (by decide) rfl (fun ls hl => ?_)
              refine lv_goto (tgt := 156) hx hb dX4_read_148 (by decide) ?_
              obtain ⟨x28, ex28⟩ : ∃ z : Int32, z = y3 + 1 := ⟨_, rfl⟩
              refine lv_iinc (v := x28) (lv' := [(3, .int x28), (2, .int 1), (0, .ref (b + 27)), (1, .ref (b + 23))]) hx hb dX4_read_156 hl (k := 3) rfl (by rw [ex28]; rfl) (by decide) rfl (fun ls hl => ?_)
              have tx28 : x28.toInt = y3.toInt + 1 := m_addI ex28 (rfl : y3.toInt = _) (by decide : (1 : Int32).toInt = 1) (by omega) (by omega)
              refine lv_goto (tgt := 66) hx hb dX4_read_159 (by decide) ?_
              refine lv_iload_n hx hb dX4_read_66 rfl (lv_at hl 0 rfl) ?_
              refine lv_sipush (v := 400) hx hb dX4_read_67 (by decide) ?_
              refine lv_icmp_gt (tgt := 162) hx hb dX4_read_70 (by decide) (fun c29 => ?_) (fun c29 => ?_)
              · have i29 := m_c1 (by decide : (400 : Int32).toInt = 400) (rfl : x28.toInt = _) c29
                refine lv_iload_n hx hb dX4_read_162 rfl (lv_at hl 1 rfl) ?_
                exact m_iret hx hb hr hlocks hW (by decide) (⟨hI, Or.inl ⟨rfl, (by rw [← hall]; exact a_all_fin (by have := m_ckI (x := y3) (by omega); omega) (by omega) hst26), by rw [show μ.1 27 1 = 0 from by exact xs1], by rw [show μ.1 27 2 = (-1) from by exact xs5]⟩⟩) dX4_read_163
              · have i29 := m_c2 (by decide : (400 : Int32).toInt = 400) (rfl : x28.toInt = _) c29
                refine lv_aload_n hx hb dX4_read_73 rfl (lv_at hl 2 rfl) ?_
                refine m_geti hx hb hts hown hW (27) 1 rfl rfl cw_4 rfl (by decide) k_X4_20 dX4_read_74 ?_
                refine lv_topi (fun x30 ex30 => ?_)
                have ex30 : x30 = 0 := by rw [ex30]; exact xs1
                have ex30 := ex30.symm
                subst ex30
                refine lv_if_ne (tgt := 162) hx hb dX4_read_77 (by decide) (fun c => False.elim (by revert c; decide)) (fun _ => ?_)
                refine lv_iload_n hx hb dX4_read_80 rfl (lv_at hl 1 rfl) ?_
                refine lv_if_ne (tgt := 162) hx hb dX4_read_81 (by decide) (fun _ => ?_) (fun c => False.elim (by revert c; decide))
                refine lv_iload_n hx hb dX4_read_162 rfl (lv_at hl 1 rfl) ?_
                exact m_iret hx hb hr hlocks hW (by decide) (⟨hI, Or.inl ⟨rfl, (by rw [← hall]; exact a_all_fin (by have := m_ckI (x := y3) (by omega); omega) (by omega) hst26), by rw [show μ.1 27 1 = 0 from by exact xs1], by rw [show μ.1 27 2 = (-1) from by exact xs5]⟩⟩) dX4_read_163
          · refine lv_iconst (v := (-1)) hx hb dX4_read_142 (by decide) ?_
            refine lv_icmp_ne (tgt := 151) hx hb dX4_read_143 (by decide) (fun c31 => ?_) (fun c31 => ?_)
            · have i31 := m_c6 (rfl : x25.toInt = _) (by decide : ((-1) : Int32).toInt = (-1)) c31
              refine lv_aload_n hx hb dX4_read_151 rfl (lv_at hl 0 rfl) ?_
              refine lv_iconst (v := 1) hx hb dX4_read_152 (by decide) ?_
              have l_1 : (1 : Int32).toInt = 1 := by decide
              refine m_aV hW (m_runV (As := [.int 1]) (rest := []) hx hb hml hown hts hW (27) (g_X4_fail_o l D cy b (fun g => [5].contains g) μ rfl fT n cn gj 1 (by omega) μ (IY.rf hI.1) hxt ⟨by exact xs1, by rw [show μ.1 27 4 = cu from by exact hcu]; omega, by rw [show μ.1 27 5 = tk from by exact htk]; omega, by omega, by exact xs5⟩) mi_X4_fail k_X4_74 rfl rfl rfl hl.1 rfl (Nat.le_of_ble_eq_true rfl) dX4_read_153 ⟨Nat.le_of_ble_eq_true rfl, Nat.le_of_ble_eq_true rfl⟩ ⟨Nat.le_of_ble_eq_true rfl, Nat.le_of_ble_eq_true rfl⟩) (fun μ32 H locs q32 hW => ?_)
              obtain ⟨hJ32, q32⟩ := q32
              have hI := hI.tr hJ32 (m_subL (by simp [hS5]))
              have hxt : m_XT μ32 fT n cn := hxt.fr hJ32 rfl rfl rfl
              have hso : m_SO μ32 gs := hso.fr hJ32 rfl
              rw [show (1 : Int32).toInt = 1 from by decide] at q32
              have hxe33 : m_XE μ32 (1, (t_L fT n) gj) := q32
              obtain ⟨xa34, xb34, xc34, xd34⟩ := hxe33
              obtain ⟨ef34, hef34⟩ : ∃ z, μ32.1 27 1 = z := ⟨_, rfl⟩
              rw [hef34] at xa34
              obtain ⟨ep34, hep34⟩ : ∃ z, μ32.1 27 2 = z := ⟨_, rfl⟩
              rw [hep34] at xc34
              obtain ⟨x35, ex35⟩ : ∃ z : Int32, z = y3 + 1 := ⟨_, rfl⟩
              refine lv_iinc (v := x35) (lv' := [(3, .int x35), (0, .ref (b + 27)), (1, .ref (b + 23)), (2, .int 0)]) hx hb dX4_read_156 hl (k := 3) rfl (by rw [ex35]; rfl) (by decide) rfl (fun ls hl => ?_)
              have tx35 : x35.toInt = y3.toInt + 1 := m_addI ex35 (rfl : y3.toInt = _) (by decide : (1 : Int32).toInt = 1) (by omega) (by omega)
              refine lv_goto (tgt := 66) hx hb dX4_read_159 (by decide) ?_
              refine lv_iload_n hx hb dX4_read_66 rfl (lv_at hl 0 rfl) ?_
              refine lv_sipush (v := 400) hx hb dX4_read_67 (by decide) ?_
              refine lv_icmp_gt (tgt := 162) hx hb dX4_read_70 (by decide) (fun c36 => ?_) (fun c36 => ?_)
              · have i36 := m_c1 (by decide : (400 : Int32).toInt = 400) (rfl : x35.toInt = _) c36
                refine lv_iload_n hx hb dX4_read_162 rfl (lv_at hl 3 rfl) ?_
                exact m_iret hx hb hr hlocks hW (by decide) (⟨hI, Or.inr ⟨rfl, (1, (t_L fT n) gj), (by rw [← hall]; exact a_all_err (by have := m_ckI (x := y3) (by omega); omega) (fun z => by rw [hst26] at z; exact absurd z.2 (by simp)) (a_st0 (by omega) (fun z t ht => by omega))), by rw [show μ32.1 27 1 = ef34 from by exact hef34]; exact xa34, by rw [show μ32.1 27 2 = ep34 from by exact hep34]; exact xc34⟩⟩) dX4_read_163
              · have i36 := m_c2 (by decide : (400 : Int32).toInt = 400) (rfl : x35.toInt = _) c36
                refine lv_aload_n hx hb dX4_read_73 rfl (lv_at hl 1 rfl) ?_
                refine m_geti hx hb hts hown hW (27) 1 rfl rfl cw_4 rfl (by decide) k_X4_20 dX4_read_74 ?_
                refine lv_topi (fun x37 ex37 => ?_)
                have ex37 : x37 = ef34 := by rw [ex37]; exact hef34
                have ex37 := ex37.symm
                subst ex37
                refine lv_if_ne (tgt := 162) hx hb dX4_read_77 (by decide) (fun c38 => ?_) (fun c38 => ?_)
                · have i38 := m_c6 (rfl : ef34.toInt = _) (by decide : (0 : Int32).toInt = 0) c38
                  refine lv_iload_n hx hb dX4_read_162 rfl (lv_at hl 3 rfl) ?_
                  exact m_iret hx hb hr hlocks hW (by decide) (⟨hI, Or.inr ⟨rfl, (1, (t_L fT n) gj), (by rw [← hall]; exact a_all_err (by have := m_ckI (x := y3) (by omega); omega) (fun z => by rw [hst26] at z; exact absurd z.2 (by simp)) (a_st0 (by omega) (fun z t ht => by omega))), by rw [show μ32.1 27 1 = ef34 from by exact hef34]; exact xa34, by rw [show μ32.1 27 2 = ep34 from by exact hep34]; exact xc34⟩⟩) dX4_read_163
                · have i38 := m_c5 (rfl : ef34.toInt = _) (by decide : (0 : Int32).toInt = 0) c38
                  exfalso; omega
            · have i31 := m_c5 (rfl : x25.toInt = _) (by decide : ((-1) : Int32).toInt = (-1)) c31
              exfalso; omega
          · refine lv_iconst (v := (-1)) hx hb dX4_read_142 (by decide) ?_
            refine lv_icmp_ne (tgt := 151) hx hb dX4_read_143 (by decide) (fun c39 => ?_) (fun c39 => ?_)
            · have i39 := m_c6 (rfl : x25.toInt = _) (by decide : ((-1) : Int32).toInt = (-1)) c39
              refine lv_aload_n hx hb dX4_read_151 rfl (lv_at hl 0 rfl) ?_
              refine lv_iconst (v := 1) hx hb dX4_read_152 (by decide) ?_
              have l_1 : (1 : Int32).toInt = 1 := by decide
              refine m_aV hW (m_runV (As := [.int 1]) (rest := []) hx hb hml hown hts hW (27) (g_X4_fail_o l D cy b (fun g => [5].contains g) μ rfl fT n cn gj 1 (by omega) μ (IY.rf hI.1) hxt ⟨by exact xs1, by rw [show μ.1 27 4 = cu from by exact hcu]; omega, by rw [show μ.1 27 5 = tk from by exact htk]; omega, by omega, by exact xs5⟩) mi_X4_fail k_X4_74 rfl rfl rfl hl.1 rfl (Nat.le_of_ble_eq_true rfl) dX4_read_153 ⟨Nat.le_of_ble_eq_true rfl, Nat.le_of_ble_eq_true rfl⟩ ⟨Nat.le_of_ble_eq_true rfl, Nat.le_of_ble_eq_true rfl⟩) (fun μ40 H locs q40 hW => ?_)
              obtain ⟨hJ40, q40⟩ := q40
              have hI := hI.tr hJ40 (m_subL (by simp [hS5]))
              have hxt : m_XT μ40 fT n cn := hxt.fr hJ40 rfl rfl rfl
              have hso : m_SO μ40 gs := hso.fr hJ40 rfl
              rw [show (1 : Int32).toInt = 1 from by decide] at q40
              have hxe41 : m_XE μ40 (1, (t_L fT n) gj) := q40
              obtain ⟨xa42, xb42, xc42, xd42⟩ := hxe41
              obtain ⟨ef42, hef42⟩ : ∃ z, μ40.1 27 1 = z := ⟨_, rfl⟩
              rw [hef42] at xa42
              obtain ⟨ep42, hep42⟩ : ∃ z, μ40.1 27 2 = z := ⟨_, rfl⟩
              rw [hep42] at xc42
              obtain ⟨x43, ex43⟩ : ∃ z : Int32, z = y3 + 1 := ⟨_, rfl⟩
              refine lv_iinc (v := x43) (lv' := [(3, .int x43), (0, .ref (b + 27)), (1, .ref (b + 23)), (2, .int 0)]) hx hb dX4_read_156 hl (k := 3) rfl (by rw [ex43]; rfl) (by decide) rfl (fun ls hl => ?_)
              have tx43 : x43.toInt = y3.toInt + 1 := m_addI ex43 (rfl : y3.toInt = _) (by decide : (1 : Int32).toInt = 1) (by omega) (by omega)
              refine lv_goto (tgt := 66) hx hb dX4_read_159 (by decide) ?_
              refine lv_iload_n hx hb dX4_read_66 rfl (lv_at hl 0 rfl) ?_
              refine lv_sipush (v := 400) hx hb dX4_read_67 (by decide) ?_
              refine lv_icmp_gt (tgt := 162) hx hb dX4_read_70 (by decide) (fun c44 => ?_) (fun c44 => ?_)
              · have i44 := m_c1 (by decide : (400 : Int32).toInt = 400) (rfl : x43.toInt = _) c44
                refine lv_iload_n hx hb dX4_read_162 rfl (lv_at hl 3 rfl) ?_
                exact m_iret hx hb hr hlocks hW (by decide) (⟨hI, Or.inr ⟨rfl, (1, (t_L fT n) gj), (by rw [← hall]; exact a_all_err (by have := m_ckI (x := y3) (by omega); omega) (fun z => by rw [hst26] at z; exact absurd z.2 (by simp)) (a_st0 (by omega) (fun z t ht => by rw [hst26] at ht; cases ht))), by rw [show μ40.1 27 1 = ef42 from by exact hef42]; exact xa42, by rw [show μ40.1 27 2 = ep42 from by exact hep42]; exact xc42⟩⟩) dX4_read_163
              · have i44 := m_c2 (by decide : (400 : Int32).toInt = 400) (rfl : x43.toInt = _) c44
                refine lv_aload_n hx hb dX4_read_73 rfl (lv_at hl 1 rfl) ?_
                refine m_geti hx hb hts hown hW (27) 1 rfl rfl cw_4 rfl (by decide) k_X4_20 dX4_read_74 ?_
                refine lv_topi (fun x45 ex45 => ?_)
                have ex45 : x45 = ef42 := by rw [ex45]; exact hef42
                have ex45 := ex45.symm
                subst ex45
                refine lv_if_ne (tgt := 162) hx hb dX4_read_77 (by decide) (fun c46 => ?_) (fun c46 => ?_)
                · have i46 := m_c6 (rfl : ef42.toInt = _) (by decide : (0 : Int32).toInt = 0) c46
                  refine lv_iload_n hx hb dX4_read_162 rfl (lv_at hl 3 rfl) ?_
                  exact m_iret hx hb hr hlocks hW (by decide) (⟨hI, Or.inr ⟨rfl, (1, (t_L fT n) gj), (by rw [← hall]; exact a_all_err (by have := m_ckI (x := y3) (by omega); omega) (fun z => by rw [hst26] at z; exact absurd z.2 (by simp)) (a_st0 (by omega) (fun z t ht => by rw [hst26] at ht; cases ht))), by rw [show μ40.1 27 1 = ef42 from by exact hef42]; exact xa42, by rw [show μ40.1 27 2 = ep42 from by exact hep42]; exact xc42⟩⟩) dX4_read_163
                · have i46 := m_c5 (rfl : ef42.toInt = _) (by decide : (0 : Int32).toInt = 0) c46
                  exfalso; omega
            · have i39 := m_c5 (rfl : x25.toInt = _) (by decide : ((-1) : Int32).toInt = (-1)) c39
              exfalso; omega
      · have i15 := m_c5 (rfl : tk.toInt = _) (by decide : (18 : Int32).toInt = 18) c15
        refine lv_aload_n hx hb dX4_read_114 rfl (lv_at hl 0 rfl) ?_
        refine m_aI hW (m_runV (As := []) (rest := []) hx hb hml hown hts hW (27) (g_X4_innermost_o l D cy b gs μ hI.1 hso) mi_X4_innermost k_X4_67 rfl rfl rfl hl.1 rfl (Nat.le_of_ble_eq_true rfl) dX4_read_115 ⟨Nat.le_of_ble_eq_true rfl, Nat.le_of_ble_eq_true rfl⟩ ⟨Nat.le_of_ble_eq_true rfl, Nat.le_of_ble_eq_true rfl⟩) (fun x47 μ47 H locs q47 hW => ?_)
        obtain ⟨q47_m, q47⟩ := q47
        subst q47_m
        rcases q47 with ⟨hst48, q47⟩ | ⟨t48, hst48, q47⟩ | ⟨t48, hst48, q47⟩
        · refine lv_bipush (v := 15) hx hb dX4_read_118 (by decide) ?_
          refine lv_icmp_ne (tgt := 130) hx hb dX4_read_120 (by decide) (fun c49 => ?_) (fun c49 => ?_)
          · have i49 := m_c6 (rfl : x47.toInt = _) (by decide : (15 : Int32).toInt = 15) c49
            refine lv_aload_n hx hb dX4_read_130 rfl (lv_at hl 0 rfl) ?_
            refine m_geti hx hb hts hown hW (27) 5 rfl rfl cw_4 rfl (by decide) k_X4_37 dX4_read_131 ?_
            refine lv_topi (fun x50 ex50 => ?_)
            have ex50 : x50 = tk := by rw [ex50]; exact htk
            have ex50 := ex50.symm
            subst ex50
            refine lv_iconst (v := 1) hx hb dX4_read_134 (by decide) ?_
            refine lv_icmp_ne (tgt := 151) hx hb dX4_read_135 (by decide) (fun c51 => ?_) (fun c51 => ?_)
            · have i51 := m_c6 (rfl : tk.toInt = _) (by decide : (1 : Int32).toInt = 1) c51
              refine lv_aload_n hx hb dX4_read_151 rfl (lv_at hl 0 rfl) ?_
              refine lv_iconst (v := 1) hx hb dX4_read_152 (by decide) ?_
              have l_1 : (1 : Int32).toInt = 1 := by decide
              refine m_aV hW (m_runV (As := [.int 1]) (rest := []) hx hb hml hown hts hW (27) (g_X4_fail_o l D cy b (fun g => [5].contains g) μ rfl fT n cn gj 1 (by omega) μ (IY.rf hI.1) hxt ⟨by exact xs1, by rw [show μ.1 27 4 = cu from by exact hcu]; omega, by rw [show μ.1 27 5 = tk from by exact htk]; omega, by omega, by exact xs5⟩) mi_X4_fail k_X4_74 rfl rfl rfl hl.1 rfl (Nat.le_of_ble_eq_true rfl) dX4_read_153 ⟨Nat.le_of_ble_eq_true rfl, Nat.le_of_ble_eq_true rfl⟩ ⟨Nat.le_of_ble_eq_true rfl, Nat.le_of_ble_eq_true rfl⟩) (fun μ52 H locs q52 hW => ?_)
              obtain ⟨hJ52, q52⟩ := q52
              have hI := hI.tr hJ52 (m_subL (by simp [hS5]))
              have hxt : m_XT μ52 fT n cn := hxt.fr hJ52 rfl rfl rfl
              have hso : m_SO μ52 gs := hso.fr hJ52 rfl
              rw [show (1 : Int32).toInt = 1 from by decide] at q52
              have hxe53 : m_XE μ52 (1, (t_L fT n) gj) := q52
              obtain ⟨xa54, xb54, xc54, xd54⟩ := hxe53
              obtain ⟨ef54, hef54⟩ : ∃ z, μ52.1 27 1 = z := ⟨_, rfl⟩
              rw [hef54] at xa54
              obtain ⟨ep54, hep54⟩ : ∃ z, μ52.1 27 2 = z := ⟨_, rfl⟩
              rw [hep54] at xc54
              obtain ⟨x55, ex55⟩ : ∃ z : Int32, z = y3 + 1 := ⟨_, rfl⟩
              refine lv_iinc (v := x55) (lv' := [(3, .int x55), (0, .ref (b + 27)), (1, .ref (b + 23)), (2, .int 0)]) hx hb dX4_read_156 hl (k := 3) rfl (by rw [ex55]; rfl) (by decide) rfl (fun ls hl => ?_)
              have tx55 : x55.toInt = y3.toInt + 1 := m_addI ex55 (rfl : y3.toInt = _) (by decide : (1 : Int32).toInt = 1) (by omega) (by omega)
              refine lv_goto (tgt := 66) hx hb dX4_read_159 (by decide) ?_
              refine lv_iload_n hx hb dX4_read_66 rfl (lv_at hl 0 rfl) ?_
              refine lv_sipush (v := 400) hx hb dX4_read_67 (by decide) ?_
              refine lv_icmp_gt (tgt := 162) hx hb dX4_read_70 (by decide) (fun c56 => ?_) (fun c56 => ?_)
              · have i56 := m_c1 (by decide : (400 : Int32).toInt = 400) (rfl : x55.toInt = _) c56
                refine lv_iload_n hx hb dX4_read_162 rfl (lv_at hl 3 rfl) ?_
                exact m_iret hx hb hr hlocks hW (by decide) (⟨hI, Or.inr ⟨rfl, (1, (t_L fT n) gj), (by rw [← hall]; exact a_all_err (by have := m_ckI (x := y3) (by omega); omega) (fun z => by omega) (a_st0 (by omega) (fun z t ht => by rw [hst48] at ht; cases ht))), by rw [show μ52.1 27 1 = ef54 from by exact hef54]; exact xa54, by rw [show μ52.1 27 2 = ep54 from by exact hep54]; exact xc54⟩⟩) dX4_read_163
              · have i56 := m_c2 (by decide : (400 : Int32).toInt = 400) (rfl : x55.toInt = _) c56
                refine lv_aload_n hx hb dX4_read_73 rfl (lv_at hl 1 rfl) ?_
                refine m_geti hx hb hts hown hW (27) 1 rfl rfl cw_4 rfl (by decide) k_X4_20 dX4_read_74 ?_
                refine lv_topi (fun x57 ex57 => ?_)
                have ex57 : x57 = ef54 := by rw [ex57]; exact hef54
                have ex57 := ex57.symm
                subst ex57
                refine lv_if_ne (tgt := 162) hx hb dX4_read_77 (by decide) (fun c58 => ?_) (fun c58 => ?_)
                · have i58 := m_c6 (rfl : ef54.toInt = _) (by decide : (0 : Int32).toInt = 0) c58
                  refine lv_iload_n hx hb dX4_read_162 rfl (lv_at hl 3 rfl) ?_
                  exact m_iret hx hb hr hlocks hW (by decide) (⟨hI, Or.inr ⟨rfl, (1, (t_L fT n) gj), (by rw [← hall]; exact a_all_err (by have := m_ckI (x := y3) (by omega); omega) (fun z => by omega) (a_st0 (by omega) (fun z t ht => by rw [hst48] at ht; cases ht))), by rw [show μ52.1 27 1 = ef54 from by exact hef54]; exact xa54, by rw [show μ52.1 27 2 = ep54 from by exact hep54]; exact xc54⟩⟩) dX4_read_163
                · have i58 := m_c5 (rfl : ef54.toInt = _) (by decide : (0 : Int32).toInt = 0) c58
                  exfalso; omega
            · have i51 := m_c5 (rfl : tk.toInt = _) (by decide : (1 : Int32).toInt = 1) c51
              exfalso; omega
          · have i49 := m_c5 (rfl : x47.toInt = _) (by decide : (15 : Int32).toInt = 15) c49
            exfalso; omega
        · refine lv_bipush (v := 15) hx hb dX4_read_118 (by decide) ?_
          refine lv_icmp_ne (tgt := 130) hx hb dX4_read_120 (by decide) (fun c59 => ?_) (fun c59 => ?_)
          · have i59 := m_c6 (rfl : x47.toInt = _) (by decide : (15 : Int32).toInt = 15) c59
            exfalso; omega
          · have i59 := m_c5 (rfl : x47.toInt = _) (by decide : (15 : Int32).toInt = 15) c59
            refine lv_aload_n hx hb dX4_read_123 rfl (lv_at hl 0 rfl) ?_
            refine m_aV hW (m_runV (As := []) (rest := []) hx hb hml hown hts hW (27) (g_X4_closeAgain_o l D cy b (fun g => [5, 12, 13, 14].contains g) μ rfl rfl rfl rfl fT n cn gj gs t48 μ (IY.rf hI.1) hxt ⟨by exact xs1, by rw [show μ.1 27 4 = cu from by exact hcu]; omega, by rw [show μ.1 27 5 = tk from by exact htk]; omega, by omega, by exact xs5⟩ hso (by omega) hst48) mi_X4_closeAgain k_X4_71 rfl rfl rfl hl.1 rfl (Nat.le_of_ble_eq_true rfl) dX4_read_124 ⟨Nat.le_of_ble_eq_true rfl, Nat.le_of_ble_eq_true rfl⟩ ⟨Nat.le_of_ble_eq_true rfl, Nat.le_of_ble_eq_true rfl⟩) (fun μ60 H locs q60 hW => ?_)
            obtain ⟨hJ60, q60⟩ := q60
            have hI := hI.tr hJ60 (m_subL (by simp [hS5, hS12, hS13, hS14]))
            have hxt : m_XT μ60 fT n cn := hxt.fr hJ60 rfl rfl rfl
            rcases q60 with ⟨j61, ha61, hxs61, hso⟩ | ⟨e61, ha61, hxe61⟩
            · obtain ⟨xa62, xb62, xc62, xd62, xf62⟩ := hxs61
              obtain ⟨cu62, hcu62⟩ : ∃ z, μ60.1 27 4 = z := ⟨_, rfl⟩
              rw [hcu62] at xb62
              obtain ⟨tk62, htk62⟩ : ∃ z, μ60.1 27 5 = z := ⟨_, rfl⟩
              rw [htk62] at xc62
              refine lv_goto (tgt := 156) hx hb dX4_read_127 (by decide) ?_
              obtain ⟨x63, ex63⟩ : ∃ z : Int32, z = y3 + 1 := ⟨_, rfl⟩
              refine lv_iinc (v := x63) (lv' := [(3, .int x63), (0, .ref (b + 27)), (1, .ref (b + 23)), (2, .int 0)]) hx hb dX4_read_156 hl (k := 3) rfl (by rw [ex63]; rfl) (by decide) rfl (fun ls hl => ?_)
              have tx63 : x63.toInt = y3.toInt + 1 := m_addI ex63 (rfl : y3.toInt = _) (by decide : (1 : Int32).toInt = 1) (by omega) (by omega)
              refine lv_goto (tgt := 66) hx hb dX4_read_159 (by decide) ?_
              have hLj := t_L_lt (f := fT) (n := n) (i := gj) (by omega) (Nat.le_trans (Nat.le_succ _) (a_close_r ha61))
              exact ih x63 cn j61 (a_pop t48) (by omega) (by omega) μ60 hI (hxt) (⟨by rw [show μ60.1 27 1 = 0 from by exact xa62], by rw [show μ60.1 27 4 = cu62 from by exact hcu62]; omega, by rw [show μ60.1 27 5 = tk62 from by exact htk62]; omega, by omega, by rw [show μ60.1 27 2 = (-1) from by exact xf62]⟩) (hso) (((by rw [show 401 - x63.toNatClampNeg = 401 - y3.toNatClampNeg - 1 from by have := m_ckI (x := x63) (by omega); have := m_ckI (x := y3) (by omega); omega]; exact (a_all_go (by have := m_ckI (x := y3) (by omega); omega) (fun z => by omega) (by rw [a_stC (by omega) hst48]; exact ha61)).symm.trans hall))) _ _ hW ls (lv_sub hl [1, 2, 3, 0] rfl)
            · obtain ⟨xa64, xb64, xc64, xd64⟩ := hxe61
              obtain ⟨ef64, hef64⟩ : ∃ z, μ60.1 27 1 = z := ⟨_, rfl⟩
              rw [hef64] at xa64
              obtain ⟨ep64, hep64⟩ : ∃ z, μ60.1 27 2 = z := ⟨_, rfl⟩
              rw [hep64] at xc64
              refine lv_goto (tgt := 156) hx hb dX4_read_127 (by decide) ?_
              obtain ⟨x65, ex65⟩ : ∃ z : Int32, z = y3 + 1 := ⟨_, rfl⟩
              refine lv_iinc (v := x65) (lv' := [(3, .int x65), (0, .ref (b + 27)), (1, .ref (b + 23)), (2, .int 0)]) hx hb dX4_read_156 hl (k := 3) rfl (by rw [ex65]; rfl) (by decide) rfl (fun ls hl => ?_)
              have tx65 : x65.toInt = y3.toInt + 1 := m_addI ex65 (rfl : y3.toInt = _) (by decide : (1 : Int32).toInt = 1) (by omega) (by omega)
              refine lv_goto (tgt := 66) hx hb dX4_read_159 (by decide) ?_
              refine lv_iload_n hx hb dX4_read_66 rfl (lv_at hl 0 rfl) ?_
              refine lv_sipush (v := 400) hx hb dX4_read_67 (by decide) ?_
              refine lv_icmp_gt (tgt := 162) hx hb dX4_read_70 (by decide) (fun c66 => ?_) (fun c66 => ?_)
              · have i66 := m_c1 (by decide : (400 : Int32).toInt = 400) (rfl : x65.toInt = _) c66
                refine lv_iload_n hx hb dX4_read_162 rfl (lv_at hl 3 rfl) ?_
                exact m_iret hx hb hr hlocks hW (by decide) (⟨hI, Or.inr ⟨rfl, e61, (by rw [← hall]; exact a_all_err (by have := m_ckI (x := y3) (by omega); omega) (fun z => by first | omega | (rw [z.2] at hnn; exact hnn rfl)) (by rw [a_stC (by omega) hst48]; exact ha61)), by rw [show μ60.1 27 1 = ef64 from by exact hef64]; exact xa64, by rw [show μ60.1 27 2 = ep64 from by exact hep64]; exact xc64⟩⟩) dX4_read_163
              · have i66 := m_c2 (by decide : (400 : Int32).toInt = 400) (rfl : x65.toInt = _) c66
                refine lv_aload_n hx hb dX4_read_73 rfl (lv_at hl 1 rfl) ?_
                refine m_geti hx hb hts hown hW (27) 1 rfl rfl cw_4 rfl (by decide) k_X4_20 dX4_read_74 ?_
                refine lv_topi (fun x67 ex67 => ?_)
                have ex67 : x67 = ef64 := by rw [ex67]; exact hef64
                have ex67 := ex67.symm
                subst ex67
                refine lv_if_ne (tgt := 162) hx hb dX4_read_77 (by decide) (fun c68 => ?_) (fun c68 => ?_)
                · have i68 := m_c6 (rfl : ef64.toInt = _) (by decide : (0 : Int32).toInt = 0) c68
                  refine lv_iload_n hx hb dX4_read_162 rfl (lv_at hl 3 rfl) ?_
                  exact m_iret hx hb hr hlocks hW (by decide) (⟨hI, Or.inr ⟨rfl, e61, (by rw [← hall]; exact a_all_err (by have := m_ckI (x := y3) (by omega); omega) (fun z => by first | omega | (rw [z.2] at hnn; exact hnn rfl)) (by rw [a_stC (by omega) hst48]; exact ha61)), by rw [show μ60.1 27 1 = ef64 from by exact hef64]; exact xa64, by rw [show μ60.1 27 2 = ep64 from by exact hep64]; exact xc64⟩⟩) dX4_read_163
                · have i68 := m_c5 (rfl : ef64.toInt = _) (by decide : (0 : Int32).toInt = 0) c68
                  exfalso; omega
        · refine lv_bipush (v := 15) hx hb dX4_read_118 (by decide) ?_
          refine lv_icmp_ne (tgt := 130) hx hb dX4_read_120 (by decide) (fun c69 => ?_) (fun c69 => ?_)
          · have i69 := m_c6 (rfl : x47.toInt = _) (by decide : (15 : Int32).toInt = 15) c69
            refine lv_aload_n hx hb dX4_read_130 rfl (lv_at hl 0 rfl) ?_
            refine m_geti hx hb hts hown hW (27) 5 rfl rfl cw_4 rfl (by decide) k_X4_37 dX4_read_131 ?_
            refine lv_topi (fun x70 ex70 => ?_)
            have ex70 : x70 = tk := by rw [ex70]; exact htk
            have ex70 := ex70.symm
            subst ex70
            refine lv_iconst (v := 1) hx hb dX4_read_134 (by decide) ?_
            refine lv_icmp_ne (tgt := 151) hx hb dX4_read_135 (by decide) (fun c71 => ?_) (fun c71 => ?_)
            · have i71 := m_c6 (rfl : tk.toInt = _) (by decide : (1 : Int32).toInt = 1) c71
              refine lv_aload_n hx hb dX4_read_151 rfl (lv_at hl 0 rfl) ?_
              refine lv_iconst (v := 1) hx hb dX4_read_152 (by decide) ?_
              have l_1 : (1 : Int32).toInt = 1 := by decide
              refine m_aV hW (m_runV (As := [.int 1]) (rest := []) hx hb hml hown hts hW (27) (g_X4_fail_o l D cy b (fun g => [5].contains g) μ rfl fT n cn gj 1 (by omega) μ (IY.rf hI.1) hxt ⟨by exact xs1, by rw [show μ.1 27 4 = cu from by exact hcu]; omega, by rw [show μ.1 27 5 = tk from by exact htk]; omega, by omega, by exact xs5⟩) mi_X4_fail k_X4_74 rfl rfl rfl hl.1 rfl (Nat.le_of_ble_eq_true rfl) dX4_read_153 ⟨Nat.le_of_ble_eq_true rfl, Nat.le_of_ble_eq_true rfl⟩ ⟨Nat.le_of_ble_eq_true rfl, Nat.le_of_ble_eq_true rfl⟩) (fun μ72 H locs q72 hW => ?_)
              obtain ⟨hJ72, q72⟩ := q72
              have hI := hI.tr hJ72 (m_subL (by simp [hS5]))
              have hxt : m_XT μ72 fT n cn := hxt.fr hJ72 rfl rfl rfl
              have hso : m_SO μ72 gs := hso.fr hJ72 rfl
              rw [show (1 : Int32).toInt = 1 from by decide] at q72
              have hxe73 : m_XE μ72 (1, (t_L fT n) gj) := q72
              obtain ⟨xa74, xb74, xc74, xd74⟩ := hxe73
              obtain ⟨ef74, hef74⟩ : ∃ z, μ72.1 27 1 = z := ⟨_, rfl⟩
              rw [hef74] at xa74
              obtain ⟨ep74, hep74⟩ : ∃ z, μ72.1 27 2 = z := ⟨_, rfl⟩
              rw [hep74] at xc74
              obtain ⟨x75, ex75⟩ : ∃ z : Int32, z = y3 + 1 := ⟨_, rfl⟩
              refine lv_iinc (v := x75) (lv' := [(3, .int x75), (0, .ref (b + 27)), (1, .ref (b + 23)), (2, .int 0)]) hx hb dX4_read_156 hl (k := 3) rfl (by rw [ex75]; rfl) (by decide) rfl (fun ls hl => ?_)
              have tx75 : x75.toInt = y3.toInt + 1 := m_addI ex75 (rfl : y3.toInt = _) (by decide : (1 : Int32).toInt = 1) (by omega) (by omega)
              refine lv_goto (tgt := 66) hx hb dX4_read_159 (by decide) ?_
              refine lv_iload_n hx hb dX4_read_66 rfl (lv_at hl 0 rfl) ?_
              refine lv_sipush (v := 400) hx hb dX4_read_67 (by decide) ?_
              refine lv_icmp_gt (tgt := 162) hx hb dX4_read_70 (by decide) (fun c76 => ?_) (fun c76 => ?_)
              · have i76 := m_c1 (by decide : (400 : Int32).toInt = 400) (rfl : x75.toInt = _) c76
                refine lv_iload_n hx hb dX4_read_162 rfl (lv_at hl 3 rfl) ?_
                exact m_iret hx hb hr hlocks hW (by decide) (⟨hI, Or.inr ⟨rfl, (1, (t_L fT n) gj), (by rw [← hall]; exact a_all_err (by have := m_ckI (x := y3) (by omega); omega) (fun z => by rw [hst48] at z; exact absurd z.2 (by simp)) (a_st0 (by omega) (fun z t ht => by rw [hst48] at ht; cases ht))), by rw [show μ72.1 27 1 = ef74 from by exact hef74]; exact xa74, by rw [show μ72.1 27 2 = ep74 from by exact hep74]; exact xc74⟩⟩) dX4_read_163
              · have i76 := m_c2 (by decide : (400 : Int32).toInt = 400) (rfl : x75.toInt = _) c76
                refine lv_aload_n hx hb dX4_read_73 rfl (lv_at hl 1 rfl) ?_
                refine m_geti hx hb hts hown hW (27) 1 rfl rfl cw_4 rfl (by decide) k_X4_20 dX4_read_74 ?_
                refine lv_topi (fun x77 ex77 => ?_)
                have ex77 : x77 = ef74 := by rw [ex77]; exact hef74
                have ex77 := ex77.symm
                subst ex77
                refine lv_if_ne (tgt := 162) hx hb dX4_read_77 (by decide) (fun c78 => ?_) (fun c78 => ?_)
                · have i78 := m_c6 (rfl : ef74.toInt = _) (by decide : (0 : Int32).toInt = 0) c78
                  refine lv_iload_n hx hb dX4_read_162 rfl (lv_at hl 3 rfl) ?_
                  exact m_iret hx hb hr hlocks hW (by decide) (⟨hI, Or.inr ⟨rfl, (1, (t_L fT n) gj), (by rw [← hall]; exact a_all_err (by have := m_ckI (x := y3) (by omega); omega) (fun z => by rw [hst48] at z; exact absurd z.2 (by simp)) (a_st0 (by omega) (fun z t ht => by rw [hst48] at ht; cases ht))), by rw [show μ72.1 27 1 = ef74 from by exact hef74]; exact xa74, by rw [show μ72.1 27 2 = ep74 from by exact hep74]; exact xc74⟩⟩) dX4_read_163
                · have i78 := m_c5 (rfl : ef74.toInt = _) (by decide : (0 : Int32).toInt = 0) c78
                  exfalso; omega
            · have i71 := m_c5 (rfl : tk.toInt = _) (by decide : (1 : Int32).toInt = 1) c71
              exfalso; omega
          · have i69 := m_c5 (rfl : x47.toInt = _) (by decide : (15 : Int32).toInt = 15) c69
            exfalso; omega
set_option maxHeartbeats 4000000 in
set_option maxRecDepth 100000 in
theorem g_X4_read_f (l : Launch) (D : va_G) (cy : Nat → ClassId) (b oq oa ov : Nat) (S : Nat → Bool) (μ0 : mM) (hS5 : S 5 = true) (hS11 : S 11 = true) (hS12 : S 12 = true) (hS13 : S 13 = true) (hS14 : S 14 = true) (hS15 : S 15 = true) (hS16 : S 16 = true) (t : Int32) (h_t : 0 ≤ t.toInt ∧ t.toInt ≤ 400) (fT : Nat → Int32) (n : Nat) (h_n : n = t.toNatClampNeg) (μ : mM) (hI : IY S μ0 μ) (ht : μ.1 23 1 = t) (hfT : μ.1 24 = fT) : m_CiO l yX4_read cX4_read 4 ((some .boolean)) 8 D cy b oq oa ov μ [.ref (b + 27), .ref (b + 23)] (fun r ν => IY S μ0 ν ∧ ((r = 1 ∧ a_all (t_K fT n) (t_L fT n) (t_V fT n) 401 0 [] = none ∧ ν.1 27 1 = 0 ∧ ν.1 27 2 = -1) ∨ (r = 0 ∧ ∃ e, a_all (t_K fT n) (t_L fT n) (t_V fT n) 401 0 [] = some e ∧ (ν.1 27 1).toInt = e.1 ∧ (ν.1 27 2).toInt = e.2))) := by
  unfold m_CiO
  refine m_ofO (by decide) (Nat.le_of_ble_eq_true rfl) ?_
  intro p e s m below meth c hx hb hr hml hown hts hlocks _ hW hO ls hl
  have hown : s.vm.findClass RX4 = some m.cls := hown
  have hl : lv_has ls 4 [(0, .ref (b + 27)), (1, .ref (b + 23))] := hl
  refine lv_aload_n hx hb dX4_read_0 rfl (lv_at hl 0 rfl) ?_
  refine m_getr hx hb hts hown hW (27) 3 (30) rfl rfl cw_4 rfl (by decide) k_X4_30 dX4_read_1 ?_
  refine lv_aload_n hx hb dX4_read_4 rfl (lv_at hl 1 rfl) ?_
  refine m_aV hW (m_runVO (As := [.ref (b + 23)]) (rest := []) hx hb hml hown hts hW hO (30) (g_X8_takeApart_f l D cy b oq oa ov (fun g => [11, 15, 16].contains g) μ rfl rfl rfl t (by omega) (μ.1 24) μ (IY.rf hI.1) (by exact ht) rfl) mi_X8_takeApart k_X4_46 rfl rfl rfl hl.1 rfl (Nat.le_of_ble_eq_true rfl) dX4_read_5 ⟨Nat.le_of_ble_eq_true rfl, Nat.le_of_ble_eq_true rfl⟩ ⟨Nat.le_of_ble_eq_true rfl, Nat.le_of_ble_eq_true rfl⟩) (fun μ1 H locs q1 hW => ?_)
  obtain ⟨hJ1, q1⟩ := q1
  have hI := hI.tr hJ1 (m_subL (by simp [hS11, hS15, hS16]))
  obtain ⟨cn, hc4, q1a, q1b, q1d, hTD⟩ := q1
  refine lv_aload_n hx hb dX4_read_8 rfl (lv_at hl 0 rfl) ?_
  refine m_getr hx hb hts hown hW (27) 0 (28) rfl rfl cw_4 rfl (by decide) k_X4_16 dX4_read_9 ?_
  refine lv_iconst (v := 0) hx hb dX4_read_12 (by decide) ?_
  refine m_puti hx hb hts hown hW (28) 1 rfl rfl cw_5 tyX5_ok nmX5 rfl (by decide) k_X4_50 rfl rfl rfl dX4_read_13 (fun H locs hW _ => ?_)
  generalize hμ2 : m_si μ1 (28) 1 0 = μ2 at hW
  have hI := hI.si1 hμ2 rfl (by decide) hS12
  refine lv_aload_n hx hb dX4_read_16 rfl (lv_at hl 0 rfl) ?_
  refine m_getr hx hb hts hown hW (27) 6 (37) rfl rfl cw_4 rfl (by decide) k_X4_40 dX4_read_17 ?_
  refine lv_iconst (v := 0) hx hb dX4_read_20 (by decide) ?_
  refine m_puti hx hb hts hown hW (37) 1 rfl rfl cw_5 tyX5_ok nmX5 rfl (by decide) k_X4_50 rfl rfl rfl dX4_read_21 (fun H locs hW _ => ?_)
  generalize hμ3 : m_si μ2 (37) 1 0 = μ3 at hW
  have hI := hI.si1 hμ3 rfl (by decide) hS13
  refine lv_aload_n hx hb dX4_read_24 rfl (lv_at hl 0 rfl) ?_
  refine m_getr hx hb hts hown hW (27) 7 (39) rfl rfl cw_4 rfl (by decide) k_X4_43 dX4_read_25 ?_
  refine lv_iconst (v := 0) hx hb dX4_read_28 (by decide) ?_
  refine m_puti hx hb hts hown hW (39) 1 rfl rfl cw_5 tyX5_ok nmX5 rfl (by decide) k_X4_50 rfl rfl rfl dX4_read_29 (fun H locs hW _ => ?_)
  generalize hμ4 : m_si μ3 (39) 1 0 = μ4 at hW
  have hI := hI.si1 hμ4 rfl (by decide) hS14
  refine lv_aload_n hx hb dX4_read_32 rfl (lv_at hl 0 rfl) ?_
  refine lv_iconst (v := 0) hx hb dX4_read_33 (by decide) ?_
  refine m_puti hx hb hts hown hW (27) 1 rfl rfl cw_4 tyX4_ok nmX4 rfl (by decide) k_X4_20 rfl rfl rfl dX4_read_34 (fun H locs hW _ => ?_)
  generalize hμ5 : m_si μ4 (27) 1 0 = μ5 at hW
  have hI := hI.si0 hμ5 rfl hS5
  refine lv_aload_n hx hb dX4_read_37 rfl (lv_at hl 0 rfl) ?_
  refine lv_iconst (v := (-1)) hx hb dX4_read_38 (by decide) ?_
  refine m_puti hx hb hts hown hW (27) 2 rfl rfl cw_4 tyX4_ok nmX4 rfl (by decide) k_X4_24 rfl rfl rfl dX4_read_39 (fun H locs hW _ => ?_)
  generalize hμ6 : m_si μ5 (27) 2 (-1) = μ6 at hW
  have hI := hI.si0 hμ6 rfl hS5
  refine lv_aload_n hx hb dX4_read_42 rfl (lv_at hl 0 rfl) ?_
  refine lv_iconst (v := 0) hx hb dX4_read_43 (by decide) ?_
  refine m_puti hx hb hts hown hW (27) 4 rfl rfl cw_4 tyX4_ok nmX4 rfl (by decide) k_X4_34 rfl rfl rfl dX4_read_44 (fun H locs hW _ => ?_)
  generalize hμ7 : m_si μ6 (27) 4 0 = μ7 at hW
  have hI := hI.si0 hμ7 rfl hS5
  refine lv_aload_n hx hb dX4_read_47 rfl (lv_at hl 0 rfl) ?_
  refine lv_aload_n hx hb dX4_read_48 rfl (lv_at hl 0 rfl) ?_
  refine m_getr hx hb hts hown hW (27) 3 (30) rfl rfl cw_4 rfl (by decide) k_X4_30 dX4_read_49 ?_
  refine m_getr hx hb hts hown hW (30) 0 (31) rfl rfl cw_8 rfl (by decide) k_X4_53 dX4_read_52 ?_
  refine lv_iconst (v := 0) hx hb dX4_read_55 (by decide) ?_
  obtain ⟨x8, hx8⟩ : ∃ z, μ7.1 31 1 = z := ⟨_, rfl⟩
  have bx8 : 0 ≤ x8.toInt ∧ x8.toInt ≤ 401 := by rw [← hx8]; exact hI.1 _ _ _ _ rfl
  have l_0 : (0 : Int32).toInt = 0 := by decide
  refine m_aI hW (m_runV (As := [.int 0]) (rest := [.ref (b + 27)]) hx hb hml hown hts hW (31) (g_X5_at_at31 l D cy b x8 (by omega) (μ7.1 32) 0 μ7 hI.1 (by exact hx8) rfl) mi_X5_at k_X4_56 rfl rfl rfl hl.1 rfl (Nat.le_of_ble_eq_true rfl) dX4_read_56 ⟨Nat.le_of_ble_eq_true rfl, Nat.le_of_ble_eq_true rfl⟩ ⟨Nat.le_of_ble_eq_true rfl, Nat.le_of_ble_eq_true rfl⟩) (fun x9 μ9 H locs q9 hW => ?_)
  obtain ⟨q9_m, q9⟩ := q9
  subst q9_m
  have hxt : m_XT μ7 fT n cn := ⟨by rw [show μ7.1 32 = μ6.1 32 from by rw [← hμ7]; exact m_si_row (by decide), show μ6.1 32 = μ5.1 32 from by rw [← hμ6]; exact m_si_row (by decide), show μ5.1 32 = μ4.1 32 from by rw [← hμ5]; exact m_si_row (by decide), show μ4.1 32 = μ3.1 32 from by rw [← hμ4]; exact m_si_row (by decide), show μ3.1 32 = μ2.1 32 from by rw [← hμ3]; exact m_si_row (by decide), show μ2.1 32 = μ1.1 32 from by rw [← hμ2]; exact m_si_row (by decide), show μ7.1 34 = μ6.1 34 from by rw [← hμ7]; exact m_si_row (by decide), show μ6.1 34 = μ5.1 34 from by rw [← hμ6]; exact m_si_row (by decide), show μ5.1 34 = μ4.1 34 from by rw [← hμ5]; exact m_si_row (by decide), show μ4.1 34 = μ3.1 34 from by rw [← hμ4]; exact m_si_row (by decide), show μ3.1 34 = μ2.1 34 from by rw [← hμ3]; exact m_si_row (by decide), show μ2.1 34 = μ1.1 34 from by rw [← hμ2]; exact m_si_row (by decide), show μ7.1 36 = μ6.1 36 from by rw [← hμ7]; exact m_si_row (by decide), show μ6.1 36 = μ5.1 36 from by rw [← hμ6]; exact m_si_row (by decide), show μ5.1 36 = μ4.1 36 from by rw [← hμ5]; exact m_si_row (by decide), show μ4.1 36 = μ3.1 36 from by rw [← hμ4]; exact m_si_row (by decide), show μ3.1 36 = μ2.1 36 from by rw [← hμ3]; exact m_si_row (by decide), show μ2.1 36 = μ1.1 36 from by rw [← hμ2]; exact m_si_row (by decide), h_n, ← hfT]; exact hTD, by rw [show μ7.1 31 1 = μ6.1 31 1 from by rw [← hμ7]; exact m_si_ne (by decide), show μ6.1 31 1 = μ5.1 31 1 from by rw [← hμ6]; exact m_si_ne (by decide), show μ5.1 31 1 = μ4.1 31 1 from by rw [← hμ5]; exact m_si_ne (by decide), show μ4.1 31 1 = μ3.1 31 1 from by rw [← hμ4]; exact m_si_ne (by decide), show μ3.1 31 1 = μ2.1 31 1 from by rw [← hμ3]; exact m_si_ne (by decide), show μ2.1 31 1 = μ1.1 31 1 from by rw [← hμ2]; exact m_si_ne (by decide)]; exact q1a, by rw [show μ7.1 33 1 = μ6.1 33 1 from by rw [← hμ7]; exact m_si_ne (by decide), show μ6.1 33 1 = μ5.1 33 1 from by rw [← hμ6]; exact m_si_ne (by decide), show μ5.1 33 1 = μ4.1 33 1 from by rw [← hμ5]; exact m_si_ne (by decide), show μ4.1 33 1 = μ3.1 33 1 from by rw [← hμ4]; exact m_si_ne (by decide), show μ3.1 33 1 = μ2.1 33 1 from by rw [← hμ3]; exact m_si_ne (by decide), show μ2.1 33 1 = μ1.1 33 1 from by rw [← hμ2]; exact m_si_ne (by decide)]; exact q1b, by rw [show μ7.1 35 1 = μ6.1 35 1 from by rw [← hμ7]; exact m_si_ne (by decide), show μ6.1 35 1 = μ5.1 35 1 from by rw [← hμ6]; exact m_si_ne (by decide), show μ5.1 35 1 = μ4.1 35 1 from by rw [← hμ5]; exact m_si_ne (by decide), show μ4.1 35 1 = μ3.1 35 1 from by rw [← hμ4]; exact m_si_ne (by decide), show μ3.1 35 1 = μ2.1 35 1 from by rw [← hμ3]; exact m_si_ne (by decide), show μ2.1 35 1 = μ1.1 35 1 from by rw [← hμ2]; exact m_si_ne (by decide)]; exact q1d, by have := m_ckI (x := t) (by omega); omega⟩
  have hz31 := hxt.2.1
  rw [show μ7.1 31 1 = x8 from by exact hx8] at hz31
  have hk0 : x9.toInt = t_K fT n 0 := by
    rcases q9 with ⟨q1, q2⟩ | ⟨q1, q2⟩
    · rw [q2]; exact (hxt.1.1 0 (Nat.zero_le cn)).1
    · exact absurd q1 (by omega)
  refine m_puti hx hb hts hown hW (27) 5 rfl rfl cw_4 tyX4_ok nmX4 rfl (by decide) k_X4_37 rfl rfl rfl dX4_read_59 (fun H locs hW _ => ?_)
  generalize hμ10 : m_si μ7 (27) 5 x9 = μ10 at hW
  have hxt : m_XT μ10 fT n cn := hxt.si hμ10 (by decide)
  have hI := hI.si0 hμ10 rfl hS5
  refine lv_iconst (v := 0) hx hb dX4_read_62 (by decide) ?_
  refine lv_istore_n (lv' := [(2, .int 0), (0, .ref (b + 27)), (1, .ref (b + 23))]) hx hb dX4_read_63 rfl hl (by decide) rfl (fun ls hl => ?_)
  refine lv_iconst (v := 0) hx hb dX4_read_64 (by decide) ?_
  refine lv_istore_n (lv' := [(3, .int 0), (2, .int 0), (0, .ref (b + 27)), (1, .ref (b + 23))]) hx hb dX4_read_65 rfl hl (by decide) rfl (fun ls hl => ?_)
  have hLj := (t_L_4 (f := fT) (n := n) (i := 0) (by have := m_ckI (x := t) (by omega); omega)).1
  have hso : m_SO μ10 [] := by unfold m_SO; rw [show μ10.1 37 1 = 0 from by rw [← hμ10, ← hμ7, ← hμ6, ← hμ5, ← hμ4, ← hμ3]; first | rfl | exact if_pos ⟨rfl, rfl⟩]; rfl
  exact L_X4_read_f_66 hx hb hr hml hown hts hlocks hO S μ0 hS5 hS11 hS12 hS13 hS14 hS15 hS16 t h_t fT n h_n  402 0 cn 0 [] (by omega) (by omega) μ10 hI (hxt) (⟨by rw [show μ10.1 27 1 = 0 from by rw [← hμ10, ← hμ7, ← hμ6, ← hμ5]; first | rfl | exact if_pos ⟨rfl, rfl⟩], by rw [show μ10.1 27 4 = 0 from by rw [← hμ10, ← hμ7]; first | rfl | exact if_pos ⟨rfl, rfl⟩]; rfl, by rw [show μ10.1 27 5 = x9 from by rw [← hμ10]; first | rfl | exact if_pos ⟨rfl, rfl⟩]; exact hk0, Nat.zero_le cn, by rw [show μ10.1 27 2 = (-1) from by rw [← hμ10, ← hμ7, ← hμ6]; first | rfl | exact if_pos ⟨rfl, rfl⟩]⟩) (hso) (rfl) _ _ hW ls (lv_sub hl [2, 3, 1, 0] rfl)
set_option maxHeartbeats 4000000 in
set_option maxRecDepth 100000 in
theorem g_X11_way_g (l : Launch) (D : va_G) (cy : Nat → ClassId) (b oq oa ov : Nat) (S : Nat → Bool) (μ0 : mM) (hS0 : S 0 = true) (hS2 : S 2 = true) (hS3 : S 3 = true) (hS5 : S 5 = true) (hS11 : S 11 = true) (hS12 : S 12 = true) (hS13 : S 13 = true) (hS14 : S 14 = true) (hS15 : S 15 = true) (hS16 : S 16 = true) (t : Int32) (h_t : 0 ≤ t.toInt ∧ t.toInt ≤ 400) (fT : Nat → Int32) (k : Int32) (μ : mM) (hI : IY S μ0 μ) (ht : μ.1 23 1 = t) (hfT : μ.1 24 = fT) : m_CiO l yX11_way cX11_way 4 ((some .boolean)) 9 D cy b oq oa ov μ [.ref (b + 0), .int k] (fun r ν => IY S μ0 ν ∧ ((((0 ≤ k.toInt ∧ k.toInt ≤ 7) ∧ ((r = 1 ∧ a_all (t_K fT t.toNatClampNeg) (t_L fT t.toNatClampNeg) (t_V fT t.toNatClampNeg) 401 0 [] = none ∧ ν.1 0 9 = 0 ∧ ν.1 0 10 = -1) ∨ (r = 0 ∧ ∃ e, a_all (t_K fT t.toNatClampNeg) (t_L fT t.toNatClampNeg) (t_V fT t.toNatClampNeg) 401 0 [] = some e ∧ (ν.1 0 9).toInt = e.1 ∧ (ν.1 0 10).toInt = e.2))) ∨ (¬ (0 ≤ k.toInt ∧ k.toInt ≤ 7) ∧ r = 0 ∧ ν.1 0 9 = 0 ∧ ν.1 0 10 = -1)) ∧ ν.1 23 1 = 0)) := by
  unfold m_CiO
  refine m_ofO (by decide) (Nat.le_of_ble_eq_true rfl) ?_
  intro p e s m below meth c hx hb hr hml hown hts hlocks _ hW hO ls hl
  have hown : s.vm.findClass RX11 = some m.cls := hown
  have hl : lv_has ls 4 [(0, .ref (b + 0)), (1, .int k)] := hl
  refine lv_aload_n hx hb dX11_way_0 rfl (lv_at hl 0 rfl) ?_
  refine lv_iconst (v := 0) hx hb dX11_way_1 (by decide) ?_
  refine m_puti hx hb hts hown hW (0) 9 rfl rfl cw_11 tyX11_ok nmX11 rfl (by decide) k_X11_70 rfl rfl rfl dX11_way_2 (fun H locs hW _ => ?_)
  generalize hμ1 : m_si μ (0) 9 0 = μ1 at hW
  have hI := hI.si0 hμ1 rfl hS0
  refine lv_aload_n hx hb dX11_way_5 rfl (lv_at hl 0 rfl) ?_
  refine lv_iconst (v := (-1)) hx hb dX11_way_6 (by decide) ?_
  refine m_puti hx hb hts hown hW (0) 10 rfl rfl cw_11 tyX11_ok nmX11 rfl (by decide) k_X11_74 rfl rfl rfl dX11_way_7 (fun H locs hW _ => ?_)
  generalize hμ2 : m_si μ1 (0) 10 (-1) = μ2 at hW
  have hI := hI.si0 hμ2 rfl hS0
  refine lv_iconst (v := 0) hx hb dX11_way_10 (by decide) ?_
  refine lv_istore_n (lv' := [(2, .int 0), (0, .ref (b + 0)), (1, .int k)]) hx hb dX11_way_11 rfl hl (by decide) rfl (fun ls hl => ?_)
  refine lv_aload_n hx hb dX11_way_12 rfl (lv_at hl 1 rfl) ?_
  refine m_getr hx hb hts hown hW (0) 0 (1) rfl rfl cw_11 rfl (by decide) k_X11_10 dX11_way_13 ?_
  refine lv_iload_n hx hb dX11_way_16 rfl (lv_at hl 2 rfl) ?_
  refine m_aQ hW (m_runV (As := [.int k]) (rest := []) hx hb hml hown hts hW (1) (g_X10_programOf_k l D cy b k μ2 hI.1) mi_X10_programOf k_X11_105 rfl rfl rfl hl.1 rfl (Nat.le_of_ble_eq_true rfl) dX11_way_17 ⟨Nat.le_of_ble_eq_true rfl, Nat.le_of_ble_eq_true rfl⟩ ⟨Nat.le_of_ble_eq_true rfl, Nat.le_of_ble_eq_true rfl⟩) (fun μ3 H locs q3 hW => ?_) (fun r3 μ3 H locs q3 hW => ?_)
  · obtain ⟨q3_m, q3⟩ := q3
    subst q3_m
    have hk_n : k.toInt < 0 ∨ 7 < k.toInt := by
      rcases q3 with ⟨_, z⟩ | ⟨n, _, z, _⟩
      · exact z
      · cases z
    refine lv_astore_nN (lv' := [(3, .null), (2, .int 0), (0, .ref (b + 0)), (1, .int k)]) hx hb dX11_way_20 rfl hl (by decide) rfl (fun ls hl => ?_)
    refine lv_aload_nN hx hb dX11_way_21 rfl (lv_at hl 0 rfl) ?_
    refine lv_ifnullN (tgt := 74) hx hb dX11_way_22 (by decide) ?_
    refine lv_aload_n hx hb dX11_way_74 rfl (lv_at hl 2 rfl) ?_
    refine m_getr hx hb hts hown hW (0) 1 (23) rfl rfl cw_11 rfl (by decide) k_X11_21 dX11_way_75 ?_
    refine lv_iconst (v := 0) hx hb dX11_way_78 (by decide) ?_
    refine m_puti hx hb hts hown hW (23) 1 rfl rfl cw_5 tyX5_ok nmX5 rfl (by decide) k_X11_99 rfl rfl rfl dX11_way_79 (fun H locs hW _ => ?_)
    generalize hμ4 : m_si μ2 (23) 1 0 = μ4 at hW
    have hI := hI.si1 hμ4 rfl (by decide) hS3
    refine lv_iload_n hx hb dX11_way_82 rfl (lv_at hl 1 rfl) ?_
    exact m_iret hx hb hr hlocks hW (by decide) (⟨hI, ⟨Or.inr ⟨by omega, rfl, by rw [show μ4.1 0 9 = 0 from by rw [← hμ4, ← hμ2, ← hμ1]; first | rfl | exact if_pos ⟨rfl, rfl⟩], by rw [show μ4.1 0 10 = (-1) from by rw [← hμ4, ← hμ2]; first | rfl | exact if_pos ⟨rfl, rfl⟩]⟩, by rw [show μ4.1 23 1 = 0 from by rw [← hμ4]; first | rfl | exact if_pos ⟨rfl, rfl⟩]⟩⟩) dX11_way_83
  · obtain ⟨q3_m, q3⟩ := q3
    subst q3_m
    obtain ⟨n3, ra3, q3, hk_y⟩ : ∃ n, n < 8 ∧ r3 = 7 + 2 * n ∧ (0 ≤ k.toInt ∧ k.toInt ≤ 7) := by
      rcases q3 with ⟨z, _⟩ | ⟨n, h, z, hk⟩
      · cases z
      · exact ⟨n, h, Option.some.inj z, hk⟩
    subst q3
    obtain ⟨rb3, rc3, rd3, re3, rf3, rg3, rh3⟩ := m_rows n3 ra3
    refine lv_astore_n (lv' := [(3, .ref (b + (7 + 2 * n3))), (2, .int 0), (0, .ref (b + 0)), (1, .int k)]) hx hb dX11_way_20 rfl hl (by decide) rfl (fun ls hl => ?_)
    refine lv_aload_n hx hb dX11_way_21 rfl (lv_at hl 0 rfl) ?_
    refine lv_ifnull hx hb dX11_way_22 ?_
    refine lv_aload_n hx hb dX11_way_25 rfl (lv_at hl 2 rfl) ?_
    refine m_getr hx hb hts hown hW (0) 3 (27) rfl rfl cw_11 rfl (by decide) k_X11_31 dX11_way_26 ?_
    refine lv_aload_n hx hb dX11_way_29 rfl (lv_at hl 2 rfl) ?_
    refine m_getr hx hb hts hown hW (0) 1 (23) rfl rfl cw_11 rfl (by decide) k_X11_21 dX11_way_30 ?_
    refine m_aI hW (m_runVO (As := [.ref (b + 23)]) (rest := []) hx hb hml hown hts hW hO (27) (g_X4_read_f l D cy b oq oa ov (fun g => [5, 11, 12, 13, 14, 15, 16].contains g) μ2 rfl rfl rfl rfl rfl rfl rfl t (by omega) fT t.toNatClampNeg rfl μ2 (IY.rf hI.1) (by rw [← hμ2, ← hμ1]; exact ht) (by rw [show μ2.1 24 = μ1.1 24 from by rw [← hμ2]; exact m_si_row (by decide), show μ1.1 24 = μ.1 24 from by rw [← hμ1]; exact m_si_row (by decide)]; exact hfT)) mi_X4_read k_X11_109 rfl rfl rfl hl.1 rfl (Nat.le_of_ble_eq_true rfl) dX11_way_33 ⟨Nat.le_of_ble_eq_true rfl, Nat.le_of_ble_eq_true rfl⟩ ⟨Nat.le_of_ble_eq_true rfl, Nat.le_of_ble_eq_true rfl⟩) (fun x5 μ5 H locs q5 hW => ?_)
    obtain ⟨hJ5, q5⟩ := q5
    have hI := hI.tr hJ5 (m_subL (by simp [hS5, hS11, hS12, hS13, hS14, hS15, hS16]))
    rcases q5 with ⟨rfl, q5⟩ | ⟨rfl, q5⟩
    · refine lv_istore_n (lv' := [(2, .int 1), (3, .ref (b + (7 + 2 * n3))), (0, .ref (b + 0)), (1, .int k)]) hx hb dX11_way_36 rfl hl (by decide) rfl (fun ls hl => ?_)
      refine lv_aload_n hx hb dX11_way_37 rfl (lv_at hl 2 rfl) ?_
      refine lv_aload_n hx hb dX11_way_38 rfl (lv_at hl 2 rfl) ?_
      refine m_getr hx hb hts hown hW (0) 3 (27) rfl rfl cw_11 rfl (by decide) k_X11_31 dX11_way_39 ?_
      refine m_geti hx hb hts hown hW (27) 1 rfl rfl cw_4 rfl (by decide) k_X11_113 dX11_way_42 ?_
      refine lv_topi (fun x6 ex6 => ?_)
      have ex6 : x6 = 0 := by rw [ex6]; exact q5.2.1
      have ex6 := ex6.symm
      subst ex6
      refine m_puti hx hb hts hown hW (0) 9 rfl rfl cw_11 tyX11_ok nmX11 rfl (by decide) k_X11_70 rfl rfl rfl dX11_way_45 (fun H locs hW _ => ?_)
      generalize hμ7 : m_si μ5 (0) 9 0 = μ7 at hW
      have hI := hI.si0 hμ7 rfl hS0
      refine lv_aload_n hx hb dX11_way_48 rfl (lv_at hl 2 rfl) ?_
      refine lv_aload_n hx hb dX11_way_49 rfl (lv_at hl 2 rfl) ?_
      refine m_getr hx hb hts hown hW (0) 3 (27) rfl rfl cw_11 rfl (by decide) k_X11_31 dX11_way_50 ?_
      refine m_geti hx hb hts hown hW (27) 2 rfl rfl cw_4 rfl (by decide) k_X11_116 dX11_way_53 ?_
      refine lv_topi (fun x8 ex8 => ?_)
      have ex8 : x8 = (-1) := by rw [ex8, ← hμ7]; exact q5.2.2
      have ex8 := ex8.symm
      subst ex8
      refine m_puti hx hb hts hown hW (0) 10 rfl rfl cw_11 tyX11_ok nmX11 rfl (by decide) k_X11_74 rfl rfl rfl dX11_way_56 (fun H locs hW _ => ?_)
      generalize hμ9 : m_si μ7 (0) 10 (-1) = μ9 at hW
      have hI := hI.si0 hμ9 rfl hS0
      refine lv_iload_n hx hb dX11_way_59 rfl (lv_at hl 0 rfl) ?_
      refine lv_if_eq (tgt := 74) hx hb dX11_way_60 (by decide) (fun c => False.elim (by revert c; decide)) (fun _ => ?_)
      refine lv_aload_n hx hb dX11_way_63 rfl (lv_at hl 1 rfl) ?_
      refine lv_aload_n hx hb dX11_way_64 rfl (lv_at hl 2 rfl) ?_
      refine m_getr hx hb hts hown hW (0) 3 (27) rfl rfl cw_11 rfl (by decide) k_X11_31 dX11_way_65 ?_
      refine m_getr hx hb hts hown hW (27) 0 (28) rfl rfl cw_4 rfl (by decide) k_X11_117 dX11_way_68 ?_
      refine m_aV hW (m_runV (As := [.ref (b + 28)]) (rest := []) hx hb hml hown hts hW (7 + 2 * n3) (g_X5_copyFrom l D cy b (fun g => [2].contains g) μ9 (7 + 2 * n3) (7 + 2 * n3 + 1) 800 rc3 rd3 (by decide) re3 rf3 (by rw [rg3]; first | done | rfl) (fun j => by rw [rh3 j]; first | done | rfl) 28 29 800 rfl rfl (by decide) rfl (fun _ => rfl) μ9 (IY.rf hI.1)) mi_X5_copyFrom k_X11_120 rc3 rfl rfl hl.1 rfl (Nat.le_of_ble_eq_true rfl) dX11_way_71 ⟨Nat.le_of_ble_eq_true rfl, Nat.le_of_ble_eq_true rfl⟩ ⟨Nat.le_of_ble_eq_true rfl, Nat.le_of_ble_eq_true rfl⟩) (fun μ10 H locs q10 hW => ?_)
      obtain ⟨hJ10, q10⟩ := q10
      have hI := hI.tr hJ10 (m_subL (by simp [hS2]))
      refine lv_aload_n hx hb dX11_way_74 rfl (lv_at hl 2 rfl) ?_
      refine m_getr hx hb hts hown hW (0) 1 (23) rfl rfl cw_11 rfl (by decide) k_X11_21 dX11_way_75 ?_
      refine lv_iconst (v := 0) hx hb dX11_way_78 (by decide) ?_
      refine m_puti hx hb hts hown hW (23) 1 rfl rfl cw_5 tyX5_ok nmX5 rfl (by decide) k_X11_99 rfl rfl rfl dX11_way_79 (fun H locs hW _ => ?_)
      generalize hμ11 : m_si μ10 (23) 1 0 = μ11 at hW
      have hI := hI.si1 hμ11 rfl (by decide) hS3
      refine lv_iload_n hx hb dX11_way_82 rfl (lv_at hl 0 rfl) ?_
      exact m_iret hx hb hr hlocks hW (by decide) (⟨hI, ⟨Or.inl ⟨by omega, Or.inl ⟨rfl, q5.1, by rw [show μ11.1 0 9 = 0 from by rw [← hμ11]; exact ((hJ10.2.1 0 9 rfl).trans (by rw [← hμ9, ← hμ7]; first | rfl | exact if_pos ⟨rfl, rfl⟩))], by rw [show μ11.1 0 10 = (-1) from by rw [← hμ11]; exact ((hJ10.2.1 0 10 rfl).trans (by rw [← hμ9]; first | rfl | exact if_pos ⟨rfl, rfl⟩))]⟩⟩, by rw [show μ11.1 23 1 = 0 from by rw [← hμ11]; first | rfl | exact if_pos ⟨rfl, rfl⟩]⟩⟩) dX11_way_83
    · obtain ⟨ee, q5e, q5k, q5p⟩ := q5
      obtain ⟨fk_, hfk_⟩ : ∃ z, μ5.1 27 1 = z := ⟨_, rfl⟩
      rw [hfk_] at q5k
      obtain ⟨fp_, hfp_⟩ : ∃ z, μ5.1 27 2 = z := ⟨_, rfl⟩
      rw [hfp_] at q5p
      refine lv_istore_n (lv' := [(2, .int 0), (3, .ref (b + (7 + 2 * n3))), (0, .ref (b + 0)), (1, .int k)]) hx hb dX11_way_36 rfl hl (by decide) rfl (fun ls hl => ?_)
      refine lv_aload_n hx hb dX11_way_37 rfl (lv_at hl 2 rfl) ?_
      refine lv_aload_n hx hb dX11_way_38 rfl (lv_at hl 2 rfl) ?_
      refine m_getr hx hb hts hown hW (0) 3 (27) rfl rfl cw_11 rfl (by decide) k_X11_31 dX11_way_39 ?_
      refine m_geti hx hb hts hown hW (27) 1 rfl rfl cw_4 rfl (by decide) k_X11_113 dX11_way_42 ?_
      refine lv_topi (fun x12 ex12 => ?_)
      have ex12 : x12 = fk_ := by rw [ex12]; exact hfk_
      have ex12 := ex12.symm
      subst ex12
      refine m_puti hx hb hts hown hW (0) 9 rfl rfl cw_11 tyX11_ok nmX11 rfl (by decide) k_X11_70 rfl rfl rfl dX11_way_45 (fun H locs hW _ => ?_)
      generalize hμ13 : m_si μ5 (0) 9 fk_ = μ13 at hW
      have hI := hI.si0 hμ13 rfl hS0
      refine lv_aload_n hx hb dX11_way_48 rfl (lv_at hl 2 rfl) ?_
      refine lv_aload_n hx hb dX11_way_49 rfl (lv_at hl 2 rfl) ?_
      refine m_getr hx hb hts hown hW (0) 3 (27) rfl rfl cw_11 rfl (by decide) k_X11_31 dX11_way_50 ?_
      refine m_geti hx hb hts hown hW (27) 2 rfl rfl cw_4 rfl (by decide) k_X11_116 dX11_way_53 ?_
      refine lv_topi (fun x14 ex14 => ?_)
      have ex14 : x14 = fp_ := by rw [ex14, ← hμ13]; exact hfp_
      have ex14 := ex14.symm
      subst ex14
      refine m_puti hx hb hts hown hW (0) 10 rfl rfl cw_11 tyX11_ok nmX11 rfl (by decide) k_X11_74 rfl rfl rfl dX11_way_56 (fun H locs hW _ => ?_)
      generalize hμ15 : m_si μ13 (0) 10 fp_ = μ15 at hW
      have hI := hI.si0 hμ15 rfl hS0
      refine lv_iload_n hx hb dX11_way_59 rfl (lv_at hl 0 rfl) ?_
      refine lv_if_eq (tgt := 74) hx hb dX11_way_60 (by decide) (fun _ => ?_) (fun c => False.elim (by revert c; decide))
      refine lv_aload_n hx hb dX11_way_74 rfl (lv_at hl 2 rfl) ?_
      refine m_getr hx hb hts hown hW (0) 1 (23) rfl rfl cw_11 rfl (by decide) k_X11_21 dX11_way_75 ?_
      refine lv_iconst (v := 0) hx hb dX11_way_78 (by decide) ?_
      refine m_puti hx hb hts hown hW (23) 1 rfl rfl cw_5 tyX5_ok nmX5 rfl (by decide) k_X11_99 rfl rfl rfl dX11_way_79 (fun H locs hW _ => ?_)
      generalize hμ16 : m_si μ15 (23) 1 0 = μ16 at hW
      have hI := hI.si1 hμ16 rfl (by decide) hS3
      refine lv_iload_n hx hb dX11_way_82 rfl (lv_at hl 0 rfl) ?_
      exact m_iret hx hb hr hlocks hW (by decide) (⟨hI, ⟨Or.inl ⟨by omega, Or.inr ⟨rfl, ee, q5e, by rw [show μ16.1 0 9 = fk_ from by rw [← hμ16, ← hμ15, ← hμ13]; first | rfl | exact if_pos ⟨rfl, rfl⟩]; exact q5k, by rw [show μ16.1 0 10 = fp_ from by rw [← hμ16, ← hμ15]; first | rfl | exact if_pos ⟨rfl, rfl⟩]; exact q5p⟩⟩, by rw [show μ16.1 23 1 = 0 from by rw [← hμ16]; first | rfl | exact if_pos ⟨rfl, rfl⟩]⟩⟩) dX11_way_83
set_option maxHeartbeats 4000000 in
set_option maxRecDepth 100000 in
theorem L_X12_way_g_77 {p : Program} {l : Launch} {e : Env} {s : State} {m : MethodId} {args : Array Value} {below : List Frame} {meth : Method} {c : Code} {D : va_G} {cy : Nat → ClassId} {b : Nat} (hx : p.tables.exec = Jvm.exec) (hb : c.code = cX12_way) (hr : meth.sig.returnType = ((some .boolean))) (hml : c.maxLocals = 7) (hown : s.vm.findClass RX12 = some m.cls) (hts : ∀ w ∈ TB, w.before args s = true) (hlocks : meth.locks = false) (S : Nat → Bool) (μ0 : mM) (hS20 : S 20 = true) (hS23 : S 23 = true) (hS26 : S 26 = true) (hS24 : S 24 = true) (hS25 : S 25 = true) (hS33 : S 33 = true) (hS34 : S 34 = true) (hS35 : S 35 = true) (hS36 : S 36 = true) (hS41 : S 41 = true) (t : Int32) (h_tt : 0 ≤ t.toInt ∧ t.toInt ≤ 400) (fT : Nat → Int32) (k : Int32) : ∀ (f : Nat), ∀ (y4 : Int32) (hy : 0 ≤ y4.toInt ∧ y4.toInt ≤ 400 ∧ 0 ≤ k.toInt ∧ k.toInt ≤ 7) (hf : 400 - y4.toInt < (f : Int)) (μ : mM) (hI : IY S μ0 μ) (hcy : m_CY μ k.toNatClampNeg y4.toNatClampNeg) (htp : μ.1 81 35 = 0) (hf1 : μ.1 81 56 = 0) (hf2 : μ.1 81 57 = -1) (hres : a_all (t_K fT t.toNatClampNeg) (t_L fT t.toNatClampNeg) (t_V fT t.toNatClampNeg) 401 0 [] = none) (H : Heap) (locs : List Loc), m_WA (m_A b LAY) D cy s b LAY μ H locs → ∀ ls : Array Slot, lv_has ls 7 [(0, .ref (b + 81)), (1, .int k), (4, .int y4)] → W p l e (m_R 7 0 0) s m args below meth c H locs 0 0 (MQ below (m_Qi D cy b LAY (fun r ν => IY S μ0 ν ∧ (((((0 ≤ k.toInt ∧ k.toInt ≤ 7) ∧ ((r = 1 ∧ a_all (t_K fT t.toNatClampNeg) (t_L fT t.toNatClampNeg) (t_V fT t.toNatClampNeg) 401 0 [] = none ∧ ν.1 81 56 = 0 ∧ ν.1 81 57 = -1) ∨ (r = 0 ∧ ∃ e, a_all (t_K fT t.toNatClampNeg) (t_L fT t.toNatClampNeg) (t_V fT t.toNatClampNeg) 401 0 [] = some e ∧ (ν.1 81 56).toInt = e.1 ∧ (ν.1 81 57).toInt = e.2))) ∨ (¬ (0 ≤ k.toInt ∧ k.toInt ≤ 7) ∧ r = 0 ∧ ν.1 81 56 = 0 ∧ ν.1 81 57 = -1)) ∧ ν.1 81 35 = 0) ∧ m_GP ν))) args s 0 0 (m_A b LAY)) (F0 m 77 ls []) := by
  intro f
  induction f with
  | zero => intro y4 hy hf; exfalso; omega
  | succ f ih =>
    intro y4 hy hf μ hI hcy htp hf1 hf2 hres H locs hW ls hl
    have hI0_ := hI
    refine lv_iload hx hb dX12_way_77 (lv_at hl 2 rfl) ?_
    refine lv_sipush (v := 400) hx hb dX12_way_79 (by decide) ?_
    refine lv_icmp_ge (tgt := 235) hx hb dX12_way_82 (by decide) (fun c1 => ?_) (fun c1 => ?_)
    · have i1 := m_c3 (by decide : (400 : Int32).toInt = 400) (rfl : y4.toInt = _) c1
      refine lv_aload_n hx hb dX12_way_235 rfl (lv_at hl 0 rfl) ?_
      refine m_getr hx hb hts hown hW (81) 44 (111) rfl rfl cw_12 rfl (by decide) k_X12_110 dX12_way_236 ?_
      refine lv_iload_n hx hb dX12_way_239 rfl (lv_at hl 1 rfl) ?_
      refine lv_aload_n hx hb dX12_way_240 rfl (lv_at hl 0 rfl) ?_
      refine m_getr hx hb hts hown hW (81) 44 (111) rfl rfl cw_12 rfl (by decide) k_X12_110 dX12_way_241 ?_
      refine lv_bipush (v := 8) hx hb dX12_way_244 (by decide) ?_
      refine m_iald hx hb hW (111) rfl (vp_in_iff.mpr ⟨by decide, by decide⟩) dX12_way_246 ?_
      refine lv_topi (fun x2 ex2 => ?_)
      have bx2 : 0 ≤ x2.toInt ∧ x2.toInt ≤ 400 := by rw [ex2]; exact hI.1 _ _ _ _ rfl
      refine m_iast hx hb hW (111) rfl (m_ixI (rfl : k.toInt = _) (by omega) (by omega)) dX12_way_247 (fun H locs hW _ => ?_)
      generalize hμ3 : m_si μ (111) (k : Int32).toNatClampNeg x2 = μ3 at hW
      have hI := hI.si1 hμ3 rfl (by omega) hS33
      have hgp : m_GP μ3 := m_CY.done (k := k.toNatClampNeg) (v := x2) (by have ck_y := m_ckI (x := y4) (by omega); rw [show y4.toNatClampNeg = 400 from by omega] at hcy; exact hcy) (m_ck (by omega)) ex2.symm (m_c400 (by omega)) hμ3
      refine lv_iconst (v := 1) hx hb dX12_way_248 (by decide) ?_
      exact m_iret hx hb hr hlocks hW (by decide) (⟨hI, ⟨⟨Or.inl ⟨by omega, Or.inl ⟨rfl, hres, by rw [show μ3.1 81 56 = 0 from by rw [← hμ3]; exact hf1], by rw [show μ3.1 81 57 = (-1) from by rw [← hμ3]; exact hf2]⟩⟩, by rw [show μ3.1 81 35 = 0 from by rw [← hμ3]; exact htp]⟩, hgp⟩⟩) dX12_way_249
    · have i1 := m_c4 (by decide : (400 : Int32).toInt = 400) (rfl : y4.toInt = _) c1
      refine lv_sipush (v := 400) hx hb dX12_way_85 (by decide) ?_
      refine lv_iload_n hx hb dX12_way_88 rfl (lv_at hl 1 rfl) ?_
      refine lv_imul hx hb dX12_way_89 ?_
      refine lv_topi (fun x4 ex4 => ?_)
      have tx4 : x4.toInt = 400 * k.toInt := m_mulI ex4 (by decide : (400 : Int32).toInt = 400) (rfl : k.toInt = _) (by omega) (by omega)
      refine lv_iload hx hb dX12_way_90 (lv_at hl 2 rfl) ?_
      refine lv_iadd hx hb dX12_way_92 ?_
      refine lv_topi (fun x5 ex5 => ?_)
      have tx5 : x5.toInt = x4.toInt + y4.toInt := m_addI ex5 (rfl : x4.toInt = _) (rfl : y4.toInt = _) (by omega) (by omega)
      refine lv_istore (lv' := [(5, .int x5), (0, .ref (b + 81)), (1, .int k), (4, .int y4)]) hx hb dX12_way_93 hl (by decide) rfl (fun ls hl => ?_)
      refine lv_sipush (v := 3200) hx hb dX12_way_95 (by decide) ?_
      refine lv_iload hx hb dX12_way_98 (lv_at hl 3 rfl) ?_
      refine lv_iadd hx hb dX12_way_100 ?_
      refine lv_topi (fun x6 ex6 => ?_)
      have tx6 : x6.toInt = 3200 + y4.toInt := m_addI ex6 (by decide : (3200 : Int32).toInt = 3200) (rfl : y4.toInt = _) (by omega) (by omega)
      refine lv_istore (lv' := [(6, .int x6), (5, .int x5), (0, .ref (b + 81)), (1, .int k), (4, .int y4)]) hx hb dX12_way_101 hl (by decide) rfl (fun ls hl => ?_)
      refine lv_aload_n hx hb dX12_way_103 rfl (lv_at hl 2 rfl) ?_
      refine m_getr hx hb hts hown hW (81) 41 (108) rfl rfl cw_12 rfl (by decide) k_X12_101 dX12_way_104 ?_
      refine lv_iload hx hb dX12_way_107 (lv_at hl 1 rfl) ?_
      refine lv_aload_n hx hb dX12_way_109 rfl (lv_at hl 2 rfl) ?_
      refine m_getr hx hb hts hown hW (81) 41 (108) rfl rfl cw_12 rfl (by decide) k_X12_101 dX12_way_110 ?_
      refine lv_iload hx hb dX12_way_113 (lv_at hl 0 rfl) ?_
      refine m_iald hx hb hW (108) rfl (m_ixI (rfl : x6.toInt = _) (by omega) (by omega)) dX12_way_115 ?_
      refine lv_topi (fun x7 ex7 => ?_)
      refine m_iast hx hb hW (108) rfl (m_ixI (rfl : x5.toInt = _) (by omega) (by omega)) dX12_way_116 (fun H locs hW _ => ?_)
      generalize hμ8 : m_si μ (108) (x5 : Int32).toNatClampNeg x7 = μ8 at hW
      have hI := hI.si0 hμ8 rfl hS41
      refine lv_aload_n hx hb dX12_way_117 rfl (lv_at hl 2 rfl) ?_
      refine m_getr hx hb hts hown hW (81) 42 (109) rfl rfl cw_12 rfl (by decide) k_X12_104 dX12_way_118 ?_
      refine lv_iload hx hb dX12_way_121 (lv_at hl 1 rfl) ?_
      refine lv_aload_n hx hb dX12_way_123 rfl (lv_at hl 2 rfl) ?_
      refine m_getr hx hb hts hown hW (81) 42 (109) rfl rfl cw_12 rfl (by decide) k_X12_104 dX12_way_124 ?_
      refine lv_iload hx hb dX12_way_127 (lv_at hl 0 rfl) ?_
      refine m_iald hx hb hW (109) rfl (m_ixI (rfl : x6.toInt = _) (by omega) (by omega)) dX12_way_129 ?_
      refine lv_topi (fun x9 ex9 => ?_)
      have bx9 : 0 ≤ x9.toInt ∧ x9.toInt ≤ 99999 := by rw [ex9]; exact hI.1 _ _ _ _ rfl
      refine m_iast hx hb hW (109) rfl (m_ixI (rfl : x5.toInt = _) (by omega) (by omega)) dX12_way_130 (fun H locs hW _ => ?_)
      generalize hμ10 : m_si μ8 (109) (x5 : Int32).toNatClampNeg x9 = μ10 at hW
      have hI := hI.si1 hμ10 rfl (by omega) hS41
      refine lv_aload_n hx hb dX12_way_131 rfl (lv_at hl 2 rfl) ?_
      refine m_getr hx hb hts hown hW (81) 43 (110) rfl rfl cw_12 rfl (by decide) k_X12_107 dX12_way_132 ?_
      refine lv_iload hx hb dX12_way_135 (lv_at hl 1 rfl) ?_
      refine lv_aload_n hx hb dX12_way_137 rfl (lv_at hl 2 rfl) ?_
      refine m_getr hx hb hts hown hW (81) 43 (110) rfl rfl cw_12 rfl (by decide) k_X12_107 dX12_way_138 ?_
      refine lv_iload hx hb dX12_way_141 (lv_at hl 0 rfl) ?_
      refine m_iald hx hb hW (110) rfl (m_ixI (rfl : x6.toInt = _) (by omega) (by omega)) dX12_way_143 ?_
      refine lv_topi (fun x11 ex11 => ?_)
      refine m_iast hx hb hW (110) rfl (m_ixI (rfl : x5.toInt = _) (by omega) (by omega)) dX12_way_144 (fun H locs hW _ => ?_)
      generalize hμ12 : m_si μ10 (110) (x5 : Int32).toNatClampNeg x11 = μ12 at hW
      have hI := hI.si0 hμ12 rfl hS25
      refine lv_aload_n hx hb dX12_way_145 rfl (lv_at hl 2 rfl) ?_
      refine m_getr hx hb hts hown hW (81) 45 (112) rfl rfl cw_12 rfl (by decide) k_X12_113 dX12_way_146 ?_
      refine lv_iload hx hb dX12_way_149 (lv_at hl 1 rfl) ?_
      refine lv_aload_n hx hb dX12_way_151 rfl (lv_at hl 2 rfl) ?_
      refine m_getr hx hb hts hown hW (81) 45 (112) rfl rfl cw_12 rfl (by decide) k_X12_113 dX12_way_152 ?_
      refine lv_iload hx hb dX12_way_155 (lv_at hl 0 rfl) ?_
      refine m_iald hx hb hW (112) rfl (m_ixI (rfl : x6.toInt = _) (by omega) (by omega)) dX12_way_157 ?_
      refine lv_topi (fun x13 ex13 => ?_)
      have bx13 : 0 ≤ x13.toInt ∧ x13.toInt ≤ 400 := by rw [ex13]; exact hI.1 _ _ _ _ rfl
      refine m_iast hx hb hW (112) rfl (m_ixI (rfl : x5.toInt = _) (by omega) (by omega)) dX12_way_158 (fun H locs hW _ => ?_)
      generalize hμ14 : m_si μ12 (112) (x5 : Int32).toNatClampNeg x13 = μ14 at hW
      have hI := hI.si1 hμ14 rfl (by omega) hS25
      refine lv_aload_n hx hb dX12_way_159 rfl (lv_at hl 2 rfl) ?_
      refine m_getr hx hb hts hown hW (81) 46 (113) rfl rfl cw_12 rfl (by decide) k_X12_116 dX12_way_160 ?_
      refine lv_iload hx hb dX12_way_163 (lv_at hl 1 rfl) ?_
      refine lv_aload_n hx hb dX12_way_165 rfl (lv_at hl 2 rfl) ?_
      refine m_getr hx hb hts hown hW (81) 46 (113) rfl rfl cw_12 rfl (by decide) k_X12_116 dX12_way_166 ?_
      refine lv_iload hx hb dX12_way_169 (lv_at hl 0 rfl) ?_
      refine m_iald hx hb hW (113) rfl (m_ixI (rfl : x6.toInt = _) (by omega) (by omega)) dX12_way_171 ?_
      refine lv_topi (fun x15 ex15 => ?_)
      have bx15 : 0 ≤ x15.toInt ∧ x15.toInt ≤ 400 := by rw [ex15]; exact hI.1 _ _ _ _ rfl
      refine m_iast hx hb hW (113) rfl (m_ixI (rfl : x5.toInt = _) (by omega) (by omega)) dX12_way_172 (fun H locs hW _ => ?_)
      generalize hμ16 : m_si μ14 (113) (x5 : Int32).toNatClampNeg x15 = μ16 at hW
      have hI := hI.si1 hμ16 rfl (by omega) hS25
      refine lv_aload_n hx hb dX12_way_173 rfl (lv_at hl 2 rfl) ?_
      refine m_getr hx hb hts hown hW (81) 47 (114) rfl rfl cw_12 rfl (by decide) k_X12_119 dX12_way_174 ?_
      refine lv_iload hx hb dX12_way_177 (lv_at hl 1 rfl) ?_
      refine lv_aload_n hx hb dX12_way_179 rfl (lv_at hl 2 rfl) ?_
      refine m_getr hx hb hts hown hW (81) 47 (114) rfl rfl cw_12 rfl (by decide) k_X12_119 dX12_way_180 ?_
      refine lv_iload hx hb dX12_way_183 (lv_at hl 0 rfl) ?_
      refine m_iald hx hb hW (114) rfl (m_ixI (rfl : x6.toInt = _) (by omega) (by omega)) dX12_way_185 ?_
      refine lv_topi (fun x17 ex17 => ?_)
      have bx17 : 0 ≤ x17.toInt ∧ x17.toInt ≤ 400 := by rw [ex17]; exact hI.1 _ _ _ _ rfl
      refine m_iast hx hb hW (114) rfl (m_ixI (rfl : x5.toInt = _) (by omega) (by omega)) dX12_way_186 (fun H locs hW _ => ?_)
      generalize hμ18 : m_si μ16 (114) (x5 : Int32).toNatClampNeg x17 = μ18 at hW
      have hI := hI.si1 hμ18 rfl (by omega) hS25
      refine lv_aload_n hx hb dX12_way_187 rfl (lv_at hl 2 rfl) ?_
      refine m_getr hx hb hts hown hW (81) 48 (115) rfl rfl cw_12 rfl (by decide) k_X12_122 dX12_way_188 ?_
      refine lv_iload hx hb dX12_way_191 (lv_at hl 1 rfl) ?_
      refine lv_aload_n hx hb dX12_way_193 rfl (lv_at hl 2 rfl) ?_
      refine m_getr hx hb hts hown hW (81) 48 (115) rfl rfl cw_12 rfl (by decide) k_X12_122 dX12_way_194 ?_
      refine lv_iload hx hb dX12_way_197 (lv_at hl 0 rfl) ?_
      refine m_iald hx hb hW (115) rfl (m_ixI (rfl : x6.toInt = _) (by omega) (by omega)) dX12_way_199 ?_
      refine lv_topi (fun x19 ex19 => ?_)
      refine m_iast hx hb hW (115) rfl (m_ixI (rfl : x5.toInt = _) (by omega) (by omega)) dX12_way_200 (fun H locs hW _ => ?_)
      generalize hμ20 : m_si μ18 (115) (x5 : Int32).toNatClampNeg x19 = μ20 at hW
      have hI := hI.si0 hμ20 rfl hS25
      refine lv_aload_n hx hb dX12_way_201 rfl (lv_at hl 2 rfl) ?_
      refine m_getr hx hb hts hown hW (81) 49 (116) rfl rfl cw_12 rfl (by decide) k_X12_125 dX12_way_202 ?_
      refine lv_iload hx hb dX12_way_205 (lv_at hl 1 rfl) ?_
      refine lv_aload_n hx hb dX12_way_207 rfl (lv_at hl 2 rfl) ?_
      refine m_getr hx hb hts hown hW (81) 49 (116) rfl rfl cw_12 rfl (by decide) k_X12_125 dX12_way_208 ?_
      refine lv_iload hx hb dX12_way_211 (lv_at hl 0 rfl) ?_
      refine m_iald hx hb hW (116) rfl (m_ixI (rfl : x6.toInt = _) (by omega) (by omega)) dX12_way_213 ?_
      refine lv_topi (fun x21 ex21 => ?_)
      refine m_iast hx hb hW (116) rfl (m_ixI (rfl : x5.toInt = _) (by omega) (by omega)) dX12_way_214 (fun H locs hW _ => ?_)
      generalize hμ22 : m_si μ20 (116) (x5 : Int32).toNatClampNeg x21 = μ22 at hW
      have hI := hI.si0 hμ22 rfl hS25
      refine lv_aload_n hx hb dX12_way_215 rfl (lv_at hl 2 rfl) ?_
      refine m_getr hx hb hts hown hW (81) 50 (117) rfl rfl cw_12 rfl (by decide) k_X12_128 dX12_way_216 ?_
      refine lv_iload hx hb dX12_way_219 (lv_at hl 1 rfl) ?_
      refine lv_aload_n hx hb dX12_way_221 rfl (lv_at hl 2 rfl) ?_
      refine m_getr hx hb hts hown hW (81) 50 (117) rfl rfl cw_12 rfl (by decide) k_X12_128 dX12_way_222 ?_
      refine lv_iload hx hb dX12_way_225 (lv_at hl 0 rfl) ?_
      refine m_iald hx hb hW (117) rfl (m_ixI (rfl : x6.toInt = _) (by omega) (by omega)) dX12_way_227 ?_
      refine lv_topi (fun x23 ex23 => ?_)
      refine m_iast hx hb hW (117) rfl (m_ixI (rfl : x5.toInt = _) (by omega) (by omega)) dX12_way_228 (fun H locs hW _ => ?_)
      generalize hμ24 : m_si μ22 (117) (x5 : Int32).toNatClampNeg x23 = μ24 at hW
      have hI := hI.si0 hμ24 rfl hS25
      obtain ⟨x25, ex25⟩ : ∃ z : Int32, z = y4 + 1 := ⟨_, rfl⟩
      refine lv_iinc (v := x25) (lv' := [(4, .int x25), (6, .int x6), (5, .int x5), (0, .ref (b + 81)), (1, .int k)]) hx hb dX12_way_229 hl (k := 4) rfl (by rw [ex25]; rfl) (by decide) rfl (fun ls hl => ?_)
      have tx25 : x25.toInt = y4.toInt + 1 := m_addI ex25 (rfl : y4.toInt = _) (by decide : (1 : Int32).toInt = 1) (by omega) (by omega)
      refine lv_goto (tgt := 77) hx hb dX12_way_232 (by decide) ?_
      have ck_k := m_ckI (x := k) (by omega)
      have ck_y := m_ckI (x := y4) (by omega)
      have ck_t := m_ckI (x := x5) (by omega)
      have ck_o := m_ckI (x := x6) (by omega)
      have ck_n := m_ckI (x := x25) (by omega)
      have hto : x5.toNatClampNeg = 400 * k.toNatClampNeg + y4.toNatClampNeg := by omega
      have hof : x6.toNatClampNeg = 3200 + y4.toNatClampNeg := by omega
      have hr1 : μ24.1 108 = (m_si μ 108 (400 * k.toNatClampNeg + y4.toNatClampNeg) (μ.1 108 (3200 + y4.toNatClampNeg))).1 108 := (show μ24.1 108 = μ22.1 108 from by rw [← hμ24]; exact m_si_row (by decide)).trans ((show μ22.1 108 = μ20.1 108 from by rw [← hμ22]; exact m_si_row (by decide)).trans ((show μ20.1 108 = μ18.1 108 from by rw [← hμ20]; exact m_si_row (by decide)).trans ((show μ18.1 108 = μ16.1 108 from by rw [← hμ18]; exact m_si_row (by decide)).trans ((show μ16.1 108 = μ14.1 108 from by rw [← hμ16]; exact m_si_row (by decide)).trans ((show μ14.1 108 = μ12.1 108 from by rw [← hμ14]; exact m_si_row (by decide)).trans ((show μ12.1 108 = μ10.1 108 from by rw [← hμ12]; exact m_si_row (by decide)).trans ((show μ10.1 108 = μ8.1 108 from by rw [← hμ10]; exact m_si_row (by decide)).trans (by rw [← hμ8, hto, ex7, hof]))))))))
      have hr2 : μ24.1 109 = (m_si μ 109 (400 * k.toNatClampNeg + y4.toNatClampNeg) (μ.1 109 (3200 + y4.toNatClampNeg))).1 109 := (show μ24.1 109 = μ22.1 109 from by rw [← hμ24]; exact m_si_row (by decide)).trans ((show μ22.1 109 = μ20.1 109 from by rw [← hμ22]; exact m_si_row (by decide)).trans ((show μ20.1 109 = μ18.1 109 from by rw [← hμ20]; exact m_si_row (by decide)).trans ((show μ18.1 109 = μ16.1 109 from by rw [← hμ18]; exact m_si_row (by decide)).trans ((show μ16.1 109 = μ14.1 109 from by rw [← hμ16]; exact m_si_row (by decide)).trans ((show μ14.1 109 = μ12.1 109 from by rw [← hμ14]; exact m_si_row (by decide)).trans ((show μ12.1 109 = μ10.1 109 from by rw [← hμ12]; exact m_si_row (by decide)).trans (by rw [← hμ10, hto, ex9, hof, ← hμ8]; rfl)))))))
      have hr3 : μ24.1 111 = μ.1 111 := (show μ24.1 111 = μ22.1 111 from by rw [← hμ24]; exact m_si_row (by decide)).trans ((show μ22.1 111 = μ20.1 111 from by rw [← hμ22]; exact m_si_row (by decide)).trans ((show μ20.1 111 = μ18.1 111 from by rw [← hμ20]; exact m_si_row (by decide)).trans ((show μ18.1 111 = μ16.1 111 from by rw [← hμ18]; exact m_si_row (by decide)).trans ((show μ16.1 111 = μ14.1 111 from by rw [← hμ16]; exact m_si_row (by decide)).trans ((show μ14.1 111 = μ12.1 111 from by rw [← hμ14]; exact m_si_row (by decide)).trans ((show μ12.1 111 = μ10.1 111 from by rw [← hμ12]; exact m_si_row (by decide)).trans ((show μ10.1 111 = μ8.1 111 from by rw [← hμ10]; exact m_si_row (by decide)).trans ((show μ8.1 111 = μ.1 111 from by rw [← hμ8]; exact m_si_row (by decide)).trans (rfl)))))))))
      have h8_ : (μ.1 111 8).toNatClampNeg ≤ 400 := m_c400 (hI0_.1 111 8 0 400 rfl).2
      exact ih x25 (by omega) (by omega) μ24 hI ((by rw [show x25.toNatClampNeg = y4.toNatClampNeg + 1 from by omega]; exact hcy.step (m_ck (by omega)) (by omega) h8_ hr1 hr2 hr3)) (by rw [← hμ24, ← hμ22, ← hμ20, ← hμ18, ← hμ16, ← hμ14, ← hμ12, ← hμ10, ← hμ8]; exact htp) (by rw [← hμ24, ← hμ22, ← hμ20, ← hμ18, ← hμ16, ← hμ14, ← hμ12, ← hμ10, ← hμ8]; exact hf1) (by rw [← hμ24, ← hμ22, ← hμ20, ← hμ18, ← hμ16, ← hμ14, ← hμ12, ← hμ10, ← hμ8]; exact hf2) (hres) _ _ hW ls (lv_sub hl [3, 4, 0] rfl)
set_option maxHeartbeats 4000000 in
set_option maxRecDepth 100000 in
theorem g_X12_way_g (l : Launch) (D : va_G) (cy : Nat → ClassId) (b : Nat) (S : Nat → Bool) (μ0 : mM) (hS20 : S 20 = true) (hS23 : S 23 = true) (hS26 : S 26 = true) (hS24 : S 24 = true) (hS25 : S 25 = true) (hS33 : S 33 = true) (hS34 : S 34 = true) (hS35 : S 35 = true) (hS36 : S 36 = true) (hS41 : S 41 = true) (t : Int32) (h_tt : 0 ≤ t.toInt ∧ t.toInt ≤ 400) (fT : Nat → Int32) (k : Int32) (μ : mM) (hI : IY S μ0 μ) (hgp : m_GP μ) (htp : μ.1 81 35 = t) (hfT : μ.1 106 = fT) (hRW : m_RW μ) : m_Ci l yX12_way cX12_way 7 ((some .boolean)) 7 D cy b LAY μ [.ref (b + 81), .int k] (fun r ν => IY S μ0 ν ∧ (((((0 ≤ k.toInt ∧ k.toInt ≤ 7) ∧ ((r = 1 ∧ a_all (t_K fT t.toNatClampNeg) (t_L fT t.toNatClampNeg) (t_V fT t.toNatClampNeg) 401 0 [] = none ∧ ν.1 81 56 = 0 ∧ ν.1 81 57 = -1) ∨ (r = 0 ∧ ∃ e, a_all (t_K fT t.toNatClampNeg) (t_L fT t.toNatClampNeg) (t_V fT t.toNatClampNeg) 401 0 [] = some e ∧ (ν.1 81 56).toInt = e.1 ∧ (ν.1 81 57).toInt = e.2))) ∨ (¬ (0 ≤ k.toInt ∧ k.toInt ≤ 7) ∧ r = 0 ∧ ν.1 81 56 = 0 ∧ ν.1 81 57 = -1)) ∧ ν.1 81 35 = 0) ∧ m_GP ν)) := by
  unfold m_Ci
  refine m_of (by decide) (Nat.le_of_ble_eq_true rfl) ?_
  intro p e s m below meth c hx hb hr hml hown hts hlocks _ hW ls hl
  have hown : s.vm.findClass RX12 = some m.cls := hown
  have hl : lv_has ls 7 [(0, .ref (b + 81)), (1, .int k)] := hl
  refine lv_aload_n hx hb dX12_way_0 rfl (lv_at hl 0 rfl) ?_
  refine lv_iconst (v := 0) hx hb dX12_way_1 (by decide) ?_
  refine m_puti hx hb hts hown hW (81) 0 rfl rfl cw_12 tyX12_ok nmX12 rfl (by decide) k_X12_167 rfl rfl rfl dX12_way_2 (fun H locs hW _ => ?_)
  generalize hμ1 : m_si μ (81) 0 0 = μ1 at hW
  have hgp : m_GP μ1 := hgp.si hμ1 (by decide) (by decide) (by decide)
  have hI := hI.si0 hμ1 rfl hS20
  refine lv_aload_n hx hb dX12_way_5 rfl (lv_at hl 0 rfl) ?_
  refine lv_iconst (v := 0) hx hb dX12_way_6 (by decide) ?_
  refine m_puti hx hb hts hown hW (81) 56 rfl rfl cw_12 tyX12_ok nmX12 rfl (by decide) k_X12_329 rfl rfl rfl dX12_way_7 (fun H locs hW _ => ?_)
  generalize hμ2 : m_si μ1 (81) 56 0 = μ2 at hW
  have hgp : m_GP μ2 := hgp.si hμ2 (by decide) (by decide) (by decide)
  have hI := hI.si0 hμ2 rfl hS26
  refine lv_aload_n hx hb dX12_way_10 rfl (lv_at hl 0 rfl) ?_
  refine lv_iconst (v := (-1)) hx hb dX12_way_11 (by decide) ?_
  refine m_puti hx hb hts hown hW (81) 57 rfl rfl cw_12 tyX12_ok nmX12 rfl (by decide) k_X12_134 rfl rfl rfl dX12_way_12 (fun H locs hW _ => ?_)
  generalize hμ3 : m_si μ2 (81) 57 (-1) = μ3 at hW
  have hgp : m_GP μ3 := hgp.si hμ3 (by decide) (by decide) (by decide)
  have hI := hI.si0 hμ3 rfl hS26
  refine lv_aload_n hx hb dX12_way_15 rfl (lv_at hl 0 rfl) ?_
  refine lv_iload_n hx hb dX12_way_16 rfl (lv_at hl 1 rfl) ?_
  refine lv_iconst (v := 0) hx hb dX12_way_17 (by decide) ?_
  refine lv_bipush (v := 7) hx hb dX12_way_18 (by decide) ?_
  have l_0 : (0 : Int32).toInt = 0 := by decide
  have l_7 : (7 : Int32).toInt = 7 := by decide
  refine m_aI hW (m_runV (As := [.int k, .int 0, .int 7]) (rest := []) hx hb hml hown hts hW (81) (g_X12_isIn l D cy b k 0 7 μ3 hI.1) mi_X12_isIn k_X12_170 rfl rfl rfl hl.1 rfl (Nat.le_of_ble_eq_true rfl) dX12_way_20 ⟨Nat.le_of_ble_eq_true rfl, Nat.le_of_ble_eq_true rfl⟩ ⟨Nat.le_of_ble_eq_true rfl, Nat.le_of_ble_eq_true rfl⟩) (fun x4 μ4 H locs q4 hW => ?_)
  obtain ⟨q4_m, q4⟩ := q4
  subst q4_m
  rcases q4 with ⟨rfl, q4⟩ | ⟨rfl, q4⟩
  · refine lv_istore_n (lv' := [(2, .int 1), (0, .ref (b + 81)), (1, .int k)]) hx hb dX12_way_23 rfl hl (by decide) rfl (fun ls hl => ?_)
    refine lv_iload_n hx hb dX12_way_24 rfl (lv_at hl 0 rfl) ?_
    refine lv_if_eq (tgt := 39) hx hb dX12_way_25 (by decide) (fun c => False.elim (by revert c; decide)) (fun _ => ?_)
    refine lv_aload_n hx hb dX12_way_28 rfl (lv_at hl 1 rfl) ?_
    refine m_aI hW (m_runV (As := []) (rest := []) hx hb hml hown hts hW (81) (g_X12_readAll_g l D cy b (fun g => [24, 25, 33, 34, 35, 36, 41].contains g) μ3 rfl rfl rfl rfl rfl rfl rfl t (by omega) fT μ3 (IY.rf hI.1) hgp (by rw [← hμ3, ← hμ2, ← hμ1]; exact htp) (by rw [show μ3.1 106 = μ2.1 106 from by rw [← hμ3]; exact m_si_row (by decide), show μ2.1 106 = μ1.1 106 from by rw [← hμ2]; exact m_si_row (by decide), show μ1.1 106 = μ.1 106 from by rw [← hμ1]; exact m_si_row (by decide)]; exact hfT) (fun i hi => by rw [show μ3.1 107 = μ2.1 107 from by rw [← hμ3]; exact m_si_row (by decide), show μ2.1 107 = μ1.1 107 from by rw [← hμ2]; exact m_si_row (by decide), show μ1.1 107 = μ.1 107 from by rw [← hμ1]; exact m_si_row (by decide)]; exact hRW i hi)) mi_X12_readAll k_X12_332 rfl rfl rfl hl.1 rfl (Nat.le_of_ble_eq_true rfl) dX12_way_29 ⟨Nat.le_of_ble_eq_true rfl, Nat.le_of_ble_eq_true rfl⟩ ⟨Nat.le_of_ble_eq_true rfl, Nat.le_of_ble_eq_true rfl⟩) (fun x5 μ5 H locs q5 hW => ?_)
    obtain ⟨hJ5, q5⟩ := q5
    have hI := hI.tr hJ5 (m_subL (by simp [hS24, hS25, hS33, hS34, hS35, hS36, hS41]))
    obtain ⟨hgp, q5⟩ := q5
    rcases q5 with ⟨rfl, ee, q5e, hft⟩ | ⟨rfl, q5e, hwd⟩
    · obtain ⟨q5k, q5p⟩ := hft
      obtain ⟨fk_, hfk_⟩ : ∃ z, μ5.1 81 54 = z := ⟨_, rfl⟩
      rw [hfk_] at q5k
      obtain ⟨fp_, hfp_⟩ : ∃ z, μ5.1 81 55 = z := ⟨_, rfl⟩
      rw [hfp_] at q5p
      refine lv_if_ne (tgt := 39) hx hb dX12_way_32 (by decide) (fun _ => ?_) (fun c => False.elim (by revert c; decide))
      refine lv_iconst (v := 0) hx hb dX12_way_39 (by decide) ?_
      refine lv_istore_n (lv' := [(3, .int 0), (2, .int 1), (0, .ref (b + 81)), (1, .int k)]) hx hb dX12_way_40 rfl hl (by decide) rfl (fun ls hl => ?_)
      refine lv_aload_n hx hb dX12_way_41 rfl (lv_at hl 2 rfl) ?_
      refine lv_iconst (v := 0) hx hb dX12_way_42 (by decide) ?_
      refine m_puti hx hb hts hown hW (81) 35 rfl rfl cw_12 tyX12_ok nmX12 rfl (by decide) k_X12_239 rfl rfl rfl dX12_way_43 (fun H locs hW _ => ?_)
      generalize hμ6 : m_si μ5 (81) 35 0 = μ6 at hW
      have hgp : m_GP μ6 := hgp.si hμ6 (by decide) (by decide) (by decide)
      have hI := hI.si1 hμ6 rfl (by decide) hS23
      refine lv_iload_n hx hb dX12_way_46 rfl (lv_at hl 1 rfl) ?_
      refine lv_if_ne (tgt := 52) hx hb dX12_way_47 (by decide) (fun _ => ?_) (fun c => False.elim (by revert c; decide))
      refine lv_iload_n hx hb dX12_way_52 rfl (lv_at hl 0 rfl) ?_
      refine lv_if_ne (tgt := 74) hx hb dX12_way_53 (by decide) (fun c => False.elim (by revert c; decide)) (fun _ => ?_)
      refine lv_aload_n hx hb dX12_way_56 rfl (lv_at hl 2 rfl) ?_
      refine lv_aload_n hx hb dX12_way_57 rfl (lv_at hl 2 rfl) ?_
      refine m_geti hx hb hts hown hW (81) 54 rfl rfl cw_12 rfl (by decide) k_X12_273 dX12_way_58 ?_
      refine lv_topi (fun x7 ex7 => ?_)
      have ex7 : x7 = fk_ := by rw [ex7, ← hμ6]; exact hfk_
      have ex7 := ex7.symm
      subst ex7
      refine m_puti hx hb hts hown hW (81) 56 rfl rfl cw_12 tyX12_ok nmX12 rfl (by decide) k_X12_329 rfl rfl rfl dX12_way_61 (fun H locs hW _ => ?_)
      generalize hμ8 : m_si μ6 (81) 56 fk_ = μ8 at hW
      have hgp : m_GP μ8 := hgp.si hμ8 (by decide) (by decide) (by decide)
      have hI := hI.si0 hμ8 rfl hS26
      refine lv_aload_n hx hb dX12_way_64 rfl (lv_at hl 2 rfl) ?_
      refine lv_aload_n hx hb dX12_way_65 rfl (lv_at hl 2 rfl) ?_
      refine m_geti hx hb hts hown hW (81) 55 rfl rfl cw_12 rfl (by decide) k_X12_276 dX12_way_66 ?_
      refine lv_topi (fun x9 ex9 => ?_)
      have ex9 : x9 = fp_ := by rw [ex9, ← hμ8, ← hμ6]; exact hfp_
      have ex9 := ex9.symm
      subst ex9
      refine m_puti hx hb hts hown hW (81) 57 rfl rfl cw_12 tyX12_ok nmX12 rfl (by decide) k_X12_134 rfl rfl rfl dX12_way_69 (fun H locs hW _ => ?_)
      generalize hμ10 : m_si μ8 (81) 57 fp_ = μ10 at hW
      have hgp : m_GP μ10 := hgp.si hμ10 (by decide) (by decide) (by decide)
      have hI := hI.si0 hμ10 rfl hS26
      refine lv_iconst (v := 0) hx hb dX12_way_72 (by decide) ?_
      exact m_iret hx hb hr hlocks hW (by decide) (⟨hI, ⟨⟨Or.inl ⟨by omega, Or.inr ⟨rfl, ee, q5e, by rw [show μ10.1 81 56 = fk_ from by rw [← hμ10, ← hμ8]; first | rfl | exact if_pos ⟨rfl, rfl⟩]; exact q5k, by rw [show μ10.1 81 57 = fp_ from by rw [← hμ10]; first | rfl | exact if_pos ⟨rfl, rfl⟩]; exact q5p⟩⟩, by rw [show μ10.1 81 35 = 0 from by rw [← hμ10, ← hμ8, ← hμ6]; first | rfl | exact if_pos ⟨rfl, rfl⟩]⟩, hgp⟩⟩) dX12_way_73
    · refine lv_if_ne (tgt := 39) hx hb dX12_way_32 (by decide) (fun c => False.elim (by revert c; decide)) (fun _ => ?_)
      refine lv_iconst (v := 1) hx hb dX12_way_35 (by decide) ?_
      refine lv_goto (tgt := 40) hx hb dX12_way_36 (by decide) ?_
      refine lv_istore_n (lv' := [(3, .int 1), (2, .int 1), (0, .ref (b + 81)), (1, .int k)]) hx hb dX12_way_40 rfl hl (by decide) rfl (fun ls hl => ?_)
      refine lv_aload_n hx hb dX12_way_41 rfl (lv_at hl 2 rfl) ?_
      refine lv_iconst (v := 0) hx hb dX12_way_42 (by decide) ?_
      refine m_puti hx hb hts hown hW (81) 35 rfl rfl cw_12 tyX12_ok nmX12 rfl (by decide) k_X12_239 rfl rfl rfl dX12_way_43 (fun H locs hW _ => ?_)
      generalize hμ11 : m_si μ5 (81) 35 0 = μ11 at hW
      have hgp : m_GP μ11 := hgp.si hμ11 (by decide) (by decide) (by decide)
      have hwd : m_WD μ11 := hwd.si hμ11 (by decide) (by decide) (by decide)
      have hI := hI.si1 hμ11 rfl (by decide) hS23
      refine lv_iload_n hx hb dX12_way_46 rfl (lv_at hl 1 rfl) ?_
      refine lv_if_ne (tgt := 52) hx hb dX12_way_47 (by decide) (fun _ => ?_) (fun c => False.elim (by revert c; decide))
      refine lv_iload_n hx hb dX12_way_52 rfl (lv_at hl 0 rfl) ?_
      refine lv_if_ne (tgt := 74) hx hb dX12_way_53 (by decide) (fun _ => ?_) (fun c => False.elim (by revert c; decide))
      refine lv_iconst (v := 0) hx hb dX12_way_74 (by decide) ?_
      refine lv_istore (lv' := [(4, .int 0), (3, .int 1), (2, .int 1), (0, .ref (b + 81)), (1, .int k)]) hx hb dX12_way_75 hl (by decide) rfl (fun ls hl => ?_)
      exact L_X12_way_g_77 hx hb hr hml hown hts hlocks S μ0 hS20 hS23 hS26 hS24 hS25 hS33 hS34 hS35 hS36 hS41 t h_tt fT k  401 0 (by omega) (by omega) μ11 hI (m_CY.start k.toNatClampNeg hgp hwd) (by rw [← hμ11]; first | rfl | exact if_pos ⟨rfl, rfl⟩) (by rw [← hμ11]; exact ((hJ5.2.1 81 56 rfl).trans (by rw [← hμ3, ← hμ2]; first | rfl | exact if_pos ⟨rfl, rfl⟩))) (by rw [← hμ11]; exact ((hJ5.2.1 81 57 rfl).trans (by rw [← hμ3]; first | rfl | exact if_pos ⟨rfl, rfl⟩))) (q5e) _ _ hW ls (lv_sub hl [3, 4, 0] rfl)
  · refine lv_istore_n (lv' := [(2, .int 0), (0, .ref (b + 81)), (1, .int k)]) hx hb dX12_way_23 rfl hl (by decide) rfl (fun ls hl => ?_)
    refine lv_iload_n hx hb dX12_way_24 rfl (lv_at hl 0 rfl) ?_
    refine lv_if_eq (tgt := 39) hx hb dX12_way_25 (by decide) (fun _ => ?_) (fun c => False.elim (by revert c; decide))
    refine lv_iconst (v := 0) hx hb dX12_way_39 (by decide) ?_
    refine lv_istore_n (lv' := [(3, .int 0), (2, .int 0), (0, .ref (b + 81)), (1, .int k)]) hx hb dX12_way_40 rfl hl (by decide) rfl (fun ls hl => ?_)
    refine lv_aload_n hx hb dX12_way_41 rfl (lv_at hl 2 rfl) ?_
    refine lv_iconst (v := 0) hx hb dX12_way_42 (by decide) ?_
    refine m_puti hx hb hts hown hW (81) 35 rfl rfl cw_12 tyX12_ok nmX12 rfl (by decide) k_X12_239 rfl rfl rfl dX12_way_43 (fun H locs hW _ => ?_)
    generalize hμ12 : m_si μ3 (81) 35 0 = μ12 at hW
    have hgp : m_GP μ12 := hgp.si hμ12 (by decide) (by decide) (by decide)
    have hI := hI.si1 hμ12 rfl (by decide) hS23
    refine lv_iload_n hx hb dX12_way_46 rfl (lv_at hl 1 rfl) ?_
    refine lv_if_ne (tgt := 52) hx hb dX12_way_47 (by decide) (fun c => False.elim (by revert c; decide)) (fun _ => ?_)
    refine lv_iconst (v := 0) hx hb dX12_way_50 (by decide) ?_
    exact m_iret hx hb hr hlocks hW (by decide) (⟨hI, ⟨⟨Or.inr ⟨by omega, rfl, by rw [show μ12.1 81 56 = 0 from by rw [← hμ12, ← hμ3, ← hμ2]; first | rfl | exact if_pos ⟨rfl, rfl⟩], by rw [show μ12.1 81 57 = (-1) from by rw [← hμ12, ← hμ3]; first | rfl | exact if_pos ⟨rfl, rfl⟩]⟩, by rw [show μ12.1 81 35 = 0 from by rw [← hμ12]; first | rfl | exact if_pos ⟨rfl, rfl⟩]⟩, hgp⟩⟩) dX12_way_51
set_option maxHeartbeats 4000000 in
set_option maxRecDepth 100000 in
theorem g_X11_fault_g (l : Launch) (D : va_G) (cy : Nat → ClassId) (b : Nat) (fa fb : Int32) (k : Int32) (μ : mM) (hI : IX μ) (hfa : μ.1 0 9 = fa) (hfb : μ.1 0 10 = fb) : m_Ci l yX11_fault cX11_fault 2 ((some .int)) 0 D cy b LAY μ [.ref (b + 0), .int k] (fun r ν => μ = ν ∧ (r = if k.toInt = 0 then fa else if k.toInt = 1 then fb else -1)) := by
  unfold m_Ci
  refine m_of (by decide) (Nat.le_of_ble_eq_true rfl) ?_
  intro p e s m below meth c hx hb hr hml hown hts hlocks _ hW ls hl
  have hown : s.vm.findClass RX11 = some m.cls := hown
  have hl : lv_has ls 2 [(0, .ref (b + 0)), (1, .int k)] := hl
  refine lv_iload_n hx hb dX11_fault_0 rfl (lv_at hl 1 rfl) ?_
  by_cases c1_0 : k.toInt = 0
  · refine lv_lookup (off := 27) (tgt := 28) hx hb dX11_fault_1 (by decide) (by rw [c1_0]; rfl) (by decide) ?_
    refine lv_aload_n hx hb dX11_fault_28 rfl (lv_at hl 0 rfl) ?_
    refine m_geti hx hb hts hown hW (0) 9 rfl rfl cw_11 rfl (by decide) k_X11_70 dX11_fault_29 ?_
    refine lv_topi (fun x2 ex2 => ?_)
    have ex2 : x2 = fa := by rw [ex2]; exact hfa
    have ex2 := ex2.symm
    subst ex2
    exact m_iret hx hb hr hlocks hW rfl (⟨rfl, (by first | (rw [if_pos (by omega)]) | (rw [if_neg (by omega), if_pos (by omega)]) | (rw [if_neg (by omega), if_neg (by omega)]))⟩) dX11_fault_32
  by_cases c1_1 : k.toInt = 1
  · refine lv_lookup (off := 32) (tgt := 33) hx hb dX11_fault_1 (by decide) (by rw [c1_1]; rfl) (by decide) ?_
    refine lv_aload_n hx hb dX11_fault_33 rfl (lv_at hl 0 rfl) ?_
    refine m_geti hx hb hts hown hW (0) 10 rfl rfl cw_11 rfl (by decide) k_X11_74 dX11_fault_34 ?_
    refine lv_topi (fun x3 ex3 => ?_)
    have ex3 : x3 = fb := by rw [ex3]; exact hfb
    have ex3 := ex3.symm
    subst ex3
    exact m_iret hx hb hr hlocks hW rfl (⟨rfl, (by first | (rw [if_pos (by omega)]) | (rw [if_neg (by omega), if_pos (by omega)]) | (rw [if_neg (by omega), if_neg (by omega)]))⟩) dX11_fault_37
  refine lv_lookup (off := 37) (tgt := 38) hx hb dX11_fault_1 (by decide) (by simp [Op.lookupswitch.offset_cons, Op.lookupswitch.offset_nil, Ne.symm c1_0, Ne.symm c1_1]) (by decide) ?_
  refine lv_iconst (v := (-1)) hx hb dX11_fault_38 (by decide) ?_
  exact m_iret hx hb hr hlocks hW rfl (⟨rfl, (by first | (rw [if_pos (by omega)]) | (rw [if_neg (by omega), if_pos (by omega)]) | (rw [if_neg (by omega), if_neg (by omega)]))⟩) dX11_fault_39
set_option maxHeartbeats 4000000 in
set_option maxRecDepth 100000 in
theorem g_X12_fault_g (l : Launch) (D : va_G) (cy : Nat → ClassId) (b : Nat) (S : Nat → Bool) (μ0 : mM) (hS20 : S 20 = true) (fa fb : Int32) (k : Int32) (μ : mM) (hI : IY S μ0 μ) (hfa : μ.1 81 56 = fa) (hfb : μ.1 81 57 = fb) : m_Ci l yX12_fault cX12_fault 2 ((some .int)) 0 D cy b LAY μ [.ref (b + 81), .int k] (fun r ν => IY S μ0 ν ∧ (r = if k.toInt = 0 then fa else if k.toInt = 1 then fb else -1)) := by
  unfold m_Ci
  refine m_of (by decide) (Nat.le_of_ble_eq_true rfl) ?_
  intro p e s m below meth c hx hb hr hml hown hts hlocks _ hW ls hl
  have hown : s.vm.findClass RX12 = some m.cls := hown
  have hl : lv_has ls 2 [(0, .ref (b + 81)), (1, .int k)] := hl
  refine lv_aload_n hx hb dX12_fault_0 rfl (lv_at hl 0 rfl) ?_
  refine lv_iconst (v := 0) hx hb dX12_fault_1 (by decide) ?_
  refine m_puti hx hb hts hown hW (81) 0 rfl rfl cw_12 tyX12_ok nmX12 rfl (by decide) k_X12_167 rfl rfl rfl dX12_fault_2 (fun H locs hW _ => ?_)
  generalize hμ1 : m_si μ (81) 0 0 = μ1 at hW
  have hI := hI.si0 hμ1 rfl hS20
  refine lv_iload_n hx hb dX12_fault_5 rfl (lv_at hl 1 rfl) ?_
  refine lv_if_ne (tgt := 16) hx hb dX12_fault_6 (by decide) (fun c2 => ?_) (fun c2 => ?_)
  · have i2 := m_c6 (rfl : k.toInt = _) (by decide : (0 : Int32).toInt = 0) c2
    refine lv_iload_n hx hb dX12_fault_16 rfl (lv_at hl 1 rfl) ?_
    refine lv_iconst (v := 1) hx hb dX12_fault_17 (by decide) ?_
    refine lv_icmp_ne (tgt := 28) hx hb dX12_fault_18 (by decide) (fun c3 => ?_) (fun c3 => ?_)
    · have i3 := m_c6 (rfl : k.toInt = _) (by decide : (1 : Int32).toInt = 1) c3
      refine lv_iconst (v := (-1)) hx hb dX12_fault_28 (by decide) ?_
      exact m_iret hx hb hr hlocks hW rfl (⟨hI, (by first | (rw [if_pos (by omega)]) | (rw [if_neg (by omega), if_pos (by omega)]) | (rw [if_neg (by omega), if_neg (by omega)]))⟩) dX12_fault_29
    · have i3 := m_c5 (rfl : k.toInt = _) (by decide : (1 : Int32).toInt = 1) c3
      refine lv_aload_n hx hb dX12_fault_21 rfl (lv_at hl 0 rfl) ?_
      refine m_geti hx hb hts hown hW (81) 57 rfl rfl cw_12 rfl (by decide) k_X12_134 dX12_fault_22 ?_
      refine lv_topi (fun x4 ex4 => ?_)
      have ex4 : x4 = fb := by rw [ex4, ← hμ1]; exact hfb
      have ex4 := ex4.symm
      subst ex4
      refine lv_goto (tgt := 29) hx hb dX12_fault_25 (by decide) ?_
      exact m_iret hx hb hr hlocks hW rfl (⟨hI, (by first | (rw [if_pos (by omega)]) | (rw [if_neg (by omega), if_pos (by omega)]) | (rw [if_neg (by omega), if_neg (by omega)]))⟩) dX12_fault_29
  · have i2 := m_c5 (rfl : k.toInt = _) (by decide : (0 : Int32).toInt = 0) c2
    refine lv_aload_n hx hb dX12_fault_9 rfl (lv_at hl 0 rfl) ?_
    refine m_geti hx hb hts hown hW (81) 56 rfl rfl cw_12 rfl (by decide) k_X12_329 dX12_fault_10 ?_
    refine lv_topi (fun x5 ex5 => ?_)
    have ex5 : x5 = fa := by rw [ex5, ← hμ1]; exact hfa
    have ex5 := ex5.symm
    subst ex5
    refine lv_goto (tgt := 29) hx hb dX12_fault_13 (by decide) ?_
    exact m_iret hx hb hr hlocks hW rfl (⟨hI, (by first | (rw [if_pos (by omega)]) | (rw [if_neg (by omega), if_pos (by omega)]) | (rw [if_neg (by omega), if_neg (by omega)]))⟩) dX12_fault_29
