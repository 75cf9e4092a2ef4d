theorem m_lt {x : Int32} {i n : Nat} (h2 : x = nI i) (hi : i < 2 ^ 31) (h : ¬ nI n ≤ x) : i < n := by
  rcases Nat.lt_or_ge i n with q | q
  · exact q
  · exact absurd (by rw [h2]; exact nI_le q hi) h
theorem m_nle {x y : Int32} {Y : Int} (hy : y.toInt = Y) (h : ¬ y ≤ x) : x.toInt < Y := by
  rw [Int32.le_iff_toInt_le] at h
  omega
theorem m_nlt {x y : Int32} {Y : Int} (hy : y.toInt = Y) (h : ¬ y < x) : x.toInt ≤ Y := by
  rw [Int32.lt_iff_toInt_lt] at h
  omega
theorem m_bmod {z : Int} (h1 : -2147483648 ≤ z) (h2 : z < 2147483648) : z.bmod (2 ^ 32) = z := by
  rw [Int.bmod_eq_of_le] <;> omega
theorem m_addI {x y z : Int32} {X Y : Int} (e : z = x + y) (hx : x.toInt = X) (hy : y.toInt = Y) (h1 : -2147483648 ≤ X + Y) (h2 : X + Y < 2147483648) : z.toInt = X + Y := by
  rw [e, Int32.toInt_add, hx, hy]
  exact m_bmod h1 h2
theorem m_subI {x y z : Int32} {X Y : Int} (e : z = x - y) (hx : x.toInt = X) (hy : y.toInt = Y) (h1 : -2147483648 ≤ X - Y) (h2 : X - Y < 2147483648) : z.toInt = X - Y := by
  rw [e, Int32.toInt_sub, hx, hy]
  exact m_bmod h1 h2
theorem m_mulI {x y z : Int32} {X Y : Int} (e : z = x * y) (hx : x.toInt = X) (hy : y.toInt = Y) (h1 : -2147483648 ≤ X * Y) (h2 : X * Y < 2147483648) : z.toInt = X * Y := by
  rw [e, Int32.toInt_mul, hx, hy]
  exact m_bmod h1 h2
theorem m_half {x z : Int32} (e : z = x / 2) (h : 0 ≤ x.toInt) : z.toInt = x.toInt / 2 := by
  obtain ⟨j, h1, h2⟩ := nI_of (x := x) (by rw [Int32.lt_iff_toInt_lt]; show ¬ x.toInt < 0; omega)
  have e2 : z = nI (j / 2) := by
    rw [e, h2]
    exact pk_div h1 (by decide) (by decide)
  rw [e2, h2, nI_toInt h1, nI_toInt (by omega)]
  omega
theorem m_ixI {v : Int32} {n : Nat} {X : Int} (e : v.toInt = X) (h0 : 0 ≤ X) (hn : X < n) : vp_in v n := vp_in_iff.mpr ⟨by omega, by omega⟩
theorem m_eqI {x y : Int32} {Y : Int} (hy : y.toInt = Y) : x = y ↔ x.toInt = Y := by
  rw [← hy]
  exact Int32.toInt_inj.symm
set_option maxHeartbeats 4000000 in
set_option maxRecDepth 100000 in
theorem c_X1_renew (l : Launch) (D : va_G) (cy : Nat → ClassId) (b : Nat) (μ : mM) : m_Cv l yX1_renew cX1_renew 1 (none) 0 D cy b LX μ [.ref (b + 42)] (fun ν => True) := by
  unfold m_Cv
  refine m_of (by decide) (Nat.le_of_ble_eq_true rfl) ?_
  intro p e s m below meth c hx hb hr hml hown hts hlocks _ hW ls hl
  have hown : s.vm.findClass RX1 = some m.cls := hown
  have hl : lv_has ls 1 [(0, .ref (b + 42))] := hl
  refine lv_aload_n hx hb dX1_renew_0 rfl (lv_at hl 0 rfl) ?_
  refine lv_iconst (v := 0) hx hb dX1_renew_1 (by decide) ?_
  refine m_puti hx hb hts hown hW (42) 0 rfl rfl cw_1 tyX1_ok nmX1 rfl (by decide) k_X1_7 rfl rfl rfl dX1_renew_2 (fun H locs hW _ => ?_)
  generalize hμ1 : m_si μ (42) 0 0 = μ1 at hW
  refine lv_aload_n hx hb dX1_renew_5 rfl (lv_at hl 0 rfl) ?_
  refine lv_iconst (v := 0) hx hb dX1_renew_6 (by decide) ?_
  refine m_puti hx hb hts hown hW (42) 1 rfl rfl cw_1 tyX1_ok nmX1 rfl (by decide) k_X1_13 rfl rfl rfl dX1_renew_7 (fun H locs hW _ => ?_)
  generalize hμ2 : m_si μ1 (42) 1 0 = μ2 at hW
  refine lv_aload_n hx hb dX1_renew_10 rfl (lv_at hl 0 rfl) ?_
  refine lv_iconst (v := 0) hx hb dX1_renew_11 (by decide) ?_
  refine m_puti hx hb hts hown hW (42) 2 rfl rfl cw_1 tyX1_ok nmX1 rfl (by decide) k_X1_16 rfl (by decide) rfl dX1_renew_12 (fun H locs hW _ => ?_)
  generalize hμ3 : m_si μ2 (42) 2 0 = μ3 at hW
  refine lv_aload_n hx hb dX1_renew_15 rfl (lv_at hl 0 rfl) ?_
  refine lv_iconst (v := 5) hx hb dX1_renew_16 (by decide) ?_
  refine m_puti hx hb hts hown hW (42) 3 rfl rfl cw_1 tyX1_ok nmX1 rfl (by decide) k_X1_20 rfl rfl rfl dX1_renew_17 (fun H locs hW _ => ?_)
  generalize hμ4 : m_si μ3 (42) 3 5 = μ4 at hW
  refine lv_aload_n hx hb dX1_renew_20 rfl (lv_at hl 0 rfl) ?_
  refine lv_iconst (v := 0) hx hb dX1_renew_21 (by decide) ?_
  refine m_puti hx hb hts hown hW (42) 4 rfl rfl cw_1 tyX1_ok nmX1 rfl (by decide) k_X1_23 rfl rfl rfl dX1_renew_22 (fun H locs hW _ => ?_)
  generalize hμ5 : m_si μ4 (42) 4 0 = μ5 at hW
  exact m_vret hx hb hr hlocks hW (trivial) dX1_renew_25
set_option maxHeartbeats 4000000 in
set_option maxRecDepth 100000 in
theorem L_fill {p : Program} {l : Launch} {e : Env} {s : State} {m : MethodId} {args : Array Value} {below : List Frame} {meth : Method} {c : Code} {Q : State → Prop} {D : va_G} {cy : Nat → ClassId} {b : Nat} {A : Nat → Prop} (hx : p.tables.exec = Jvm.exec) (hb : c.code = cJ7_fill_53178) (hml : c.maxLocals = 4) (hown : s.vm.findClass RJ7 = some m.cls) (hts : ∀ w ∈ TB, w.before args s = true) (k n : Nat) (hk : LX[k]? = some (.inr (0, n, []))) (hn : n < 2 ^ 30) (v : Int32) (K : ∀ (μ : mM) (H : Heap) (locs : List Loc), m_WA A D cy s b LX μ H locs → ∀ ls : Array Slot, lv_has ls 4 [(0, .ref (b + k))] → W p l e (m_R 0 0 0) s m args below meth c H locs 0 0 Q (F0 m 20 ls [])) : ∀ (f : Nat) (y2 : Int32) (i : Nat) (h2 : y2 = nI i) (hi : i ≤ n) (hf : n + 1 ≤ i + f) (μ : mM) (H : Heap) (locs : List Loc), m_WA A D cy s b LX μ H locs → ∀ ls : Array Slot, lv_has ls 4 [(0, .ref (b + k)), (1, .int v), (2, .int y2), (3, .int (nI n))] → W p l e (m_R 0 0 0) s m args below meth c H locs 0 0 Q (F0 m 5 ls []) := by
  intro f
  induction f with
  | zero => intro y2 i h2 hi hf; exfalso; omega
  | succ f ih =>
    intro y2 i h2 hi hf μ  H locs hW ls hl
    refine lv_iload_n hx hb dJ7_fill_53178_5 rfl (lv_at hl 2 rfl) ?_
    refine lv_iload_n hx hb dJ7_fill_53178_6 rfl (lv_at hl 3 rfl) ?_
    refine lv_icmp_ge (tgt := 20) hx hb dJ7_fill_53178_7 (by decide) (fun c1 => ?_) (fun c1 => ?_)
    · exact K μ  _ _  hW ls (lv_sub hl [0] rfl)
    · have hlt : i < n := m_lt h2 (by omega) c1
      refine lv_aload_n hx hb dJ7_fill_53178_10 rfl (lv_at hl 0 rfl) ?_
      refine lv_iload_n hx hb dJ7_fill_53178_11 rfl (lv_at hl 2 rfl) ?_
      refine lv_iload_n hx hb dJ7_fill_53178_12 rfl (lv_at hl 1 rfl) ?_
      refine m_iast hx hb hW (k) hk (by rw [h2]; exact vp_in_nI hlt (by omega)) dJ7_fill_53178_13 (fun H locs hW _ => ?_)
      generalize hμ2 : m_si μ (k) (y2 : Int32).toNatClampNeg v = μ2 at hW
      obtain ⟨x3, ex3⟩ : ∃ z : Int32, z = y2 + 1 := ⟨_, rfl⟩
      refine lv_iinc (v := x3) (lv' := [(2, .int x3), (0, .ref (b + k)), (1, .int v), (3, .int (nI n))]) hx hb dJ7_fill_53178_14 hl (k := 2) rfl (by rw [ex3]; rfl) (by decide) rfl (fun ls hl => ?_)
      refine lv_goto (tgt := 5) hx hb dJ7_fill_53178_17 (by decide) ?_
      exact ih x3 (i + 1) (by rw [ex3, h2]; exact nI_1 i) hlt (by omega) μ2  _ _ hW ls (lv_sub hl [1, 2, 0, 3] rfl)
set_option maxHeartbeats 4000000 in
set_option maxRecDepth 100000 in
theorem c_J7_fill_53178 (l : Launch) (D : va_G) (cy : Nat → ClassId) (b : Nat) (μ : mM) (k n : Nat) (hk : LX[k]? = some (.inr (0, n, []))) (hn : n < 2 ^ 30) (v : Int32) : m_Cv l yJ7_fill_53178 cJ7_fill_53178 4 (none) 0 D cy b LX μ [.ref (b + k), .int v] (fun ν => True) := by
  unfold m_Cv
  refine m_of (by decide) (Nat.le_of_ble_eq_true rfl) ?_
  intro p e s m below meth c hx hb hr hml hown hts hlocks _ hW ls hl
  have hown : s.vm.findClass RJ7 = some m.cls := hown
  have hl : lv_has ls 4 [(0, .ref (b + k)), (1, .int v)] := hl
  refine lv_iconst (v := 0) hx hb dJ7_fill_53178_0 (by decide) ?_
  refine lv_istore_n (lv' := [(2, .int 0), (0, .ref (b + k)), (1, .int v)]) hx hb dJ7_fill_53178_1 rfl hl (by decide) rfl (fun ls hl => ?_)
  refine lv_aload_n hx hb dJ7_fill_53178_2 rfl (lv_at hl 1 rfl) ?_
  refine m_alen hx hb hW (k) hk dJ7_fill_53178_3 ?_
  refine lv_topi (fun x1 ex1 => ?_)
  have ex1 : x1 = (nI n) := ex1
  subst ex1
  refine lv_istore_n (lv' := [(3, .int (nI n)), (2, .int 0), (0, .ref (b + k)), (1, .int v)]) hx hb dJ7_fill_53178_4 rfl hl (by decide) rfl (fun ls hl => ?_)
  refine L_fill hx hb hml hown hts k n hk hn v (fun μ2  H locs  hW ls hl => ?_) _ 0 0 nI_0.symm (Nat.zero_le n) (Nat.le_of_eq (Nat.zero_add _).symm) μ  _ _ hW ls (lv_sub hl [2, 3, 1, 0] rfl)
  exact m_vret hx hb hr hlocks hW (trivial) dJ7_fill_53178_20
set_option maxHeartbeats 4000000 in
set_option maxRecDepth 100000 in
theorem c_X3_renew (l : Launch) (D : va_G) (cy : Nat → ClassId) (b : Nat) (μ : mM) (k u v w : Int32) : m_Cv l yX3_renew cX3_renew 5 (none) 1 D cy b LX μ [.ref (b + 41), .int k, .int u, .int v, .int w] (fun ν => True) := by
  unfold m_Cv
  refine m_of (by decide) (Nat.le_of_ble_eq_true rfl) ?_
  intro p e s m below meth c hx hb hr hml hown hts hlocks _ hW ls hl
  have hown : s.vm.findClass RX3 = some m.cls := hown
  have hl : lv_has ls 5 [(0, .ref (b + 41)), (1, .int k), (2, .int u), (3, .int v), (4, .int w)] := hl
  refine lv_aload_n hx hb dX3_renew_0 rfl (lv_at hl 0 rfl) ?_
  refine lv_iload_n hx hb dX3_renew_1 rfl (lv_at hl 1 rfl) ?_
  refine m_puti hx hb hts hown hW (41) 0 rfl rfl cw_3 tyX3_ok nmX3 rfl (by decide) k_X3_11 rfl rfl rfl dX3_renew_2 (fun H locs hW _ => ?_)
  generalize hμ1 : m_si μ (41) 0 k = μ1 at hW
  refine lv_aload_n hx hb dX3_renew_5 rfl (lv_at hl 0 rfl) ?_
  refine lv_iload_n hx hb dX3_renew_6 rfl (lv_at hl 2 rfl) ?_
  refine m_puti hx hb hts hown hW (41) 1 rfl rfl cw_3 tyX3_ok nmX3 rfl (by decide) k_X3_15 rfl rfl rfl dX3_renew_7 (fun H locs hW _ => ?_)
  generalize hμ2 : m_si μ1 (41) 1 u = μ2 at hW
  refine lv_aload_n hx hb dX3_renew_10 rfl (lv_at hl 0 rfl) ?_
  refine lv_iload_n hx hb dX3_renew_11 rfl (lv_at hl 1 rfl) ?_
  refine lv_iload_n hx hb dX3_renew_12 rfl (lv_at hl 2 rfl) ?_
  refine lv_imul hx hb dX3_renew_13 ?_
  refine lv_topi (fun x3 ex3 => ?_)
  refine lv_sipush (v := 192) hx hb dX3_renew_14 (by decide) ?_
  refine va_mmin hx hb (hml.trans hl.1.symm) hown (hts _ k_X3_76) (hts _ kM_min_s) (hts _ kM_n) (hts _ kM_min_c) (Nat.le_of_ble_eq_true rfl) (Nat.le_of_ble_eq_true rfl) (Nat.le_of_ble_eq_true rfl) (Nat.le_of_ble_eq_true rfl) dX3_renew_17 ?_
  refine lv_topi (fun x4 ex4 => ?_)
  refine m_puti hx hb hts hown hW (41) 2 rfl rfl cw_3 tyX3_ok nmX3 rfl (by decide) k_X3_18 rfl rfl rfl dX3_renew_20 (fun H locs hW _ => ?_)
  generalize hμ5 : m_si μ2 (41) 2 x4 = μ5 at hW
  refine lv_aload_n hx hb dX3_renew_23 rfl (lv_at hl 0 rfl) ?_
  refine lv_iload_n hx hb dX3_renew_24 rfl (lv_at hl 3 rfl) ?_
  refine m_puti hx hb hts hown hW (41) 3 rfl rfl cw_3 tyX3_ok nmX3 rfl (by decide) k_X3_21 rfl rfl rfl dX3_renew_25 (fun H locs hW _ => ?_)
  generalize hμ6 : m_si μ5 (41) 3 v = μ6 at hW
  refine lv_aload_n hx hb dX3_renew_28 rfl (lv_at hl 0 rfl) ?_
  refine lv_iload hx hb dX3_renew_29 (lv_at hl 4 rfl) ?_
  refine m_puti hx hb hts hown hW (41) 4 rfl rfl cw_3 tyX3_ok nmX3 rfl (by decide) k_X3_24 rfl rfl rfl dX3_renew_31 (fun H locs hW _ => ?_)
  generalize hμ7 : m_si μ6 (41) 4 w = μ7 at hW
  refine lv_aload_n hx hb dX3_renew_34 rfl (lv_at hl 0 rfl) ?_
  refine lv_iconst (v := 0) hx hb dX3_renew_35 (by decide) ?_
  refine m_puti hx hb hts hown hW (41) 5 rfl rfl cw_3 tyX3_ok nmX3 rfl (by decide) k_X3_27 rfl rfl rfl dX3_renew_36 (fun H locs hW _ => ?_)
  generalize hμ8 : m_si μ7 (41) 5 0 = μ8 at hW
  refine lv_aload_n hx hb dX3_renew_39 rfl (lv_at hl 0 rfl) ?_
  refine lv_iconst (v := 0) hx hb dX3_renew_40 (by decide) ?_
  refine m_puti hx hb hts hown hW (41) 6 rfl rfl cw_3 tyX3_ok nmX3 rfl (by decide) k_X3_30 rfl rfl rfl dX3_renew_41 (fun H locs hW _ => ?_)
  generalize hμ9 : m_si μ8 (41) 6 0 = μ9 at hW
  refine lv_aload_n hx hb dX3_renew_44 rfl (lv_at hl 0 rfl) ?_
  refine lv_lconst (v := 0) hx hb dX3_renew_45 (by decide) ?_
  refine m_putl hx hb hts hown hW (41) 7 rfl rfl cw_3 tyX3_ok nmX3 rfl (by decide) k_X3_33 rfl rfl rfl dX3_renew_46 (fun H locs hW _ => ?_)
  generalize hμ10 : m_sl μ9 (41) 7 0 = μ10 at hW
  refine lv_aload_n hx hb dX3_renew_49 rfl (lv_at hl 0 rfl) ?_
  refine lv_lconst (v := 0) hx hb dX3_renew_50 (by decide) ?_
  refine m_putl hx hb hts hown hW (41) 8 rfl rfl cw_3 tyX3_ok nmX3 rfl (by decide) k_X3_37 rfl rfl rfl dX3_renew_51 (fun H locs hW _ => ?_)
  generalize hμ11 : m_sl μ10 (41) 8 0 = μ11 at hW
  refine lv_aload_n hx hb dX3_renew_54 rfl (lv_at hl 0 rfl) ?_
  refine lv_lconst (v := 0) hx hb dX3_renew_55 (by decide) ?_
  refine m_putl hx hb hts hown hW (41) 9 rfl rfl cw_3 tyX3_ok nmX3 rfl (by decide) k_X3_40 rfl rfl rfl dX3_renew_56 (fun H locs hW _ => ?_)
  generalize hμ12 : m_sl μ11 (41) 9 0 = μ12 at hW
  refine lv_aload_n hx hb dX3_renew_59 rfl (lv_at hl 0 rfl) ?_
  refine m_getr hx hb hts hown hW (41) 10 (42) rfl rfl cw_3 rfl (by decide) k_X3_46 dX3_renew_60 ?_
  refine m_aV hW (m_runV (As := []) (rest := []) hx hb hml hown hts hW (42) (c_X1_renew l D cy b μ12) mi_X1_renew k_X3_82 rfl rfl rfl hl.1 rfl (Nat.le_of_ble_eq_true rfl) dX3_renew_63 ⟨Nat.le_of_ble_eq_true rfl, Nat.le_of_ble_eq_true rfl⟩ ⟨Nat.le_of_ble_eq_true rfl, Nat.le_of_ble_eq_true rfl⟩) (fun μ13 H locs q13 hW => ?_)
  refine lv_aload_n hx hb dX3_renew_66 rfl (lv_at hl 0 rfl) ?_
  refine m_getr hx hb hts hown hW (41) 11 (43) rfl rfl cw_3 rfl (by decide) k_X3_50 dX3_renew_67 ?_
  refine lv_iconst (v := 0) hx hb dX3_renew_70 (by decide) ?_
  refine m_aV hW (m_runS (As := [.ref (b + 43), .int 0]) (rest := []) hx hb hml hown hts hW (c_J7_fill_53178 l D cy b μ13 43 192 rfl (by decide) 0) ms_J7_fill_53178 k_X3_85 rfl hl.1 rfl (Nat.le_of_ble_eq_true rfl) dX3_renew_71 ⟨Nat.le_of_ble_eq_true rfl, Nat.le_of_ble_eq_true rfl⟩ ⟨Nat.le_of_ble_eq_true rfl, Nat.le_of_ble_eq_true rfl⟩) (fun μ14 H locs q14 hW => ?_)
  refine lv_aload_n hx hb dX3_renew_74 rfl (lv_at hl 0 rfl) ?_
  refine m_getr hx hb hts hown hW (41) 12 (44) rfl rfl cw_3 rfl (by decide) k_X3_54 dX3_renew_75 ?_
  refine lv_iconst (v := 0) hx hb dX3_renew_78 (by decide) ?_
  refine m_aV hW (m_runS (As := [.ref (b + 44), .int 0]) (rest := []) hx hb hml hown hts hW (c_J7_fill_53178 l D cy b μ14 44 192 rfl (by decide) 0) ms_J7_fill_53178 k_X3_85 rfl hl.1 rfl (Nat.le_of_ble_eq_true rfl) dX3_renew_79 ⟨Nat.le_of_ble_eq_true rfl, Nat.le_of_ble_eq_true rfl⟩ ⟨Nat.le_of_ble_eq_true rfl, Nat.le_of_ble_eq_true rfl⟩) (fun μ15 H locs q15 hW => ?_)
  refine lv_aload_n hx hb dX3_renew_82 rfl (lv_at hl 0 rfl) ?_
  refine m_getr hx hb hts hown hW (41) 13 (45) rfl rfl cw_3 rfl (by decide) k_X3_57 dX3_renew_83 ?_
  refine lv_iconst (v := 0) hx hb dX3_renew_86 (by decide) ?_
  refine m_aV hW (m_runS (As := [.ref (b + 45), .int 0]) (rest := []) hx hb hml hown hts hW (c_J7_fill_53178 l D cy b μ15 45 192 rfl (by decide) 0) ms_J7_fill_53178 k_X3_85 rfl hl.1 rfl (Nat.le_of_ble_eq_true rfl) dX3_renew_87 ⟨Nat.le_of_ble_eq_true rfl, Nat.le_of_ble_eq_true rfl⟩ ⟨Nat.le_of_ble_eq_true rfl, Nat.le_of_ble_eq_true rfl⟩) (fun μ16 H locs q16 hW => ?_)
  refine lv_aload_n hx hb dX3_renew_90 rfl (lv_at hl 0 rfl) ?_
  refine m_getr hx hb hts hown hW (41) 14 (46) rfl rfl cw_3 rfl (by decide) k_X3_60 dX3_renew_91 ?_
  refine lv_iconst (v := 0) hx hb dX3_renew_94 (by decide) ?_
  refine m_aV hW (m_runS (As := [.ref (b + 46), .int 0]) (rest := []) hx hb hml hown hts hW (c_J7_fill_53178 l D cy b μ16 46 192 rfl (by decide) 0) ms_J7_fill_53178 k_X3_85 rfl hl.1 rfl (Nat.le_of_ble_eq_true rfl) dX3_renew_95 ⟨Nat.le_of_ble_eq_true rfl, Nat.le_of_ble_eq_true rfl⟩ ⟨Nat.le_of_ble_eq_true rfl, Nat.le_of_ble_eq_true rfl⟩) (fun μ17 H locs q17 hW => ?_)
  exact m_vret hx hb hr hlocks hW (trivial) dX3_renew_98
set_option maxHeartbeats 4000000 in
set_option maxRecDepth 100000 in
theorem c_X11_plate (l : Launch) (D : va_G) (cy : Nat → ClassId) (b : Nat) (μ : mM) (k u v w : Int32) : m_Ci l yX11_plate cX11_plate 5 ((some .boolean)) 2 D cy b LX μ [.ref (b + 0), .int k, .int u, .int v, .int w] (fun r ν => r = Fplate k u v w) := by
  unfold m_Ci
  refine m_of (by decide) (Nat.le_of_ble_eq_true rfl) ?_
  intro p e s m below meth c hx hb hr hml hown hts hlocks _ hW ls hl
  have hown : s.vm.findClass RX11 = some m.cls := hown
  have hl : lv_has ls 5 [(0, .ref (b + 0)), (1, .int k), (2, .int u), (3, .int v), (4, .int w)] := hl
  refine lv_iload_n hx hb dX11_plate_0 rfl (lv_at hl 1 rfl) ?_
  refine lv_iconst (v := 1) hx hb dX11_plate_1 (by decide) ?_
  refine lv_bipush (v := 16) hx hb dX11_plate_2 (by decide) ?_
  refine m_aI hW (m_runS (As := [.int k, .int 1, .int 16]) (rest := []) hx hb hml hown hts hW (c_X11_within l D cy b LX μ k 1 16 1 16 (by decide) (by decide)) ms_X11_within k_X11_81 rfl hl.1 rfl (Nat.le_of_ble_eq_true rfl) dX11_plate_4 ⟨Nat.le_of_ble_eq_true rfl, Nat.le_of_ble_eq_true rfl⟩ ⟨Nat.le_of_ble_eq_true rfl, Nat.le_of_ble_eq_true rfl⟩) (fun x1 μ1 H locs q1 hW => ?_)
  obtain ⟨q1_m, q1⟩ := q1
  subst q1_m
  rcases q1 with ⟨rfl, q1⟩ | ⟨rfl, q1⟩
  · refine lv_if_eq (tgt := 40) hx hb dX11_plate_7 (by decide) (fun c => False.elim (by revert c; decide)) (fun _ => ?_)
    refine lv_iload_n hx hb dX11_plate_10 rfl (lv_at hl 2 rfl) ?_
    refine lv_iconst (v := 1) hx hb dX11_plate_11 (by decide) ?_
    refine lv_bipush (v := 12) hx hb dX11_plate_12 (by decide) ?_
    refine m_aI hW (m_runS (As := [.int u, .int 1, .int 12]) (rest := []) hx hb hml hown hts hW (c_X11_within l D cy b LX μ u 1 12 1 12 (by decide) (by decide)) ms_X11_within k_X11_81 rfl hl.1 rfl (Nat.le_of_ble_eq_true rfl) dX11_plate_14 ⟨Nat.le_of_ble_eq_true rfl, Nat.le_of_ble_eq_true rfl⟩ ⟨Nat.le_of_ble_eq_true rfl, Nat.le_of_ble_eq_true rfl⟩) (fun x2 μ2 H locs q2 hW => ?_)
    obtain ⟨q2_m, q2⟩ := q2
    subst q2_m
    rcases q2 with ⟨rfl, q2⟩ | ⟨rfl, q2⟩
    · refine lv_if_eq (tgt := 40) hx hb dX11_plate_17 (by decide) (fun c => False.elim (by revert c; decide)) (fun _ => ?_)
      refine lv_iload_n hx hb dX11_plate_20 rfl (lv_at hl 3 rfl) ?_
      refine lv_iconst (v := 0) hx hb dX11_plate_21 (by decide) ?_
      refine lv_iconst (v := 3) hx hb dX11_plate_22 (by decide) ?_
      refine m_aI hW (m_runS (As := [.int v, .int 0, .int 3]) (rest := []) hx hb hml hown hts hW (c_X11_within l D cy b LX μ v 0 3 0 3 (by decide) (by decide)) ms_X11_within k_X11_81 rfl hl.1 rfl (Nat.le_of_ble_eq_true rfl) dX11_plate_23 ⟨Nat.le_of_ble_eq_true rfl, Nat.le_of_ble_eq_true rfl⟩ ⟨Nat.le_of_ble_eq_true rfl, Nat.le_of_ble_eq_true rfl⟩) (fun x3 μ3 H locs q3 hW => ?_)
      obtain ⟨q3_m, q3⟩ := q3
      subst q3_m
      rcases q3 with ⟨rfl, q3⟩ | ⟨rfl, q3⟩
      · refine lv_if_eq (tgt := 40) hx hb dX11_plate_26 (by decide) (fun c => False.elim (by revert c; decide)) (fun _ => ?_)
        refine lv_iload hx hb dX11_plate_29 (lv_at hl 4 rfl) ?_
        refine lv_iconst (v := 1) hx hb dX11_plate_31 (by decide) ?_
        refine lv_bipush (v := 9) hx hb dX11_plate_32 (by decide) ?_
        refine m_aI hW (m_runS (As := [.int w, .int 1, .int 9]) (rest := []) hx hb hml hown hts hW (c_X11_within l D cy b LX μ w 1 9 1 9 (by decide) (by decide)) ms_X11_within k_X11_81 rfl hl.1 rfl (Nat.le_of_ble_eq_true rfl) dX11_plate_34 ⟨Nat.le_of_ble_eq_true rfl, Nat.le_of_ble_eq_true rfl⟩ ⟨Nat.le_of_ble_eq_true rfl, Nat.le_of_ble_eq_true rfl⟩) (fun x4 μ4 H locs q4 hW => ?_)
        obtain ⟨q4_m, q4⟩ := q4
        subst q4_m
        rcases q4 with ⟨rfl, q4⟩ | ⟨rfl, q4⟩
        · refine lv_if_ne (tgt := 42) hx hb dX11_plate_37 (by decide) (fun _ => ?_) (fun c => False.elim (by revert c; decide))
          refine lv_aload_n hx hb dX11_plate_42 rfl (lv_at hl 0 rfl) ?_
          refine m_getr hx hb hts hown hW (0) 4 (41) rfl rfl cw_11 rfl (by decide) k_X11_38 dX11_plate_43 ?_
          refine lv_iload_n hx hb dX11_plate_46 rfl (lv_at hl 1 rfl) ?_
          refine lv_iload_n hx hb dX11_plate_47 rfl (lv_at hl 2 rfl) ?_
          refine lv_iload_n hx hb dX11_plate_48 rfl (lv_at hl 3 rfl) ?_
          refine lv_iload hx hb dX11_plate_49 (lv_at hl 4 rfl) ?_
          refine m_aV hW (m_runV (As := [.int k, .int u, .int v, .int w]) (rest := []) hx hb hml hown hts hW (41) (c_X3_renew l D cy b μ k u v w) mi_X3_renew k_X11_85 rfl rfl rfl hl.1 rfl (Nat.le_of_ble_eq_true rfl) dX11_plate_51 ⟨Nat.le_of_ble_eq_true rfl, Nat.le_of_ble_eq_true rfl⟩ ⟨Nat.le_of_ble_eq_true rfl, Nat.le_of_ble_eq_true rfl⟩) (fun μ5 H locs q5 hW => ?_)
          refine lv_iconst (v := 1) hx hb dX11_plate_54 (by decide) ?_
          exact m_iret hx hb hr hlocks hW (by decide) ((if_pos (by omega)).symm) dX11_plate_55
        · refine lv_if_ne (tgt := 42) hx hb dX11_plate_37 (by decide) (fun c => False.elim (by revert c; decide)) (fun _ => ?_)
          refine lv_iconst (v := 0) hx hb dX11_plate_40 (by decide) ?_
          exact m_iret hx hb hr hlocks hW (by decide) ((if_neg (by omega)).symm) dX11_plate_41
      · refine lv_if_eq (tgt := 40) hx hb dX11_plate_26 (by decide) (fun _ => ?_) (fun c => False.elim (by revert c; decide))
        refine lv_iconst (v := 0) hx hb dX11_plate_40 (by decide) ?_
        exact m_iret hx hb hr hlocks hW (by decide) ((if_neg (by omega)).symm) dX11_plate_41
    · refine lv_if_eq (tgt := 40) hx hb dX11_plate_17 (by decide) (fun _ => ?_) (fun c => False.elim (by revert c; decide))
      refine lv_iconst (v := 0) hx hb dX11_plate_40 (by decide) ?_
      exact m_iret hx hb hr hlocks hW (by decide) ((if_neg (by omega)).symm) dX11_plate_41
  · refine lv_if_eq (tgt := 40) hx hb dX11_plate_7 (by decide) (fun _ => ?_) (fun c => False.elim (by revert c; decide))
    refine lv_iconst (v := 0) hx hb dX11_plate_40 (by decide) ?_
    exact m_iret hx hb hr hlocks hW (by decide) ((if_neg (by omega)).symm) dX11_plate_41
set_option maxHeartbeats 4000000 in
set_option maxRecDepth 100000 in
theorem L_mplate {p : Program} {l : Launch} {e : Env} {s : State} {m : MethodId} {args : Array Value} {below : List Frame} {meth : Method} {c : Code} {Q : State → Prop} {D : va_G} {cy : Nat → ClassId} {b : Nat} {A : Nat → Prop} (hx : p.tables.exec = Jvm.exec) (hb : c.code = cX12_plate) (hml : c.maxLocals = 6) (hown : s.vm.findClass RX12 = some m.cls) (hts : ∀ w ∈ TB, w.before args s = true) (K : ∀ (μ : mM) (H : Heap) (locs : List Loc), m_WA A D cy s b LAY μ H locs → ∀ ls : Array Slot, lv_has ls 6 [(0, .ref (b + 81))] → W p l e (m_R 1 0 0) s m args below meth c H locs 0 0 Q (F0 m 126 ls [])) : ∀ (f : Nat) (y5 : Int32) (h5 : 0 ≤ y5.toInt ∧ y5.toInt ≤ 192) (hf : 193 ≤ y5.toInt + f) (μ : mM) (H : Heap) (locs : List Loc), m_WA A D cy s b LAY μ H locs → ∀ ls : Array Slot, lv_has ls 6 [(0, .ref (b + 81)), (5, .int y5)] → W p l e (m_R 1 0 0) s m args below meth c H locs 0 0 Q (F0 m 80 ls []) := by
  intro f
  induction f with
  | zero => intro y5 h5 hf; exfalso; omega
  | succ f ih =>
    intro y5 h5 hf μ  H locs hW ls hl
    refine lv_iload hx hb dX12_plate_80 (lv_at hl 1 rfl) ?_
    refine lv_sipush (v := 192) hx hb dX12_plate_82 (by decide) ?_
    refine lv_icmp_ge (tgt := 126) hx hb dX12_plate_85 (by decide) (fun c1 => ?_) (fun c1 => ?_)
    · exact K μ  _ _  hW ls (lv_sub hl [0] rfl)
    · have c1 : y5.toInt < 192 := m_nle (by decide) c1
      refine lv_aload_n hx hb dX12_plate_88 rfl (lv_at hl 0 rfl) ?_
      refine m_getr hx hb hts hown hW (81) 13 (86) rfl rfl cw_12 rfl (by decide) k_X12_33 dX12_plate_89 ?_
      refine lv_iload hx hb dX12_plate_92 (lv_at hl 1 rfl) ?_
      refine lv_iconst (v := 0) hx hb dX12_plate_94 (by decide) ?_
      refine m_iast hx hb hW (86) rfl (m_ixI rfl (by omega) (by omega)) dX12_plate_95 (fun H locs hW _ => ?_)
      generalize hμ2 : m_si μ (86) (y5 : Int32).toNatClampNeg 0 = μ2 at hW
      refine lv_aload_n hx hb dX12_plate_96 rfl (lv_at hl 0 rfl) ?_
      refine m_getr hx hb hts hown hW (81) 15 (88) rfl rfl cw_12 rfl (by decide) k_X12_39 dX12_plate_97 ?_
      refine lv_iload hx hb dX12_plate_100 (lv_at hl 1 rfl) ?_
      refine lv_iconst (v := 0) hx hb dX12_plate_102 (by decide) ?_
      refine m_iast hx hb hW (88) rfl (m_ixI rfl (by omega) (by omega)) dX12_plate_103 (fun H locs hW _ => ?_)
      generalize hμ3 : m_si μ2 (88) (y5 : Int32).toNatClampNeg 0 = μ3 at hW
      refine lv_aload_n hx hb dX12_plate_104 rfl (lv_at hl 0 rfl) ?_
      refine m_getr hx hb hts hown hW (81) 16 (89) rfl rfl cw_12 rfl (by decide) k_X12_42 dX12_plate_105 ?_
      refine lv_iload hx hb dX12_plate_108 (lv_at hl 1 rfl) ?_
      refine lv_iconst (v := 0) hx hb dX12_plate_110 (by decide) ?_
      refine m_zast hx hb hW (89) rfl (m_ixI rfl (by omega) (by omega)) (by decide) dX12_plate_111 (fun H locs hW _ => ?_)
      generalize hμ4 : m_si μ3 (89) (y5 : Int32).toNatClampNeg 0 = μ4 at hW
      refine lv_aload_n hx hb dX12_plate_112 rfl (lv_at hl 0 rfl) ?_
      refine m_getr hx hb hts hown hW (81) 17 (90) rfl rfl cw_12 rfl (by decide) k_X12_46 dX12_plate_113 ?_
      refine lv_iload hx hb dX12_plate_116 (lv_at hl 1 rfl) ?_
      refine lv_iconst (v := 0) hx hb dX12_plate_118 (by decide) ?_
      refine m_zast hx hb hW (90) rfl (m_ixI rfl (by omega) (by omega)) (by decide) dX12_plate_119 (fun H locs hW _ => ?_)
      generalize hμ5 : m_si μ4 (90) (y5 : Int32).toNatClampNeg 0 = μ5 at hW
      obtain ⟨x6, ex6⟩ : ∃ z : Int32, z = y5 + 1 := ⟨_, rfl⟩
      refine lv_iinc (v := x6) (lv' := [(5, .int x6), (0, .ref (b + 81))]) hx hb dX12_plate_120 hl (k := 1) rfl (by rw [ex6]; rfl) (by decide) rfl (fun ls hl => ?_)
      refine lv_goto (tgt := 80) hx hb dX12_plate_123 (by decide) ?_
      exact ih x6 (by have := m_addI ex6 rfl (Y := 1) (by decide) (by omega) (by omega); omega) (by have := m_addI ex6 rfl (Y := 1) (by decide) (by omega) (by omega); omega) μ5  _ _ hW ls (lv_sub hl [1, 0] rfl)
set_option maxHeartbeats 4000000 in
set_option maxRecDepth 100000 in
theorem c_X12_plate (l : Launch) (D : va_G) (cy : Nat → ClassId) (b : Nat) (μ : mM) (k u v w : Int32) : m_Ci l yX12_plate cX12_plate 6 ((some .boolean)) 1 D cy b LAY μ [.ref (b + 81), .int k, .int u, .int v, .int w] (fun r ν => r = Fplate k u v w) := by
  unfold m_Ci
  refine m_of (by decide) (Nat.le_of_ble_eq_true rfl) ?_
  intro p e s m below meth c hx hb hr hml hown hts hlocks _ hW ls hl
  have hown : s.vm.findClass RX12 = some m.cls := hown
  have hl : lv_has ls 6 [(0, .ref (b + 81)), (1, .int k), (2, .int u), (3, .int v), (4, .int w)] := hl
  refine lv_aload_n hx hb dX12_plate_0 rfl (lv_at hl 0 rfl) ?_
  refine lv_iconst (v := 0) hx hb dX12_plate_1 (by decide) ?_
  refine m_puti hx hb hts hown hW (81) 0 rfl rfl cw_12 tyX12_ok nmX12 rfl (by decide) k_X12_167 rfl rfl rfl dX12_plate_2 (fun H locs hW _ => ?_)
  generalize hμ1 : m_si μ (81) 0 0 = μ1 at hW
  refine lv_aload_n hx hb dX12_plate_5 rfl (lv_at hl 0 rfl) ?_
  refine lv_iload_n hx hb dX12_plate_6 rfl (lv_at hl 1 rfl) ?_
  refine lv_iconst (v := 1) hx hb dX12_plate_7 (by decide) ?_
  refine lv_bipush (v := 16) hx hb dX12_plate_8 (by decide) ?_
  refine m_aI hW (m_runV (As := [.int k, .int 1, .int 16]) (rest := []) hx hb hml hown hts hW (81) (c_X12_isIn l D cy b μ1 81 k 1 16 1 16 (by decide) (by decide)) mi_X12_isIn k_X12_170 rfl rfl rfl hl.1 rfl (Nat.le_of_ble_eq_true rfl) dX12_plate_10 ⟨Nat.le_of_ble_eq_true rfl, Nat.le_of_ble_eq_true rfl⟩ ⟨Nat.le_of_ble_eq_true rfl, Nat.le_of_ble_eq_true rfl⟩) (fun x2 μ2 H locs q2 hW => ?_)
  obtain ⟨q2_m, q2⟩ := q2
  subst q2_m
  rcases q2 with ⟨rfl, q2⟩ | ⟨rfl, q2⟩
  · refine lv_if_eq (tgt := 49) hx hb dX12_plate_13 (by decide) (fun c => False.elim (by revert c; decide)) (fun _ => ?_)
    refine lv_aload_n hx hb dX12_plate_16 rfl (lv_at hl 0 rfl) ?_
    refine lv_iload_n hx hb dX12_plate_17 rfl (lv_at hl 2 rfl) ?_
    refine lv_iconst (v := 1) hx hb dX12_plate_18 (by decide) ?_
    refine lv_bipush (v := 12) hx hb dX12_plate_19 (by decide) ?_
    refine m_aI hW (m_runV (As := [.int u, .int 1, .int 12]) (rest := []) hx hb hml hown hts hW (81) (c_X12_isIn l D cy b μ1 81 u 1 12 1 12 (by decide) (by decide)) mi_X12_isIn k_X12_170 rfl rfl rfl hl.1 rfl (Nat.le_of_ble_eq_true rfl) dX12_plate_21 ⟨Nat.le_of_ble_eq_true rfl, Nat.le_of_ble_eq_true rfl⟩ ⟨Nat.le_of_ble_eq_true rfl, Nat.le_of_ble_eq_true rfl⟩) (fun x3 μ3 H locs q3 hW => ?_)
    obtain ⟨q3_m, q3⟩ := q3
    subst q3_m
    rcases q3 with ⟨rfl, q3⟩ | ⟨rfl, q3⟩
    · refine lv_if_eq (tgt := 49) hx hb dX12_plate_24 (by decide) (fun c => False.elim (by revert c; decide)) (fun _ => ?_)
      refine lv_aload_n hx hb dX12_plate_27 rfl (lv_at hl 0 rfl) ?_
      refine lv_iload_n hx hb dX12_plate_28 rfl (lv_at hl 3 rfl) ?_
      refine lv_iconst (v := 0) hx hb dX12_plate_29 (by decide) ?_
      refine lv_iconst (v := 3) hx hb dX12_plate_30 (by decide) ?_
      refine m_aI hW (m_runV (As := [.int v, .int 0, .int 3]) (rest := []) hx hb hml hown hts hW (81) (c_X12_isIn l D cy b μ1 81 v 0 3 0 3 (by decide) (by decide)) mi_X12_isIn k_X12_170 rfl rfl rfl hl.1 rfl (Nat.le_of_ble_eq_true rfl) dX12_plate_31 ⟨Nat.le_of_ble_eq_true rfl, Nat.le_of_ble_eq_true rfl⟩ ⟨Nat.le_of_ble_eq_true rfl, Nat.le_of_ble_eq_true rfl⟩) (fun x4 μ4 H locs q4 hW => ?_)
      obtain ⟨q4_m, q4⟩ := q4
      subst q4_m
      rcases q4 with ⟨rfl, q4⟩ | ⟨rfl, q4⟩
      · refine lv_if_eq (tgt := 49) hx hb dX12_plate_34 (by decide) (fun c => False.elim (by revert c; decide)) (fun _ => ?_)
        refine lv_aload_n hx hb dX12_plate_37 rfl (lv_at hl 0 rfl) ?_
        refine lv_iload hx hb dX12_plate_38 (lv_at hl 4 rfl) ?_
        refine lv_iconst (v := 1) hx hb dX12_plate_40 (by decide) ?_
        refine lv_bipush (v := 9) hx hb dX12_plate_41 (by decide) ?_
        refine m_aI hW (m_runV (As := [.int w, .int 1, .int 9]) (rest := []) hx hb hml hown hts hW (81) (c_X12_isIn l D cy b μ1 81 w 1 9 1 9 (by decide) (by decide)) mi_X12_isIn k_X12_170 rfl rfl rfl hl.1 rfl (Nat.le_of_ble_eq_true rfl) dX12_plate_43 ⟨Nat.le_of_ble_eq_true rfl, Nat.le_of_ble_eq_true rfl⟩ ⟨Nat.le_of_ble_eq_true rfl, Nat.le_of_ble_eq_true rfl⟩) (fun x5 μ5 H locs q5 hW => ?_)
        obtain ⟨q5_m, q5⟩ := q5
        subst q5_m
        rcases q5 with ⟨rfl, q5⟩ | ⟨rfl, q5⟩
        · refine lv_if_ne (tgt := 51) hx hb dX12_plate_46 (by decide) (fun _ => ?_) (fun c => False.elim (by revert c; decide))
          refine lv_aload_n hx hb dX12_plate_51 rfl (lv_at hl 0 rfl) ?_
          refine lv_iconst (v := 1) hx hb dX12_plate_52 (by decide) ?_
          refine m_puti hx hb hts hown hW (81) 5 rfl rfl cw_12 tyX12_ok nmX12 rfl (by decide) k_X12_174 rfl (by decide) rfl dX12_plate_53 (fun H locs hW _ => ?_)
          generalize hμ6 : m_si μ1 (81) 5 1 = μ6 at hW
          refine lv_aload_n hx hb dX12_plate_56 rfl (lv_at hl 0 rfl) ?_
          refine lv_iload_n hx hb dX12_plate_57 rfl (lv_at hl 1 rfl) ?_
          refine m_puti hx hb hts hown hW (81) 6 rfl rfl cw_12 tyX12_ok nmX12 rfl (by decide) k_X12_177 rfl rfl rfl dX12_plate_58 (fun H locs hW _ => ?_)
          generalize hμ7 : m_si μ6 (81) 6 k = μ7 at hW
          refine lv_aload_n hx hb dX12_plate_61 rfl (lv_at hl 0 rfl) ?_
          refine lv_iload_n hx hb dX12_plate_62 rfl (lv_at hl 2 rfl) ?_
          refine m_puti hx hb hts hown hW (81) 7 rfl rfl cw_12 tyX12_ok nmX12 rfl (by decide) k_X12_180 rfl rfl rfl dX12_plate_63 (fun H locs hW _ => ?_)
          generalize hμ8 : m_si μ7 (81) 7 u = μ8 at hW
          refine lv_aload_n hx hb dX12_plate_66 rfl (lv_at hl 0 rfl) ?_
          refine lv_iload_n hx hb dX12_plate_67 rfl (lv_at hl 3 rfl) ?_
          refine m_puti hx hb hts hown hW (81) 8 rfl rfl cw_12 tyX12_ok nmX12 rfl (by decide) k_X12_183 rfl rfl rfl dX12_plate_68 (fun H locs hW _ => ?_)
          generalize hμ9 : m_si μ8 (81) 8 v = μ9 at hW
          refine lv_aload_n hx hb dX12_plate_71 rfl (lv_at hl 0 rfl) ?_
          refine lv_iload hx hb dX12_plate_72 (lv_at hl 4 rfl) ?_
          refine m_puti hx hb hts hown hW (81) 9 rfl rfl cw_12 tyX12_ok nmX12 rfl (by decide) k_X12_186 rfl rfl rfl dX12_plate_74 (fun H locs hW _ => ?_)
          generalize hμ10 : m_si μ9 (81) 9 w = μ10 at hW
          refine lv_iconst (v := 0) hx hb dX12_plate_77 (by decide) ?_
          refine lv_istore (lv' := [(5, .int 0), (0, .ref (b + 81)), (1, .int k), (2, .int u), (3, .int v), (4, .int w)]) hx hb dX12_plate_78 hl (by decide) rfl (fun ls hl => ?_)
          refine L_mplate hx hb hml hown hts  (fun μ11  H locs  hW ls hl => ?_) _ 0 (by decide) (by decide : (193 : Int) ≤ (0 : Int32).toInt + (193 : Nat)) μ10  _ _ hW ls (lv_sub hl [1, 0] rfl)
          refine lv_aload_n hx hb dX12_plate_126 rfl (lv_at hl 0 rfl) ?_
          refine m_getr hx hb hts hown hW (81) 18 (91) rfl rfl cw_12 rfl (by decide) k_X12_49 dX12_plate_127 ?_
          refine lv_iconst (v := 0) hx hb dX12_plate_130 (by decide) ?_
          refine lv_iconst (v := 0) hx hb dX12_plate_131 (by decide) ?_
          refine m_iast hx hb hW (91) rfl (vp_in_iff.mpr ⟨by decide, by decide⟩) dX12_plate_132 (fun H locs hW _ => ?_)
          generalize hμ12 : m_si μ11 (91) (0 : Int32).toNatClampNeg 0 = μ12 at hW
          refine lv_aload_n hx hb dX12_plate_133 rfl (lv_at hl 0 rfl) ?_
          refine m_getr hx hb hts hown hW (81) 19 (92) rfl rfl cw_12 rfl (by decide) k_X12_52 dX12_plate_134 ?_
          refine lv_iconst (v := 0) hx hb dX12_plate_137 (by decide) ?_
          refine lv_iconst (v := 0) hx hb dX12_plate_138 (by decide) ?_
          refine m_iast hx hb hW (92) rfl (vp_in_iff.mpr ⟨by decide, by decide⟩) dX12_plate_139 (fun H locs hW _ => ?_)
          generalize hμ13 : m_si μ12 (92) (0 : Int32).toNatClampNeg 0 = μ13 at hW
          refine lv_aload_n hx hb dX12_plate_140 rfl (lv_at hl 0 rfl) ?_
          refine m_getr hx hb hts hown hW (81) 20 (93) rfl rfl cw_12 rfl (by decide) k_X12_55 dX12_plate_141 ?_
          refine lv_iconst (v := 0) hx hb dX12_plate_144 (by decide) ?_
          refine lv_iconst (v := 0) hx hb dX12_plate_145 (by decide) ?_
          refine m_zast hx hb hW (93) rfl (vp_in_iff.mpr ⟨by decide, by decide⟩) (by decide) dX12_plate_146 (fun H locs hW _ => ?_)
          generalize hμ14 : m_si μ13 (93) (0 : Int32).toNatClampNeg 0 = μ14 at hW
          refine lv_aload_n hx hb dX12_plate_147 rfl (lv_at hl 0 rfl) ?_
          refine m_getr hx hb hts hown hW (81) 21 (94) rfl rfl cw_12 rfl (by decide) k_X12_58 dX12_plate_148 ?_
          refine lv_iconst (v := 0) hx hb dX12_plate_151 (by decide) ?_
          refine lv_iconst (v := 5) hx hb dX12_plate_152 (by decide) ?_
          refine m_iast hx hb hW (94) rfl (vp_in_iff.mpr ⟨by decide, by decide⟩) dX12_plate_153 (fun H locs hW _ => ?_)
          generalize hμ15 : m_si μ14 (94) (0 : Int32).toNatClampNeg 5 = μ15 at hW
          refine lv_aload_n hx hb dX12_plate_154 rfl (lv_at hl 0 rfl) ?_
          refine m_getr hx hb hts hown hW (81) 22 (95) rfl rfl cw_12 rfl (by decide) k_X12_61 dX12_plate_155 ?_
          refine lv_iconst (v := 0) hx hb dX12_plate_158 (by decide) ?_
          refine lv_iconst (v := 0) hx hb dX12_plate_159 (by decide) ?_
          refine m_iast hx hb hW (95) rfl (vp_in_iff.mpr ⟨by decide, by decide⟩) dX12_plate_160 (fun H locs hW _ => ?_)
          generalize hμ16 : m_si μ15 (95) (0 : Int32).toNatClampNeg 0 = μ16 at hW
          refine lv_aload_n hx hb dX12_plate_161 rfl (lv_at hl 0 rfl) ?_
          refine m_getr hx hb hts hown hW (81) 23 (96) rfl rfl cw_12 rfl (by decide) k_X12_64 dX12_plate_162 ?_
          refine lv_iconst (v := 0) hx hb dX12_plate_165 (by decide) ?_
          refine lv_iconst (v := 0) hx hb dX12_plate_166 (by decide) ?_
          refine m_iast hx hb hW (96) rfl (vp_in_iff.mpr ⟨by decide, by decide⟩) dX12_plate_167 (fun H locs hW _ => ?_)
          generalize hμ17 : m_si μ16 (96) (0 : Int32).toNatClampNeg 0 = μ17 at hW
          refine lv_aload_n hx hb dX12_plate_168 rfl (lv_at hl 0 rfl) ?_
          refine m_getr hx hb hts hown hW (81) 24 (97) rfl rfl cw_12 rfl (by decide) k_X12_67 dX12_plate_169 ?_
          refine lv_iconst (v := 0) hx hb dX12_plate_172 (by decide) ?_
          refine lv_iconst (v := 0) hx hb dX12_plate_173 (by decide) ?_
          refine m_iast hx hb hW (97) rfl (vp_in_iff.mpr ⟨by decide, by decide⟩) dX12_plate_174 (fun H locs hW _ => ?_)
          generalize hμ18 : m_si μ17 (97) (0 : Int32).toNatClampNeg 0 = μ18 at hW
          refine lv_aload_n hx hb dX12_plate_175 rfl (lv_at hl 0 rfl) ?_
          refine m_getr hx hb hts hown hW (81) 25 (98) rfl rfl cw_12 rfl (by decide) k_X12_70 dX12_plate_176 ?_
          refine lv_iconst (v := 0) hx hb dX12_plate_179 (by decide) ?_
          refine lv_lconst (v := 0) hx hb dX12_plate_180 (by decide) ?_
          refine m_last hx hb hW (98) rfl (vp_in_iff.mpr ⟨by decide, by decide⟩) dX12_plate_181 (fun H locs hW _ => ?_)
          generalize hμ19 : m_sl μ18 (98) (0 : Int32).toNatClampNeg 0 = μ19 at hW
          refine lv_aload_n hx hb dX12_plate_182 rfl (lv_at hl 0 rfl) ?_
          refine m_getr hx hb hts hown hW (81) 26 (99) rfl rfl cw_12 rfl (by decide) k_X12_74 dX12_plate_183 ?_
          refine lv_iconst (v := 0) hx hb dX12_plate_186 (by decide) ?_
          refine lv_lconst (v := 0) hx hb dX12_plate_187 (by decide) ?_
          refine m_last hx hb hW (99) rfl (vp_in_iff.mpr ⟨by decide, by decide⟩) dX12_plate_188 (fun H locs hW _ => ?_)
          generalize hμ20 : m_sl μ19 (99) (0 : Int32).toNatClampNeg 0 = μ20 at hW
          refine lv_aload_n hx hb dX12_plate_189 rfl (lv_at hl 0 rfl) ?_
          refine m_getr hx hb hts hown hW (81) 27 (100) rfl rfl cw_12 rfl (by decide) k_X12_77 dX12_plate_190 ?_
          refine lv_iconst (v := 0) hx hb dX12_plate_193 (by decide) ?_
          refine lv_lconst (v := 0) hx hb dX12_plate_194 (by decide) ?_
          refine m_last hx hb hW (100) rfl (vp_in_iff.mpr ⟨by decide, by decide⟩) dX12_plate_195 (fun H locs hW _ => ?_)
          generalize hμ21 : m_sl μ20 (100) (0 : Int32).toNatClampNeg 0 = μ21 at hW
          refine lv_iconst (v := 1) hx hb dX12_plate_196 (by decide) ?_
          exact m_iret hx hb hr hlocks hW (by decide) ((if_pos (by omega)).symm) dX12_plate_197
        · refine lv_if_ne (tgt := 51) hx hb dX12_plate_46 (by decide) (fun c => False.elim (by revert c; decide)) (fun _ => ?_)
          refine lv_iconst (v := 0) hx hb dX12_plate_49 (by decide) ?_
          exact m_iret hx hb hr hlocks hW (by decide) ((if_neg (by omega)).symm) dX12_plate_50
      · refine lv_if_eq (tgt := 49) hx hb dX12_plate_34 (by decide) (fun _ => ?_) (fun c => False.elim (by revert c; decide))
        refine lv_iconst (v := 0) hx hb dX12_plate_49 (by decide) ?_
        exact m_iret hx hb hr hlocks hW (by decide) ((if_neg (by omega)).symm) dX12_plate_50
    · refine lv_if_eq (tgt := 49) hx hb dX12_plate_24 (by decide) (fun _ => ?_) (fun c => False.elim (by revert c; decide))
      refine lv_iconst (v := 0) hx hb dX12_plate_49 (by decide) ?_
      exact m_iret hx hb hr hlocks hW (by decide) ((if_neg (by omega)).symm) dX12_plate_50
  · refine lv_if_eq (tgt := 49) hx hb dX12_plate_13 (by decide) (fun _ => ?_) (fun c => False.elim (by revert c; decide))
    refine lv_iconst (v := 0) hx hb dX12_plate_49 (by decide) ?_
    exact m_iret hx hb hr hlocks hW (by decide) ((if_neg (by omega)).symm) dX12_plate_50
