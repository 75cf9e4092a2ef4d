theorem m_rng1 {v a c : Int32} {A C : Int} (ha : a.toInt = A) (hc : c.toInt = C) (h1 : ¬ v < a) (h2 : ¬ c < v) : A ≤ v.toInt ∧ v.toInt ≤ C := by
  rw [Int32.lt_iff_toInt_lt] at h1 h2
  omega
theorem m_rng0 {v a c : Int32} {A C : Int} (ha : a.toInt = A) (hc : c.toInt = C) (h : v < a ∨ c < v) : v.toInt < A ∨ C < v.toInt := by
  rw [Int32.lt_iff_toInt_lt, Int32.lt_iff_toInt_lt] at h
  omega
theorem m_nb {v : Int32} (h : v = 0 ∨ v = 1) : narrow .boolean (.int v) = .int v := by
  rcases h with rfl | rfl <;> decide
theorem m_nbf {v : Int32} (h : v = 0 ∨ v = 1) : fits .boolean (.int v) = true := by
  rcases h with rfl | rfl <;> decide
theorem m_ix {v : Int32} {A C : Int} {n : Nat} (h : A ≤ v.toInt ∧ v.toInt ≤ C) (h0 : 0 ≤ A) (hn : C < n) : vp_in v n := vp_in_iff.mpr ⟨by omega, by omega⟩
theorem m_01 {p : Prop} [Decidable p] : (if p then (1 : Int32) else 0) = 0 ∨ (if p then (1 : Int32) else 0) = 1 := by
  by_cases h : p
  · rw [if_pos h]; exact Or.inr rfl
  · rw [if_neg h]; exact Or.inl rfl
def Fstuff (k u v w z : Int32) : Int32 := if 0 ≤ k.toInt ∧ k.toInt ≤ 3 ∧ 1 ≤ u.toInt ∧ u.toInt ≤ 999 ∧ 0 ≤ v.toInt ∧ v.toInt ≤ 20 ∧ 0 ≤ w.toInt ∧ w.toInt ≤ 20 ∧ 1 ≤ z.toInt ∧ z.toInt ≤ 9999 then 1 else 0
def Fplate (k u v w : Int32) : Int32 := if 1 ≤ k.toInt ∧ k.toInt ≤ 16 ∧ 1 ≤ u.toInt ∧ u.toInt ≤ 12 ∧ 0 ≤ v.toInt ∧ v.toInt ≤ 3 ∧ 1 ≤ w.toInt ∧ w.toInt ≤ 9 then 1 else 0
def Fbeam (k : Int32) : Int32 := if 0 ≤ k.toInt ∧ k.toInt ≤ 9999 then 1 else 0
def Fpitch (k : Int32) : Int32 := if 2 ≤ k.toInt ∧ k.toInt ≤ 9 then 1 else 0
set_option maxHeartbeats 4000000 in
set_option maxRecDepth 100000 in
theorem c_X11_within (l : Launch) (D : va_G) (cy : Nat → ClassId) (b : Nat) (lay : List mL) (μ : mM) (v a u : Int32) (A C : Int) (ha : a.toInt = A) (hc : u.toInt = C) : m_Ci l yX11_within cX11_within 3 ((some .boolean)) 0 D cy b lay μ [.int v, .int a, .int u] (fun r ν => μ = ν ∧ ((r = 1 ∧ A ≤ v.toInt ∧ v.toInt ≤ C) ∨ (r = 0 ∧ (v.toInt < A ∨ C < v.toInt)))) := by
  unfold m_Ci
  refine m_of (by decide) (Nat.le_of_ble_eq_true rfl) ?_
  intro p e s m below meth c hx hb hr hml hown hts hlocks _ hW ls hl
  have hown : s.vm.findClass RX11 = some m.cls := hown
  have hl : lv_has ls 3 [(0, .int v), (1, .int a), (2, .int u)] := hl
  refine lv_iload_n hx hb dX11_within_0 rfl (lv_at hl 0 rfl) ?_
  refine lv_iload_n hx hb dX11_within_1 rfl (lv_at hl 1 rfl) ?_
  refine lv_icmp_lt (tgt := 14) hx hb dX11_within_2 (by decide) (fun c1 => ?_) (fun c1 => ?_)
  · refine lv_iconst (v := 0) hx hb dX11_within_14 (by decide) ?_
    exact m_iret hx hb hr hlocks hW (by decide) (⟨rfl, Or.inr ⟨rfl, m_rng0 ha hc (by first | exact Or.inl ‹_› | exact Or.inr ‹_›)⟩⟩) dX11_within_15
  · refine lv_iload_n hx hb dX11_within_5 rfl (lv_at hl 0 rfl) ?_
    refine lv_iload_n hx hb dX11_within_6 rfl (lv_at hl 2 rfl) ?_
    refine lv_icmp_gt (tgt := 14) hx hb dX11_within_7 (by decide) (fun c2 => ?_) (fun c2 => ?_)
    · refine lv_iconst (v := 0) hx hb dX11_within_14 (by decide) ?_
      exact m_iret hx hb hr hlocks hW (by decide) (⟨rfl, Or.inr ⟨rfl, m_rng0 ha hc (by first | exact Or.inl ‹_› | exact Or.inr ‹_›)⟩⟩) dX11_within_15
    · refine lv_iconst (v := 1) hx hb dX11_within_10 (by decide) ?_
      refine lv_goto (tgt := 15) hx hb dX11_within_11 (by decide) ?_
      exact m_iret hx hb hr hlocks hW (by decide) (⟨rfl, Or.inl ⟨rfl, m_rng1 ha hc ‹_› ‹_›⟩⟩) dX11_within_15
set_option maxHeartbeats 4000000 in
set_option maxRecDepth 100000 in
theorem c_X12_isIn (l : Launch) (D : va_G) (cy : Nat → ClassId) (b : Nat) (μ : mM) (k : Nat) (v a u : Int32) (A C : Int) (ha : a.toInt = A) (hc : u.toInt = C) : m_Ci l yX12_isIn cX12_isIn 4 ((some .boolean)) 0 D cy b LAY μ [.ref (b + k), .int v, .int a, .int u] (fun r ν => μ = ν ∧ ((r = 1 ∧ A ≤ v.toInt ∧ v.toInt ≤ C) ∨ (r = 0 ∧ (v.toInt < A ∨ C < v.toInt)))) := by
  unfold m_Ci
  refine m_of (by decide) (Nat.le_of_ble_eq_true rfl) ?_
  intro p e s m below meth c hx hb hr hml hown hts hlocks _ hW ls hl
  have hown : s.vm.findClass RX12 = some m.cls := hown
  have hl : lv_has ls 4 [(0, .ref (b + k)), (1, .int v), (2, .int a), (3, .int u)] := hl
  refine lv_iload_n hx hb dX12_isIn_0 rfl (lv_at hl 1 rfl) ?_
  refine lv_iload_n hx hb dX12_isIn_1 rfl (lv_at hl 2 rfl) ?_
  refine lv_icmp_lt (tgt := 14) hx hb dX12_isIn_2 (by decide) (fun c1 => ?_) (fun c1 => ?_)
  · refine lv_iconst (v := 0) hx hb dX12_isIn_14 (by decide) ?_
    exact m_iret hx hb hr hlocks hW (by decide) (⟨rfl, Or.inr ⟨rfl, m_rng0 ha hc (by first | exact Or.inl ‹_› | exact Or.inr ‹_›)⟩⟩) dX12_isIn_15
  · refine lv_iload_n hx hb dX12_isIn_5 rfl (lv_at hl 1 rfl) ?_
    refine lv_iload_n hx hb dX12_isIn_6 rfl (lv_at hl 3 rfl) ?_
    refine lv_icmp_gt (tgt := 14) hx hb dX12_isIn_7 (by decide) (fun c2 => ?_) (fun c2 => ?_)
    · refine lv_iconst (v := 0) hx hb dX12_isIn_14 (by decide) ?_
      exact m_iret hx hb hr hlocks hW (by decide) (⟨rfl, Or.inr ⟨rfl, m_rng0 ha hc (by first | exact Or.inl ‹_› | exact Or.inr ‹_›)⟩⟩) dX12_isIn_15
    · refine lv_iconst (v := 1) hx hb dX12_isIn_10 (by decide) ?_
      refine lv_goto (tgt := 15) hx hb dX12_isIn_11 (by decide) ?_
      exact m_iret hx hb hr hlocks hW (by decide) (⟨rfl, Or.inl ⟨rfl, m_rng1 ha hc ‹_› ‹_›⟩⟩) dX12_isIn_15
set_option maxHeartbeats 4000000 in
set_option maxRecDepth 100000 in
theorem c_X10_setStuff (l : Launch) (D : va_G) (cy : Nat → ClassId) (b : Nat) (μ : mM) (k u v w z : Int32) : m_Ci l yX10_setStuff cX10_setStuff 6 ((some .boolean)) 1 D cy b LX μ [.ref (b + 1), .int k, .int u, .int v, .int w, .int z] (fun r ν => r = Fstuff k u v w z) := by
  unfold m_Ci
  refine m_of (by decide) (Nat.le_of_ble_eq_true rfl) ?_
  intro p e s m below meth c hx hb hr hml hown hts hlocks _ hW ls hl
  have hown : s.vm.findClass RX10 = some m.cls := hown
  have hl : lv_has ls 6 [(0, .ref (b + 1)), (1, .int k), (2, .int u), (3, .int v), (4, .int w), (5, .int z)] := hl
  refine lv_iload_n hx hb dX10_setStuff_0 rfl (lv_at hl 1 rfl) ?_
  refine lv_iconst (v := 0) hx hb dX10_setStuff_1 (by decide) ?_
  refine lv_iconst (v := 3) hx hb dX10_setStuff_2 (by decide) ?_
  refine m_aI hW (m_runSN (As := [.int k, .int 0, .int 3]) (rest := []) hx hb hml hown hts hW (c_X11_within l D cy b LX μ k 0 3 0 3 (by decide) (by decide)) ms_X11_within n_X10_46 rfl hl.1 rfl (Nat.le_of_ble_eq_true rfl) dX10_setStuff_3 ⟨Nat.le_of_ble_eq_true rfl, Nat.le_of_ble_eq_true rfl⟩ ⟨Nat.le_of_ble_eq_true rfl, Nat.le_of_ble_eq_true rfl⟩) (fun x1 μ1 H locs q1 hW => ?_)
  obtain ⟨q1_m, q1⟩ := q1
  subst q1_m
  rcases q1 with ⟨rfl, q1⟩ | ⟨rfl, q1⟩
  · refine lv_if_eq (tgt := 53) hx hb dX10_setStuff_6 (by decide) (fun c => False.elim (by revert c; decide)) (fun _ => ?_)
    refine lv_iload_n hx hb dX10_setStuff_9 rfl (lv_at hl 2 rfl) ?_
    refine lv_iconst (v := 1) hx hb dX10_setStuff_10 (by decide) ?_
    refine lv_sipush (v := 999) hx hb dX10_setStuff_11 (by decide) ?_
    refine m_aI hW (m_runSN (As := [.int u, .int 1, .int 999]) (rest := []) hx hb hml hown hts hW (c_X11_within l D cy b LX μ u 1 999 1 999 (by decide) (by decide)) ms_X11_within n_X10_46 rfl hl.1 rfl (Nat.le_of_ble_eq_true rfl) dX10_setStuff_14 ⟨Nat.le_of_ble_eq_true rfl, Nat.le_of_ble_eq_true rfl⟩ ⟨Nat.le_of_ble_eq_true rfl, Nat.le_of_ble_eq_true rfl⟩) (fun x2 μ2 H locs q2 hW => ?_)
    obtain ⟨q2_m, q2⟩ := q2
    subst q2_m
    rcases q2 with ⟨rfl, q2⟩ | ⟨rfl, q2⟩
    · refine lv_if_eq (tgt := 53) hx hb dX10_setStuff_17 (by decide) (fun c => False.elim (by revert c; decide)) (fun _ => ?_)
      refine lv_iload_n hx hb dX10_setStuff_20 rfl (lv_at hl 3 rfl) ?_
      refine lv_iconst (v := 0) hx hb dX10_setStuff_21 (by decide) ?_
      refine lv_bipush (v := 20) hx hb dX10_setStuff_22 (by decide) ?_
      refine m_aI hW (m_runSN (As := [.int v, .int 0, .int 20]) (rest := []) hx hb hml hown hts hW (c_X11_within l D cy b LX μ v 0 20 0 20 (by decide) (by decide)) ms_X11_within n_X10_46 rfl hl.1 rfl (Nat.le_of_ble_eq_true rfl) dX10_setStuff_24 ⟨Nat.le_of_ble_eq_true rfl, Nat.le_of_ble_eq_true rfl⟩ ⟨Nat.le_of_ble_eq_true rfl, Nat.le_of_ble_eq_true rfl⟩) (fun x3 μ3 H locs q3 hW => ?_)
      obtain ⟨q3_m, q3⟩ := q3
      subst q3_m
      rcases q3 with ⟨rfl, q3⟩ | ⟨rfl, q3⟩
      · refine lv_if_eq (tgt := 53) hx hb dX10_setStuff_27 (by decide) (fun c => False.elim (by revert c; decide)) (fun _ => ?_)
        refine lv_iload hx hb dX10_setStuff_30 (lv_at hl 4 rfl) ?_
        refine lv_iconst (v := 0) hx hb dX10_setStuff_32 (by decide) ?_
        refine lv_bipush (v := 20) hx hb dX10_setStuff_33 (by decide) ?_
        refine m_aI hW (m_runSN (As := [.int w, .int 0, .int 20]) (rest := []) hx hb hml hown hts hW (c_X11_within l D cy b LX μ w 0 20 0 20 (by decide) (by decide)) ms_X11_within n_X10_46 rfl hl.1 rfl (Nat.le_of_ble_eq_true rfl) dX10_setStuff_35 ⟨Nat.le_of_ble_eq_true rfl, Nat.le_of_ble_eq_true rfl⟩ ⟨Nat.le_of_ble_eq_true rfl, Nat.le_of_ble_eq_true rfl⟩) (fun x4 μ4 H locs q4 hW => ?_)
        obtain ⟨q4_m, q4⟩ := q4
        subst q4_m
        rcases q4 with ⟨rfl, q4⟩ | ⟨rfl, q4⟩
        · refine lv_if_eq (tgt := 53) hx hb dX10_setStuff_38 (by decide) (fun c => False.elim (by revert c; decide)) (fun _ => ?_)
          refine lv_iload hx hb dX10_setStuff_41 (lv_at hl 5 rfl) ?_
          refine lv_iconst (v := 1) hx hb dX10_setStuff_43 (by decide) ?_
          refine lv_sipush (v := 9999) hx hb dX10_setStuff_44 (by decide) ?_
          refine m_aI hW (m_runSN (As := [.int z, .int 1, .int 9999]) (rest := []) hx hb hml hown hts hW (c_X11_within l D cy b LX μ z 1 9999 1 9999 (by decide) (by decide)) ms_X11_within n_X10_46 rfl hl.1 rfl (Nat.le_of_ble_eq_true rfl) dX10_setStuff_47 ⟨Nat.le_of_ble_eq_true rfl, Nat.le_of_ble_eq_true rfl⟩ ⟨Nat.le_of_ble_eq_true rfl, Nat.le_of_ble_eq_true rfl⟩) (fun x5 μ5 H locs q5 hW => ?_)
          obtain ⟨q5_m, q5⟩ := q5
          subst q5_m
          rcases q5 with ⟨rfl, q5⟩ | ⟨rfl, q5⟩
          · refine lv_if_ne (tgt := 55) hx hb dX10_setStuff_50 (by decide) (fun _ => ?_) (fun c => False.elim (by revert c; decide))
            refine lv_aload_n hx hb dX10_setStuff_55 rfl (lv_at hl 0 rfl) ?_
            refine m_getr hx hb hts hown hW (1) 0 (2) rfl rfl cw_10 rfl (by decide) k_X10_9 dX10_setStuff_56 ?_
            refine lv_iload_n hx hb dX10_setStuff_59 rfl (lv_at hl 1 rfl) ?_
            refine lv_iload_n hx hb dX10_setStuff_60 rfl (lv_at hl 2 rfl) ?_
            refine m_iast hx hb hW (2) rfl (m_ix q1 (by decide) (by decide)) dX10_setStuff_61 (fun H locs hW _ => ?_)
            generalize hμ6 : m_si μ (2) (k : Int32).toNatClampNeg u = μ6 at hW
            refine lv_aload_n hx hb dX10_setStuff_62 rfl (lv_at hl 0 rfl) ?_
            refine m_getr hx hb hts hown hW (1) 1 (3) rfl rfl cw_10 rfl (by decide) k_X10_15 dX10_setStuff_63 ?_
            refine lv_iload_n hx hb dX10_setStuff_66 rfl (lv_at hl 1 rfl) ?_
            refine lv_iload_n hx hb dX10_setStuff_67 rfl (lv_at hl 3 rfl) ?_
            refine m_iast hx hb hW (3) rfl (m_ix q1 (by decide) (by decide)) dX10_setStuff_68 (fun H locs hW _ => ?_)
            generalize hμ7 : m_si μ6 (3) (k : Int32).toNatClampNeg v = μ7 at hW
            refine lv_aload_n hx hb dX10_setStuff_69 rfl (lv_at hl 0 rfl) ?_
            refine m_getr hx hb hts hown hW (1) 2 (4) rfl rfl cw_10 rfl (by decide) k_X10_18 dX10_setStuff_70 ?_
            refine lv_iload_n hx hb dX10_setStuff_73 rfl (lv_at hl 1 rfl) ?_
            refine lv_iload hx hb dX10_setStuff_74 (lv_at hl 4 rfl) ?_
            refine m_iast hx hb hW (4) rfl (m_ix q1 (by decide) (by decide)) dX10_setStuff_76 (fun H locs hW _ => ?_)
            generalize hμ8 : m_si μ7 (4) (k : Int32).toNatClampNeg w = μ8 at hW
            refine lv_aload_n hx hb dX10_setStuff_77 rfl (lv_at hl 0 rfl) ?_
            refine m_getr hx hb hts hown hW (1) 3 (5) rfl rfl cw_10 rfl (by decide) k_X10_21 dX10_setStuff_78 ?_
            refine lv_iload_n hx hb dX10_setStuff_81 rfl (lv_at hl 1 rfl) ?_
            refine lv_iload hx hb dX10_setStuff_82 (lv_at hl 5 rfl) ?_
            refine m_iast hx hb hW (5) rfl (m_ix q1 (by decide) (by decide)) dX10_setStuff_84 (fun H locs hW _ => ?_)
            generalize hμ9 : m_si μ8 (5) (k : Int32).toNatClampNeg z = μ9 at hW
            refine lv_iconst (v := 1) hx hb dX10_setStuff_85 (by decide) ?_
            exact m_iret hx hb hr hlocks hW (by decide) ((if_pos (by omega)).symm) dX10_setStuff_86
          · refine lv_if_ne (tgt := 55) hx hb dX10_setStuff_50 (by decide) (fun c => False.elim (by revert c; decide)) (fun _ => ?_)
            refine lv_iconst (v := 0) hx hb dX10_setStuff_53 (by decide) ?_
            exact m_iret hx hb hr hlocks hW (by decide) ((if_neg (by omega)).symm) dX10_setStuff_54
        · refine lv_if_eq (tgt := 53) hx hb dX10_setStuff_38 (by decide) (fun _ => ?_) (fun c => False.elim (by revert c; decide))
          refine lv_iconst (v := 0) hx hb dX10_setStuff_53 (by decide) ?_
          exact m_iret hx hb hr hlocks hW (by decide) ((if_neg (by omega)).symm) dX10_setStuff_54
      · refine lv_if_eq (tgt := 53) hx hb dX10_setStuff_27 (by decide) (fun _ => ?_) (fun c => False.elim (by revert c; decide))
        refine lv_iconst (v := 0) hx hb dX10_setStuff_53 (by decide) ?_
        exact m_iret hx hb hr hlocks hW (by decide) ((if_neg (by omega)).symm) dX10_setStuff_54
    · refine lv_if_eq (tgt := 53) hx hb dX10_setStuff_17 (by decide) (fun _ => ?_) (fun c => False.elim (by revert c; decide))
      refine lv_iconst (v := 0) hx hb dX10_setStuff_53 (by decide) ?_
      exact m_iret hx hb hr hlocks hW (by decide) ((if_neg (by omega)).symm) dX10_setStuff_54
  · refine lv_if_eq (tgt := 53) hx hb dX10_setStuff_6 (by decide) (fun _ => ?_) (fun c => False.elim (by revert c; decide))
    refine lv_iconst (v := 0) hx hb dX10_setStuff_53 (by decide) ?_
    exact m_iret hx hb hr hlocks hW (by decide) ((if_neg (by omega)).symm) dX10_setStuff_54
set_option maxHeartbeats 4000000 in
set_option maxRecDepth 100000 in
theorem c_X11_stuff (l : Launch) (D : va_G) (cy : Nat → ClassId) (b : Nat) (μ : mM) (k u v w z : Int32) : m_Ci l yX11_stuff cX11_stuff 6 ((some .boolean)) 2 D cy b LX μ [.ref (b + 0), .int k, .int u, .int v, .int w, .int z] (fun r ν => r = Fstuff k u v w z) := by
  unfold m_Ci
  refine m_of (by decide) (Nat.le_of_ble_eq_true rfl) ?_
  intro p e s m below meth c hx hb hr hml hown hts hlocks _ hW ls hl
  have hown : s.vm.findClass RX11 = some m.cls := hown
  have hl : lv_has ls 6 [(0, .ref (b + 0)), (1, .int k), (2, .int u), (3, .int v), (4, .int w), (5, .int z)] := hl
  refine lv_aload_n hx hb dX11_stuff_0 rfl (lv_at hl 0 rfl) ?_
  refine m_getr hx hb hts hown hW (0) 0 (1) rfl rfl cw_11 rfl (by decide) k_X11_10 dX11_stuff_1 ?_
  refine lv_iload_n hx hb dX11_stuff_4 rfl (lv_at hl 1 rfl) ?_
  refine lv_iload_n hx hb dX11_stuff_5 rfl (lv_at hl 2 rfl) ?_
  refine lv_iload_n hx hb dX11_stuff_6 rfl (lv_at hl 3 rfl) ?_
  refine lv_iload hx hb dX11_stuff_7 (lv_at hl 4 rfl) ?_
  refine lv_iload hx hb dX11_stuff_9 (lv_at hl 5 rfl) ?_
  refine m_aI hW (m_runV (As := [.int k, .int u, .int v, .int w, .int z]) (rest := []) hx hb hml hown hts hW (1) (c_X10_setStuff l D cy b μ k u v w z) mi_X10_setStuff k_X11_77 rfl rfl rfl hl.1 rfl (Nat.le_of_ble_eq_true rfl) dX11_stuff_11 ⟨Nat.le_of_ble_eq_true rfl, Nat.le_of_ble_eq_true rfl⟩ ⟨Nat.le_of_ble_eq_true rfl, Nat.le_of_ble_eq_true rfl⟩) (fun x1 μ1 H locs q1 hW => ?_)
  exact m_iret hx hb hr hlocks hW (by rw [q1]; exact m_nb m_01) (q1) dX11_stuff_14
set_option maxHeartbeats 4000000 in
set_option maxRecDepth 100000 in
theorem c_X12_stuff (l : Launch) (D : va_G) (cy : Nat → ClassId) (b : Nat) (μ : mM) (k u v w z : Int32) : m_Ci l yX12_stuff cX12_stuff 6 ((some .boolean)) 1 D cy b LAY μ [.ref (b + 81), .int k, .int u, .int v, .int w, .int z] (fun r ν => r = Fstuff k u v w z) := by
  unfold m_Ci
  refine m_of (by decide) (Nat.le_of_ble_eq_true rfl) ?_
  intro p e s m below meth c hx hb hr hml hown hts hlocks _ hW ls hl
  have hown : s.vm.findClass RX12 = some m.cls := hown
  have hl : lv_has ls 6 [(0, .ref (b + 81)), (1, .int k), (2, .int u), (3, .int v), (4, .int w), (5, .int z)] := hl
  refine lv_aload_n hx hb dX12_stuff_0 rfl (lv_at hl 0 rfl) ?_
  refine lv_iconst (v := 0) hx hb dX12_stuff_1 (by decide) ?_
  refine m_puti hx hb hts hown hW (81) 0 rfl rfl cw_12 tyX12_ok nmX12 rfl (by decide) k_X12_167 rfl rfl rfl dX12_stuff_2 (fun H locs hW _ => ?_)
  generalize hμ1 : m_si μ (81) 0 0 = μ1 at hW
  refine lv_aload_n hx hb dX12_stuff_5 rfl (lv_at hl 0 rfl) ?_
  refine lv_iload_n hx hb dX12_stuff_6 rfl (lv_at hl 1 rfl) ?_
  refine lv_iconst (v := 0) hx hb dX12_stuff_7 (by decide) ?_
  refine lv_iconst (v := 3) hx hb dX12_stuff_8 (by decide) ?_
  refine m_aI hW (m_runV (As := [.int k, .int 0, .int 3]) (rest := []) hx hb hml hown hts hW (81) (c_X12_isIn l D cy b μ1 81 k 0 3 0 3 (by decide) (by decide)) mi_X12_isIn k_X12_170 rfl rfl rfl hl.1 rfl (Nat.le_of_ble_eq_true rfl) dX12_stuff_9 ⟨Nat.le_of_ble_eq_true rfl, Nat.le_of_ble_eq_true rfl⟩ ⟨Nat.le_of_ble_eq_true rfl, Nat.le_of_ble_eq_true rfl⟩) (fun x2 μ2 H locs q2 hW => ?_)
  obtain ⟨q2_m, q2⟩ := q2
  subst q2_m
  rcases q2 with ⟨rfl, q2⟩ | ⟨rfl, q2⟩
  · refine lv_if_eq (tgt := 63) hx hb dX12_stuff_12 (by decide) (fun c => False.elim (by revert c; decide)) (fun _ => ?_)
    refine lv_aload_n hx hb dX12_stuff_15 rfl (lv_at hl 0 rfl) ?_
    refine lv_iload_n hx hb dX12_stuff_16 rfl (lv_at hl 2 rfl) ?_
    refine lv_iconst (v := 1) hx hb dX12_stuff_17 (by decide) ?_
    refine lv_sipush (v := 999) hx hb dX12_stuff_18 (by decide) ?_
    refine m_aI hW (m_runV (As := [.int u, .int 1, .int 999]) (rest := []) hx hb hml hown hts hW (81) (c_X12_isIn l D cy b μ1 81 u 1 999 1 999 (by decide) (by decide)) mi_X12_isIn k_X12_170 rfl rfl rfl hl.1 rfl (Nat.le_of_ble_eq_true rfl) dX12_stuff_21 ⟨Nat.le_of_ble_eq_true rfl, Nat.le_of_ble_eq_true rfl⟩ ⟨Nat.le_of_ble_eq_true rfl, Nat.le_of_ble_eq_true rfl⟩) (fun x3 μ3 H locs q3 hW => ?_)
    obtain ⟨q3_m, q3⟩ := q3
    subst q3_m
    rcases q3 with ⟨rfl, q3⟩ | ⟨rfl, q3⟩
    · refine lv_if_eq (tgt := 63) hx hb dX12_stuff_24 (by decide) (fun c => False.elim (by revert c; decide)) (fun _ => ?_)
      refine lv_aload_n hx hb dX12_stuff_27 rfl (lv_at hl 0 rfl) ?_
      refine lv_iload_n hx hb dX12_stuff_28 rfl (lv_at hl 3 rfl) ?_
      refine lv_iconst (v := 0) hx hb dX12_stuff_29 (by decide) ?_
      refine lv_bipush (v := 20) hx hb dX12_stuff_30 (by decide) ?_
      refine m_aI hW (m_runV (As := [.int v, .int 0, .int 20]) (rest := []) hx hb hml hown hts hW (81) (c_X12_isIn l D cy b μ1 81 v 0 20 0 20 (by decide) (by decide)) mi_X12_isIn k_X12_170 rfl rfl rfl hl.1 rfl (Nat.le_of_ble_eq_true rfl) dX12_stuff_32 ⟨Nat.le_of_ble_eq_true rfl, Nat.le_of_ble_eq_true rfl⟩ ⟨Nat.le_of_ble_eq_true rfl, Nat.le_of_ble_eq_true rfl⟩) (fun x4 μ4 H locs q4 hW => ?_)
      obtain ⟨q4_m, q4⟩ := q4
      subst q4_m
      rcases q4 with ⟨rfl, q4⟩ | ⟨rfl, q4⟩
      · refine lv_if_eq (tgt := 63) hx hb dX12_stuff_35 (by decide) (fun c => False.elim (by revert c; decide)) (fun _ => ?_)
        refine lv_aload_n hx hb dX12_stuff_38 rfl (lv_at hl 0 rfl) ?_
        refine lv_iload hx hb dX12_stuff_39 (lv_at hl 4 rfl) ?_
        refine lv_iconst (v := 0) hx hb dX12_stuff_41 (by decide) ?_
        refine lv_bipush (v := 20) hx hb dX12_stuff_42 (by decide) ?_
        refine m_aI hW (m_runV (As := [.int w, .int 0, .int 20]) (rest := []) hx hb hml hown hts hW (81) (c_X12_isIn l D cy b μ1 81 w 0 20 0 20 (by decide) (by decide)) mi_X12_isIn k_X12_170 rfl rfl rfl hl.1 rfl (Nat.le_of_ble_eq_true rfl) dX12_stuff_44 ⟨Nat.le_of_ble_eq_true rfl, Nat.le_of_ble_eq_true rfl⟩ ⟨Nat.le_of_ble_eq_true rfl, Nat.le_of_ble_eq_true rfl⟩) (fun x5 μ5 H locs q5 hW => ?_)
        obtain ⟨q5_m, q5⟩ := q5
        subst q5_m
        rcases q5 with ⟨rfl, q5⟩ | ⟨rfl, q5⟩
        · refine lv_if_eq (tgt := 63) hx hb dX12_stuff_47 (by decide) (fun c => False.elim (by revert c; decide)) (fun _ => ?_)
          refine lv_aload_n hx hb dX12_stuff_50 rfl (lv_at hl 0 rfl) ?_
          refine lv_iload hx hb dX12_stuff_51 (lv_at hl 5 rfl) ?_
          refine lv_iconst (v := 1) hx hb dX12_stuff_53 (by decide) ?_
          refine lv_sipush (v := 9999) hx hb dX12_stuff_54 (by decide) ?_
          refine m_aI hW (m_runV (As := [.int z, .int 1, .int 9999]) (rest := []) hx hb hml hown hts hW (81) (c_X12_isIn l D cy b μ1 81 z 1 9999 1 9999 (by decide) (by decide)) mi_X12_isIn k_X12_170 rfl rfl rfl hl.1 rfl (Nat.le_of_ble_eq_true rfl) dX12_stuff_57 ⟨Nat.le_of_ble_eq_true rfl, Nat.le_of_ble_eq_true rfl⟩ ⟨Nat.le_of_ble_eq_true rfl, Nat.le_of_ble_eq_true rfl⟩) (fun x6 μ6 H locs q6 hW => ?_)
          obtain ⟨q6_m, q6⟩ := q6
          subst q6_m
          rcases q6 with ⟨rfl, q6⟩ | ⟨rfl, q6⟩
          · refine lv_if_ne (tgt := 65) hx hb dX12_stuff_60 (by decide) (fun _ => ?_) (fun c => False.elim (by revert c; decide))
            refine lv_aload_n hx hb dX12_stuff_65 rfl (lv_at hl 0 rfl) ?_
            refine m_getr hx hb hts hown hW (81) 1 (82) rfl rfl cw_12 rfl (by decide) k_X12_7 dX12_stuff_66 ?_
            refine lv_iload_n hx hb dX12_stuff_69 rfl (lv_at hl 1 rfl) ?_
            refine lv_iload_n hx hb dX12_stuff_70 rfl (lv_at hl 2 rfl) ?_
            refine m_iast hx hb hW (82) rfl (m_ix q2 (by decide) (by decide)) dX12_stuff_71 (fun H locs hW _ => ?_)
            generalize hμ7 : m_si μ1 (82) (k : Int32).toNatClampNeg u = μ7 at hW
            refine lv_aload_n hx hb dX12_stuff_72 rfl (lv_at hl 0 rfl) ?_
            refine m_getr hx hb hts hown hW (81) 2 (83) rfl rfl cw_12 rfl (by decide) k_X12_13 dX12_stuff_73 ?_
            refine lv_iload_n hx hb dX12_stuff_76 rfl (lv_at hl 1 rfl) ?_
            refine lv_iload_n hx hb dX12_stuff_77 rfl (lv_at hl 3 rfl) ?_
            refine m_iast hx hb hW (83) rfl (m_ix q2 (by decide) (by decide)) dX12_stuff_78 (fun H locs hW _ => ?_)
            generalize hμ8 : m_si μ7 (83) (k : Int32).toNatClampNeg v = μ8 at hW
            refine lv_aload_n hx hb dX12_stuff_79 rfl (lv_at hl 0 rfl) ?_
            refine m_getr hx hb hts hown hW (81) 3 (84) rfl rfl cw_12 rfl (by decide) k_X12_16 dX12_stuff_80 ?_
            refine lv_iload_n hx hb dX12_stuff_83 rfl (lv_at hl 1 rfl) ?_
            refine lv_iload hx hb dX12_stuff_84 (lv_at hl 4 rfl) ?_
            refine m_iast hx hb hW (84) rfl (m_ix q2 (by decide) (by decide)) dX12_stuff_86 (fun H locs hW _ => ?_)
            generalize hμ9 : m_si μ8 (84) (k : Int32).toNatClampNeg w = μ9 at hW
            refine lv_aload_n hx hb dX12_stuff_87 rfl (lv_at hl 0 rfl) ?_
            refine m_getr hx hb hts hown hW (81) 4 (85) rfl rfl cw_12 rfl (by decide) k_X12_19 dX12_stuff_88 ?_
            refine lv_iload_n hx hb dX12_stuff_91 rfl (lv_at hl 1 rfl) ?_
            refine lv_iload hx hb dX12_stuff_92 (lv_at hl 5 rfl) ?_
            refine m_iast hx hb hW (85) rfl (m_ix q2 (by decide) (by decide)) dX12_stuff_94 (fun H locs hW _ => ?_)
            generalize hμ10 : m_si μ9 (85) (k : Int32).toNatClampNeg z = μ10 at hW
            refine lv_iconst (v := 1) hx hb dX12_stuff_95 (by decide) ?_
            exact m_iret hx hb hr hlocks hW (by decide) ((if_pos (by omega)).symm) dX12_stuff_96
          · refine lv_if_ne (tgt := 65) hx hb dX12_stuff_60 (by decide) (fun c => False.elim (by revert c; decide)) (fun _ => ?_)
            refine lv_iconst (v := 0) hx hb dX12_stuff_63 (by decide) ?_
            exact m_iret hx hb hr hlocks hW (by decide) ((if_neg (by omega)).symm) dX12_stuff_64
        · refine lv_if_eq (tgt := 63) hx hb dX12_stuff_47 (by decide) (fun _ => ?_) (fun c => False.elim (by revert c; decide))
          refine lv_iconst (v := 0) hx hb dX12_stuff_63 (by decide) ?_
          exact m_iret hx hb hr hlocks hW (by decide) ((if_neg (by omega)).symm) dX12_stuff_64
      · refine lv_if_eq (tgt := 63) hx hb dX12_stuff_35 (by decide) (fun _ => ?_) (fun c => False.elim (by revert c; decide))
        refine lv_iconst (v := 0) hx hb dX12_stuff_63 (by decide) ?_
        exact m_iret hx hb hr hlocks hW (by decide) ((if_neg (by omega)).symm) dX12_stuff_64
    · refine lv_if_eq (tgt := 63) hx hb dX12_stuff_24 (by decide) (fun _ => ?_) (fun c => False.elim (by revert c; decide))
      refine lv_iconst (v := 0) hx hb dX12_stuff_63 (by decide) ?_
      exact m_iret hx hb hr hlocks hW (by decide) ((if_neg (by omega)).symm) dX12_stuff_64
  · refine lv_if_eq (tgt := 63) hx hb dX12_stuff_12 (by decide) (fun _ => ?_) (fun c => False.elim (by revert c; decide))
    refine lv_iconst (v := 0) hx hb dX12_stuff_63 (by decide) ?_
    exact m_iret hx hb hr hlocks hW (by decide) ((if_neg (by omega)).symm) dX12_stuff_64
set_option maxHeartbeats 4000000 in
set_option maxRecDepth 100000 in
theorem c_X11_beam (l : Launch) (D : va_G) (cy : Nat → ClassId) (b : Nat) (μ : mM) (k g : Int32) (hg : g = 0 ∨ g = 1) : m_Ci l yX11_beam cX11_beam 3 ((some .boolean)) 1 D cy b LX μ [.ref (b + 0), .int k, .int g] (fun r ν => r = Fbeam k) := by
  unfold m_Ci
  refine m_of (by decide) (Nat.le_of_ble_eq_true rfl) ?_
  intro p e s m below meth c hx hb hr hml hown hts hlocks _ hW ls hl
  have hown : s.vm.findClass RX11 = some m.cls := hown
  have hl : lv_has ls 3 [(0, .ref (b + 0)), (1, .int k), (2, .int g)] := hl
  refine lv_iload_n hx hb dX11_beam_0 rfl (lv_at hl 1 rfl) ?_
  refine lv_iconst (v := 0) hx hb dX11_beam_1 (by decide) ?_
  refine lv_sipush (v := 9999) hx hb dX11_beam_2 (by decide) ?_
  refine m_aI hW (m_runS (As := [.int k, .int 0, .int 9999]) (rest := []) hx hb hml hown hts hW (c_X11_within l D cy b LX μ k 0 9999 0 9999 (by decide) (by decide)) ms_X11_within k_X11_81 rfl hl.1 rfl (Nat.le_of_ble_eq_true rfl) dX11_beam_5 ⟨Nat.le_of_ble_eq_true rfl, Nat.le_of_ble_eq_true rfl⟩ ⟨Nat.le_of_ble_eq_true rfl, Nat.le_of_ble_eq_true rfl⟩) (fun x1 μ1 H locs q1 hW => ?_)
  obtain ⟨q1_m, q1⟩ := q1
  subst q1_m
  rcases q1 with ⟨rfl, q1⟩ | ⟨rfl, q1⟩
  · refine lv_if_ne (tgt := 13) hx hb dX11_beam_8 (by decide) (fun _ => ?_) (fun c => False.elim (by revert c; decide))
    refine lv_aload_n hx hb dX11_beam_13 rfl (lv_at hl 0 rfl) ?_
    refine m_getr hx hb hts hown hW (0) 0 (1) rfl rfl cw_11 rfl (by decide) k_X11_10 dX11_beam_14 ?_
    refine lv_iload_n hx hb dX11_beam_17 rfl (lv_at hl 1 rfl) ?_
    refine m_puti hx hb hts hown hW (1) 4 rfl rfl cw_10 tyX10_ok nmX10 rfl (by decide) k_X11_89 rfl rfl rfl dX11_beam_18 (fun H locs hW _ => ?_)
    generalize hμ2 : m_si μ (1) 4 k = μ2 at hW
    refine lv_aload_n hx hb dX11_beam_21 rfl (lv_at hl 0 rfl) ?_
    refine m_getr hx hb hts hown hW (0) 0 (1) rfl rfl cw_11 rfl (by decide) k_X11_10 dX11_beam_22 ?_
    refine lv_iload_n hx hb dX11_beam_25 rfl (lv_at hl 2 rfl) ?_
    refine m_puti hx hb hts hown hW (1) 5 rfl rfl cw_10 tyX10_ok nmX10 rfl (by decide) k_X11_92 rfl (m_nb hg) (m_nbf hg) dX11_beam_26 (fun H locs hW _ => ?_)
    generalize hμ3 : m_si μ2 (1) 5 g = μ3 at hW
    refine lv_iconst (v := 1) hx hb dX11_beam_29 (by decide) ?_
    exact m_iret hx hb hr hlocks hW (by decide) ((if_pos (by omega)).symm) dX11_beam_30
  · refine lv_if_ne (tgt := 13) hx hb dX11_beam_8 (by decide) (fun c => False.elim (by revert c; decide)) (fun _ => ?_)
    refine lv_iconst (v := 0) hx hb dX11_beam_11 (by decide) ?_
    exact m_iret hx hb hr hlocks hW (by decide) ((if_neg (by omega)).symm) dX11_beam_12
set_option maxHeartbeats 4000000 in
set_option maxRecDepth 100000 in
theorem c_X12_beam (l : Launch) (D : va_G) (cy : Nat → ClassId) (b : Nat) (μ : mM) (k g : Int32) (hg : g = 0 ∨ g = 1) : m_Ci l yX12_beam cX12_beam 3 ((some .boolean)) 1 D cy b LAY μ [.ref (b + 81), .int k, .int g] (fun r ν => r = Fbeam k) := by
  unfold m_Ci
  refine m_of (by decide) (Nat.le_of_ble_eq_true rfl) ?_
  intro p e s m below meth c hx hb hr hml hown hts hlocks _ hW ls hl
  have hown : s.vm.findClass RX12 = some m.cls := hown
  have hl : lv_has ls 3 [(0, .ref (b + 81)), (1, .int k), (2, .int g)] := hl
  refine lv_aload_n hx hb dX12_beam_0 rfl (lv_at hl 0 rfl) ?_
  refine lv_iconst (v := 0) hx hb dX12_beam_1 (by decide) ?_
  refine m_puti hx hb hts hown hW (81) 0 rfl rfl cw_12 tyX12_ok nmX12 rfl (by decide) k_X12_167 rfl rfl rfl dX12_beam_2 (fun H locs hW _ => ?_)
  generalize hμ1 : m_si μ (81) 0 0 = μ1 at hW
  refine lv_aload_n hx hb dX12_beam_5 rfl (lv_at hl 0 rfl) ?_
  refine lv_iload_n hx hb dX12_beam_6 rfl (lv_at hl 1 rfl) ?_
  refine lv_iconst (v := 0) hx hb dX12_beam_7 (by decide) ?_
  refine lv_sipush (v := 9999) hx hb dX12_beam_8 (by decide) ?_
  refine m_aI hW (m_runV (As := [.int k, .int 0, .int 9999]) (rest := []) hx hb hml hown hts hW (81) (c_X12_isIn l D cy b μ1 81 k 0 9999 0 9999 (by decide) (by decide)) mi_X12_isIn k_X12_170 rfl rfl rfl hl.1 rfl (Nat.le_of_ble_eq_true rfl) dX12_beam_11 ⟨Nat.le_of_ble_eq_true rfl, Nat.le_of_ble_eq_true rfl⟩ ⟨Nat.le_of_ble_eq_true rfl, Nat.le_of_ble_eq_true rfl⟩) (fun x2 μ2 H locs q2 hW => ?_)
  obtain ⟨q2_m, q2⟩ := q2
  subst q2_m
  rcases q2 with ⟨rfl, q2⟩ | ⟨rfl, q2⟩
  · refine lv_if_ne (tgt := 19) hx hb dX12_beam_14 (by decide) (fun _ => ?_) (fun c => False.elim (by revert c; decide))
    refine lv_aload_n hx hb dX12_beam_19 rfl (lv_at hl 0 rfl) ?_
    refine lv_iload_n hx hb dX12_beam_20 rfl (lv_at hl 1 rfl) ?_
    refine m_puti hx hb hts hown hW (81) 10 rfl rfl cw_12 tyX12_ok nmX12 rfl (by decide) k_X12_22 rfl rfl rfl dX12_beam_21 (fun H locs hW _ => ?_)
    generalize hμ3 : m_si μ1 (81) 10 k = μ3 at hW
    refine lv_aload_n hx hb dX12_beam_24 rfl (lv_at hl 0 rfl) ?_
    refine lv_iload_n hx hb dX12_beam_25 rfl (lv_at hl 2 rfl) ?_
    refine m_puti hx hb hts hown hW (81) 11 rfl rfl cw_12 tyX12_ok nmX12 rfl (by decide) k_X12_26 rfl (m_nb hg) (m_nbf hg) dX12_beam_26 (fun H locs hW _ => ?_)
    generalize hμ4 : m_si μ3 (81) 11 g = μ4 at hW
    refine lv_iconst (v := 1) hx hb dX12_beam_29 (by decide) ?_
    exact m_iret hx hb hr hlocks hW (by decide) ((if_pos (by omega)).symm) dX12_beam_30
  · refine lv_if_ne (tgt := 19) hx hb dX12_beam_14 (by decide) (fun c => False.elim (by revert c; decide)) (fun _ => ?_)
    refine lv_iconst (v := 0) hx hb dX12_beam_17 (by decide) ?_
    exact m_iret hx hb hr hlocks hW (by decide) ((if_neg (by omega)).symm) dX12_beam_18
set_option maxHeartbeats 4000000 in
set_option maxRecDepth 100000 in
theorem c_X11_pitch (l : Launch) (D : va_G) (cy : Nat → ClassId) (b : Nat) (μ : mM) (k : Int32) : m_Ci l yX11_pitch cX11_pitch 2 ((some .boolean)) 1 D cy b LX μ [.ref (b + 0), .int k] (fun r ν => r = Fpitch k) := by
  unfold m_Ci
  refine m_of (by decide) (Nat.le_of_ble_eq_true rfl) ?_
  intro p e s m below meth c hx hb hr hml hown hts hlocks _ hW ls hl
  have hown : s.vm.findClass RX11 = some m.cls := hown
  have hl : lv_has ls 2 [(0, .ref (b + 0)), (1, .int k)] := hl
  refine lv_iload_n hx hb dX11_pitch_0 rfl (lv_at hl 1 rfl) ?_
  refine lv_iconst (v := 2) hx hb dX11_pitch_1 (by decide) ?_
  refine lv_bipush (v := 9) hx hb dX11_pitch_2 (by decide) ?_
  refine m_aI hW (m_runS (As := [.int k, .int 2, .int 9]) (rest := []) hx hb hml hown hts hW (c_X11_within l D cy b LX μ k 2 9 2 9 (by decide) (by decide)) ms_X11_within k_X11_81 rfl hl.1 rfl (Nat.le_of_ble_eq_true rfl) dX11_pitch_4 ⟨Nat.le_of_ble_eq_true rfl, Nat.le_of_ble_eq_true rfl⟩ ⟨Nat.le_of_ble_eq_true rfl, Nat.le_of_ble_eq_true rfl⟩) (fun x1 μ1 H locs q1 hW => ?_)
  obtain ⟨q1_m, q1⟩ := q1
  subst q1_m
  rcases q1 with ⟨rfl, q1⟩ | ⟨rfl, q1⟩
  · refine lv_if_ne (tgt := 12) hx hb dX11_pitch_7 (by decide) (fun _ => ?_) (fun c => False.elim (by revert c; decide))
    refine lv_aload_n hx hb dX11_pitch_12 rfl (lv_at hl 0 rfl) ?_
    refine m_getr hx hb hts hown hW (0) 0 (1) rfl rfl cw_11 rfl (by decide) k_X11_10 dX11_pitch_13 ?_
    refine lv_iload_n hx hb dX11_pitch_16 rfl (lv_at hl 1 rfl) ?_
    refine m_puti hx hb hts hown hW (1) 6 rfl rfl cw_10 tyX10_ok nmX10 rfl (by decide) k_X11_96 rfl rfl rfl dX11_pitch_17 (fun H locs hW _ => ?_)
    generalize hμ2 : m_si μ (1) 6 k = μ2 at hW
    refine lv_iconst (v := 1) hx hb dX11_pitch_20 (by decide) ?_
    exact m_iret hx hb hr hlocks hW (by decide) ((if_pos (by omega)).symm) dX11_pitch_21
  · refine lv_if_ne (tgt := 12) hx hb dX11_pitch_7 (by decide) (fun c => False.elim (by revert c; decide)) (fun _ => ?_)
    refine lv_iconst (v := 0) hx hb dX11_pitch_10 (by decide) ?_
    exact m_iret hx hb hr hlocks hW (by decide) ((if_neg (by omega)).symm) dX11_pitch_11
set_option maxHeartbeats 4000000 in
set_option maxRecDepth 100000 in
theorem c_X12_pitch (l : Launch) (D : va_G) (cy : Nat → ClassId) (b : Nat) (μ : mM) (k : Int32) : m_Ci l yX12_pitch cX12_pitch 2 ((some .boolean)) 1 D cy b LAY μ [.ref (b + 81), .int k] (fun r ν => r = Fpitch k) := by
  unfold m_Ci
  refine m_of (by decide) (Nat.le_of_ble_eq_true rfl) ?_
  intro p e s m below meth c hx hb hr hml hown hts hlocks _ hW ls hl
  have hown : s.vm.findClass RX12 = some m.cls := hown
  have hl : lv_has ls 2 [(0, .ref (b + 81)), (1, .int k)] := hl
  refine lv_aload_n hx hb dX12_pitch_0 rfl (lv_at hl 0 rfl) ?_
  refine lv_iconst (v := 0) hx hb dX12_pitch_1 (by decide) ?_
  refine m_puti hx hb hts hown hW (81) 0 rfl rfl cw_12 tyX12_ok nmX12 rfl (by decide) k_X12_167 rfl rfl rfl dX12_pitch_2 (fun H locs hW _ => ?_)
  generalize hμ1 : m_si μ (81) 0 0 = μ1 at hW
  refine lv_aload_n hx hb dX12_pitch_5 rfl (lv_at hl 0 rfl) ?_
  refine lv_iload_n hx hb dX12_pitch_6 rfl (lv_at hl 1 rfl) ?_
  refine lv_iconst (v := 2) hx hb dX12_pitch_7 (by decide) ?_
  refine lv_bipush (v := 9) hx hb dX12_pitch_8 (by decide) ?_
  refine m_aI hW (m_runV (As := [.int k, .int 2, .int 9]) (rest := []) hx hb hml hown hts hW (81) (c_X12_isIn l D cy b μ1 81 k 2 9 2 9 (by decide) (by decide)) mi_X12_isIn k_X12_170 rfl rfl rfl hl.1 rfl (Nat.le_of_ble_eq_true rfl) dX12_pitch_10 ⟨Nat.le_of_ble_eq_true rfl, Nat.le_of_ble_eq_true rfl⟩ ⟨Nat.le_of_ble_eq_true rfl, Nat.le_of_ble_eq_true rfl⟩) (fun x2 μ2 H locs q2 hW => ?_)
  obtain ⟨q2_m, q2⟩ := q2
  subst q2_m
  rcases q2 with ⟨rfl, q2⟩ | ⟨rfl, q2⟩
  · refine lv_if_ne (tgt := 18) hx hb dX12_pitch_13 (by decide) (fun _ => ?_) (fun c => False.elim (by revert c; decide))
    refine lv_aload_n hx hb dX12_pitch_18 rfl (lv_at hl 0 rfl) ?_
    refine lv_iload_n hx hb dX12_pitch_19 rfl (lv_at hl 1 rfl) ?_
    refine m_puti hx hb hts hown hW (81) 12 rfl rfl cw_12 tyX12_ok nmX12 rfl (by decide) k_X12_30 rfl rfl rfl dX12_pitch_20 (fun H locs hW _ => ?_)
    generalize hμ3 : m_si μ1 (81) 12 k = μ3 at hW
    refine lv_iconst (v := 1) hx hb dX12_pitch_23 (by decide) ?_
    exact m_iret hx hb hr hlocks hW (by decide) ((if_pos (by omega)).symm) dX12_pitch_24
  · refine lv_if_ne (tgt := 18) hx hb dX12_pitch_13 (by decide) (fun c => False.elim (by revert c; decide)) (fun _ => ?_)
    refine lv_iconst (v := 0) hx hb dX12_pitch_16 (by decide) ?_
    exact m_iret hx hb hr hlocks hW (by decide) ((if_neg (by omega)).symm) dX12_pitch_17
