set_option maxHeartbeats 4000000 in
set_option maxRecDepth 100000 in
theorem L_X0_bestKind_5 {p : Program} {l : Launch} {e : Env} {s : State} {m : MethodId} {args : Array Value} {below : List Frame} {meth : Method} {c : Code} {D : va_G} {cy : Nat → ClassId} {b : Nat} (hx : p.tables.exec = Jvm.exec) (hb : c.code = cX0_bestKind) (hr : meth.sig.returnType = ((some .int))) (hml : c.maxLocals = 7) (hown : s.vm.findClass RX0 = some m.cls) (hts : ∀ w ∈ TB, w.before args s = true) (hlocks : meth.locks = false) (μ1 : mM) (k u : Int32) : ∀ (f : Nat), ∀ (y3 y4 : Int32) (hy : 0 ≤ y4.toInt ∧ y4.toInt ≤ 6) (hf : 6 - y4.toInt < (f : Int)) (μ : mM) (hI : IX μ) (hm : μ = μ1) (H : Heap) (locs : List Loc), m_WA (m_A b LAY) D cy s b LAY μ H locs → ∀ ls : Array Slot, lv_has ls 7 [(0, .ref (b + 71)), (1, .int k), (2, .int u), (3, .int y3), (4, .int y4)] → W p l e (m_R 1 0 0) s m args below meth c H locs 0 0 (MQ below (m_Qi D cy b LAY (fun r ν => μ1 = ν ∧ (True))) args s 0 0 (m_A b LAY)) (F0 m 5 ls []) := by
  intro f
  induction f with
  | zero => intro y3 y4 hy hf; exfalso; omega
  | succ f ih =>
    intro y3 y4 hy hf μ hI hm H locs hW ls hl
    refine lv_iload hx hb dX0_bestKind_5 (lv_at hl 4 rfl) ?_
    refine lv_aload_n hx hb dX0_bestKind_7 rfl (lv_at hl 0 rfl) ?_
    refine m_geti hx hb hts hown hW (71) 4 rfl rfl cw_0 rfl (by decide) k_X0_24 dX0_bestKind_8 ?_
    refine lv_topi (fun x1 ex1 => ?_)
    have bx1 : 0 ≤ x1.toInt ∧ x1.toInt ≤ 6 := by rw [ex1]; exact hI _ _ _ _ rfl
    refine lv_icmp_ge (tgt := 100) hx hb dX0_bestKind_11 (by decide) (fun c2 => ?_) (fun c2 => ?_)
    · have i2 := m_c3 (rfl : x1.toInt = _) (rfl : y4.toInt = _) c2
      refine lv_iload_n hx hb dX0_bestKind_100 rfl (lv_at hl 3 rfl) ?_
      exact m_iret hx hb hr hlocks hW rfl (⟨hm.symm, trivial⟩) dX0_bestKind_101
    · have i2 := m_c4 (rfl : x1.toInt = _) (rfl : y4.toInt = _) c2
      refine lv_aload_n hx hb dX0_bestKind_14 rfl (lv_at hl 0 rfl) ?_
      refine m_getr hx hb hts hown hW (71) 0 (72) rfl rfl cw_0 rfl (by decide) k_X0_11 dX0_bestKind_15 ?_
      refine lv_iload hx hb dX0_bestKind_18 (lv_at hl 4 rfl) ?_
      refine m_iald hx hb hW (72) rfl (m_ixI (rfl : y4.toInt = _) (by omega) (by omega)) dX0_bestKind_20 ?_
      refine lv_topi (fun x3 ex3 => ?_)
      refine lv_iload_n hx hb dX0_bestKind_21 rfl (lv_at hl 1 rfl) ?_
      refine lv_icmp_ne (tgt := 40) hx hb dX0_bestKind_22 (by decide) (fun c4 => ?_) (fun c4 => ?_)
      · have i4 := m_c6 (rfl : x3.toInt = _) (rfl : k.toInt = _) c4
        refine lv_iconst (v := 0) hx hb dX0_bestKind_40 (by decide) ?_
        refine lv_istore (lv' := [(5, .int 0), (0, .ref (b + 71)), (1, .int k), (2, .int u), (3, .int y3), (4, .int y4)]) hx hb dX0_bestKind_41 hl (by decide) rfl (fun ls hl => ?_)
        refine lv_aload_n hx hb dX0_bestKind_43 rfl (lv_at hl 1 rfl) ?_
        refine m_getr hx hb hts hown hW (71) 0 (72) rfl rfl cw_0 rfl (by decide) k_X0_11 dX0_bestKind_44 ?_
        refine lv_iload hx hb dX0_bestKind_47 (lv_at hl 5 rfl) ?_
        refine m_iald hx hb hW (72) rfl (m_ixI (rfl : y4.toInt = _) (by omega) (by omega)) dX0_bestKind_49 ?_
        refine lv_topi (fun x5 ex5 => ?_)
        have ex5 : x5 = x3 := by rw [ex5]; exact ex3.symm
        have ex5 := ex5.symm
        subst ex5
        refine lv_iload_n hx hb dX0_bestKind_50 rfl (lv_at hl 3 rfl) ?_
        refine lv_icmp_ne (tgt := 69) hx hb dX0_bestKind_51 (by decide) (fun c6 => ?_) (fun c6 => ?_)
        · have i6 := m_c6 (rfl : x3.toInt = _) (rfl : u.toInt = _) c6
          refine lv_iconst (v := 0) hx hb dX0_bestKind_69 (by decide) ?_
          refine lv_istore (lv' := [(6, .int 0), (5, .int 0), (0, .ref (b + 71)), (1, .int k), (2, .int u), (3, .int y3), (4, .int y4)]) hx hb dX0_bestKind_70 hl (by decide) rfl (fun ls hl => ?_)
          refine lv_iload hx hb dX0_bestKind_72 (lv_at hl 1 rfl) ?_
          refine lv_if_ne (tgt := 82) hx hb dX0_bestKind_74 (by decide) (fun c => False.elim (by revert c; decide)) (fun _ => ?_)
          refine lv_iload hx hb dX0_bestKind_77 (lv_at hl 0 rfl) ?_
          refine lv_if_eq (tgt := 94) hx hb dX0_bestKind_79 (by decide) (fun _ => ?_) (fun c => False.elim (by revert c; decide))
          obtain ⟨x7, ex7⟩ : ∃ z : Int32, z = y4 + 1 := ⟨_, rfl⟩
          refine lv_iinc (v := x7) (lv' := [(4, .int x7), (6, .int 0), (5, .int 0), (0, .ref (b + 71)), (1, .int k), (2, .int u), (3, .int y3)]) hx hb dX0_bestKind_94 hl (k := 6) rfl (by rw [ex7]; rfl) (by decide) rfl (fun ls hl => ?_)
          have tx7 : x7.toInt = y4.toInt + 1 := m_addI ex7 (rfl : y4.toInt = _) (by decide : (1 : Int32).toInt = 1) (by omega) (by omega)
          refine lv_goto (tgt := 5) hx hb dX0_bestKind_97 (by decide) ?_
          exact ih y3 x7 (by omega) (by omega) μ hI hm _ _ hW ls (lv_sub hl [3, 4, 5, 6, 0] rfl)
        · have i6 := m_c5 (rfl : x3.toInt = _) (rfl : u.toInt = _) c6
          refine lv_aload_n hx hb dX0_bestKind_54 rfl (lv_at hl 1 rfl) ?_
          refine m_getr hx hb hts hown hW (71) 1 (73) rfl rfl cw_0 rfl (by decide) k_X0_15 dX0_bestKind_55 ?_
          refine lv_iload hx hb dX0_bestKind_58 (lv_at hl 5 rfl) ?_
          refine m_iald hx hb hW (73) rfl (m_ixI (rfl : y4.toInt = _) (by omega) (by omega)) dX0_bestKind_60 ?_
          refine lv_topi (fun x8 ex8 => ?_)
          refine lv_iload_n hx hb dX0_bestKind_61 rfl (lv_at hl 2 rfl) ?_
          refine lv_icmp_ne (tgt := 69) hx hb dX0_bestKind_62 (by decide) (fun c9 => ?_) (fun c9 => ?_)
          · have i9 := m_c6 (rfl : x8.toInt = _) (rfl : k.toInt = _) c9
            refine lv_iconst (v := 0) hx hb dX0_bestKind_69 (by decide) ?_
            refine lv_istore (lv' := [(6, .int 0), (5, .int 0), (0, .ref (b + 71)), (1, .int k), (2, .int u), (3, .int y3), (4, .int y4)]) hx hb dX0_bestKind_70 hl (by decide) rfl (fun ls hl => ?_)
            refine lv_iload hx hb dX0_bestKind_72 (lv_at hl 1 rfl) ?_
            refine lv_if_ne (tgt := 82) hx hb dX0_bestKind_74 (by decide) (fun c => False.elim (by revert c; decide)) (fun _ => ?_)
            refine lv_iload hx hb dX0_bestKind_77 (lv_at hl 0 rfl) ?_
            refine lv_if_eq (tgt := 94) hx hb dX0_bestKind_79 (by decide) (fun _ => ?_) (fun c => False.elim (by revert c; decide))
            obtain ⟨x10, ex10⟩ : ∃ z : Int32, z = y4 + 1 := ⟨_, rfl⟩
            refine lv_iinc (v := x10) (lv' := [(4, .int x10), (6, .int 0), (5, .int 0), (0, .ref (b + 71)), (1, .int k), (2, .int u), (3, .int y3)]) hx hb dX0_bestKind_94 hl (k := 6) rfl (by rw [ex10]; rfl) (by decide) rfl (fun ls hl => ?_)
            have tx10 : x10.toInt = y4.toInt + 1 := m_addI ex10 (rfl : y4.toInt = _) (by decide : (1 : Int32).toInt = 1) (by omega) (by omega)
            refine lv_goto (tgt := 5) hx hb dX0_bestKind_97 (by decide) ?_
            exact ih y3 x10 (by omega) (by omega) μ hI hm _ _ hW ls (lv_sub hl [3, 4, 5, 6, 0] rfl)
          · have i9 := m_c5 (rfl : x8.toInt = _) (rfl : k.toInt = _) c9
            refine lv_iconst (v := 1) hx hb dX0_bestKind_65 (by decide) ?_
            refine lv_goto (tgt := 70) hx hb dX0_bestKind_66 (by decide) ?_
            refine lv_istore (lv' := [(6, .int 1), (5, .int 0), (0, .ref (b + 71)), (1, .int k), (2, .int u), (3, .int y3), (4, .int y4)]) hx hb dX0_bestKind_70 hl (by decide) rfl (fun ls hl => ?_)
            refine lv_iload hx hb dX0_bestKind_72 (lv_at hl 1 rfl) ?_
            refine lv_if_ne (tgt := 82) hx hb dX0_bestKind_74 (by decide) (fun c => False.elim (by revert c; decide)) (fun _ => ?_)
            refine lv_iload hx hb dX0_bestKind_77 (lv_at hl 0 rfl) ?_
            refine lv_if_eq (tgt := 94) hx hb dX0_bestKind_79 (by decide) (fun c => False.elim (by revert c; decide)) (fun _ => ?_)
            refine lv_iload_n hx hb dX0_bestKind_82 rfl (lv_at hl 5 rfl) ?_
            refine lv_aload_n hx hb dX0_bestKind_83 rfl (lv_at hl 2 rfl) ?_
            refine m_getr hx hb hts hown hW (71) 2 (74) rfl rfl cw_0 rfl (by decide) k_X0_18 dX0_bestKind_84 ?_
            refine lv_iload hx hb dX0_bestKind_87 (lv_at hl 6 rfl) ?_
            refine m_iald hx hb hW (74) rfl (m_ixI (rfl : y4.toInt = _) (by omega) (by omega)) dX0_bestKind_89 ?_
            refine lv_topi (fun x11 ex11 => ?_)
            refine va_mmax hx hb (hml.trans hl.1.symm) hown (hts _ k_X0_42) (hts _ kM_max_s) (hts _ kM_n) (hts _ kM_max_c) (Nat.le_of_ble_eq_true rfl) (Nat.le_of_ble_eq_true rfl) (Nat.le_of_ble_eq_true rfl) (Nat.le_of_ble_eq_true rfl) dX0_bestKind_90 ?_
            refine lv_topi (fun x12 ex12 => ?_)
            have tx12 : x12.toInt = max (y3.toInt) (x11.toInt) := m_max ex12 (rfl : y3.toInt = _) (rfl : x11.toInt = _)
            refine lv_istore_n (lv' := [(3, .int x12), (6, .int 1), (5, .int 0), (0, .ref (b + 71)), (1, .int k), (2, .int u), (4, .int y4)]) hx hb dX0_bestKind_93 rfl hl (by decide) rfl (fun ls hl => ?_)
            obtain ⟨x13, ex13⟩ : ∃ z : Int32, z = y4 + 1 := ⟨_, rfl⟩
            refine lv_iinc (v := x13) (lv' := [(4, .int x13), (3, .int x12), (6, .int 1), (5, .int 0), (0, .ref (b + 71)), (1, .int k), (2, .int u)]) hx hb dX0_bestKind_94 hl (k := 6) rfl (by rw [ex13]; rfl) (by decide) rfl (fun ls hl => ?_)
            have tx13 : x13.toInt = y4.toInt + 1 := m_addI ex13 (rfl : y4.toInt = _) (by decide : (1 : Int32).toInt = 1) (by omega) (by omega)
            refine lv_goto (tgt := 5) hx hb dX0_bestKind_97 (by decide) ?_
            exact ih x12 x13 (by omega) (by omega) μ hI hm _ _ hW ls (lv_sub hl [4, 5, 6, 1, 0] rfl)
      · have i4 := m_c5 (rfl : x3.toInt = _) (rfl : k.toInt = _) c4
        refine lv_aload_n hx hb dX0_bestKind_25 rfl (lv_at hl 0 rfl) ?_
        refine m_getr hx hb hts hown hW (71) 1 (73) rfl rfl cw_0 rfl (by decide) k_X0_15 dX0_bestKind_26 ?_
        refine lv_iload hx hb dX0_bestKind_29 (lv_at hl 4 rfl) ?_
        refine m_iald hx hb hW (73) rfl (m_ixI (rfl : y4.toInt = _) (by omega) (by omega)) dX0_bestKind_31 ?_
        refine lv_topi (fun x14 ex14 => ?_)
        refine lv_iload_n hx hb dX0_bestKind_32 rfl (lv_at hl 2 rfl) ?_
        refine lv_icmp_ne (tgt := 40) hx hb dX0_bestKind_33 (by decide) (fun c15 => ?_) (fun c15 => ?_)
        · have i15 := m_c6 (rfl : x14.toInt = _) (rfl : u.toInt = _) c15
          refine lv_iconst (v := 0) hx hb dX0_bestKind_40 (by decide) ?_
          refine lv_istore (lv' := [(5, .int 0), (0, .ref (b + 71)), (1, .int k), (2, .int u), (3, .int y3), (4, .int y4)]) hx hb dX0_bestKind_41 hl (by decide) rfl (fun ls hl => ?_)
          refine lv_aload_n hx hb dX0_bestKind_43 rfl (lv_at hl 1 rfl) ?_
          refine m_getr hx hb hts hown hW (71) 0 (72) rfl rfl cw_0 rfl (by decide) k_X0_11 dX0_bestKind_44 ?_
          refine lv_iload hx hb dX0_bestKind_47 (lv_at hl 5 rfl) ?_
          refine m_iald hx hb hW (72) rfl (m_ixI (rfl : y4.toInt = _) (by omega) (by omega)) dX0_bestKind_49 ?_
          refine lv_topi (fun x16 ex16 => ?_)
          have ex16 : x16 = x3 := by rw [ex16]; exact ex3.symm
          have ex16 := ex16.symm
          subst ex16
          refine lv_iload_n hx hb dX0_bestKind_50 rfl (lv_at hl 3 rfl) ?_
          refine lv_icmp_ne (tgt := 69) hx hb dX0_bestKind_51 (by decide) (fun c17 => ?_) (fun c17 => ?_)
          · have i17 := m_c6 (rfl : x3.toInt = _) (rfl : u.toInt = _) c17
            refine lv_iconst (v := 0) hx hb dX0_bestKind_69 (by decide) ?_
            refine lv_istore (lv' := [(6, .int 0), (5, .int 0), (0, .ref (b + 71)), (1, .int k), (2, .int u), (3, .int y3), (4, .int y4)]) hx hb dX0_bestKind_70 hl (by decide) rfl (fun ls hl => ?_)
            refine lv_iload hx hb dX0_bestKind_72 (lv_at hl 1 rfl) ?_
            refine lv_if_ne (tgt := 82) hx hb dX0_bestKind_74 (by decide) (fun c => False.elim (by revert c; decide)) (fun _ => ?_)
            refine lv_iload hx hb dX0_bestKind_77 (lv_at hl 0 rfl) ?_
            refine lv_if_eq (tgt := 94) hx hb dX0_bestKind_79 (by decide) (fun _ => ?_) (fun c => False.elim (by revert c; decide))
            obtain ⟨x18, ex18⟩ : ∃ z : Int32, z = y4 + 1 := ⟨_, rfl⟩
            refine lv_iinc (v := x18) (lv' := [(4, .int x18), (6, .int 0), (5, .int 0), (0, .ref (b + 71)), (1, .int k), (2, .int u), (3, .int y3)]) hx hb dX0_bestKind_94 hl (k := 6) rfl (by rw [ex18]; rfl) (by decide) rfl (fun ls hl => ?_)
            have tx18 : x18.toInt = y4.toInt + 1 := m_addI ex18 (rfl : y4.toInt = _) (by decide : (1 : Int32).toInt = 1) (by omega) (by omega)
            refine lv_goto (tgt := 5) hx hb dX0_bestKind_97 (by decide) ?_
            exact ih y3 x18 (by omega) (by omega) μ hI hm _ _ hW ls (lv_sub hl [3, 4, 5, 6, 0] rfl)
          · have i17 := m_c5 (rfl : x3.toInt = _) (rfl : u.toInt = _) c17
            refine lv_aload_n hx hb dX0_bestKind_54 rfl (lv_at hl 1 rfl) ?_
            refine m_getr hx hb hts hown hW (71) 1 (73) rfl rfl cw_0 rfl (by decide) k_X0_15 dX0_bestKind_55 ?_
            refine lv_iload hx hb dX0_bestKind_58 (lv_at hl 5 rfl) ?_
            refine m_iald hx hb hW (73) rfl (m_ixI (rfl : y4.toInt = _) (by omega) (by omega)) dX0_bestKind_60 ?_
            refine lv_topi (fun x19 ex19 => ?_)
            have ex19 : x19 = x14 := by rw [ex19]; exact ex14.symm
            have ex19 := ex19.symm
            subst ex19
            refine lv_iload_n hx hb dX0_bestKind_61 rfl (lv_at hl 2 rfl) ?_
            refine lv_icmp_ne (tgt := 69) hx hb dX0_bestKind_62 (by decide) (fun c20 => ?_) (fun c20 => ?_)
            · have i20 := m_c6 (rfl : x14.toInt = _) (rfl : k.toInt = _) c20
              refine lv_iconst (v := 0) hx hb dX0_bestKind_69 (by decide) ?_
              refine lv_istore (lv' := [(6, .int 0), (5, .int 0), (0, .ref (b + 71)), (1, .int k), (2, .int u), (3, .int y3), (4, .int y4)]) hx hb dX0_bestKind_70 hl (by decide) rfl (fun ls hl => ?_)
              refine lv_iload hx hb dX0_bestKind_72 (lv_at hl 1 rfl) ?_
              refine lv_if_ne (tgt := 82) hx hb dX0_bestKind_74 (by decide) (fun c => False.elim (by revert c; decide)) (fun _ => ?_)
              refine lv_iload hx hb dX0_bestKind_77 (lv_at hl 0 rfl) ?_
              refine lv_if_eq (tgt := 94) hx hb dX0_bestKind_79 (by decide) (fun _ => ?_) (fun c => False.elim (by revert c; decide))
              obtain ⟨x21, ex21⟩ : ∃ z : Int32, z = y4 + 1 := ⟨_, rfl⟩
              refine lv_iinc (v := x21) (lv' := [(4, .int x21), (6, .int 0), (5, .int 0), (0, .ref (b + 71)), (1, .int k), (2, .int u), (3, .int y3)]) hx hb dX0_bestKind_94 hl (k := 6) rfl (by rw [ex21]; rfl) (by decide) rfl (fun ls hl => ?_)
              have tx21 : x21.toInt = y4.toInt + 1 := m_addI ex21 (rfl : y4.toInt = _) (by decide : (1 : Int32).toInt = 1) (by omega) (by omega)
              refine lv_goto (tgt := 5) hx hb dX0_bestKind_97 (by decide) ?_
              exact ih y3 x21 (by omega) (by omega) μ hI hm _ _ hW ls (lv_sub hl [3, 4, 5, 6, 0] rfl)
            · have i20 := m_c5 (rfl : x14.toInt = _) (rfl : k.toInt = _) c20
              refine lv_iconst (v := 1) hx hb dX0_bestKind_65 (by decide) ?_
              refine lv_goto (tgt := 70) hx hb dX0_bestKind_66 (by decide) ?_
              refine lv_istore (lv' := [(6, .int 1), (5, .int 0), (0, .ref (b + 71)), (1, .int k), (2, .int u), (3, .int y3), (4, .int y4)]) hx hb dX0_bestKind_70 hl (by decide) rfl (fun ls hl => ?_)
              refine lv_iload hx hb dX0_bestKind_72 (lv_at hl 1 rfl) ?_
              refine lv_if_ne (tgt := 82) hx hb dX0_bestKind_74 (by decide) (fun c => False.elim (by revert c; decide)) (fun _ => ?_)
              refine lv_iload hx hb dX0_bestKind_77 (lv_at hl 0 rfl) ?_
              refine lv_if_eq (tgt := 94) hx hb dX0_bestKind_79 (by decide) (fun c => False.elim (by revert c; decide)) (fun _ => ?_)
              refine lv_iload_n hx hb dX0_bestKind_82 rfl (lv_at hl 5 rfl) ?_
              refine lv_aload_n hx hb dX0_bestKind_83 rfl (lv_at hl 2 rfl) ?_
              refine m_getr hx hb hts hown hW (71) 2 (74) rfl rfl cw_0 rfl (by decide) k_X0_18 dX0_bestKind_84 ?_
              refine lv_iload hx hb dX0_bestKind_87 (lv_at hl 6 rfl) ?_
              refine m_iald hx hb hW (74) rfl (m_ixI (rfl : y4.toInt = _) (by omega) (by omega)) dX0_bestKind_89 ?_
              refine lv_topi (fun x22 ex22 => ?_)
              refine va_mmax hx hb (hml.trans hl.1.symm) hown (hts _ k_X0_42) (hts _ kM_max_s) (hts _ kM_n) (hts _ kM_max_c) (Nat.le_of_ble_eq_true rfl) (Nat.le_of_ble_eq_true rfl) (Nat.le_of_ble_eq_true rfl) (Nat.le_of_ble_eq_true rfl) dX0_bestKind_90 ?_
              refine lv_topi (fun x23 ex23 => ?_)
              have tx23 : x23.toInt = max (y3.toInt) (x22.toInt) := m_max ex23 (rfl : y3.toInt = _) (rfl : x22.toInt = _)
              refine lv_istore_n (lv' := [(3, .int x23), (6, .int 1), (5, .int 0), (0, .ref (b + 71)), (1, .int k), (2, .int u), (4, .int y4)]) hx hb dX0_bestKind_93 rfl hl (by decide) rfl (fun ls hl => ?_)
              obtain ⟨x24, ex24⟩ : ∃ z : Int32, z = y4 + 1 := ⟨_, rfl⟩
              refine lv_iinc (v := x24) (lv' := [(4, .int x24), (3, .int x23), (6, .int 1), (5, .int 0), (0, .ref (b + 71)), (1, .int k), (2, .int u)]) hx hb dX0_bestKind_94 hl (k := 6) rfl (by rw [ex24]; rfl) (by decide) rfl (fun ls hl => ?_)
              have tx24 : x24.toInt = y4.toInt + 1 := m_addI ex24 (rfl : y4.toInt = _) (by decide : (1 : Int32).toInt = 1) (by omega) (by omega)
              refine lv_goto (tgt := 5) hx hb dX0_bestKind_97 (by decide) ?_
              exact ih x23 x24 (by omega) (by omega) μ hI hm _ _ hW ls (lv_sub hl [4, 5, 6, 1, 0] rfl)
        · have i15 := m_c5 (rfl : x14.toInt = _) (rfl : u.toInt = _) c15
          refine lv_iconst (v := 1) hx hb dX0_bestKind_36 (by decide) ?_
          refine lv_goto (tgt := 41) hx hb dX0_bestKind_37 (by decide) ?_
          refine lv_istore (lv' := [(5, .int 1), (0, .ref (b + 71)), (1, .int k), (2, .int u), (3, .int y3), (4, .int y4)]) hx hb dX0_bestKind_41 hl (by decide) rfl (fun ls hl => ?_)
          refine lv_aload_n hx hb dX0_bestKind_43 rfl (lv_at hl 1 rfl) ?_
          refine m_getr hx hb hts hown hW (71) 0 (72) rfl rfl cw_0 rfl (by decide) k_X0_11 dX0_bestKind_44 ?_
          refine lv_iload hx hb dX0_bestKind_47 (lv_at hl 5 rfl) ?_
          refine m_iald hx hb hW (72) rfl (m_ixI (rfl : y4.toInt = _) (by omega) (by omega)) dX0_bestKind_49 ?_
          refine lv_topi (fun x25 ex25 => ?_)
          have ex25 : x25 = x3 := by rw [ex25]; exact ex3.symm
          have ex25 := ex25.symm
          subst ex25
          refine lv_iload_n hx hb dX0_bestKind_50 rfl (lv_at hl 3 rfl) ?_
          refine lv_icmp_ne (tgt := 69) hx hb dX0_bestKind_51 (by decide) (fun c26 => ?_) (fun c26 => ?_)
          · have i26 := m_c6 (rfl : x3.toInt = _) (rfl : u.toInt = _) c26
            refine lv_iconst (v := 0) hx hb dX0_bestKind_69 (by decide) ?_
            refine lv_istore (lv' := [(6, .int 0), (5, .int 1), (0, .ref (b + 71)), (1, .int k), (2, .int u), (3, .int y3), (4, .int y4)]) hx hb dX0_bestKind_70 hl (by decide) rfl (fun ls hl => ?_)
            refine lv_iload hx hb dX0_bestKind_72 (lv_at hl 1 rfl) ?_
            refine lv_if_ne (tgt := 82) hx hb dX0_bestKind_74 (by decide) (fun _ => ?_) (fun c => False.elim (by revert c; decide))
            refine lv_iload_n hx hb dX0_bestKind_82 rfl (lv_at hl 5 rfl) ?_
            refine lv_aload_n hx hb dX0_bestKind_83 rfl (lv_at hl 2 rfl) ?_
            refine m_getr hx hb hts hown hW (71) 2 (74) rfl rfl cw_0 rfl (by decide) k_X0_18 dX0_bestKind_84 ?_
            refine lv_iload hx hb dX0_bestKind_87 (lv_at hl 6 rfl) ?_
            refine m_iald hx hb hW (74) rfl (m_ixI (rfl : y4.toInt = _) (by omega) (by omega)) dX0_bestKind_89 ?_
            refine lv_topi (fun x27 ex27 => ?_)
            refine va_mmax hx hb (hml.trans hl.1.symm) hown (hts _ k_X0_42) (hts _ kM_max_s) (hts _ kM_n) (hts _ kM_max_c) (Nat.le_of_ble_eq_true rfl) (Nat.le_of_ble_eq_true rfl) (Nat.le_of_ble_eq_true rfl) (Nat.le_of_ble_eq_true rfl) dX0_bestKind_90 ?_
            refine lv_topi (fun x28 ex28 => ?_)
            have tx28 : x28.toInt = max (y3.toInt) (x27.toInt) := m_max ex28 (rfl : y3.toInt = _) (rfl : x27.toInt = _)
            refine lv_istore_n (lv' := [(3, .int x28), (6, .int 0), (5, .int 1), (0, .ref (b + 71)), (1, .int k), (2, .int u), (4, .int y4)]) hx hb dX0_bestKind_93 rfl hl (by decide) rfl (fun ls hl => ?_)
            obtain ⟨x29, ex29⟩ : ∃ z : Int32, z = y4 + 1 := ⟨_, rfl⟩
            refine lv_iinc (v := x29) (lv' := [(4, .int x29), (3, .int x28), (6, .int 0), (5, .int 1), (0, .ref (b + 71)), (1, .int k), (2, .int u)]) hx hb dX0_bestKind_94 hl (k := 6) rfl (by rw [ex29]; rfl) (by decide) rfl (fun ls hl => ?_)
            have tx29 : x29.toInt = y4.toInt + 1 := m_addI ex29 (rfl : y4.toInt = _) (by decide : (1 : Int32).toInt = 1) (by omega) (by omega)
            refine lv_goto (tgt := 5) hx hb dX0_bestKind_97 (by decide) ?_
            exact ih x28 x29 (by omega) (by omega) μ hI hm _ _ hW ls (lv_sub hl [4, 5, 6, 1, 0] rfl)
          · have i26 := m_c5 (rfl : x3.toInt = _) (rfl : u.toInt = _) c26
            refine lv_aload_n hx hb dX0_bestKind_54 rfl (lv_at hl 1 rfl) ?_
            refine m_getr hx hb hts hown hW (71) 1 (73) rfl rfl cw_0 rfl (by decide) k_X0_15 dX0_bestKind_55 ?_
            refine lv_iload hx hb dX0_bestKind_58 (lv_at hl 5 rfl) ?_
            refine m_iald hx hb hW (73) rfl (m_ixI (rfl : y4.toInt = _) (by omega) (by omega)) dX0_bestKind_60 ?_
            refine lv_topi (fun x30 ex30 => ?_)
            have ex30 : x30 = x14 := by rw [ex30]; exact ex14.symm
            have ex30 := ex30.symm
            subst ex30
            refine lv_iload_n hx hb dX0_bestKind_61 rfl (lv_at hl 2 rfl) ?_
            refine lv_icmp_ne (tgt := 69) hx hb dX0_bestKind_62 (by decide) (fun c31 => ?_) (fun c31 => ?_)
            · have i31 := m_c6 (rfl : x14.toInt = _) (rfl : k.toInt = _) c31
              refine lv_iconst (v := 0) hx hb dX0_bestKind_69 (by decide) ?_
              refine lv_istore (lv' := [(6, .int 0), (5, .int 1), (0, .ref (b + 71)), (1, .int k), (2, .int u), (3, .int y3), (4, .int y4)]) hx hb dX0_bestKind_70 hl (by decide) rfl (fun ls hl => ?_)
              refine lv_iload hx hb dX0_bestKind_72 (lv_at hl 1 rfl) ?_
              refine lv_if_ne (tgt := 82) hx hb dX0_bestKind_74 (by decide) (fun _ => ?_) (fun c => False.elim (by revert c; decide))
              refine lv_iload_n hx hb dX0_bestKind_82 rfl (lv_at hl 5 rfl) ?_
              refine lv_aload_n hx hb dX0_bestKind_83 rfl (lv_at hl 2 rfl) ?_
              refine m_getr hx hb hts hown hW (71) 2 (74) rfl rfl cw_0 rfl (by decide) k_X0_18 dX0_bestKind_84 ?_
              refine lv_iload hx hb dX0_bestKind_87 (lv_at hl 6 rfl) ?_
              refine m_iald hx hb hW (74) rfl (m_ixI (rfl : y4.toInt = _) (by omega) (by omega)) dX0_bestKind_89 ?_
              refine lv_topi (fun x32 ex32 => ?_)
              refine va_mmax hx hb (hml.trans hl.1.symm) hown (hts _ k_X0_42) (hts _ kM_max_s) (hts _ kM_n) (hts _ kM_max_c) (Nat.le_of_ble_eq_true rfl) (Nat.le_of_ble_eq_true rfl) (Nat.le_of_ble_eq_true rfl) (Nat.le_of_ble_eq_true rfl) dX0_bestKind_90 ?_
              refine lv_topi (fun x33 ex33 => ?_)
              have tx33 : x33.toInt = max (y3.toInt) (x32.toInt) := m_max ex33 (rfl : y3.toInt = _) (rfl : x32.toInt = _)
              refine lv_istore_n (lv' := [(3, .int x33), (6, .int 0), (5, .int 1), (0, .ref (b + 71)), (1, .int k), (2, .int u), (4, .int y4)]) hx hb dX0_bestKind_93 rfl hl (by decide) rfl (fun ls hl => ?_)
              obtain ⟨x34, ex34⟩ : ∃ z : Int32, z = y4 + 1 := ⟨_, rfl⟩
              refine lv_iinc (v := x34) (lv' := [(4, .int x34), (3, .int x33), (6, .int 0), (5, .int 1), (0, .ref (b + 71)), (1, .int k), (2, .int u)]) hx hb dX0_bestKind_94 hl (k := 6) rfl (by rw [ex34]; rfl) (by decide) rfl (fun ls hl => ?_)
              have tx34 : x34.toInt = y4.toInt + 1 := m_addI ex34 (rfl : y4.toInt = _) (by decide : (1 : Int32).toInt = 1) (by omega) (by omega)
              refine lv_goto (tgt := 5) hx hb dX0_bestKind_97 (by decide) ?_
              exact ih x33 x34 (by omega) (by omega) μ hI hm _ _ hW ls (lv_sub hl [4, 5, 6, 1, 0] rfl)
            · have i31 := m_c5 (rfl : x14.toInt = _) (rfl : k.toInt = _) c31
              refine lv_iconst (v := 1) hx hb dX0_bestKind_65 (by decide) ?_
              refine lv_goto (tgt := 70) hx hb dX0_bestKind_66 (by decide) ?_
              refine lv_istore (lv' := [(6, .int 1), (5, .int 1), (0, .ref (b + 71)), (1, .int k), (2, .int u), (3, .int y3), (4, .int y4)]) hx hb dX0_bestKind_70 hl (by decide) rfl (fun ls hl => ?_)
              refine lv_iload hx hb dX0_bestKind_72 (lv_at hl 1 rfl) ?_
              refine lv_if_ne (tgt := 82) hx hb dX0_bestKind_74 (by decide) (fun _ => ?_) (fun c => False.elim (by revert c; decide))
              refine lv_iload_n hx hb dX0_bestKind_82 rfl (lv_at hl 5 rfl) ?_
              refine lv_aload_n hx hb dX0_bestKind_83 rfl (lv_at hl 2 rfl) ?_
              refine m_getr hx hb hts hown hW (71) 2 (74) rfl rfl cw_0 rfl (by decide) k_X0_18 dX0_bestKind_84 ?_
              refine lv_iload hx hb dX0_bestKind_87 (lv_at hl 6 rfl) ?_
              refine m_iald hx hb hW (74) rfl (m_ixI (rfl : y4.toInt = _) (by omega) (by omega)) dX0_bestKind_89 ?_
              refine lv_topi (fun x35 ex35 => ?_)
              refine va_mmax hx hb (hml.trans hl.1.symm) hown (hts _ k_X0_42) (hts _ kM_max_s) (hts _ kM_n) (hts _ kM_max_c) (Nat.le_of_ble_eq_true rfl) (Nat.le_of_ble_eq_true rfl) (Nat.le_of_ble_eq_true rfl) (Nat.le_of_ble_eq_true rfl) dX0_bestKind_90 ?_
              refine lv_topi (fun x36 ex36 => ?_)
              have tx36 : x36.toInt = max (y3.toInt) (x35.toInt) := m_max ex36 (rfl : y3.toInt = _) (rfl : x35.toInt = _)
              refine lv_istore_n (lv' := [(3, .int x36), (6, .int 1), (5, .int 1), (0, .ref (b + 71)), (1, .int k), (2, .int u), (4, .int y4)]) hx hb dX0_bestKind_93 rfl hl (by decide) rfl (fun ls hl => ?_)
              obtain ⟨x37, ex37⟩ : ∃ z : Int32, z = y4 + 1 := ⟨_, rfl⟩
              refine lv_iinc (v := x37) (lv' := [(4, .int x37), (3, .int x36), (6, .int 1), (5, .int 1), (0, .ref (b + 71)), (1, .int k), (2, .int u)]) hx hb dX0_bestKind_94 hl (k := 6) rfl (by rw [ex37]; rfl) (by decide) rfl (fun ls hl => ?_)
              have tx37 : x37.toInt = y4.toInt + 1 := m_addI ex37 (rfl : y4.toInt = _) (by decide : (1 : Int32).toInt = 1) (by omega) (by omega)
              refine lv_goto (tgt := 5) hx hb dX0_bestKind_97 (by decide) ?_
              exact ih x36 x37 (by omega) (by omega) μ hI hm _ _ hW ls (lv_sub hl [4, 5, 6, 1, 0] rfl)
set_option maxHeartbeats 4000000 in
set_option maxRecDepth 100000 in
theorem g_X0_bestKind (l : Launch) (D : va_G) (cy : Nat → ClassId) (b : Nat) (k u : Int32) (μ : mM) (hI : IX μ) : m_Ci l yX0_bestKind cX0_bestKind 7 ((some .int)) 1 D cy b LAY μ [.ref (b + 71), .int k, .int u] (fun r ν => μ = ν ∧ (True)) := by
  unfold m_Ci
  refine m_of (by decide) (Nat.le_of_ble_eq_true rfl) ?_
  intro p e s m below meth c hx hb hr hml hown hts hlocks _ hW ls hl
  have hown : s.vm.findClass RX0 = some m.cls := hown
  have hl : lv_has ls 7 [(0, .ref (b + 71)), (1, .int k), (2, .int u)] := hl
  refine lv_iconst (v := 0) hx hb dX0_bestKind_0 (by decide) ?_
  refine lv_istore_n (lv' := [(3, .int 0), (0, .ref (b + 71)), (1, .int k), (2, .int u)]) hx hb dX0_bestKind_1 rfl hl (by decide) rfl (fun ls hl => ?_)
  refine lv_iconst (v := 0) hx hb dX0_bestKind_2 (by decide) ?_
  refine lv_istore (lv' := [(4, .int 0), (3, .int 0), (0, .ref (b + 71)), (1, .int k), (2, .int u)]) hx hb dX0_bestKind_3 hl (by decide) rfl (fun ls hl => ?_)
  have l_0 : (0 : Int32).toInt = 0 := by decide
  exact L_X0_bestKind_5 hx hb hr hml hown hts hlocks μ k u  7 0 0 (by omega) (by omega) μ hI rfl _ _ hW ls (lv_sub hl [2, 3, 4, 1, 0] rfl)
set_option maxHeartbeats 4000000 in
set_option maxRecDepth 100000 in
theorem L_X0_bestCut_54 {p : Program} {l : Launch} {e : Env} {s : State} {m : MethodId} {args : Array Value} {below : List Frame} {meth : Method} {c : Code} {D : va_G} {cy : Nat → ClassId} {b : Nat} (hx : p.tables.exec = Jvm.exec) (hb : c.code = cX0_bestCut) (hr : meth.sig.returnType = ((some .int))) (hml : c.maxLocals = 5) (hown : s.vm.findClass RX0 = some m.cls) (hts : ∀ w ∈ TB, w.before args s = true) (hlocks : meth.locks = false) (μ1 : mM) (k u : Int32) (h_k : 1 ≤ k.toInt ∧ k.toInt ≤ 40) (h_u : 1 ≤ u.toInt ∧ u.toInt ≤ 40) : ∀ (f : Nat), ∀ (y3 y4 : Int32) (hy : 1 ≤ y4.toInt ∧ y4.toInt ≤ 40) (hf : 40 - y4.toInt < (f : Int)) (μ : mM) (hI : IX μ) (hm : μ = μ1) (H : Heap) (locs : List Loc), m_WA (m_A b LAY) D cy s b LAY μ H locs → ∀ ls : Array Slot, lv_has ls 5 [(0, .ref (b + 71)), (1, .int k), (2, .int u), (3, .int y3), (4, .int y4)] → W p l e (m_R 1 0 0) s m args below meth c H locs 0 0 (MQ below (m_Qi D cy b LAY (fun r ν => μ1 = ν ∧ (True))) args s 0 0 (m_A b LAY)) (F0 m 54 ls []) := by
  intro f
  induction f with
  | zero => intro y3 y4 hy hf; exfalso; omega
  | succ f ih =>
    intro y3 y4 hy hf μ hI hm H locs hW ls hl
    refine lv_iload hx hb dX0_bestCut_54 (lv_at hl 4 rfl) ?_
    refine lv_iload_n hx hb dX0_bestCut_56 rfl (lv_at hl 2 rfl) ?_
    refine lv_iconst (v := 2) hx hb dX0_bestCut_57 (by decide) ?_
    refine lv_idiv hx hb dX0_bestCut_58 (by decide) ?_
    refine lv_topi (fun x1 ex1 => ?_)
    have tx1 : x1.toInt = u.toInt / 2 := m_divI ex1 (rfl : u.toInt = _) (by decide : (2 : Int32).toInt = 2) (by omega) (by decide)
    refine lv_icmp_gt (tgt := 100) hx hb dX0_bestCut_59 (by decide) (fun c2 => ?_) (fun c2 => ?_)
    · have i2 := m_c1 (rfl : x1.toInt = _) (rfl : y4.toInt = _) c2
      refine lv_iload_n hx hb dX0_bestCut_100 rfl (lv_at hl 3 rfl) ?_
      exact m_iret hx hb hr hlocks hW rfl (⟨hm.symm, trivial⟩) dX0_bestCut_101
    · have i2 := m_c2 (rfl : x1.toInt = _) (rfl : y4.toInt = _) c2
      refine lv_iload_n hx hb dX0_bestCut_62 rfl (lv_at hl 3 rfl) ?_
      refine lv_aload_n hx hb dX0_bestCut_63 rfl (lv_at hl 0 rfl) ?_
      refine m_getr hx hb hts hown hW (71) 3 (75) rfl rfl cw_0 rfl (by decide) k_X0_21 dX0_bestCut_64 ?_
      refine lv_iload_n hx hb dX0_bestCut_67 rfl (lv_at hl 1 rfl) ?_
      refine lv_bipush (v := 41) hx hb dX0_bestCut_68 (by decide) ?_
      refine lv_imul hx hb dX0_bestCut_70 ?_
      refine lv_topi (fun x3 ex3 => ?_)
      have tx3 : x3.toInt = k.toInt * 41 := m_mulI ex3 (rfl : k.toInt = _) (by decide : (41 : Int32).toInt = 41) (by omega) (by omega)
      refine lv_iload hx hb dX0_bestCut_71 (lv_at hl 4 rfl) ?_
      refine lv_iadd hx hb dX0_bestCut_73 ?_
      refine lv_topi (fun x4 ex4 => ?_)
      have tx4 : x4.toInt = x3.toInt + y4.toInt := m_addI ex4 (rfl : x3.toInt = _) (rfl : y4.toInt = _) (by omega) (by omega)
      refine m_iald hx hb hW (75) rfl (m_ixI (rfl : x4.toInt = _) (by omega) (by omega)) dX0_bestCut_74 ?_
      refine lv_topi (fun x5 ex5 => ?_)
      refine lv_aload_n hx hb dX0_bestCut_75 rfl (lv_at hl 0 rfl) ?_
      refine m_getr hx hb hts hown hW (71) 3 (75) rfl rfl cw_0 rfl (by decide) k_X0_21 dX0_bestCut_76 ?_
      refine lv_iload_n hx hb dX0_bestCut_79 rfl (lv_at hl 1 rfl) ?_
      refine lv_bipush (v := 41) hx hb dX0_bestCut_80 (by decide) ?_
      refine lv_imul hx hb dX0_bestCut_82 ?_
      refine lv_topi (fun x6 ex6 => ?_)
      have ex6 : x6 = x3 := ex6.trans ex3.symm
      have ex6 := ex6.symm
      subst ex6
      refine lv_iload_n hx hb dX0_bestCut_83 rfl (lv_at hl 2 rfl) ?_
      refine lv_iadd hx hb dX0_bestCut_84 ?_
      refine lv_topi (fun x7 ex7 => ?_)
      have tx7 : x7.toInt = x3.toInt + u.toInt := m_addI ex7 (rfl : x3.toInt = _) (rfl : u.toInt = _) (by omega) (by omega)
      refine lv_iload hx hb dX0_bestCut_85 (lv_at hl 4 rfl) ?_
      refine lv_isub hx hb dX0_bestCut_87 ?_
      refine lv_topi (fun x8 ex8 => ?_)
      have tx8 : x8.toInt = x7.toInt - y4.toInt := m_subI ex8 (rfl : x7.toInt = _) (rfl : y4.toInt = _) (by omega) (by omega)
      refine m_iald hx hb hW (75) rfl (m_ixI (rfl : x8.toInt = _) (by omega) (by omega)) dX0_bestCut_88 ?_
      refine lv_topi (fun x9 ex9 => ?_)
      refine lv_iadd hx hb dX0_bestCut_89 ?_
      refine lv_topi (fun x10 ex10 => ?_)
      refine va_mmax hx hb (hml.trans hl.1.symm) hown (hts _ k_X0_42) (hts _ kM_max_s) (hts _ kM_n) (hts _ kM_max_c) (Nat.le_of_ble_eq_true rfl) (Nat.le_of_ble_eq_true rfl) (Nat.le_of_ble_eq_true rfl) (Nat.le_of_ble_eq_true rfl) dX0_bestCut_90 ?_
      refine lv_topi (fun x11 ex11 => ?_)
      have tx11 : x11.toInt = max (y3.toInt) (x10.toInt) := m_max ex11 (rfl : y3.toInt = _) (rfl : x10.toInt = _)
      refine lv_istore_n (lv' := [(3, .int x11), (0, .ref (b + 71)), (1, .int k), (2, .int u), (4, .int y4)]) hx hb dX0_bestCut_93 rfl hl (by decide) rfl (fun ls hl => ?_)
      obtain ⟨x12, ex12⟩ : ∃ z : Int32, z = y4 + 1 := ⟨_, rfl⟩
      refine lv_iinc (v := x12) (lv' := [(4, .int x12), (3, .int x11), (0, .ref (b + 71)), (1, .int k), (2, .int u)]) hx hb dX0_bestCut_94 hl (k := 4) rfl (by rw [ex12]; rfl) (by decide) rfl (fun ls hl => ?_)
      have tx12 : x12.toInt = y4.toInt + 1 := m_addI ex12 (rfl : y4.toInt = _) (by decide : (1 : Int32).toInt = 1) (by omega) (by omega)
      refine lv_goto (tgt := 54) hx hb dX0_bestCut_97 (by decide) ?_
      exact ih x11 x12 (by omega) (by omega) μ hI hm _ _ hW ls (lv_sub hl [2, 3, 4, 1, 0] rfl)
set_option maxHeartbeats 4000000 in
set_option maxRecDepth 100000 in
theorem L_X0_bestCut_5 {p : Program} {l : Launch} {e : Env} {s : State} {m : MethodId} {args : Array Value} {below : List Frame} {meth : Method} {c : Code} {D : va_G} {cy : Nat → ClassId} {b : Nat} (hx : p.tables.exec = Jvm.exec) (hb : c.code = cX0_bestCut) (hr : meth.sig.returnType = ((some .int))) (hml : c.maxLocals = 5) (hown : s.vm.findClass RX0 = some m.cls) (hts : ∀ w ∈ TB, w.before args s = true) (hlocks : meth.locks = false) (μ1 : mM) (k u : Int32) (h_k : 1 ≤ k.toInt ∧ k.toInt ≤ 40) (h_u : 1 ≤ u.toInt ∧ u.toInt ≤ 40) : ∀ (f : Nat), ∀ (y3 y4 : Int32) (hy : 1 ≤ y4.toInt ∧ y4.toInt ≤ 40) (hf : 40 - y4.toInt < (f : Int)) (μ : mM) (hI : IX μ) (hm : μ = μ1) (H : Heap) (locs : List Loc), m_WA (m_A b LAY) D cy s b LAY μ H locs → ∀ ls : Array Slot, lv_has ls 5 [(0, .ref (b + 71)), (1, .int k), (2, .int u), (3, .int y3), (4, .int y4)] → W p l e (m_R 1 0 0) s m args below meth c H locs 0 0 (MQ below (m_Qi D cy b LAY (fun r ν => μ1 = ν ∧ (True))) args s 0 0 (m_A b LAY)) (F0 m 5 ls []) := by
  intro f
  induction f with
  | zero => intro y3 y4 hy hf; exfalso; omega
  | succ f ih =>
    intro y3 y4 hy hf μ hI hm H locs hW ls hl
    refine lv_iload hx hb dX0_bestCut_5 (lv_at hl 4 rfl) ?_
    refine lv_iload_n hx hb dX0_bestCut_7 rfl (lv_at hl 1 rfl) ?_
    refine lv_iconst (v := 2) hx hb dX0_bestCut_8 (by decide) ?_
    refine lv_idiv hx hb dX0_bestCut_9 (by decide) ?_
    refine lv_topi (fun x1 ex1 => ?_)
    have tx1 : x1.toInt = k.toInt / 2 := m_divI ex1 (rfl : k.toInt = _) (by decide : (2 : Int32).toInt = 2) (by omega) (by decide)
    refine lv_icmp_gt (tgt := 51) hx hb dX0_bestCut_10 (by decide) (fun c2 => ?_) (fun c2 => ?_)
    · have i2 := m_c1 (rfl : x1.toInt = _) (rfl : y4.toInt = _) c2
      refine lv_iconst (v := 1) hx hb dX0_bestCut_51 (by decide) ?_
      refine lv_istore (lv' := [(4, .int 1), (0, .ref (b + 71)), (1, .int k), (2, .int u), (3, .int y3)]) hx hb dX0_bestCut_52 hl (by decide) rfl (fun ls hl => ?_)
      have l_1 : (1 : Int32).toInt = 1 := by decide
      exact L_X0_bestCut_54 hx hb hr hml hown hts hlocks μ1 k u h_k h_u  41 y3 1 (by omega) (by omega) μ hI hm _ _ hW ls (lv_sub hl [1, 2, 3, 4, 0] rfl)
    · have i2 := m_c2 (rfl : x1.toInt = _) (rfl : y4.toInt = _) c2
      refine lv_iload_n hx hb dX0_bestCut_13 rfl (lv_at hl 3 rfl) ?_
      refine lv_aload_n hx hb dX0_bestCut_14 rfl (lv_at hl 0 rfl) ?_
      refine m_getr hx hb hts hown hW (71) 3 (75) rfl rfl cw_0 rfl (by decide) k_X0_21 dX0_bestCut_15 ?_
      refine lv_iload hx hb dX0_bestCut_18 (lv_at hl 4 rfl) ?_
      refine lv_bipush (v := 41) hx hb dX0_bestCut_20 (by decide) ?_
      refine lv_imul hx hb dX0_bestCut_22 ?_
      refine lv_topi (fun x3 ex3 => ?_)
      have tx3 : x3.toInt = y4.toInt * 41 := m_mulI ex3 (rfl : y4.toInt = _) (by decide : (41 : Int32).toInt = 41) (by omega) (by omega)
      refine lv_iload_n hx hb dX0_bestCut_23 rfl (lv_at hl 2 rfl) ?_
      refine lv_iadd hx hb dX0_bestCut_24 ?_
      refine lv_topi (fun x4 ex4 => ?_)
      have tx4 : x4.toInt = x3.toInt + u.toInt := m_addI ex4 (rfl : x3.toInt = _) (rfl : u.toInt = _) (by omega) (by omega)
      refine m_iald hx hb hW (75) rfl (m_ixI (rfl : x4.toInt = _) (by omega) (by omega)) dX0_bestCut_25 ?_
      refine lv_topi (fun x5 ex5 => ?_)
      refine lv_aload_n hx hb dX0_bestCut_26 rfl (lv_at hl 0 rfl) ?_
      refine m_getr hx hb hts hown hW (71) 3 (75) rfl rfl cw_0 rfl (by decide) k_X0_21 dX0_bestCut_27 ?_
      refine lv_iload_n hx hb dX0_bestCut_30 rfl (lv_at hl 1 rfl) ?_
      refine lv_iload hx hb dX0_bestCut_31 (lv_at hl 4 rfl) ?_
      refine lv_isub hx hb dX0_bestCut_33 ?_
      refine lv_topi (fun x6 ex6 => ?_)
      have tx6 : x6.toInt = k.toInt - y4.toInt := m_subI ex6 (rfl : k.toInt = _) (rfl : y4.toInt = _) (by omega) (by omega)
      refine lv_bipush (v := 41) hx hb dX0_bestCut_34 (by decide) ?_
      refine lv_imul hx hb dX0_bestCut_36 ?_
      refine lv_topi (fun x7 ex7 => ?_)
      have tx7 : x7.toInt = x6.toInt * 41 := m_mulI ex7 (rfl : x6.toInt = _) (by decide : (41 : Int32).toInt = 41) (by omega) (by omega)
      refine lv_iload_n hx hb dX0_bestCut_37 rfl (lv_at hl 2 rfl) ?_
      refine lv_iadd hx hb dX0_bestCut_38 ?_
      refine lv_topi (fun x8 ex8 => ?_)
      have tx8 : x8.toInt = x7.toInt + u.toInt := m_addI ex8 (rfl : x7.toInt = _) (rfl : u.toInt = _) (by omega) (by omega)
      refine m_iald hx hb hW (75) rfl (m_ixI (rfl : x8.toInt = _) (by omega) (by omega)) dX0_bestCut_39 ?_
      refine lv_topi (fun x9 ex9 => ?_)
      refine lv_iadd hx hb dX0_bestCut_40 ?_
      refine lv_topi (fun x10 ex10 => ?_)
      refine va_mmax hx hb (hml.trans hl.1.symm) hown (hts _ k_X0_42) (hts _ kM_max_s) (hts _ kM_n) (hts _ kM_max_c) (Nat.le_of_ble_eq_true rfl) (Nat.le_of_ble_eq_true rfl) (Nat.le_of_ble_eq_true rfl) (Nat.le_of_ble_eq_true rfl) dX0_bestCut_41 ?_
      refine lv_topi (fun x11 ex11 => ?_)
      have tx11 : x11.toInt = max (y3.toInt) (x10.toInt) := m_max ex11 (rfl : y3.toInt = _) (rfl : x10.toInt = _)
      refine lv_istore_n (lv' := [(3, .int x11), (0, .ref (b + 71)), (1, .int k), (2, .int u), (4, .int y4)]) hx hb dX0_bestCut_44 rfl hl (by decide) rfl (fun ls hl => ?_)
      obtain ⟨x12, ex12⟩ : ∃ z : Int32, z = y4 + 1 := ⟨_, rfl⟩
      refine lv_iinc (v := x12) (lv' := [(4, .int x12), (3, .int x11), (0, .ref (b + 71)), (1, .int k), (2, .int u)]) hx hb dX0_bestCut_45 hl (k := 4) rfl (by rw [ex12]; rfl) (by decide) rfl (fun ls hl => ?_)
      have tx12 : x12.toInt = y4.toInt + 1 := m_addI ex12 (rfl : y4.toInt = _) (by decide : (1 : Int32).toInt = 1) (by omega) (by omega)
      refine lv_goto (tgt := 5) hx hb dX0_bestCut_48 (by decide) ?_
      exact ih x11 x12 (by omega) (by omega) μ hI hm _ _ hW ls (lv_sub hl [2, 3, 4, 1, 0] rfl)
set_option maxHeartbeats 4000000 in
set_option maxRecDepth 100000 in
theorem g_X0_bestCut (l : Launch) (D : va_G) (cy : Nat → ClassId) (b : Nat) (k u : Int32) (h_k : 1 ≤ k.toInt ∧ k.toInt ≤ 40) (h_u : 1 ≤ u.toInt ∧ u.toInt ≤ 40) (μ : mM) (hI : IX μ) : m_Ci l yX0_bestCut cX0_bestCut 5 ((some .int)) 1 D cy b LAY μ [.ref (b + 71), .int k, .int u] (fun r ν => μ = ν ∧ (True)) := by
  unfold m_Ci
  refine m_of (by decide) (Nat.le_of_ble_eq_true rfl) ?_
  intro p e s m below meth c hx hb hr hml hown hts hlocks _ hW ls hl
  have hown : s.vm.findClass RX0 = some m.cls := hown
  have hl : lv_has ls 5 [(0, .ref (b + 71)), (1, .int k), (2, .int u)] := hl
  refine lv_iconst (v := 0) hx hb dX0_bestCut_0 (by decide) ?_
  refine lv_istore_n (lv' := [(3, .int 0), (0, .ref (b + 71)), (1, .int k), (2, .int u)]) hx hb dX0_bestCut_1 rfl hl (by decide) rfl (fun ls hl => ?_)
  refine lv_iconst (v := 1) hx hb dX0_bestCut_2 (by decide) ?_
  refine lv_istore (lv' := [(4, .int 1), (3, .int 0), (0, .ref (b + 71)), (1, .int k), (2, .int u)]) hx hb dX0_bestCut_3 hl (by decide) rfl (fun ls hl => ?_)
  have l_0 : (0 : Int32).toInt = 0 := by decide
  have l_1 : (1 : Int32).toInt = 1 := by decide
  exact L_X0_bestCut_5 hx hb hr hml hown hts hlocks μ k u h_k h_u  41 0 1 (by omega) (by omega) μ hI rfl _ _ hW ls (lv_sub hl [2, 3, 4, 1, 0] rfl)
set_option maxHeartbeats 4000000 in
set_option maxRecDepth 100000 in
theorem L_X0_fillAll_10 {p : Program} {l : Launch} {e : Env} {s : State} {m : MethodId} {args : Array Value} {below : List Frame} {meth : Method} {c : Code} {D : va_G} {cy : Nat → ClassId} {b : Nat} (hx : p.tables.exec = Jvm.exec) (hb : c.code = cX0_fillAll) (hr : meth.sig.returnType = (none)) (hml : c.maxLocals = 3) (hown : s.vm.findClass RX0 = some m.cls) (hts : ∀ w ∈ TB, w.before args s = true) (hlocks : meth.locks = false) (S : Nat → Bool) (μ0 : mM) (hS9 : S 9 = true) (F2 : Nat) (O2 : ∀ (y1 : Int32) (hy : 1 ≤ y1.toInt ∧ y1.toInt ≤ 41) (hf : 41 - y1.toInt < (F2 : Int)) (μ : mM) (hI : IY S μ0 μ) (H : Heap) (locs : List Loc), m_WA (m_A b LAY) D cy s b LAY μ H locs → ∀ ls : Array Slot, lv_has ls 3 [(0, .ref (b + 71)), (1, .int y1)] → W p l e (m_R 2 0 0) s m args below meth c H locs 0 0 (MQ below (m_Qv D cy b LAY (fun ν => IY S μ0 ν ∧ (True))) args s 0 0 (m_A b LAY)) (F0 m 2 ls [])) : ∀ (f : Nat), ∀ (y1 y2 : Int32) (hy : 41 - y1.toInt < (F2 : Int) + 1 ∧ 1 ≤ y1.toInt ∧ y1.toInt ≤ 40 ∧ 1 ≤ y2.toInt ∧ y2.toInt ≤ 41 ∧ 1 ≤ y1.toInt ∧ y1.toInt ≤ 41) (hf : 41 - y2.toInt < (f : Int)) (μ : mM) (hI : IY S μ0 μ) (H : Heap) (locs : List Loc), m_WA (m_A b LAY) D cy s b LAY μ H locs → ∀ ls : Array Slot, lv_has ls 3 [(0, .ref (b + 71)), (1, .int y1), (2, .int y2)] → W p l e (m_R 2 0 0) s m args below meth c H locs 0 0 (MQ below (m_Qv D cy b LAY (fun ν => IY S μ0 ν ∧ (True))) args s 0 0 (m_A b LAY)) (F0 m 10 ls []) := by
  intro f
  induction f with
  | zero => intro y1 y2 hy hf; exfalso; omega
  | succ f ih =>
    intro y1 y2 hy hf μ hI H locs hW ls hl
    refine lv_iload_n hx hb dX0_fillAll_10 rfl (lv_at hl 2 rfl) ?_
    refine lv_bipush (v := 40) hx hb dX0_fillAll_11 (by decide) ?_
    refine lv_icmp_gt (tgt := 48) hx hb dX0_fillAll_13 (by decide) (fun c1 => ?_) (fun c1 => ?_)
    · have i1 := m_c1 (by decide : (40 : Int32).toInt = 40) (rfl : y2.toInt = _) c1
      obtain ⟨x2, ex2⟩ : ∃ z : Int32, z = y1 + 1 := ⟨_, rfl⟩
      refine lv_iinc (v := x2) (lv' := [(1, .int x2), (0, .ref (b + 71)), (2, .int y2)]) hx hb dX0_fillAll_48 hl (k := 1) rfl (by rw [ex2]; rfl) (by decide) rfl (fun ls hl => ?_)
      have tx2 : x2.toInt = y1.toInt + 1 := m_addI ex2 (rfl : y1.toInt = _) (by decide : (1 : Int32).toInt = 1) (by omega) (by omega)
      refine lv_goto (tgt := 2) hx hb dX0_fillAll_51 (by decide) ?_
      exact O2 x2 (by omega) (by omega) μ hI _ _ hW ls (lv_sub hl [1, 0] rfl)
    · have i1 := m_c2 (by decide : (40 : Int32).toInt = 40) (rfl : y2.toInt = _) c1
      refine lv_aload_n hx hb dX0_fillAll_16 rfl (lv_at hl 0 rfl) ?_
      refine m_getr hx hb hts hown hW (71) 3 (75) rfl rfl cw_0 rfl (by decide) k_X0_21 dX0_fillAll_17 ?_
      refine lv_iload_n hx hb dX0_fillAll_20 rfl (lv_at hl 1 rfl) ?_
      refine lv_bipush (v := 41) hx hb dX0_fillAll_21 (by decide) ?_
      refine lv_imul hx hb dX0_fillAll_23 ?_
      refine lv_topi (fun x3 ex3 => ?_)
      have tx3 : x3.toInt = y1.toInt * 41 := m_mulI ex3 (rfl : y1.toInt = _) (by decide : (41 : Int32).toInt = 41) (by omega) (by omega)
      refine lv_iload_n hx hb dX0_fillAll_24 rfl (lv_at hl 2 rfl) ?_
      refine lv_iadd hx hb dX0_fillAll_25 ?_
      refine lv_topi (fun x4 ex4 => ?_)
      have tx4 : x4.toInt = x3.toInt + y2.toInt := m_addI ex4 (rfl : x3.toInt = _) (rfl : y2.toInt = _) (by omega) (by omega)
      refine lv_aload_n hx hb dX0_fillAll_26 rfl (lv_at hl 0 rfl) ?_
      refine lv_iload_n hx hb dX0_fillAll_27 rfl (lv_at hl 1 rfl) ?_
      refine lv_iload_n hx hb dX0_fillAll_28 rfl (lv_at hl 2 rfl) ?_
      refine m_aI hW (m_runV (As := [.int y1, .int y2]) (rest := [.int x4, .ref (b + 75)]) hx hb hml hown hts hW (71) (g_X0_bestKind l D cy b y1 y2 μ hI.1) mi_X0_bestKind k_X0_35 rfl rfl rfl hl.1 rfl (Nat.le_of_ble_eq_true rfl) dX0_fillAll_29 ⟨Nat.le_of_ble_eq_true rfl, Nat.le_of_ble_eq_true rfl⟩ ⟨Nat.le_of_ble_eq_true rfl, Nat.le_of_ble_eq_true rfl⟩) (fun x5 μ5 H locs q5 hW => ?_)
      obtain ⟨q5_m, q5⟩ := q5
      subst q5_m
      refine lv_aload_n hx hb dX0_fillAll_32 rfl (lv_at hl 0 rfl) ?_
      refine lv_iload_n hx hb dX0_fillAll_33 rfl (lv_at hl 1 rfl) ?_
      refine lv_iload_n hx hb dX0_fillAll_34 rfl (lv_at hl 2 rfl) ?_
      refine m_aI hW (m_runV (As := [.int y1, .int y2]) (rest := [.int x5, .int x4, .ref (b + 75)]) hx hb hml hown hts hW (71) (g_X0_bestCut l D cy b y1 y2 (by omega) (by omega) μ hI.1) mi_X0_bestCut k_X0_39 rfl rfl rfl hl.1 rfl (Nat.le_of_ble_eq_true rfl) dX0_fillAll_35 ⟨Nat.le_of_ble_eq_true rfl, Nat.le_of_ble_eq_true rfl⟩ ⟨Nat.le_of_ble_eq_true rfl, Nat.le_of_ble_eq_true rfl⟩) (fun x6 μ6 H locs q6 hW => ?_)
      obtain ⟨q6_m, q6⟩ := q6
      subst q6_m
      refine va_mmax hx hb (hml.trans hl.1.symm) hown (hts _ k_X0_42) (hts _ kM_max_s) (hts _ kM_n) (hts _ kM_max_c) (Nat.le_of_ble_eq_true rfl) (Nat.le_of_ble_eq_true rfl) (Nat.le_of_ble_eq_true rfl) (Nat.le_of_ble_eq_true rfl) dX0_fillAll_38 ?_
      refine lv_topi (fun x7 ex7 => ?_)
      have tx7 : x7.toInt = max (x5.toInt) (x6.toInt) := m_max ex7 (rfl : x5.toInt = _) (rfl : x6.toInt = _)
      refine m_iast hx hb hW (75) rfl (m_ixI (rfl : x4.toInt = _) (by omega) (by omega)) dX0_fillAll_41 (fun H locs hW _ => ?_)
      generalize hμ8 : m_si μ (75) (x4 : Int32).toNatClampNeg x7 = μ8 at hW
      have hI := hI.si0 hμ8 rfl hS9
      obtain ⟨x9, ex9⟩ : ∃ z : Int32, z = y2 + 1 := ⟨_, rfl⟩
      refine lv_iinc (v := x9) (lv' := [(2, .int x9), (0, .ref (b + 71)), (1, .int y1)]) hx hb dX0_fillAll_42 hl (k := 2) rfl (by rw [ex9]; rfl) (by decide) rfl (fun ls hl => ?_)
      have tx9 : x9.toInt = y2.toInt + 1 := m_addI ex9 (rfl : y2.toInt = _) (by decide : (1 : Int32).toInt = 1) (by omega) (by omega)
      refine lv_goto (tgt := 10) hx hb dX0_fillAll_45 (by decide) ?_
      exact ih y1 x9 (by omega) (by omega) μ8 hI _ _ hW ls (lv_sub hl [1, 2, 0] rfl)
set_option maxHeartbeats 4000000 in
set_option maxRecDepth 100000 in
theorem L_X0_fillAll_2 {p : Program} {l : Launch} {e : Env} {s : State} {m : MethodId} {args : Array Value} {below : List Frame} {meth : Method} {c : Code} {D : va_G} {cy : Nat → ClassId} {b : Nat} (hx : p.tables.exec = Jvm.exec) (hb : c.code = cX0_fillAll) (hr : meth.sig.returnType = (none)) (hml : c.maxLocals = 3) (hown : s.vm.findClass RX0 = some m.cls) (hts : ∀ w ∈ TB, w.before args s = true) (hlocks : meth.locks = false) (S : Nat → Bool) (μ0 : mM) (hS9 : S 9 = true) : ∀ (f : Nat), ∀ (y1 : Int32) (hy : 1 ≤ y1.toInt ∧ y1.toInt ≤ 41) (hf : 41 - y1.toInt < (f : Int)) (μ : mM) (hI : IY S μ0 μ) (H : Heap) (locs : List Loc), m_WA (m_A b LAY) D cy s b LAY μ H locs → ∀ ls : Array Slot, lv_has ls 3 [(0, .ref (b + 71)), (1, .int y1)] → W p l e (m_R 2 0 0) s m args below meth c H locs 0 0 (MQ below (m_Qv D cy b LAY (fun ν => IY S μ0 ν ∧ (True))) args s 0 0 (m_A b LAY)) (F0 m 2 ls []) := by
  intro f
  induction f with
  | zero => intro y1 hy hf; exfalso; omega
  | succ f ih =>
    intro y1 hy hf μ hI H locs hW ls hl
    refine lv_iload_n hx hb dX0_fillAll_2 rfl (lv_at hl 1 rfl) ?_
    refine lv_bipush (v := 40) hx hb dX0_fillAll_3 (by decide) ?_
    refine lv_icmp_gt (tgt := 54) hx hb dX0_fillAll_5 (by decide) (fun c1 => ?_) (fun c1 => ?_)
    · have i1 := m_c1 (by decide : (40 : Int32).toInt = 40) (rfl : y1.toInt = _) c1
      exact m_vret hx hb hr hlocks hW (⟨hI, trivial⟩) dX0_fillAll_54
    · have i1 := m_c2 (by decide : (40 : Int32).toInt = 40) (rfl : y1.toInt = _) c1
      refine lv_iconst (v := 1) hx hb dX0_fillAll_8 (by decide) ?_
      refine lv_istore_n (lv' := [(2, .int 1), (0, .ref (b + 71)), (1, .int y1)]) hx hb dX0_fillAll_9 rfl hl (by decide) rfl (fun ls hl => ?_)
      have l_1 : (1 : Int32).toInt = 1 := by decide
      exact L_X0_fillAll_10 hx hb hr hml hown hts hlocks S μ0 hS9 f ih 42 y1 1 (by omega) (by omega) μ hI _ _ hW ls (lv_sub hl [1, 2, 0] rfl)
set_option maxHeartbeats 4000000 in
set_option maxRecDepth 100000 in
theorem g_X0_fillAll (l : Launch) (D : va_G) (cy : Nat → ClassId) (b : Nat) (S : Nat → Bool) (μ0 : mM) (hS9 : S 9 = true) (μ : mM) (hI : IY S μ0 μ) : m_Cv l yX0_fillAll cX0_fillAll 3 (none) 2 D cy b LAY μ [.ref (b + 71)] (fun ν => IY S μ0 ν ∧ (True)) := by
  unfold m_Cv
  refine m_of (by decide) (Nat.le_of_ble_eq_true rfl) ?_
  intro p e s m below meth c hx hb hr hml hown hts hlocks _ hW ls hl
  have hown : s.vm.findClass RX0 = some m.cls := hown
  have hl : lv_has ls 3 [(0, .ref (b + 71))] := hl
  refine lv_iconst (v := 1) hx hb dX0_fillAll_0 (by decide) ?_
  refine lv_istore_n (lv' := [(1, .int 1), (0, .ref (b + 71))]) hx hb dX0_fillAll_1 rfl hl (by decide) rfl (fun ls hl => ?_)
  have l_1 : (1 : Int32).toInt = 1 := by decide
  exact L_X0_fillAll_2 hx hb hr hml hown hts hlocks S μ0 hS9  42 1 (by omega) (by omega) μ hI _ _ hW ls (lv_sub hl [1, 0] rfl)
set_option maxHeartbeats 4000000 in
set_option maxRecDepth 100000 in
theorem g_X0_addKind (l : Launch) (D : va_G) (cy : Nat → ClassId) (b : Nat) (S : Nat → Bool) (μ0 : mM) (hS9 : S 9 = true) (k u v : Int32) (μ : mM) (hI : IY S μ0 μ) : m_Ci l yX0_addKind cX0_addKind 4 ((some .int)) 3 D cy b LAY μ [.ref (b + 71), .int k, .int u, .int v] (fun r ν => IY S μ0 ν ∧ (True)) := by
  unfold m_Ci
  refine m_of (by decide) (Nat.le_of_ble_eq_true rfl) ?_
  intro p e s m below meth c hx hb hr hml hown hts hlocks _ hW ls hl
  have hown : s.vm.findClass RX0 = some m.cls := hown
  have hl : lv_has ls 4 [(0, .ref (b + 71)), (1, .int k), (2, .int u), (3, .int v)] := hl
  refine lv_iload_n hx hb dX0_addKind_0 rfl (lv_at hl 1 rfl) ?_
  refine lv_iconst (v := 1) hx hb dX0_addKind_1 (by decide) ?_
  refine lv_bipush (v := 40) hx hb dX0_addKind_2 (by decide) ?_
  have l_1 : (1 : Int32).toInt = 1 := by decide
  have l_40 : (40 : Int32).toInt = 40 := by decide
  refine m_aI hW (m_runSN (As := [.int k, .int 1, .int 40]) (rest := []) hx hb hml hown hts hW (g_X11_within l D cy b k 1 40 μ hI.1) ms_X11_within n_X0_28 rfl hl.1 rfl (Nat.le_of_ble_eq_true rfl) dX0_addKind_4 ⟨Nat.le_of_ble_eq_true rfl, Nat.le_of_ble_eq_true rfl⟩ ⟨Nat.le_of_ble_eq_true rfl, Nat.le_of_ble_eq_true rfl⟩) (fun x1 μ1 H locs q1 hW => ?_)
  obtain ⟨q1_m, q1⟩ := q1
  subst q1_m
  rcases q1 with ⟨rfl, q1⟩ | ⟨rfl, q1⟩
  · refine lv_if_eq (tgt := 40) hx hb dX0_addKind_7 (by decide) (fun c => False.elim (by revert c; decide)) (fun _ => ?_)
    refine lv_iload_n hx hb dX0_addKind_10 rfl (lv_at hl 2 rfl) ?_
    refine lv_iconst (v := 1) hx hb dX0_addKind_11 (by decide) ?_
    refine lv_bipush (v := 40) hx hb dX0_addKind_12 (by decide) ?_
    refine m_aI hW (m_runSN (As := [.int u, .int 1, .int 40]) (rest := []) hx hb hml hown hts hW (g_X11_within l D cy b u 1 40 μ hI.1) ms_X11_within n_X0_28 rfl hl.1 rfl (Nat.le_of_ble_eq_true rfl) dX0_addKind_14 ⟨Nat.le_of_ble_eq_true rfl, Nat.le_of_ble_eq_true rfl⟩ ⟨Nat.le_of_ble_eq_true rfl, Nat.le_of_ble_eq_true rfl⟩) (fun x2 μ2 H locs q2 hW => ?_)
    obtain ⟨q2_m, q2⟩ := q2
    subst q2_m
    rcases q2 with ⟨rfl, q2⟩ | ⟨rfl, q2⟩
    · refine lv_if_eq (tgt := 40) hx hb dX0_addKind_17 (by decide) (fun c => False.elim (by revert c; decide)) (fun _ => ?_)
      refine lv_iload_n hx hb dX0_addKind_20 rfl (lv_at hl 3 rfl) ?_
      refine lv_iconst (v := 0) hx hb dX0_addKind_21 (by decide) ?_
      refine lv_sipush (v := 999) hx hb dX0_addKind_22 (by decide) ?_
      have l_0 : (0 : Int32).toInt = 0 := by decide
      have l_999 : (999 : Int32).toInt = 999 := by decide
      refine m_aI hW (m_runSN (As := [.int v, .int 0, .int 999]) (rest := []) hx hb hml hown hts hW (g_X11_within l D cy b v 0 999 μ hI.1) ms_X11_within n_X0_28 rfl hl.1 rfl (Nat.le_of_ble_eq_true rfl) dX0_addKind_25 ⟨Nat.le_of_ble_eq_true rfl, Nat.le_of_ble_eq_true rfl⟩ ⟨Nat.le_of_ble_eq_true rfl, Nat.le_of_ble_eq_true rfl⟩) (fun x3 μ3 H locs q3 hW => ?_)
      obtain ⟨q3_m, q3⟩ := q3
      subst q3_m
      rcases q3 with ⟨rfl, q3⟩ | ⟨rfl, q3⟩
      · refine lv_if_eq (tgt := 40) hx hb dX0_addKind_28 (by decide) (fun c => False.elim (by revert c; decide)) (fun _ => ?_)
        refine lv_aload_n hx hb dX0_addKind_31 rfl (lv_at hl 0 rfl) ?_
        refine m_geti hx hb hts hown hW (71) 4 rfl rfl cw_0 rfl (by decide) k_X0_24 dX0_addKind_32 ?_
        refine lv_topi (fun x4 ex4 => ?_)
        have bx4 : 0 ≤ x4.toInt ∧ x4.toInt ≤ 6 := by rw [ex4]; exact hI.1 _ _ _ _ rfl
        refine lv_bipush (v := 6) hx hb dX0_addKind_35 (by decide) ?_
        refine lv_icmp_lt (tgt := 42) hx hb dX0_addKind_37 (by decide) (fun c5 => ?_) (fun c5 => ?_)
        · have i5 := m_c1 (rfl : x4.toInt = _) (by decide : (6 : Int32).toInt = 6) c5
          refine lv_aload_n hx hb dX0_addKind_42 rfl (lv_at hl 0 rfl) ?_
          refine m_getr hx hb hts hown hW (71) 0 (72) rfl rfl cw_0 rfl (by decide) k_X0_11 dX0_addKind_43 ?_
          refine lv_aload_n hx hb dX0_addKind_46 rfl (lv_at hl 0 rfl) ?_
          refine m_geti hx hb hts hown hW (71) 4 rfl rfl cw_0 rfl (by decide) k_X0_24 dX0_addKind_47 ?_
          refine lv_topi (fun x6 ex6 => ?_)
          have ex6 : x6 = x4 := by rw [ex6]; exact ex4.symm
          have ex6 := ex6.symm
          subst ex6
          refine lv_iload_n hx hb dX0_addKind_50 rfl (lv_at hl 1 rfl) ?_
          refine m_iast hx hb hW (72) rfl (m_ixI (rfl : x4.toInt = _) (by omega) (by omega)) dX0_addKind_51 (fun H locs hW _ => ?_)
          generalize hμ7 : m_si μ (72) (x4 : Int32).toNatClampNeg k = μ7 at hW
          have hI := hI.si0 hμ7 rfl hS9
          refine lv_aload_n hx hb dX0_addKind_52 rfl (lv_at hl 0 rfl) ?_
          refine m_getr hx hb hts hown hW (71) 1 (73) rfl rfl cw_0 rfl (by decide) k_X0_15 dX0_addKind_53 ?_
          refine lv_aload_n hx hb dX0_addKind_56 rfl (lv_at hl 0 rfl) ?_
          refine m_geti hx hb hts hown hW (71) 4 rfl rfl cw_0 rfl (by decide) k_X0_24 dX0_addKind_57 ?_
          refine lv_topi (fun x8 ex8 => ?_)
          have ex8 : x8 = x4 := by rw [ex8, ← hμ7]; exact ex4.symm
          have ex8 := ex8.symm
          subst ex8
          refine lv_iload_n hx hb dX0_addKind_60 rfl (lv_at hl 2 rfl) ?_
          refine m_iast hx hb hW (73) rfl (m_ixI (rfl : x4.toInt = _) (by omega) (by omega)) dX0_addKind_61 (fun H locs hW _ => ?_)
          generalize hμ9 : m_si μ7 (73) (x4 : Int32).toNatClampNeg u = μ9 at hW
          have hI := hI.si0 hμ9 rfl hS9
          refine lv_aload_n hx hb dX0_addKind_62 rfl (lv_at hl 0 rfl) ?_
          refine m_getr hx hb hts hown hW (71) 2 (74) rfl rfl cw_0 rfl (by decide) k_X0_18 dX0_addKind_63 ?_
          refine lv_aload_n hx hb dX0_addKind_66 rfl (lv_at hl 0 rfl) ?_
          refine m_geti hx hb hts hown hW (71) 4 rfl rfl cw_0 rfl (by decide) k_X0_24 dX0_addKind_67 ?_
          refine lv_topi (fun x10 ex10 => ?_)
          have ex10 : x10 = x4 := by rw [ex10, ← hμ9, ← hμ7]; exact ex4.symm
          have ex10 := ex10.symm
          subst ex10
          refine lv_iload_n hx hb dX0_addKind_70 rfl (lv_at hl 3 rfl) ?_
          refine m_iast hx hb hW (74) rfl (m_ixI (rfl : x4.toInt = _) (by omega) (by omega)) dX0_addKind_71 (fun H locs hW _ => ?_)
          generalize hμ11 : m_si μ9 (74) (x4 : Int32).toNatClampNeg v = μ11 at hW
          have hI := hI.si0 hμ11 rfl hS9
          refine lv_aload_n hx hb dX0_addKind_72 rfl (lv_at hl 0 rfl) ?_
          refine lv_dup hx hb dX0_addKind_73 rfl ?_
          refine m_geti hx hb hts hown hW (71) 4 rfl rfl cw_0 rfl (by decide) k_X0_24 dX0_addKind_74 ?_
          refine lv_topi (fun x12 ex12 => ?_)
          have ex12 : x12 = x4 := by rw [ex12, ← hμ11, ← hμ9, ← hμ7]; exact ex4.symm
          have ex12 := ex12.symm
          subst ex12
          refine lv_iconst (v := 1) hx hb dX0_addKind_77 (by decide) ?_
          refine lv_iadd hx hb dX0_addKind_78 ?_
          refine lv_topi (fun x13 ex13 => ?_)
          have tx13 : x13.toInt = x4.toInt + 1 := m_addI ex13 (rfl : x4.toInt = _) (by decide : (1 : Int32).toInt = 1) (by omega) (by omega)
          refine m_puti hx hb hts hown hW (71) 4 rfl rfl cw_0 tyX0_ok nmX0 rfl (by decide) k_X0_24 rfl rfl rfl dX0_addKind_79 (fun H locs hW _ => ?_)
          generalize hμ14 : m_si μ11 (71) 4 x13 = μ14 at hW
          have hI := hI.si1 hμ14 rfl (by omega) hS9
          refine lv_aload_n hx hb dX0_addKind_82 rfl (lv_at hl 0 rfl) ?_
          refine m_aV hW (m_runV (As := []) (rest := []) hx hb hml hown hts hW (71) (g_X0_fillAll l D cy b S μ0 hS9 μ14 hI) mi_X0_fillAll k_X0_32 rfl rfl rfl hl.1 rfl (Nat.le_of_ble_eq_true rfl) dX0_addKind_83 ⟨Nat.le_of_ble_eq_true rfl, Nat.le_of_ble_eq_true rfl⟩ ⟨Nat.le_of_ble_eq_true rfl, Nat.le_of_ble_eq_true rfl⟩) (fun μ15 H locs q15 hW => ?_)
          obtain ⟨hI, q15⟩ := q15
          refine lv_aload_n hx hb dX0_addKind_86 rfl (lv_at hl 0 rfl) ?_
          refine m_geti hx hb hts hown hW (71) 4 rfl rfl cw_0 rfl (by decide) k_X0_24 dX0_addKind_87 ?_
          refine lv_topi (fun x16 ex16 => ?_)
          have bx16 : 0 ≤ x16.toInt ∧ x16.toInt ≤ 6 := by rw [ex16]; exact hI.1 _ _ _ _ rfl
          refine lv_iconst (v := 1) hx hb dX0_addKind_90 (by decide) ?_
          refine lv_isub hx hb dX0_addKind_91 ?_
          refine lv_topi (fun x17 ex17 => ?_)
          have tx17 : x17.toInt = x16.toInt - 1 := m_subI ex17 (rfl : x16.toInt = _) (by decide : (1 : Int32).toInt = 1) (by omega) (by omega)
          exact m_iret hx hb hr hlocks hW rfl (⟨hI, trivial⟩) dX0_addKind_92
        · have i5 := m_c2 (rfl : x4.toInt = _) (by decide : (6 : Int32).toInt = 6) c5
          refine lv_iconst (v := (-1)) hx hb dX0_addKind_40 (by decide) ?_
          exact m_iret hx hb hr hlocks hW rfl (⟨hI, trivial⟩) dX0_addKind_41
      · refine lv_if_eq (tgt := 40) hx hb dX0_addKind_28 (by decide) (fun _ => ?_) (fun c => False.elim (by revert c; decide))
        refine lv_iconst (v := (-1)) hx hb dX0_addKind_40 (by decide) ?_
        exact m_iret hx hb hr hlocks hW rfl (⟨hI, trivial⟩) dX0_addKind_41
    · refine lv_if_eq (tgt := 40) hx hb dX0_addKind_17 (by decide) (fun _ => ?_) (fun c => False.elim (by revert c; decide))
      refine lv_iconst (v := (-1)) hx hb dX0_addKind_40 (by decide) ?_
      exact m_iret hx hb hr hlocks hW rfl (⟨hI, trivial⟩) dX0_addKind_41
  · refine lv_if_eq (tgt := 40) hx hb dX0_addKind_7 (by decide) (fun _ => ?_) (fun c => False.elim (by revert c; decide))
    refine lv_iconst (v := (-1)) hx hb dX0_addKind_40 (by decide) ?_
    exact m_iret hx hb hr hlocks hW rfl (⟨hI, trivial⟩) dX0_addKind_41
set_option maxHeartbeats 4000000 in
set_option maxRecDepth 100000 in
theorem g_X0_greatestWorth (l : Launch) (D : va_G) (cy : Nat → ClassId) (b : Nat) (k u : Int32) (μ : mM) (hI : IX μ) : m_Ci l yX0_greatestWorth cX0_greatestWorth 3 ((some .int)) 1 D cy b LAY μ [.ref (b + 71), .int k, .int u] (fun r ν => μ = ν ∧ (True)) := by
  unfold m_Ci
  refine m_of (by decide) (Nat.le_of_ble_eq_true rfl) ?_
  intro p e s m below meth c hx hb hr hml hown hts hlocks _ hW ls hl
  have hown : s.vm.findClass RX0 = some m.cls := hown
  have hl : lv_has ls 3 [(0, .ref (b + 71)), (1, .int k), (2, .int u)] := hl
  refine lv_iload_n hx hb dX0_greatestWorth_0 rfl (lv_at hl 1 rfl) ?_
  refine lv_iconst (v := 0) hx hb dX0_greatestWorth_1 (by decide) ?_
  refine lv_bipush (v := 40) hx hb dX0_greatestWorth_2 (by decide) ?_
  have l_0 : (0 : Int32).toInt = 0 := by decide
  have l_40 : (40 : Int32).toInt = 40 := by decide
  refine m_aI hW (m_runSN (As := [.int k, .int 0, .int 40]) (rest := []) hx hb hml hown hts hW (g_X11_within l D cy b k 0 40 μ hI) ms_X11_within n_X0_28 rfl hl.1 rfl (Nat.le_of_ble_eq_true rfl) dX0_greatestWorth_4 ⟨Nat.le_of_ble_eq_true rfl, Nat.le_of_ble_eq_true rfl⟩ ⟨Nat.le_of_ble_eq_true rfl, Nat.le_of_ble_eq_true rfl⟩) (fun x1 μ1 H locs q1 hW => ?_)
  obtain ⟨q1_m, q1⟩ := q1
  subst q1_m
  rcases q1 with ⟨rfl, q1⟩ | ⟨rfl, q1⟩
  · refine lv_if_eq (tgt := 20) hx hb dX0_greatestWorth_7 (by decide) (fun c => False.elim (by revert c; decide)) (fun _ => ?_)
    refine lv_iload_n hx hb dX0_greatestWorth_10 rfl (lv_at hl 2 rfl) ?_
    refine lv_iconst (v := 0) hx hb dX0_greatestWorth_11 (by decide) ?_
    refine lv_bipush (v := 40) hx hb dX0_greatestWorth_12 (by decide) ?_
    refine m_aI hW (m_runSN (As := [.int u, .int 0, .int 40]) (rest := []) hx hb hml hown hts hW (g_X11_within l D cy b u 0 40 μ hI) ms_X11_within n_X0_28 rfl hl.1 rfl (Nat.le_of_ble_eq_true rfl) dX0_greatestWorth_14 ⟨Nat.le_of_ble_eq_true rfl, Nat.le_of_ble_eq_true rfl⟩ ⟨Nat.le_of_ble_eq_true rfl, Nat.le_of_ble_eq_true rfl⟩) (fun x2 μ2 H locs q2 hW => ?_)
    obtain ⟨q2_m, q2⟩ := q2
    subst q2_m
    rcases q2 with ⟨rfl, q2⟩ | ⟨rfl, q2⟩
    · refine lv_if_ne (tgt := 22) hx hb dX0_greatestWorth_17 (by decide) (fun _ => ?_) (fun c => False.elim (by revert c; decide))
      refine lv_aload_n hx hb dX0_greatestWorth_22 rfl (lv_at hl 0 rfl) ?_
      refine m_getr hx hb hts hown hW (71) 3 (75) rfl rfl cw_0 rfl (by decide) k_X0_21 dX0_greatestWorth_23 ?_
      refine lv_iload_n hx hb dX0_greatestWorth_26 rfl (lv_at hl 1 rfl) ?_
      refine lv_bipush (v := 41) hx hb dX0_greatestWorth_27 (by decide) ?_
      refine lv_imul hx hb dX0_greatestWorth_29 ?_
      refine lv_topi (fun x3 ex3 => ?_)
      have tx3 : x3.toInt = k.toInt * 41 := m_mulI ex3 (rfl : k.toInt = _) (by decide : (41 : Int32).toInt = 41) (by omega) (by omega)
      refine lv_iload_n hx hb dX0_greatestWorth_30 rfl (lv_at hl 2 rfl) ?_
      refine lv_iadd hx hb dX0_greatestWorth_31 ?_
      refine lv_topi (fun x4 ex4 => ?_)
      have tx4 : x4.toInt = x3.toInt + u.toInt := m_addI ex4 (rfl : x3.toInt = _) (rfl : u.toInt = _) (by omega) (by omega)
      refine m_iald hx hb hW (75) rfl (m_ixI (rfl : x4.toInt = _) (by omega) (by omega)) dX0_greatestWorth_32 ?_
      refine lv_topi (fun x5 ex5 => ?_)
      exact m_iret hx hb hr hlocks hW rfl (⟨rfl, trivial⟩) dX0_greatestWorth_33
    · refine lv_if_ne (tgt := 22) hx hb dX0_greatestWorth_17 (by decide) (fun c => False.elim (by revert c; decide)) (fun _ => ?_)
      refine lv_iconst (v := (-1)) hx hb dX0_greatestWorth_20 (by decide) ?_
      exact m_iret hx hb hr hlocks hW rfl (⟨rfl, trivial⟩) dX0_greatestWorth_21
  · refine lv_if_eq (tgt := 20) hx hb dX0_greatestWorth_7 (by decide) (fun _ => ?_) (fun c => False.elim (by revert c; decide))
    refine lv_iconst (v := (-1)) hx hb dX0_greatestWorth_20 (by decide) ?_
    exact m_iret hx hb hr hlocks hW rfl (⟨rfl, trivial⟩) dX0_greatestWorth_21
set_option maxHeartbeats 4000000 in
set_option maxRecDepth 100000 in
theorem g_X7_tell (l : Launch) (D : va_G) (cy : Nat → ClassId) (b : Nat) (S : Nat → Bool) (μ0 : mM) (hS10 : S 10 = true) (k u v w : Int32) (h_v : 0 ≤ v.toInt ∧ v.toInt ≤ 1) (μ : mM) (hI : IY S μ0 μ) : m_Ci l yX7_tell cX7_tell 5 ((some .boolean)) 1 D cy b LAY μ [.ref (b + 76), .int k, .int u, .int v, .int w] (fun r ν => IY S μ0 ν ∧ ((r = 1 ∧ (True)) ∨ (r = 0 ∧ (True)))) := by
  unfold m_Ci
  refine m_of (by decide) (Nat.le_of_ble_eq_true rfl) ?_
  intro p e s m below meth c hx hb hr hml hown hts hlocks _ hW ls hl
  have hown : s.vm.findClass RX7 = some m.cls := hown
  have hl : lv_has ls 5 [(0, .ref (b + 76)), (1, .int k), (2, .int u), (3, .int v), (4, .int w)] := hl
  refine lv_iload_n hx hb dX7_tell_0 rfl (lv_at hl 1 rfl) ?_
  refine lv_iconst (v := 0) hx hb dX7_tell_1 (by decide) ?_
  refine lv_iconst (v := 3) hx hb dX7_tell_2 (by decide) ?_
  have l_0 : (0 : Int32).toInt = 0 := by decide
  have l_3 : (3 : Int32).toInt = 3 := by decide
  refine m_aI hW (m_runSN (As := [.int k, .int 0, .int 3]) (rest := []) hx hb hml hown hts hW (g_X11_within l D cy b k 0 3 μ hI.1) ms_X11_within n_X7_32 rfl hl.1 rfl (Nat.le_of_ble_eq_true rfl) dX7_tell_3 ⟨Nat.le_of_ble_eq_true rfl, Nat.le_of_ble_eq_true rfl⟩ ⟨Nat.le_of_ble_eq_true rfl, Nat.le_of_ble_eq_true rfl⟩) (fun x1 μ1 H locs q1 hW => ?_)
  obtain ⟨q1_m, q1⟩ := q1
  subst q1_m
  rcases q1 with ⟨rfl, q1⟩ | ⟨rfl, q1⟩
  · refine lv_if_eq (tgt := 45) hx hb dX7_tell_6 (by decide) (fun c => False.elim (by revert c; decide)) (fun _ => ?_)
    refine lv_iload_n hx hb dX7_tell_9 rfl (lv_at hl 2 rfl) ?_
    refine lv_iconst (v := 1) hx hb dX7_tell_10 (by decide) ?_
    refine lv_sipush (v := 9999) hx hb dX7_tell_11 (by decide) ?_
    have l_1 : (1 : Int32).toInt = 1 := by decide
    have l_9999 : (9999 : Int32).toInt = 9999 := by decide
    refine m_aI hW (m_runSN (As := [.int u, .int 1, .int 9999]) (rest := []) hx hb hml hown hts hW (g_X11_within l D cy b u 1 9999 μ hI.1) ms_X11_within n_X7_32 rfl hl.1 rfl (Nat.le_of_ble_eq_true rfl) dX7_tell_14 ⟨Nat.le_of_ble_eq_true rfl, Nat.le_of_ble_eq_true rfl⟩ ⟨Nat.le_of_ble_eq_true rfl, Nat.le_of_ble_eq_true rfl⟩) (fun x2 μ2 H locs q2 hW => ?_)
    obtain ⟨q2_m, q2⟩ := q2
    subst q2_m
    rcases q2 with ⟨rfl, q2⟩ | ⟨rfl, q2⟩
    · refine lv_if_eq (tgt := 45) hx hb dX7_tell_17 (by decide) (fun c => False.elim (by revert c; decide)) (fun _ => ?_)
      refine lv_iload hx hb dX7_tell_20 (lv_at hl 4 rfl) ?_
      refine lv_aload_n hx hb dX7_tell_22 rfl (lv_at hl 0 rfl) ?_
      refine m_geti hx hb hts hown hW (76) 5 rfl rfl cw_7 rfl (by decide) k_X7_29 dX7_tell_23 ?_
      refine lv_topi (fun x3 ex3 => ?_)
      refine lv_sipush (v := 999) hx hb dX7_tell_26 (by decide) ?_
      have l_999 : (999 : Int32).toInt = 999 := by decide
      refine m_aI hW (m_runSN (As := [.int w, .int x3, .int 999]) (rest := []) hx hb hml hown hts hW (g_X11_within l D cy b w x3 999 μ hI.1) ms_X11_within n_X7_32 rfl hl.1 rfl (Nat.le_of_ble_eq_true rfl) dX7_tell_29 ⟨Nat.le_of_ble_eq_true rfl, Nat.le_of_ble_eq_true rfl⟩ ⟨Nat.le_of_ble_eq_true rfl, Nat.le_of_ble_eq_true rfl⟩) (fun x4 μ4 H locs q4 hW => ?_)
      obtain ⟨q4_m, q4⟩ := q4
      subst q4_m
      rcases q4 with ⟨rfl, q4⟩ | ⟨rfl, q4⟩
      · refine lv_if_eq (tgt := 45) hx hb dX7_tell_32 (by decide) (fun c => False.elim (by revert c; decide)) (fun _ => ?_)
        refine lv_aload_n hx hb dX7_tell_35 rfl (lv_at hl 0 rfl) ?_
        refine m_geti hx hb hts hown hW (76) 4 rfl rfl cw_7 rfl (by decide) k_X7_25 dX7_tell_36 ?_
        refine lv_topi (fun x5 ex5 => ?_)
        have bx5 : 0 ≤ x5.toInt ∧ x5.toInt ≤ 200 := by rw [ex5]; exact hI.1 _ _ _ _ rfl
        refine lv_sipush (v := 200) hx hb dX7_tell_39 (by decide) ?_
        refine lv_icmp_lt (tgt := 47) hx hb dX7_tell_42 (by decide) (fun c6 => ?_) (fun c6 => ?_)
        · have i6 := m_c1 (rfl : x5.toInt = _) (by decide : (200 : Int32).toInt = 200) c6
          refine lv_aload_n hx hb dX7_tell_47 rfl (lv_at hl 0 rfl) ?_
          refine m_getr hx hb hts hown hW (76) 0 (77) rfl rfl cw_7 rfl (by decide) k_X7_11 dX7_tell_48 ?_
          refine lv_aload_n hx hb dX7_tell_51 rfl (lv_at hl 0 rfl) ?_
          refine m_geti hx hb hts hown hW (76) 4 rfl rfl cw_7 rfl (by decide) k_X7_25 dX7_tell_52 ?_
          refine lv_topi (fun x7 ex7 => ?_)
          have ex7 : x7 = x5 := by rw [ex7]; exact ex5.symm
          have ex7 := ex7.symm
          subst ex7
          refine lv_iload_n hx hb dX7_tell_55 rfl (lv_at hl 1 rfl) ?_
          refine m_iast hx hb hW (77) rfl (m_ixI (rfl : x5.toInt = _) (by omega) (by omega)) dX7_tell_56 (fun H locs hW _ => ?_)
          generalize hμ8 : m_si μ (77) (x5 : Int32).toNatClampNeg k = μ8 at hW
          have hI := hI.si0 hμ8 rfl hS10
          refine lv_aload_n hx hb dX7_tell_57 rfl (lv_at hl 0 rfl) ?_
          refine m_getr hx hb hts hown hW (76) 1 (78) rfl rfl cw_7 rfl (by decide) k_X7_15 dX7_tell_58 ?_
          refine lv_aload_n hx hb dX7_tell_61 rfl (lv_at hl 0 rfl) ?_
          refine m_geti hx hb hts hown hW (76) 4 rfl rfl cw_7 rfl (by decide) k_X7_25 dX7_tell_62 ?_
          refine lv_topi (fun x9 ex9 => ?_)
          have ex9 : x9 = x5 := by rw [ex9, ← hμ8]; exact ex5.symm
          have ex9 := ex9.symm
          subst ex9
          refine lv_iload_n hx hb dX7_tell_65 rfl (lv_at hl 2 rfl) ?_
          refine m_iast hx hb hW (78) rfl (m_ixI (rfl : x5.toInt = _) (by omega) (by omega)) dX7_tell_66 (fun H locs hW _ => ?_)
          generalize hμ10 : m_si μ8 (78) (x5 : Int32).toNatClampNeg u = μ10 at hW
          have hI := hI.si0 hμ10 rfl hS10
          refine lv_aload_n hx hb dX7_tell_67 rfl (lv_at hl 0 rfl) ?_
          refine m_getr hx hb hts hown hW (76) 3 (80) rfl rfl cw_7 rfl (by decide) k_X7_21 dX7_tell_68 ?_
          refine lv_aload_n hx hb dX7_tell_71 rfl (lv_at hl 0 rfl) ?_
          refine m_geti hx hb hts hown hW (76) 4 rfl rfl cw_7 rfl (by decide) k_X7_25 dX7_tell_72 ?_
          refine lv_topi (fun x11 ex11 => ?_)
          have ex11 : x11 = x5 := by rw [ex11, ← hμ10, ← hμ8]; exact ex5.symm
          have ex11 := ex11.symm
          subst ex11
          refine lv_iload_n hx hb dX7_tell_75 rfl (lv_at hl 3 rfl) ?_
          refine m_zast hx hb hW (80) rfl (m_ixI (rfl : x5.toInt = _) (by omega) (by omega)) (m_nb (m_b01 (by omega))) dX7_tell_76 (fun H locs hW _ => ?_)
          generalize hμ12 : m_si μ10 (80) (x5 : Int32).toNatClampNeg v = μ12 at hW
          have hI := hI.si1 hμ12 rfl (by omega) hS10
          refine lv_aload_n hx hb dX7_tell_77 rfl (lv_at hl 0 rfl) ?_
          refine m_getr hx hb hts hown hW (76) 2 (79) rfl rfl cw_7 rfl (by decide) k_X7_18 dX7_tell_78 ?_
          refine lv_aload_n hx hb dX7_tell_81 rfl (lv_at hl 0 rfl) ?_
          refine m_geti hx hb hts hown hW (76) 4 rfl rfl cw_7 rfl (by decide) k_X7_25 dX7_tell_82 ?_
          refine lv_topi (fun x13 ex13 => ?_)
          have ex13 : x13 = x5 := by rw [ex13, ← hμ12, ← hμ10, ← hμ8]; exact ex5.symm
          have ex13 := ex13.symm
          subst ex13
          refine lv_iload hx hb dX7_tell_85 (lv_at hl 4 rfl) ?_
          refine m_iast hx hb hW (79) rfl (m_ixI (rfl : x5.toInt = _) (by omega) (by omega)) dX7_tell_87 (fun H locs hW _ => ?_)
          generalize hμ14 : m_si μ12 (79) (x5 : Int32).toNatClampNeg w = μ14 at hW
          have hI := hI.si0 hμ14 rfl hS10
          refine lv_aload_n hx hb dX7_tell_88 rfl (lv_at hl 0 rfl) ?_
          refine lv_dup hx hb dX7_tell_89 rfl ?_
          refine m_geti hx hb hts hown hW (76) 4 rfl rfl cw_7 rfl (by decide) k_X7_25 dX7_tell_90 ?_
          refine lv_topi (fun x15 ex15 => ?_)
          have ex15 : x15 = x5 := by rw [ex15, ← hμ14, ← hμ12, ← hμ10, ← hμ8]; exact ex5.symm
          have ex15 := ex15.symm
          subst ex15
          refine lv_iconst (v := 1) hx hb dX7_tell_93 (by decide) ?_
          refine lv_iadd hx hb dX7_tell_94 ?_
          refine lv_topi (fun x16 ex16 => ?_)
          have tx16 : x16.toInt = x5.toInt + 1 := m_addI ex16 (rfl : x5.toInt = _) (by decide : (1 : Int32).toInt = 1) (by omega) (by omega)
          refine m_puti hx hb hts hown hW (76) 4 rfl rfl cw_7 tyX7_ok nmX7 rfl (by decide) k_X7_25 rfl rfl rfl dX7_tell_95 (fun H locs hW _ => ?_)
          generalize hμ17 : m_si μ14 (76) 4 x16 = μ17 at hW
          have hI := hI.si1 hμ17 rfl (by omega) hS10
          refine lv_aload_n hx hb dX7_tell_98 rfl (lv_at hl 0 rfl) ?_
          refine lv_iload hx hb dX7_tell_99 (lv_at hl 4 rfl) ?_
          refine m_puti hx hb hts hown hW (76) 5 rfl rfl cw_7 tyX7_ok nmX7 rfl (by decide) k_X7_29 rfl rfl rfl dX7_tell_101 (fun H locs hW _ => ?_)
          generalize hμ18 : m_si μ17 (76) 5 w = μ18 at hW
          have hI := hI.si0 hμ18 rfl hS10
          refine lv_iconst (v := 1) hx hb dX7_tell_104 (by decide) ?_
          exact m_iret hx hb hr hlocks hW (by decide) (⟨hI, Or.inl ⟨rfl, trivial⟩⟩) dX7_tell_105
        · have i6 := m_c2 (rfl : x5.toInt = _) (by decide : (200 : Int32).toInt = 200) c6
          refine lv_iconst (v := 0) hx hb dX7_tell_45 (by decide) ?_
          exact m_iret hx hb hr hlocks hW (by decide) (⟨hI, Or.inr ⟨rfl, trivial⟩⟩) dX7_tell_46
      · refine lv_if_eq (tgt := 45) hx hb dX7_tell_32 (by decide) (fun _ => ?_) (fun c => False.elim (by revert c; decide))
        refine lv_iconst (v := 0) hx hb dX7_tell_45 (by decide) ?_
        exact m_iret hx hb hr hlocks hW (by decide) (⟨hI, Or.inr ⟨rfl, trivial⟩⟩) dX7_tell_46
    · refine lv_if_eq (tgt := 45) hx hb dX7_tell_17 (by decide) (fun _ => ?_) (fun c => False.elim (by revert c; decide))
      refine lv_iconst (v := 0) hx hb dX7_tell_45 (by decide) ?_
      exact m_iret hx hb hr hlocks hW (by decide) (⟨hI, Or.inr ⟨rfl, trivial⟩⟩) dX7_tell_46
  · refine lv_if_eq (tgt := 45) hx hb dX7_tell_6 (by decide) (fun _ => ?_) (fun c => False.elim (by revert c; decide))
    refine lv_iconst (v := 0) hx hb dX7_tell_45 (by decide) ?_
    exact m_iret hx hb hr hlocks hW (by decide) (⟨hI, Or.inr ⟨rfl, trivial⟩⟩) dX7_tell_46
set_option maxHeartbeats 4000000 in
set_option maxRecDepth 100000 in
theorem L_X7_leastMelt_5 {p : Program} {l : Launch} {e : Env} {s : State} {m : MethodId} {args : Array Value} {below : List Frame} {meth : Method} {c : Code} {D : va_G} {cy : Nat → ClassId} {b : Nat} (hx : p.tables.exec = Jvm.exec) (hb : c.code = cX7_leastMelt) (hr : meth.sig.returnType = ((some .int))) (hml : c.maxLocals = 5) (hown : s.vm.findClass RX7 = some m.cls) (hts : ∀ w ∈ TB, w.before args s = true) (hlocks : meth.locks = false) (μ1 : mM) (k u : Int32) : ∀ (f : Nat), ∀ (y3 y4 : Int32) (hy : 0 ≤ y4.toInt ∧ y4.toInt ≤ 200) (hf : 200 - y4.toInt < (f : Int)) (μ : mM) (hI : IX μ) (hm : μ = μ1) (H : Heap) (locs : List Loc), m_WA (m_A b LAY) D cy s b LAY μ H locs → ∀ ls : Array Slot, lv_has ls 5 [(0, .ref (b + 76)), (1, .int k), (2, .int u), (3, .int y3), (4, .int y4)] → W p l e (m_R 1 0 0) s m args below meth c H locs 0 0 (MQ below (m_Qi D cy b LAY (fun r ν => μ1 = ν ∧ (True))) args s 0 0 (m_A b LAY)) (F0 m 5 ls []) := by
  intro f
  induction f with
  | zero => intro y3 y4 hy hf; exfalso; omega
  | succ f ih =>
    intro y3 y4 hy hf μ hI hm H locs hW ls hl
    refine lv_iload hx hb dX7_leastMelt_5 (lv_at hl 4 rfl) ?_
    refine lv_aload_n hx hb dX7_leastMelt_7 rfl (lv_at hl 0 rfl) ?_
    refine m_geti hx hb hts hown hW (76) 4 rfl rfl cw_7 rfl (by decide) k_X7_25 dX7_leastMelt_8 ?_
    refine lv_topi (fun x1 ex1 => ?_)
    have bx1 : 0 ≤ x1.toInt ∧ x1.toInt ≤ 200 := by rw [ex1]; exact hI _ _ _ _ rfl
    refine lv_icmp_ge (tgt := 66) hx hb dX7_leastMelt_11 (by decide) (fun c2 => ?_) (fun c2 => ?_)
    · have i2 := m_c3 (rfl : x1.toInt = _) (rfl : y4.toInt = _) c2
      refine lv_iload_n hx hb dX7_leastMelt_66 rfl (lv_at hl 3 rfl) ?_
      exact m_iret hx hb hr hlocks hW rfl (⟨hm.symm, trivial⟩) dX7_leastMelt_67
    · have i2 := m_c4 (rfl : x1.toInt = _) (rfl : y4.toInt = _) c2
      refine lv_aload_n hx hb dX7_leastMelt_14 rfl (lv_at hl 0 rfl) ?_
      refine m_getr hx hb hts hown hW (76) 0 (77) rfl rfl cw_7 rfl (by decide) k_X7_11 dX7_leastMelt_15 ?_
      refine lv_iload hx hb dX7_leastMelt_18 (lv_at hl 4 rfl) ?_
      refine m_iald hx hb hW (77) rfl (m_ixI (rfl : y4.toInt = _) (by omega) (by omega)) dX7_leastMelt_20 ?_
      refine lv_topi (fun x3 ex3 => ?_)
      refine lv_iload_n hx hb dX7_leastMelt_21 rfl (lv_at hl 1 rfl) ?_
      refine lv_icmp_ne (tgt := 60) hx hb dX7_leastMelt_22 (by decide) (fun c4 => ?_) (fun c4 => ?_)
      · have i4 := m_c6 (rfl : x3.toInt = _) (rfl : k.toInt = _) c4
        obtain ⟨x5, ex5⟩ : ∃ z : Int32, z = y4 + 1 := ⟨_, rfl⟩
        refine lv_iinc (v := x5) (lv' := [(4, .int x5), (0, .ref (b + 76)), (1, .int k), (2, .int u), (3, .int y3)]) hx hb dX7_leastMelt_60 hl (k := 4) rfl (by rw [ex5]; rfl) (by decide) rfl (fun ls hl => ?_)
        have tx5 : x5.toInt = y4.toInt + 1 := m_addI ex5 (rfl : y4.toInt = _) (by decide : (1 : Int32).toInt = 1) (by omega) (by omega)
        refine lv_goto (tgt := 5) hx hb dX7_leastMelt_63 (by decide) ?_
        exact ih y3 x5 (by omega) (by omega) μ hI hm _ _ hW ls (lv_sub hl [1, 2, 3, 4, 0] rfl)
      · have i4 := m_c5 (rfl : x3.toInt = _) (rfl : k.toInt = _) c4
        refine lv_aload_n hx hb dX7_leastMelt_25 rfl (lv_at hl 0 rfl) ?_
        refine m_getr hx hb hts hown hW (76) 2 (79) rfl rfl cw_7 rfl (by decide) k_X7_18 dX7_leastMelt_26 ?_
        refine lv_iload hx hb dX7_leastMelt_29 (lv_at hl 4 rfl) ?_
        refine m_iald hx hb hW (79) rfl (m_ixI (rfl : y4.toInt = _) (by omega) (by omega)) dX7_leastMelt_31 ?_
        refine lv_topi (fun x6 ex6 => ?_)
        refine lv_iload_n hx hb dX7_leastMelt_32 rfl (lv_at hl 2 rfl) ?_
        refine lv_icmp_gt (tgt := 60) hx hb dX7_leastMelt_33 (by decide) (fun c7 => ?_) (fun c7 => ?_)
        · have i7 := m_c1 (rfl : u.toInt = _) (rfl : x6.toInt = _) c7
          obtain ⟨x8, ex8⟩ : ∃ z : Int32, z = y4 + 1 := ⟨_, rfl⟩
          refine lv_iinc (v := x8) (lv' := [(4, .int x8), (0, .ref (b + 76)), (1, .int k), (2, .int u), (3, .int y3)]) hx hb dX7_leastMelt_60 hl (k := 4) rfl (by rw [ex8]; rfl) (by decide) rfl (fun ls hl => ?_)
          have tx8 : x8.toInt = y4.toInt + 1 := m_addI ex8 (rfl : y4.toInt = _) (by decide : (1 : Int32).toInt = 1) (by omega) (by omega)
          refine lv_goto (tgt := 5) hx hb dX7_leastMelt_63 (by decide) ?_
          exact ih y3 x8 (by omega) (by omega) μ hI hm _ _ hW ls (lv_sub hl [1, 2, 3, 4, 0] rfl)
        · have i7 := m_c2 (rfl : u.toInt = _) (rfl : x6.toInt = _) c7
          refine lv_aload_n hx hb dX7_leastMelt_36 rfl (lv_at hl 0 rfl) ?_
          refine m_getr hx hb hts hown hW (76) 3 (80) rfl rfl cw_7 rfl (by decide) k_X7_21 dX7_leastMelt_37 ?_
          refine lv_iload hx hb dX7_leastMelt_40 (lv_at hl 4 rfl) ?_
          refine m_zald hx hb hW (80) rfl (m_ixI (rfl : y4.toInt = _) (by omega) (by omega)) dX7_leastMelt_42 ?_
          refine lv_topi (fun x9 ex9 => ?_)
          have bx9 : 0 ≤ x9.toInt ∧ x9.toInt ≤ 1 := by rw [ex9]; exact hI _ _ _ _ rfl
          refine lv_if_ne (tgt := 60) hx hb dX7_leastMelt_43 (by decide) (fun c10 => ?_) (fun c10 => ?_)
          · have i10 := m_c6 (rfl : x9.toInt = _) (by decide : (0 : Int32).toInt = 0) c10
            obtain ⟨x11, ex11⟩ : ∃ z : Int32, z = y4 + 1 := ⟨_, rfl⟩
            refine lv_iinc (v := x11) (lv' := [(4, .int x11), (0, .ref (b + 76)), (1, .int k), (2, .int u), (3, .int y3)]) hx hb dX7_leastMelt_60 hl (k := 4) rfl (by rw [ex11]; rfl) (by decide) rfl (fun ls hl => ?_)
            have tx11 : x11.toInt = y4.toInt + 1 := m_addI ex11 (rfl : y4.toInt = _) (by decide : (1 : Int32).toInt = 1) (by omega) (by omega)
            refine lv_goto (tgt := 5) hx hb dX7_leastMelt_63 (by decide) ?_
            exact ih y3 x11 (by omega) (by omega) μ hI hm _ _ hW ls (lv_sub hl [1, 2, 3, 4, 0] rfl)
          · have i10 := m_c5 (rfl : x9.toInt = _) (by decide : (0 : Int32).toInt = 0) c10
            refine lv_iload_n hx hb dX7_leastMelt_46 rfl (lv_at hl 3 rfl) ?_
            refine lv_aload_n hx hb dX7_leastMelt_47 rfl (lv_at hl 0 rfl) ?_
            refine m_getr hx hb hts hown hW (76) 1 (78) rfl rfl cw_7 rfl (by decide) k_X7_15 dX7_leastMelt_48 ?_
            refine lv_iload hx hb dX7_leastMelt_51 (lv_at hl 4 rfl) ?_
            refine m_iald hx hb hW (78) rfl (m_ixI (rfl : y4.toInt = _) (by omega) (by omega)) dX7_leastMelt_53 ?_
            refine lv_topi (fun x12 ex12 => ?_)
            refine lv_iconst (v := 1) hx hb dX7_leastMelt_54 (by decide) ?_
            refine lv_iadd hx hb dX7_leastMelt_55 ?_
            refine lv_topi (fun x13 ex13 => ?_)
            refine va_mmax hx hb (hml.trans hl.1.symm) hown (hts _ k_X7_36) (hts _ kM_max_s) (hts _ kM_n) (hts _ kM_max_c) (Nat.le_of_ble_eq_true rfl) (Nat.le_of_ble_eq_true rfl) (Nat.le_of_ble_eq_true rfl) (Nat.le_of_ble_eq_true rfl) dX7_leastMelt_56 ?_
            refine lv_topi (fun x14 ex14 => ?_)
            have tx14 : x14.toInt = max (y3.toInt) (x13.toInt) := m_max ex14 (rfl : y3.toInt = _) (rfl : x13.toInt = _)
            refine lv_istore_n (lv' := [(3, .int x14), (0, .ref (b + 76)), (1, .int k), (2, .int u), (4, .int y4)]) hx hb dX7_leastMelt_59 rfl hl (by decide) rfl (fun ls hl => ?_)
            obtain ⟨x15, ex15⟩ : ∃ z : Int32, z = y4 + 1 := ⟨_, rfl⟩
            refine lv_iinc (v := x15) (lv' := [(4, .int x15), (3, .int x14), (0, .ref (b + 76)), (1, .int k), (2, .int u)]) hx hb dX7_leastMelt_60 hl (k := 4) rfl (by rw [ex15]; rfl) (by decide) rfl (fun ls hl => ?_)
            have tx15 : x15.toInt = y4.toInt + 1 := m_addI ex15 (rfl : y4.toInt = _) (by decide : (1 : Int32).toInt = 1) (by omega) (by omega)
            refine lv_goto (tgt := 5) hx hb dX7_leastMelt_63 (by decide) ?_
            exact ih x14 x15 (by omega) (by omega) μ hI hm _ _ hW ls (lv_sub hl [2, 3, 4, 1, 0] rfl)
set_option maxHeartbeats 4000000 in
set_option maxRecDepth 100000 in
theorem g_X7_leastMelt (l : Launch) (D : va_G) (cy : Nat → ClassId) (b : Nat) (k u : Int32) (μ : mM) (hI : IX μ) : m_Ci l yX7_leastMelt cX7_leastMelt 5 ((some .int)) 1 D cy b LAY μ [.ref (b + 76), .int k, .int u] (fun r ν => μ = ν ∧ (True)) := by
  unfold m_Ci
  refine m_of (by decide) (Nat.le_of_ble_eq_true rfl) ?_
  intro p e s m below meth c hx hb hr hml hown hts hlocks _ hW ls hl
  have hown : s.vm.findClass RX7 = some m.cls := hown
  have hl : lv_has ls 5 [(0, .ref (b + 76)), (1, .int k), (2, .int u)] := hl
  refine lv_iconst (v := 1) hx hb dX7_leastMelt_0 (by decide) ?_
  refine lv_istore_n (lv' := [(3, .int 1), (0, .ref (b + 76)), (1, .int k), (2, .int u)]) hx hb dX7_leastMelt_1 rfl hl (by decide) rfl (fun ls hl => ?_)
  refine lv_iconst (v := 0) hx hb dX7_leastMelt_2 (by decide) ?_
  refine lv_istore (lv' := [(4, .int 0), (3, .int 1), (0, .ref (b + 76)), (1, .int k), (2, .int u)]) hx hb dX7_leastMelt_3 hl (by decide) rfl (fun ls hl => ?_)
  have l_1 : (1 : Int32).toInt = 1 := by decide
  have l_0 : (0 : Int32).toInt = 0 := by decide
  exact L_X7_leastMelt_5 hx hb hr hml hown hts hlocks μ k u  201 1 0 (by omega) (by omega) μ hI rfl _ _ hW ls (lv_sub hl [2, 3, 4, 1, 0] rfl)
set_option maxHeartbeats 4000000 in
set_option maxRecDepth 100000 in
theorem L_X7_greatestMelt_7 {p : Program} {l : Launch} {e : Env} {s : State} {m : MethodId} {args : Array Value} {below : List Frame} {meth : Method} {c : Code} {D : va_G} {cy : Nat → ClassId} {b : Nat} (hx : p.tables.exec = Jvm.exec) (hb : c.code = cX7_greatestMelt) (hr : meth.sig.returnType = ((some .int))) (hml : c.maxLocals = 5) (hown : s.vm.findClass RX7 = some m.cls) (hts : ∀ w ∈ TB, w.before args s = true) (hlocks : meth.locks = false) (μ1 : mM) (k u : Int32) : ∀ (f : Nat), ∀ (y3 y4 : Int32) (hy : 0 ≤ y4.toInt ∧ y4.toInt ≤ 200) (hf : 200 - y4.toInt < (f : Int)) (μ : mM) (hI : IX μ) (hm : μ = μ1) (H : Heap) (locs : List Loc), m_WA (m_A b LAY) D cy s b LAY μ H locs → ∀ ls : Array Slot, lv_has ls 5 [(0, .ref (b + 76)), (1, .int k), (2, .int u), (3, .int y3), (4, .int y4)] → W p l e (m_R 1 0 0) s m args below meth c H locs 0 0 (MQ below (m_Qi D cy b LAY (fun r ν => μ1 = ν ∧ (True))) args s 0 0 (m_A b LAY)) (F0 m 7 ls []) := by
  intro f
  induction f with
  | zero => intro y3 y4 hy hf; exfalso; omega
  | succ f ih =>
    intro y3 y4 hy hf μ hI hm H locs hW ls hl
    refine lv_iload hx hb dX7_greatestMelt_7 (lv_at hl 4 rfl) ?_
    refine lv_aload_n hx hb dX7_greatestMelt_9 rfl (lv_at hl 0 rfl) ?_
    refine m_geti hx hb hts hown hW (76) 4 rfl rfl cw_7 rfl (by decide) k_X7_25 dX7_greatestMelt_10 ?_
    refine lv_topi (fun x1 ex1 => ?_)
    have bx1 : 0 ≤ x1.toInt ∧ x1.toInt ≤ 200 := by rw [ex1]; exact hI _ _ _ _ rfl
    refine lv_icmp_ge (tgt := 66) hx hb dX7_greatestMelt_13 (by decide) (fun c2 => ?_) (fun c2 => ?_)
    · have i2 := m_c3 (rfl : x1.toInt = _) (rfl : y4.toInt = _) c2
      refine lv_iload_n hx hb dX7_greatestMelt_66 rfl (lv_at hl 3 rfl) ?_
      exact m_iret hx hb hr hlocks hW rfl (⟨hm.symm, trivial⟩) dX7_greatestMelt_67
    · have i2 := m_c4 (rfl : x1.toInt = _) (rfl : y4.toInt = _) c2
      refine lv_aload_n hx hb dX7_greatestMelt_16 rfl (lv_at hl 0 rfl) ?_
      refine m_getr hx hb hts hown hW (76) 0 (77) rfl rfl cw_7 rfl (by decide) k_X7_11 dX7_greatestMelt_17 ?_
      refine lv_iload hx hb dX7_greatestMelt_20 (lv_at hl 4 rfl) ?_
      refine m_iald hx hb hW (77) rfl (m_ixI (rfl : y4.toInt = _) (by omega) (by omega)) dX7_greatestMelt_22 ?_
      refine lv_topi (fun x3 ex3 => ?_)
      refine lv_iload_n hx hb dX7_greatestMelt_23 rfl (lv_at hl 1 rfl) ?_
      refine lv_icmp_ne (tgt := 60) hx hb dX7_greatestMelt_24 (by decide) (fun c4 => ?_) (fun c4 => ?_)
      · have i4 := m_c6 (rfl : x3.toInt = _) (rfl : k.toInt = _) c4
        obtain ⟨x5, ex5⟩ : ∃ z : Int32, z = y4 + 1 := ⟨_, rfl⟩
        refine lv_iinc (v := x5) (lv' := [(4, .int x5), (0, .ref (b + 76)), (1, .int k), (2, .int u), (3, .int y3)]) hx hb dX7_greatestMelt_60 hl (k := 4) rfl (by rw [ex5]; rfl) (by decide) rfl (fun ls hl => ?_)
        have tx5 : x5.toInt = y4.toInt + 1 := m_addI ex5 (rfl : y4.toInt = _) (by decide : (1 : Int32).toInt = 1) (by omega) (by omega)
        refine lv_goto (tgt := 7) hx hb dX7_greatestMelt_63 (by decide) ?_
        exact ih y3 x5 (by omega) (by omega) μ hI hm _ _ hW ls (lv_sub hl [1, 2, 3, 4, 0] rfl)
      · have i4 := m_c5 (rfl : x3.toInt = _) (rfl : k.toInt = _) c4
        refine lv_aload_n hx hb dX7_greatestMelt_27 rfl (lv_at hl 0 rfl) ?_
        refine m_getr hx hb hts hown hW (76) 2 (79) rfl rfl cw_7 rfl (by decide) k_X7_18 dX7_greatestMelt_28 ?_
        refine lv_iload hx hb dX7_greatestMelt_31 (lv_at hl 4 rfl) ?_
        refine m_iald hx hb hW (79) rfl (m_ixI (rfl : y4.toInt = _) (by omega) (by omega)) dX7_greatestMelt_33 ?_
        refine lv_topi (fun x6 ex6 => ?_)
        refine lv_iload_n hx hb dX7_greatestMelt_34 rfl (lv_at hl 2 rfl) ?_
        refine lv_icmp_gt (tgt := 60) hx hb dX7_greatestMelt_35 (by decide) (fun c7 => ?_) (fun c7 => ?_)
        · have i7 := m_c1 (rfl : u.toInt = _) (rfl : x6.toInt = _) c7
          obtain ⟨x8, ex8⟩ : ∃ z : Int32, z = y4 + 1 := ⟨_, rfl⟩
          refine lv_iinc (v := x8) (lv' := [(4, .int x8), (0, .ref (b + 76)), (1, .int k), (2, .int u), (3, .int y3)]) hx hb dX7_greatestMelt_60 hl (k := 4) rfl (by rw [ex8]; rfl) (by decide) rfl (fun ls hl => ?_)
          have tx8 : x8.toInt = y4.toInt + 1 := m_addI ex8 (rfl : y4.toInt = _) (by decide : (1 : Int32).toInt = 1) (by omega) (by omega)
          refine lv_goto (tgt := 7) hx hb dX7_greatestMelt_63 (by decide) ?_
          exact ih y3 x8 (by omega) (by omega) μ hI hm _ _ hW ls (lv_sub hl [1, 2, 3, 4, 0] rfl)
        · have i7 := m_c2 (rfl : u.toInt = _) (rfl : x6.toInt = _) c7
          refine lv_aload_n hx hb dX7_greatestMelt_38 rfl (lv_at hl 0 rfl) ?_
          refine m_getr hx hb hts hown hW (76) 3 (80) rfl rfl cw_7 rfl (by decide) k_X7_21 dX7_greatestMelt_39 ?_
          refine lv_iload hx hb dX7_greatestMelt_42 (lv_at hl 4 rfl) ?_
          refine m_zald hx hb hW (80) rfl (m_ixI (rfl : y4.toInt = _) (by omega) (by omega)) dX7_greatestMelt_44 ?_
          refine lv_topi (fun x9 ex9 => ?_)
          have bx9 : 0 ≤ x9.toInt ∧ x9.toInt ≤ 1 := by rw [ex9]; exact hI _ _ _ _ rfl
          refine lv_if_eq (tgt := 60) hx hb dX7_greatestMelt_45 (by decide) (fun c10 => ?_) (fun c10 => ?_)
          · have i10 := m_c5 (rfl : x9.toInt = _) (by decide : (0 : Int32).toInt = 0) c10
            obtain ⟨x11, ex11⟩ : ∃ z : Int32, z = y4 + 1 := ⟨_, rfl⟩
            refine lv_iinc (v := x11) (lv' := [(4, .int x11), (0, .ref (b + 76)), (1, .int k), (2, .int u), (3, .int y3)]) hx hb dX7_greatestMelt_60 hl (k := 4) rfl (by rw [ex11]; rfl) (by decide) rfl (fun ls hl => ?_)
            have tx11 : x11.toInt = y4.toInt + 1 := m_addI ex11 (rfl : y4.toInt = _) (by decide : (1 : Int32).toInt = 1) (by omega) (by omega)
            refine lv_goto (tgt := 7) hx hb dX7_greatestMelt_63 (by decide) ?_
            exact ih y3 x11 (by omega) (by omega) μ hI hm _ _ hW ls (lv_sub hl [1, 2, 3, 4, 0] rfl)
          · have i10 := m_c6 (rfl : x9.toInt = _) (by decide : (0 : Int32).toInt = 0) c10
            refine lv_iload_n hx hb dX7_greatestMelt_48 rfl (lv_at hl 3 rfl) ?_
            refine lv_aload_n hx hb dX7_greatestMelt_49 rfl (lv_at hl 0 rfl) ?_
            refine m_getr hx hb hts hown hW (76) 1 (78) rfl rfl cw_7 rfl (by decide) k_X7_15 dX7_greatestMelt_50 ?_
            refine lv_iload hx hb dX7_greatestMelt_53 (lv_at hl 4 rfl) ?_
            refine m_iald hx hb hW (78) rfl (m_ixI (rfl : y4.toInt = _) (by omega) (by omega)) dX7_greatestMelt_55 ?_
            refine lv_topi (fun x12 ex12 => ?_)
            refine va_mmin hx hb (hml.trans hl.1.symm) hown (hts _ k_X7_42) (hts _ kM_min_s) (hts _ kM_n) (hts _ kM_min_c) (Nat.le_of_ble_eq_true rfl) (Nat.le_of_ble_eq_true rfl) (Nat.le_of_ble_eq_true rfl) (Nat.le_of_ble_eq_true rfl) dX7_greatestMelt_56 ?_
            refine lv_topi (fun x13 ex13 => ?_)
            have tx13 : x13.toInt = min (y3.toInt) (x12.toInt) := m_min ex13 (rfl : y3.toInt = _) (rfl : x12.toInt = _)
            refine lv_istore_n (lv' := [(3, .int x13), (0, .ref (b + 76)), (1, .int k), (2, .int u), (4, .int y4)]) hx hb dX7_greatestMelt_59 rfl hl (by decide) rfl (fun ls hl => ?_)
            obtain ⟨x14, ex14⟩ : ∃ z : Int32, z = y4 + 1 := ⟨_, rfl⟩
            refine lv_iinc (v := x14) (lv' := [(4, .int x14), (3, .int x13), (0, .ref (b + 76)), (1, .int k), (2, .int u)]) hx hb dX7_greatestMelt_60 hl (k := 4) rfl (by rw [ex14]; rfl) (by decide) rfl (fun ls hl => ?_)
            have tx14 : x14.toInt = y4.toInt + 1 := m_addI ex14 (rfl : y4.toInt = _) (by decide : (1 : Int32).toInt = 1) (by omega) (by omega)
            refine lv_goto (tgt := 7) hx hb dX7_greatestMelt_63 (by decide) ?_
            exact ih x13 x14 (by omega) (by omega) μ hI hm _ _ hW ls (lv_sub hl [2, 3, 4, 1, 0] rfl)
set_option maxHeartbeats 4000000 in
set_option maxRecDepth 100000 in
theorem g_X7_greatestMelt (l : Launch) (D : va_G) (cy : Nat → ClassId) (b : Nat) (k u : Int32) (μ : mM) (hI : IX μ) : m_Ci l yX7_greatestMelt cX7_greatestMelt 5 ((some .int)) 1 D cy b LAY μ [.ref (b + 76), .int k, .int u] (fun r ν => μ = ν ∧ (True)) := by
  unfold m_Ci
  refine m_of (by decide) (Nat.le_of_ble_eq_true rfl) ?_
  intro p e s m below meth c hx hb hr hml hown hts hlocks _ hW ls hl
  have hown : s.vm.findClass RX7 = some m.cls := hown
  have hl : lv_has ls 5 [(0, .ref (b + 76)), (1, .int k), (2, .int u)] := hl
  refine lv_sipush (v := 999) hx hb dX7_greatestMelt_0 (by decide) ?_
  refine lv_istore_n (lv' := [(3, .int 999), (0, .ref (b + 76)), (1, .int k), (2, .int u)]) hx hb dX7_greatestMelt_3 rfl hl (by decide) rfl (fun ls hl => ?_)
  refine lv_iconst (v := 0) hx hb dX7_greatestMelt_4 (by decide) ?_
  refine lv_istore (lv' := [(4, .int 0), (3, .int 999), (0, .ref (b + 76)), (1, .int k), (2, .int u)]) hx hb dX7_greatestMelt_5 hl (by decide) rfl (fun ls hl => ?_)
  have l_999 : (999 : Int32).toInt = 999 := by decide
  have l_0 : (0 : Int32).toInt = 0 := by decide
  exact L_X7_greatestMelt_7 hx hb hr hml hown hts hlocks μ k u  201 999 0 (by omega) (by omega) μ hI rfl _ _ hW ls (lv_sub hl [2, 3, 4, 1, 0] rfl)
set_option maxHeartbeats 4000000 in
set_option maxRecDepth 100000 in
theorem g_X8_isLetter (l : Launch) (D : va_G) (cy : Nat → ClassId) (b : Nat) (k : Int32) (μ : mM) (hI : IX μ) : m_Ci l yX8_isLetter cX8_isLetter 1 ((some .boolean)) 1 D cy b LAY μ [.int k] (fun r ν => μ = ν ∧ ((r = 1 ∧ (True)) ∨ (r = 0 ∧ (True)))) := by
  unfold m_Ci
  refine m_of (by decide) (Nat.le_of_ble_eq_true rfl) ?_
  intro p e s m below meth c hx hb hr hml hown hts hlocks _ hW ls hl
  have hown : s.vm.findClass RX8 = some m.cls := hown
  have hl : lv_has ls 1 [(0, .int k)] := hl
  refine lv_iload_n hx hb dX8_isLetter_0 rfl (lv_at hl 0 rfl) ?_
  refine lv_bipush (v := 97) hx hb dX8_isLetter_1 (by decide) ?_
  refine lv_bipush (v := 122) hx hb dX8_isLetter_3 (by decide) ?_
  have l_97 : (97 : Int32).toInt = 97 := by decide
  have l_122 : (122 : Int32).toInt = 122 := by decide
  refine m_aI hW (m_runSN (As := [.int k, .int 97, .int 122]) (rest := []) hx hb hml hown hts hW (g_X11_within l D cy b k 97 122 μ hI) ms_X11_within n_X8_81 rfl hl.1 rfl (Nat.le_of_ble_eq_true rfl) dX8_isLetter_5 ⟨Nat.le_of_ble_eq_true rfl, Nat.le_of_ble_eq_true rfl⟩ ⟨Nat.le_of_ble_eq_true rfl, Nat.le_of_ble_eq_true rfl⟩) (fun x1 μ1 H locs q1 hW => ?_)
  obtain ⟨q1_m, q1⟩ := q1
  subst q1_m
  rcases q1 with ⟨rfl, q1⟩ | ⟨rfl, q1⟩
  · refine lv_if_ne (tgt := 22) hx hb dX8_isLetter_8 (by decide) (fun _ => ?_) (fun c => False.elim (by revert c; decide))
    refine lv_iconst (v := 1) hx hb dX8_isLetter_22 (by decide) ?_
    refine lv_goto (tgt := 27) hx hb dX8_isLetter_23 (by decide) ?_
    exact m_iret hx hb hr hlocks hW (by decide) (⟨rfl, Or.inl ⟨rfl, trivial⟩⟩) dX8_isLetter_27
  · refine lv_if_ne (tgt := 22) hx hb dX8_isLetter_8 (by decide) (fun c => False.elim (by revert c; decide)) (fun _ => ?_)
    refine lv_iload_n hx hb dX8_isLetter_11 rfl (lv_at hl 0 rfl) ?_
    refine lv_bipush (v := 65) hx hb dX8_isLetter_12 (by decide) ?_
    refine lv_bipush (v := 90) hx hb dX8_isLetter_14 (by decide) ?_
    have l_65 : (65 : Int32).toInt = 65 := by decide
    have l_90 : (90 : Int32).toInt = 90 := by decide
    refine m_aI hW (m_runSN (As := [.int k, .int 65, .int 90]) (rest := []) hx hb hml hown hts hW (g_X11_within l D cy b k 65 90 μ hI) ms_X11_within n_X8_81 rfl hl.1 rfl (Nat.le_of_ble_eq_true rfl) dX8_isLetter_16 ⟨Nat.le_of_ble_eq_true rfl, Nat.le_of_ble_eq_true rfl⟩ ⟨Nat.le_of_ble_eq_true rfl, Nat.le_of_ble_eq_true rfl⟩) (fun x2 μ2 H locs q2 hW => ?_)
    obtain ⟨q2_m, q2⟩ := q2
    subst q2_m
    rcases q2 with ⟨rfl, q2⟩ | ⟨rfl, q2⟩
    · refine lv_if_eq (tgt := 26) hx hb dX8_isLetter_19 (by decide) (fun c => False.elim (by revert c; decide)) (fun _ => ?_)
      refine lv_iconst (v := 1) hx hb dX8_isLetter_22 (by decide) ?_
      refine lv_goto (tgt := 27) hx hb dX8_isLetter_23 (by decide) ?_
      exact m_iret hx hb hr hlocks hW (by decide) (⟨rfl, Or.inl ⟨rfl, trivial⟩⟩) dX8_isLetter_27
    · refine lv_if_eq (tgt := 26) hx hb dX8_isLetter_19 (by decide) (fun _ => ?_) (fun c => False.elim (by revert c; decide))
      refine lv_iconst (v := 0) hx hb dX8_isLetter_26 (by decide) ?_
      exact m_iret hx hb hr hlocks hW (by decide) (⟨rfl, Or.inr ⟨rfl, trivial⟩⟩) dX8_isLetter_27
set_option maxHeartbeats 4000000 in
set_option maxRecDepth 100000 in
theorem g_X8_isDigit (l : Launch) (D : va_G) (cy : Nat → ClassId) (b : Nat) (k : Int32) (μ : mM) (hI : IX μ) : m_Ci l yX8_isDigit cX8_isDigit 1 ((some .boolean)) 1 D cy b LAY μ [.int k] (fun r ν => μ = ν ∧ ((r = 1 ∧ (True)) ∨ (r = 0 ∧ (True)))) := by
  unfold m_Ci
  refine m_of (by decide) (Nat.le_of_ble_eq_true rfl) ?_
  intro p e s m below meth c hx hb hr hml hown hts hlocks _ hW ls hl
  have hown : s.vm.findClass RX8 = some m.cls := hown
  have hl : lv_has ls 1 [(0, .int k)] := hl
  refine lv_iload_n hx hb dX8_isDigit_0 rfl (lv_at hl 0 rfl) ?_
  refine lv_bipush (v := 48) hx hb dX8_isDigit_1 (by decide) ?_
  refine lv_bipush (v := 57) hx hb dX8_isDigit_3 (by decide) ?_
  have l_48 : (48 : Int32).toInt = 48 := by decide
  have l_57 : (57 : Int32).toInt = 57 := by decide
  refine m_aI hW (m_runSN (As := [.int k, .int 48, .int 57]) (rest := []) hx hb hml hown hts hW (g_X11_within l D cy b k 48 57 μ hI) ms_X11_within n_X8_81 rfl hl.1 rfl (Nat.le_of_ble_eq_true rfl) dX8_isDigit_5 ⟨Nat.le_of_ble_eq_true rfl, Nat.le_of_ble_eq_true rfl⟩ ⟨Nat.le_of_ble_eq_true rfl, Nat.le_of_ble_eq_true rfl⟩) (fun x1 μ1 H locs q1 hW => ?_)
  obtain ⟨q1_m, q1⟩ := q1
  subst q1_m
  rcases q1 with ⟨rfl, q1⟩ | ⟨rfl, q1⟩
  · exact m_iret hx hb hr hlocks hW (by decide) (⟨rfl, Or.inl ⟨rfl, trivial⟩⟩) dX8_isDigit_8
  · exact m_iret hx hb hr hlocks hW (by decide) (⟨rfl, Or.inr ⟨rfl, trivial⟩⟩) dX8_isDigit_8
set_option maxHeartbeats 4000000 in
set_option maxRecDepth 100000 in
theorem g_X8_isBlank (l : Launch) (D : va_G) (cy : Nat → ClassId) (b : Nat) (k : Int32) (μ : mM) (hI : IX μ) : m_Ci l yX8_isBlank cX8_isBlank 1 ((some .boolean)) 0 D cy b LAY μ [.int k] (fun r ν => μ = ν ∧ ((r = 1 ∧ (True)) ∨ (r = 0 ∧ (True)))) := by
  unfold m_Ci
  refine m_of (by decide) (Nat.le_of_ble_eq_true rfl) ?_
  intro p e s m below meth c hx hb hr hml hown hts hlocks _ hW ls hl
  have hown : s.vm.findClass RX8 = some m.cls := hown
  have hl : lv_has ls 1 [(0, .int k)] := hl
  refine lv_iload_n hx hb dX8_isBlank_0 rfl (lv_at hl 0 rfl) ?_
  refine lv_bipush (v := 32) hx hb dX8_isBlank_1 (by decide) ?_
  refine lv_icmp_eq (tgt := 12) hx hb dX8_isBlank_3 (by decide) (fun c1 => ?_) (fun c1 => ?_)
  · have i1 := m_c5 (rfl : k.toInt = _) (by decide : (32 : Int32).toInt = 32) c1
    refine lv_iconst (v := 1) hx hb dX8_isBlank_12 (by decide) ?_
    refine lv_goto (tgt := 17) hx hb dX8_isBlank_13 (by decide) ?_
    exact m_iret hx hb hr hlocks hW (by decide) (⟨rfl, Or.inl ⟨rfl, trivial⟩⟩) dX8_isBlank_17
  · have i1 := m_c6 (rfl : k.toInt = _) (by decide : (32 : Int32).toInt = 32) c1
    refine lv_iload_n hx hb dX8_isBlank_6 rfl (lv_at hl 0 rfl) ?_
    refine lv_bipush (v := 10) hx hb dX8_isBlank_7 (by decide) ?_
    refine lv_icmp_ne (tgt := 16) hx hb dX8_isBlank_9 (by decide) (fun c2 => ?_) (fun c2 => ?_)
    · have i2 := m_c6 (rfl : k.toInt = _) (by decide : (10 : Int32).toInt = 10) c2
      refine lv_iconst (v := 0) hx hb dX8_isBlank_16 (by decide) ?_
      exact m_iret hx hb hr hlocks hW (by decide) (⟨rfl, Or.inr ⟨rfl, trivial⟩⟩) dX8_isBlank_17
    · have i2 := m_c5 (rfl : k.toInt = _) (by decide : (10 : Int32).toInt = 10) c2
      refine lv_iconst (v := 1) hx hb dX8_isBlank_12 (by decide) ?_
      refine lv_goto (tgt := 17) hx hb dX8_isBlank_13 (by decide) ?_
      exact m_iret hx hb hr hlocks hW (by decide) (⟨rfl, Or.inl ⟨rfl, trivial⟩⟩) dX8_isBlank_17
set_option maxHeartbeats 4000000 in
set_option maxRecDepth 100000 in
theorem g_X8_kindOfSign (l : Launch) (D : va_G) (cy : Nat → ClassId) (b : Nat) (k : Int32) (μ : mM) (hI : IX μ) : m_Ci l yX8_kindOfSign cX8_kindOfSign 1 ((some .int)) 0 D cy b LAY μ [.int k] (fun r ν => μ = ν ∧ (True)) := by
  unfold m_Ci
  refine m_of (by decide) (Nat.le_of_ble_eq_true rfl) ?_
  intro p e s m below meth c hx hb hr hml hown hts hlocks _ hW ls hl
  have hown : s.vm.findClass RX8 = some m.cls := hown
  have hl : lv_has ls 1 [(0, .int k)] := hl
  refine lv_iload_n hx hb dX8_kindOfSign_0 rfl (lv_at hl 0 rfl) ?_
  by_cases c1 : k.toInt < 43 ∨ 62 < k.toInt
  · refine lv_tableOut (tgt := 111) hx hb dX8_kindOfSign_1 c1 (by decide) ?_
    refine lv_iconst (v := 0) hx hb dX8_kindOfSign_111 (by decide) ?_
    exact m_iret hx hb hr hlocks hW rfl (⟨rfl, trivial⟩) dX8_kindOfSign_112
  · have q1 : k.toInt = 43 ∨ k.toInt = 44 ∨ k.toInt = 45 ∨ k.toInt = 46 ∨ k.toInt = 47 ∨ k.toInt = 48 ∨ k.toInt = 49 ∨ k.toInt = 50 ∨ k.toInt = 51 ∨ k.toInt = 52 ∨ k.toInt = 53 ∨ k.toInt = 54 ∨ k.toInt = 55 ∨ k.toInt = 56 ∨ k.toInt = 57 ∨ k.toInt = 58 ∨ k.toInt = 59 ∨ k.toInt = 60 ∨ k.toInt = 61 ∨ k.toInt = 62 := by omega
    rcases q1 with q1 | q1 | q1 | q1 | q1 | q1 | q1 | q1 | q1 | q1 | q1 | q1 | q1 | q1 | q1 | q1 | q1 | q1 | q1 | q1
    · refine lv_tableIn (off := 97) (tgt := 98) hx hb dX8_kindOfSign_1 (fun z => c1 (Or.inl z)) (fun z => c1 (Or.inr z)) (by rw [q1]; rfl) (by decide) ?_
      refine lv_iconst (v := 4) hx hb dX8_kindOfSign_98 (by decide) ?_
      exact m_iret hx hb hr hlocks hW rfl (⟨rfl, trivial⟩) dX8_kindOfSign_99
    · refine lv_tableIn (off := 110) (tgt := 111) hx hb dX8_kindOfSign_1 (fun z => c1 (Or.inl z)) (fun z => c1 (Or.inr z)) (by rw [q1]; rfl) (by decide) ?_
      refine lv_iconst (v := 0) hx hb dX8_kindOfSign_111 (by decide) ?_
      exact m_iret hx hb hr hlocks hW rfl (⟨rfl, trivial⟩) dX8_kindOfSign_112
    · refine lv_tableIn (off := 99) (tgt := 100) hx hb dX8_kindOfSign_1 (fun z => c1 (Or.inl z)) (fun z => c1 (Or.inr z)) (by rw [q1]; rfl) (by decide) ?_
      refine lv_iconst (v := 5) hx hb dX8_kindOfSign_100 (by decide) ?_
      exact m_iret hx hb hr hlocks hW rfl (⟨rfl, trivial⟩) dX8_kindOfSign_101
    · refine lv_tableIn (off := 110) (tgt := 111) hx hb dX8_kindOfSign_1 (fun z => c1 (Or.inl z)) (fun z => c1 (Or.inr z)) (by rw [q1]; rfl) (by decide) ?_
      refine lv_iconst (v := 0) hx hb dX8_kindOfSign_111 (by decide) ?_
      exact m_iret hx hb hr hlocks hW rfl (⟨rfl, trivial⟩) dX8_kindOfSign_112
    · refine lv_tableIn (off := 110) (tgt := 111) hx hb dX8_kindOfSign_1 (fun z => c1 (Or.inl z)) (fun z => c1 (Or.inr z)) (by rw [q1]; rfl) (by decide) ?_
      refine lv_iconst (v := 0) hx hb dX8_kindOfSign_111 (by decide) ?_
      exact m_iret hx hb hr hlocks hW rfl (⟨rfl, trivial⟩) dX8_kindOfSign_112
    · refine lv_tableIn (off := 110) (tgt := 111) hx hb dX8_kindOfSign_1 (fun z => c1 (Or.inl z)) (fun z => c1 (Or.inr z)) (by rw [q1]; rfl) (by decide) ?_
      refine lv_iconst (v := 0) hx hb dX8_kindOfSign_111 (by decide) ?_
      exact m_iret hx hb hr hlocks hW rfl (⟨rfl, trivial⟩) dX8_kindOfSign_112
    · refine lv_tableIn (off := 110) (tgt := 111) hx hb dX8_kindOfSign_1 (fun z => c1 (Or.inl z)) (fun z => c1 (Or.inr z)) (by rw [q1]; rfl) (by decide) ?_
      refine lv_iconst (v := 0) hx hb dX8_kindOfSign_111 (by decide) ?_
      exact m_iret hx hb hr hlocks hW rfl (⟨rfl, trivial⟩) dX8_kindOfSign_112
    · refine lv_tableIn (off := 110) (tgt := 111) hx hb dX8_kindOfSign_1 (fun z => c1 (Or.inl z)) (fun z => c1 (Or.inr z)) (by rw [q1]; rfl) (by decide) ?_
      refine lv_iconst (v := 0) hx hb dX8_kindOfSign_111 (by decide) ?_
      exact m_iret hx hb hr hlocks hW rfl (⟨rfl, trivial⟩) dX8_kindOfSign_112
    · refine lv_tableIn (off := 110) (tgt := 111) hx hb dX8_kindOfSign_1 (fun z => c1 (Or.inl z)) (fun z => c1 (Or.inr z)) (by rw [q1]; rfl) (by decide) ?_
      refine lv_iconst (v := 0) hx hb dX8_kindOfSign_111 (by decide) ?_
      exact m_iret hx hb hr hlocks hW rfl (⟨rfl, trivial⟩) dX8_kindOfSign_112
    · refine lv_tableIn (off := 110) (tgt := 111) hx hb dX8_kindOfSign_1 (fun z => c1 (Or.inl z)) (fun z => c1 (Or.inr z)) (by rw [q1]; rfl) (by decide) ?_
      refine lv_iconst (v := 0) hx hb dX8_kindOfSign_111 (by decide) ?_
      exact m_iret hx hb hr hlocks hW rfl (⟨rfl, trivial⟩) dX8_kindOfSign_112
    · refine lv_tableIn (off := 110) (tgt := 111) hx hb dX8_kindOfSign_1 (fun z => c1 (Or.inl z)) (fun z => c1 (Or.inr z)) (by rw [q1]; rfl) (by decide) ?_
      refine lv_iconst (v := 0) hx hb dX8_kindOfSign_111 (by decide) ?_
      exact m_iret hx hb hr hlocks hW rfl (⟨rfl, trivial⟩) dX8_kindOfSign_112
    · refine lv_tableIn (off := 110) (tgt := 111) hx hb dX8_kindOfSign_1 (fun z => c1 (Or.inl z)) (fun z => c1 (Or.inr z)) (by rw [q1]; rfl) (by decide) ?_
      refine lv_iconst (v := 0) hx hb dX8_kindOfSign_111 (by decide) ?_
      exact m_iret hx hb hr hlocks hW rfl (⟨rfl, trivial⟩) dX8_kindOfSign_112
    · refine lv_tableIn (off := 110) (tgt := 111) hx hb dX8_kindOfSign_1 (fun z => c1 (Or.inl z)) (fun z => c1 (Or.inr z)) (by rw [q1]; rfl) (by decide) ?_
      refine lv_iconst (v := 0) hx hb dX8_kindOfSign_111 (by decide) ?_
      exact m_iret hx hb hr hlocks hW rfl (⟨rfl, trivial⟩) dX8_kindOfSign_112
    · refine lv_tableIn (off := 110) (tgt := 111) hx hb dX8_kindOfSign_1 (fun z => c1 (Or.inl z)) (fun z => c1 (Or.inr z)) (by rw [q1]; rfl) (by decide) ?_
      refine lv_iconst (v := 0) hx hb dX8_kindOfSign_111 (by decide) ?_
      exact m_iret hx hb hr hlocks hW rfl (⟨rfl, trivial⟩) dX8_kindOfSign_112
    · refine lv_tableIn (off := 110) (tgt := 111) hx hb dX8_kindOfSign_1 (fun z => c1 (Or.inl z)) (fun z => c1 (Or.inr z)) (by rw [q1]; rfl) (by decide) ?_
      refine lv_iconst (v := 0) hx hb dX8_kindOfSign_111 (by decide) ?_
      exact m_iret hx hb hr hlocks hW rfl (⟨rfl, trivial⟩) dX8_kindOfSign_112
    · refine lv_tableIn (off := 110) (tgt := 111) hx hb dX8_kindOfSign_1 (fun z => c1 (Or.inl z)) (fun z => c1 (Or.inr z)) (by rw [q1]; rfl) (by decide) ?_
      refine lv_iconst (v := 0) hx hb dX8_kindOfSign_111 (by decide) ?_
      exact m_iret hx hb hr hlocks hW rfl (⟨rfl, trivial⟩) dX8_kindOfSign_112
    · refine lv_tableIn (off := 95) (tgt := 96) hx hb dX8_kindOfSign_1 (fun z => c1 (Or.inl z)) (fun z => c1 (Or.inr z)) (by rw [q1]; rfl) (by decide) ?_
      refine lv_iconst (v := 3) hx hb dX8_kindOfSign_96 (by decide) ?_
      exact m_iret hx hb hr hlocks hW rfl (⟨rfl, trivial⟩) dX8_kindOfSign_97
    · refine lv_tableIn (off := 101) (tgt := 102) hx hb dX8_kindOfSign_1 (fun z => c1 (Or.inl z)) (fun z => c1 (Or.inr z)) (by rw [q1]; rfl) (by decide) ?_
      refine lv_bipush (v := 6) hx hb dX8_kindOfSign_102 (by decide) ?_
      exact m_iret hx hb hr hlocks hW rfl (⟨rfl, trivial⟩) dX8_kindOfSign_104
    · refine lv_tableIn (off := 104) (tgt := 105) hx hb dX8_kindOfSign_1 (fun z => c1 (Or.inl z)) (fun z => c1 (Or.inr z)) (by rw [q1]; rfl) (by decide) ?_
      refine lv_bipush (v := 7) hx hb dX8_kindOfSign_105 (by decide) ?_
      exact m_iret hx hb hr hlocks hW rfl (⟨rfl, trivial⟩) dX8_kindOfSign_107
    · refine lv_tableIn (off := 107) (tgt := 108) hx hb dX8_kindOfSign_1 (fun z => c1 (Or.inl z)) (fun z => c1 (Or.inr z)) (by rw [q1]; rfl) (by decide) ?_
      refine lv_bipush (v := 8) hx hb dX8_kindOfSign_108 (by decide) ?_
      exact m_iret hx hb hr hlocks hW rfl (⟨rfl, trivial⟩) dX8_kindOfSign_110
set_option maxHeartbeats 4000000 in
set_option maxRecDepth 100000 in
theorem g_X8_keep (l : Launch) (D : va_G) (cy : Nat → ClassId) (b : Nat) (S : Nat → Bool) (μ0 : mM) (hS5 : S 5 = true) (k u v : Int32) (μ : mM) (hI : IY S μ0 μ) : m_Cv l yX8_keep cX8_keep 4 (none) 1 D cy b LAY μ [.ref (b + 30), .int k, .int u, .int v] (fun ν => IY S μ0 ν ∧ (True)) := by
  unfold m_Cv
  refine m_of (by decide) (Nat.le_of_ble_eq_true rfl) ?_
  intro p e s m below meth c hx hb hr hml hown hts hlocks _ hW ls hl
  have hown : s.vm.findClass RX8 = some m.cls := hown
  have hl : lv_has ls 4 [(0, .ref (b + 30)), (1, .int k), (2, .int u), (3, .int v)] := hl
  refine lv_aload_n hx hb dX8_keep_0 rfl (lv_at hl 0 rfl) ?_
  refine m_getr hx hb hts hown hW (30) 0 (31) rfl rfl cw_8 rfl (by decide) k_X8_14 dX8_keep_1 ?_
  refine lv_iload_n hx hb dX8_keep_4 rfl (lv_at hl 1 rfl) ?_
  refine m_aV hW (m_runV (As := [.int k]) (rest := []) hx hb hml hown hts hW (31) (g_X5_add l D cy b S μ0 31 32 401 rfl rfl (by decide) rfl (fun _ => rfl) hS5 (fun _ => hS5) k μ hI) mi_X5_add k_X8_59 rfl rfl rfl hl.1 rfl (Nat.le_of_ble_eq_true rfl) dX8_keep_5 ⟨Nat.le_of_ble_eq_true rfl, Nat.le_of_ble_eq_true rfl⟩ ⟨Nat.le_of_ble_eq_true rfl, Nat.le_of_ble_eq_true rfl⟩) (fun μ1 H locs q1 hW => ?_)
  obtain ⟨hI, q1⟩ := q1
  refine lv_aload_n hx hb dX8_keep_8 rfl (lv_at hl 0 rfl) ?_
  refine m_getr hx hb hts hown hW (30) 1 (33) rfl rfl cw_8 rfl (by decide) k_X8_20 dX8_keep_9 ?_
  refine lv_iload_n hx hb dX8_keep_12 rfl (lv_at hl 2 rfl) ?_
  refine m_aV hW (m_runV (As := [.int u]) (rest := []) hx hb hml hown hts hW (33) (g_X5_add l D cy b S μ0 33 34 401 rfl rfl (by decide) rfl (fun _ => rfl) hS5 (fun _ => hS5) u μ1 hI) mi_X5_add k_X8_59 rfl rfl rfl hl.1 rfl (Nat.le_of_ble_eq_true rfl) dX8_keep_13 ⟨Nat.le_of_ble_eq_true rfl, Nat.le_of_ble_eq_true rfl⟩ ⟨Nat.le_of_ble_eq_true rfl, Nat.le_of_ble_eq_true rfl⟩) (fun μ2 H locs q2 hW => ?_)
  obtain ⟨hI, q2⟩ := q2
  refine lv_aload_n hx hb dX8_keep_16 rfl (lv_at hl 0 rfl) ?_
  refine m_getr hx hb hts hown hW (30) 2 (35) rfl rfl cw_8 rfl (by decide) k_X8_23 dX8_keep_17 ?_
  refine lv_iload_n hx hb dX8_keep_20 rfl (lv_at hl 3 rfl) ?_
  refine m_aV hW (m_runV (As := [.int v]) (rest := []) hx hb hml hown hts hW (35) (g_X5_add l D cy b S μ0 35 36 401 rfl rfl (by decide) rfl (fun _ => rfl) hS5 (fun _ => hS5) v μ2 hI) mi_X5_add k_X8_59 rfl rfl rfl hl.1 rfl (Nat.le_of_ble_eq_true rfl) dX8_keep_21 ⟨Nat.le_of_ble_eq_true rfl, Nat.le_of_ble_eq_true rfl⟩ ⟨Nat.le_of_ble_eq_true rfl, Nat.le_of_ble_eq_true rfl⟩) (fun μ3 H locs q3 hW => ?_)
  obtain ⟨hI, q3⟩ := q3
  exact m_vret hx hb hr hlocks hW (⟨hI, trivial⟩) dX8_keep_24
set_option maxHeartbeats 4000000 in
set_option maxRecDepth 100000 in
theorem L_X8_takeNumber_5 {p : Program} {l : Launch} {e : Env} {s : State} {m : MethodId} {args : Array Value} {below : List Frame} {meth : Method} {c : Code} {D : va_G} {cy : Nat → ClassId} {b : Nat} (hx : p.tables.exec = Jvm.exec) (hb : c.code = cX8_takeNumber) (hr : meth.sig.returnType = ((some .int))) (hml : c.maxLocals = 5) (hown : s.vm.findClass RX8 = some m.cls) (hts : ∀ w ∈ TB, w.before args s = true) (hlocks : meth.locks = false) (S : Nat → Bool) (μ0 : mM) (hS5 : S 5 = true) (k : Int32) (h_k : 0 ≤ k.toInt ∧ k.toInt ≤ 400) : ∀ (f : Nat), ∀ (y3 y4 : Int32) (hy : 0 ≤ y3.toInt ∧ y3.toInt ≤ 400) (hf : 400 - y3.toInt < (f : Int)) (μ : mM) (hI : IY S μ0 μ) (H : Heap) (locs : List Loc), m_WA (m_A b LAY) D cy s b LAY μ H locs → ∀ ls : Array Slot, lv_has ls 5 [(0, .ref (b + 30)), (1, .ref (b + 23)), (2, .int k), (3, .int y3), (4, .int y4)] → W p l e (m_R 2 0 0) s m args below meth c H locs 0 0 (MQ below (m_Qi D cy b LAY (fun r ν => IY S μ0 ν ∧ (0 ≤ r.toInt ∧ r.toInt ≤ 400))) args s 0 0 (m_A b LAY)) (F0 m 5 ls []) := by
  intro f
  induction f with
  | zero => intro y3 y4 hy hf; exfalso; omega
  | succ f ih =>
    intro y3 y4 hy hf μ hI H locs hW ls hl
    refine lv_iload_n hx hb dX8_takeNumber_5 rfl (lv_at hl 3 rfl) ?_
    refine lv_aload_n hx hb dX8_takeNumber_6 rfl (lv_at hl 1 rfl) ?_
    refine m_geti hx hb hts hown hW (23) 1 rfl rfl cw_5 rfl (by decide) k_X8_26 dX8_takeNumber_7 ?_
    refine lv_topi (fun x1 ex1 => ?_)
    have bx1 : 0 ≤ x1.toInt ∧ x1.toInt ≤ 400 := by rw [ex1]; exact hI.1 _ _ _ _ rfl
    refine lv_icmp_ge (tgt := 48) hx hb dX8_takeNumber_10 (by decide) (fun c2 => ?_) (fun c2 => ?_)
    · have i2 := m_c3 (rfl : x1.toInt = _) (rfl : y3.toInt = _) c2
      refine lv_aload_n hx hb dX8_takeNumber_48 rfl (lv_at hl 0 rfl) ?_
      refine lv_iload_n hx hb dX8_takeNumber_49 rfl (lv_at hl 3 rfl) ?_
      refine lv_iload_n hx hb dX8_takeNumber_50 rfl (lv_at hl 2 rfl) ?_
      refine lv_isub hx hb dX8_takeNumber_51 ?_
      refine lv_topi (fun x3 ex3 => ?_)
      have tx3 : x3.toInt = y3.toInt - k.toInt := m_subI ex3 (rfl : y3.toInt = _) (rfl : k.toInt = _) (by omega) (by omega)
      refine lv_iconst (v := 4) hx hb dX8_takeNumber_52 (by decide) ?_
      refine lv_icmp_gt (tgt := 60) hx hb dX8_takeNumber_53 (by decide) (fun c4 => ?_) (fun c4 => ?_)
      · have i4 := m_c1 (by decide : (4 : Int32).toInt = 4) (rfl : x3.toInt = _) c4
        refine lv_iconst (v := 0) hx hb dX8_takeNumber_60 (by decide) ?_
        refine lv_iload_n hx hb dX8_takeNumber_61 rfl (lv_at hl 2 rfl) ?_
        refine lv_iload hx hb dX8_takeNumber_62 (lv_at hl 4 rfl) ?_
        have l_0 : (0 : Int32).toInt = 0 := by decide
        refine m_aV hW (m_runV (As := [.int 0, .int k, .int y4]) (rest := []) hx hb hml hown hts hW (30) (g_X8_keep l D cy b S μ0 hS5 0 k y4 μ hI) mi_X8_keep k_X8_55 rfl rfl rfl hl.1 rfl (Nat.le_of_ble_eq_true rfl) dX8_takeNumber_64 ⟨Nat.le_of_ble_eq_true rfl, Nat.le_of_ble_eq_true rfl⟩ ⟨Nat.le_of_ble_eq_true rfl, Nat.le_of_ble_eq_true rfl⟩) (fun μ5 H locs q5 hW => ?_)
        obtain ⟨hI, q5⟩ := q5
        refine lv_iload_n hx hb dX8_takeNumber_67 rfl (lv_at hl 3 rfl) ?_
        exact m_iret hx hb hr hlocks hW rfl (⟨hI, by omega⟩) dX8_takeNumber_68
      · have i4 := m_c2 (by decide : (4 : Int32).toInt = 4) (rfl : x3.toInt = _) c4
        refine lv_iconst (v := 2) hx hb dX8_takeNumber_56 (by decide) ?_
        refine lv_goto (tgt := 61) hx hb dX8_takeNumber_57 (by decide) ?_
        refine lv_iload_n hx hb dX8_takeNumber_61 rfl (lv_at hl 2 rfl) ?_
        refine lv_iload hx hb dX8_takeNumber_62 (lv_at hl 4 rfl) ?_
        have l_2 : (2 : Int32).toInt = 2 := by decide
        refine m_aV hW (m_runV (As := [.int 2, .int k, .int y4]) (rest := []) hx hb hml hown hts hW (30) (g_X8_keep l D cy b S μ0 hS5 2 k y4 μ hI) mi_X8_keep k_X8_55 rfl rfl rfl hl.1 rfl (Nat.le_of_ble_eq_true rfl) dX8_takeNumber_64 ⟨Nat.le_of_ble_eq_true rfl, Nat.le_of_ble_eq_true rfl⟩ ⟨Nat.le_of_ble_eq_true rfl, Nat.le_of_ble_eq_true rfl⟩) (fun μ6 H locs q6 hW => ?_)
        obtain ⟨hI, q6⟩ := q6
        refine lv_iload_n hx hb dX8_takeNumber_67 rfl (lv_at hl 3 rfl) ?_
        exact m_iret hx hb hr hlocks hW rfl (⟨hI, by omega⟩) dX8_takeNumber_68
    · have i2 := m_c4 (rfl : x1.toInt = _) (rfl : y3.toInt = _) c2
      refine lv_aload_n hx hb dX8_takeNumber_13 rfl (lv_at hl 1 rfl) ?_
      refine m_getr hx hb hts hown hW (23) 0 (24) rfl rfl cw_5 rfl (by decide) k_X8_30 dX8_takeNumber_14 ?_
      refine lv_iload_n hx hb dX8_takeNumber_17 rfl (lv_at hl 3 rfl) ?_
      refine m_iald hx hb hW (24) rfl (m_ixI (rfl : y3.toInt = _) (by omega) (by omega)) dX8_takeNumber_18 ?_
      refine lv_topi (fun x7 ex7 => ?_)
      refine m_aI hW (m_runS (As := [.int x7]) (rest := []) hx hb hml hown hts hW (g_X8_isDigit l D cy b x7 μ hI.1) ms_X8_isDigit k_X8_42 rfl hl.1 rfl (Nat.le_of_ble_eq_true rfl) dX8_takeNumber_19 ⟨Nat.le_of_ble_eq_true rfl, Nat.le_of_ble_eq_true rfl⟩ ⟨Nat.le_of_ble_eq_true rfl, Nat.le_of_ble_eq_true rfl⟩) (fun x8 μ8 H locs q8 hW => ?_)
      obtain ⟨q8_m, q8⟩ := q8
      subst q8_m
      rcases q8 with ⟨rfl, q8⟩ | ⟨rfl, q8⟩
      · refine lv_if_eq (tgt := 48) hx hb dX8_takeNumber_22 (by decide) (fun c => False.elim (by revert c; decide)) (fun _ => ?_)
        refine lv_iload hx hb dX8_takeNumber_25 (lv_at hl 4 rfl) ?_
        refine lv_bipush (v := 10) hx hb dX8_takeNumber_27 (by decide) ?_
        refine lv_imul hx hb dX8_takeNumber_29 ?_
        refine lv_topi (fun x9 ex9 => ?_)
        refine lv_aload_n hx hb dX8_takeNumber_30 rfl (lv_at hl 1 rfl) ?_
        refine m_getr hx hb hts hown hW (23) 0 (24) rfl rfl cw_5 rfl (by decide) k_X8_30 dX8_takeNumber_31 ?_
        refine lv_iload_n hx hb dX8_takeNumber_34 rfl (lv_at hl 3 rfl) ?_
        refine m_iald hx hb hW (24) rfl (m_ixI (rfl : y3.toInt = _) (by omega) (by omega)) dX8_takeNumber_35 ?_
        refine lv_topi (fun x10 ex10 => ?_)
        have ex10 : x10 = x7 := by rw [ex10]; exact ex7.symm
        have ex10 := ex10.symm
        subst ex10
        refine lv_iadd hx hb dX8_takeNumber_36 ?_
        refine lv_topi (fun x11 ex11 => ?_)
        refine lv_bipush (v := 48) hx hb dX8_takeNumber_37 (by decide) ?_
        refine lv_isub hx hb dX8_takeNumber_39 ?_
        refine lv_topi (fun x12 ex12 => ?_)
        refine lv_istore (lv' := [(4, .int x12), (0, .ref (b + 30)), (1, .ref (b + 23)), (2, .int k), (3, .int y3)]) hx hb dX8_takeNumber_40 hl (by decide) rfl (fun ls hl => ?_)
        obtain ⟨x13, ex13⟩ : ∃ z : Int32, z = y3 + 1 := ⟨_, rfl⟩
        refine lv_iinc (v := x13) (lv' := [(3, .int x13), (4, .int x12), (0, .ref (b + 30)), (1, .ref (b + 23)), (2, .int k)]) hx hb dX8_takeNumber_42 hl (k := 4) rfl (by rw [ex13]; rfl) (by decide) rfl (fun ls hl => ?_)
        have tx13 : x13.toInt = y3.toInt + 1 := m_addI ex13 (rfl : y3.toInt = _) (by decide : (1 : Int32).toInt = 1) (by omega) (by omega)
        refine lv_goto (tgt := 5) hx hb dX8_takeNumber_45 (by decide) ?_
        exact ih x13 x12 (by omega) (by omega) μ hI _ _ hW ls (lv_sub hl [2, 3, 4, 0, 1] rfl)
      · refine lv_if_eq (tgt := 48) hx hb dX8_takeNumber_22 (by decide) (fun _ => ?_) (fun c => False.elim (by revert c; decide))
        refine lv_aload_n hx hb dX8_takeNumber_48 rfl (lv_at hl 0 rfl) ?_
        refine lv_iload_n hx hb dX8_takeNumber_49 rfl (lv_at hl 3 rfl) ?_
        refine lv_iload_n hx hb dX8_takeNumber_50 rfl (lv_at hl 2 rfl) ?_
        refine lv_isub hx hb dX8_takeNumber_51 ?_
        refine lv_topi (fun x14 ex14 => ?_)
        have tx14 : x14.toInt = y3.toInt - k.toInt := m_subI ex14 (rfl : y3.toInt = _) (rfl : k.toInt = _) (by omega) (by omega)
        refine lv_iconst (v := 4) hx hb dX8_takeNumber_52 (by decide) ?_
        refine lv_icmp_gt (tgt := 60) hx hb dX8_takeNumber_53 (by decide) (fun c15 => ?_) (fun c15 => ?_)
        · have i15 := m_c1 (by decide : (4 : Int32).toInt = 4) (rfl : x14.toInt = _) c15
          refine lv_iconst (v := 0) hx hb dX8_takeNumber_60 (by decide) ?_
          refine lv_iload_n hx hb dX8_takeNumber_61 rfl (lv_at hl 2 rfl) ?_
          refine lv_iload hx hb dX8_takeNumber_62 (lv_at hl 4 rfl) ?_
          have l_0 : (0 : Int32).toInt = 0 := by decide
          refine m_aV hW (m_runV (As := [.int 0, .int k, .int y4]) (rest := []) hx hb hml hown hts hW (30) (g_X8_keep l D cy b S μ0 hS5 0 k y4 μ hI) mi_X8_keep k_X8_55 rfl rfl rfl hl.1 rfl (Nat.le_of_ble_eq_true rfl) dX8_takeNumber_64 ⟨Nat.le_of_ble_eq_true rfl, Nat.le_of_ble_eq_true rfl⟩ ⟨Nat.le_of_ble_eq_true rfl, Nat.le_of_ble_eq_true rfl⟩) (fun μ16 H locs q16 hW => ?_)
          obtain ⟨hI, q16⟩ := q16
          refine lv_iload_n hx hb dX8_takeNumber_67 rfl (lv_at hl 3 rfl) ?_
          exact m_iret hx hb hr hlocks hW rfl (⟨hI, by omega⟩) dX8_takeNumber_68
        · have i15 := m_c2 (by decide : (4 : Int32).toInt = 4) (rfl : x14.toInt = _) c15
          refine lv_iconst (v := 2) hx hb dX8_takeNumber_56 (by decide) ?_
          refine lv_goto (tgt := 61) hx hb dX8_takeNumber_57 (by decide) ?_
          refine lv_iload_n hx hb dX8_takeNumber_61 rfl (lv_at hl 2 rfl) ?_
          refine lv_iload hx hb dX8_takeNumber_62 (lv_at hl 4 rfl) ?_
          have l_2 : (2 : Int32).toInt = 2 := by decide
          refine m_aV hW (m_runV (As := [.int 2, .int k, .int y4]) (rest := []) hx hb hml hown hts hW (30) (g_X8_keep l D cy b S μ0 hS5 2 k y4 μ hI) mi_X8_keep k_X8_55 rfl rfl rfl hl.1 rfl (Nat.le_of_ble_eq_true rfl) dX8_takeNumber_64 ⟨Nat.le_of_ble_eq_true rfl, Nat.le_of_ble_eq_true rfl⟩ ⟨Nat.le_of_ble_eq_true rfl, Nat.le_of_ble_eq_true rfl⟩) (fun μ17 H locs q17 hW => ?_)
          obtain ⟨hI, q17⟩ := q17
          refine lv_iload_n hx hb dX8_takeNumber_67 rfl (lv_at hl 3 rfl) ?_
          exact m_iret hx hb hr hlocks hW rfl (⟨hI, by omega⟩) dX8_takeNumber_68
set_option maxHeartbeats 4000000 in
set_option maxRecDepth 100000 in
theorem g_X8_takeNumber (l : Launch) (D : va_G) (cy : Nat → ClassId) (b : Nat) (S : Nat → Bool) (μ0 : mM) (hS5 : S 5 = true) (k : Int32) (h_k : 0 ≤ k.toInt ∧ k.toInt ≤ 400) (μ : mM) (hI : IY S μ0 μ) : m_Ci l yX8_takeNumber cX8_takeNumber 5 ((some .int)) 2 D cy b LAY μ [.ref (b + 30), .ref (b + 23), .int k] (fun r ν => IY S μ0 ν ∧ (0 ≤ r.toInt ∧ r.toInt ≤ 400)) := by
  unfold m_Ci
  refine m_of (by decide) (Nat.le_of_ble_eq_true rfl) ?_
  intro p e s m below meth c hx hb hr hml hown hts hlocks _ hW ls hl
  have hown : s.vm.findClass RX8 = some m.cls := hown
  have hl : lv_has ls 5 [(0, .ref (b + 30)), (1, .ref (b + 23)), (2, .int k)] := hl
  refine lv_iload_n hx hb dX8_takeNumber_0 rfl (lv_at hl 2 rfl) ?_
  refine lv_istore_n (lv' := [(3, .int k), (0, .ref (b + 30)), (1, .ref (b + 23)), (2, .int k)]) hx hb dX8_takeNumber_1 rfl hl (by decide) rfl (fun ls hl => ?_)
  refine lv_iconst (v := 0) hx hb dX8_takeNumber_2 (by decide) ?_
  refine lv_istore (lv' := [(4, .int 0), (3, .int k), (0, .ref (b + 30)), (1, .ref (b + 23)), (2, .int k)]) hx hb dX8_takeNumber_3 hl (by decide) rfl (fun ls hl => ?_)
  have l_0 : (0 : Int32).toInt = 0 := by decide
  exact L_X8_takeNumber_5 hx hb hr hml hown hts hlocks S μ0 hS5 k h_k  401 k 0 (by omega) (by omega) μ hI _ _ hW ls (lv_sub hl [2, 3, 4, 1, 0] rfl)
set_option maxHeartbeats 4000000 in
set_option maxRecDepth 100000 in
theorem g_X4_fail (l : Launch) (D : va_G) (cy : Nat → ClassId) (b : Nat) (S : Nat → Bool) (μ0 : mM) (hS5 : S 5 = true) (k : Int32) (μ : mM) (hI : IY S μ0 μ) : m_Cv l yX4_fail cX4_fail 2 (none) 1 D cy b LAY μ [.ref (b + 27), .int k] (fun ν => IY S μ0 ν ∧ (True)) := by
  unfold m_Cv
  refine m_of (by decide) (Nat.le_of_ble_eq_true rfl) ?_
  intro p e s m below meth c hx hb hr hml hown hts hlocks _ hW ls hl
  have hown : s.vm.findClass RX4 = some m.cls := hown
  have hl : lv_has ls 2 [(0, .ref (b + 27)), (1, .int k)] := hl
  refine lv_aload_n hx hb dX4_fail_0 rfl (lv_at hl 0 rfl) ?_
  refine m_geti hx hb hts hown hW (27) 1 rfl rfl cw_4 rfl (by decide) k_X4_20 dX4_fail_1 ?_
  refine lv_topi (fun x1 ex1 => ?_)
  refine lv_if_ne (tgt := 30) hx hb dX4_fail_4 (by decide) (fun c2 => ?_) (fun c2 => ?_)
  · have i2 := m_c6 (rfl : x1.toInt = _) (by decide : (0 : Int32).toInt = 0) c2
    refine lv_aload_n hx hb dX4_fail_30 rfl (lv_at hl 0 rfl) ?_
    refine lv_iconst (v := 0) hx hb dX4_fail_31 (by decide) ?_
    refine m_puti hx hb hts hown hW (27) 5 rfl rfl cw_4 tyX4_ok nmX4 rfl (by decide) k_X4_37 rfl rfl rfl dX4_fail_32 (fun H locs hW _ => ?_)
    generalize hμ3 : m_si μ (27) 5 0 = μ3 at hW
    have hI := hI.si0 hμ3 rfl hS5
    exact m_vret hx hb hr hlocks hW (⟨hI, trivial⟩) dX4_fail_35
  · have i2 := m_c5 (rfl : x1.toInt = _) (by decide : (0 : Int32).toInt = 0) c2
    refine lv_aload_n hx hb dX4_fail_7 rfl (lv_at hl 0 rfl) ?_
    refine lv_iload_n hx hb dX4_fail_8 rfl (lv_at hl 1 rfl) ?_
    refine m_puti hx hb hts hown hW (27) 1 rfl rfl cw_4 tyX4_ok nmX4 rfl (by decide) k_X4_20 rfl rfl rfl dX4_fail_9 (fun H locs hW _ => ?_)
    generalize hμ4 : m_si μ (27) 1 k = μ4 at hW
    have hI := hI.si0 hμ4 rfl hS5
    refine lv_aload_n hx hb dX4_fail_12 rfl (lv_at hl 0 rfl) ?_
    refine lv_aload_n hx hb dX4_fail_13 rfl (lv_at hl 0 rfl) ?_
    refine m_getr hx hb hts hown hW (27) 3 (30) rfl rfl cw_4 rfl (by decide) k_X4_30 dX4_fail_14 ?_
    refine m_getr hx hb hts hown hW (30) 1 (33) rfl rfl cw_8 rfl (by decide) k_X4_77 dX4_fail_17 ?_
    refine lv_aload_n hx hb dX4_fail_20 rfl (lv_at hl 0 rfl) ?_
    refine m_geti hx hb hts hown hW (27) 4 rfl rfl cw_4 rfl (by decide) k_X4_34 dX4_fail_21 ?_
    refine lv_topi (fun x5 ex5 => ?_)
    refine m_aI hW (m_runV (As := [.int x5]) (rest := [.ref (b + 27)]) hx hb hml hown hts hW (33) (g_X5_at l D cy b 33 34 401 rfl rfl (by decide) rfl (fun _ => rfl) x5 μ4 hI.1) mi_X5_at k_X4_56 rfl rfl rfl hl.1 rfl (Nat.le_of_ble_eq_true rfl) dX4_fail_24 ⟨Nat.le_of_ble_eq_true rfl, Nat.le_of_ble_eq_true rfl⟩ ⟨Nat.le_of_ble_eq_true rfl, Nat.le_of_ble_eq_true rfl⟩) (fun x6 μ6 H locs q6 hW => ?_)
    obtain ⟨q6_m, q6⟩ := q6
    subst q6_m
    refine m_puti hx hb hts hown hW (27) 2 rfl rfl cw_4 tyX4_ok nmX4 rfl (by decide) k_X4_24 rfl rfl rfl dX4_fail_27 (fun H locs hW _ => ?_)
    generalize hμ7 : m_si μ4 (27) 2 x6 = μ7 at hW
    have hI := hI.si0 hμ7 rfl hS5
    refine lv_aload_n hx hb dX4_fail_30 rfl (lv_at hl 0 rfl) ?_
    refine lv_iconst (v := 0) hx hb dX4_fail_31 (by decide) ?_
    refine m_puti hx hb hts hown hW (27) 5 rfl rfl cw_4 tyX4_ok nmX4 rfl (by decide) k_X4_37 rfl rfl rfl dX4_fail_32 (fun H locs hW _ => ?_)
    generalize hμ8 : m_si μ7 (27) 5 0 = μ8 at hW
    have hI := hI.si0 hμ8 rfl hS5
    exact m_vret hx hb hr hlocks hW (⟨hI, trivial⟩) dX4_fail_35
set_option maxHeartbeats 4000000 in
set_option maxRecDepth 100000 in
theorem g_X4_advance (l : Launch) (D : va_G) (cy : Nat → ClassId) (b : Nat) (S : Nat → Bool) (μ0 : mM) (hS5 : S 5 = true) (μ : mM) (hI : IY S μ0 μ) : m_Cv l yX4_advance cX4_advance 1 (none) 1 D cy b LAY μ [.ref (b + 27)] (fun ν => IY S μ0 ν ∧ (True)) := by
  unfold m_Cv
  refine m_of (by decide) (Nat.le_of_ble_eq_true rfl) ?_
  intro p e s m below meth c hx hb hr hml hown hts hlocks _ hW ls hl
  have hown : s.vm.findClass RX4 = some m.cls := hown
  have hl : lv_has ls 1 [(0, .ref (b + 27))] := hl
  refine lv_aload_n hx hb dX4_advance_0 rfl (lv_at hl 0 rfl) ?_
  refine m_geti hx hb hts hown hW (27) 1 rfl rfl cw_4 rfl (by decide) k_X4_20 dX4_advance_1 ?_
  refine lv_topi (fun x1 ex1 => ?_)
  refine lv_if_ne (tgt := 35) hx hb dX4_advance_4 (by decide) (fun c2 => ?_) (fun c2 => ?_)
  · have i2 := m_c6 (rfl : x1.toInt = _) (by decide : (0 : Int32).toInt = 0) c2
    exact m_vret hx hb hr hlocks hW (⟨hI, trivial⟩) dX4_advance_35
  · have i2 := m_c5 (rfl : x1.toInt = _) (by decide : (0 : Int32).toInt = 0) c2
    refine lv_aload_n hx hb dX4_advance_7 rfl (lv_at hl 0 rfl) ?_
    refine lv_dup hx hb dX4_advance_8 rfl ?_
    refine m_geti hx hb hts hown hW (27) 4 rfl rfl cw_4 rfl (by decide) k_X4_34 dX4_advance_9 ?_
    refine lv_topi (fun x3 ex3 => ?_)
    refine lv_iconst (v := 1) hx hb dX4_advance_12 (by decide) ?_
    refine lv_iadd hx hb dX4_advance_13 ?_
    refine lv_topi (fun x4 ex4 => ?_)
    refine m_puti hx hb hts hown hW (27) 4 rfl rfl cw_4 tyX4_ok nmX4 rfl (by decide) k_X4_34 rfl rfl rfl dX4_advance_14 (fun H locs hW _ => ?_)
    generalize hμ5 : m_si μ (27) 4 x4 = μ5 at hW
    have hI := hI.si0 hμ5 rfl hS5
    refine lv_aload_n hx hb dX4_advance_17 rfl (lv_at hl 0 rfl) ?_
    refine lv_aload_n hx hb dX4_advance_18 rfl (lv_at hl 0 rfl) ?_
    refine m_getr hx hb hts hown hW (27) 3 (30) rfl rfl cw_4 rfl (by decide) k_X4_30 dX4_advance_19 ?_
    refine m_getr hx hb hts hown hW (30) 0 (31) rfl rfl cw_8 rfl (by decide) k_X4_53 dX4_advance_22 ?_
    refine lv_aload_n hx hb dX4_advance_25 rfl (lv_at hl 0 rfl) ?_
    refine m_geti hx hb hts hown hW (27) 4 rfl rfl cw_4 rfl (by decide) k_X4_34 dX4_advance_26 ?_
    refine lv_topi (fun x6 ex6 => ?_)
    have ex6 : x6 = x4 := by rw [ex6, ← hμ5]; first | rfl | exact if_pos ⟨rfl, rfl⟩
    have ex6 := ex6.symm
    subst ex6
    refine m_aI hW (m_runV (As := [.int x4]) (rest := [.ref (b + 27)]) hx hb hml hown hts hW (31) (g_X5_at l D cy b 31 32 401 rfl rfl (by decide) rfl (fun _ => rfl) x4 μ5 hI.1) mi_X5_at k_X4_56 rfl rfl rfl hl.1 rfl (Nat.le_of_ble_eq_true rfl) dX4_advance_29 ⟨Nat.le_of_ble_eq_true rfl, Nat.le_of_ble_eq_true rfl⟩ ⟨Nat.le_of_ble_eq_true rfl, Nat.le_of_ble_eq_true rfl⟩) (fun x7 μ7 H locs q7 hW => ?_)
    obtain ⟨q7_m, q7⟩ := q7
    subst q7_m
    refine m_puti hx hb hts hown hW (27) 5 rfl rfl cw_4 tyX4_ok nmX4 rfl (by decide) k_X4_37 rfl rfl rfl dX4_advance_32 (fun H locs hW _ => ?_)
    generalize hμ8 : m_si μ5 (27) 5 x7 = μ8 at hW
    have hI := hI.si0 hμ8 rfl hS5
    exact m_vret hx hb hr hlocks hW (⟨hI, trivial⟩) dX4_advance_35
set_option maxHeartbeats 4000000 in
set_option maxRecDepth 100000 in
theorem g_X4_expect (l : Launch) (D : va_G) (cy : Nat → ClassId) (b : Nat) (S : Nat → Bool) (μ0 : mM) (hS5 : S 5 = true) (k : Int32) (μ : mM) (hI : IY S μ0 μ) : m_Cv l yX4_expect cX4_expect 2 (none) 2 D cy b LAY μ [.ref (b + 27), .int k] (fun ν => IY S μ0 ν ∧ (True)) := by
  unfold m_Cv
  refine m_of (by decide) (Nat.le_of_ble_eq_true rfl) ?_
  intro p e s m below meth c hx hb hr hml hown hts hlocks _ hW ls hl
  have hown : s.vm.findClass RX4 = some m.cls := hown
  have hl : lv_has ls 2 [(0, .ref (b + 27)), (1, .int k)] := hl
  refine lv_aload_n hx hb dX4_expect_0 rfl (lv_at hl 0 rfl) ?_
  refine m_geti hx hb hts hown hW (27) 5 rfl rfl cw_4 rfl (by decide) k_X4_37 dX4_expect_1 ?_
  refine lv_topi (fun x1 ex1 => ?_)
  refine lv_iload_n hx hb dX4_expect_4 rfl (lv_at hl 1 rfl) ?_
  refine lv_icmp_ne (tgt := 15) hx hb dX4_expect_5 (by decide) (fun c2 => ?_) (fun c2 => ?_)
  · have i2 := m_c6 (rfl : x1.toInt = _) (rfl : k.toInt = _) c2
    refine lv_aload_n hx hb dX4_expect_15 rfl (lv_at hl 0 rfl) ?_
    refine lv_iconst (v := 1) hx hb dX4_expect_16 (by decide) ?_
    have l_1 : (1 : Int32).toInt = 1 := by decide
    refine m_aV hW (m_runV (As := [.int 1]) (rest := []) hx hb hml hown hts hW (27) (g_X4_fail l D cy b S μ0 hS5 1 μ hI) mi_X4_fail k_X4_74 rfl rfl rfl hl.1 rfl (Nat.le_of_ble_eq_true rfl) dX4_expect_17 ⟨Nat.le_of_ble_eq_true rfl, Nat.le_of_ble_eq_true rfl⟩ ⟨Nat.le_of_ble_eq_true rfl, Nat.le_of_ble_eq_true rfl⟩) (fun μ3 H locs q3 hW => ?_)
    obtain ⟨hI, q3⟩ := q3
    exact m_vret hx hb hr hlocks hW (⟨hI, trivial⟩) dX4_expect_20
  · have i2 := m_c5 (rfl : x1.toInt = _) (rfl : k.toInt = _) c2
    refine lv_aload_n hx hb dX4_expect_8 rfl (lv_at hl 0 rfl) ?_
    refine m_aV hW (m_runV (As := []) (rest := []) hx hb hml hown hts hW (27) (g_X4_advance l D cy b S μ0 hS5 μ hI) mi_X4_advance k_X4_80 rfl rfl rfl hl.1 rfl (Nat.le_of_ble_eq_true rfl) dX4_expect_9 ⟨Nat.le_of_ble_eq_true rfl, Nat.le_of_ble_eq_true rfl⟩ ⟨Nat.le_of_ble_eq_true rfl, Nat.le_of_ble_eq_true rfl⟩) (fun μ4 H locs q4 hW => ?_)
    obtain ⟨hI, q4⟩ := q4
    refine lv_goto (tgt := 20) hx hb dX4_expect_12 (by decide) ?_
    exact m_vret hx hb hr hlocks hW (⟨hI, trivial⟩) dX4_expect_20
set_option maxHeartbeats 4000000 in
set_option maxRecDepth 100000 in
theorem g_X4_innermost (l : Launch) (D : va_G) (cy : Nat → ClassId) (b : Nat) (μ : mM) (hI : IX μ) : m_Ci l yX4_innermost cX4_innermost 1 ((some .int)) 1 D cy b LAY μ [.ref (b + 27)] (fun r ν => μ = ν ∧ (True)) := by
  unfold m_Ci
  refine m_of (by decide) (Nat.le_of_ble_eq_true rfl) ?_
  intro p e s m below meth c hx hb hr hml hown hts hlocks _ hW ls hl
  have hown : s.vm.findClass RX4 = some m.cls := hown
  have hl : lv_has ls 1 [(0, .ref (b + 27))] := hl
  refine lv_aload_n hx hb dX4_innermost_0 rfl (lv_at hl 0 rfl) ?_
  refine m_getr hx hb hts hown hW (27) 6 (37) rfl rfl cw_4 rfl (by decide) k_X4_40 dX4_innermost_1 ?_
  refine lv_aload_n hx hb dX4_innermost_4 rfl (lv_at hl 0 rfl) ?_
  refine m_getr hx hb hts hown hW (27) 6 (37) rfl rfl cw_4 rfl (by decide) k_X4_40 dX4_innermost_5 ?_
  refine m_geti hx hb hts hown hW (37) 1 rfl rfl cw_5 rfl (by decide) k_X4_50 dX4_innermost_8 ?_
  refine lv_topi (fun x1 ex1 => ?_)
  have bx1 : 0 ≤ x1.toInt ∧ x1.toInt ≤ 4 := by rw [ex1]; exact hI _ _ _ _ rfl
  refine lv_iconst (v := 1) hx hb dX4_innermost_11 (by decide) ?_
  refine lv_isub hx hb dX4_innermost_12 ?_
  refine lv_topi (fun x2 ex2 => ?_)
  have tx2 : x2.toInt = x1.toInt - 1 := m_subI ex2 (rfl : x1.toInt = _) (by decide : (1 : Int32).toInt = 1) (by omega) (by omega)
  refine m_aI hW (m_runV (As := [.int x2]) (rest := []) hx hb hml hown hts hW (37) (g_X5_at l D cy b 37 38 4 rfl rfl (by decide) rfl (fun _ => rfl) x2 μ hI) mi_X5_at k_X4_56 rfl rfl rfl hl.1 rfl (Nat.le_of_ble_eq_true rfl) dX4_innermost_13 ⟨Nat.le_of_ble_eq_true rfl, Nat.le_of_ble_eq_true rfl⟩ ⟨Nat.le_of_ble_eq_true rfl, Nat.le_of_ble_eq_true rfl⟩) (fun x3 μ3 H locs q3 hW => ?_)
  obtain ⟨q3_m, q3⟩ := q3
  subst q3_m
  exact m_iret hx hb hr hlocks hW rfl (⟨rfl, trivial⟩) dX4_innermost_16
set_option maxHeartbeats 4000000 in
set_option maxRecDepth 100000 in
theorem g_X4_dropInnermost (l : Launch) (D : va_G) (cy : Nat → ClassId) (b : Nat) (S : Nat → Bool) (μ0 : mM) (hS5 : S 5 = true) (μ : mM) (hI : IY S μ0 μ) : m_Cv l yX4_dropInnermost cX4_dropInnermost 1 (none) 1 D cy b LAY μ [.ref (b + 27)] (fun ν => IY S μ0 ν ∧ (True)) := by
  unfold m_Cv
  refine m_of (by decide) (Nat.le_of_ble_eq_true rfl) ?_
  intro p e s m below meth c hx hb hr hml hown hts hlocks _ hW ls hl
  have hown : s.vm.findClass RX4 = some m.cls := hown
  have hl : lv_has ls 1 [(0, .ref (b + 27))] := hl
  refine lv_aload_n hx hb dX4_dropInnermost_0 rfl (lv_at hl 0 rfl) ?_
  refine m_getr hx hb hts hown hW (27) 6 (37) rfl rfl cw_4 rfl (by decide) k_X4_40 dX4_dropInnermost_1 ?_
  refine lv_iconst (v := 0) hx hb dX4_dropInnermost_4 (by decide) ?_
  refine lv_aload_n hx hb dX4_dropInnermost_5 rfl (lv_at hl 0 rfl) ?_
  refine m_getr hx hb hts hown hW (27) 6 (37) rfl rfl cw_4 rfl (by decide) k_X4_40 dX4_dropInnermost_6 ?_
  refine m_geti hx hb hts hown hW (37) 1 rfl rfl cw_5 rfl (by decide) k_X4_50 dX4_dropInnermost_9 ?_
  refine lv_topi (fun x1 ex1 => ?_)
  have bx1 : 0 ≤ x1.toInt ∧ x1.toInt ≤ 4 := by rw [ex1]; exact hI.1 _ _ _ _ rfl
  refine lv_iconst (v := 1) hx hb dX4_dropInnermost_12 (by decide) ?_
  refine lv_isub hx hb dX4_dropInnermost_13 ?_
  refine lv_topi (fun x2 ex2 => ?_)
  have tx2 : x2.toInt = x1.toInt - 1 := m_subI ex2 (rfl : x1.toInt = _) (by decide : (1 : Int32).toInt = 1) (by omega) (by omega)
  refine va_mmax hx hb (hml.trans hl.1.symm) hown (hts _ k_X4_111) (hts _ kM_max_s) (hts _ kM_n) (hts _ kM_max_c) (Nat.le_of_ble_eq_true rfl) (Nat.le_of_ble_eq_true rfl) (Nat.le_of_ble_eq_true rfl) (Nat.le_of_ble_eq_true rfl) dX4_dropInnermost_14 ?_
  refine lv_topi (fun x3 ex3 => ?_)
  have tx3 : x3.toInt = max (0) (x2.toInt) := m_max ex3 (by decide : (0 : Int32).toInt = 0) (rfl : x2.toInt = _)
  refine m_puti hx hb hts hown hW (37) 1 rfl rfl cw_5 tyX5_ok nmX5 rfl (by decide) k_X4_50 rfl rfl rfl dX4_dropInnermost_17 (fun H locs hW _ => ?_)
  generalize hμ4 : m_si μ (37) 1 x3 = μ4 at hW
  have hI := hI.si1 hμ4 rfl (by omega) hS5
  refine lv_aload_n hx hb dX4_dropInnermost_20 rfl (lv_at hl 0 rfl) ?_
  refine m_getr hx hb hts hown hW (27) 7 (39) rfl rfl cw_4 rfl (by decide) k_X4_43 dX4_dropInnermost_21 ?_
  refine lv_iconst (v := 0) hx hb dX4_dropInnermost_24 (by decide) ?_
  refine lv_aload_n hx hb dX4_dropInnermost_25 rfl (lv_at hl 0 rfl) ?_
  refine m_getr hx hb hts hown hW (27) 7 (39) rfl rfl cw_4 rfl (by decide) k_X4_43 dX4_dropInnermost_26 ?_
  refine m_geti hx hb hts hown hW (39) 1 rfl rfl cw_5 rfl (by decide) k_X4_50 dX4_dropInnermost_29 ?_
  refine lv_topi (fun x5 ex5 => ?_)
  have bx5 : 0 ≤ x5.toInt ∧ x5.toInt ≤ 4 := by rw [ex5]; exact hI.1 _ _ _ _ rfl
  refine lv_iconst (v := 1) hx hb dX4_dropInnermost_32 (by decide) ?_
  refine lv_isub hx hb dX4_dropInnermost_33 ?_
  refine lv_topi (fun x6 ex6 => ?_)
  have tx6 : x6.toInt = x5.toInt - 1 := m_subI ex6 (rfl : x5.toInt = _) (by decide : (1 : Int32).toInt = 1) (by omega) (by omega)
  refine va_mmax hx hb (hml.trans hl.1.symm) hown (hts _ k_X4_111) (hts _ kM_max_s) (hts _ kM_n) (hts _ kM_max_c) (Nat.le_of_ble_eq_true rfl) (Nat.le_of_ble_eq_true rfl) (Nat.le_of_ble_eq_true rfl) (Nat.le_of_ble_eq_true rfl) dX4_dropInnermost_34 ?_
  refine lv_topi (fun x7 ex7 => ?_)
  have tx7 : x7.toInt = max (0) (x6.toInt) := m_max ex7 (by decide : (0 : Int32).toInt = 0) (rfl : x6.toInt = _)
  refine m_puti hx hb hts hown hW (39) 1 rfl rfl cw_5 tyX5_ok nmX5 rfl (by decide) k_X4_50 rfl rfl rfl dX4_dropInnermost_37 (fun H locs hW _ => ?_)
  generalize hμ8 : m_si μ4 (39) 1 x7 = μ8 at hW
  have hI := hI.si1 hμ8 rfl (by omega) hS5
  exact m_vret hx hb hr hlocks hW (⟨hI, trivial⟩) dX4_dropInnermost_40
set_option maxHeartbeats 4000000 in
set_option maxRecDepth 100000 in
theorem L_X4_closeStep_2 {p : Program} {l : Launch} {e : Env} {s : State} {m : MethodId} {args : Array Value} {below : List Frame} {meth : Method} {c : Code} {D : va_G} {cy : Nat → ClassId} {b : Nat} (hx : p.tables.exec = Jvm.exec) (hb : c.code = cX4_closeStep) (hr : meth.sig.returnType = (none)) (hml : c.maxLocals = 2) (hown : s.vm.findClass RX4 = some m.cls) (hts : ∀ w ∈ TB, w.before args s = true) (hlocks : meth.locks = false) (S : Nat → Bool) (μ0 : mM) (hS5 : S 5 = true) : ∀ (f : Nat), ∀ (y1 : Int32) (hy : 0 ≤ y1.toInt ∧ y1.toInt ≤ 4) (hf : 4 - y1.toInt < (f : Int)) (μ : mM) (hI : IY S μ0 μ) (H : Heap) (locs : List Loc), m_WA (m_A b LAY) D cy s b LAY μ H locs → ∀ ls : Array Slot, lv_has ls 2 [(0, .ref (b + 27)), (1, .int y1)] → W p l e (m_R 3 0 0) s m args below meth c H locs 0 0 (MQ below (m_Qv D cy b LAY (fun ν => IY S μ0 ν ∧ (True))) args s 0 0 (m_A b LAY)) (F0 m 2 ls []) := by
  intro f
  induction f with
  | zero => intro y1 hy hf; exfalso; omega
  | succ f ih =>
    intro y1 hy hf μ hI H locs hW ls hl
    refine lv_iload_n hx hb dX4_closeStep_2 rfl (lv_at hl 1 rfl) ?_
    refine lv_iconst (v := 4) hx hb dX4_closeStep_3 (by decide) ?_
    refine lv_icmp_ge (tgt := 56) hx hb dX4_closeStep_4 (by decide) (fun c1 => ?_) (fun c1 => ?_)
    · have i1 := m_c3 (by decide : (4 : Int32).toInt = 4) (rfl : y1.toInt = _) c1
      refine lv_aload_n hx hb dX4_closeStep_56 rfl (lv_at hl 0 rfl) ?_
      refine lv_iconst (v := 3) hx hb dX4_closeStep_57 (by decide) ?_
      have l_3 : (3 : Int32).toInt = 3 := by decide
      refine m_aV hW (m_runV (As := [.int 3]) (rest := []) hx hb hml hown hts hW (27) (g_X4_expect l D cy b S μ0 hS5 3 μ hI) mi_X4_expect k_X4_108 rfl rfl rfl hl.1 rfl (Nat.le_of_ble_eq_true rfl) dX4_closeStep_58 ⟨Nat.le_of_ble_eq_true rfl, Nat.le_of_ble_eq_true rfl⟩ ⟨Nat.le_of_ble_eq_true rfl, Nat.le_of_ble_eq_true rfl⟩) (fun μ2 H locs q2 hW => ?_)
      obtain ⟨hI, q2⟩ := q2
      exact m_vret hx hb hr hlocks hW (⟨hI, trivial⟩) dX4_closeStep_61
    · have i1 := m_c4 (by decide : (4 : Int32).toInt = 4) (rfl : y1.toInt = _) c1
      refine lv_aload_n hx hb dX4_closeStep_7 rfl (lv_at hl 0 rfl) ?_
      refine m_aI hW (m_runV (As := []) (rest := []) hx hb hml hown hts hW (27) (g_X4_innermost l D cy b μ hI.1) mi_X4_innermost k_X4_67 rfl rfl rfl hl.1 rfl (Nat.le_of_ble_eq_true rfl) dX4_closeStep_8 ⟨Nat.le_of_ble_eq_true rfl, Nat.le_of_ble_eq_true rfl⟩ ⟨Nat.le_of_ble_eq_true rfl, Nat.le_of_ble_eq_true rfl⟩) (fun x3 μ3 H locs q3 hW => ?_)
      obtain ⟨q3_m, q3⟩ := q3
      subst q3_m
      refine lv_bipush (v := 16) hx hb dX4_closeStep_11 (by decide) ?_
      refine lv_icmp_ne (tgt := 56) hx hb dX4_closeStep_13 (by decide) (fun c4 => ?_) (fun c4 => ?_)
      · have i4 := m_c6 (rfl : x3.toInt = _) (by decide : (16 : Int32).toInt = 16) c4
        refine lv_aload_n hx hb dX4_closeStep_56 rfl (lv_at hl 0 rfl) ?_
        refine lv_iconst (v := 3) hx hb dX4_closeStep_57 (by decide) ?_
        have l_3 : (3 : Int32).toInt = 3 := by decide
        refine m_aV hW (m_runV (As := [.int 3]) (rest := []) hx hb hml hown hts hW (27) (g_X4_expect l D cy b S μ0 hS5 3 μ hI) mi_X4_expect k_X4_108 rfl rfl rfl hl.1 rfl (Nat.le_of_ble_eq_true rfl) dX4_closeStep_58 ⟨Nat.le_of_ble_eq_true rfl, Nat.le_of_ble_eq_true rfl⟩ ⟨Nat.le_of_ble_eq_true rfl, Nat.le_of_ble_eq_true rfl⟩) (fun μ5 H locs q5 hW => ?_)
        obtain ⟨hI, q5⟩ := q5
        exact m_vret hx hb hr hlocks hW (⟨hI, trivial⟩) dX4_closeStep_61
      · have i4 := m_c5 (rfl : x3.toInt = _) (by decide : (16 : Int32).toInt = 16) c4
        refine lv_aload_n hx hb dX4_closeStep_16 rfl (lv_at hl 0 rfl) ?_
        refine m_getr hx hb hts hown hW (27) 0 (28) rfl rfl cw_4 rfl (by decide) k_X4_16 dX4_closeStep_17 ?_
        refine lv_aload_n hx hb dX4_closeStep_20 rfl (lv_at hl 0 rfl) ?_
        refine m_getr hx hb hts hown hW (27) 7 (39) rfl rfl cw_4 rfl (by decide) k_X4_43 dX4_closeStep_21 ?_
        refine lv_aload_n hx hb dX4_closeStep_24 rfl (lv_at hl 0 rfl) ?_
        refine m_getr hx hb hts hown hW (27) 7 (39) rfl rfl cw_4 rfl (by decide) k_X4_43 dX4_closeStep_25 ?_
        refine m_geti hx hb hts hown hW (39) 1 rfl rfl cw_5 rfl (by decide) k_X4_50 dX4_closeStep_28 ?_
        refine lv_topi (fun x6 ex6 => ?_)
        have bx6 : 0 ≤ x6.toInt ∧ x6.toInt ≤ 4 := by rw [ex6]; exact hI.1 _ _ _ _ rfl
        refine lv_iconst (v := 1) hx hb dX4_closeStep_31 (by decide) ?_
        refine lv_isub hx hb dX4_closeStep_32 ?_
        refine lv_topi (fun x7 ex7 => ?_)
        have tx7 : x7.toInt = x6.toInt - 1 := m_subI ex7 (rfl : x6.toInt = _) (by decide : (1 : Int32).toInt = 1) (by omega) (by omega)
        refine m_aI hW (m_runV (As := [.int x7]) (rest := [.ref (b + 28)]) hx hb hml hown hts hW (39) (g_X5_at l D cy b 39 40 4 rfl rfl (by decide) rfl (fun _ => rfl) x7 μ hI.1) mi_X5_at k_X4_56 rfl rfl rfl hl.1 rfl (Nat.le_of_ble_eq_true rfl) dX4_closeStep_33 ⟨Nat.le_of_ble_eq_true rfl, Nat.le_of_ble_eq_true rfl⟩ ⟨Nat.le_of_ble_eq_true rfl, Nat.le_of_ble_eq_true rfl⟩) (fun x8 μ8 H locs q8 hW => ?_)
        obtain ⟨q8_m, q8⟩ := q8
        subst q8_m
        refine lv_aload_n hx hb dX4_closeStep_36 rfl (lv_at hl 0 rfl) ?_
        refine m_getr hx hb hts hown hW (27) 0 (28) rfl rfl cw_4 rfl (by decide) k_X4_16 dX4_closeStep_37 ?_
        refine m_geti hx hb hts hown hW (28) 1 rfl rfl cw_5 rfl (by decide) k_X4_50 dX4_closeStep_40 ?_
        refine lv_topi (fun x9 ex9 => ?_)
        have bx9 : 0 ≤ x9.toInt ∧ x9.toInt ≤ 800 := by rw [ex9]; exact hI.1 _ _ _ _ rfl
        refine m_aV hW (m_runV (As := [.int x8, .int x9]) (rest := []) hx hb hml hown hts hW (28) (g_X5_put l D cy b S μ0 28 29 800 rfl rfl (by decide) rfl (fun _ => rfl) hS5 (fun _ => hS5) x8 x9 μ hI) mi_X5_put k_X4_102 rfl rfl rfl hl.1 rfl (Nat.le_of_ble_eq_true rfl) dX4_closeStep_43 ⟨Nat.le_of_ble_eq_true rfl, Nat.le_of_ble_eq_true rfl⟩ ⟨Nat.le_of_ble_eq_true rfl, Nat.le_of_ble_eq_true rfl⟩) (fun μ10 H locs q10 hW => ?_)
        obtain ⟨hI, q10⟩ := q10
        refine lv_aload_n hx hb dX4_closeStep_46 rfl (lv_at hl 0 rfl) ?_
        refine m_aV hW (m_runV (As := []) (rest := []) hx hb hml hown hts hW (27) (g_X4_dropInnermost l D cy b S μ0 hS5 μ10 hI) mi_X4_dropInnermost k_X4_105 rfl rfl rfl hl.1 rfl (Nat.le_of_ble_eq_true rfl) dX4_closeStep_47 ⟨Nat.le_of_ble_eq_true rfl, Nat.le_of_ble_eq_true rfl⟩ ⟨Nat.le_of_ble_eq_true rfl, Nat.le_of_ble_eq_true rfl⟩) (fun μ11 H locs q11 hW => ?_)
        obtain ⟨hI, q11⟩ := q11
        obtain ⟨x12, ex12⟩ : ∃ z : Int32, z = y1 + 1 := ⟨_, rfl⟩
        refine lv_iinc (v := x12) (lv' := [(1, .int x12), (0, .ref (b + 27))]) hx hb dX4_closeStep_50 hl (k := 1) rfl (by rw [ex12]; rfl) (by decide) rfl (fun ls hl => ?_)
        have tx12 : x12.toInt = y1.toInt + 1 := m_addI ex12 (rfl : y1.toInt = _) (by decide : (1 : Int32).toInt = 1) (by omega) (by omega)
        refine lv_goto (tgt := 2) hx hb dX4_closeStep_53 (by decide) ?_
        exact ih x12 (by omega) (by omega) μ11 hI _ _ hW ls (lv_sub hl [1, 0] rfl)
set_option maxHeartbeats 4000000 in
set_option maxRecDepth 100000 in
theorem g_X4_closeStep (l : Launch) (D : va_G) (cy : Nat → ClassId) (b : Nat) (S : Nat → Bool) (μ0 : mM) (hS5 : S 5 = true) (μ : mM) (hI : IY S μ0 μ) : m_Cv l yX4_closeStep cX4_closeStep 2 (none) 3 D cy b LAY μ [.ref (b + 27)] (fun ν => IY S μ0 ν ∧ (True)) := by
  unfold m_Cv
  refine m_of (by decide) (Nat.le_of_ble_eq_true rfl) ?_
  intro p e s m below meth c hx hb hr hml hown hts hlocks _ hW ls hl
  have hown : s.vm.findClass RX4 = some m.cls := hown
  have hl : lv_has ls 2 [(0, .ref (b + 27))] := hl
  refine lv_iconst (v := 0) hx hb dX4_closeStep_0 (by decide) ?_
  refine lv_istore_n (lv' := [(1, .int 0), (0, .ref (b + 27))]) hx hb dX4_closeStep_1 rfl hl (by decide) rfl (fun ls hl => ?_)
  have l_0 : (0 : Int32).toInt = 0 := by decide
  exact L_X4_closeStep_2 hx hb hr hml hown hts hlocks S μ0 hS5  5 0 (by omega) (by omega) μ hI _ _ hW ls (lv_sub hl [1, 0] rfl)
set_option maxHeartbeats 4000000 in
set_option maxRecDepth 100000 in
theorem g_X4_readNumber (l : Launch) (D : va_G) (cy : Nat → ClassId) (b : Nat) (S : Nat → Bool) (μ0 : mM) (hS5 : S 5 = true) (k u : Int32) (μ : mM) (hI : IY S μ0 μ) : m_Cv l yX4_readNumber cX4_readNumber 4 (none) 2 D cy b LAY μ [.ref (b + 27), .int k, .int u] (fun ν => IY S μ0 ν ∧ (True)) := by
  unfold m_Cv
  refine m_of (by decide) (Nat.le_of_ble_eq_true rfl) ?_
  intro p e s m below meth c hx hb hr hml hown hts hlocks _ hW ls hl
  have hown : s.vm.findClass RX4 = some m.cls := hown
  have hl : lv_has ls 4 [(0, .ref (b + 27)), (1, .int k), (2, .int u)] := hl
  refine lv_aload_n hx hb dX4_readNumber_0 rfl (lv_at hl 0 rfl) ?_
  refine m_getr hx hb hts hown hW (27) 3 (30) rfl rfl cw_4 rfl (by decide) k_X4_30 dX4_readNumber_1 ?_
  refine m_getr hx hb hts hown hW (30) 2 (35) rfl rfl cw_8 rfl (by decide) k_X4_124 dX4_readNumber_4 ?_
  refine lv_aload_n hx hb dX4_readNumber_7 rfl (lv_at hl 0 rfl) ?_
  refine m_geti hx hb hts hown hW (27) 4 rfl rfl cw_4 rfl (by decide) k_X4_34 dX4_readNumber_8 ?_
  refine lv_topi (fun x1 ex1 => ?_)
  refine m_aI hW (m_runV (As := [.int x1]) (rest := []) hx hb hml hown hts hW (35) (g_X5_at l D cy b 35 36 401 rfl rfl (by decide) rfl (fun _ => rfl) x1 μ hI.1) mi_X5_at k_X4_56 rfl rfl rfl hl.1 rfl (Nat.le_of_ble_eq_true rfl) dX4_readNumber_11 ⟨Nat.le_of_ble_eq_true rfl, Nat.le_of_ble_eq_true rfl⟩ ⟨Nat.le_of_ble_eq_true rfl, Nat.le_of_ble_eq_true rfl⟩) (fun x2 μ2 H locs q2 hW => ?_)
  obtain ⟨q2_m, q2⟩ := q2
  subst q2_m
  refine lv_istore_n (lv' := [(3, .int x2), (0, .ref (b + 27)), (1, .int k), (2, .int u)]) hx hb dX4_readNumber_14 rfl hl (by decide) rfl (fun ls hl => ?_)
  refine lv_aload_n hx hb dX4_readNumber_15 rfl (lv_at hl 1 rfl) ?_
  refine m_geti hx hb hts hown hW (27) 5 rfl rfl cw_4 rfl (by decide) k_X4_37 dX4_readNumber_16 ?_
  refine lv_topi (fun x3 ex3 => ?_)
  refine lv_iconst (v := 2) hx hb dX4_readNumber_19 (by decide) ?_
  refine lv_icmp_eq (tgt := 31) hx hb dX4_readNumber_20 (by decide) (fun c4 => ?_) (fun c4 => ?_)
  · have i4 := m_c5 (rfl : x3.toInt = _) (by decide : (2 : Int32).toInt = 2) c4
    refine lv_iload_n hx hb dX4_readNumber_31 rfl (lv_at hl 0 rfl) ?_
    refine lv_iload_n hx hb dX4_readNumber_32 rfl (lv_at hl 2 rfl) ?_
    refine lv_iload_n hx hb dX4_readNumber_33 rfl (lv_at hl 3 rfl) ?_
    refine m_aI hW (m_runSN (As := [.int x2, .int k, .int u]) (rest := []) hx hb hml hown hts hW (g_X11_within l D cy b x2 k u μ hI.1) ms_X11_within n_X4_60 rfl hl.1 rfl (Nat.le_of_ble_eq_true rfl) dX4_readNumber_34 ⟨Nat.le_of_ble_eq_true rfl, Nat.le_of_ble_eq_true rfl⟩ ⟨Nat.le_of_ble_eq_true rfl, Nat.le_of_ble_eq_true rfl⟩) (fun x5 μ5 H locs q5 hW => ?_)
    obtain ⟨q5_m, q5⟩ := q5
    subst q5_m
    rcases q5 with ⟨rfl, q5⟩ | ⟨rfl, q5⟩
    · refine lv_if_ne (tgt := 48) hx hb dX4_readNumber_37 (by decide) (fun _ => ?_) (fun c => False.elim (by revert c; decide))
      refine lv_aload_n hx hb dX4_readNumber_48 rfl (lv_at hl 1 rfl) ?_
      refine m_getr hx hb hts hown hW (27) 0 (28) rfl rfl cw_4 rfl (by decide) k_X4_16 dX4_readNumber_49 ?_
      refine lv_iload_n hx hb dX4_readNumber_52 rfl (lv_at hl 0 rfl) ?_
      refine m_aV hW (m_runV (As := [.int x2]) (rest := []) hx hb hml hown hts hW (28) (g_X5_add l D cy b S μ0 28 29 800 rfl rfl (by decide) rfl (fun _ => rfl) hS5 (fun _ => hS5) x2 μ hI) mi_X5_add k_X4_83 rfl rfl rfl hl.1 rfl (Nat.le_of_ble_eq_true rfl) dX4_readNumber_53 ⟨Nat.le_of_ble_eq_true rfl, Nat.le_of_ble_eq_true rfl⟩ ⟨Nat.le_of_ble_eq_true rfl, Nat.le_of_ble_eq_true rfl⟩) (fun μ6 H locs q6 hW => ?_)
      obtain ⟨hI, q6⟩ := q6
      refine lv_aload_n hx hb dX4_readNumber_56 rfl (lv_at hl 1 rfl) ?_
      refine m_aV hW (m_runV (As := []) (rest := []) hx hb hml hown hts hW (27) (g_X4_advance l D cy b S μ0 hS5 μ6 hI) mi_X4_advance k_X4_80 rfl rfl rfl hl.1 rfl (Nat.le_of_ble_eq_true rfl) dX4_readNumber_57 ⟨Nat.le_of_ble_eq_true rfl, Nat.le_of_ble_eq_true rfl⟩ ⟨Nat.le_of_ble_eq_true rfl, Nat.le_of_ble_eq_true rfl⟩) (fun μ7 H locs q7 hW => ?_)
      obtain ⟨hI, q7⟩ := q7
      exact m_vret hx hb hr hlocks hW (⟨hI, trivial⟩) dX4_readNumber_60
    · refine lv_if_ne (tgt := 48) hx hb dX4_readNumber_37 (by decide) (fun c => False.elim (by revert c; decide)) (fun _ => ?_)
      refine lv_aload_n hx hb dX4_readNumber_40 rfl (lv_at hl 1 rfl) ?_
      refine lv_iconst (v := 2) hx hb dX4_readNumber_41 (by decide) ?_
      have l_2 : (2 : Int32).toInt = 2 := by decide
      refine m_aV hW (m_runV (As := [.int 2]) (rest := []) hx hb hml hown hts hW (27) (g_X4_fail l D cy b S μ0 hS5 2 μ hI) mi_X4_fail k_X4_74 rfl rfl rfl hl.1 rfl (Nat.le_of_ble_eq_true rfl) dX4_readNumber_42 ⟨Nat.le_of_ble_eq_true rfl, Nat.le_of_ble_eq_true rfl⟩ ⟨Nat.le_of_ble_eq_true rfl, Nat.le_of_ble_eq_true rfl⟩) (fun μ8 H locs q8 hW => ?_)
      obtain ⟨hI, q8⟩ := q8
      refine lv_goto (tgt := 60) hx hb dX4_readNumber_45 (by decide) ?_
      exact m_vret hx hb hr hlocks hW (⟨hI, trivial⟩) dX4_readNumber_60
  · have i4 := m_c6 (rfl : x3.toInt = _) (by decide : (2 : Int32).toInt = 2) c4
    refine lv_aload_n hx hb dX4_readNumber_23 rfl (lv_at hl 1 rfl) ?_
    refine lv_iconst (v := 1) hx hb dX4_readNumber_24 (by decide) ?_
    have l_1 : (1 : Int32).toInt = 1 := by decide
    refine m_aV hW (m_runV (As := [.int 1]) (rest := []) hx hb hml hown hts hW (27) (g_X4_fail l D cy b S μ0 hS5 1 μ hI) mi_X4_fail k_X4_74 rfl rfl rfl hl.1 rfl (Nat.le_of_ble_eq_true rfl) dX4_readNumber_25 ⟨Nat.le_of_ble_eq_true rfl, Nat.le_of_ble_eq_true rfl⟩ ⟨Nat.le_of_ble_eq_true rfl, Nat.le_of_ble_eq_true rfl⟩) (fun μ9 H locs q9 hW => ?_)
    obtain ⟨hI, q9⟩ := q9
    refine lv_goto (tgt := 60) hx hb dX4_readNumber_28 (by decide) ?_
    exact m_vret hx hb hr hlocks hW (⟨hI, trivial⟩) dX4_readNumber_60
set_option maxHeartbeats 4000000 in
set_option maxRecDepth 100000 in
theorem g_X4_readSide (l : Launch) (D : va_G) (cy : Nat → ClassId) (b : Nat) (S : Nat → Bool) (μ0 : mM) (hS5 : S 5 = true) (μ : mM) (hI : IY S μ0 μ) : m_Cv l yX4_readSide cX4_readSide 1 (none) 2 D cy b LAY μ [.ref (b + 27)] (fun ν => IY S μ0 ν ∧ (True)) := by
  unfold m_Cv
  refine m_of (by decide) (Nat.le_of_ble_eq_true rfl) ?_
  intro p e s m below meth c hx hb hr hml hown hts hlocks _ hW ls hl
  have hown : s.vm.findClass RX4 = some m.cls := hown
  have hl : lv_has ls 1 [(0, .ref (b + 27))] := hl
  refine lv_aload_n hx hb dX4_readSide_0 rfl (lv_at hl 0 rfl) ?_
  refine m_geti hx hb hts hown hW (27) 5 rfl rfl cw_4 rfl (by decide) k_X4_37 dX4_readSide_1 ?_
  refine lv_topi (fun x1 ex1 => ?_)
  refine lv_bipush (v := 19) hx hb dX4_readSide_4 (by decide) ?_
  refine lv_bipush (v := 22) hx hb dX4_readSide_6 (by decide) ?_
  have l_19 : (19 : Int32).toInt = 19 := by decide
  have l_22 : (22 : Int32).toInt = 22 := by decide
  refine m_aI hW (m_runSN (As := [.int x1, .int 19, .int 22]) (rest := []) hx hb hml hown hts hW (g_X11_within l D cy b x1 19 22 μ hI.1) ms_X11_within n_X4_60 rfl hl.1 rfl (Nat.le_of_ble_eq_true rfl) dX4_readSide_8 ⟨Nat.le_of_ble_eq_true rfl, Nat.le_of_ble_eq_true rfl⟩ ⟨Nat.le_of_ble_eq_true rfl, Nat.le_of_ble_eq_true rfl⟩) (fun x2 μ2 H locs q2 hW => ?_)
  obtain ⟨q2_m, q2⟩ := q2
  subst q2_m
  rcases q2 with ⟨rfl, q2⟩ | ⟨rfl, q2⟩
  · refine lv_if_eq (tgt := 35) hx hb dX4_readSide_11 (by decide) (fun c => False.elim (by revert c; decide)) (fun _ => ?_)
    refine lv_aload_n hx hb dX4_readSide_14 rfl (lv_at hl 0 rfl) ?_
    refine m_getr hx hb hts hown hW (27) 0 (28) rfl rfl cw_4 rfl (by decide) k_X4_16 dX4_readSide_15 ?_
    refine lv_aload_n hx hb dX4_readSide_18 rfl (lv_at hl 0 rfl) ?_
    refine m_geti hx hb hts hown hW (27) 5 rfl rfl cw_4 rfl (by decide) k_X4_37 dX4_readSide_19 ?_
    refine lv_topi (fun x3 ex3 => ?_)
    have ex3 : x3 = x1 := by rw [ex3]; exact ex1.symm
    have ex3 := ex3.symm
    subst ex3
    refine lv_bipush (v := 19) hx hb dX4_readSide_22 (by decide) ?_
    refine lv_isub hx hb dX4_readSide_24 ?_
    refine lv_topi (fun x4 ex4 => ?_)
    have tx4 : x4.toInt = x1.toInt - 19 := m_subI ex4 (rfl : x1.toInt = _) (by decide : (19 : Int32).toInt = 19) (by omega) (by omega)
    refine m_aV hW (m_runV (As := [.int x4]) (rest := []) hx hb hml hown hts hW (28) (g_X5_add l D cy b S μ0 28 29 800 rfl rfl (by decide) rfl (fun _ => rfl) hS5 (fun _ => hS5) x4 μ hI) mi_X5_add k_X4_83 rfl rfl rfl hl.1 rfl (Nat.le_of_ble_eq_true rfl) dX4_readSide_25 ⟨Nat.le_of_ble_eq_true rfl, Nat.le_of_ble_eq_true rfl⟩ ⟨Nat.le_of_ble_eq_true rfl, Nat.le_of_ble_eq_true rfl⟩) (fun μ5 H locs q5 hW => ?_)
    obtain ⟨hI, q5⟩ := q5
    refine lv_aload_n hx hb dX4_readSide_28 rfl (lv_at hl 0 rfl) ?_
    refine m_aV hW (m_runV (As := []) (rest := []) hx hb hml hown hts hW (27) (g_X4_advance l D cy b S μ0 hS5 μ5 hI) mi_X4_advance k_X4_80 rfl rfl rfl hl.1 rfl (Nat.le_of_ble_eq_true rfl) dX4_readSide_29 ⟨Nat.le_of_ble_eq_true rfl, Nat.le_of_ble_eq_true rfl⟩ ⟨Nat.le_of_ble_eq_true rfl, Nat.le_of_ble_eq_true rfl⟩) (fun μ6 H locs q6 hW => ?_)
    obtain ⟨hI, q6⟩ := q6
    refine lv_goto (tgt := 40) hx hb dX4_readSide_32 (by decide) ?_
    exact m_vret hx hb hr hlocks hW (⟨hI, trivial⟩) dX4_readSide_40
  · refine lv_if_eq (tgt := 35) hx hb dX4_readSide_11 (by decide) (fun _ => ?_) (fun c => False.elim (by revert c; decide))
    refine lv_aload_n hx hb dX4_readSide_35 rfl (lv_at hl 0 rfl) ?_
    refine lv_iconst (v := 1) hx hb dX4_readSide_36 (by decide) ?_
    have l_1 : (1 : Int32).toInt = 1 := by decide
    refine m_aV hW (m_runV (As := [.int 1]) (rest := []) hx hb hml hown hts hW (27) (g_X4_fail l D cy b S μ0 hS5 1 μ hI) mi_X4_fail k_X4_74 rfl rfl rfl hl.1 rfl (Nat.le_of_ble_eq_true rfl) dX4_readSide_37 ⟨Nat.le_of_ble_eq_true rfl, Nat.le_of_ble_eq_true rfl⟩ ⟨Nat.le_of_ble_eq_true rfl, Nat.le_of_ble_eq_true rfl⟩) (fun μ7 H locs q7 hW => ?_)
    obtain ⟨hI, q7⟩ := q7
    exact m_vret hx hb hr hlocks hW (⟨hI, trivial⟩) dX4_readSide_40
set_option maxHeartbeats 4000000 in
set_option maxRecDepth 100000 in
theorem g_X4_readTerm (l : Launch) (D : va_G) (cy : Nat → ClassId) (b : Nat) (S : Nat → Bool) (μ0 : mM) (hS5 : S 5 = true) (k : Int32) (h_k : 0 ≤ k.toInt ∧ k.toInt ≤ 1) (μ : mM) (hI : IY S μ0 μ) : m_Cv l yX4_readTerm cX4_readTerm 2 (none) 2 D cy b LAY μ [.ref (b + 27), .int k] (fun ν => IY S μ0 ν ∧ (True)) := by
  unfold m_Cv
  refine m_of (by decide) (Nat.le_of_ble_eq_true rfl) ?_
  intro p e s m below meth c hx hb hr hml hown hts hlocks _ hW ls hl
  have hown : s.vm.findClass RX4 = some m.cls := hown
  have hl : lv_has ls 2 [(0, .ref (b + 27)), (1, .int k)] := hl
  refine lv_aload_n hx hb dX4_readTerm_0 rfl (lv_at hl 0 rfl) ?_
  refine m_geti hx hb hts hown hW (27) 5 rfl rfl cw_4 rfl (by decide) k_X4_37 dX4_readTerm_1 ?_
  refine lv_topi (fun x1 ex1 => ?_)
  refine lv_iconst (v := 2) hx hb dX4_readTerm_4 (by decide) ?_
  refine lv_icmp_eq (tgt := 22) hx hb dX4_readTerm_5 (by decide) (fun c2 => ?_) (fun c2 => ?_)
  · have i2 := m_c5 (rfl : x1.toInt = _) (by decide : (2 : Int32).toInt = 2) c2
    refine lv_aload_n hx hb dX4_readTerm_22 rfl (lv_at hl 0 rfl) ?_
    refine m_getr hx hb hts hown hW (27) 0 (28) rfl rfl cw_4 rfl (by decide) k_X4_16 dX4_readTerm_23 ?_
    refine lv_iload_n hx hb dX4_readTerm_26 rfl (lv_at hl 1 rfl) ?_
    refine lv_if_eq (tgt := 38) hx hb dX4_readTerm_27 (by decide) (fun c3 => ?_) (fun c3 => ?_)
    · have i3 := m_c5 (rfl : k.toInt = _) (by decide : (0 : Int32).toInt = 0) c3
      refine lv_aload_n hx hb dX4_readTerm_38 rfl (lv_at hl 0 rfl) ?_
      refine m_geti hx hb hts hown hW (27) 5 rfl rfl cw_4 rfl (by decide) k_X4_37 dX4_readTerm_39 ?_
      refine lv_topi (fun x4 ex4 => ?_)
      have ex4 : x4 = x1 := by rw [ex4]; exact ex1.symm
      have ex4 := ex4.symm
      subst ex4
      refine m_aV hW (m_runV (As := [.int x1]) (rest := []) hx hb hml hown hts hW (28) (g_X5_add l D cy b S μ0 28 29 800 rfl rfl (by decide) rfl (fun _ => rfl) hS5 (fun _ => hS5) x1 μ hI) mi_X5_add k_X4_83 rfl rfl rfl hl.1 rfl (Nat.le_of_ble_eq_true rfl) dX4_readTerm_42 ⟨Nat.le_of_ble_eq_true rfl, Nat.le_of_ble_eq_true rfl⟩ ⟨Nat.le_of_ble_eq_true rfl, Nat.le_of_ble_eq_true rfl⟩) (fun μ5 H locs q5 hW => ?_)
      obtain ⟨hI, q5⟩ := q5
      refine lv_aload_n hx hb dX4_readTerm_45 rfl (lv_at hl 0 rfl) ?_
      refine m_getr hx hb hts hown hW (27) 0 (28) rfl rfl cw_4 rfl (by decide) k_X4_16 dX4_readTerm_46 ?_
      refine lv_aload_n hx hb dX4_readTerm_49 rfl (lv_at hl 0 rfl) ?_
      refine m_getr hx hb hts hown hW (27) 3 (30) rfl rfl cw_4 rfl (by decide) k_X4_30 dX4_readTerm_50 ?_
      refine m_getr hx hb hts hown hW (30) 2 (35) rfl rfl cw_8 rfl (by decide) k_X4_124 dX4_readTerm_53 ?_
      refine lv_aload_n hx hb dX4_readTerm_56 rfl (lv_at hl 0 rfl) ?_
      refine m_geti hx hb hts hown hW (27) 4 rfl rfl cw_4 rfl (by decide) k_X4_34 dX4_readTerm_57 ?_
      refine lv_topi (fun x6 ex6 => ?_)
      refine m_aI hW (m_runV (As := [.int x6]) (rest := [.ref (b + 28)]) hx hb hml hown hts hW (35) (g_X5_at l D cy b 35 36 401 rfl rfl (by decide) rfl (fun _ => rfl) x6 μ5 hI.1) mi_X5_at k_X4_56 rfl rfl rfl hl.1 rfl (Nat.le_of_ble_eq_true rfl) dX4_readTerm_60 ⟨Nat.le_of_ble_eq_true rfl, Nat.le_of_ble_eq_true rfl⟩ ⟨Nat.le_of_ble_eq_true rfl, Nat.le_of_ble_eq_true rfl⟩) (fun x7 μ7 H locs q7 hW => ?_)
      obtain ⟨q7_m, q7⟩ := q7
      subst q7_m
      refine m_aV hW (m_runV (As := [.int x7]) (rest := []) hx hb hml hown hts hW (28) (g_X5_add l D cy b S μ0 28 29 800 rfl rfl (by decide) rfl (fun _ => rfl) hS5 (fun _ => hS5) x7 μ5 hI) mi_X5_add k_X4_83 rfl rfl rfl hl.1 rfl (Nat.le_of_ble_eq_true rfl) dX4_readTerm_63 ⟨Nat.le_of_ble_eq_true rfl, Nat.le_of_ble_eq_true rfl⟩ ⟨Nat.le_of_ble_eq_true rfl, Nat.le_of_ble_eq_true rfl⟩) (fun μ8 H locs q8 hW => ?_)
      obtain ⟨hI, q8⟩ := q8
      refine lv_aload_n hx hb dX4_readTerm_66 rfl (lv_at hl 0 rfl) ?_
      refine m_aV hW (m_runV (As := []) (rest := []) hx hb hml hown hts hW (27) (g_X4_advance l D cy b S μ0 hS5 μ8 hI) mi_X4_advance k_X4_80 rfl rfl rfl hl.1 rfl (Nat.le_of_ble_eq_true rfl) dX4_readTerm_67 ⟨Nat.le_of_ble_eq_true rfl, Nat.le_of_ble_eq_true rfl⟩ ⟨Nat.le_of_ble_eq_true rfl, Nat.le_of_ble_eq_true rfl⟩) (fun μ9 H locs q9 hW => ?_)
      obtain ⟨hI, q9⟩ := q9
      refine lv_goto (tgt := 78) hx hb dX4_readTerm_70 (by decide) ?_
      exact m_vret hx hb hr hlocks hW (⟨hI, trivial⟩) dX4_readTerm_78
    · have i3 := m_c6 (rfl : k.toInt = _) (by decide : (0 : Int32).toInt = 0) c3
      refine lv_aload_n hx hb dX4_readTerm_30 rfl (lv_at hl 0 rfl) ?_
      refine m_geti hx hb hts hown hW (27) 5 rfl rfl cw_4 rfl (by decide) k_X4_37 dX4_readTerm_31 ?_
      refine lv_topi (fun x10 ex10 => ?_)
      have ex10 : x10 = x1 := by rw [ex10]; exact ex1.symm
      have ex10 := ex10.symm
      subst ex10
      refine lv_ineg hx hb dX4_readTerm_34 ?_
      refine lv_topi (fun x11 ex11 => ?_)
      refine lv_goto (tgt := 42) hx hb dX4_readTerm_35 (by decide) ?_
      refine m_aV hW (m_runV (As := [.int x11]) (rest := []) hx hb hml hown hts hW (28) (g_X5_add l D cy b S μ0 28 29 800 rfl rfl (by decide) rfl (fun _ => rfl) hS5 (fun _ => hS5) x11 μ hI) mi_X5_add k_X4_83 rfl rfl rfl hl.1 rfl (Nat.le_of_ble_eq_true rfl) dX4_readTerm_42 ⟨Nat.le_of_ble_eq_true rfl, Nat.le_of_ble_eq_true rfl⟩ ⟨Nat.le_of_ble_eq_true rfl, Nat.le_of_ble_eq_true rfl⟩) (fun μ12 H locs q12 hW => ?_)
      obtain ⟨hI, q12⟩ := q12
      refine lv_aload_n hx hb dX4_readTerm_45 rfl (lv_at hl 0 rfl) ?_
      refine m_getr hx hb hts hown hW (27) 0 (28) rfl rfl cw_4 rfl (by decide) k_X4_16 dX4_readTerm_46 ?_
      refine lv_aload_n hx hb dX4_readTerm_49 rfl (lv_at hl 0 rfl) ?_
      refine m_getr hx hb hts hown hW (27) 3 (30) rfl rfl cw_4 rfl (by decide) k_X4_30 dX4_readTerm_50 ?_
      refine m_getr hx hb hts hown hW (30) 2 (35) rfl rfl cw_8 rfl (by decide) k_X4_124 dX4_readTerm_53 ?_
      refine lv_aload_n hx hb dX4_readTerm_56 rfl (lv_at hl 0 rfl) ?_
      refine m_geti hx hb hts hown hW (27) 4 rfl rfl cw_4 rfl (by decide) k_X4_34 dX4_readTerm_57 ?_
      refine lv_topi (fun x13 ex13 => ?_)
      refine m_aI hW (m_runV (As := [.int x13]) (rest := [.ref (b + 28)]) hx hb hml hown hts hW (35) (g_X5_at l D cy b 35 36 401 rfl rfl (by decide) rfl (fun _ => rfl) x13 μ12 hI.1) mi_X5_at k_X4_56 rfl rfl rfl hl.1 rfl (Nat.le_of_ble_eq_true rfl) dX4_readTerm_60 ⟨Nat.le_of_ble_eq_true rfl, Nat.le_of_ble_eq_true rfl⟩ ⟨Nat.le_of_ble_eq_true rfl, Nat.le_of_ble_eq_true rfl⟩) (fun x14 μ14 H locs q14 hW => ?_)
      obtain ⟨q14_m, q14⟩ := q14
      subst q14_m
      refine m_aV hW (m_runV (As := [.int x14]) (rest := []) hx hb hml hown hts hW (28) (g_X5_add l D cy b S μ0 28 29 800 rfl rfl (by decide) rfl (fun _ => rfl) hS5 (fun _ => hS5) x14 μ12 hI) mi_X5_add k_X4_83 rfl rfl rfl hl.1 rfl (Nat.le_of_ble_eq_true rfl) dX4_readTerm_63 ⟨Nat.le_of_ble_eq_true rfl, Nat.le_of_ble_eq_true rfl⟩ ⟨Nat.le_of_ble_eq_true rfl, Nat.le_of_ble_eq_true rfl⟩) (fun μ15 H locs q15 hW => ?_)
      obtain ⟨hI, q15⟩ := q15
      refine lv_aload_n hx hb dX4_readTerm_66 rfl (lv_at hl 0 rfl) ?_
      refine m_aV hW (m_runV (As := []) (rest := []) hx hb hml hown hts hW (27) (g_X4_advance l D cy b S μ0 hS5 μ15 hI) mi_X4_advance k_X4_80 rfl rfl rfl hl.1 rfl (Nat.le_of_ble_eq_true rfl) dX4_readTerm_67 ⟨Nat.le_of_ble_eq_true rfl, Nat.le_of_ble_eq_true rfl⟩ ⟨Nat.le_of_ble_eq_true rfl, Nat.le_of_ble_eq_true rfl⟩) (fun μ16 H locs q16 hW => ?_)
      obtain ⟨hI, q16⟩ := q16
      refine lv_goto (tgt := 78) hx hb dX4_readTerm_70 (by decide) ?_
      exact m_vret hx hb hr hlocks hW (⟨hI, trivial⟩) dX4_readTerm_78
  · have i2 := m_c6 (rfl : x1.toInt = _) (by decide : (2 : Int32).toInt = 2) c2
    refine lv_aload_n hx hb dX4_readTerm_8 rfl (lv_at hl 0 rfl) ?_
    refine m_geti hx hb hts hown hW (27) 5 rfl rfl cw_4 rfl (by decide) k_X4_37 dX4_readTerm_9 ?_
    refine lv_topi (fun x17 ex17 => ?_)
    have ex17 : x17 = x1 := by rw [ex17]; exact ex1.symm
    have ex17 := ex17.symm
    subst ex17
    refine lv_bipush (v := 23) hx hb dX4_readTerm_12 (by decide) ?_
    refine lv_bipush (v := 27) hx hb dX4_readTerm_14 (by decide) ?_
    have l_23 : (23 : Int32).toInt = 23 := by decide
    have l_27 : (27 : Int32).toInt = 27 := by decide
    refine m_aI hW (m_runSN (As := [.int x1, .int 23, .int 27]) (rest := []) hx hb hml hown hts hW (g_X11_within l D cy b x1 23 27 μ hI.1) ms_X11_within n_X4_60 rfl hl.1 rfl (Nat.le_of_ble_eq_true rfl) dX4_readTerm_16 ⟨Nat.le_of_ble_eq_true rfl, Nat.le_of_ble_eq_true rfl⟩ ⟨Nat.le_of_ble_eq_true rfl, Nat.le_of_ble_eq_true rfl⟩) (fun x18 μ18 H locs q18 hW => ?_)
    obtain ⟨q18_m, q18⟩ := q18
    subst q18_m
    rcases q18 with ⟨rfl, q18⟩ | ⟨rfl, q18⟩
    · refine lv_if_eq (tgt := 73) hx hb dX4_readTerm_19 (by decide) (fun c => False.elim (by revert c; decide)) (fun _ => ?_)
      refine lv_aload_n hx hb dX4_readTerm_22 rfl (lv_at hl 0 rfl) ?_
      refine m_getr hx hb hts hown hW (27) 0 (28) rfl rfl cw_4 rfl (by decide) k_X4_16 dX4_readTerm_23 ?_
      refine lv_iload_n hx hb dX4_readTerm_26 rfl (lv_at hl 1 rfl) ?_
      refine lv_if_eq (tgt := 38) hx hb dX4_readTerm_27 (by decide) (fun c19 => ?_) (fun c19 => ?_)
      · have i19 := m_c5 (rfl : k.toInt = _) (by decide : (0 : Int32).toInt = 0) c19
        refine lv_aload_n hx hb dX4_readTerm_38 rfl (lv_at hl 0 rfl) ?_
        refine m_geti hx hb hts hown hW (27) 5 rfl rfl cw_4 rfl (by decide) k_X4_37 dX4_readTerm_39 ?_
        refine lv_topi (fun x20 ex20 => ?_)
        have ex20 : x20 = x1 := by rw [ex20]; exact ex1.symm
        have ex20 := ex20.symm
        subst ex20
        refine m_aV hW (m_runV (As := [.int x1]) (rest := []) hx hb hml hown hts hW (28) (g_X5_add l D cy b S μ0 28 29 800 rfl rfl (by decide) rfl (fun _ => rfl) hS5 (fun _ => hS5) x1 μ hI) mi_X5_add k_X4_83 rfl rfl rfl hl.1 rfl (Nat.le_of_ble_eq_true rfl) dX4_readTerm_42 ⟨Nat.le_of_ble_eq_true rfl, Nat.le_of_ble_eq_true rfl⟩ ⟨Nat.le_of_ble_eq_true rfl, Nat.le_of_ble_eq_true rfl⟩) (fun μ21 H locs q21 hW => ?_)
        obtain ⟨hI, q21⟩ := q21
        refine lv_aload_n hx hb dX4_readTerm_45 rfl (lv_at hl 0 rfl) ?_
        refine m_getr hx hb hts hown hW (27) 0 (28) rfl rfl cw_4 rfl (by decide) k_X4_16 dX4_readTerm_46 ?_
        refine lv_aload_n hx hb dX4_readTerm_49 rfl (lv_at hl 0 rfl) ?_
        refine m_getr hx hb hts hown hW (27) 3 (30) rfl rfl cw_4 rfl (by decide) k_X4_30 dX4_readTerm_50 ?_
        refine m_getr hx hb hts hown hW (30) 2 (35) rfl rfl cw_8 rfl (by decide) k_X4_124 dX4_readTerm_53 ?_
        refine lv_aload_n hx hb dX4_readTerm_56 rfl (lv_at hl 0 rfl) ?_
        refine m_geti hx hb hts hown hW (27) 4 rfl rfl cw_4 rfl (by decide) k_X4_34 dX4_readTerm_57 ?_
        refine lv_topi (fun x22 ex22 => ?_)
        refine m_aI hW (m_runV (As := [.int x22]) (rest := [.ref (b + 28)]) hx hb hml hown hts hW (35) (g_X5_at l D cy b 35 36 401 rfl rfl (by decide) rfl (fun _ => rfl) x22 μ21 hI.1) mi_X5_at k_X4_56 rfl rfl rfl hl.1 rfl (Nat.le_of_ble_eq_true rfl) dX4_readTerm_60 ⟨Nat.le_of_ble_eq_true rfl, Nat.le_of_ble_eq_true rfl⟩ ⟨Nat.le_of_ble_eq_true rfl, Nat.le_of_ble_eq_true rfl⟩) (fun x23 μ23 H locs q23 hW => ?_)
        obtain ⟨q23_m, q23⟩ := q23
        subst q23_m
        refine m_aV hW (m_runV (As := [.int x23]) (rest := []) hx hb hml hown hts hW (28) (g_X5_add l D cy b S μ0 28 29 800 rfl rfl (by decide) rfl (fun _ => rfl) hS5 (fun _ => hS5) x23 μ21 hI) mi_X5_add k_X4_83 rfl rfl rfl hl.1 rfl (Nat.le_of_ble_eq_true rfl) dX4_readTerm_63 ⟨Nat.le_of_ble_eq_true rfl, Nat.le_of_ble_eq_true rfl⟩ ⟨Nat.le_of_ble_eq_true rfl, Nat.le_of_ble_eq_true rfl⟩) (fun μ24 H locs q24 hW => ?_)
        obtain ⟨hI, q24⟩ := q24
        refine lv_aload_n hx hb dX4_readTerm_66 rfl (lv_at hl 0 rfl) ?_
        refine m_aV hW (m_runV (As := []) (rest := []) hx hb hml hown hts hW (27) (g_X4_advance l D cy b S μ0 hS5 μ24 hI) mi_X4_advance k_X4_80 rfl rfl rfl hl.1 rfl (Nat.le_of_ble_eq_true rfl) dX4_readTerm_67 ⟨Nat.le_of_ble_eq_true rfl, Nat.le_of_ble_eq_true rfl⟩ ⟨Nat.le_of_ble_eq_true rfl, Nat.le_of_ble_eq_true rfl⟩) (fun μ25 H locs q25 hW => ?_)
        obtain ⟨hI, q25⟩ := q25
        refine lv_goto (tgt := 78) hx hb dX4_readTerm_70 (by decide) ?_
        exact m_vret hx hb hr hlocks hW (⟨hI, trivial⟩) dX4_readTerm_78
      · have i19 := m_c6 (rfl : k.toInt = _) (by decide : (0 : Int32).toInt = 0) c19
        refine lv_aload_n hx hb dX4_readTerm_30 rfl (lv_at hl 0 rfl) ?_
        refine m_geti hx hb hts hown hW (27) 5 rfl rfl cw_4 rfl (by decide) k_X4_37 dX4_readTerm_31 ?_
        refine lv_topi (fun x26 ex26 => ?_)
        have ex26 : x26 = x1 := by rw [ex26]; exact ex1.symm
        have ex26 := ex26.symm
        subst ex26
        refine lv_ineg hx hb dX4_readTerm_34 ?_
        refine lv_topi (fun x27 ex27 => ?_)
        refine lv_goto (tgt := 42) hx hb dX4_readTerm_35 (by decide) ?_
        refine m_aV hW (m_runV (As := [.int x27]) (rest := []) hx hb hml hown hts hW (28) (g_X5_add l D cy b S μ0 28 29 800 rfl rfl (by decide) rfl (fun _ => rfl) hS5 (fun _ => hS5) x27 μ hI) mi_X5_add k_X4_83 rfl rfl rfl hl.1 rfl (Nat.le_of_ble_eq_true rfl) dX4_readTerm_42 ⟨Nat.le_of_ble_eq_true rfl, Nat.le_of_ble_eq_true rfl⟩ ⟨Nat.le_of_ble_eq_true rfl, Nat.le_of_ble_eq_true rfl⟩) (fun μ28 H locs q28 hW => ?_)
        obtain ⟨hI, q28⟩ := q28
        refine lv_aload_n hx hb dX4_readTerm_45 rfl (lv_at hl 0 rfl) ?_
        refine m_getr hx hb hts hown hW (27) 0 (28) rfl rfl cw_4 rfl (by decide) k_X4_16 dX4_readTerm_46 ?_
        refine lv_aload_n hx hb dX4_readTerm_49 rfl (lv_at hl 0 rfl) ?_
        refine m_getr hx hb hts hown hW (27) 3 (30) rfl rfl cw_4 rfl (by decide) k_X4_30 dX4_readTerm_50 ?_
        refine m_getr hx hb hts hown hW (30) 2 (35) rfl rfl cw_8 rfl (by decide) k_X4_124 dX4_readTerm_53 ?_
        refine lv_aload_n hx hb dX4_readTerm_56 rfl (lv_at hl 0 rfl) ?_
        refine m_geti hx hb hts hown hW (27) 4 rfl rfl cw_4 rfl (by decide) k_X4_34 dX4_readTerm_57 ?_
        refine lv_topi (fun x29 ex29 => ?_)
        refine m_aI hW (m_runV (As := [.int x29]) (rest := [.ref (b + 28)]) hx hb hml hown hts hW (35) (g_X5_at l D cy b 35 36 401 rfl rfl (by decide) rfl (fun _ => rfl) x29 μ28 hI.1) mi_X5_at k_X4_56 rfl rfl rfl hl.1 rfl (Nat.le_of_ble_eq_true rfl) dX4_readTerm_60 ⟨Nat.le_of_ble_eq_true rfl, Nat.le_of_ble_eq_true rfl⟩ ⟨Nat.le_of_ble_eq_true rfl, Nat.le_of_ble_eq_true rfl⟩) (fun x30 μ30 H locs q30 hW => ?_)
        obtain ⟨q30_m, q30⟩ := q30
        subst q30_m
        refine m_aV hW (m_runV (As := [.int x30]) (rest := []) hx hb hml hown hts hW (28) (g_X5_add l D cy b S μ0 28 29 800 rfl rfl (by decide) rfl (fun _ => rfl) hS5 (fun _ => hS5) x30 μ28 hI) mi_X5_add k_X4_83 rfl rfl rfl hl.1 rfl (Nat.le_of_ble_eq_true rfl) dX4_readTerm_63 ⟨Nat.le_of_ble_eq_true rfl, Nat.le_of_ble_eq_true rfl⟩ ⟨Nat.le_of_ble_eq_true rfl, Nat.le_of_ble_eq_true rfl⟩) (fun μ31 H locs q31 hW => ?_)
        obtain ⟨hI, q31⟩ := q31
        refine lv_aload_n hx hb dX4_readTerm_66 rfl (lv_at hl 0 rfl) ?_
        refine m_aV hW (m_runV (As := []) (rest := []) hx hb hml hown hts hW (27) (g_X4_advance l D cy b S μ0 hS5 μ31 hI) mi_X4_advance k_X4_80 rfl rfl rfl hl.1 rfl (Nat.le_of_ble_eq_true rfl) dX4_readTerm_67 ⟨Nat.le_of_ble_eq_true rfl, Nat.le_of_ble_eq_true rfl⟩ ⟨Nat.le_of_ble_eq_true rfl, Nat.le_of_ble_eq_true rfl⟩) (fun μ32 H locs q32 hW => ?_)
        obtain ⟨hI, q32⟩ := q32
        refine lv_goto (tgt := 78) hx hb dX4_readTerm_70 (by decide) ?_
        exact m_vret hx hb hr hlocks hW (⟨hI, trivial⟩) dX4_readTerm_78
    · refine lv_if_eq (tgt := 73) hx hb dX4_readTerm_19 (by decide) (fun _ => ?_) (fun c => False.elim (by revert c; decide))
      refine lv_aload_n hx hb dX4_readTerm_73 rfl (lv_at hl 0 rfl) ?_
      refine lv_iconst (v := 1) hx hb dX4_readTerm_74 (by decide) ?_
      have l_1 : (1 : Int32).toInt = 1 := by decide
      refine m_aV hW (m_runV (As := [.int 1]) (rest := []) hx hb hml hown hts hW (27) (g_X4_fail l D cy b S μ0 hS5 1 μ hI) mi_X4_fail k_X4_74 rfl rfl rfl hl.1 rfl (Nat.le_of_ble_eq_true rfl) dX4_readTerm_75 ⟨Nat.le_of_ble_eq_true rfl, Nat.le_of_ble_eq_true rfl⟩ ⟨Nat.le_of_ble_eq_true rfl, Nat.le_of_ble_eq_true rfl⟩) (fun μ33 H locs q33 hW => ?_)
      obtain ⟨hI, q33⟩ := q33
      exact m_vret hx hb hr hlocks hW (⟨hI, trivial⟩) dX4_readTerm_78
set_option maxHeartbeats 4000000 in
set_option maxRecDepth 100000 in
theorem L_X4_readSum_9 {p : Program} {l : Launch} {e : Env} {s : State} {m : MethodId} {args : Array Value} {below : List Frame} {meth : Method} {c : Code} {D : va_G} {cy : Nat → ClassId} {b : Nat} (hx : p.tables.exec = Jvm.exec) (hb : c.code = cX4_readSum) (hr : meth.sig.returnType = ((some .int))) (hml : c.maxLocals = 4) (hown : s.vm.findClass RX4 = some m.cls) (hts : ∀ w ∈ TB, w.before args s = true) (hlocks : meth.locks = false) (S : Nat → Bool) (μ0 : mM) (hS5 : S 5 = true) : ∀ (f : Nat), ∀ (y1 y2 : Int32) (hy : 0 ≤ y2.toInt ∧ y2.toInt ≤ 400) (hf : 400 - y2.toInt < (f : Int)) (μ : mM) (hI : IY S μ0 μ) (H : Heap) (locs : List Loc), m_WA (m_A b LAY) D cy s b LAY μ H locs → ∀ ls : Array Slot, lv_has ls 4 [(0, .ref (b + 27)), (1, .int y1), (2, .int y2)] → W p l e (m_R 3 0 0) s m args below meth c H locs 0 0 (MQ below (m_Qi D cy b LAY (fun r ν => IY S μ0 ν ∧ (True))) args s 0 0 (m_A b LAY)) (F0 m 9 ls []) := by
  intro f
  induction f with
  | zero => intro y1 y2 hy hf; exfalso; omega
  | succ f ih =>
    intro y1 y2 hy hf μ hI H locs hW ls hl
    refine lv_iload_n hx hb dX4_readSum_9 rfl (lv_at hl 2 rfl) ?_
    refine lv_sipush (v := 400) hx hb dX4_readSum_10 (by decide) ?_
    refine lv_icmp_ge (tgt := 64) hx hb dX4_readSum_13 (by decide) (fun c1 => ?_) (fun c1 => ?_)
    · have i1 := m_c3 (by decide : (400 : Int32).toInt = 400) (rfl : y2.toInt = _) c1
      refine lv_iload_n hx hb dX4_readSum_64 rfl (lv_at hl 1 rfl) ?_
      exact m_iret hx hb hr hlocks hW rfl (⟨hI, trivial⟩) dX4_readSum_65
    · have i1 := m_c4 (by decide : (400 : Int32).toInt = 400) (rfl : y2.toInt = _) c1
      refine lv_aload_n hx hb dX4_readSum_16 rfl (lv_at hl 0 rfl) ?_
      refine m_geti hx hb hts hown hW (27) 5 rfl rfl cw_4 rfl (by decide) k_X4_37 dX4_readSum_17 ?_
      refine lv_topi (fun x2 ex2 => ?_)
      refine lv_iconst (v := 4) hx hb dX4_readSum_20 (by decide) ?_
      refine lv_icmp_eq (tgt := 32) hx hb dX4_readSum_21 (by decide) (fun c3 => ?_) (fun c3 => ?_)
      · have i3 := m_c5 (rfl : x2.toInt = _) (by decide : (4 : Int32).toInt = 4) c3
        refine lv_aload_n hx hb dX4_readSum_32 rfl (lv_at hl 0 rfl) ?_
        refine m_geti hx hb hts hown hW (27) 5 rfl rfl cw_4 rfl (by decide) k_X4_37 dX4_readSum_33 ?_
        refine lv_topi (fun x4 ex4 => ?_)
        have ex4 : x4 = x2 := by rw [ex4]; exact ex2.symm
        have ex4 := ex4.symm
        subst ex4
        refine lv_iconst (v := 5) hx hb dX4_readSum_36 (by decide) ?_
        refine lv_icmp_ne (tgt := 44) hx hb dX4_readSum_37 (by decide) (fun c5 => ?_) (fun c5 => ?_)
        · have i5 := m_c6 (rfl : x2.toInt = _) (by decide : (5 : Int32).toInt = 5) c5
          refine lv_iconst (v := 0) hx hb dX4_readSum_44 (by decide) ?_
          refine lv_istore_n (lv' := [(3, .int 0), (0, .ref (b + 27)), (1, .int y1), (2, .int y2)]) hx hb dX4_readSum_45 rfl hl (by decide) rfl (fun ls hl => ?_)
          refine lv_aload_n hx hb dX4_readSum_46 rfl (lv_at hl 1 rfl) ?_
          refine m_aV hW (m_runV (As := []) (rest := []) hx hb hml hown hts hW (27) (g_X4_advance l D cy b S μ0 hS5 μ hI) mi_X4_advance k_X4_80 rfl rfl rfl hl.1 rfl (Nat.le_of_ble_eq_true rfl) dX4_readSum_47 ⟨Nat.le_of_ble_eq_true rfl, Nat.le_of_ble_eq_true rfl⟩ ⟨Nat.le_of_ble_eq_true rfl, Nat.le_of_ble_eq_true rfl⟩) (fun μ6 H locs q6 hW => ?_)
          obtain ⟨hI, q6⟩ := q6
          refine lv_aload_n hx hb dX4_readSum_50 rfl (lv_at hl 1 rfl) ?_
          refine lv_iload_n hx hb dX4_readSum_51 rfl (lv_at hl 0 rfl) ?_
          have l_0 : (0 : Int32).toInt = 0 := by decide
          refine m_aV hW (m_runV (As := [.int 0]) (rest := []) hx hb hml hown hts hW (27) (g_X4_readTerm l D cy b S μ0 hS5 0 (by omega) μ6 hI) mi_X4_readTerm k_X4_120 rfl rfl rfl hl.1 rfl (Nat.le_of_ble_eq_true rfl) dX4_readSum_52 ⟨Nat.le_of_ble_eq_true rfl, Nat.le_of_ble_eq_true rfl⟩ ⟨Nat.le_of_ble_eq_true rfl, Nat.le_of_ble_eq_true rfl⟩) (fun μ7 H locs q7 hW => ?_)
          obtain ⟨hI, q7⟩ := q7
          obtain ⟨x8, ex8⟩ : ∃ z : Int32, z = y1 + 1 := ⟨_, rfl⟩
          refine lv_iinc (v := x8) (lv' := [(1, .int x8), (3, .int 0), (0, .ref (b + 27)), (2, .int y2)]) hx hb dX4_readSum_55 hl (k := 2) rfl (by rw [ex8]; rfl) (by decide) rfl (fun ls hl => ?_)
          obtain ⟨x9, ex9⟩ : ∃ z : Int32, z = y2 + 1 := ⟨_, rfl⟩
          refine lv_iinc (v := x9) (lv' := [(2, .int x9), (1, .int x8), (3, .int 0), (0, .ref (b + 27))]) hx hb dX4_readSum_58 hl (k := 3) rfl (by rw [ex9]; rfl) (by decide) rfl (fun ls hl => ?_)
          have tx9 : x9.toInt = y2.toInt + 1 := m_addI ex9 (rfl : y2.toInt = _) (by decide : (1 : Int32).toInt = 1) (by omega) (by omega)
          refine lv_goto (tgt := 9) hx hb dX4_readSum_61 (by decide) ?_
          exact ih x8 x9 (by omega) (by omega) μ7 hI _ _ hW ls (lv_sub hl [3, 1, 0] rfl)
        · have i5 := m_c5 (rfl : x2.toInt = _) (by decide : (5 : Int32).toInt = 5) c5
          exfalso; omega
      · have i3 := m_c6 (rfl : x2.toInt = _) (by decide : (4 : Int32).toInt = 4) c3
        refine lv_aload_n hx hb dX4_readSum_24 rfl (lv_at hl 0 rfl) ?_
        refine m_geti hx hb hts hown hW (27) 5 rfl rfl cw_4 rfl (by decide) k_X4_37 dX4_readSum_25 ?_
        refine lv_topi (fun x10 ex10 => ?_)
        have ex10 : x10 = x2 := by rw [ex10]; exact ex2.symm
        have ex10 := ex10.symm
        subst ex10
        refine lv_iconst (v := 5) hx hb dX4_readSum_28 (by decide) ?_
        refine lv_icmp_ne (tgt := 64) hx hb dX4_readSum_29 (by decide) (fun c11 => ?_) (fun c11 => ?_)
        · have i11 := m_c6 (rfl : x2.toInt = _) (by decide : (5 : Int32).toInt = 5) c11
          refine lv_iload_n hx hb dX4_readSum_64 rfl (lv_at hl 1 rfl) ?_
          exact m_iret hx hb hr hlocks hW rfl (⟨hI, trivial⟩) dX4_readSum_65
        · have i11 := m_c5 (rfl : x2.toInt = _) (by decide : (5 : Int32).toInt = 5) c11
          refine lv_aload_n hx hb dX4_readSum_32 rfl (lv_at hl 0 rfl) ?_
          refine m_geti hx hb hts hown hW (27) 5 rfl rfl cw_4 rfl (by decide) k_X4_37 dX4_readSum_33 ?_
          refine lv_topi (fun x12 ex12 => ?_)
          have ex12 : x12 = x2 := by rw [ex12]; exact ex2.symm
          have ex12 := ex12.symm
          subst ex12
          refine lv_iconst (v := 5) hx hb dX4_readSum_36 (by decide) ?_
          refine lv_icmp_ne (tgt := 44) hx hb dX4_readSum_37 (by decide) (fun c13 => ?_) (fun c13 => ?_)
          · have i13 := m_c6 (rfl : x2.toInt = _) (by decide : (5 : Int32).toInt = 5) c13
            exfalso; omega
          · have i13 := m_c5 (rfl : x2.toInt = _) (by decide : (5 : Int32).toInt = 5) c13
            refine lv_iconst (v := 1) hx hb dX4_readSum_40 (by decide) ?_
            refine lv_goto (tgt := 45) hx hb dX4_readSum_41 (by decide) ?_
            refine lv_istore_n (lv' := [(3, .int 1), (0, .ref (b + 27)), (1, .int y1), (2, .int y2)]) hx hb dX4_readSum_45 rfl hl (by decide) rfl (fun ls hl => ?_)
            refine lv_aload_n hx hb dX4_readSum_46 rfl (lv_at hl 1 rfl) ?_
            refine m_aV hW (m_runV (As := []) (rest := []) hx hb hml hown hts hW (27) (g_X4_advance l D cy b S μ0 hS5 μ hI) mi_X4_advance k_X4_80 rfl rfl rfl hl.1 rfl (Nat.le_of_ble_eq_true rfl) dX4_readSum_47 ⟨Nat.le_of_ble_eq_true rfl, Nat.le_of_ble_eq_true rfl⟩ ⟨Nat.le_of_ble_eq_true rfl, Nat.le_of_ble_eq_true rfl⟩) (fun μ14 H locs q14 hW => ?_)
            obtain ⟨hI, q14⟩ := q14
            refine lv_aload_n hx hb dX4_readSum_50 rfl (lv_at hl 1 rfl) ?_
            refine lv_iload_n hx hb dX4_readSum_51 rfl (lv_at hl 0 rfl) ?_
            have l_1 : (1 : Int32).toInt = 1 := by decide
            refine m_aV hW (m_runV (As := [.int 1]) (rest := []) hx hb hml hown hts hW (27) (g_X4_readTerm l D cy b S μ0 hS5 1 (by omega) μ14 hI) mi_X4_readTerm k_X4_120 rfl rfl rfl hl.1 rfl (Nat.le_of_ble_eq_true rfl) dX4_readSum_52 ⟨Nat.le_of_ble_eq_true rfl, Nat.le_of_ble_eq_true rfl⟩ ⟨Nat.le_of_ble_eq_true rfl, Nat.le_of_ble_eq_true rfl⟩) (fun μ15 H locs q15 hW => ?_)
            obtain ⟨hI, q15⟩ := q15
            obtain ⟨x16, ex16⟩ : ∃ z : Int32, z = y1 + 1 := ⟨_, rfl⟩
            refine lv_iinc (v := x16) (lv' := [(1, .int x16), (3, .int 1), (0, .ref (b + 27)), (2, .int y2)]) hx hb dX4_readSum_55 hl (k := 2) rfl (by rw [ex16]; rfl) (by decide) rfl (fun ls hl => ?_)
            obtain ⟨x17, ex17⟩ : ∃ z : Int32, z = y2 + 1 := ⟨_, rfl⟩
            refine lv_iinc (v := x17) (lv' := [(2, .int x17), (1, .int x16), (3, .int 1), (0, .ref (b + 27))]) hx hb dX4_readSum_58 hl (k := 3) rfl (by rw [ex17]; rfl) (by decide) rfl (fun ls hl => ?_)
            have tx17 : x17.toInt = y2.toInt + 1 := m_addI ex17 (rfl : y2.toInt = _) (by decide : (1 : Int32).toInt = 1) (by omega) (by omega)
            refine lv_goto (tgt := 9) hx hb dX4_readSum_61 (by decide) ?_
            exact ih x16 x17 (by omega) (by omega) μ15 hI _ _ hW ls (lv_sub hl [3, 1, 0] rfl)
set_option maxHeartbeats 4000000 in
set_option maxRecDepth 100000 in
theorem g_X4_readSum (l : Launch) (D : va_G) (cy : Nat → ClassId) (b : Nat) (S : Nat → Bool) (μ0 : mM) (hS5 : S 5 = true) (μ : mM) (hI : IY S μ0 μ) : m_Ci l yX4_readSum cX4_readSum 4 ((some .int)) 3 D cy b LAY μ [.ref (b + 27)] (fun r ν => IY S μ0 ν ∧ (True)) := by
  unfold m_Ci
  refine m_of (by decide) (Nat.le_of_ble_eq_true rfl) ?_
  intro p e s m below meth c hx hb hr hml hown hts hlocks _ hW ls hl
  have hown : s.vm.findClass RX4 = some m.cls := hown
  have hl : lv_has ls 4 [(0, .ref (b + 27))] := hl
  refine lv_iconst (v := 1) hx hb dX4_readSum_0 (by decide) ?_
  refine lv_istore_n (lv' := [(1, .int 1), (0, .ref (b + 27))]) hx hb dX4_readSum_1 rfl hl (by decide) rfl (fun ls hl => ?_)
  refine lv_aload_n hx hb dX4_readSum_2 rfl (lv_at hl 1 rfl) ?_
  refine lv_iconst (v := 0) hx hb dX4_readSum_3 (by decide) ?_
  have l_0 : (0 : Int32).toInt = 0 := by decide
  refine m_aV hW (m_runV (As := [.int 0]) (rest := []) hx hb hml hown hts hW (27) (g_X4_readTerm l D cy b S μ0 hS5 0 (by omega) μ hI) mi_X4_readTerm k_X4_120 rfl rfl rfl hl.1 rfl (Nat.le_of_ble_eq_true rfl) dX4_readSum_4 ⟨Nat.le_of_ble_eq_true rfl, Nat.le_of_ble_eq_true rfl⟩ ⟨Nat.le_of_ble_eq_true rfl, Nat.le_of_ble_eq_true rfl⟩) (fun μ1 H locs q1 hW => ?_)
  obtain ⟨hI, q1⟩ := q1
  refine lv_iconst (v := 0) hx hb dX4_readSum_7 (by decide) ?_
  refine lv_istore_n (lv' := [(2, .int 0), (1, .int 1), (0, .ref (b + 27))]) hx hb dX4_readSum_8 rfl hl (by decide) rfl (fun ls hl => ?_)
  have l_1 : (1 : Int32).toInt = 1 := by decide
  exact L_X4_readSum_9 hx hb hr hml hown hts hlocks S μ0 hS5  401 1 0 (by omega) (by omega) μ1 hI _ _ hW ls (lv_sub hl [2, 1, 0] rfl)
set_option maxHeartbeats 4000000 in
set_option maxRecDepth 100000 in
theorem L_X4_openIf_27 {p : Program} {l : Launch} {e : Env} {s : State} {m : MethodId} {args : Array Value} {below : List Frame} {meth : Method} {c : Code} {D : va_G} {cy : Nat → ClassId} {b : Nat} (hx : p.tables.exec = Jvm.exec) (hb : c.code = cX4_openIf) (hr : meth.sig.returnType = (none)) (hml : c.maxLocals = 3) (hown : s.vm.findClass RX4 = some m.cls) (hts : ∀ w ∈ TB, w.before args s = true) (hlocks : meth.locks = false) (S : Nat → Bool) (μ0 : mM) (hS5 : S 5 = true) : ∀ (f : Nat), ∀ (y1 y2 : Int32) (hy : 0 ≤ y1.toInt ∧ y1.toInt ≤ 800 ∧ 0 ≤ y2.toInt ∧ y2.toInt ≤ 4) (hf : 4 - y2.toInt < (f : Int)) (μ : mM) (hI : IY S μ0 μ) (H : Heap) (locs : List Loc), m_WA (m_A b LAY) D cy s b LAY μ H locs → ∀ ls : Array Slot, lv_has ls 3 [(0, .ref (b + 27)), (1, .int y1), (2, .int y2)] → W p l e (m_R 4 0 0) s m args below meth c H locs 0 0 (MQ below (m_Qv D cy b LAY (fun ν => IY S μ0 ν ∧ (True))) args s 0 0 (m_A b LAY)) (F0 m 27 ls []) := by
  intro f
  induction f with
  | zero => intro y1 y2 hy hf; exfalso; omega
  | succ f ih =>
    intro y1 y2 hy hf μ hI H locs hW ls hl
    refine lv_iload_n hx hb dX4_openIf_27 rfl (lv_at hl 2 rfl) ?_
    refine lv_iconst (v := 4) hx hb dX4_openIf_28 (by decide) ?_
    refine lv_icmp_ge (tgt := 46) hx hb dX4_openIf_29 (by decide) (fun c1 => ?_) (fun c1 => ?_)
    · have i1 := m_c3 (by decide : (4 : Int32).toInt = 4) (rfl : y2.toInt = _) c1
      refine lv_aload_n hx hb dX4_openIf_46 rfl (lv_at hl 0 rfl) ?_
      refine m_getr hx hb hts hown hW (27) 0 (28) rfl rfl cw_4 rfl (by decide) k_X4_16 dX4_openIf_47 ?_
      refine lv_iload_n hx hb dX4_openIf_50 rfl (lv_at hl 1 rfl) ?_
      refine lv_iconst (v := 2) hx hb dX4_openIf_51 (by decide) ?_
      refine lv_iadd hx hb dX4_openIf_52 ?_
      refine lv_topi (fun x2 ex2 => ?_)
      have tx2 : x2.toInt = y1.toInt + 2 := m_addI ex2 (rfl : y1.toInt = _) (by decide : (2 : Int32).toInt = 2) (by omega) (by omega)
      refine lv_aload_n hx hb dX4_openIf_53 rfl (lv_at hl 0 rfl) ?_
      refine m_aI hW (m_runV (As := []) (rest := [.int x2, .ref (b + 28)]) hx hb hml hown hts hW (27) (g_X4_readSum l D cy b S μ0 hS5 μ hI) mi_X4_readSum k_X4_117 rfl rfl rfl hl.1 rfl (Nat.le_of_ble_eq_true rfl) dX4_openIf_54 ⟨Nat.le_of_ble_eq_true rfl, Nat.le_of_ble_eq_true rfl⟩ ⟨Nat.le_of_ble_eq_true rfl, Nat.le_of_ble_eq_true rfl⟩) (fun x3 μ3 H locs q3 hW => ?_)
      obtain ⟨hI, q3⟩ := q3
      refine m_aV hW (m_runV (As := [.int x2, .int x3]) (rest := []) hx hb hml hown hts hW (28) (g_X5_put l D cy b S μ0 28 29 800 rfl rfl (by decide) rfl (fun _ => rfl) hS5 (fun _ => hS5) x2 x3 μ3 hI) mi_X5_put k_X4_102 rfl rfl rfl hl.1 rfl (Nat.le_of_ble_eq_true rfl) dX4_openIf_57 ⟨Nat.le_of_ble_eq_true rfl, Nat.le_of_ble_eq_true rfl⟩ ⟨Nat.le_of_ble_eq_true rfl, Nat.le_of_ble_eq_true rfl⟩) (fun μ4 H locs q4 hW => ?_)
      obtain ⟨hI, q4⟩ := q4
      refine lv_aload_n hx hb dX4_openIf_60 rfl (lv_at hl 0 rfl) ?_
      refine m_getr hx hb hts hown hW (27) 0 (28) rfl rfl cw_4 rfl (by decide) k_X4_16 dX4_openIf_61 ?_
      refine lv_iload_n hx hb dX4_openIf_64 rfl (lv_at hl 1 rfl) ?_
      refine lv_iconst (v := 1) hx hb dX4_openIf_65 (by decide) ?_
      refine lv_iadd hx hb dX4_openIf_66 ?_
      refine lv_topi (fun x5 ex5 => ?_)
      have tx5 : x5.toInt = y1.toInt + 1 := m_addI ex5 (rfl : y1.toInt = _) (by decide : (1 : Int32).toInt = 1) (by omega) (by omega)
      refine lv_aload_n hx hb dX4_openIf_67 rfl (lv_at hl 0 rfl) ?_
      refine m_geti hx hb hts hown hW (27) 5 rfl rfl cw_4 rfl (by decide) k_X4_37 dX4_openIf_68 ?_
      refine lv_topi (fun x6 ex6 => ?_)
      refine m_aV hW (m_runV (As := [.int x5, .int x6]) (rest := []) hx hb hml hown hts hW (28) (g_X5_put l D cy b S μ0 28 29 800 rfl rfl (by decide) rfl (fun _ => rfl) hS5 (fun _ => hS5) x5 x6 μ4 hI) mi_X5_put k_X4_102 rfl rfl rfl hl.1 rfl (Nat.le_of_ble_eq_true rfl) dX4_openIf_71 ⟨Nat.le_of_ble_eq_true rfl, Nat.le_of_ble_eq_true rfl⟩ ⟨Nat.le_of_ble_eq_true rfl, Nat.le_of_ble_eq_true rfl⟩) (fun μ7 H locs q7 hW => ?_)
      obtain ⟨hI, q7⟩ := q7
      refine lv_aload_n hx hb dX4_openIf_74 rfl (lv_at hl 0 rfl) ?_
      refine m_geti hx hb hts hown hW (27) 5 rfl rfl cw_4 rfl (by decide) k_X4_37 dX4_openIf_75 ?_
      refine lv_topi (fun x8 ex8 => ?_)
      refine lv_bipush (v := 6) hx hb dX4_openIf_78 (by decide) ?_
      refine lv_bipush (v := 8) hx hb dX4_openIf_80 (by decide) ?_
      have l_6 : (6 : Int32).toInt = 6 := by decide
      have l_8 : (8 : Int32).toInt = 8 := by decide
      refine m_aI hW (m_runSN (As := [.int x8, .int 6, .int 8]) (rest := []) hx hb hml hown hts hW (g_X11_within l D cy b x8 6 8 μ7 hI.1) ms_X11_within n_X4_60 rfl hl.1 rfl (Nat.le_of_ble_eq_true rfl) dX4_openIf_82 ⟨Nat.le_of_ble_eq_true rfl, Nat.le_of_ble_eq_true rfl⟩ ⟨Nat.le_of_ble_eq_true rfl, Nat.le_of_ble_eq_true rfl⟩) (fun x9 μ9 H locs q9 hW => ?_)
      obtain ⟨q9_m, q9⟩ := q9
      subst q9_m
      rcases q9 with ⟨rfl, q9⟩ | ⟨rfl, q9⟩
      · refine lv_if_eq (tgt := 95) hx hb dX4_openIf_85 (by decide) (fun c => False.elim (by revert c; decide)) (fun _ => ?_)
        refine lv_aload_n hx hb dX4_openIf_88 rfl (lv_at hl 0 rfl) ?_
        refine m_aV hW (m_runV (As := []) (rest := []) hx hb hml hown hts hW (27) (g_X4_advance l D cy b S μ0 hS5 μ7 hI) mi_X4_advance k_X4_80 rfl rfl rfl hl.1 rfl (Nat.le_of_ble_eq_true rfl) dX4_openIf_89 ⟨Nat.le_of_ble_eq_true rfl, Nat.le_of_ble_eq_true rfl⟩ ⟨Nat.le_of_ble_eq_true rfl, Nat.le_of_ble_eq_true rfl⟩) (fun μ10 H locs q10 hW => ?_)
        obtain ⟨hI, q10⟩ := q10
        refine lv_goto (tgt := 100) hx hb dX4_openIf_92 (by decide) ?_
        refine lv_aload_n hx hb dX4_openIf_100 rfl (lv_at hl 0 rfl) ?_
        refine m_getr hx hb hts hown hW (27) 0 (28) rfl rfl cw_4 rfl (by decide) k_X4_16 dX4_openIf_101 ?_
        refine lv_iload_n hx hb dX4_openIf_104 rfl (lv_at hl 1 rfl) ?_
        refine lv_iconst (v := 3) hx hb dX4_openIf_105 (by decide) ?_
        refine lv_iadd hx hb dX4_openIf_106 ?_
        refine lv_topi (fun x11 ex11 => ?_)
        have tx11 : x11.toInt = y1.toInt + 3 := m_addI ex11 (rfl : y1.toInt = _) (by decide : (3 : Int32).toInt = 3) (by omega) (by omega)
        refine lv_aload_n hx hb dX4_openIf_107 rfl (lv_at hl 0 rfl) ?_
        refine m_aI hW (m_runV (As := []) (rest := [.int x11, .ref (b + 28)]) hx hb hml hown hts hW (27) (g_X4_readSum l D cy b S μ0 hS5 μ10 hI) mi_X4_readSum k_X4_117 rfl rfl rfl hl.1 rfl (Nat.le_of_ble_eq_true rfl) dX4_openIf_108 ⟨Nat.le_of_ble_eq_true rfl, Nat.le_of_ble_eq_true rfl⟩ ⟨Nat.le_of_ble_eq_true rfl, Nat.le_of_ble_eq_true rfl⟩) (fun x12 μ12 H locs q12 hW => ?_)
        obtain ⟨hI, q12⟩ := q12
        refine m_aV hW (m_runV (As := [.int x11, .int x12]) (rest := []) hx hb hml hown hts hW (28) (g_X5_put l D cy b S μ0 28 29 800 rfl rfl (by decide) rfl (fun _ => rfl) hS5 (fun _ => hS5) x11 x12 μ12 hI) mi_X5_put k_X4_102 rfl rfl rfl hl.1 rfl (Nat.le_of_ble_eq_true rfl) dX4_openIf_111 ⟨Nat.le_of_ble_eq_true rfl, Nat.le_of_ble_eq_true rfl⟩ ⟨Nat.le_of_ble_eq_true rfl, Nat.le_of_ble_eq_true rfl⟩) (fun μ13 H locs q13 hW => ?_)
        obtain ⟨hI, q13⟩ := q13
        exact m_vret hx hb hr hlocks hW (⟨hI, trivial⟩) dX4_openIf_114
      · refine lv_if_eq (tgt := 95) hx hb dX4_openIf_85 (by decide) (fun _ => ?_) (fun c => False.elim (by revert c; decide))
        refine lv_aload_n hx hb dX4_openIf_95 rfl (lv_at hl 0 rfl) ?_
        refine lv_iconst (v := 1) hx hb dX4_openIf_96 (by decide) ?_
        have l_1 : (1 : Int32).toInt = 1 := by decide
        refine m_aV hW (m_runV (As := [.int 1]) (rest := []) hx hb hml hown hts hW (27) (g_X4_fail l D cy b S μ0 hS5 1 μ7 hI) mi_X4_fail k_X4_74 rfl rfl rfl hl.1 rfl (Nat.le_of_ble_eq_true rfl) dX4_openIf_97 ⟨Nat.le_of_ble_eq_true rfl, Nat.le_of_ble_eq_true rfl⟩ ⟨Nat.le_of_ble_eq_true rfl, Nat.le_of_ble_eq_true rfl⟩) (fun μ14 H locs q14 hW => ?_)
        obtain ⟨hI, q14⟩ := q14
        refine lv_aload_n hx hb dX4_openIf_100 rfl (lv_at hl 0 rfl) ?_
        refine m_getr hx hb hts hown hW (27) 0 (28) rfl rfl cw_4 rfl (by decide) k_X4_16 dX4_openIf_101 ?_
        refine lv_iload_n hx hb dX4_openIf_104 rfl (lv_at hl 1 rfl) ?_
        refine lv_iconst (v := 3) hx hb dX4_openIf_105 (by decide) ?_
        refine lv_iadd hx hb dX4_openIf_106 ?_
        refine lv_topi (fun x15 ex15 => ?_)
        have tx15 : x15.toInt = y1.toInt + 3 := m_addI ex15 (rfl : y1.toInt = _) (by decide : (3 : Int32).toInt = 3) (by omega) (by omega)
        refine lv_aload_n hx hb dX4_openIf_107 rfl (lv_at hl 0 rfl) ?_
        refine m_aI hW (m_runV (As := []) (rest := [.int x15, .ref (b + 28)]) hx hb hml hown hts hW (27) (g_X4_readSum l D cy b S μ0 hS5 μ14 hI) mi_X4_readSum k_X4_117 rfl rfl rfl hl.1 rfl (Nat.le_of_ble_eq_true rfl) dX4_openIf_108 ⟨Nat.le_of_ble_eq_true rfl, Nat.le_of_ble_eq_true rfl⟩ ⟨Nat.le_of_ble_eq_true rfl, Nat.le_of_ble_eq_true rfl⟩) (fun x16 μ16 H locs q16 hW => ?_)
        obtain ⟨hI, q16⟩ := q16
        refine m_aV hW (m_runV (As := [.int x15, .int x16]) (rest := []) hx hb hml hown hts hW (28) (g_X5_put l D cy b S μ0 28 29 800 rfl rfl (by decide) rfl (fun _ => rfl) hS5 (fun _ => hS5) x15 x16 μ16 hI) mi_X5_put k_X4_102 rfl rfl rfl hl.1 rfl (Nat.le_of_ble_eq_true rfl) dX4_openIf_111 ⟨Nat.le_of_ble_eq_true rfl, Nat.le_of_ble_eq_true rfl⟩ ⟨Nat.le_of_ble_eq_true rfl, Nat.le_of_ble_eq_true rfl⟩) (fun μ17 H locs q17 hW => ?_)
        obtain ⟨hI, q17⟩ := q17
        exact m_vret hx hb hr hlocks hW (⟨hI, trivial⟩) dX4_openIf_114
    · have i1 := m_c4 (by decide : (4 : Int32).toInt = 4) (rfl : y2.toInt = _) c1
      refine lv_aload_n hx hb dX4_openIf_32 rfl (lv_at hl 0 rfl) ?_
      refine m_getr hx hb hts hown hW (27) 0 (28) rfl rfl cw_4 rfl (by decide) k_X4_16 dX4_openIf_33 ?_
      refine lv_iconst (v := 0) hx hb dX4_openIf_36 (by decide) ?_
      have l_0 : (0 : Int32).toInt = 0 := by decide
      refine m_aV hW (m_runV (As := [.int 0]) (rest := []) hx hb hml hown hts hW (28) (g_X5_add l D cy b S μ0 28 29 800 rfl rfl (by decide) rfl (fun _ => rfl) hS5 (fun _ => hS5) 0 μ hI) mi_X5_add k_X4_83 rfl rfl rfl hl.1 rfl (Nat.le_of_ble_eq_true rfl) dX4_openIf_37 ⟨Nat.le_of_ble_eq_true rfl, Nat.le_of_ble_eq_true rfl⟩ ⟨Nat.le_of_ble_eq_true rfl, Nat.le_of_ble_eq_true rfl⟩) (fun μ18 H locs q18 hW => ?_)
      obtain ⟨hI, q18⟩ := q18
      obtain ⟨x19, ex19⟩ : ∃ z : Int32, z = y2 + 1 := ⟨_, rfl⟩
      refine lv_iinc (v := x19) (lv' := [(2, .int x19), (0, .ref (b + 27)), (1, .int y1)]) hx hb dX4_openIf_40 hl (k := 2) rfl (by rw [ex19]; rfl) (by decide) rfl (fun ls hl => ?_)
      have tx19 : x19.toInt = y2.toInt + 1 := m_addI ex19 (rfl : y2.toInt = _) (by decide : (1 : Int32).toInt = 1) (by omega) (by omega)
      refine lv_goto (tgt := 27) hx hb dX4_openIf_43 (by decide) ?_
      exact ih y1 x19 (by omega) (by omega) μ18 hI _ _ hW ls (lv_sub hl [1, 2, 0] rfl)
set_option maxHeartbeats 4000000 in
set_option maxRecDepth 100000 in
theorem g_X4_openIf (l : Launch) (D : va_G) (cy : Nat → ClassId) (b : Nat) (S : Nat → Bool) (μ0 : mM) (hS5 : S 5 = true) (μ : mM) (hI : IY S μ0 μ) : m_Cv l yX4_openIf cX4_openIf 3 (none) 4 D cy b LAY μ [.ref (b + 27)] (fun ν => IY S μ0 ν ∧ (True)) := by
  unfold m_Cv
  refine m_of (by decide) (Nat.le_of_ble_eq_true rfl) ?_
  intro p e s m below meth c hx hb hr hml hown hts hlocks _ hW ls hl
  have hown : s.vm.findClass RX4 = some m.cls := hown
  have hl : lv_has ls 3 [(0, .ref (b + 27))] := hl
  refine lv_aload_n hx hb dX4_openIf_0 rfl (lv_at hl 0 rfl) ?_
  refine m_getr hx hb hts hown hW (27) 0 (28) rfl rfl cw_4 rfl (by decide) k_X4_16 dX4_openIf_1 ?_
  refine m_geti hx hb hts hown hW (28) 1 rfl rfl cw_5 rfl (by decide) k_X4_50 dX4_openIf_4 ?_
  refine lv_topi (fun x1 ex1 => ?_)
  have bx1 : 0 ≤ x1.toInt ∧ x1.toInt ≤ 800 := by rw [ex1]; exact hI.1 _ _ _ _ rfl
  refine lv_istore_n (lv' := [(1, .int x1), (0, .ref (b + 27))]) hx hb dX4_openIf_7 rfl hl (by decide) rfl (fun ls hl => ?_)
  refine lv_aload_n hx hb dX4_openIf_8 rfl (lv_at hl 1 rfl) ?_
  refine m_getr hx hb hts hown hW (27) 6 (37) rfl rfl cw_4 rfl (by decide) k_X4_40 dX4_openIf_9 ?_
  refine lv_bipush (v := 16) hx hb dX4_openIf_12 (by decide) ?_
  have l_16 : (16 : Int32).toInt = 16 := by decide
  refine m_aV hW (m_runV (As := [.int 16]) (rest := []) hx hb hml hown hts hW (37) (g_X5_add l D cy b S μ0 37 38 4 rfl rfl (by decide) rfl (fun _ => rfl) hS5 (fun _ => hS5) 16 μ hI) mi_X5_add k_X4_83 rfl rfl rfl hl.1 rfl (Nat.le_of_ble_eq_true rfl) dX4_openIf_14 ⟨Nat.le_of_ble_eq_true rfl, Nat.le_of_ble_eq_true rfl⟩ ⟨Nat.le_of_ble_eq_true rfl, Nat.le_of_ble_eq_true rfl⟩) (fun μ2 H locs q2 hW => ?_)
  obtain ⟨hI, q2⟩ := q2
  refine lv_aload_n hx hb dX4_openIf_17 rfl (lv_at hl 1 rfl) ?_
  refine m_getr hx hb hts hown hW (27) 7 (39) rfl rfl cw_4 rfl (by decide) k_X4_43 dX4_openIf_18 ?_
  refine lv_iload_n hx hb dX4_openIf_21 rfl (lv_at hl 0 rfl) ?_
  refine m_aV hW (m_runV (As := [.int x1]) (rest := []) hx hb hml hown hts hW (39) (g_X5_add l D cy b S μ0 39 40 4 rfl rfl (by decide) rfl (fun _ => rfl) hS5 (fun _ => hS5) x1 μ2 hI) mi_X5_add k_X4_83 rfl rfl rfl hl.1 rfl (Nat.le_of_ble_eq_true rfl) dX4_openIf_22 ⟨Nat.le_of_ble_eq_true rfl, Nat.le_of_ble_eq_true rfl⟩ ⟨Nat.le_of_ble_eq_true rfl, Nat.le_of_ble_eq_true rfl⟩) (fun μ3 H locs q3 hW => ?_)
  obtain ⟨hI, q3⟩ := q3
  refine lv_iconst (v := 0) hx hb dX4_openIf_25 (by decide) ?_
  refine lv_istore_n (lv' := [(2, .int 0), (1, .int x1), (0, .ref (b + 27))]) hx hb dX4_openIf_26 rfl hl (by decide) rfl (fun ls hl => ?_)
  have l_0 : (0 : Int32).toInt = 0 := by decide
  exact L_X4_openIf_27 hx hb hr hml hown hts hlocks S μ0 hS5  5 x1 0 (by omega) (by omega) μ3 hI _ _ hW ls (lv_sub hl [2, 1, 0] rfl)
set_option maxHeartbeats 4000000 in
set_option maxRecDepth 100000 in
theorem g_X4_openAgain (l : Launch) (D : va_G) (cy : Nat → ClassId) (b : Nat) (S : Nat → Bool) (μ0 : mM) (hS5 : S 5 = true) (μ : mM) (hI : IY S μ0 μ) : m_Cv l yX4_openAgain cX4_openAgain 1 (none) 3 D cy b LAY μ [.ref (b + 27)] (fun ν => IY S μ0 ν ∧ (True)) := by
  unfold m_Cv
  refine m_of (by decide) (Nat.le_of_ble_eq_true rfl) ?_
  intro p e s m below meth c hx hb hr hml hown hts hlocks _ hW ls hl
  have hown : s.vm.findClass RX4 = some m.cls := hown
  have hl : lv_has ls 1 [(0, .ref (b + 27))] := hl
  refine lv_aload_n hx hb dX4_openAgain_0 rfl (lv_at hl 0 rfl) ?_
  refine lv_iconst (v := 1) hx hb dX4_openAgain_1 (by decide) ?_
  refine lv_bipush (v := 99) hx hb dX4_openAgain_2 (by decide) ?_
  have l_1 : (1 : Int32).toInt = 1 := by decide
  have l_99 : (99 : Int32).toInt = 99 := by decide
  refine m_aV hW (m_runV (As := [.int 1, .int 99]) (rest := []) hx hb hml hown hts hW (27) (g_X4_readNumber l D cy b S μ0 hS5 1 99 μ hI) mi_X4_readNumber k_X4_86 rfl rfl rfl hl.1 rfl (Nat.le_of_ble_eq_true rfl) dX4_openAgain_4 ⟨Nat.le_of_ble_eq_true rfl, Nat.le_of_ble_eq_true rfl⟩ ⟨Nat.le_of_ble_eq_true rfl, Nat.le_of_ble_eq_true rfl⟩) (fun μ1 H locs q1 hW => ?_)
  obtain ⟨hI, q1⟩ := q1
  refine lv_aload_n hx hb dX4_openAgain_7 rfl (lv_at hl 0 rfl) ?_
  refine m_getr hx hb hts hown hW (27) 6 (37) rfl rfl cw_4 rfl (by decide) k_X4_40 dX4_openAgain_8 ?_
  refine lv_bipush (v := 15) hx hb dX4_openAgain_11 (by decide) ?_
  have l_15 : (15 : Int32).toInt = 15 := by decide
  refine m_aV hW (m_runV (As := [.int 15]) (rest := []) hx hb hml hown hts hW (37) (g_X5_add l D cy b S μ0 37 38 4 rfl rfl (by decide) rfl (fun _ => rfl) hS5 (fun _ => hS5) 15 μ1 hI) mi_X5_add k_X4_83 rfl rfl rfl hl.1 rfl (Nat.le_of_ble_eq_true rfl) dX4_openAgain_13 ⟨Nat.le_of_ble_eq_true rfl, Nat.le_of_ble_eq_true rfl⟩ ⟨Nat.le_of_ble_eq_true rfl, Nat.le_of_ble_eq_true rfl⟩) (fun μ2 H locs q2 hW => ?_)
  obtain ⟨hI, q2⟩ := q2
  refine lv_aload_n hx hb dX4_openAgain_16 rfl (lv_at hl 0 rfl) ?_
  refine m_getr hx hb hts hown hW (27) 0 (28) rfl rfl cw_4 rfl (by decide) k_X4_16 dX4_openAgain_17 ?_
  refine lv_aload_n hx hb dX4_openAgain_20 rfl (lv_at hl 0 rfl) ?_
  refine m_getr hx hb hts hown hW (27) 6 (37) rfl rfl cw_4 rfl (by decide) k_X4_40 dX4_openAgain_21 ?_
  refine m_geti hx hb hts hown hW (37) 1 rfl rfl cw_5 rfl (by decide) k_X4_50 dX4_openAgain_24 ?_
  refine lv_topi (fun x3 ex3 => ?_)
  have bx3 : 0 ≤ x3.toInt ∧ x3.toInt ≤ 4 := by rw [ex3]; exact hI.1 _ _ _ _ rfl
  refine m_aV hW (m_runV (As := [.int x3]) (rest := []) hx hb hml hown hts hW (28) (g_X5_add l D cy b S μ0 28 29 800 rfl rfl (by decide) rfl (fun _ => rfl) hS5 (fun _ => hS5) x3 μ2 hI) mi_X5_add k_X4_83 rfl rfl rfl hl.1 rfl (Nat.le_of_ble_eq_true rfl) dX4_openAgain_27 ⟨Nat.le_of_ble_eq_true rfl, Nat.le_of_ble_eq_true rfl⟩ ⟨Nat.le_of_ble_eq_true rfl, Nat.le_of_ble_eq_true rfl⟩) (fun μ4 H locs q4 hW => ?_)
  obtain ⟨hI, q4⟩ := q4
  refine lv_aload_n hx hb dX4_openAgain_30 rfl (lv_at hl 0 rfl) ?_
  refine lv_bipush (v := 17) hx hb dX4_openAgain_31 (by decide) ?_
  have l_17 : (17 : Int32).toInt = 17 := by decide
  refine m_aV hW (m_runV (As := [.int 17]) (rest := []) hx hb hml hown hts hW (27) (g_X4_expect l D cy b S μ0 hS5 17 μ4 hI) mi_X4_expect k_X4_108 rfl rfl rfl hl.1 rfl (Nat.le_of_ble_eq_true rfl) dX4_openAgain_33 ⟨Nat.le_of_ble_eq_true rfl, Nat.le_of_ble_eq_true rfl⟩ ⟨Nat.le_of_ble_eq_true rfl, Nat.le_of_ble_eq_true rfl⟩) (fun μ5 H locs q5 hW => ?_)
  obtain ⟨hI, q5⟩ := q5
  refine lv_aload_n hx hb dX4_openAgain_36 rfl (lv_at hl 0 rfl) ?_
  refine m_getr hx hb hts hown hW (27) 7 (39) rfl rfl cw_4 rfl (by decide) k_X4_43 dX4_openAgain_37 ?_
  refine lv_aload_n hx hb dX4_openAgain_40 rfl (lv_at hl 0 rfl) ?_
  refine m_getr hx hb hts hown hW (27) 0 (28) rfl rfl cw_4 rfl (by decide) k_X4_16 dX4_openAgain_41 ?_
  refine m_geti hx hb hts hown hW (28) 1 rfl rfl cw_5 rfl (by decide) k_X4_50 dX4_openAgain_44 ?_
  refine lv_topi (fun x6 ex6 => ?_)
  have bx6 : 0 ≤ x6.toInt ∧ x6.toInt ≤ 800 := by rw [ex6]; exact hI.1 _ _ _ _ rfl
  refine m_aV hW (m_runV (As := [.int x6]) (rest := []) hx hb hml hown hts hW (39) (g_X5_add l D cy b S μ0 39 40 4 rfl rfl (by decide) rfl (fun _ => rfl) hS5 (fun _ => hS5) x6 μ5 hI) mi_X5_add k_X4_83 rfl rfl rfl hl.1 rfl (Nat.le_of_ble_eq_true rfl) dX4_openAgain_47 ⟨Nat.le_of_ble_eq_true rfl, Nat.le_of_ble_eq_true rfl⟩ ⟨Nat.le_of_ble_eq_true rfl, Nat.le_of_ble_eq_true rfl⟩) (fun μ7 H locs q7 hW => ?_)
  obtain ⟨hI, q7⟩ := q7
  exact m_vret hx hb hr hlocks hW (⟨hI, trivial⟩) dX4_openAgain_50
set_option maxHeartbeats 4000000 in
set_option maxRecDepth 100000 in
theorem g_X4_closeAgain (l : Launch) (D : va_G) (cy : Nat → ClassId) (b : Nat) (S : Nat → Bool) (μ0 : mM) (hS5 : S 5 = true) (μ : mM) (hI : IY S μ0 μ) : m_Cv l yX4_closeAgain cX4_closeAgain 1 (none) 4 D cy b LAY μ [.ref (b + 27)] (fun ν => IY S μ0 ν ∧ (True)) := by
  unfold m_Cv
  refine m_of (by decide) (Nat.le_of_ble_eq_true rfl) ?_
  intro p e s m below meth c hx hb hr hml hown hts hlocks _ hW ls hl
  have hown : s.vm.findClass RX4 = some m.cls := hown
  have hl : lv_has ls 1 [(0, .ref (b + 27))] := hl
  refine lv_aload_n hx hb dX4_closeAgain_0 rfl (lv_at hl 0 rfl) ?_
  refine m_aV hW (m_runV (As := []) (rest := []) hx hb hml hown hts hW (27) (g_X4_advance l D cy b S μ0 hS5 μ hI) mi_X4_advance k_X4_80 rfl rfl rfl hl.1 rfl (Nat.le_of_ble_eq_true rfl) dX4_closeAgain_1 ⟨Nat.le_of_ble_eq_true rfl, Nat.le_of_ble_eq_true rfl⟩ ⟨Nat.le_of_ble_eq_true rfl, Nat.le_of_ble_eq_true rfl⟩) (fun μ1 H locs q1 hW => ?_)
  obtain ⟨hI, q1⟩ := q1
  refine lv_aload_n hx hb dX4_closeAgain_4 rfl (lv_at hl 0 rfl) ?_
  refine m_getr hx hb hts hown hW (27) 0 (28) rfl rfl cw_4 rfl (by decide) k_X4_16 dX4_closeAgain_5 ?_
  refine lv_bipush (v := 18) hx hb dX4_closeAgain_8 (by decide) ?_
  have l_18 : (18 : Int32).toInt = 18 := by decide
  refine m_aV hW (m_runV (As := [.int 18]) (rest := []) hx hb hml hown hts hW (28) (g_X5_add l D cy b S μ0 28 29 800 rfl rfl (by decide) rfl (fun _ => rfl) hS5 (fun _ => hS5) 18 μ1 hI) mi_X5_add k_X4_83 rfl rfl rfl hl.1 rfl (Nat.le_of_ble_eq_true rfl) dX4_closeAgain_10 ⟨Nat.le_of_ble_eq_true rfl, Nat.le_of_ble_eq_true rfl⟩ ⟨Nat.le_of_ble_eq_true rfl, Nat.le_of_ble_eq_true rfl⟩) (fun μ2 H locs q2 hW => ?_)
  obtain ⟨hI, q2⟩ := q2
  refine lv_aload_n hx hb dX4_closeAgain_13 rfl (lv_at hl 0 rfl) ?_
  refine m_getr hx hb hts hown hW (27) 0 (28) rfl rfl cw_4 rfl (by decide) k_X4_16 dX4_closeAgain_14 ?_
  refine lv_aload_n hx hb dX4_closeAgain_17 rfl (lv_at hl 0 rfl) ?_
  refine m_getr hx hb hts hown hW (27) 6 (37) rfl rfl cw_4 rfl (by decide) k_X4_40 dX4_closeAgain_18 ?_
  refine m_geti hx hb hts hown hW (37) 1 rfl rfl cw_5 rfl (by decide) k_X4_50 dX4_closeAgain_21 ?_
  refine lv_topi (fun x3 ex3 => ?_)
  have bx3 : 0 ≤ x3.toInt ∧ x3.toInt ≤ 4 := by rw [ex3]; exact hI.1 _ _ _ _ rfl
  refine m_aV hW (m_runV (As := [.int x3]) (rest := []) hx hb hml hown hts hW (28) (g_X5_add l D cy b S μ0 28 29 800 rfl rfl (by decide) rfl (fun _ => rfl) hS5 (fun _ => hS5) x3 μ2 hI) mi_X5_add k_X4_83 rfl rfl rfl hl.1 rfl (Nat.le_of_ble_eq_true rfl) dX4_closeAgain_24 ⟨Nat.le_of_ble_eq_true rfl, Nat.le_of_ble_eq_true rfl⟩ ⟨Nat.le_of_ble_eq_true rfl, Nat.le_of_ble_eq_true rfl⟩) (fun μ4 H locs q4 hW => ?_)
  obtain ⟨hI, q4⟩ := q4
  refine lv_aload_n hx hb dX4_closeAgain_27 rfl (lv_at hl 0 rfl) ?_
  refine m_getr hx hb hts hown hW (27) 0 (28) rfl rfl cw_4 rfl (by decide) k_X4_16 dX4_closeAgain_28 ?_
  refine lv_aload_n hx hb dX4_closeAgain_31 rfl (lv_at hl 0 rfl) ?_
  refine m_getr hx hb hts hown hW (27) 7 (39) rfl rfl cw_4 rfl (by decide) k_X4_43 dX4_closeAgain_32 ?_
  refine lv_aload_n hx hb dX4_closeAgain_35 rfl (lv_at hl 0 rfl) ?_
  refine m_getr hx hb hts hown hW (27) 7 (39) rfl rfl cw_4 rfl (by decide) k_X4_43 dX4_closeAgain_36 ?_
  refine m_geti hx hb hts hown hW (39) 1 rfl rfl cw_5 rfl (by decide) k_X4_50 dX4_closeAgain_39 ?_
  refine lv_topi (fun x5 ex5 => ?_)
  have bx5 : 0 ≤ x5.toInt ∧ x5.toInt ≤ 4 := by rw [ex5]; exact hI.1 _ _ _ _ rfl
  refine lv_iconst (v := 1) hx hb dX4_closeAgain_42 (by decide) ?_
  refine lv_isub hx hb dX4_closeAgain_43 ?_
  refine lv_topi (fun x6 ex6 => ?_)
  have tx6 : x6.toInt = x5.toInt - 1 := m_subI ex6 (rfl : x5.toInt = _) (by decide : (1 : Int32).toInt = 1) (by omega) (by omega)
  refine m_aI hW (m_runV (As := [.int x6]) (rest := [.ref (b + 28)]) hx hb hml hown hts hW (39) (g_X5_at l D cy b 39 40 4 rfl rfl (by decide) rfl (fun _ => rfl) x6 μ4 hI.1) mi_X5_at k_X4_56 rfl rfl rfl hl.1 rfl (Nat.le_of_ble_eq_true rfl) dX4_closeAgain_44 ⟨Nat.le_of_ble_eq_true rfl, Nat.le_of_ble_eq_true rfl⟩ ⟨Nat.le_of_ble_eq_true rfl, Nat.le_of_ble_eq_true rfl⟩) (fun x7 μ7 H locs q7 hW => ?_)
  obtain ⟨q7_m, q7⟩ := q7
  subst q7_m
  refine m_aV hW (m_runV (As := [.int x7]) (rest := []) hx hb hml hown hts hW (28) (g_X5_add l D cy b S μ0 28 29 800 rfl rfl (by decide) rfl (fun _ => rfl) hS5 (fun _ => hS5) x7 μ4 hI) mi_X5_add k_X4_83 rfl rfl rfl hl.1 rfl (Nat.le_of_ble_eq_true rfl) dX4_closeAgain_47 ⟨Nat.le_of_ble_eq_true rfl, Nat.le_of_ble_eq_true rfl⟩ ⟨Nat.le_of_ble_eq_true rfl, Nat.le_of_ble_eq_true rfl⟩) (fun μ8 H locs q8 hW => ?_)
  obtain ⟨hI, q8⟩ := q8
  refine lv_aload_n hx hb dX4_closeAgain_50 rfl (lv_at hl 0 rfl) ?_
  refine m_aV hW (m_runV (As := []) (rest := []) hx hb hml hown hts hW (27) (g_X4_dropInnermost l D cy b S μ0 hS5 μ8 hI) mi_X4_dropInnermost k_X4_105 rfl rfl rfl hl.1 rfl (Nat.le_of_ble_eq_true rfl) dX4_closeAgain_51 ⟨Nat.le_of_ble_eq_true rfl, Nat.le_of_ble_eq_true rfl⟩ ⟨Nat.le_of_ble_eq_true rfl, Nat.le_of_ble_eq_true rfl⟩) (fun μ9 H locs q9 hW => ?_)
  obtain ⟨hI, q9⟩ := q9
  refine lv_aload_n hx hb dX4_closeAgain_54 rfl (lv_at hl 0 rfl) ?_
  refine m_aV hW (m_runV (As := []) (rest := []) hx hb hml hown hts hW (27) (g_X4_closeStep l D cy b S μ0 hS5 μ9 hI) mi_X4_closeStep k_X4_99 rfl rfl rfl hl.1 rfl (Nat.le_of_ble_eq_true rfl) dX4_closeAgain_55 ⟨Nat.le_of_ble_eq_true rfl, Nat.le_of_ble_eq_true rfl⟩ ⟨Nat.le_of_ble_eq_true rfl, Nat.le_of_ble_eq_true rfl⟩) (fun μ10 H locs q10 hW => ?_)
  obtain ⟨hI, q10⟩ := q10
  exact m_vret hx hb hr hlocks hW (⟨hI, trivial⟩) dX4_closeAgain_58
set_option maxHeartbeats 4000000 in
set_option maxRecDepth 100000 in
theorem g_X4_readStep (l : Launch) (D : va_G) (cy : Nat → ClassId) (b : Nat) (S : Nat → Bool) (μ0 : mM) (hS5 : S 5 = true) (μ : mM) (hI : IY S μ0 μ) : m_Cv l yX4_readStep cX4_readStep 3 (none) 5 D cy b LAY μ [.ref (b + 27)] (fun ν => IY S μ0 ν ∧ (True)) := by
  unfold m_Cv
  refine m_of (by decide) (Nat.le_of_ble_eq_true rfl) ?_
  intro p e s m below meth c hx hb hr hml hown hts hlocks _ hW ls hl
  have hown : s.vm.findClass RX4 = some m.cls := hown
  have hl : lv_has ls 3 [(0, .ref (b + 27))] := hl
  refine lv_aload_n hx hb dX4_readStep_0 rfl (lv_at hl 0 rfl) ?_
  refine m_geti hx hb hts hown hW (27) 5 rfl rfl cw_4 rfl (by decide) k_X4_37 dX4_readStep_1 ?_
  refine lv_topi (fun x1 ex1 => ?_)
  refine lv_istore_n (lv' := [(1, .int x1), (0, .ref (b + 27))]) hx hb dX4_readStep_4 rfl hl (by decide) rfl (fun ls hl => ?_)
  refine lv_iload_n hx hb dX4_readStep_5 rfl (lv_at hl 0 rfl) ?_
  refine lv_bipush (v := 15) hx hb dX4_readStep_6 (by decide) ?_
  refine lv_icmp_eq (tgt := 17) hx hb dX4_readStep_8 (by decide) (fun c2 => ?_) (fun c2 => ?_)
  · have i2 := m_c5 (rfl : x1.toInt = _) (by decide : (15 : Int32).toInt = 15) c2
    refine lv_iconst (v := 1) hx hb dX4_readStep_17 (by decide) ?_
    refine lv_goto (tgt := 22) hx hb dX4_readStep_18 (by decide) ?_
    refine lv_istore_n (lv' := [(2, .int 1), (1, .int x1), (0, .ref (b + 27))]) hx hb dX4_readStep_22 rfl hl (by decide) rfl (fun ls hl => ?_)
    refine lv_iload_n hx hb dX4_readStep_23 rfl (lv_at hl 0 rfl) ?_
    refine lv_if_eq (tgt := 44) hx hb dX4_readStep_24 (by decide) (fun c => False.elim (by revert c; decide)) (fun _ => ?_)
    refine lv_aload_n hx hb dX4_readStep_27 rfl (lv_at hl 2 rfl) ?_
    refine m_getr hx hb hts hown hW (27) 6 (37) rfl rfl cw_4 rfl (by decide) k_X4_40 dX4_readStep_28 ?_
    refine m_geti hx hb hts hown hW (37) 1 rfl rfl cw_5 rfl (by decide) k_X4_50 dX4_readStep_31 ?_
    refine lv_topi (fun x3 ex3 => ?_)
    have bx3 : 0 ≤ x3.toInt ∧ x3.toInt ≤ 4 := by rw [ex3]; exact hI.1 _ _ _ _ rfl
    refine lv_iconst (v := 4) hx hb dX4_readStep_34 (by decide) ?_
    refine lv_icmp_lt (tgt := 44) hx hb dX4_readStep_35 (by decide) (fun c4 => ?_) (fun c4 => ?_)
    · have i4 := m_c1 (rfl : x3.toInt = _) (by decide : (4 : Int32).toInt = 4) c4
      refine lv_aload_n hx hb dX4_readStep_44 rfl (lv_at hl 2 rfl) ?_
      refine m_getr hx hb hts hown hW (27) 0 (28) rfl rfl cw_4 rfl (by decide) k_X4_16 dX4_readStep_45 ?_
      refine lv_iload_n hx hb dX4_readStep_48 rfl (lv_at hl 1 rfl) ?_
      refine m_aV hW (m_runV (As := [.int x1]) (rest := []) hx hb hml hown hts hW (28) (g_X5_add l D cy b S μ0 28 29 800 rfl rfl (by decide) rfl (fun _ => rfl) hS5 (fun _ => hS5) x1 μ hI) mi_X5_add k_X4_83 rfl rfl rfl hl.1 rfl (Nat.le_of_ble_eq_true rfl) dX4_readStep_49 ⟨Nat.le_of_ble_eq_true rfl, Nat.le_of_ble_eq_true rfl⟩ ⟨Nat.le_of_ble_eq_true rfl, Nat.le_of_ble_eq_true rfl⟩) (fun μ5 H locs q5 hW => ?_)
      obtain ⟨hI, q5⟩ := q5
      refine lv_aload_n hx hb dX4_readStep_52 rfl (lv_at hl 2 rfl) ?_
      refine m_aV hW (m_runV (As := []) (rest := []) hx hb hml hown hts hW (27) (g_X4_advance l D cy b S μ0 hS5 μ5 hI) mi_X4_advance k_X4_80 rfl rfl rfl hl.1 rfl (Nat.le_of_ble_eq_true rfl) dX4_readStep_53 ⟨Nat.le_of_ble_eq_true rfl, Nat.le_of_ble_eq_true rfl⟩ ⟨Nat.le_of_ble_eq_true rfl, Nat.le_of_ble_eq_true rfl⟩) (fun μ6 H locs q6 hW => ?_)
      obtain ⟨hI, q6⟩ := q6
      refine lv_iload_n hx hb dX4_readStep_56 rfl (lv_at hl 1 rfl) ?_
      by_cases c7 : x1.toInt < 11 ∨ 16 < x1.toInt
      · refine lv_tableOut (tgt := 165) hx hb dX4_readStep_57 c7 (by decide) ?_
        refine lv_iload_n hx hb dX4_readStep_165 rfl (lv_at hl 0 rfl) ?_
        refine lv_if_ne (tgt := 173) hx hb dX4_readStep_166 (by decide) (fun _ => ?_) (fun c => False.elim (by revert c; decide))
        exact m_vret hx hb hr hlocks hW (⟨hI, trivial⟩) dX4_readStep_173
      · have q7 : x1.toInt = 11 ∨ x1.toInt = 12 ∨ x1.toInt = 13 ∨ x1.toInt = 14 ∨ x1.toInt = 15 ∨ x1.toInt = 16 := by omega
        rcases q7 with q7 | q7 | q7 | q7 | q7 | q7
        · refine lv_tableIn (off := 39) (tgt := 96) hx hb dX4_readStep_57 (fun z => c7 (Or.inl z)) (fun z => c7 (Or.inr z)) (by rw [q7]; rfl) (by decide) ?_
          refine lv_aload_n hx hb dX4_readStep_96 rfl (lv_at hl 2 rfl) ?_
          refine lv_iconst (v := 0) hx hb dX4_readStep_97 (by decide) ?_
          refine lv_sipush (v := 9999) hx hb dX4_readStep_98 (by decide) ?_
          have l_0 : (0 : Int32).toInt = 0 := by decide
          have l_9999 : (9999 : Int32).toInt = 9999 := by decide
          refine m_aV hW (m_runV (As := [.int 0, .int 9999]) (rest := []) hx hb hml hown hts hW (27) (g_X4_readNumber l D cy b S μ0 hS5 0 9999 μ6 hI) mi_X4_readNumber k_X4_86 rfl rfl rfl hl.1 rfl (Nat.le_of_ble_eq_true rfl) dX4_readStep_101 ⟨Nat.le_of_ble_eq_true rfl, Nat.le_of_ble_eq_true rfl⟩ ⟨Nat.le_of_ble_eq_true rfl, Nat.le_of_ble_eq_true rfl⟩) (fun μ8 H locs q8 hW => ?_)
          obtain ⟨hI, q8⟩ := q8
          refine lv_aload_n hx hb dX4_readStep_104 rfl (lv_at hl 2 rfl) ?_
          refine lv_iconst (v := 0) hx hb dX4_readStep_105 (by decide) ?_
          refine lv_sipush (v := 9999) hx hb dX4_readStep_106 (by decide) ?_
          refine m_aV hW (m_runV (As := [.int 0, .int 9999]) (rest := []) hx hb hml hown hts hW (27) (g_X4_readNumber l D cy b S μ0 hS5 0 9999 μ8 hI) mi_X4_readNumber k_X4_86 rfl rfl rfl hl.1 rfl (Nat.le_of_ble_eq_true rfl) dX4_readStep_109 ⟨Nat.le_of_ble_eq_true rfl, Nat.le_of_ble_eq_true rfl⟩ ⟨Nat.le_of_ble_eq_true rfl, Nat.le_of_ble_eq_true rfl⟩) (fun μ9 H locs q9 hW => ?_)
          obtain ⟨hI, q9⟩ := q9
          refine lv_goto (tgt := 165) hx hb dX4_readStep_112 (by decide) ?_
          refine lv_iload_n hx hb dX4_readStep_165 rfl (lv_at hl 0 rfl) ?_
          refine lv_if_ne (tgt := 173) hx hb dX4_readStep_166 (by decide) (fun _ => ?_) (fun c => False.elim (by revert c; decide))
          exact m_vret hx hb hr hlocks hW (⟨hI, trivial⟩) dX4_readStep_173
        · refine lv_tableIn (off := 58) (tgt := 115) hx hb dX4_readStep_57 (fun z => c7 (Or.inl z)) (fun z => c7 (Or.inr z)) (by rw [q7]; rfl) (by decide) ?_
          refine lv_aload_n hx hb dX4_readStep_115 rfl (lv_at hl 2 rfl) ?_
          refine m_aV hW (m_runV (As := []) (rest := []) hx hb hml hown hts hW (27) (g_X4_readSide l D cy b S μ0 hS5 μ6 hI) mi_X4_readSide k_X4_90 rfl rfl rfl hl.1 rfl (Nat.le_of_ble_eq_true rfl) dX4_readStep_116 ⟨Nat.le_of_ble_eq_true rfl, Nat.le_of_ble_eq_true rfl⟩ ⟨Nat.le_of_ble_eq_true rfl, Nat.le_of_ble_eq_true rfl⟩) (fun μ10 H locs q10 hW => ?_)
          obtain ⟨hI, q10⟩ := q10
          refine lv_aload_n hx hb dX4_readStep_119 rfl (lv_at hl 2 rfl) ?_
          refine lv_iconst (v := 0) hx hb dX4_readStep_120 (by decide) ?_
          refine lv_sipush (v := 9999) hx hb dX4_readStep_121 (by decide) ?_
          have l_0 : (0 : Int32).toInt = 0 := by decide
          have l_9999 : (9999 : Int32).toInt = 9999 := by decide
          refine m_aV hW (m_runV (As := [.int 0, .int 9999]) (rest := []) hx hb hml hown hts hW (27) (g_X4_readNumber l D cy b S μ0 hS5 0 9999 μ10 hI) mi_X4_readNumber k_X4_86 rfl rfl rfl hl.1 rfl (Nat.le_of_ble_eq_true rfl) dX4_readStep_124 ⟨Nat.le_of_ble_eq_true rfl, Nat.le_of_ble_eq_true rfl⟩ ⟨Nat.le_of_ble_eq_true rfl, Nat.le_of_ble_eq_true rfl⟩) (fun μ11 H locs q11 hW => ?_)
          obtain ⟨hI, q11⟩ := q11
          refine lv_goto (tgt := 165) hx hb dX4_readStep_127 (by decide) ?_
          refine lv_iload_n hx hb dX4_readStep_165 rfl (lv_at hl 0 rfl) ?_
          refine lv_if_ne (tgt := 173) hx hb dX4_readStep_166 (by decide) (fun _ => ?_) (fun c => False.elim (by revert c; decide))
          exact m_vret hx hb hr hlocks hW (⟨hI, trivial⟩) dX4_readStep_173
        · refine lv_tableIn (off := 73) (tgt := 130) hx hb dX4_readStep_57 (fun z => c7 (Or.inl z)) (fun z => c7 (Or.inr z)) (by rw [q7]; rfl) (by decide) ?_
          refine lv_aload_n hx hb dX4_readStep_130 rfl (lv_at hl 2 rfl) ?_
          refine lv_iconst (v := 0) hx hb dX4_readStep_131 (by decide) ?_
          refine lv_sipush (v := 9999) hx hb dX4_readStep_132 (by decide) ?_
          have l_0 : (0 : Int32).toInt = 0 := by decide
          have l_9999 : (9999 : Int32).toInt = 9999 := by decide
          refine m_aV hW (m_runV (As := [.int 0, .int 9999]) (rest := []) hx hb hml hown hts hW (27) (g_X4_readNumber l D cy b S μ0 hS5 0 9999 μ6 hI) mi_X4_readNumber k_X4_86 rfl rfl rfl hl.1 rfl (Nat.le_of_ble_eq_true rfl) dX4_readStep_135 ⟨Nat.le_of_ble_eq_true rfl, Nat.le_of_ble_eq_true rfl⟩ ⟨Nat.le_of_ble_eq_true rfl, Nat.le_of_ble_eq_true rfl⟩) (fun μ12 H locs q12 hW => ?_)
          obtain ⟨hI, q12⟩ := q12
          refine lv_goto (tgt := 165) hx hb dX4_readStep_138 (by decide) ?_
          refine lv_iload_n hx hb dX4_readStep_165 rfl (lv_at hl 0 rfl) ?_
          refine lv_if_ne (tgt := 173) hx hb dX4_readStep_166 (by decide) (fun _ => ?_) (fun c => False.elim (by revert c; decide))
          exact m_vret hx hb hr hlocks hW (⟨hI, trivial⟩) dX4_readStep_173
        · refine lv_tableIn (off := 84) (tgt := 141) hx hb dX4_readStep_57 (fun z => c7 (Or.inl z)) (fun z => c7 (Or.inr z)) (by rw [q7]; rfl) (by decide) ?_
          refine lv_aload_n hx hb dX4_readStep_141 rfl (lv_at hl 2 rfl) ?_
          refine lv_iconst (v := 1) hx hb dX4_readStep_142 (by decide) ?_
          refine lv_bipush (v := 20) hx hb dX4_readStep_143 (by decide) ?_
          have l_1 : (1 : Int32).toInt = 1 := by decide
          have l_20 : (20 : Int32).toInt = 20 := by decide
          refine m_aV hW (m_runV (As := [.int 1, .int 20]) (rest := []) hx hb hml hown hts hW (27) (g_X4_readNumber l D cy b S μ0 hS5 1 20 μ6 hI) mi_X4_readNumber k_X4_86 rfl rfl rfl hl.1 rfl (Nat.le_of_ble_eq_true rfl) dX4_readStep_145 ⟨Nat.le_of_ble_eq_true rfl, Nat.le_of_ble_eq_true rfl⟩ ⟨Nat.le_of_ble_eq_true rfl, Nat.le_of_ble_eq_true rfl⟩) (fun μ13 H locs q13 hW => ?_)
          obtain ⟨hI, q13⟩ := q13
          refine lv_goto (tgt := 165) hx hb dX4_readStep_148 (by decide) ?_
          refine lv_iload_n hx hb dX4_readStep_165 rfl (lv_at hl 0 rfl) ?_
          refine lv_if_ne (tgt := 173) hx hb dX4_readStep_166 (by decide) (fun _ => ?_) (fun c => False.elim (by revert c; decide))
          exact m_vret hx hb hr hlocks hW (⟨hI, trivial⟩) dX4_readStep_173
        · refine lv_tableIn (off := 94) (tgt := 151) hx hb dX4_readStep_57 (fun z => c7 (Or.inl z)) (fun z => c7 (Or.inr z)) (by rw [q7]; rfl) (by decide) ?_
          refine lv_aload_n hx hb dX4_readStep_151 rfl (lv_at hl 2 rfl) ?_
          refine m_aV hW (m_runV (As := []) (rest := []) hx hb hml hown hts hW (27) (g_X4_openAgain l D cy b S μ0 hS5 μ6 hI) mi_X4_openAgain k_X4_93 rfl rfl rfl hl.1 rfl (Nat.le_of_ble_eq_true rfl) dX4_readStep_152 ⟨Nat.le_of_ble_eq_true rfl, Nat.le_of_ble_eq_true rfl⟩ ⟨Nat.le_of_ble_eq_true rfl, Nat.le_of_ble_eq_true rfl⟩) (fun μ14 H locs q14 hW => ?_)
          obtain ⟨hI, q14⟩ := q14
          refine lv_goto (tgt := 165) hx hb dX4_readStep_155 (by decide) ?_
          refine lv_iload_n hx hb dX4_readStep_165 rfl (lv_at hl 0 rfl) ?_
          refine lv_if_ne (tgt := 173) hx hb dX4_readStep_166 (by decide) (fun _ => ?_) (fun c => False.elim (by revert c; decide))
          exact m_vret hx hb hr hlocks hW (⟨hI, trivial⟩) dX4_readStep_173
        · refine lv_tableIn (off := 101) (tgt := 158) hx hb dX4_readStep_57 (fun z => c7 (Or.inl z)) (fun z => c7 (Or.inr z)) (by rw [q7]; rfl) (by decide) ?_
          refine lv_aload_n hx hb dX4_readStep_158 rfl (lv_at hl 2 rfl) ?_
          refine m_aV hW (m_runV (As := []) (rest := []) hx hb hml hown hts hW (27) (g_X4_openIf l D cy b S μ0 hS5 μ6 hI) mi_X4_openIf k_X4_96 rfl rfl rfl hl.1 rfl (Nat.le_of_ble_eq_true rfl) dX4_readStep_159 ⟨Nat.le_of_ble_eq_true rfl, Nat.le_of_ble_eq_true rfl⟩ ⟨Nat.le_of_ble_eq_true rfl, Nat.le_of_ble_eq_true rfl⟩) (fun μ15 H locs q15 hW => ?_)
          obtain ⟨hI, q15⟩ := q15
          refine lv_goto (tgt := 165) hx hb dX4_readStep_162 (by decide) ?_
          refine lv_iload_n hx hb dX4_readStep_165 rfl (lv_at hl 0 rfl) ?_
          refine lv_if_ne (tgt := 173) hx hb dX4_readStep_166 (by decide) (fun _ => ?_) (fun c => False.elim (by revert c; decide))
          exact m_vret hx hb hr hlocks hW (⟨hI, trivial⟩) dX4_readStep_173
    · have i4 := m_c2 (rfl : x3.toInt = _) (by decide : (4 : Int32).toInt = 4) c4
      refine lv_aload_n hx hb dX4_readStep_38 rfl (lv_at hl 2 rfl) ?_
      refine lv_iconst (v := 3) hx hb dX4_readStep_39 (by decide) ?_
      have l_3 : (3 : Int32).toInt = 3 := by decide
      refine m_aV hW (m_runV (As := [.int 3]) (rest := []) hx hb hml hown hts hW (27) (g_X4_fail l D cy b S μ0 hS5 3 μ hI) mi_X4_fail k_X4_74 rfl rfl rfl hl.1 rfl (Nat.le_of_ble_eq_true rfl) dX4_readStep_40 ⟨Nat.le_of_ble_eq_true rfl, Nat.le_of_ble_eq_true rfl⟩ ⟨Nat.le_of_ble_eq_true rfl, Nat.le_of_ble_eq_true rfl⟩) (fun μ16 H locs q16 hW => ?_)
      obtain ⟨hI, q16⟩ := q16
      exact m_vret hx hb hr hlocks hW (⟨hI, trivial⟩) dX4_readStep_43
  · have i2 := m_c6 (rfl : x1.toInt = _) (by decide : (15 : Int32).toInt = 15) c2
    refine lv_iload_n hx hb dX4_readStep_11 rfl (lv_at hl 0 rfl) ?_
    refine lv_bipush (v := 16) hx hb dX4_readStep_12 (by decide) ?_
    refine lv_icmp_ne (tgt := 21) hx hb dX4_readStep_14 (by decide) (fun c17 => ?_) (fun c17 => ?_)
    · have i17 := m_c6 (rfl : x1.toInt = _) (by decide : (16 : Int32).toInt = 16) c17
      refine lv_iconst (v := 0) hx hb dX4_readStep_21 (by decide) ?_
      refine lv_istore_n (lv' := [(2, .int 0), (1, .int x1), (0, .ref (b + 27))]) hx hb dX4_readStep_22 rfl hl (by decide) rfl (fun ls hl => ?_)
      refine lv_iload_n hx hb dX4_readStep_23 rfl (lv_at hl 0 rfl) ?_
      refine lv_if_eq (tgt := 44) hx hb dX4_readStep_24 (by decide) (fun _ => ?_) (fun c => False.elim (by revert c; decide))
      refine lv_aload_n hx hb dX4_readStep_44 rfl (lv_at hl 2 rfl) ?_
      refine m_getr hx hb hts hown hW (27) 0 (28) rfl rfl cw_4 rfl (by decide) k_X4_16 dX4_readStep_45 ?_
      refine lv_iload_n hx hb dX4_readStep_48 rfl (lv_at hl 1 rfl) ?_
      refine m_aV hW (m_runV (As := [.int x1]) (rest := []) hx hb hml hown hts hW (28) (g_X5_add l D cy b S μ0 28 29 800 rfl rfl (by decide) rfl (fun _ => rfl) hS5 (fun _ => hS5) x1 μ hI) mi_X5_add k_X4_83 rfl rfl rfl hl.1 rfl (Nat.le_of_ble_eq_true rfl) dX4_readStep_49 ⟨Nat.le_of_ble_eq_true rfl, Nat.le_of_ble_eq_true rfl⟩ ⟨Nat.le_of_ble_eq_true rfl, Nat.le_of_ble_eq_true rfl⟩) (fun μ18 H locs q18 hW => ?_)
      obtain ⟨hI, q18⟩ := q18
      refine lv_aload_n hx hb dX4_readStep_52 rfl (lv_at hl 2 rfl) ?_
      refine m_aV hW (m_runV (As := []) (rest := []) hx hb hml hown hts hW (27) (g_X4_advance l D cy b S μ0 hS5 μ18 hI) mi_X4_advance k_X4_80 rfl rfl rfl hl.1 rfl (Nat.le_of_ble_eq_true rfl) dX4_readStep_53 ⟨Nat.le_of_ble_eq_true rfl, Nat.le_of_ble_eq_true rfl⟩ ⟨Nat.le_of_ble_eq_true rfl, Nat.le_of_ble_eq_true rfl⟩) (fun μ19 H locs q19 hW => ?_)
      obtain ⟨hI, q19⟩ := q19
      refine lv_iload_n hx hb dX4_readStep_56 rfl (lv_at hl 1 rfl) ?_
      by_cases c20 : x1.toInt < 11 ∨ 16 < x1.toInt
      · refine lv_tableOut (tgt := 165) hx hb dX4_readStep_57 c20 (by decide) ?_
        refine lv_iload_n hx hb dX4_readStep_165 rfl (lv_at hl 0 rfl) ?_
        refine lv_if_ne (tgt := 173) hx hb dX4_readStep_166 (by decide) (fun c => False.elim (by revert c; decide)) (fun _ => ?_)
        refine lv_aload_n hx hb dX4_readStep_169 rfl (lv_at hl 2 rfl) ?_
        refine m_aV hW (m_runV (As := []) (rest := []) hx hb hml hown hts hW (27) (g_X4_closeStep l D cy b S μ0 hS5 μ19 hI) mi_X4_closeStep k_X4_99 rfl rfl rfl hl.1 rfl (Nat.le_of_ble_eq_true rfl) dX4_readStep_170 ⟨Nat.le_of_ble_eq_true rfl, Nat.le_of_ble_eq_true rfl⟩ ⟨Nat.le_of_ble_eq_true rfl, Nat.le_of_ble_eq_true rfl⟩) (fun μ21 H locs q21 hW => ?_)
        obtain ⟨hI, q21⟩ := q21
        exact m_vret hx hb hr hlocks hW (⟨hI, trivial⟩) dX4_readStep_173
      · have q20 : x1.toInt = 11 ∨ x1.toInt = 12 ∨ x1.toInt = 13 ∨ x1.toInt = 14 ∨ x1.toInt = 15 ∨ x1.toInt = 16 := by omega
        rcases q20 with q20 | q20 | q20 | q20 | q20 | q20
        · refine lv_tableIn (off := 39) (tgt := 96) hx hb dX4_readStep_57 (fun z => c20 (Or.inl z)) (fun z => c20 (Or.inr z)) (by rw [q20]; rfl) (by decide) ?_
          refine lv_aload_n hx hb dX4_readStep_96 rfl (lv_at hl 2 rfl) ?_
          refine lv_iconst (v := 0) hx hb dX4_readStep_97 (by decide) ?_
          refine lv_sipush (v := 9999) hx hb dX4_readStep_98 (by decide) ?_
          have l_0 : (0 : Int32).toInt = 0 := by decide
          have l_9999 : (9999 : Int32).toInt = 9999 := by decide
          refine m_aV hW (m_runV (As := [.int 0, .int 9999]) (rest := []) hx hb hml hown hts hW (27) (g_X4_readNumber l D cy b S μ0 hS5 0 9999 μ19 hI) mi_X4_readNumber k_X4_86 rfl rfl rfl hl.1 rfl (Nat.le_of_ble_eq_true rfl) dX4_readStep_101 ⟨Nat.le_of_ble_eq_true rfl, Nat.le_of_ble_eq_true rfl⟩ ⟨Nat.le_of_ble_eq_true rfl, Nat.le_of_ble_eq_true rfl⟩) (fun μ22 H locs q22 hW => ?_)
          obtain ⟨hI, q22⟩ := q22
          refine lv_aload_n hx hb dX4_readStep_104 rfl (lv_at hl 2 rfl) ?_
          refine lv_iconst (v := 0) hx hb dX4_readStep_105 (by decide) ?_
          refine lv_sipush (v := 9999) hx hb dX4_readStep_106 (by decide) ?_
          refine m_aV hW (m_runV (As := [.int 0, .int 9999]) (rest := []) hx hb hml hown hts hW (27) (g_X4_readNumber l D cy b S μ0 hS5 0 9999 μ22 hI) mi_X4_readNumber k_X4_86 rfl rfl rfl hl.1 rfl (Nat.le_of_ble_eq_true rfl) dX4_readStep_109 ⟨Nat.le_of_ble_eq_true rfl, Nat.le_of_ble_eq_true rfl⟩ ⟨Nat.le_of_ble_eq_true rfl, Nat.le_of_ble_eq_true rfl⟩) (fun μ23 H locs q23 hW => ?_)
          obtain ⟨hI, q23⟩ := q23
          refine lv_goto (tgt := 165) hx hb dX4_readStep_112 (by decide) ?_
          refine lv_iload_n hx hb dX4_readStep_165 rfl (lv_at hl 0 rfl) ?_
          refine lv_if_ne (tgt := 173) hx hb dX4_readStep_166 (by decide) (fun c => False.elim (by revert c; decide)) (fun _ => ?_)
          refine lv_aload_n hx hb dX4_readStep_169 rfl (lv_at hl 2 rfl) ?_
          refine m_aV hW (m_runV (As := []) (rest := []) hx hb hml hown hts hW (27) (g_X4_closeStep l D cy b S μ0 hS5 μ23 hI) mi_X4_closeStep k_X4_99 rfl rfl rfl hl.1 rfl (Nat.le_of_ble_eq_true rfl) dX4_readStep_170 ⟨Nat.le_of_ble_eq_true rfl, Nat.le_of_ble_eq_true rfl⟩ ⟨Nat.le_of_ble_eq_true rfl, Nat.le_of_ble_eq_true rfl⟩) (fun μ24 H locs q24 hW => ?_)
          obtain ⟨hI, q24⟩ := q24
          exact m_vret hx hb hr hlocks hW (⟨hI, trivial⟩) dX4_readStep_173
        · refine lv_tableIn (off := 58) (tgt := 115) hx hb dX4_readStep_57 (fun z => c20 (Or.inl z)) (fun z => c20 (Or.inr z)) (by rw [q20]; rfl) (by decide) ?_
          refine lv_aload_n hx hb dX4_readStep_115 rfl (lv_at hl 2 rfl) ?_
          refine m_aV hW (m_runV (As := []) (rest := []) hx hb hml hown hts hW (27) (g_X4_readSide l D cy b S μ0 hS5 μ19 hI) mi_X4_readSide k_X4_90 rfl rfl rfl hl.1 rfl (Nat.le_of_ble_eq_true rfl) dX4_readStep_116 ⟨Nat.le_of_ble_eq_true rfl, Nat.le_of_ble_eq_true rfl⟩ ⟨Nat.le_of_ble_eq_true rfl, Nat.le_of_ble_eq_true rfl⟩) (fun μ25 H locs q25 hW => ?_)
          obtain ⟨hI, q25⟩ := q25
          refine lv_aload_n hx hb dX4_readStep_119 rfl (lv_at hl 2 rfl) ?_
          refine lv_iconst (v := 0) hx hb dX4_readStep_120 (by decide) ?_
          refine lv_sipush (v := 9999) hx hb dX4_readStep_121 (by decide) ?_
          have l_0 : (0 : Int32).toInt = 0 := by decide
          have l_9999 : (9999 : Int32).toInt = 9999 := by decide
          refine m_aV hW (m_runV (As := [.int 0, .int 9999]) (rest := []) hx hb hml hown hts hW (27) (g_X4_readNumber l D cy b S μ0 hS5 0 9999 μ25 hI) mi_X4_readNumber k_X4_86 rfl rfl rfl hl.1 rfl (Nat.le_of_ble_eq_true rfl) dX4_readStep_124 ⟨Nat.le_of_ble_eq_true rfl, Nat.le_of_ble_eq_true rfl⟩ ⟨Nat.le_of_ble_eq_true rfl, Nat.le_of_ble_eq_true rfl⟩) (fun μ26 H locs q26 hW => ?_)
          obtain ⟨hI, q26⟩ := q26
          refine lv_goto (tgt := 165) hx hb dX4_readStep_127 (by decide) ?_
          refine lv_iload_n hx hb dX4_readStep_165 rfl (lv_at hl 0 rfl) ?_
          refine lv_if_ne (tgt := 173) hx hb dX4_readStep_166 (by decide) (fun c => False.elim (by revert c; decide)) (fun _ => ?_)
          refine lv_aload_n hx hb dX4_readStep_169 rfl (lv_at hl 2 rfl) ?_
          refine m_aV hW (m_runV (As := []) (rest := []) hx hb hml hown hts hW (27) (g_X4_closeStep l D cy b S μ0 hS5 μ26 hI) mi_X4_closeStep k_X4_99 rfl rfl rfl hl.1 rfl (Nat.le_of_ble_eq_true rfl) dX4_readStep_170 ⟨Nat.le_of_ble_eq_true rfl, Nat.le_of_ble_eq_true rfl⟩ ⟨Nat.le_of_ble_eq_true rfl, Nat.le_of_ble_eq_true rfl⟩) (fun μ27 H locs q27 hW => ?_)
          obtain ⟨hI, q27⟩ := q27
          exact m_vret hx hb hr hlocks hW (⟨hI, trivial⟩) dX4_readStep_173
        · refine lv_tableIn (off := 73) (tgt := 130) hx hb dX4_readStep_57 (fun z => c20 (Or.inl z)) (fun z => c20 (Or.inr z)) (by rw [q20]; rfl) (by decide) ?_
          refine lv_aload_n hx hb dX4_readStep_130 rfl (lv_at hl 2 rfl) ?_
          refine lv_iconst (v := 0) hx hb dX4_readStep_131 (by decide) ?_
          refine lv_sipush (v := 9999) hx hb dX4_readStep_132 (by decide) ?_
          have l_0 : (0 : Int32).toInt = 0 := by decide
          have l_9999 : (9999 : Int32).toInt = 9999 := by decide
          refine m_aV hW (m_runV (As := [.int 0, .int 9999]) (rest := []) hx hb hml hown hts hW (27) (g_X4_readNumber l D cy b S μ0 hS5 0 9999 μ19 hI) mi_X4_readNumber k_X4_86 rfl rfl rfl hl.1 rfl (Nat.le_of_ble_eq_true rfl) dX4_readStep_135 ⟨Nat.le_of_ble_eq_true rfl, Nat.le_of_ble_eq_true rfl⟩ ⟨Nat.le_of_ble_eq_true rfl, Nat.le_of_ble_eq_true rfl⟩) (fun μ28 H locs q28 hW => ?_)
          obtain ⟨hI, q28⟩ := q28
          refine lv_goto (tgt := 165) hx hb dX4_readStep_138 (by decide) ?_
          refine lv_iload_n hx hb dX4_readStep_165 rfl (lv_at hl 0 rfl) ?_
          refine lv_if_ne (tgt := 173) hx hb dX4_readStep_166 (by decide) (fun c => False.elim (by revert c; decide)) (fun _ => ?_)
          refine lv_aload_n hx hb dX4_readStep_169 rfl (lv_at hl 2 rfl) ?_
          refine m_aV hW (m_runV (As := []) (rest := []) hx hb hml hown hts hW (27) (g_X4_closeStep l D cy b S μ0 hS5 μ28 hI) mi_X4_closeStep k_X4_99 rfl rfl rfl hl.1 rfl (Nat.le_of_ble_eq_true rfl) dX4_readStep_170 ⟨Nat.le_of_ble_eq_true rfl, Nat.le_of_ble_eq_true rfl⟩ ⟨Nat.le_of_ble_eq_true rfl, Nat.le_of_ble_eq_true rfl⟩) (fun μ29 H locs q29 hW => ?_)
          obtain ⟨hI, q29⟩ := q29
          exact m_vret hx hb hr hlocks hW (⟨hI, trivial⟩) dX4_readStep_173
        · refine lv_tableIn (off := 84) (tgt := 141) hx hb dX4_readStep_57 (fun z => c20 (Or.inl z)) (fun z => c20 (Or.inr z)) (by rw [q20]; rfl) (by decide) ?_
          refine lv_aload_n hx hb dX4_readStep_141 rfl (lv_at hl 2 rfl) ?_
          refine lv_iconst (v := 1) hx hb dX4_readStep_142 (by decide) ?_
          refine lv_bipush (v := 20) hx hb dX4_readStep_143 (by decide) ?_
          have l_1 : (1 : Int32).toInt = 1 := by decide
          have l_20 : (20 : Int32).toInt = 20 := by decide
          refine m_aV hW (m_runV (As := [.int 1, .int 20]) (rest := []) hx hb hml hown hts hW (27) (g_X4_readNumber l D cy b S μ0 hS5 1 20 μ19 hI) mi_X4_readNumber k_X4_86 rfl rfl rfl hl.1 rfl (Nat.le_of_ble_eq_true rfl) dX4_readStep_145 ⟨Nat.le_of_ble_eq_true rfl, Nat.le_of_ble_eq_true rfl⟩ ⟨Nat.le_of_ble_eq_true rfl, Nat.le_of_ble_eq_true rfl⟩) (fun μ30 H locs q30 hW => ?_)
          obtain ⟨hI, q30⟩ := q30
          refine lv_goto (tgt := 165) hx hb dX4_readStep_148 (by decide) ?_
          refine lv_iload_n hx hb dX4_readStep_165 rfl (lv_at hl 0 rfl) ?_
          refine lv_if_ne (tgt := 173) hx hb dX4_readStep_166 (by decide) (fun c => False.elim (by revert c; decide)) (fun _ => ?_)
          refine lv_aload_n hx hb dX4_readStep_169 rfl (lv_at hl 2 rfl) ?_
          refine m_aV hW (m_runV (As := []) (rest := []) hx hb hml hown hts hW (27) (g_X4_closeStep l D cy b S μ0 hS5 μ30 hI) mi_X4_closeStep k_X4_99 rfl rfl rfl hl.1 rfl (Nat.le_of_ble_eq_true rfl) dX4_readStep_170 ⟨Nat.le_of_ble_eq_true rfl, Nat.le_of_ble_eq_true rfl⟩ ⟨Nat.le_of_ble_eq_true rfl, Nat.le_of_ble_eq_true rfl⟩) (fun μ31 H locs q31 hW => ?_)
          obtain ⟨hI, q31⟩ := q31
          exact m_vret hx hb hr hlocks hW (⟨hI, trivial⟩) dX4_readStep_173
        · refine lv_tableIn (off := 94) (tgt := 151) hx hb dX4_readStep_57 (fun z => c20 (Or.inl z)) (fun z => c20 (Or.inr z)) (by rw [q20]; rfl) (by decide) ?_
          refine lv_aload_n hx hb dX4_readStep_151 rfl (lv_at hl 2 rfl) ?_
          refine m_aV hW (m_runV (As := []) (rest := []) hx hb hml hown hts hW (27) (g_X4_openAgain l D cy b S μ0 hS5 μ19 hI) mi_X4_openAgain k_X4_93 rfl rfl rfl hl.1 rfl (Nat.le_of_ble_eq_true rfl) dX4_readStep_152 ⟨Nat.le_of_ble_eq_true rfl, Nat.le_of_ble_eq_true rfl⟩ ⟨Nat.le_of_ble_eq_true rfl, Nat.le_of_ble_eq_true rfl⟩) (fun μ32 H locs q32 hW => ?_)
          obtain ⟨hI, q32⟩ := q32
          refine lv_goto (tgt := 165) hx hb dX4_readStep_155 (by decide) ?_
          refine lv_iload_n hx hb dX4_readStep_165 rfl (lv_at hl 0 rfl) ?_
          refine lv_if_ne (tgt := 173) hx hb dX4_readStep_166 (by decide) (fun c => False.elim (by revert c; decide)) (fun _ => ?_)
          refine lv_aload_n hx hb dX4_readStep_169 rfl (lv_at hl 2 rfl) ?_
          refine m_aV hW (m_runV (As := []) (rest := []) hx hb hml hown hts hW (27) (g_X4_closeStep l D cy b S μ0 hS5 μ32 hI) mi_X4_closeStep k_X4_99 rfl rfl rfl hl.1 rfl (Nat.le_of_ble_eq_true rfl) dX4_readStep_170 ⟨Nat.le_of_ble_eq_true rfl, Nat.le_of_ble_eq_true rfl⟩ ⟨Nat.le_of_ble_eq_true rfl, Nat.le_of_ble_eq_true rfl⟩) (fun μ33 H locs q33 hW => ?_)
          obtain ⟨hI, q33⟩ := q33
          exact m_vret hx hb hr hlocks hW (⟨hI, trivial⟩) dX4_readStep_173
        · refine lv_tableIn (off := 101) (tgt := 158) hx hb dX4_readStep_57 (fun z => c20 (Or.inl z)) (fun z => c20 (Or.inr z)) (by rw [q20]; rfl) (by decide) ?_
          refine lv_aload_n hx hb dX4_readStep_158 rfl (lv_at hl 2 rfl) ?_
          refine m_aV hW (m_runV (As := []) (rest := []) hx hb hml hown hts hW (27) (g_X4_openIf l D cy b S μ0 hS5 μ19 hI) mi_X4_openIf k_X4_96 rfl rfl rfl hl.1 rfl (Nat.le_of_ble_eq_true rfl) dX4_readStep_159 ⟨Nat.le_of_ble_eq_true rfl, Nat.le_of_ble_eq_true rfl⟩ ⟨Nat.le_of_ble_eq_true rfl, Nat.le_of_ble_eq_true rfl⟩) (fun μ34 H locs q34 hW => ?_)
          obtain ⟨hI, q34⟩ := q34
          refine lv_goto (tgt := 165) hx hb dX4_readStep_162 (by decide) ?_
          refine lv_iload_n hx hb dX4_readStep_165 rfl (lv_at hl 0 rfl) ?_
          refine lv_if_ne (tgt := 173) hx hb dX4_readStep_166 (by decide) (fun c => False.elim (by revert c; decide)) (fun _ => ?_)
          refine lv_aload_n hx hb dX4_readStep_169 rfl (lv_at hl 2 rfl) ?_
          refine m_aV hW (m_runV (As := []) (rest := []) hx hb hml hown hts hW (27) (g_X4_closeStep l D cy b S μ0 hS5 μ34 hI) mi_X4_closeStep k_X4_99 rfl rfl rfl hl.1 rfl (Nat.le_of_ble_eq_true rfl) dX4_readStep_170 ⟨Nat.le_of_ble_eq_true rfl, Nat.le_of_ble_eq_true rfl⟩ ⟨Nat.le_of_ble_eq_true rfl, Nat.le_of_ble_eq_true rfl⟩) (fun μ35 H locs q35 hW => ?_)
          obtain ⟨hI, q35⟩ := q35
          exact m_vret hx hb hr hlocks hW (⟨hI, trivial⟩) dX4_readStep_173
    · have i17 := m_c5 (rfl : x1.toInt = _) (by decide : (16 : Int32).toInt = 16) c17
      refine lv_iconst (v := 1) hx hb dX4_readStep_17 (by decide) ?_
      refine lv_goto (tgt := 22) hx hb dX4_readStep_18 (by decide) ?_
      refine lv_istore_n (lv' := [(2, .int 1), (1, .int x1), (0, .ref (b + 27))]) hx hb dX4_readStep_22 rfl hl (by decide) rfl (fun ls hl => ?_)
      refine lv_iload_n hx hb dX4_readStep_23 rfl (lv_at hl 0 rfl) ?_
      refine lv_if_eq (tgt := 44) hx hb dX4_readStep_24 (by decide) (fun c => False.elim (by revert c; decide)) (fun _ => ?_)
      refine lv_aload_n hx hb dX4_readStep_27 rfl (lv_at hl 2 rfl) ?_
      refine m_getr hx hb hts hown hW (27) 6 (37) rfl rfl cw_4 rfl (by decide) k_X4_40 dX4_readStep_28 ?_
      refine m_geti hx hb hts hown hW (37) 1 rfl rfl cw_5 rfl (by decide) k_X4_50 dX4_readStep_31 ?_
      refine lv_topi (fun x36 ex36 => ?_)
      have bx36 : 0 ≤ x36.toInt ∧ x36.toInt ≤ 4 := by rw [ex36]; exact hI.1 _ _ _ _ rfl
      refine lv_iconst (v := 4) hx hb dX4_readStep_34 (by decide) ?_
      refine lv_icmp_lt (tgt := 44) hx hb dX4_readStep_35 (by decide) (fun c37 => ?_) (fun c37 => ?_)
      · have i37 := m_c1 (rfl : x36.toInt = _) (by decide : (4 : Int32).toInt = 4) c37
        refine lv_aload_n hx hb dX4_readStep_44 rfl (lv_at hl 2 rfl) ?_
        refine m_getr hx hb hts hown hW (27) 0 (28) rfl rfl cw_4 rfl (by decide) k_X4_16 dX4_readStep_45 ?_
        refine lv_iload_n hx hb dX4_readStep_48 rfl (lv_at hl 1 rfl) ?_
        refine m_aV hW (m_runV (As := [.int x1]) (rest := []) hx hb hml hown hts hW (28) (g_X5_add l D cy b S μ0 28 29 800 rfl rfl (by decide) rfl (fun _ => rfl) hS5 (fun _ => hS5) x1 μ hI) mi_X5_add k_X4_83 rfl rfl rfl hl.1 rfl (Nat.le_of_ble_eq_true rfl) dX4_readStep_49 ⟨Nat.le_of_ble_eq_true rfl, Nat.le_of_ble_eq_true rfl⟩ ⟨Nat.le_of_ble_eq_true rfl, Nat.le_of_ble_eq_true rfl⟩) (fun μ38 H locs q38 hW => ?_)
        obtain ⟨hI, q38⟩ := q38
        refine lv_aload_n hx hb dX4_readStep_52 rfl (lv_at hl 2 rfl) ?_
        refine m_aV hW (m_runV (As := []) (rest := []) hx hb hml hown hts hW (27) (g_X4_advance l D cy b S μ0 hS5 μ38 hI) mi_X4_advance k_X4_80 rfl rfl rfl hl.1 rfl (Nat.le_of_ble_eq_true rfl) dX4_readStep_53 ⟨Nat.le_of_ble_eq_true rfl, Nat.le_of_ble_eq_true rfl⟩ ⟨Nat.le_of_ble_eq_true rfl, Nat.le_of_ble_eq_true rfl⟩) (fun μ39 H locs q39 hW => ?_)
        obtain ⟨hI, q39⟩ := q39
        refine lv_iload_n hx hb dX4_readStep_56 rfl (lv_at hl 1 rfl) ?_
        by_cases c40 : x1.toInt < 11 ∨ 16 < x1.toInt
        · refine lv_tableOut (tgt := 165) hx hb dX4_readStep_57 c40 (by decide) ?_
          refine lv_iload_n hx hb dX4_readStep_165 rfl (lv_at hl 0 rfl) ?_
          refine lv_if_ne (tgt := 173) hx hb dX4_readStep_166 (by decide) (fun _ => ?_) (fun c => False.elim (by revert c; decide))
          exact m_vret hx hb hr hlocks hW (⟨hI, trivial⟩) dX4_readStep_173
        · have q40 : x1.toInt = 11 ∨ x1.toInt = 12 ∨ x1.toInt = 13 ∨ x1.toInt = 14 ∨ x1.toInt = 15 ∨ x1.toInt = 16 := by omega
          rcases q40 with q40 | q40 | q40 | q40 | q40 | q40
          · refine lv_tableIn (off := 39) (tgt := 96) hx hb dX4_readStep_57 (fun z => c40 (Or.inl z)) (fun z => c40 (Or.inr z)) (by rw [q40]; rfl) (by decide) ?_
            refine lv_aload_n hx hb dX4_readStep_96 rfl (lv_at hl 2 rfl) ?_
            refine lv_iconst (v := 0) hx hb dX4_readStep_97 (by decide) ?_
            refine lv_sipush (v := 9999) hx hb dX4_readStep_98 (by decide) ?_
            have l_0 : (0 : Int32).toInt = 0 := by decide
            have l_9999 : (9999 : Int32).toInt = 9999 := by decide
            refine m_aV hW (m_runV (As := [.int 0, .int 9999]) (rest := []) hx hb hml hown hts hW (27) (g_X4_readNumber l D cy b S μ0 hS5 0 9999 μ39 hI) mi_X4_readNumber k_X4_86 rfl rfl rfl hl.1 rfl (Nat.le_of_ble_eq_true rfl) dX4_readStep_101 ⟨Nat.le_of_ble_eq_true rfl, Nat.le_of_ble_eq_true rfl⟩ ⟨Nat.le_of_ble_eq_true rfl, Nat.le_of_ble_eq_true rfl⟩) (fun μ41 H locs q41 hW => ?_)
            obtain ⟨hI, q41⟩ := q41
            refine lv_aload_n hx hb dX4_readStep_104 rfl (lv_at hl 2 rfl) ?_
            refine lv_iconst (v := 0) hx hb dX4_readStep_105 (by decide) ?_
            refine lv_sipush (v := 9999) hx hb dX4_readStep_106 (by decide) ?_
            refine m_aV hW (m_runV (As := [.int 0, .int 9999]) (rest := []) hx hb hml hown hts hW (27) (g_X4_readNumber l D cy b S μ0 hS5 0 9999 μ41 hI) mi_X4_readNumber k_X4_86 rfl rfl rfl hl.1 rfl (Nat.le_of_ble_eq_true rfl) dX4_readStep_109 ⟨Nat.le_of_ble_eq_true rfl, Nat.le_of_ble_eq_true rfl⟩ ⟨Nat.le_of_ble_eq_true rfl, Nat.le_of_ble_eq_true rfl⟩) (fun μ42 H locs q42 hW => ?_)
            obtain ⟨hI, q42⟩ := q42
            refine lv_goto (tgt := 165) hx hb dX4_readStep_112 (by decide) ?_
            refine lv_iload_n hx hb dX4_readStep_165 rfl (lv_at hl 0 rfl) ?_
            refine lv_if_ne (tgt := 173) hx hb dX4_readStep_166 (by decide) (fun _ => ?_) (fun c => False.elim (by revert c; decide))
            exact m_vret hx hb hr hlocks hW (⟨hI, trivial⟩) dX4_readStep_173
          · refine lv_tableIn (off := 58) (tgt := 115) hx hb dX4_readStep_57 (fun z => c40 (Or.inl z)) (fun z => c40 (Or.inr z)) (by rw [q40]; rfl) (by decide) ?_
            refine lv_aload_n hx hb dX4_readStep_115 rfl (lv_at hl 2 rfl) ?_
            refine m_aV hW (m_runV (As := []) (rest := []) hx hb hml hown hts hW (27) (g_X4_readSide l D cy b S μ0 hS5 μ39 hI) mi_X4_readSide k_X4_90 rfl rfl rfl hl.1 rfl (Nat.le_of_ble_eq_true rfl) dX4_readStep_116 ⟨Nat.le_of_ble_eq_true rfl, Nat.le_of_ble_eq_true rfl⟩ ⟨Nat.le_of_ble_eq_true rfl, Nat.le_of_ble_eq_true rfl⟩) (fun μ43 H locs q43 hW => ?_)
            obtain ⟨hI, q43⟩ := q43
            refine lv_aload_n hx hb dX4_readStep_119 rfl (lv_at hl 2 rfl) ?_
            refine lv_iconst (v := 0) hx hb dX4_readStep_120 (by decide) ?_
            refine lv_sipush (v := 9999) hx hb dX4_readStep_121 (by decide) ?_
            have l_0 : (0 : Int32).toInt = 0 := by decide
            have l_9999 : (9999 : Int32).toInt = 9999 := by decide
            refine m_aV hW (m_runV (As := [.int 0, .int 9999]) (rest := []) hx hb hml hown hts hW (27) (g_X4_readNumber l D cy b S μ0 hS5 0 9999 μ43 hI) mi_X4_readNumber k_X4_86 rfl rfl rfl hl.1 rfl (Nat.le_of_ble_eq_true rfl) dX4_readStep_124 ⟨Nat.le_of_ble_eq_true rfl, Nat.le_of_ble_eq_true rfl⟩ ⟨Nat.le_of_ble_eq_true rfl, Nat.le_of_ble_eq_true rfl⟩) (fun μ44 H locs q44 hW => ?_)
            obtain ⟨hI, q44⟩ := q44
            refine lv_goto (tgt := 165) hx hb dX4_readStep_127 (by decide) ?_
            refine lv_iload_n hx hb dX4_readStep_165 rfl (lv_at hl 0 rfl) ?_
            refine lv_if_ne (tgt := 173) hx hb dX4_readStep_166 (by decide) (fun _ => ?_) (fun c => False.elim (by revert c; decide))
            exact m_vret hx hb hr hlocks hW (⟨hI, trivial⟩) dX4_readStep_173
          · refine lv_tableIn (off := 73) (tgt := 130) hx hb dX4_readStep_57 (fun z => c40 (Or.inl z)) (fun z => c40 (Or.inr z)) (by rw [q40]; rfl) (by decide) ?_
            refine lv_aload_n hx hb dX4_readStep_130 rfl (lv_at hl 2 rfl) ?_
            refine lv_iconst (v := 0) hx hb dX4_readStep_131 (by decide) ?_
            refine lv_sipush (v := 9999) hx hb dX4_readStep_132 (by decide) ?_
            have l_0 : (0 : Int32).toInt = 0 := by decide
            have l_9999 : (9999 : Int32).toInt = 9999 := by decide
            refine m_aV hW (m_runV (As := [.int 0, .int 9999]) (rest := []) hx hb hml hown hts hW (27) (g_X4_readNumber l D cy b S μ0 hS5 0 9999 μ39 hI) mi_X4_readNumber k_X4_86 rfl rfl rfl hl.1 rfl (Nat.le_of_ble_eq_true rfl) dX4_readStep_135 ⟨Nat.le_of_ble_eq_true rfl, Nat.le_of_ble_eq_true rfl⟩ ⟨Nat.le_of_ble_eq_true rfl, Nat.le_of_ble_eq_true rfl⟩) (fun μ45 H locs q45 hW => ?_)
            obtain ⟨hI, q45⟩ := q45
            refine lv_goto (tgt := 165) hx hb dX4_readStep_138 (by decide) ?_
            refine lv_iload_n hx hb dX4_readStep_165 rfl (lv_at hl 0 rfl) ?_
            refine lv_if_ne (tgt := 173) hx hb dX4_readStep_166 (by decide) (fun _ => ?_) (fun c => False.elim (by revert c; decide))
            exact m_vret hx hb hr hlocks hW (⟨hI, trivial⟩) dX4_readStep_173
          · refine lv_tableIn (off := 84) (tgt := 141) hx hb dX4_readStep_57 (fun z => c40 (Or.inl z)) (fun z => c40 (Or.inr z)) (by rw [q40]; rfl) (by decide) ?_
            refine lv_aload_n hx hb dX4_readStep_141 rfl (lv_at hl 2 rfl) ?_
            refine lv_iconst (v := 1) hx hb dX4_readStep_142 (by decide) ?_
            refine lv_bipush (v := 20) hx hb dX4_readStep_143 (by decide) ?_
            have l_1 : (1 : Int32).toInt = 1 := by decide
            have l_20 : (20 : Int32).toInt = 20 := by decide
            refine m_aV hW (m_runV (As := [.int 1, .int 20]) (rest := []) hx hb hml hown hts hW (27) (g_X4_readNumber l D cy b S μ0 hS5 1 20 μ39 hI) mi_X4_readNumber k_X4_86 rfl rfl rfl hl.1 rfl (Nat.le_of_ble_eq_true rfl) dX4_readStep_145 ⟨Nat.le_of_ble_eq_true rfl, Nat.le_of_ble_eq_true rfl⟩ ⟨Nat.le_of_ble_eq_true rfl, Nat.le_of_ble_eq_true rfl⟩) (fun μ46 H locs q46 hW => ?_)
            obtain ⟨hI, q46⟩ := q46
            refine lv_goto (tgt := 165) hx hb dX4_readStep_148 (by decide) ?_
            refine lv_iload_n hx hb dX4_readStep_165 rfl (lv_at hl 0 rfl) ?_
            refine lv_if_ne (tgt := 173) hx hb dX4_readStep_166 (by decide) (fun _ => ?_) (fun c => False.elim (by revert c; decide))
            exact m_vret hx hb hr hlocks hW (⟨hI, trivial⟩) dX4_readStep_173
          · refine lv_tableIn (off := 94) (tgt := 151) hx hb dX4_readStep_57 (fun z => c40 (Or.inl z)) (fun z => c40 (Or.inr z)) (by rw [q40]; rfl) (by decide) ?_
            refine lv_aload_n hx hb dX4_readStep_151 rfl (lv_at hl 2 rfl) ?_
            refine m_aV hW (m_runV (As := []) (rest := []) hx hb hml hown hts hW (27) (g_X4_openAgain l D cy b S μ0 hS5 μ39 hI) mi_X4_openAgain k_X4_93 rfl rfl rfl hl.1 rfl (Nat.le_of_ble_eq_true rfl) dX4_readStep_152 ⟨Nat.le_of_ble_eq_true rfl, Nat.le_of_ble_eq_true rfl⟩ ⟨Nat.le_of_ble_eq_true rfl, Nat.le_of_ble_eq_true rfl⟩) (fun μ47 H locs q47 hW => ?_)
            obtain ⟨hI, q47⟩ := q47
            refine lv_goto (tgt := 165) hx hb dX4_readStep_155 (by decide) ?_
            refine lv_iload_n hx hb dX4_readStep_165 rfl (lv_at hl 0 rfl) ?_
            refine lv_if_ne (tgt := 173) hx hb dX4_readStep_166 (by decide) (fun _ => ?_) (fun c => False.elim (by revert c; decide))
            exact m_vret hx hb hr hlocks hW (⟨hI, trivial⟩) dX4_readStep_173
          · refine lv_tableIn (off := 101) (tgt := 158) hx hb dX4_readStep_57 (fun z => c40 (Or.inl z)) (fun z => c40 (Or.inr z)) (by rw [q40]; rfl) (by decide) ?_
            refine lv_aload_n hx hb dX4_readStep_158 rfl (lv_at hl 2 rfl) ?_
            refine m_aV hW (m_runV (As := []) (rest := []) hx hb hml hown hts hW (27) (g_X4_openIf l D cy b S μ0 hS5 μ39 hI) mi_X4_openIf k_X4_96 rfl rfl rfl hl.1 rfl (Nat.le_of_ble_eq_true rfl) dX4_readStep_159 ⟨Nat.le_of_ble_eq_true rfl, Nat.le_of_ble_eq_true rfl⟩ ⟨Nat.le_of_ble_eq_true rfl, Nat.le_of_ble_eq_true rfl⟩) (fun μ48 H locs q48 hW => ?_)
            obtain ⟨hI, q48⟩ := q48
            refine lv_goto (tgt := 165) hx hb dX4_readStep_162 (by decide) ?_
            refine lv_iload_n hx hb dX4_readStep_165 rfl (lv_at hl 0 rfl) ?_
            refine lv_if_ne (tgt := 173) hx hb dX4_readStep_166 (by decide) (fun _ => ?_) (fun c => False.elim (by revert c; decide))
            exact m_vret hx hb hr hlocks hW (⟨hI, trivial⟩) dX4_readStep_173
      · have i37 := m_c2 (rfl : x36.toInt = _) (by decide : (4 : Int32).toInt = 4) c37
        refine lv_aload_n hx hb dX4_readStep_38 rfl (lv_at hl 2 rfl) ?_
        refine lv_iconst (v := 3) hx hb dX4_readStep_39 (by decide) ?_
        have l_3 : (3 : Int32).toInt = 3 := by decide
        refine m_aV hW (m_runV (As := [.int 3]) (rest := []) hx hb hml hown hts hW (27) (g_X4_fail l D cy b S μ0 hS5 3 μ hI) mi_X4_fail k_X4_74 rfl rfl rfl hl.1 rfl (Nat.le_of_ble_eq_true rfl) dX4_readStep_40 ⟨Nat.le_of_ble_eq_true rfl, Nat.le_of_ble_eq_true rfl⟩ ⟨Nat.le_of_ble_eq_true rfl, Nat.le_of_ble_eq_true rfl⟩) (fun μ49 H locs q49 hW => ?_)
        obtain ⟨hI, q49⟩ := q49
        exact m_vret hx hb hr hlocks hW (⟨hI, trivial⟩) dX4_readStep_43
