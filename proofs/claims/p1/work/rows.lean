section
-- ===== PART A: goes FIRST, ahead of the names: the tables' words, and 'selects' of the private methods out of them =====
/-- a private method of a class that the tables say can be made, by its rows of tables_1 -/
def lw_okq (q : MethodName × Nat) : Prop := (q.1.cls ≠ "java/lang/invoke/MethodHandle" ∧ q.1.cls ≠ "java/lang/invoke/VarHandle") ∧ Cond.instantiable q.1.cls q.2 ∈ tables_1 ∧ Cond.privateMethod q.1 ∈ tables_1 ∧ Cond.instanceMethod q.1 ∈ tables_1
theorem lw_p0 : lw_okq (⟨"BeamPlate$Tokens", "takeWord", "(LBeamPlate$Row;I)I"⟩, 3) := ⟨⟨by decide +kernel, by decide +kernel⟩, List.mem_of_getElem? (i := 105) (by decide +kernel), List.mem_of_getElem? (i := 507) (by decide +kernel), List.mem_of_getElem? (i := 508) (by decide +kernel)⟩
theorem lw_p1 : lw_okq (⟨"BeamPlate$Tokens", "keep", "(III)V"⟩, 3) := ⟨⟨by decide +kernel, by decide +kernel⟩, List.mem_of_getElem? (i := 105) (by decide +kernel), List.mem_of_getElem? (i := 567) (by decide +kernel), List.mem_of_getElem? (i := 568) (by decide +kernel)⟩
theorem lw_p2 : lw_okq (⟨"BeamPlate$Tokens", "takeNumber", "(LBeamPlate$Row;I)I"⟩, 3) := ⟨⟨by decide +kernel, by decide +kernel⟩, List.mem_of_getElem? (i := 105) (by decide +kernel), List.mem_of_getElem? (i := 575) (by decide +kernel), List.mem_of_getElem? (i := 576) (by decide +kernel)⟩
theorem lw_p3 : lw_okq (⟨"BeamPlate$Reader", "readStep", "()V"⟩, 8) := ⟨⟨by decide +kernel, by decide +kernel⟩, List.mem_of_getElem? (i := 97) (by decide +kernel), List.mem_of_getElem? (i := 587) (by decide +kernel), List.mem_of_getElem? (i := 588) (by decide +kernel)⟩
theorem lw_p4 : lw_okq (⟨"BeamPlate$Reader", "fail", "(I)V"⟩, 8) := ⟨⟨by decide +kernel, by decide +kernel⟩, List.mem_of_getElem? (i := 97) (by decide +kernel), List.mem_of_getElem? (i := 591) (by decide +kernel), List.mem_of_getElem? (i := 592) (by decide +kernel)⟩
theorem lw_p5 : lw_okq (⟨"BeamPlate$Reader", "advance", "()V"⟩, 8) := ⟨⟨by decide +kernel, by decide +kernel⟩, List.mem_of_getElem? (i := 97) (by decide +kernel), List.mem_of_getElem? (i := 596) (by decide +kernel), List.mem_of_getElem? (i := 597) (by decide +kernel)⟩
theorem lw_p6 : lw_okq (⟨"BeamPlate$Reader", "readNumber", "(II)V"⟩, 8) := ⟨⟨by decide +kernel, by decide +kernel⟩, List.mem_of_getElem? (i := 97) (by decide +kernel), List.mem_of_getElem? (i := 600) (by decide +kernel), List.mem_of_getElem? (i := 601) (by decide +kernel)⟩
theorem lw_p7 : lw_okq (⟨"BeamPlate$Reader", "readSide", "()V"⟩, 8) := ⟨⟨by decide +kernel, by decide +kernel⟩, List.mem_of_getElem? (i := 97) (by decide +kernel), List.mem_of_getElem? (i := 604) (by decide +kernel), List.mem_of_getElem? (i := 605) (by decide +kernel)⟩
theorem lw_p8 : lw_okq (⟨"BeamPlate$Reader", "openAgain", "()V"⟩, 8) := ⟨⟨by decide +kernel, by decide +kernel⟩, List.mem_of_getElem? (i := 97) (by decide +kernel), List.mem_of_getElem? (i := 608) (by decide +kernel), List.mem_of_getElem? (i := 609) (by decide +kernel)⟩
theorem lw_p9 : lw_okq (⟨"BeamPlate$Reader", "expect", "(I)V"⟩, 8) := ⟨⟨by decide +kernel, by decide +kernel⟩, List.mem_of_getElem? (i := 97) (by decide +kernel), List.mem_of_getElem? (i := 612) (by decide +kernel), List.mem_of_getElem? (i := 613) (by decide +kernel)⟩
theorem lw_p10 : lw_okq (⟨"BeamPlate$Reader", "openIf", "()V"⟩, 8) := ⟨⟨by decide +kernel, by decide +kernel⟩, List.mem_of_getElem? (i := 97) (by decide +kernel), List.mem_of_getElem? (i := 616) (by decide +kernel), List.mem_of_getElem? (i := 617) (by decide +kernel)⟩
theorem lw_p11 : lw_okq (⟨"BeamPlate$Reader", "readSum", "()I"⟩, 8) := ⟨⟨by decide +kernel, by decide +kernel⟩, List.mem_of_getElem? (i := 97) (by decide +kernel), List.mem_of_getElem? (i := 620) (by decide +kernel), List.mem_of_getElem? (i := 621) (by decide +kernel)⟩
theorem lw_p12 : lw_okq (⟨"BeamPlate$Reader", "readTerm", "(Z)V"⟩, 8) := ⟨⟨by decide +kernel, by decide +kernel⟩, List.mem_of_getElem? (i := 97) (by decide +kernel), List.mem_of_getElem? (i := 624) (by decide +kernel), List.mem_of_getElem? (i := 625) (by decide +kernel)⟩
theorem lw_p13 : lw_okq (⟨"BeamPlate$Reader", "closeStep", "()V"⟩, 8) := ⟨⟨by decide +kernel, by decide +kernel⟩, List.mem_of_getElem? (i := 97) (by decide +kernel), List.mem_of_getElem? (i := 632) (by decide +kernel), List.mem_of_getElem? (i := 633) (by decide +kernel)⟩
theorem lw_p14 : lw_okq (⟨"BeamPlate$Reader", "innermost", "()I"⟩, 8) := ⟨⟨by decide +kernel, by decide +kernel⟩, List.mem_of_getElem? (i := 97) (by decide +kernel), List.mem_of_getElem? (i := 636) (by decide +kernel), List.mem_of_getElem? (i := 637) (by decide +kernel)⟩
theorem lw_p15 : lw_okq (⟨"BeamPlate$Reader", "dropInnermost", "()V"⟩, 8) := ⟨⟨by decide +kernel, by decide +kernel⟩, List.mem_of_getElem? (i := 97) (by decide +kernel), List.mem_of_getElem? (i := 640) (by decide +kernel), List.mem_of_getElem? (i := 641) (by decide +kernel)⟩
def lw_privs_1 : List (MethodName × Nat) := [(⟨"BeamPlate$Tokens", "takeWord", "(LBeamPlate$Row;I)I"⟩, 3), (⟨"BeamPlate$Tokens", "keep", "(III)V"⟩, 3), (⟨"BeamPlate$Tokens", "takeNumber", "(LBeamPlate$Row;I)I"⟩, 3), (⟨"BeamPlate$Reader", "readStep", "()V"⟩, 8), (⟨"BeamPlate$Reader", "fail", "(I)V"⟩, 8), (⟨"BeamPlate$Reader", "advance", "()V"⟩, 8), (⟨"BeamPlate$Reader", "readNumber", "(II)V"⟩, 8), (⟨"BeamPlate$Reader", "readSide", "()V"⟩, 8), (⟨"BeamPlate$Reader", "openAgain", "()V"⟩, 8), (⟨"BeamPlate$Reader", "expect", "(I)V"⟩, 8), (⟨"BeamPlate$Reader", "openIf", "()V"⟩, 8), (⟨"BeamPlate$Reader", "readSum", "()I"⟩, 8), (⟨"BeamPlate$Reader", "readTerm", "(Z)V"⟩, 8), (⟨"BeamPlate$Reader", "closeStep", "()V"⟩, 8), (⟨"BeamPlate$Reader", "innermost", "()I"⟩, 8), (⟨"BeamPlate$Reader", "dropInnermost", "()V"⟩, 8)]
theorem lw_r1 : ∀ q ∈ lw_privs_1, lw_okq q := List.forall_mem_cons.mpr ⟨lw_p0, List.forall_mem_cons.mpr ⟨lw_p1, List.forall_mem_cons.mpr ⟨lw_p2, List.forall_mem_cons.mpr ⟨lw_p3, List.forall_mem_cons.mpr ⟨lw_p4, List.forall_mem_cons.mpr ⟨lw_p5, List.forall_mem_cons.mpr ⟨lw_p6, List.forall_mem_cons.mpr ⟨lw_p7, List.forall_mem_cons.mpr ⟨lw_p8, List.forall_mem_cons.mpr ⟨lw_p9, List.forall_mem_cons.mpr ⟨lw_p10, List.forall_mem_cons.mpr ⟨lw_p11, List.forall_mem_cons.mpr ⟨lw_p12, List.forall_mem_cons.mpr ⟨lw_p13, List.forall_mem_cons.mpr ⟨lw_p14, List.forall_mem_cons.mpr ⟨lw_p15, fun _ h => absurd h List.not_mem_nil⟩⟩⟩⟩⟩⟩⟩⟩⟩⟩⟩⟩⟩⟩⟩⟩
theorem lw_p16 : lw_okq (⟨"BeamPlate$Reader", "closeAgain", "()V"⟩, 8) := ⟨⟨by decide +kernel, by decide +kernel⟩, List.mem_of_getElem? (i := 97) (by decide +kernel), List.mem_of_getElem? (i := 645) (by decide +kernel), List.mem_of_getElem? (i := 646) (by decide +kernel)⟩
theorem lw_p17 : lw_okq (⟨"BeamPlate$Runner", "travel", "(LBeamPlate$Plate;LBeamPlate$Works;II)V"⟩, 3) := ⟨⟨by decide +kernel, by decide +kernel⟩, List.mem_of_getElem? (i := 298) (by decide +kernel), List.mem_of_getElem? (i := 692) (by decide +kernel), List.mem_of_getElem? (i := 693) (by decide +kernel)⟩
theorem lw_p18 : lw_okq (⟨"BeamPlate$Plate", "giveHeat", "(I)V"⟩, 18) := ⟨⟨by decide +kernel, by decide +kernel⟩, List.mem_of_getElem? (i := 154) (by decide +kernel), List.mem_of_getElem? (i := 707) (by decide +kernel), List.mem_of_getElem? (i := 708) (by decide +kernel)⟩
theorem lw_p19 : lw_okq (⟨"BeamPlate$Plate", "leadHeat", "(I)V"⟩, 18) := ⟨⟨by decide +kernel, by decide +kernel⟩, List.mem_of_getElem? (i := 154) (by decide +kernel), List.mem_of_getElem? (i := 717) (by decide +kernel), List.mem_of_getElem? (i := 718) (by decide +kernel)⟩
theorem lw_p20 : lw_okq (⟨"BeamPlate$Plate", "leadBetween", "(III)V"⟩, 18) := ⟨⟨by decide +kernel, by decide +kernel⟩, List.mem_of_getElem? (i := 154) (by decide +kernel), List.mem_of_getElem? (i := 721) (by decide +kernel), List.mem_of_getElem? (i := 722) (by decide +kernel)⟩
theorem lw_p21 : lw_okq (⟨"BeamPlate$Plate", "loseHeat", "(I)V"⟩, 18) := ⟨⟨by decide +kernel, by decide +kernel⟩, List.mem_of_getElem? (i := 154) (by decide +kernel), List.mem_of_getElem? (i := 725) (by decide +kernel), List.mem_of_getElem? (i := 726) (by decide +kernel)⟩
theorem lw_p22 : lw_okq (⟨"BeamPlate$Plate", "cutMolten", "(I)Z"⟩, 18) := ⟨⟨by decide +kernel, by decide +kernel⟩, List.mem_of_getElem? (i := 154) (by decide +kernel), List.mem_of_getElem? (i := 729) (by decide +kernel), List.mem_of_getElem? (i := 730) (by decide +kernel)⟩
theorem lw_p23 : lw_okq (⟨"BeamPlate$Plate", "takeAway", "(II)V"⟩, 18) := ⟨⟨by decide +kernel, by decide +kernel⟩, List.mem_of_getElem? (i := 154) (by decide +kernel), List.mem_of_getElem? (i := 733) (by decide +kernel), List.mem_of_getElem? (i := 734) (by decide +kernel)⟩
theorem lw_p24 : lw_okq (⟨"BeamPlate$Plate", "burnHot", "(I)V"⟩, 18) := ⟨⟨by decide +kernel, by decide +kernel⟩, List.mem_of_getElem? (i := 154) (by decide +kernel), List.mem_of_getElem? (i := 737) (by decide +kernel), List.mem_of_getElem? (i := 738) (by decide +kernel)⟩
theorem lw_p25 : lw_okq (⟨"BeamPlate$Plate", "loosenParts", "(LBeamPlate$Works;)V"⟩, 18) := ⟨⟨by decide +kernel, by decide +kernel⟩, List.mem_of_getElem? (i := 154) (by decide +kernel), List.mem_of_getElem? (i := 741) (by decide +kernel), List.mem_of_getElem? (i := 742) (by decide +kernel)⟩
theorem lw_p26 : lw_okq (⟨"BeamPlate$Part", "take", "(LBeamPlate$Plate;I)V"⟩, 5) := ⟨⟨by decide +kernel, by decide +kernel⟩, List.mem_of_getElem? (i := 198) (by decide +kernel), List.mem_of_getElem? (i := 754) (by decide +kernel), List.mem_of_getElem? (i := 755) (by decide +kernel)⟩
theorem lw_p27 : lw_okq (⟨"BeamPlate$Plate", "settlePart", "(LBeamPlate$Works;)V"⟩, 18) := ⟨⟨by decide +kernel, by decide +kernel⟩, List.mem_of_getElem? (i := 154) (by decide +kernel), List.mem_of_getElem? (i := 762) (by decide +kernel), List.mem_of_getElem? (i := 763) (by decide +kernel)⟩
theorem lw_p28 : lw_okq (⟨"BeamPlate$Runner", "stay", "(LBeamPlate$Plate;LBeamPlate$Works;I)V"⟩, 3) := ⟨⟨by decide +kernel, by decide +kernel⟩, List.mem_of_getElem? (i := 298) (by decide +kernel), List.mem_of_getElem? (i := 770) (by decide +kernel), List.mem_of_getElem? (i := 771) (by decide +kernel)⟩
theorem lw_p29 : lw_okq (⟨"BeamPlate$Runner", "setTurns", "(II)V"⟩, 3) := ⟨⟨by decide +kernel, by decide +kernel⟩, List.mem_of_getElem? (i := 298) (by decide +kernel), List.mem_of_getElem? (i := 774) (by decide +kernel), List.mem_of_getElem? (i := 775) (by decide +kernel)⟩
theorem lw_p30 : lw_okq (⟨"BeamPlate$Runner", "turns", "(I)I"⟩, 3) := ⟨⟨by decide +kernel, by decide +kernel⟩, List.mem_of_getElem? (i := 298) (by decide +kernel), List.mem_of_getElem? (i := 779) (by decide +kernel), List.mem_of_getElem? (i := 780) (by decide +kernel)⟩
theorem lw_p31 : lw_okq (⟨"BeamPlate$Runner", "isSo", "(LBeamPlate$Row;ILBeamPlate$Plate;)Z"⟩, 3) := ⟨⟨by decide +kernel, by decide +kernel⟩, List.mem_of_getElem? (i := 298) (by decide +kernel), List.mem_of_getElem? (i := 783) (by decide +kernel), List.mem_of_getElem? (i := 784) (by decide +kernel)⟩
def lw_privs_2 : List (MethodName × Nat) := [(⟨"BeamPlate$Reader", "closeAgain", "()V"⟩, 8), (⟨"BeamPlate$Runner", "travel", "(LBeamPlate$Plate;LBeamPlate$Works;II)V"⟩, 3), (⟨"BeamPlate$Plate", "giveHeat", "(I)V"⟩, 18), (⟨"BeamPlate$Plate", "leadHeat", "(I)V"⟩, 18), (⟨"BeamPlate$Plate", "leadBetween", "(III)V"⟩, 18), (⟨"BeamPlate$Plate", "loseHeat", "(I)V"⟩, 18), (⟨"BeamPlate$Plate", "cutMolten", "(I)Z"⟩, 18), (⟨"BeamPlate$Plate", "takeAway", "(II)V"⟩, 18), (⟨"BeamPlate$Plate", "burnHot", "(I)V"⟩, 18), (⟨"BeamPlate$Plate", "loosenParts", "(LBeamPlate$Works;)V"⟩, 18), (⟨"BeamPlate$Part", "take", "(LBeamPlate$Plate;I)V"⟩, 5), (⟨"BeamPlate$Plate", "settlePart", "(LBeamPlate$Works;)V"⟩, 18), (⟨"BeamPlate$Runner", "stay", "(LBeamPlate$Plate;LBeamPlate$Works;I)V"⟩, 3), (⟨"BeamPlate$Runner", "setTurns", "(II)V"⟩, 3), (⟨"BeamPlate$Runner", "turns", "(I)I"⟩, 3), (⟨"BeamPlate$Runner", "isSo", "(LBeamPlate$Row;ILBeamPlate$Plate;)Z"⟩, 3)]
theorem lw_r2 : ∀ q ∈ lw_privs_2, lw_okq q := List.forall_mem_cons.mpr ⟨lw_p16, List.forall_mem_cons.mpr ⟨lw_p17, List.forall_mem_cons.mpr ⟨lw_p18, List.forall_mem_cons.mpr ⟨lw_p19, List.forall_mem_cons.mpr ⟨lw_p20, List.forall_mem_cons.mpr ⟨lw_p21, List.forall_mem_cons.mpr ⟨lw_p22, List.forall_mem_cons.mpr ⟨lw_p23, List.forall_mem_cons.mpr ⟨lw_p24, List.forall_mem_cons.mpr ⟨lw_p25, List.forall_mem_cons.mpr ⟨lw_p26, List.forall_mem_cons.mpr ⟨lw_p27, List.forall_mem_cons.mpr ⟨lw_p28, List.forall_mem_cons.mpr ⟨lw_p29, List.forall_mem_cons.mpr ⟨lw_p30, List.forall_mem_cons.mpr ⟨lw_p31, fun _ h => absurd h List.not_mem_nil⟩⟩⟩⟩⟩⟩⟩⟩⟩⟩⟩⟩⟩⟩⟩⟩
theorem lw_p32 : lw_okq (⟨"BeamPlate$Runner", "sum", "(LBeamPlate$Row;IILBeamPlate$Plate;)J"⟩, 3) := ⟨⟨by decide +kernel, by decide +kernel⟩, List.mem_of_getElem? (i := 298) (by decide +kernel), List.mem_of_getElem? (i := 787) (by decide +kernel), List.mem_of_getElem? (i := 788) (by decide +kernel)⟩
theorem lw_p33 : lw_okq (⟨"BeamPlate$Runner", "valueOf", "(IILBeamPlate$Plate;)I"⟩, 3) := ⟨⟨by decide +kernel, by decide +kernel⟩, List.mem_of_getElem? (i := 298) (by decide +kernel), List.mem_of_getElem? (i := 794) (by decide +kernel), List.mem_of_getElem? (i := 795) (by decide +kernel)⟩
theorem lw_p34 : lw_okq (⟨"BeamPlate$Plate", "spreadCosts", "()Z"⟩, 18) := ⟨⟨by decide +kernel, by decide +kernel⟩, List.mem_of_getElem? (i := 154) (by decide +kernel), List.mem_of_getElem? (i := 823) (by decide +kernel), List.mem_of_getElem? (i := 824) (by decide +kernel)⟩
theorem lw_p35 : lw_okq (⟨"BeamPlate$Plate", "costAt", "(II)I"⟩, 18) := ⟨⟨by decide +kernel, by decide +kernel⟩, List.mem_of_getElem? (i := 154) (by decide +kernel), List.mem_of_getElem? (i := 829) (by decide +kernel), List.mem_of_getElem? (i := 830) (by decide +kernel)⟩
theorem lw_p36 : lw_okq (⟨"BeamPlate$Trials", "choose", "(I)I"⟩, 7) := ⟨⟨by decide +kernel, by decide +kernel⟩, List.mem_of_getElem? (i := 314) (by decide +kernel), List.mem_of_getElem? (i := 877) (by decide +kernel), List.mem_of_getElem? (i := 878) (by decide +kernel)⟩
theorem lw_p37 : lw_okq (⟨"BeamPlate$Trials", "keepIfBetter", "(III)V"⟩, 7) := ⟨⟨by decide +kernel, by decide +kernel⟩, List.mem_of_getElem? (i := 314) (by decide +kernel), List.mem_of_getElem? (i := 898) (by decide +kernel), List.mem_of_getElem? (i := 899) (by decide +kernel)⟩
theorem lw_p38 : lw_okq (⟨"BeamPlate$Trials", "noneIsThereBehind", "(II)Z"⟩, 7) := ⟨⟨by decide +kernel, by decide +kernel⟩, List.mem_of_getElem? (i := 314) (by decide +kernel), List.mem_of_getElem? (i := 914) (by decide +kernel), List.mem_of_getElem? (i := 915) (by decide +kernel)⟩
theorem lw_p39 : lw_okq (⟨"BeamPlate$Filling", "fillAll", "()V"⟩, 5) := ⟨⟨by decide +kernel, by decide +kernel⟩, List.mem_of_getElem? (i := 351) (by decide +kernel), List.mem_of_getElem? (i := 929) (by decide +kernel), List.mem_of_getElem? (i := 930) (by decide +kernel)⟩
theorem lw_p40 : lw_okq (⟨"BeamPlate$Filling", "bestKind", "(II)I"⟩, 5) := ⟨⟨by decide +kernel, by decide +kernel⟩, List.mem_of_getElem? (i := 351) (by decide +kernel), List.mem_of_getElem? (i := 933) (by decide +kernel), List.mem_of_getElem? (i := 934) (by decide +kernel)⟩
theorem lw_p41 : lw_okq (⟨"BeamPlate$Filling", "bestCut", "(II)I"⟩, 5) := ⟨⟨by decide +kernel, by decide +kernel⟩, List.mem_of_getElem? (i := 351) (by decide +kernel), List.mem_of_getElem? (i := 938) (by decide +kernel), List.mem_of_getElem? (i := 939) (by decide +kernel)⟩
theorem lw_p42 : lw_okq (⟨"BeamPlateModel", "isIn", "(III)Z"⟩, 74) := ⟨⟨by decide +kernel, by decide +kernel⟩, List.mem_of_getElem? (i := 985) (by decide +kernel), List.mem_of_getElem? (i := 1219) (by decide +kernel), List.mem_of_getElem? (i := 1220) (by decide +kernel)⟩
theorem lw_p43 : lw_okq (⟨"BeamPlateModel", "puts", "(I)V"⟩, 74) := ⟨⟨by decide +kernel, by decide +kernel⟩, List.mem_of_getElem? (i := 985) (by decide +kernel), List.mem_of_getElem? (i := 1239) (by decide +kernel), List.mem_of_getElem? (i := 1240) (by decide +kernel)⟩
theorem lw_p44 : lw_okq (⟨"BeamPlateModel", "readAll", "()I"⟩, 74) := ⟨⟨by decide +kernel, by decide +kernel⟩, List.mem_of_getElem? (i := 985) (by decide +kernel), List.mem_of_getElem? (i := 1251) (by decide +kernel), List.mem_of_getElem? (i := 1252) (by decide +kernel)⟩
theorem lw_p45 : lw_okq (⟨"BeamPlateModel", "reads", "()V"⟩, 74) := ⟨⟨by decide +kernel, by decide +kernel⟩, List.mem_of_getElem? (i := 985) (by decide +kernel), List.mem_of_getElem? (i := 1255) (by decide +kernel), List.mem_of_getElem? (i := 1256) (by decide +kernel)⟩
theorem lw_p46 : lw_okq (⟨"BeamPlateModel", "raw", "(I)I"⟩, 74) := ⟨⟨by decide +kernel, by decide +kernel⟩, List.mem_of_getElem? (i := 985) (by decide +kernel), List.mem_of_getElem? (i := 1259) (by decide +kernel), List.mem_of_getElem? (i := 1260) (by decide +kernel)⟩
theorem lw_p47 : lw_okq (⟨"BeamPlateModel", "isLetter", "(I)Z"⟩, 74) := ⟨⟨by decide +kernel, by decide +kernel⟩, List.mem_of_getElem? (i := 985) (by decide +kernel), List.mem_of_getElem? (i := 1263) (by decide +kernel), List.mem_of_getElem? (i := 1264) (by decide +kernel)⟩
def lw_privs_3 : List (MethodName × Nat) := [(⟨"BeamPlate$Runner", "sum", "(LBeamPlate$Row;IILBeamPlate$Plate;)J"⟩, 3), (⟨"BeamPlate$Runner", "valueOf", "(IILBeamPlate$Plate;)I"⟩, 3), (⟨"BeamPlate$Plate", "spreadCosts", "()Z"⟩, 18), (⟨"BeamPlate$Plate", "costAt", "(II)I"⟩, 18), (⟨"BeamPlate$Trials", "choose", "(I)I"⟩, 7), (⟨"BeamPlate$Trials", "keepIfBetter", "(III)V"⟩, 7), (⟨"BeamPlate$Trials", "noneIsThereBehind", "(II)Z"⟩, 7), (⟨"BeamPlate$Filling", "fillAll", "()V"⟩, 5), (⟨"BeamPlate$Filling", "bestKind", "(II)I"⟩, 5), (⟨"BeamPlate$Filling", "bestCut", "(II)I"⟩, 5), (⟨"BeamPlateModel", "isIn", "(III)Z"⟩, 74), (⟨"BeamPlateModel", "puts", "(I)V"⟩, 74), (⟨"BeamPlateModel", "readAll", "()I"⟩, 74), (⟨"BeamPlateModel", "reads", "()V"⟩, 74), (⟨"BeamPlateModel", "raw", "(I)I"⟩, 74), (⟨"BeamPlateModel", "isLetter", "(I)Z"⟩, 74)]
theorem lw_r3 : ∀ q ∈ lw_privs_3, lw_okq q := List.forall_mem_cons.mpr ⟨lw_p32, List.forall_mem_cons.mpr ⟨lw_p33, List.forall_mem_cons.mpr ⟨lw_p34, List.forall_mem_cons.mpr ⟨lw_p35, List.forall_mem_cons.mpr ⟨lw_p36, List.forall_mem_cons.mpr ⟨lw_p37, List.forall_mem_cons.mpr ⟨lw_p38, List.forall_mem_cons.mpr ⟨lw_p39, List.forall_mem_cons.mpr ⟨lw_p40, List.forall_mem_cons.mpr ⟨lw_p41, List.forall_mem_cons.mpr ⟨lw_p42, List.forall_mem_cons.mpr ⟨lw_p43, List.forall_mem_cons.mpr ⟨lw_p44, List.forall_mem_cons.mpr ⟨lw_p45, List.forall_mem_cons.mpr ⟨lw_p46, List.forall_mem_cons.mpr ⟨lw_p47, fun _ h => absurd h List.not_mem_nil⟩⟩⟩⟩⟩⟩⟩⟩⟩⟩⟩⟩⟩⟩⟩⟩
theorem lw_p48 : lw_okq (⟨"BeamPlateModel", "wordAt", "(II)I"⟩, 74) := ⟨⟨by decide +kernel, by decide +kernel⟩, List.mem_of_getElem? (i := 985) (by decide +kernel), List.mem_of_getElem? (i := 1267) (by decide +kernel), List.mem_of_getElem? (i := 1268) (by decide +kernel)⟩
theorem lw_p49 : lw_okq (⟨"BeamPlateModel", "isDigit", "(I)Z"⟩, 74) := ⟨⟨by decide +kernel, by decide +kernel⟩, List.mem_of_getElem? (i := 985) (by decide +kernel), List.mem_of_getElem? (i := 1271) (by decide +kernel), List.mem_of_getElem? (i := 1272) (by decide +kernel)⟩
theorem lw_p50 : lw_okq (⟨"BeamPlateModel", "isMarkSign", "(I)Z"⟩, 74) := ⟨⟨by decide +kernel, by decide +kernel⟩, List.mem_of_getElem? (i := 985) (by decide +kernel), List.mem_of_getElem? (i := 1275) (by decide +kernel), List.mem_of_getElem? (i := 1276) (by decide +kernel)⟩
theorem lw_p51 : lw_okq (⟨"BeamPlateModel", "isWord", "(I)Z"⟩, 74) := ⟨⟨by decide +kernel, by decide +kernel⟩, List.mem_of_getElem? (i := 985) (by decide +kernel), List.mem_of_getElem? (i := 1279) (by decide +kernel), List.mem_of_getElem? (i := 1280) (by decide +kernel)⟩
theorem lw_p52 : lw_okq (⟨"BeamPlateModel", "isInAgain", "()Z"⟩, 74) := ⟨⟨by decide +kernel, by decide +kernel⟩, List.mem_of_getElem? (i := 985) (by decide +kernel), List.mem_of_getElem? (i := 1283) (by decide +kernel), List.mem_of_getElem? (i := 1284) (by decide +kernel)⟩
theorem lw_p53 : lw_okq (⟨"BeamPlateModel", "closes", "()V"⟩, 74) := ⟨⟨by decide +kernel, by decide +kernel⟩, List.mem_of_getElem? (i := 985) (by decide +kernel), List.mem_of_getElem? (i := 1287) (by decide +kernel), List.mem_of_getElem? (i := 1288) (by decide +kernel)⟩
theorem lw_p54 : lw_okq (⟨"BeamPlateModel", "emits", "(III)V"⟩, 74) := ⟨⟨by decide +kernel, by decide +kernel⟩, List.mem_of_getElem? (i := 985) (by decide +kernel), List.mem_of_getElem? (i := 1291) (by decide +kernel), List.mem_of_getElem? (i := 1292) (by decide +kernel)⟩
theorem lw_p55 : lw_okq (⟨"BeamPlateModel", "ends", "()I"⟩, 74) := ⟨⟨by decide +kernel, by decide +kernel⟩, List.mem_of_getElem? (i := 985) (by decide +kernel), List.mem_of_getElem? (i := 1295) (by decide +kernel), List.mem_of_getElem? (i := 1296) (by decide +kernel)⟩
theorem lw_p56 : lw_okq (⟨"BeamPlateModel", "isSign", "(I)Z"⟩, 74) := ⟨⟨by decide +kernel, by decide +kernel⟩, List.mem_of_getElem? (i := 985) (by decide +kernel), List.mem_of_getElem? (i := 1299) (by decide +kernel), List.mem_of_getElem? (i := 1300) (by decide +kernel)⟩
theorem lw_p57 : lw_okq (⟨"BeamPlateModel", "fails", "(I)I"⟩, 74) := ⟨⟨by decide +kernel, by decide +kernel⟩, List.mem_of_getElem? (i := 985) (by decide +kernel), List.mem_of_getElem? (i := 1303) (by decide +kernel), List.mem_of_getElem? (i := 1304) (by decide +kernel)⟩
theorem lw_p58 : lw_okq (⟨"BeamPlateModel", "readIf", "()I"⟩, 74) := ⟨⟨by decide +kernel, by decide +kernel⟩, List.mem_of_getElem? (i := 985) (by decide +kernel), List.mem_of_getElem? (i := 1307) (by decide +kernel), List.mem_of_getElem? (i := 1308) (by decide +kernel)⟩
theorem lw_p59 : lw_okq (⟨"BeamPlateModel", "readSum", "()I"⟩, 74) := ⟨⟨by decide +kernel, by decide +kernel⟩, List.mem_of_getElem? (i := 985) (by decide +kernel), List.mem_of_getElem? (i := 1311) (by decide +kernel), List.mem_of_getElem? (i := 1312) (by decide +kernel)⟩
theorem lw_p60 : lw_okq (⟨"BeamPlateModel", "readUnit", "(I)I"⟩, 74) := ⟨⟨by decide +kernel, by decide +kernel⟩, List.mem_of_getElem? (i := 985) (by decide +kernel), List.mem_of_getElem? (i := 1315) (by decide +kernel), List.mem_of_getElem? (i := 1316) (by decide +kernel)⟩
theorem lw_p61 : lw_okq (⟨"BeamPlateModel", "readAgain", "()I"⟩, 74) := ⟨⟨by decide +kernel, by decide +kernel⟩, List.mem_of_getElem? (i := 985) (by decide +kernel), List.mem_of_getElem? (i := 1319) (by decide +kernel), List.mem_of_getElem? (i := 1320) (by decide +kernel)⟩
theorem lw_p62 : lw_okq (⟨"BeamPlateModel", "readNumber", "()I"⟩, 74) := ⟨⟨by decide +kernel, by decide +kernel⟩, List.mem_of_getElem? (i := 985) (by decide +kernel), List.mem_of_getElem? (i := 1323) (by decide +kernel), List.mem_of_getElem? (i := 1324) (by decide +kernel)⟩
theorem lw_p63 : lw_okq (⟨"BeamPlateModel", "readPlain", "()I"⟩, 74) := ⟨⟨by decide +kernel, by decide +kernel⟩, List.mem_of_getElem? (i := 985) (by decide +kernel), List.mem_of_getElem? (i := 1327) (by decide +kernel), List.mem_of_getElem? (i := 1328) (by decide +kernel)⟩
def lw_privs_4 : List (MethodName × Nat) := [(⟨"BeamPlateModel", "wordAt", "(II)I"⟩, 74), (⟨"BeamPlateModel", "isDigit", "(I)Z"⟩, 74), (⟨"BeamPlateModel", "isMarkSign", "(I)Z"⟩, 74), (⟨"BeamPlateModel", "isWord", "(I)Z"⟩, 74), (⟨"BeamPlateModel", "isInAgain", "()Z"⟩, 74), (⟨"BeamPlateModel", "closes", "()V"⟩, 74), (⟨"BeamPlateModel", "emits", "(III)V"⟩, 74), (⟨"BeamPlateModel", "ends", "()I"⟩, 74), (⟨"BeamPlateModel", "isSign", "(I)Z"⟩, 74), (⟨"BeamPlateModel", "fails", "(I)I"⟩, 74), (⟨"BeamPlateModel", "readIf", "()I"⟩, 74), (⟨"BeamPlateModel", "readSum", "()I"⟩, 74), (⟨"BeamPlateModel", "readUnit", "(I)I"⟩, 74), (⟨"BeamPlateModel", "readAgain", "()I"⟩, 74), (⟨"BeamPlateModel", "readNumber", "()I"⟩, 74), (⟨"BeamPlateModel", "readPlain", "()I"⟩, 74)]
theorem lw_r4 : ∀ q ∈ lw_privs_4, lw_okq q := List.forall_mem_cons.mpr ⟨lw_p48, List.forall_mem_cons.mpr ⟨lw_p49, List.forall_mem_cons.mpr ⟨lw_p50, List.forall_mem_cons.mpr ⟨lw_p51, List.forall_mem_cons.mpr ⟨lw_p52, List.forall_mem_cons.mpr ⟨lw_p53, List.forall_mem_cons.mpr ⟨lw_p54, List.forall_mem_cons.mpr ⟨lw_p55, List.forall_mem_cons.mpr ⟨lw_p56, List.forall_mem_cons.mpr ⟨lw_p57, List.forall_mem_cons.mpr ⟨lw_p58, List.forall_mem_cons.mpr ⟨lw_p59, List.forall_mem_cons.mpr ⟨lw_p60, List.forall_mem_cons.mpr ⟨lw_p61, List.forall_mem_cons.mpr ⟨lw_p62, List.forall_mem_cons.mpr ⟨lw_p63, fun _ h => absurd h List.not_mem_nil⟩⟩⟩⟩⟩⟩⟩⟩⟩⟩⟩⟩⟩⟩⟩⟩
theorem lw_p64 : lw_okq (⟨"BeamPlateModel", "runs", "(II)V"⟩, 74) := ⟨⟨by decide +kernel, by decide +kernel⟩, List.mem_of_getElem? (i := 985) (by decide +kernel), List.mem_of_getElem? (i := 1339) (by decide +kernel), List.mem_of_getElem? (i := 1340) (by decide +kernel)⟩
theorem lw_p65 : lw_okq (⟨"BeamPlateModel", "pays", "()Z"⟩, 74) := ⟨⟨by decide +kernel, by decide +kernel⟩, List.mem_of_getElem? (i := 985) (by decide +kernel), List.mem_of_getElem? (i := 1343) (by decide +kernel), List.mem_of_getElem? (i := 1344) (by decide +kernel)⟩
theorem lw_p66 : lw_okq (⟨"BeamPlateModel", "isSo", "(III)Z"⟩, 74) := ⟨⟨by decide +kernel, by decide +kernel⟩, List.mem_of_getElem? (i := 985) (by decide +kernel), List.mem_of_getElem? (i := 1347) (by decide +kernel), List.mem_of_getElem? (i := 1348) (by decide +kernel)⟩
theorem lw_p67 : lw_okq (⟨"BeamPlateModel", "sumOf", "(IIII)I"⟩, 74) := ⟨⟨by decide +kernel, by decide +kernel⟩, List.mem_of_getElem? (i := 985) (by decide +kernel), List.mem_of_getElem? (i := 1351) (by decide +kernel), List.mem_of_getElem? (i := 1352) (by decide +kernel)⟩
theorem lw_p68 : lw_okq (⟨"BeamPlateModel", "askedOf", "(II)I"⟩, 74) := ⟨⟨by decide +kernel, by decide +kernel⟩, List.mem_of_getElem? (i := 985) (by decide +kernel), List.mem_of_getElem? (i := 1355) (by decide +kernel), List.mem_of_getElem? (i := 1356) (by decide +kernel)⟩
theorem lw_p69 : lw_okq (⟨"BeamPlateModel", "isThere", "(III)Z"⟩, 74) := ⟨⟨by decide +kernel, by decide +kernel⟩, List.mem_of_getElem? (i := 985) (by decide +kernel), List.mem_of_getElem? (i := 1359) (by decide +kernel), List.mem_of_getElem? (i := 1360) (by decide +kernel)⟩
theorem lw_p70 : lw_okq (⟨"BeamPlateModel", "isOnPlate", "(II)Z"⟩, 74) := ⟨⟨by decide +kernel, by decide +kernel⟩, List.mem_of_getElem? (i := 985) (by decide +kernel), List.mem_of_getElem? (i := 1363) (by decide +kernel), List.mem_of_getElem? (i := 1364) (by decide +kernel)⟩
theorem lw_p71 : lw_okq (⟨"BeamPlateModel", "doesPlain", "(IIII)V"⟩, 74) := ⟨⟨by decide +kernel, by decide +kernel⟩, List.mem_of_getElem? (i := 985) (by decide +kernel), List.mem_of_getElem? (i := 1367) (by decide +kernel), List.mem_of_getElem? (i := 1368) (by decide +kernel)⟩
theorem lw_p72 : lw_okq (⟨"BeamPlateModel", "comes", "(III)V"⟩, 74) := ⟨⟨by decide +kernel, by decide +kernel⟩, List.mem_of_getElem? (i := 985) (by decide +kernel), List.mem_of_getElem? (i := 1371) (by decide +kernel), List.mem_of_getElem? (i := 1372) (by decide +kernel)⟩
theorem lw_p73 : lw_okq (⟨"BeamPlateModel", "goes", "(III)V"⟩, 74) := ⟨⟨by decide +kernel, by decide +kernel⟩, List.mem_of_getElem? (i := 985) (by decide +kernel), List.mem_of_getElem? (i := 1375) (by decide +kernel), List.mem_of_getElem? (i := 1376) (by decide +kernel)⟩
theorem lw_p74 : lw_okq (⟨"BeamPlateModel", "stepX", "(I)I"⟩, 74) := ⟨⟨by decide +kernel, by decide +kernel⟩, List.mem_of_getElem? (i := 985) (by decide +kernel), List.mem_of_getElem? (i := 1379) (by decide +kernel), List.mem_of_getElem? (i := 1380) (by decide +kernel)⟩
theorem lw_p75 : lw_okq (⟨"BeamPlateModel", "stepY", "(I)I"⟩, 74) := ⟨⟨by decide +kernel, by decide +kernel⟩, List.mem_of_getElem? (i := 985) (by decide +kernel), List.mem_of_getElem? (i := 1383) (by decide +kernel), List.mem_of_getElem? (i := 1384) (by decide +kernel)⟩
theorem lw_p76 : lw_okq (⟨"BeamPlateModel", "waits", "(II)V"⟩, 74) := ⟨⟨by decide +kernel, by decide +kernel⟩, List.mem_of_getElem? (i := 985) (by decide +kernel), List.mem_of_getElem? (i := 1387) (by decide +kernel), List.mem_of_getElem? (i := 1388) (by decide +kernel)⟩
theorem lw_p77 : lw_okq (⟨"BeamPlateModel", "ticksOnce", "(I)V"⟩, 74) := ⟨⟨by decide +kernel, by decide +kernel⟩, List.mem_of_getElem? (i := 985) (by decide +kernel), List.mem_of_getElem? (i := 1391) (by decide +kernel), List.mem_of_getElem? (i := 1392) (by decide +kernel)⟩
theorem lw_p78 : lw_okq (⟨"BeamPlateModel", "gives", "(I)V"⟩, 74) := ⟨⟨by decide +kernel, by decide +kernel⟩, List.mem_of_getElem? (i := 985) (by decide +kernel), List.mem_of_getElem? (i := 1395) (by decide +kernel), List.mem_of_getElem? (i := 1396) (by decide +kernel)⟩
theorem lw_p79 : lw_okq (⟨"BeamPlateModel", "leads", "(I)V"⟩, 74) := ⟨⟨by decide +kernel, by decide +kernel⟩, List.mem_of_getElem? (i := 985) (by decide +kernel), List.mem_of_getElem? (i := 1400) (by decide +kernel), List.mem_of_getElem? (i := 1401) (by decide +kernel)⟩
def lw_privs_5 : List (MethodName × Nat) := [(⟨"BeamPlateModel", "runs", "(II)V"⟩, 74), (⟨"BeamPlateModel", "pays", "()Z"⟩, 74), (⟨"BeamPlateModel", "isSo", "(III)Z"⟩, 74), (⟨"BeamPlateModel", "sumOf", "(IIII)I"⟩, 74), (⟨"BeamPlateModel", "askedOf", "(II)I"⟩, 74), (⟨"BeamPlateModel", "isThere", "(III)Z"⟩, 74), (⟨"BeamPlateModel", "isOnPlate", "(II)Z"⟩, 74), (⟨"BeamPlateModel", "doesPlain", "(IIII)V"⟩, 74), (⟨"BeamPlateModel", "comes", "(III)V"⟩, 74), (⟨"BeamPlateModel", "goes", "(III)V"⟩, 74), (⟨"BeamPlateModel", "stepX", "(I)I"⟩, 74), (⟨"BeamPlateModel", "stepY", "(I)I"⟩, 74), (⟨"BeamPlateModel", "waits", "(II)V"⟩, 74), (⟨"BeamPlateModel", "ticksOnce", "(I)V"⟩, 74), (⟨"BeamPlateModel", "gives", "(I)V"⟩, 74), (⟨"BeamPlateModel", "leads", "(I)V"⟩, 74)]
theorem lw_r5 : ∀ q ∈ lw_privs_5, lw_okq q := List.forall_mem_cons.mpr ⟨lw_p64, List.forall_mem_cons.mpr ⟨lw_p65, List.forall_mem_cons.mpr ⟨lw_p66, List.forall_mem_cons.mpr ⟨lw_p67, List.forall_mem_cons.mpr ⟨lw_p68, List.forall_mem_cons.mpr ⟨lw_p69, List.forall_mem_cons.mpr ⟨lw_p70, List.forall_mem_cons.mpr ⟨lw_p71, List.forall_mem_cons.mpr ⟨lw_p72, List.forall_mem_cons.mpr ⟨lw_p73, List.forall_mem_cons.mpr ⟨lw_p74, List.forall_mem_cons.mpr ⟨lw_p75, List.forall_mem_cons.mpr ⟨lw_p76, List.forall_mem_cons.mpr ⟨lw_p77, List.forall_mem_cons.mpr ⟨lw_p78, List.forall_mem_cons.mpr ⟨lw_p79, fun _ h => absurd h List.not_mem_nil⟩⟩⟩⟩⟩⟩⟩⟩⟩⟩⟩⟩⟩⟩⟩⟩
theorem lw_p80 : lw_okq (⟨"BeamPlateModel", "flowFrom", "(IIII)I"⟩, 74) := ⟨⟨by decide +kernel, by decide +kernel⟩, List.mem_of_getElem? (i := 985) (by decide +kernel), List.mem_of_getElem? (i := 1404) (by decide +kernel), List.mem_of_getElem? (i := 1405) (by decide +kernel)⟩
theorem lw_p81 : lw_okq (⟨"BeamPlateModel", "cuts", "(I)Z"⟩, 74) := ⟨⟨by decide +kernel, by decide +kernel⟩, List.mem_of_getElem? (i := 985) (by decide +kernel), List.mem_of_getElem? (i := 1408) (by decide +kernel), List.mem_of_getElem? (i := 1409) (by decide +kernel)⟩
theorem lw_p82 : lw_okq (⟨"BeamPlateModel", "goesAway", "(III)V"⟩, 74) := ⟨⟨by decide +kernel, by decide +kernel⟩, List.mem_of_getElem? (i := 985) (by decide +kernel), List.mem_of_getElem? (i := 1412) (by decide +kernel), List.mem_of_getElem? (i := 1413) (by decide +kernel)⟩
theorem lw_p83 : lw_okq (⟨"BeamPlateModel", "loosens", "(I)V"⟩, 74) := ⟨⟨by decide +kernel, by decide +kernel⟩, List.mem_of_getElem? (i := 985) (by decide +kernel), List.mem_of_getElem? (i := 1416) (by decide +kernel), List.mem_of_getElem? (i := 1417) (by decide +kernel)⟩
theorem lw_p84 : lw_okq (⟨"BeamPlateModel", "findsParts", "(I)V"⟩, 74) := ⟨⟨by decide +kernel, by decide +kernel⟩, List.mem_of_getElem? (i := 985) (by decide +kernel), List.mem_of_getElem? (i := 1420) (by decide +kernel), List.mem_of_getElem? (i := 1421) (by decide +kernel)⟩
theorem lw_p85 : lw_okq (⟨"BeamPlateModel", "spreads", "(II)V"⟩, 74) := ⟨⟨by decide +kernel, by decide +kernel⟩, List.mem_of_getElem? (i := 985) (by decide +kernel), List.mem_of_getElem? (i := 1424) (by decide +kernel), List.mem_of_getElem? (i := 1425) (by decide +kernel)⟩
theorem lw_p86 : lw_okq (⟨"BeamPlateModel", "lying", "(I)I"⟩, 74) := ⟨⟨by decide +kernel, by decide +kernel⟩, List.mem_of_getElem? (i := 985) (by decide +kernel), List.mem_of_getElem? (i := 1428) (by decide +kernel), List.mem_of_getElem? (i := 1429) (by decide +kernel)⟩
theorem lw_p87 : lw_okq (⟨"BeamPlateModel", "bridgeOf", "(II)I"⟩, 74) := ⟨⟨by decide +kernel, by decide +kernel⟩, List.mem_of_getElem? (i := 985) (by decide +kernel), List.mem_of_getElem? (i := 1436) (by decide +kernel), List.mem_of_getElem? (i := 1437) (by decide +kernel)⟩
theorem lw_p88 : lw_okq (⟨"BeamPlateModel", "cellsAs", "(II)I"⟩, 74) := ⟨⟨by decide +kernel, by decide +kernel⟩, List.mem_of_getElem? (i := 985) (by decide +kernel), List.mem_of_getElem? (i := 1444) (by decide +kernel), List.mem_of_getElem? (i := 1445) (by decide +kernel)⟩
theorem lw_p89 : lw_okq (⟨"BeamPlateModel", "ones", "(I)I"⟩, 74) := ⟨⟨by decide +kernel, by decide +kernel⟩, List.mem_of_getElem? (i := 985) (by decide +kernel), List.mem_of_getElem? (i := 1457) (by decide +kernel), List.mem_of_getElem? (i := 1458) (by decide +kernel)⟩
theorem lw_p90 : lw_okq (⟨"BeamPlateModel", "isOrder", "(III)Z"⟩, 74) := ⟨⟨by decide +kernel, by decide +kernel⟩, List.mem_of_getElem? (i := 985) (by decide +kernel), List.mem_of_getElem? (i := 1461) (by decide +kernel), List.mem_of_getElem? (i := 1462) (by decide +kernel)⟩
theorem lw_p91 : lw_okq (⟨"BeamPlateModel", "copies", "()V"⟩, 74) := ⟨⟨by decide +kernel, by decide +kernel⟩, List.mem_of_getElem? (i := 985) (by decide +kernel), List.mem_of_getElem? (i := 1465) (by decide +kernel), List.mem_of_getElem? (i := 1466) (by decide +kernel)⟩
theorem lw_p92 : lw_okq (⟨"BeamPlateModel", "cutsThrough", "(III)Z"⟩, 74) := ⟨⟨by decide +kernel, by decide +kernel⟩, List.mem_of_getElem? (i := 985) (by decide +kernel), List.mem_of_getElem? (i := 1473) (by decide +kernel), List.mem_of_getElem? (i := 1474) (by decide +kernel)⟩
theorem lw_p93 : lw_okq (⟨"BeamPlateModel", "mostOf", "(II)I"⟩, 74) := ⟨⟨by decide +kernel, by decide +kernel⟩, List.mem_of_getElem? (i := 985) (by decide +kernel), List.mem_of_getElem? (i := 1485) (by decide +kernel), List.mem_of_getElem? (i := 1486) (by decide +kernel)⟩
def lw_privs_6 : List (MethodName × Nat) := [(⟨"BeamPlateModel", "flowFrom", "(IIII)I"⟩, 74), (⟨"BeamPlateModel", "cuts", "(I)Z"⟩, 74), (⟨"BeamPlateModel", "goesAway", "(III)V"⟩, 74), (⟨"BeamPlateModel", "loosens", "(I)V"⟩, 74), (⟨"BeamPlateModel", "findsParts", "(I)V"⟩, 74), (⟨"BeamPlateModel", "spreads", "(II)V"⟩, 74), (⟨"BeamPlateModel", "lying", "(I)I"⟩, 74), (⟨"BeamPlateModel", "bridgeOf", "(II)I"⟩, 74), (⟨"BeamPlateModel", "cellsAs", "(II)I"⟩, 74), (⟨"BeamPlateModel", "ones", "(I)I"⟩, 74), (⟨"BeamPlateModel", "isOrder", "(III)Z"⟩, 74), (⟨"BeamPlateModel", "copies", "()V"⟩, 74), (⟨"BeamPlateModel", "cutsThrough", "(III)Z"⟩, 74), (⟨"BeamPlateModel", "mostOf", "(II)I"⟩, 74)]
theorem lw_r6 : ∀ q ∈ lw_privs_6, lw_okq q := List.forall_mem_cons.mpr ⟨lw_p80, List.forall_mem_cons.mpr ⟨lw_p81, List.forall_mem_cons.mpr ⟨lw_p82, List.forall_mem_cons.mpr ⟨lw_p83, List.forall_mem_cons.mpr ⟨lw_p84, List.forall_mem_cons.mpr ⟨lw_p85, List.forall_mem_cons.mpr ⟨lw_p86, List.forall_mem_cons.mpr ⟨lw_p87, List.forall_mem_cons.mpr ⟨lw_p88, List.forall_mem_cons.mpr ⟨lw_p89, List.forall_mem_cons.mpr ⟨lw_p90, List.forall_mem_cons.mpr ⟨lw_p91, List.forall_mem_cons.mpr ⟨lw_p92, List.forall_mem_cons.mpr ⟨lw_p93, fun _ h => absurd h List.not_mem_nil⟩⟩⟩⟩⟩⟩⟩⟩⟩⟩⟩⟩⟩⟩
def lw_privs : List (MethodName × Nat) := lw_privs_1 ++ (lw_privs_2 ++ (lw_privs_3 ++ (lw_privs_4 ++ (lw_privs_5 ++ (lw_privs_6)))))
def lw_tbl : List Cond := k2_sels lw_privs ++ tables_1
theorem lw_privs_ok : ∀ q ∈ lw_privs, lw_okq q := by
  show ∀ q ∈ lw_privs_1 ++ (lw_privs_2 ++ (lw_privs_3 ++ (lw_privs_4 ++ (lw_privs_5 ++ (lw_privs_6))))), lw_okq q
  exact List.forall_mem_append.mpr ⟨lw_r1, List.forall_mem_append.mpr ⟨lw_r2, List.forall_mem_append.mpr ⟨lw_r3, List.forall_mem_append.mpr ⟨lw_r4, List.forall_mem_append.mpr ⟨lw_r5, lw_r6⟩⟩⟩⟩⟩
/-! ===== BEGIN words of one list among another's, by their places ===== -/
theorem goodIn_r {big : List Cond} (ws : List Cond) (ps : List Nat) (hp : ws = ps.filterMap (fun i => big[i]?)) (h : ws.all goodWord = true) : GoodIn big ws := by
  intro w hw
  have h1 := List.all_eq_true.mp h w hw
  rw [hp] at hw
  obtain ⟨i, -, hi⟩ := List.mem_filterMap.mp hw
  have hm : w ∈ big := by first | exact List.mem_of_getElem? hi | exact List.getElem?_mem hi
  exact ⟨hm, good_of_word h1⟩
theorem goodIn_app {big a b : List Cond} (ha : GoodIn big a) (hb : GoodIn big b) : GoodIn big (a ++ b) := fun w h => (List.mem_append.mp h).elim (ha w) (hb w)
theorem goodIn_ca {big a b : List Cond} {c : Cond} (ha : GoodIn big (c :: a)) (hb : GoodIn big b) : GoodIn big (c :: (a ++ b)) := fun w h => (List.mem_cons.mp h).elim (fun e => ha w (List.mem_cons.mpr (Or.inl e))) (fun h => (List.mem_append.mp h).elim (fun h => ha w (List.mem_cons.mpr (Or.inr h))) (hb w))
theorem goodIn_sub {big ws : List Cond} (hm : ∀ w ∈ ws, w ∈ big) (h : ws.all goodWord = true) : GoodIn big ws := fun w hw => ⟨hm w hw, good_of_word (List.all_eq_true.mp h w hw)⟩
/-! ===== END ===== -/

/-! ===== BEGIN printed: names, fields, word lists, decode rows ===== -/
def RX0 : String := "BeamPlate$Filling"
def TX0 : u_T := fun k => match k with
  | 0 => ("BeamPlate$Filling", "wides", "[I", true)
  | 1 => ("BeamPlate$Filling", "highs", "[I", true)
  | 2 => ("BeamPlate$Filling", "worths", "[I", true)
  | 3 => ("BeamPlate$Filling", "best", "[I", true)
  | _ => ("BeamPlate$Filling", "kinds", "I", false)
def tyX0 : Nat → FieldType := fun k => match k with
  | 0 => .array .int
  | 1 => .array .int
  | 2 => .array .int
  | 3 => .array .int
  | _ => .int
abbrev wsX00 : List Cond := u_ws RX0 TX0 5
theorem nmX0 : ∀ a, a < 5 → ∀ b, b < 5 → a ≠ b → (TX0 a).2.1 ≠ (TX0 b).2.1 := by decide +kernel
theorem tyX0_ok : ∀ k, k < 5 → parseFieldDescriptor (TX0 k).2.2.1 = some (tyX0 k) := by decide +kernel
abbrev cX0_init : ByteArray := prog_2_method_1_code
def yX0_init : MethodName := ⟨RX0, "<init>", "()V"⟩
abbrev cX0_addKind : ByteArray := prog_2_method_2_code
def yX0_addKind : MethodName := ⟨RX0, "addKind", "(III)I"⟩
abbrev cX0_greatestWorth : ByteArray := prog_2_method_3_code
def yX0_greatestWorth : MethodName := ⟨RX0, "greatestWorth", "(II)I"⟩
abbrev cX0_fillAll : ByteArray := prog_2_method_4_code
def yX0_fillAll : MethodName := ⟨RX0, "fillAll", "()V"⟩
abbrev cX0_bestKind : ByteArray := prog_2_method_5_code
def yX0_bestKind : MethodName := ⟨RX0, "bestKind", "(II)I"⟩
abbrev cX0_bestCut : ByteArray := prog_2_method_6_code
def yX0_bestCut : MethodName := ⟨RX0, "bestCut", "(II)I"⟩
def RX1 : String := "BeamPlate$Head"
def TX1 : u_T := fun k => match k with
  | 0 => ("BeamPlate$Head", "x", "I", false)
  | 1 => ("BeamPlate$Head", "y", "I", false)
  | 2 => ("BeamPlate$Head", "on", "Z", false)
  | 3 => ("BeamPlate$Head", "speed", "I", false)
  | _ => ("BeamPlate$Head", "hits", "I", false)
def tyX1 : Nat → FieldType := fun k => match k with
  | 0 => .int
  | 1 => .int
  | 2 => .boolean
  | 3 => .int
  | _ => .int
abbrev wsX10 : List Cond := u_ws RX1 TX1 5
theorem nmX1 : ∀ a, a < 5 → ∀ b, b < 5 → a ≠ b → (TX1 a).2.1 ≠ (TX1 b).2.1 := by decide +kernel
theorem tyX1_ok : ∀ k, k < 5 → parseFieldDescriptor (TX1 k).2.2.1 = some (tyX1 k) := by decide +kernel
abbrev cX1_init : ByteArray := prog_3_method_1_code
def yX1_init : MethodName := ⟨RX1, "<init>", "()V"⟩
abbrev cX1_renew : ByteArray := prog_3_method_2_code
def yX1_renew : MethodName := ⟨RX1, "renew", "()V"⟩
abbrev cX1_copyFrom : ByteArray := prog_3_method_3_code
def yX1_copyFrom : MethodName := ⟨RX1, "copyFrom", "(LBeamPlate$Head;)V"⟩
def RX2 : String := "BeamPlate$Part"
def TX2 : u_T := fun k => match k with
  | 0 => ("BeamPlate$Part", "cells", "[I", true)
  | 1 => ("BeamPlate$Part", "seen", "[I", true)
  | 2 => ("BeamPlate$Part", "size", "I", false)
  | 3 => ("BeamPlate$Part", "sumX", "I", false)
  | _ => ("BeamPlate$Part", "held", "Z", false)
def tyX2 : Nat → FieldType := fun k => match k with
  | 0 => .array .int
  | 1 => .array .int
  | 2 => .int
  | 3 => .int
  | _ => .boolean
abbrev wsX20 : List Cond := u_ws RX2 TX2 5
theorem nmX2 : ∀ a, a < 5 → ∀ b, b < 5 → a ≠ b → (TX2 a).2.1 ≠ (TX2 b).2.1 := by decide +kernel
theorem tyX2_ok : ∀ k, k < 5 → parseFieldDescriptor (TX2 k).2.2.1 = some (tyX2 k) := by decide +kernel
abbrev cX2_init : ByteArray := prog_4_method_1_code
def yX2_init : MethodName := ⟨RX2, "<init>", "()V"⟩
abbrev cX2_forgetSeen : ByteArray := prog_4_method_2_code
def yX2_forgetSeen : MethodName := ⟨RX2, "forgetSeen", "()V"⟩
abbrev cX2_gather : ByteArray := prog_4_method_3_code
def yX2_gather : MethodName := ⟨RX2, "gather", "(LBeamPlate$Plate;I)V"⟩
abbrev cX2_take : ByteArray := prog_4_method_4_code
def yX2_take : MethodName := ⟨RX2, "take", "(LBeamPlate$Plate;I)V"⟩
def RX3 : String := "BeamPlate$Plate"
def TX3 : u_T := fun k => match k with
  | 0 => ("BeamPlate$Plate", "wide", "I", false)
  | 1 => ("BeamPlate$Plate", "high", "I", false)
  | 2 => ("BeamPlate$Plate", "area", "I", false)
  | 3 => ("BeamPlate$Plate", "stuff", "I", false)
  | 4 => ("BeamPlate$Plate", "thick", "I", false)
  | 5 => ("BeamPlate$Plate", "ticks", "I", false)
  | 6 => ("BeamPlate$Plate", "spentRuns", "I", false)
  | 7 => ("BeamPlate$Plate", "given", "J", false)
  | 8 => ("BeamPlate$Plate", "lostHeat", "J", false)
  | 9 => ("BeamPlate$Plate", "carried", "J", false)
  | 10 => ("BeamPlate$Plate", "head", "LBeamPlate$Head;", true)
  | 11 => ("BeamPlate$Plate", "heat", "[I", true)
  | 12 => ("BeamPlate$Plate", "state", "[I", true)
  | 13 => ("BeamPlate$Plate", "burnt", "[I", true)
  | 14 => ("BeamPlate$Plate", "tipped", "[I", true)
  | 15 => ("BeamPlate$Plate", "inflow", "[I", true)
  | 16 => ("BeamPlate$Plate", "costs", "[I", true)
  | _ => ("BeamPlate$Plate", "part", "LBeamPlate$Part;", true)
def tyX3 : Nat → FieldType := fun k => match k with
  | 0 => .int
  | 1 => .int
  | 2 => .int
  | 3 => .int
  | 4 => .int
  | 5 => .int
  | 6 => .int
  | 7 => .long
  | 8 => .long
  | 9 => .long
  | 10 => .object "BeamPlate$Head"
  | 11 => .array .int
  | 12 => .array .int
  | 13 => .array .int
  | 14 => .array .int
  | 15 => .array .int
  | 16 => .array .int
  | _ => .object "BeamPlate$Part"
abbrev wsX30 : List Cond := u_ws RX3 TX3 18
theorem nmX3 : ∀ a, a < 18 → ∀ b, b < 18 → a ≠ b → (TX3 a).2.1 ≠ (TX3 b).2.1 := by decide +kernel
theorem tyX3_ok : ∀ k, k < 18 → parseFieldDescriptor (TX3 k).2.2.1 = some (tyX3 k) := by decide +kernel
abbrev cX3_init : ByteArray := prog_5_method_1_code
def yX3_init : MethodName := ⟨RX3, "<init>", "()V"⟩
abbrev cX3_renew : ByteArray := prog_5_method_2_code
def yX3_renew : MethodName := ⟨RX3, "renew", "(IIII)V"⟩
abbrev cX3_copyFrom : ByteArray := prog_5_method_3_code
def yX3_copyFrom : MethodName := ⟨RX3, "copyFrom", "(LBeamPlate$Plate;)V"⟩
abbrev cX3_isLaid : ByteArray := prog_5_method_4_code
def yX3_isLaid : MethodName := ⟨RX3, "isLaid", "()Z"⟩
abbrev cX3_has : ByteArray := prog_5_method_5_code
def yX3_has : MethodName := ⟨RX3, "has", "(II)Z"⟩
abbrev cX3_isBorder : ByteArray := prog_5_method_6_code
def yX3_isBorder : MethodName := ⟨RX3, "isBorder", "(II)Z"⟩
abbrev cX3_index : ByteArray := prog_5_method_7_code
def yX3_index : MethodName := ⟨RX3, "index", "(II)I"⟩
abbrev cX3_headPlace : ByteArray := prog_5_method_8_code
def yX3_headPlace : MethodName := ⟨RX3, "headPlace", "()I"⟩
abbrev cX3_isThere : ByteArray := prog_5_method_9_code
def yX3_isThere : MethodName := ⟨RX3, "isThere", "(I)Z"⟩
abbrev cX3_moveHead : ByteArray := prog_5_method_10_code
def yX3_moveHead : MethodName := ⟨RX3, "moveHead", "(II)Z"⟩
abbrev cX3_tick : ByteArray := prog_5_method_11_code
def yX3_tick : MethodName := ⟨RX3, "tick", "(LBeamPlate$Works;)V"⟩
abbrev cX3_giveHeat : ByteArray := prog_5_method_12_code
def yX3_giveHeat : MethodName := ⟨RX3, "giveHeat", "(I)V"⟩
abbrev cX3_leadHeat : ByteArray := prog_5_method_13_code
def yX3_leadHeat : MethodName := ⟨RX3, "leadHeat", "(I)V"⟩
abbrev cX3_leadBetween : ByteArray := prog_5_method_14_code
def yX3_leadBetween : MethodName := ⟨RX3, "leadBetween", "(III)V"⟩
abbrev cX3_loseHeat : ByteArray := prog_5_method_15_code
def yX3_loseHeat : MethodName := ⟨RX3, "loseHeat", "(I)V"⟩
abbrev cX3_cutMolten : ByteArray := prog_5_method_16_code
def yX3_cutMolten : MethodName := ⟨RX3, "cutMolten", "(I)Z"⟩
abbrev cX3_takeAway : ByteArray := prog_5_method_17_code
def yX3_takeAway : MethodName := ⟨RX3, "takeAway", "(II)V"⟩
abbrev cX3_burnHot : ByteArray := prog_5_method_18_code
def yX3_burnHot : MethodName := ⟨RX3, "burnHot", "(I)V"⟩
abbrev cX3_loosenParts : ByteArray := prog_5_method_19_code
def yX3_loosenParts : MethodName := ⟨RX3, "loosenParts", "(LBeamPlate$Works;)V"⟩
abbrev cX3_settlePart : ByteArray := prog_5_method_20_code
def yX3_settlePart : MethodName := ⟨RX3, "settlePart", "(LBeamPlate$Works;)V"⟩
abbrev cX3_condition : ByteArray := prog_5_method_21_code
def yX3_condition : MethodName := ⟨RX3, "condition", "(I)I"⟩
abbrev cX3_countState : ByteArray := prog_5_method_22_code
def yX3_countState : MethodName := ⟨RX3, "countState", "(I)I"⟩
abbrev cX3_countTipped : ByteArray := prog_5_method_23_code
def yX3_countTipped : MethodName := ⟨RX3, "countTipped", "()I"⟩
abbrev cX3_countBurntThere : ByteArray := prog_5_method_24_code
def yX3_countBurntThere : MethodName := ⟨RX3, "countBurntThere", "()I"⟩
abbrev cX3_countParts : ByteArray := prog_5_method_25_code
def yX3_countParts : MethodName := ⟨RX3, "countParts", "(Z)I"⟩
abbrev cX3_partAt : ByteArray := prog_5_method_26_code
def yX3_partAt : MethodName := ⟨RX3, "partAt", "(I)LBeamPlate$Part;"⟩
abbrev cX3_bridge : ByteArray := prog_5_method_27_code
def yX3_bridge : MethodName := ⟨RX3, "bridge", "(I)I"⟩
abbrev cX3_spreadCosts : ByteArray := prog_5_method_28_code
def yX3_spreadCosts : MethodName := ⟨RX3, "spreadCosts", "()Z"⟩
abbrev cX3_costAt : ByteArray := prog_5_method_29_code
def yX3_costAt : MethodName := ⟨RX3, "costAt", "(II)I"⟩
abbrev cX3_heatInAll : ByteArray := prog_5_method_30_code
def yX3_heatInAll : MethodName := ⟨RX3, "heatInAll", "()J"⟩
def RX4 : String := "BeamPlate$Reader"
def TX4 : u_T := fun k => match k with
  | 0 => ("BeamPlate$Reader", "program", "LBeamPlate$Row;", true)
  | 1 => ("BeamPlate$Reader", "fault", "I", false)
  | 2 => ("BeamPlate$Reader", "faultPlace", "I", false)
  | 3 => ("BeamPlate$Reader", "tokens", "LBeamPlate$Tokens;", true)
  | 4 => ("BeamPlate$Reader", "current", "I", false)
  | 5 => ("BeamPlate$Reader", "token", "I", false)
  | 6 => ("BeamPlate$Reader", "openWords", "LBeamPlate$Row;", true)
  | _ => ("BeamPlate$Reader", "openStarts", "LBeamPlate$Row;", true)
def tyX4 : Nat → FieldType := fun k => match k with
  | 0 => .object "BeamPlate$Row"
  | 1 => .int
  | 2 => .int
  | 3 => .object "BeamPlate$Tokens"
  | 4 => .int
  | 5 => .int
  | 6 => .object "BeamPlate$Row"
  | _ => .object "BeamPlate$Row"
abbrev wsX40 : List Cond := u_ws RX4 TX4 8
theorem nmX4 : ∀ a, a < 8 → ∀ b, b < 8 → a ≠ b → (TX4 a).2.1 ≠ (TX4 b).2.1 := by decide +kernel
theorem tyX4_ok : ∀ k, k < 8 → parseFieldDescriptor (TX4 k).2.2.1 = some (tyX4 k) := by decide +kernel
abbrev cX4_init : ByteArray := prog_6_method_1_code
def yX4_init : MethodName := ⟨RX4, "<init>", "()V"⟩
abbrev cX4_read : ByteArray := prog_6_method_2_code
def yX4_read : MethodName := ⟨RX4, "read", "(LBeamPlate$Row;)Z"⟩
abbrev cX4_fail : ByteArray := prog_6_method_3_code
def yX4_fail : MethodName := ⟨RX4, "fail", "(I)V"⟩
abbrev cX4_advance : ByteArray := prog_6_method_4_code
def yX4_advance : MethodName := ⟨RX4, "advance", "()V"⟩
abbrev cX4_expect : ByteArray := prog_6_method_5_code
def yX4_expect : MethodName := ⟨RX4, "expect", "(I)V"⟩
abbrev cX4_innermost : ByteArray := prog_6_method_6_code
def yX4_innermost : MethodName := ⟨RX4, "innermost", "()I"⟩
abbrev cX4_readStep : ByteArray := prog_6_method_7_code
def yX4_readStep : MethodName := ⟨RX4, "readStep", "()V"⟩
abbrev cX4_closeStep : ByteArray := prog_6_method_8_code
def yX4_closeStep : MethodName := ⟨RX4, "closeStep", "()V"⟩
abbrev cX4_dropInnermost : ByteArray := prog_6_method_9_code
def yX4_dropInnermost : MethodName := ⟨RX4, "dropInnermost", "()V"⟩
abbrev cX4_openAgain : ByteArray := prog_6_method_10_code
def yX4_openAgain : MethodName := ⟨RX4, "openAgain", "()V"⟩
abbrev cX4_closeAgain : ByteArray := prog_6_method_11_code
def yX4_closeAgain : MethodName := ⟨RX4, "closeAgain", "()V"⟩
abbrev cX4_openIf : ByteArray := prog_6_method_12_code
def yX4_openIf : MethodName := ⟨RX4, "openIf", "()V"⟩
abbrev cX4_readSum : ByteArray := prog_6_method_13_code
def yX4_readSum : MethodName := ⟨RX4, "readSum", "()I"⟩
abbrev cX4_readTerm : ByteArray := prog_6_method_14_code
def yX4_readTerm : MethodName := ⟨RX4, "readTerm", "(Z)V"⟩
abbrev cX4_readNumber : ByteArray := prog_6_method_15_code
def yX4_readNumber : MethodName := ⟨RX4, "readNumber", "(II)V"⟩
abbrev cX4_readSide : ByteArray := prog_6_method_16_code
def yX4_readSide : MethodName := ⟨RX4, "readSide", "()V"⟩
def RX5 : String := "BeamPlate$Row"
def TX5 : u_T := fun k => match k with
  | 0 => ("BeamPlate$Row", "items", "[I", true)
  | _ => ("BeamPlate$Row", "size", "I", false)
def tyX5 : Nat → FieldType := fun k => match k with
  | 0 => .array .int
  | _ => .int
abbrev wsX50 : List Cond := u_ws RX5 TX5 2
theorem nmX5 : ∀ a, a < 2 → ∀ b, b < 2 → a ≠ b → (TX5 a).2.1 ≠ (TX5 b).2.1 := by decide +kernel
theorem tyX5_ok : ∀ k, k < 2 → parseFieldDescriptor (TX5 k).2.2.1 = some (tyX5 k) := by decide +kernel
abbrev cX5_init : ByteArray := prog_7_method_1_code
def yX5_init : MethodName := ⟨RX5, "<init>", "(I)V"⟩
abbrev cX5_add : ByteArray := prog_7_method_2_code
def yX5_add : MethodName := ⟨RX5, "add", "(I)V"⟩
abbrev cX5_addBytes : ByteArray := prog_7_method_3_code
def yX5_addBytes : MethodName := ⟨RX5, "addBytes", "(I)V"⟩
abbrev cX5_put : ByteArray := prog_7_method_4_code
def yX5_put : MethodName := ⟨RX5, "put", "(II)V"⟩
abbrev cX5_at : ByteArray := prog_7_method_5_code
def yX5_at : MethodName := ⟨RX5, "at", "(I)I"⟩
abbrev cX5_copyFrom : ByteArray := prog_7_method_6_code
def yX5_copyFrom : MethodName := ⟨RX5, "copyFrom", "(LBeamPlate$Row;)V"⟩
abbrev cX5_firstRunBelow : ByteArray := prog_7_method_7_code
def yX5_firstRunBelow : MethodName := ⟨RX5, "firstRunBelow", "(II)I"⟩
def RX6 : String := "BeamPlate$Runner"
def TX6 : u_T := fun k => match k with
  | 0 => ("BeamPlate$Runner", "turnsLeft", "[I", true)
  | 1 => ("BeamPlate$Runner", "costLeft", "I", false)
  | _ => ("BeamPlate$Runner", "ticksAhead", "I", false)
def tyX6 : Nat → FieldType := fun k => match k with
  | 0 => .array .int
  | 1 => .int
  | _ => .int
abbrev wsX60 : List Cond := u_ws RX6 TX6 3
theorem nmX6 : ∀ a, a < 3 → ∀ b, b < 3 → a ≠ b → (TX6 a).2.1 ≠ (TX6 b).2.1 := by decide +kernel
theorem tyX6_ok : ∀ k, k < 3 → parseFieldDescriptor (TX6 k).2.2.1 = some (tyX6 k) := by decide +kernel
abbrev cX6_init : ByteArray := prog_8_method_1_code
def yX6_init : MethodName := ⟨RX6, "<init>", "()V"⟩
abbrev cX6_perform : ByteArray := prog_8_method_2_code
def yX6_perform : MethodName := ⟨RX6, "perform", "(LBeamPlate$Row;LBeamPlate$Plate;LBeamPlate$Works;)I"⟩
abbrev cX6_turns : ByteArray := prog_8_method_3_code
def yX6_turns : MethodName := ⟨RX6, "turns", "(I)I"⟩
abbrev cX6_setTurns : ByteArray := prog_8_method_4_code
def yX6_setTurns : MethodName := ⟨RX6, "setTurns", "(II)V"⟩
abbrev cX6_travel : ByteArray := prog_8_method_5_code
def yX6_travel : MethodName := ⟨RX6, "travel", "(LBeamPlate$Plate;LBeamPlate$Works;II)V"⟩
abbrev cX6_stay : ByteArray := prog_8_method_6_code
def yX6_stay : MethodName := ⟨RX6, "stay", "(LBeamPlate$Plate;LBeamPlate$Works;I)V"⟩
abbrev cX6_stepOfIf : ByteArray := prog_8_method_7_code
def yX6_stepOfIf : MethodName := ⟨RX6, "stepOfIf", "(LBeamPlate$Row;I)I"⟩
abbrev cX6_isSo : ByteArray := prog_8_method_8_code
def yX6_isSo : MethodName := ⟨RX6, "isSo", "(LBeamPlate$Row;ILBeamPlate$Plate;)Z"⟩
abbrev cX6_sum : ByteArray := prog_8_method_9_code
def yX6_sum : MethodName := ⟨RX6, "sum", "(LBeamPlate$Row;IILBeamPlate$Plate;)J"⟩
abbrev cX6_valueOf : ByteArray := prog_8_method_10_code
def yX6_valueOf : MethodName := ⟨RX6, "valueOf", "(IILBeamPlate$Plate;)I"⟩
def RX7 : String := "BeamPlate$TestBook"
def TX7 : u_T := fun k => match k with
  | 0 => ("BeamPlate$TestBook", "stuffs", "[I", true)
  | 1 => ("BeamPlate$TestBook", "heats", "[I", true)
  | 2 => ("BeamPlate$TestBook", "days", "[I", true)
  | 3 => ("BeamPlate$TestBook", "cuts", "[Z", true)
  | 4 => ("BeamPlate$TestBook", "count", "I", false)
  | _ => ("BeamPlate$TestBook", "latestDay", "I", false)
def tyX7 : Nat → FieldType := fun k => match k with
  | 0 => .array .int
  | 1 => .array .int
  | 2 => .array .int
  | 3 => .array .boolean
  | 4 => .int
  | _ => .int
abbrev wsX70 : List Cond := u_ws RX7 TX7 6
theorem nmX7 : ∀ a, a < 6 → ∀ b, b < 6 → a ≠ b → (TX7 a).2.1 ≠ (TX7 b).2.1 := by decide +kernel
theorem tyX7_ok : ∀ k, k < 6 → parseFieldDescriptor (TX7 k).2.2.1 = some (tyX7 k) := by decide +kernel
abbrev cX7_init : ByteArray := prog_9_method_1_code
def yX7_init : MethodName := ⟨RX7, "<init>", "()V"⟩
abbrev cX7_tell : ByteArray := prog_9_method_2_code
def yX7_tell : MethodName := ⟨RX7, "tell", "(IIZI)Z"⟩
abbrev cX7_leastMelt : ByteArray := prog_9_method_3_code
def yX7_leastMelt : MethodName := ⟨RX7, "leastMelt", "(II)I"⟩
abbrev cX7_greatestMelt : ByteArray := prog_9_method_4_code
def yX7_greatestMelt : MethodName := ⟨RX7, "greatestMelt", "(II)I"⟩
def RX8 : String := "BeamPlate$Tokens"
def TX8 : u_T := fun k => match k with
  | 0 => ("BeamPlate$Tokens", "kinds", "LBeamPlate$Row;", true)
  | 1 => ("BeamPlate$Tokens", "places", "LBeamPlate$Row;", true)
  | _ => ("BeamPlate$Tokens", "values", "LBeamPlate$Row;", true)
def tyX8 : Nat → FieldType := fun k => match k with
  | 0 => .object "BeamPlate$Row"
  | 1 => .object "BeamPlate$Row"
  | _ => .object "BeamPlate$Row"
abbrev wsX80 : List Cond := u_ws RX8 TX8 3
theorem nmX8 : ∀ a, a < 3 → ∀ b, b < 3 → a ≠ b → (TX8 a).2.1 ≠ (TX8 b).2.1 := by decide +kernel
theorem tyX8_ok : ∀ k, k < 3 → parseFieldDescriptor (TX8 k).2.2.1 = some (tyX8 k) := by decide +kernel
abbrev cX8_init : ByteArray := prog_10_method_1_code
def yX8_init : MethodName := ⟨RX8, "<init>", "()V"⟩
abbrev cX8_takeApart : ByteArray := prog_10_method_2_code
def yX8_takeApart : MethodName := ⟨RX8, "takeApart", "(LBeamPlate$Row;)V"⟩
abbrev cX8_keep : ByteArray := prog_10_method_3_code
def yX8_keep : MethodName := ⟨RX8, "keep", "(III)V"⟩
abbrev cX8_takeWord : ByteArray := prog_10_method_4_code
def yX8_takeWord : MethodName := ⟨RX8, "takeWord", "(LBeamPlate$Row;I)I"⟩
abbrev cX8_takeNumber : ByteArray := prog_10_method_5_code
def yX8_takeNumber : MethodName := ⟨RX8, "takeNumber", "(LBeamPlate$Row;I)I"⟩
abbrev cX8_kindOfSign : ByteArray := prog_10_method_6_code
def yX8_kindOfSign : MethodName := ⟨RX8, "kindOfSign", "(I)I"⟩
abbrev cX8_kindOfWord : ByteArray := prog_10_method_7_code
def yX8_kindOfWord : MethodName := ⟨RX8, "kindOfWord", "(LBeamPlate$Row;II)I"⟩
abbrev cX8_isLetter : ByteArray := prog_10_method_8_code
def yX8_isLetter : MethodName := ⟨RX8, "isLetter", "(I)Z"⟩
abbrev cX8_isDigit : ByteArray := prog_10_method_9_code
def yX8_isDigit : MethodName := ⟨RX8, "isDigit", "(I)Z"⟩
abbrev cX8_isBlank : ByteArray := prog_10_method_10_code
def yX8_isBlank : MethodName := ⟨RX8, "isBlank", "(I)Z"⟩
def RX9 : String := "BeamPlate$Trials"
def TX9 : u_T := fun k => match k with
  | 0 => ("BeamPlate$Trials", "bestBurnt", "I", false)
  | 1 => ("BeamPlate$Trials", "bestTicks", "I", false)
  | 2 => ("BeamPlate$Trials", "bestOrder", "I", false)
  | 3 => ("BeamPlate$Trials", "runner", "LBeamPlate$Runner;", true)
  | 4 => ("BeamPlate$Trials", "sweep", "LBeamPlate$Row;", true)
  | 5 => ("BeamPlate$Trials", "like", "LBeamPlate$Plate;", true)
  | _ => ("BeamPlate$Trials", "chosen", "[I", true)
def tyX9 : Nat → FieldType := fun k => match k with
  | 0 => .int
  | 1 => .int
  | 2 => .int
  | 3 => .object "BeamPlate$Runner"
  | 4 => .object "BeamPlate$Row"
  | 5 => .object "BeamPlate$Plate"
  | _ => .array .int
abbrev wsX90 : List Cond := u_ws RX9 TX9 7
theorem nmX9 : ∀ a, a < 7 → ∀ b, b < 7 → a ≠ b → (TX9 a).2.1 ≠ (TX9 b).2.1 := by decide +kernel
theorem tyX9_ok : ∀ k, k < 7 → parseFieldDescriptor (TX9 k).2.2.1 = some (tyX9 k) := by decide +kernel
abbrev cX9_init : ByteArray := prog_11_method_1_code
def yX9_init : MethodName := ⟨RX9, "<init>", "()V"⟩
abbrev cX9_seekOrder : ByteArray := prog_11_method_2_code
def yX9_seekOrder : MethodName := ⟨RX9, "seekOrder", "(LBeamPlate$Works;LBeamPlate$Plate;I)V"⟩
abbrev cX9_choose : ByteArray := prog_11_method_3_code
def yX9_choose : MethodName := ⟨RX9, "choose", "(I)I"⟩
abbrev cX9_ordersJust : ByteArray := prog_11_method_4_code
def yX9_ordersJust : MethodName := ⟨RX9, "ordersJust", "(II)Z"⟩
abbrev cX9_keepIfBetter : ByteArray := prog_11_method_5_code
def yX9_keepIfBetter : MethodName := ⟨RX9, "keepIfBetter", "(III)V"⟩
abbrev cX9_leastSpeed : ByteArray := prog_11_method_6_code
def yX9_leastSpeed : MethodName := ⟨RX9, "leastSpeed", "(LBeamPlate$Works;LBeamPlate$Plate;II)I"⟩
abbrev cX9_noneIsThereBehind : ByteArray := prog_11_method_7_code
def yX9_noneIsThereBehind : MethodName := ⟨RX9, "noneIsThereBehind", "(II)Z"⟩
def RX10 : String := "BeamPlate$Works"
def TX10 : u_T := fun k => match k with
  | 0 => ("BeamPlate$Works", "melts", "[I", true)
  | 1 => ("BeamPlate$Works", "leads", "[I", true)
  | 2 => ("BeamPlate$Works", "losses", "[I", true)
  | 3 => ("BeamPlate$Works", "burns", "[I", true)
  | 4 => ("BeamPlate$Works", "strength", "I", false)
  | 5 => ("BeamPlate$Works", "gas", "Z", false)
  | 6 => ("BeamPlate$Works", "slatPitch", "I", false)
  | _ => ("BeamPlate$Works", "programs", "[LBeamPlate$Row;", true)
def tyX10 : Nat → FieldType := fun k => match k with
  | 0 => .array .int
  | 1 => .array .int
  | 2 => .array .int
  | 3 => .array .int
  | 4 => .int
  | 5 => .boolean
  | 6 => .int
  | _ => .array (.object "BeamPlate$Row")
abbrev wsX100 : List Cond := u_ws RX10 TX10 8
theorem nmX10 : ∀ a, a < 8 → ∀ b, b < 8 → a ≠ b → (TX10 a).2.1 ≠ (TX10 b).2.1 := by decide +kernel
theorem tyX10_ok : ∀ k, k < 8 → parseFieldDescriptor (TX10 k).2.2.1 = some (tyX10 k) := by decide +kernel
abbrev cX10_init : ByteArray := prog_12_method_1_code
def yX10_init : MethodName := ⟨RX10, "<init>", "()V"⟩
abbrev cX10_setStuff : ByteArray := prog_12_method_2_code
def yX10_setStuff : MethodName := ⟨RX10, "setStuff", "(IIIII)Z"⟩
abbrev cX10_programOf : ByteArray := prog_12_method_3_code
def yX10_programOf : MethodName := ⟨RX10, "programOf", "(I)LBeamPlate$Row;"⟩
abbrev cX10_hasSlatAt : ByteArray := prog_12_method_4_code
def yX10_hasSlatAt : MethodName := ⟨RX10, "hasSlatAt", "(I)Z"⟩
def RX11 : String := "BeamPlate"
def TX11 : u_T := fun k => match k with
  | 0 => ("BeamPlate", "works", "LBeamPlate$Works;", true)
  | 1 => ("BeamPlate", "tape", "LBeamPlate$Row;", true)
  | 2 => ("BeamPlate", "sparkRow", "LBeamPlate$Row;", true)
  | 3 => ("BeamPlate", "reader", "LBeamPlate$Reader;", true)
  | 4 => ("BeamPlate", "plate", "LBeamPlate$Plate;", true)
  | 5 => ("BeamPlate", "runner", "LBeamPlate$Runner;", true)
  | 6 => ("BeamPlate", "trials", "LBeamPlate$Trials;", true)
  | 7 => ("BeamPlate", "filling", "LBeamPlate$Filling;", true)
  | 8 => ("BeamPlate", "testBook", "LBeamPlate$TestBook;", true)
  | 9 => ("BeamPlate", "faultKind", "I", false)
  | _ => ("BeamPlate", "faultPlace", "I", false)
def tyX11 : Nat → FieldType := fun k => match k with
  | 0 => .object "BeamPlate$Works"
  | 1 => .object "BeamPlate$Row"
  | 2 => .object "BeamPlate$Row"
  | 3 => .object "BeamPlate$Reader"
  | 4 => .object "BeamPlate$Plate"
  | 5 => .object "BeamPlate$Runner"
  | 6 => .object "BeamPlate$Trials"
  | 7 => .object "BeamPlate$Filling"
  | 8 => .object "BeamPlate$TestBook"
  | 9 => .int
  | _ => .int
abbrev wsX110 : List Cond := u_ws RX11 TX11 11
theorem nmX11 : ∀ a, a < 11 → ∀ b, b < 11 → a ≠ b → (TX11 a).2.1 ≠ (TX11 b).2.1 := by decide +kernel
theorem tyX11_ok : ∀ k, k < 11 → parseFieldDescriptor (TX11 k).2.2.1 = some (tyX11 k) := by decide +kernel
abbrev cX11_init : ByteArray := prog_1_method_1_code
def yX11_init : MethodName := ⟨RX11, "<init>", "()V"⟩
abbrev cX11_stuff : ByteArray := prog_1_method_2_code
def yX11_stuff : MethodName := ⟨RX11, "stuff", "(IIIII)Z"⟩
abbrev cX11_plate : ByteArray := prog_1_method_3_code
def yX11_plate : MethodName := ⟨RX11, "plate", "(IIII)Z"⟩
abbrev cX11_beam : ByteArray := prog_1_method_4_code
def yX11_beam : MethodName := ⟨RX11, "beam", "(IZ)Z"⟩
abbrev cX11_pitch : ByteArray := prog_1_method_5_code
def yX11_pitch : MethodName := ⟨RX11, "pitch", "(I)Z"⟩
abbrev cX11_feed : ByteArray := prog_1_method_6_code
def yX11_feed : MethodName := ⟨RX11, "feed", "(IIIII)I"⟩
abbrev cX11_end : ByteArray := prog_1_method_7_code
def yX11_end : MethodName := ⟨RX11, "end", "(I)Z"⟩
abbrev cX11_way : ByteArray := prog_1_method_8_code
def yX11_way : MethodName := ⟨RX11, "way", "(I)Z"⟩
abbrev cX11_fault : ByteArray := prog_1_method_9_code
def yX11_fault : MethodName := ⟨RX11, "fault", "(I)I"⟩
abbrev cX11_run : ByteArray := prog_1_method_10_code
def yX11_run : MethodName := ⟨RX11, "run", "(I)I"⟩
abbrev cX11_cell : ByteArray := prog_1_method_11_code
def yX11_cell : MethodName := ⟨RX11, "cell", "(III)I"⟩
abbrev cX11_look : ByteArray := prog_1_method_12_code
def yX11_look : MethodName := ⟨RX11, "look", "(I)I"⟩
abbrev cX11_heat : ByteArray := prog_1_method_13_code
def yX11_heat : MethodName := ⟨RX11, "heat", "(I)J"⟩
abbrev cX11_order : ByteArray := prog_1_method_14_code
def yX11_order : MethodName := ⟨RX11, "order", "(II)I"⟩
abbrev cX11_speed : ByteArray := prog_1_method_15_code
def yX11_speed : MethodName := ⟨RX11, "speed", "(II)I"⟩
abbrev cX11_kind : ByteArray := prog_1_method_16_code
def yX11_kind : MethodName := ⟨RX11, "kind", "(III)I"⟩
abbrev cX11_fill : ByteArray := prog_1_method_17_code
def yX11_fill : MethodName := ⟨RX11, "fill", "(II)I"⟩
abbrev cX11_test : ByteArray := prog_1_method_18_code
def yX11_test : MethodName := ⟨RX11, "test", "(IIZI)Z"⟩
abbrev cX11_known : ByteArray := prog_1_method_19_code
def yX11_known : MethodName := ⟨RX11, "known", "(III)I"⟩
abbrev cX11_sparks : ByteArray := prog_1_method_20_code
def yX11_sparks : MethodName := ⟨RX11, "sparks", "()I"⟩
abbrev cX11_lost : ByteArray := prog_1_method_21_code
def yX11_lost : MethodName := ⟨RX11, "lost", "(II)I"⟩
abbrev cX11_within : ByteArray := prog_1_method_22_code
def yX11_within : MethodName := ⟨RX11, "within", "(III)Z"⟩
abbrev cX11_stepX : ByteArray := prog_1_method_23_code
def yX11_stepX : MethodName := ⟨RX11, "stepX", "(I)I"⟩
abbrev cX11_stepY : ByteArray := prog_1_method_24_code
def yX11_stepY : MethodName := ⟨RX11, "stepY", "(I)I"⟩
def RX12 : String := "BeamPlateModel"
def TX12 : u_T := fun k => match k with
  | 0 => ("BeamPlateModel", "told", "I", false)
  | 1 => ("BeamPlateModel", "meltOf", "[I", true)
  | 2 => ("BeamPlateModel", "leadOf", "[I", true)
  | 3 => ("BeamPlateModel", "lossOf", "[I", true)
  | 4 => ("BeamPlateModel", "burnOf", "[I", true)
  | 5 => ("BeamPlateModel", "hasPlate", "Z", false)
  | 6 => ("BeamPlateModel", "wide", "I", false)
  | 7 => ("BeamPlateModel", "high", "I", false)
  | 8 => ("BeamPlateModel", "stuffOf", "I", false)
  | 9 => ("BeamPlateModel", "thick", "I", false)
  | 10 => ("BeamPlateModel", "strength", "I", false)
  | 11 => ("BeamPlateModel", "hasGas", "Z", false)
  | 12 => ("BeamPlateModel", "slats", "I", false)
  | 13 => ("BeamPlateModel", "heat", "[I", true)
  | 14 => ("BeamPlateModel", "next", "[I", true)
  | 15 => ("BeamPlateModel", "state", "[I", true)
  | 16 => ("BeamPlateModel", "isBurnt", "[Z", true)
  | 17 => ("BeamPlateModel", "isTipped", "[Z", true)
  | 18 => ("BeamPlateModel", "headX", "[I", true)
  | 19 => ("BeamPlateModel", "headY", "[I", true)
  | 20 => ("BeamPlateModel", "isOn", "[Z", true)
  | 21 => ("BeamPlateModel", "speedOf", "[I", true)
  | 22 => ("BeamPlateModel", "ticks", "[I", true)
  | 23 => ("BeamPlateModel", "hits", "[I", true)
  | 24 => ("BeamPlateModel", "spent", "[I", true)
  | 25 => ("BeamPlateModel", "given", "[J", true)
  | 26 => ("BeamPlateModel", "lostHeat", "[J", true)
  | 27 => ("BeamPlateModel", "carried", "[J", true)
  | 28 => ("BeamPlateModel", "partOf", "[I", true)
  | 29 => ("BeamPlateModel", "pile", "[I", true)
  | 30 => ("BeamPlateModel", "parts", "I", false)
  | 31 => ("BeamPlateModel", "partCells", "[I", true)
  | 32 => ("BeamPlateModel", "partX", "[I", true)
  | 33 => ("BeamPlateModel", "isHeld", "[Z", true)
  | 34 => ("BeamPlateModel", "tape", "[I", true)
  | 35 => ("BeamPlateModel", "taped", "I", false)
  | 36 => ("BeamPlateModel", "at", "I", false)
  | 37 => ("BeamPlateModel", "from", "I", false)
  | 38 => ("BeamPlateModel", "token", "I", false)
  | 39 => ("BeamPlateModel", "value", "I", false)
  | 40 => ("BeamPlateModel", "words", "[I", true)
  | 41 => ("BeamPlateModel", "op", "[I", true)
  | 42 => ("BeamPlateModel", "argA", "[I", true)
  | 43 => ("BeamPlateModel", "argB", "[I", true)
  | 44 => ("BeamPlateModel", "opMany", "[I", true)
  | 45 => ("BeamPlateModel", "askFrom", "[I", true)
  | 46 => ("BeamPlateModel", "askMid", "[I", true)
  | 47 => ("BeamPlateModel", "askTo", "[I", true)
  | 48 => ("BeamPlateModel", "unitSign", "[I", true)
  | 49 => ("BeamPlateModel", "unitKind", "[I", true)
  | 50 => ("BeamPlateModel", "unitValue", "[I", true)
  | 51 => ("BeamPlateModel", "units", "I", false)
  | 52 => ("BeamPlateModel", "frames", "[I", true)
  | 53 => ("BeamPlateModel", "frameMany", "I", false)
  | 54 => ("BeamPlateModel", "readFault", "I", false)
  | 55 => ("BeamPlateModel", "readPlace", "I", false)
  | 56 => ("BeamPlateModel", "faultKind", "I", false)
  | 57 => ("BeamPlateModel", "faultPlace", "I", false)
  | 58 => ("BeamPlateModel", "cost", "I", false)
  | 59 => ("BeamPlateModel", "isOut", "Z", false)
  | 60 => ("BeamPlateModel", "runTicks", "I", false)
  | 61 => ("BeamPlateModel", "rounds", "[I", true)
  | 62 => ("BeamPlateModel", "kinds", "I", false)
  | 63 => ("BeamPlateModel", "kindWide", "[I", true)
  | 64 => ("BeamPlateModel", "kindHigh", "[I", true)
  | 65 => ("BeamPlateModel", "kindWorth", "[I", true)
  | 66 => ("BeamPlateModel", "mostWorth", "[I", true)
  | 67 => ("BeamPlateModel", "tests", "I", false)
  | 68 => ("BeamPlateModel", "testStuff", "[I", true)
  | 69 => ("BeamPlateModel", "testHeat", "[I", true)
  | 70 => ("BeamPlateModel", "testCut", "[Z", true)
  | 71 => ("BeamPlateModel", "testDay", "[I", true)
  | 72 => ("BeamPlateModel", "spark", "[I", true)
  | _ => ("BeamPlateModel", "sparkMany", "I", false)
def tyX12 : Nat → FieldType := fun k => match k with
  | 0 => .int
  | 1 => .array .int
  | 2 => .array .int
  | 3 => .array .int
  | 4 => .array .int
  | 5 => .boolean
  | 6 => .int
  | 7 => .int
  | 8 => .int
  | 9 => .int
  | 10 => .int
  | 11 => .boolean
  | 12 => .int
  | 13 => .array .int
  | 14 => .array .int
  | 15 => .array .int
  | 16 => .array .boolean
  | 17 => .array .boolean
  | 18 => .array .int
  | 19 => .array .int
  | 20 => .array .boolean
  | 21 => .array .int
  | 22 => .array .int
  | 23 => .array .int
  | 24 => .array .int
  | 25 => .array .long
  | 26 => .array .long
  | 27 => .array .long
  | 28 => .array .int
  | 29 => .array .int
  | 30 => .int
  | 31 => .array .int
  | 32 => .array .int
  | 33 => .array .boolean
  | 34 => .array .int
  | 35 => .int
  | 36 => .int
  | 37 => .int
  | 38 => .int
  | 39 => .int
  | 40 => .array .int
  | 41 => .array .int
  | 42 => .array .int
  | 43 => .array .int
  | 44 => .array .int
  | 45 => .array .int
  | 46 => .array .int
  | 47 => .array .int
  | 48 => .array .int
  | 49 => .array .int
  | 50 => .array .int
  | 51 => .int
  | 52 => .array .int
  | 53 => .int
  | 54 => .int
  | 55 => .int
  | 56 => .int
  | 57 => .int
  | 58 => .int
  | 59 => .boolean
  | 60 => .int
  | 61 => .array .int
  | 62 => .int
  | 63 => .array .int
  | 64 => .array .int
  | 65 => .array .int
  | 66 => .array .int
  | 67 => .int
  | 68 => .array .int
  | 69 => .array .int
  | 70 => .array .boolean
  | 71 => .array .int
  | 72 => .array .int
  | _ => .int
abbrev wsX120 : List Cond := u_ws RX12 TX12 74
theorem nmX12 : ∀ a, a < 74 → ∀ b, b < 74 → a ≠ b → (TX12 a).2.1 ≠ (TX12 b).2.1 := by decide +kernel
theorem tyX12_ok : ∀ k, k < 74 → parseFieldDescriptor (TX12 k).2.2.1 = some (tyX12 k) := by decide +kernel
abbrev cX12_init : ByteArray := prog_14_method_1_code
def yX12_init : MethodName := ⟨RX12, "<init>", "()V"⟩
abbrev cX12_isIn : ByteArray := prog_14_method_3_code
def yX12_isIn : MethodName := ⟨RX12, "isIn", "(III)Z"⟩
abbrev cX12_stuff : ByteArray := prog_14_method_4_code
def yX12_stuff : MethodName := ⟨RX12, "stuff", "(IIIII)Z"⟩
abbrev cX12_plate : ByteArray := prog_14_method_5_code
def yX12_plate : MethodName := ⟨RX12, "plate", "(IIII)Z"⟩
abbrev cX12_beam : ByteArray := prog_14_method_6_code
def yX12_beam : MethodName := ⟨RX12, "beam", "(IZ)Z"⟩
abbrev cX12_pitch : ByteArray := prog_14_method_7_code
def yX12_pitch : MethodName := ⟨RX12, "pitch", "(I)Z"⟩
abbrev cX12_isOnPlate : ByteArray := prog_14_method_8_code
def yX12_isOnPlate : MethodName := ⟨RX12, "isOnPlate", "(II)Z"⟩
abbrev cX12_isThere : ByteArray := prog_14_method_9_code
def yX12_isThere : MethodName := ⟨RX12, "isThere", "(III)Z"⟩
abbrev cX12_copies : ByteArray := prog_14_method_10_code
def yX12_copies : MethodName := ⟨RX12, "copies", "()V"⟩
abbrev cX12_stepX : ByteArray := prog_14_method_11_code
def yX12_stepX : MethodName := ⟨RX12, "stepX", "(I)I"⟩
abbrev cX12_stepY : ByteArray := prog_14_method_12_code
def yX12_stepY : MethodName := ⟨RX12, "stepY", "(I)I"⟩
abbrev cX12_flowFrom : ByteArray := prog_14_method_13_code
def yX12_flowFrom : MethodName := ⟨RX12, "flowFrom", "(IIII)I"⟩
abbrev cX12_gives : ByteArray := prog_14_method_14_code
def yX12_gives : MethodName := ⟨RX12, "gives", "(I)V"⟩
abbrev cX12_leads : ByteArray := prog_14_method_15_code
def yX12_leads : MethodName := ⟨RX12, "leads", "(I)V"⟩
abbrev cX12_goesAway : ByteArray := prog_14_method_16_code
def yX12_goesAway : MethodName := ⟨RX12, "goesAway", "(III)V"⟩
abbrev cX12_cuts : ByteArray := prog_14_method_17_code
def yX12_cuts : MethodName := ⟨RX12, "cuts", "(I)Z"⟩
abbrev cX12_ticksOnce : ByteArray := prog_14_method_18_code
def yX12_ticksOnce : MethodName := ⟨RX12, "ticksOnce", "(I)V"⟩
abbrev cX12_findsParts : ByteArray := prog_14_method_19_code
def yX12_findsParts : MethodName := ⟨RX12, "findsParts", "(I)V"⟩
abbrev cX12_spreads : ByteArray := prog_14_method_20_code
def yX12_spreads : MethodName := ⟨RX12, "spreads", "(II)V"⟩
abbrev cX12_lying : ByteArray := prog_14_method_21_code
def yX12_lying : MethodName := ⟨RX12, "lying", "(I)I"⟩
abbrev cX12_loosens : ByteArray := prog_14_method_22_code
def yX12_loosens : MethodName := ⟨RX12, "loosens", "(I)V"⟩
abbrev cX12_puts : ByteArray := prog_14_method_23_code
def yX12_puts : MethodName := ⟨RX12, "puts", "(I)V"⟩
abbrev cX12_feed : ByteArray := prog_14_method_24_code
def yX12_feed : MethodName := ⟨RX12, "feed", "(IIIII)I"⟩
abbrev cX12_end : ByteArray := prog_14_method_25_code
def yX12_end : MethodName := ⟨RX12, "end", "(I)Z"⟩
abbrev cX12_raw : ByteArray := prog_14_method_26_code
def yX12_raw : MethodName := ⟨RX12, "raw", "(I)I"⟩
abbrev cX12_isLetter : ByteArray := prog_14_method_27_code
def yX12_isLetter : MethodName := ⟨RX12, "isLetter", "(I)Z"⟩
abbrev cX12_isDigit : ByteArray := prog_14_method_28_code
def yX12_isDigit : MethodName := ⟨RX12, "isDigit", "(I)Z"⟩
abbrev cX12_isMarkSign : ByteArray := prog_14_method_29_code
def yX12_isMarkSign : MethodName := ⟨RX12, "isMarkSign", "(I)Z"⟩
abbrev cX12_wordAt : ByteArray := prog_14_method_30_code
def yX12_wordAt : MethodName := ⟨RX12, "wordAt", "(II)I"⟩
abbrev cX12_reads : ByteArray := prog_14_method_31_code
def yX12_reads : MethodName := ⟨RX12, "reads", "()V"⟩
abbrev cX12_fails : ByteArray := prog_14_method_32_code
def yX12_fails : MethodName := ⟨RX12, "fails", "(I)I"⟩
abbrev cX12_isWord : ByteArray := prog_14_method_33_code
def yX12_isWord : MethodName := ⟨RX12, "isWord", "(I)Z"⟩
abbrev cX12_isSign : ByteArray := prog_14_method_34_code
def yX12_isSign : MethodName := ⟨RX12, "isSign", "(I)Z"⟩
abbrev cX12_emits : ByteArray := prog_14_method_35_code
def yX12_emits : MethodName := ⟨RX12, "emits", "(III)V"⟩
abbrev cX12_readNumber : ByteArray := prog_14_method_36_code
def yX12_readNumber : MethodName := ⟨RX12, "readNumber", "()I"⟩
abbrev cX12_readUnit : ByteArray := prog_14_method_37_code
def yX12_readUnit : MethodName := ⟨RX12, "readUnit", "(I)I"⟩
abbrev cX12_readSum : ByteArray := prog_14_method_38_code
def yX12_readSum : MethodName := ⟨RX12, "readSum", "()I"⟩
abbrev cX12_readIf : ByteArray := prog_14_method_39_code
def yX12_readIf : MethodName := ⟨RX12, "readIf", "()I"⟩
abbrev cX12_readAgain : ByteArray := prog_14_method_40_code
def yX12_readAgain : MethodName := ⟨RX12, "readAgain", "()I"⟩
abbrev cX12_readPlain : ByteArray := prog_14_method_41_code
def yX12_readPlain : MethodName := ⟨RX12, "readPlain", "()I"⟩
abbrev cX12_isInAgain : ByteArray := prog_14_method_42_code
def yX12_isInAgain : MethodName := ⟨RX12, "isInAgain", "()Z"⟩
abbrev cX12_closes : ByteArray := prog_14_method_43_code
def yX12_closes : MethodName := ⟨RX12, "closes", "()V"⟩
abbrev cX12_ends : ByteArray := prog_14_method_44_code
def yX12_ends : MethodName := ⟨RX12, "ends", "()I"⟩
abbrev cX12_readAll : ByteArray := prog_14_method_45_code
def yX12_readAll : MethodName := ⟨RX12, "readAll", "()I"⟩
abbrev cX12_way : ByteArray := prog_14_method_46_code
def yX12_way : MethodName := ⟨RX12, "way", "(I)Z"⟩
abbrev cX12_fault : ByteArray := prog_14_method_47_code
def yX12_fault : MethodName := ⟨RX12, "fault", "(I)I"⟩
abbrev cX12_pays : ByteArray := prog_14_method_48_code
def yX12_pays : MethodName := ⟨RX12, "pays", "()Z"⟩
abbrev cX12_waits : ByteArray := prog_14_method_49_code
def yX12_waits : MethodName := ⟨RX12, "waits", "(II)V"⟩
abbrev cX12_comes : ByteArray := prog_14_method_50_code
def yX12_comes : MethodName := ⟨RX12, "comes", "(III)V"⟩
abbrev cX12_goes : ByteArray := prog_14_method_51_code
def yX12_goes : MethodName := ⟨RX12, "goes", "(III)V"⟩
abbrev cX12_askedOf : ByteArray := prog_14_method_52_code
def yX12_askedOf : MethodName := ⟨RX12, "askedOf", "(II)I"⟩
abbrev cX12_sumOf : ByteArray := prog_14_method_53_code
def yX12_sumOf : MethodName := ⟨RX12, "sumOf", "(IIII)I"⟩
abbrev cX12_isSo : ByteArray := prog_14_method_54_code
def yX12_isSo : MethodName := ⟨RX12, "isSo", "(III)Z"⟩
abbrev cX12_doesPlain : ByteArray := prog_14_method_55_code
def yX12_doesPlain : MethodName := ⟨RX12, "doesPlain", "(IIII)V"⟩
abbrev cX12_runs : ByteArray := prog_14_method_56_code
def yX12_runs : MethodName := ⟨RX12, "runs", "(II)V"⟩
abbrev cX12_run : ByteArray := prog_14_method_57_code
def yX12_run : MethodName := ⟨RX12, "run", "(I)I"⟩
abbrev cX12_bridgeOf : ByteArray := prog_14_method_58_code
def yX12_bridgeOf : MethodName := ⟨RX12, "bridgeOf", "(II)I"⟩
abbrev cX12_cell : ByteArray := prog_14_method_59_code
def yX12_cell : MethodName := ⟨RX12, "cell", "(III)I"⟩
abbrev cX12_cellsAs : ByteArray := prog_14_method_60_code
def yX12_cellsAs : MethodName := ⟨RX12, "cellsAs", "(II)I"⟩
abbrev cX12_look : ByteArray := prog_14_method_61_code
def yX12_look : MethodName := ⟨RX12, "look", "(I)I"⟩
abbrev cX12_heat : ByteArray := prog_14_method_62_code
def yX12_heat : MethodName := ⟨RX12, "heat", "(I)J"⟩
abbrev cX12_ones : ByteArray := prog_14_method_63_code
def yX12_ones : MethodName := ⟨RX12, "ones", "(I)I"⟩
abbrev cX12_isOrder : ByteArray := prog_14_method_64_code
def yX12_isOrder : MethodName := ⟨RX12, "isOrder", "(III)Z"⟩
abbrev cX12_order : ByteArray := prog_14_method_65_code
def yX12_order : MethodName := ⟨RX12, "order", "(II)I"⟩
abbrev cX12_cutsThrough : ByteArray := prog_14_method_66_code
def yX12_cutsThrough : MethodName := ⟨RX12, "cutsThrough", "(III)Z"⟩
abbrev cX12_speed : ByteArray := prog_14_method_67_code
def yX12_speed : MethodName := ⟨RX12, "speed", "(II)I"⟩
abbrev cX12_kind : ByteArray := prog_14_method_68_code
def yX12_kind : MethodName := ⟨RX12, "kind", "(III)I"⟩
abbrev cX12_mostOf : ByteArray := prog_14_method_69_code
def yX12_mostOf : MethodName := ⟨RX12, "mostOf", "(II)I"⟩
abbrev cX12_fill : ByteArray := prog_14_method_70_code
def yX12_fill : MethodName := ⟨RX12, "fill", "(II)I"⟩
abbrev cX12_test : ByteArray := prog_14_method_71_code
def yX12_test : MethodName := ⟨RX12, "test", "(IIZI)Z"⟩
abbrev cX12_known : ByteArray := prog_14_method_72_code
def yX12_known : MethodName := ⟨RX12, "known", "(III)I"⟩
abbrev cX12_sparks : ByteArray := prog_14_method_73_code
def yX12_sparks : MethodName := ⟨RX12, "sparks", "()I"⟩
abbrev cX12_lost : ByteArray := prog_14_method_74_code
def yX12_lost : MethodName := ⟨RX12, "lost", "(II)I"⟩
def RJ6 : String := "java/lang/Integer"
def TJ6 : u_T := fun k => match k with
  | _ => ("", "", "", false)
def tyJ6 : Nat → FieldType := fun k => match k with
  | _ => .int
abbrev wsJ60 : List Cond := u_ws RJ6 TJ6 0
theorem nmJ6 : ∀ a, a < 0 → ∀ b, b < 0 → a ≠ b → (TJ6 a).2.1 ≠ (TJ6 b).2.1 := by decide +kernel
theorem tyJ6_ok : ∀ k, k < 0 → parseFieldDescriptor (TJ6 k).2.2.1 = some (tyJ6 k) := by decide +kernel
abbrev cJ6_bitCount_0f7a4 : ByteArray := prog_15_method_49_code
def yJ6_bitCount_0f7a4 : MethodName := ⟨RJ6, "bitCount", "(I)I"⟩
def RJ9 : String := "java/lang/Math"
def TJ9 : u_T := fun k => match k with
  | _ => ("", "", "", false)
def tyJ9 : Nat → FieldType := fun k => match k with
  | _ => .int
abbrev wsJ90 : List Cond := u_ws RJ9 TJ9 0
theorem nmJ9 : ∀ a, a < 0 → ∀ b, b < 0 → a ≠ b → (TJ9 a).2.1 ≠ (TJ9 b).2.1 := by decide +kernel
theorem tyJ9_ok : ∀ k, k < 0 → parseFieldDescriptor (TJ9 k).2.2.1 = some (tyJ9 k) := by decide +kernel
abbrev cJ9_abs_0f7a4 : ByteArray := prog_16_method_59_code
def yJ9_abs_0f7a4 : MethodName := ⟨RJ9, "abs", "(I)I"⟩
abbrev cJ9_max_7cf53 : ByteArray := prog_16_method_65_code
def yJ9_max_7cf53 : MethodName := ⟨RJ9, "max", "(II)I"⟩
abbrev cJ9_min_7cf53 : ByteArray := prog_16_method_69_code
def yJ9_min_7cf53 : MethodName := ⟨RJ9, "min", "(II)I"⟩
def RJ0 : String := "java/lang/String"
def TJ0 : u_T := fun k => match k with
  | _ => ("", "", "", false)
def tyJ0 : Nat → FieldType := fun k => match k with
  | _ => .int
abbrev wsJ00 : List Cond := u_ws RJ0 TJ0 0
theorem nmJ0 : ∀ a, a < 0 → ∀ b, b < 0 → a ≠ b → (TJ0 a).2.1 ≠ (TJ0 b).2.1 := by decide +kernel
theorem tyJ0_ok : ∀ k, k < 0 → parseFieldDescriptor (TJ0 k).2.2.1 = some (tyJ0 k) := by decide +kernel
abbrev cJ0_length_8abf5 : ByteArray := prog_17_method_54_code
def yJ0_length_8abf5 : MethodName := ⟨RJ0, "length", "()I"⟩
abbrev cJ0_charAt_5068e : ByteArray := prog_17_method_56_code
def yJ0_charAt_5068e : MethodName := ⟨RJ0, "charAt", "(I)C"⟩
abbrev cJ0_coder_7d493 : ByteArray := prog_17_method_152_code
def yJ0_coder_7d493 : MethodName := ⟨RJ0, "coder", "()B"⟩
abbrev cJ0_isLatin1_aae02 : ByteArray := prog_17_method_154_code
def yJ0_isLatin1_aae02 : MethodName := ⟨RJ0, "isLatin1", "()Z"⟩
abbrev cJ0_checkIndex_df160 : ByteArray := prog_17_method_155_code
def yJ0_checkIndex_df160 : MethodName := ⟨RJ0, "checkIndex", "(II)V"⟩
def RJ1 : String := "java/lang/StringLatin1"
def TJ1 : u_T := fun k => match k with
  | _ => ("", "", "", false)
def tyJ1 : Nat → FieldType := fun k => match k with
  | _ => .int
abbrev wsJ10 : List Cond := u_ws RJ1 TJ1 0
theorem nmJ1 : ∀ a, a < 0 → ∀ b, b < 0 → a ≠ b → (TJ1 a).2.1 ≠ (TJ1 b).2.1 := by decide +kernel
theorem tyJ1_ok : ∀ k, k < 0 → parseFieldDescriptor (TJ1 k).2.2.1 = some (tyJ1 k) := by decide +kernel
abbrev cJ1_charAt_3b067 : ByteArray := prog_18_method_2_code
def yJ1_charAt_3b067 : MethodName := ⟨RJ1, "charAt", "([BI)C"⟩
def RJ2 : String := "java/lang/StringUTF16"
def TJ2 : u_T := fun k => match k with
  | _ => ("", "", "", false)
def tyJ2 : Nat → FieldType := fun k => match k with
  | _ => .int
abbrev wsJ20 : List Cond := u_ws RJ2 TJ2 0
theorem nmJ2 : ∀ a, a < 0 → ∀ b, b < 0 → a ≠ b → (TJ2 a).2.1 ≠ (TJ2 b).2.1 := by decide +kernel
theorem tyJ2_ok : ∀ k, k < 0 → parseFieldDescriptor (TJ2 k).2.2.1 = some (tyJ2 k) := by decide +kernel
abbrev cJ2_getChar_3b067 : ByteArray := prog_19_method_5_code
def yJ2_getChar_3b067 : MethodName := ⟨RJ2, "getChar", "([BI)C"⟩
abbrev cJ2_length_9d52b : ByteArray := prog_19_method_6_code
def yJ2_length_9d52b : MethodName := ⟨RJ2, "length", "([B)I"⟩
abbrev cJ2_charAt_3b067 : ByteArray := prog_19_method_83_code
def yJ2_charAt_3b067 : MethodName := ⟨RJ2, "charAt", "([BI)C"⟩
abbrev cJ2_checkIndex_2214a : ByteArray := prog_19_method_91_code
def yJ2_checkIndex_2214a : MethodName := ⟨RJ2, "checkIndex", "(I[B)V"⟩
def RJ10 : String := "java/lang/System"
def TJ10 : u_T := fun k => match k with
  | _ => ("", "", "", false)
def tyJ10 : Nat → FieldType := fun k => match k with
  | _ => .int
abbrev wsJ100 : List Cond := u_ws RJ10 TJ10 0
theorem nmJ10 : ∀ a, a < 0 → ∀ b, b < 0 → a ≠ b → (TJ10 a).2.1 ≠ (TJ10 b).2.1 := by decide +kernel
theorem tyJ10_ok : ∀ k, k < 0 → parseFieldDescriptor (TJ10 k).2.2.1 = some (tyJ10 k) := by decide +kernel
def RJ7 : String := "java/util/Arrays"
def TJ7 : u_T := fun k => match k with
  | _ => ("", "", "", false)
def tyJ7 : Nat → FieldType := fun k => match k with
  | _ => .int
abbrev wsJ70 : List Cond := u_ws RJ7 TJ7 0
theorem nmJ7 : ∀ a, a < 0 → ∀ b, b < 0 → a ≠ b → (TJ7 a).2.1 ≠ (TJ7 b).2.1 := by decide +kernel
theorem tyJ7_ok : ∀ k, k < 0 → parseFieldDescriptor (TJ7 k).2.2.1 = some (tyJ7 k) := by decide +kernel
abbrev cJ7_fill_53178 : ByteArray := prog_21_method_103_code
def yJ7_fill_53178 : MethodName := ⟨RJ7, "fill", "([II)V"⟩
def RJ3 : String := "jdk/internal/util/Preconditions"
def TJ3 : u_T := fun k => match k with
  | _ => ("", "", "", false)
def tyJ3 : Nat → FieldType := fun k => match k with
  | _ => .int
abbrev wsJ30 : List Cond := u_ws RJ3 TJ3 0
theorem nmJ3 : ∀ a, a < 0 → ∀ b, b < 0 → a ≠ b → (TJ3 a).2.1 ≠ (TJ3 b).2.1 := by decide +kernel
theorem tyJ3_ok : ∀ k, k < 0 → parseFieldDescriptor (TJ3 k).2.2.1 = some (tyJ3 k) := by decide +kernel
abbrev cJ3_checkIndex_8e157 : ByteArray := prog_22_method_11_code
def yJ3_checkIndex_8e157 : MethodName := ⟨RJ3, "checkIndex", "(IILjava/util/function/BiFunction;)I"⟩
def RL : String := "BeamPlateLaw"
abbrev cL_law : ByteArray := code
def yL_law : MethodName := ⟨RL, "law", "([I)Z"⟩
abbrev vwCl : List vw_C := [(RX0, TX0, 5), (RX1, TX1, 5), (RX2, TX2, 5), (RX3, TX3, 18), (RX4, TX4, 8), (RX5, TX5, 2), (RX6, TX6, 3), (RX7, TX7, 6), (RX8, TX8, 3), (RX9, TX9, 7), (RX10, TX10, 8), (RX11, TX11, 11), (RX12, TX12, 74)]
end
section
-- THE TABLES' WORDS THAT EVERY METHOD MAY USE: those that stay when a class is warmed
def TB : List Cond := lw_tbl.filter goodWord
theorem tb_of {w : Cond} (h : w ∈ tables_1) (g : goodWord w = true) : w ∈ TB := List.mem_filter.mpr ⟨List.mem_append_right _ h, g⟩
theorem tb1 {w : Cond} (i : Nat) (h : tables_1_1[i]? = some w) (g : goodWord w = true) : w ∈ TB := tb_of (List.mem_append_left _ (List.mem_of_getElem? h)) g
theorem tb2 {w : Cond} (i : Nat) (h : tables_1_2[i]? = some w) (g : goodWord w = true) : w ∈ TB := tb_of (List.mem_append_right _ (List.mem_append_left _ (List.mem_of_getElem? h))) g
theorem tb3 {w : Cond} (i : Nat) (h : tables_1_3[i]? = some w) (g : goodWord w = true) : w ∈ TB := tb_of (List.mem_append_right _ (List.mem_append_right _ (List.mem_append_left _ (List.mem_of_getElem? h)))) g
theorem tb4 {w : Cond} (i : Nat) (h : tables_1_4[i]? = some w) (g : goodWord w = true) : w ∈ TB := tb_of (List.mem_append_right _ (List.mem_append_right _ (List.mem_append_right _ (List.mem_append_left _ (List.mem_of_getElem? h))))) g
theorem tb5 {w : Cond} (i : Nat) (h : tables_1_5[i]? = some w) (g : goodWord w = true) : w ∈ TB := tb_of (List.mem_append_right _ (List.mem_append_right _ (List.mem_append_right _ (List.mem_append_right _ (List.mem_append_left _ (List.mem_of_getElem? h)))))) g
theorem tb6 {w : Cond} (i : Nat) (h : tables_1_6[i]? = some w) (g : goodWord w = true) : w ∈ TB := tb_of (List.mem_append_right _ (List.mem_append_right _ (List.mem_append_right _ (List.mem_append_right _ (List.mem_append_right _ (List.mem_append_left _ (List.mem_of_getElem? h))))))) g
theorem tb7 {w : Cond} (i : Nat) (h : tables_1_7[i]? = some w) (g : goodWord w = true) : w ∈ TB := tb_of (List.mem_append_right _ (List.mem_append_right _ (List.mem_append_right _ (List.mem_append_right _ (List.mem_append_right _ (List.mem_append_right _ (List.mem_of_getElem? h))))))) g
theorem tbS {w : Cond} (i : Nat) (h : (k2_sels lw_privs)[i]? = some w) (g : goodWord w = true) : w ∈ TB := List.mem_filter.mpr ⟨List.mem_append_left _ (List.mem_of_getElem? h), g⟩
theorem tb_good {w : Cond} (h : w ∈ TB) : (w.onTables && w.keeps) = true ∨ ∃ ty, w = .arrayClass ty := good_of_word (List.mem_filter.mp h).2
theorem tb_tbl {w : Cond} (h : w ∈ TB) : w ∈ lw_tbl := (List.mem_filter.mp h).1
/-- a callee's words among a caller's -/
theorem tb_in {y : MethodName} {cc : ByteArray} {n : Nat} {r : Option FieldType} (h : Cond.code y cc n r ∈ TB) : GoodIn TB (Cond.code y cc n r :: TB) := fun w hw => by
  have h1 : w ∈ TB := (List.mem_cons.mp hw).elim (fun q => by rw [q]; exact h) id
  exact ⟨h1, tb_good h1⟩
/-- links to private members of a nest mate -/
def m_isN : Cond → Bool
  | .methodLinkNest _ _ _ _ => true
  | _ => false
theorem m_nest_moved {s U : State} (hW : s.WarmedH U.vm) {w : Cond} (hn : m_isN w = true) (h : va_Nw w s) : va_Nw w U := by
  cases w <;> first | exact va_Nw.warmM hW h | (simp [m_isN] at hn)
theorem m_nest_same {s U : State} (hv : s.vm = U.vm) {w : Cond} (hn : m_isN w = true) (h : va_Nw w s) : va_Nw w U := by
  cases w <;> first | exact va_Nw.same rfl hv h | (simp [m_isN] at hn)
-- THE MEMORY: a place is a cell (its address: base + place); ints and longs by place and number of the field or element
abbrev mM : Type := (Nat → Nat → Int32) × (Nat → Nat → Int64)
/-- what a place is: an object (number of its class, fields: 0 an int, 1 a long, 2 null, n + 3 the place n), or an array (0 ints, 1 booleans, 2 longs, 3 Rows; its length; the places that it holds) -/
abbrev mL : Type := (Nat × List Nat) ⊕ (Nat × Nat × List Nat)
def m_v (b : Nat) (μ : mM) (k j : Nat) : Nat → Value
  | 0 => .int (μ.1 k j)
  | 1 => .long (μ.2 k j)
  | 2 => .null
  | n + 3 => .ref (b + n)
def m_e (cy : Nat → ClassId) (b : Nat) (μ : mM) (k : Nat) : mL → va_E
  | .inl (ci, fs) => .inr (ci, fs.mapIdx (fun j f => m_v b μ k j f))
  | .inr (0, n, _) => .inl (cy 0, n, .inl (μ.1 k))
  | .inr (1, n, _) => .inl (cy 1, n, .inl (μ.1 k))
  | .inr (2, n, _) => .inl (cy 2, n, .inr (.inl (μ.2 k)))
  | .inr (_, n, rs) => .inl (cy 3, n, .inr (.inr (.inr (.inr (fun j => (rs[j]?).map (fun q => b + q))))))
def m_w (cy : Nat → ClassId) (b : Nat) (lay : List mL) (μ : mM) : va_W := lay.mapIdx (fun k x => (b + k, m_e cy b μ k x))
abbrev m_T (cy : Nat → ClassId) : List (ClassId × FieldType) := [(cy 0, .int), (cy 1, .boolean), (cy 2, .long), (cy 3, .object "BeamPlate$Row")]
def m_K (D : va_G) (cy : Nat → ClassId) (U : State) : Prop := va_K D vwCl (m_T cy) U ∧ (∀ w ∈ lw_tbl, m_isN w = true → va_Nw w U) ∧ va_AO "BeamPlate$Row" U
def m_si (μ : mM) (k j : Nat) (v : Int32) : mM := (fun a i => if a = k ∧ i = j then v else μ.1 a i, μ.2)
def m_sl (μ : mM) (k j : Nat) (v : Int64) : mM := (μ.1, fun a i => if a = k ∧ i = j then v else μ.2 a i)
/-- a new place: all its numbers are 0 -/
def m_z (μ : mM) (k : Nat) : mM := (fun a i => if a = k then 0 else μ.1 a i, fun a i => if a = k then 0 else μ.2 a i)
theorem m_w_at {cy : Nat → ClassId} {b : Nat} {lay : List mL} {μ : mM} {k : Nat} {x : mL} (h : lay[k]? = some x) : (m_w cy b lay μ)[k]? = some (b + k, m_e cy b μ k x) := by
  simp [m_w, List.getElem?_mapIdx, h]
theorem m_w_get {cy : Nat → ClassId} {b : Nat} {lay : List mL} {μ : mM} {k : Nat} {q : Nat × va_E} (h : (m_w cy b lay μ)[k]? = some q) : ∃ x, lay[k]? = some x ∧ q = (b + k, m_e cy b μ k x) := by
  simp only [m_w, List.getElem?_mapIdx, Option.map_eq_some_iff] at h
  obtain ⟨x, h1, h2⟩ := h
  exact ⟨x, h1, h2.symm⟩
theorem m_D {cy : Nat → ClassId} {b : Nat} {lay : List mL} {μ : mM} : va_D (fun q => b ≤ q) (m_w cy b lay μ) := by
  refine ⟨fun i j p q hi hj e => ?_, fun k q hk => ?_⟩
  · obtain ⟨x, -, rfl⟩ := m_w_get hi
    obtain ⟨y, -, rfl⟩ := m_w_get hj
    have : b + i = b + j := e
    omega
  · obtain ⟨x, -, rfl⟩ := m_w_get hk
    exact Nat.le_add_right b k
theorem m_e_cong {cy : Nat → ClassId} {b : Nat} {μ ν : mM} {k : Nat} (h1 : ∀ j, ν.1 k j = μ.1 k j) (h2 : ∀ j, ν.2 k j = μ.2 k j) (x : mL) : m_e cy b ν k x = m_e cy b μ k x := by
  have e1 : ν.1 k = μ.1 k := funext h1
  have e2 : ν.2 k = μ.2 k := funext h2
  have ev : ∀ j f, m_v b ν k j f = m_v b μ k j f := by
    intro j f
    match f with
    | 0 => simp [m_v, e1]
    | 1 => simp [m_v, e2]
    | 2 => rfl
    | n + 3 => rfl
  match x with
  | .inl (ci, fs) => simp [m_e, ev]
  | .inr (0, n, _) => simp [m_e, e1]
  | .inr (1, n, _) => simp [m_e, e1]
  | .inr (2, n, _) => simp [m_e, e2]
  | .inr (n + 3, _, _) => rfl
/-- a place is written: the others are as they were -/
theorem m_w_set {cy : Nat → ClassId} {b : Nat} {lay lay' : List mL} {μ ν : mM} {k : Nat} {x : mL} {e : va_E} (h : lay[k]? = some x) (hl : ∀ i, i ≠ k → lay'[i]? = lay[i]?) {x' : mL} (hx : lay'[k]? = some x') (he : e = m_e cy b ν k x') (ho : ∀ i, i ≠ k → (∀ j, ν.1 i j = μ.1 i j) ∧ ∀ j, ν.2 i j = μ.2 i j) :
    (m_w cy b lay μ).set k (b + k, e) = m_w cy b lay' ν := by
  have hk : k < (m_w cy b lay μ).length := (List.getElem?_eq_some_iff.mp (m_w_at (cy := cy) (b := b) (μ := μ) h)).1
  refine List.ext_getElem? fun i => ?_
  by_cases hi : i = k
  · subst hi
    rw [List.getElem?_set_self hk, m_w_at hx, he]
  · rw [List.getElem?_set_ne (Ne.symm hi)]
    simp only [m_w, List.getElem?_mapIdx, hl i hi]
    cases lay[i]? with
    | none => rfl
    | some y =>
      show some (b + i, m_e cy b μ i y) = some (b + i, m_e cy b ν i y)
      rw [m_e_cong (ho i hi).1 (ho i hi).2 y]
theorem m_fs_at {b : Nat} {μ : mM} {k j f : Nat} {fs : List Nat} (h : fs[j]? = some f) : (fs.mapIdx (fun j f => m_v b μ k j f))[j]? = some (m_v b μ k j f) := by
  simp [List.getElem?_mapIdx, h]
theorem m_fs_set {b : Nat} {μ ν : mM} {k j f g : Nat} {fs : List Nat} (h : fs[j]? = some f) {v : Value} (hv : v = m_v b ν k j g) (ho : ∀ i, i ≠ j → ν.1 k i = μ.1 k i ∧ ν.2 k i = μ.2 k i) :
    (fs.mapIdx (fun j f => m_v b μ k j f)).set j v = (fs.set j g).mapIdx (fun j f => m_v b ν k j f) := by
  have hj : j < fs.length := (List.getElem?_eq_some_iff.mp h).1
  have hj2 : j < (fs.mapIdx (fun j f => m_v b μ k j f)).length := by simpa using hj
  refine List.ext_getElem? fun i => ?_
  by_cases hi : i = j
  · subst hi
    rw [List.getElem?_set_self hj2, List.getElem?_mapIdx, List.getElem?_set_self hj, hv]
    rfl
  · rw [List.getElem?_set_ne (Ne.symm hi), List.getElem?_mapIdx, List.getElem?_mapIdx, List.getElem?_set_ne (Ne.symm hi)]
    cases fs[i]? with
    | none => rfl
    | some y =>
      show some _ = some _
      obtain ⟨e1, e2⟩ := ho i hi
      match y with
      | 0 => simp [m_v, e1]
      | 1 => simp [m_v, e2]
      | 2 => rfl
      | n + 3 => rfl
theorem m_set_same {fs : List Nat} {j f : Nat} (h : fs[j]? = some f) : fs.set j f = fs := by
  refine List.ext_getElem? fun i => ?_
  by_cases hi : i = j
  · subst hi
    rw [List.getElem?_set_self (List.getElem?_eq_some_iff.mp h).1, h]
  · rw [List.getElem?_set_ne (Ne.symm hi)]
-- THE WORLD OF A WALK
def m_W (D : va_G) (cy : Nat → ClassId) (s : State) (b : Nat) (lay : List mL) (μ : mM) (H : Heap) (locs : List Loc) : Prop :=
  m_K D cy s ∧ va_P D vwCl (m_w cy b lay μ) H ∧ va_S (fun q => b ≤ q) s.heap H locs
end
section
section MR
variable {p : Program} {l : Launch} {e : Env} {R : Room} {s : State} {m : MethodId} {args : Array Value} {below : List Frame} {meth : Method} {c : Code} {H : Heap} {locs : List Loc} {cells slots : Nat} {Q : State → Prop}
variable {cc : ByteArray} {pc : Nat} {ls : Array Slot} {rest : List Value} {D : va_G} {cy : Nat → ClassId} {b : Nat} {lay : List mL} {μ : mM}
/-- a field is read -/
theorem m_get (hx : p.tables.exec = Jvm.exec) (hb : c.code = cc) {own C : String} {T : u_T} {N ci index : Nat} (hts : ∀ w ∈ TB, w.before args s = true) (hown : s.vm.findClass own = some m.cls) (hW : m_W D cy s b lay μ H locs) (k j : Nat) {f : Nat} {fs : List Nat} (hk : lay[k]? = some (.inl (ci, fs))) (hf : fs[j]? = some f) (hin : ∀ w ∈ u_ws C T N, w ∈ TB) (hc : vwCl[ci]? = some (C, T, N)) (hj : j < N) (hlink : Cond.fieldLink own index (T j).1 (T j).2.1 (T j).2.2.1 ∈ TB) (hdg : decode cc pc = .ok (.getfield index, 3))
    (kk : W p l e R s m args below meth c H locs cells slots Q (F0 m (pc + 3) ls (m_v b μ k j f :: rest))) : W p l e R s m args below meth c H locs cells slots Q (F0 m pc ls (.ref (b + k) :: rest)) :=
  va_get hx hb hts hin hown hW.1.1 hW.2.1 k (m_w_at hk) hc j hj (hts _ hlink) (fun _ h => h) (m_fs_at hf) hdg kk
/-- a field is written: anything of it -/
theorem m_putG (hx : p.tables.exec = Jvm.exec) (hb : c.code = cc) {own C : String} {T : u_T} {N ci index : Nat} (hts : ∀ w ∈ TB, w.before args s = true) (hown : s.vm.findClass own = some m.cls) (hW : m_W D cy s b lay μ H locs) (k j : Nat) {fs : List Value} {lay' : List mL} {ν : mM} (hk : (m_w cy b lay μ)[k]? = some (b + k, .inr (ci, fs))) (hin : ∀ w ∈ u_ws C T N, w ∈ TB) (ty0 : Nat → FieldType) (hty : ∀ k, k < N → parseFieldDescriptor (T k).2.2.1 = some (ty0 k)) (hnm : ∀ a, a < N → ∀ b, b < N → a ≠ b → (T a).2.1 ≠ (T b).2.1) (hc : vwCl[ci]? = some (C, T, N)) (hj : j < N) (hlink : Cond.fieldLink own index (T j).1 (T j).2.1 (T j).2.2.1 ∈ TB) (hfin : (T j).2.2.2 = false ∨ ((T j).2.2.2 = true ∧ meth.name = "<init>" ∧ (T j).1 = own)) {v : Value} (hn : narrow (ty0 j) v = v) (hfit : fits (ty0 j) v = true) (hl : j < fs.length) (hdg : decode cc pc = .ok (.putfield index, 3))
    (hnew : (m_w cy b lay μ).set k (b + k, .inr (ci, fs.set j v)) = m_w cy b lay' ν)
    (kk : ∀ (H1 : Heap) (locs1 : List Loc), m_W D cy s b lay' ν H1 locs1 → H1.size = H.size → W p l e R s m args below meth c H1 locs1 cells slots Q (F0 m (pc + 3) ls rest)) : W p l e R s m args below meth c H locs cells slots Q (F0 m pc ls (v :: .ref (b + k) :: rest)) := by
  obtain ⟨hK, hP, hS0⟩ := hW
  have hap := va_apart (own := own) hts hin ty0 hty hnm hK.1 hc
  obtain ⟨r, h1, cell, q1, q2, q3, q4⟩ := hP k _ hk
  have hr : r = (C, T, N) := Option.some.inj (h1.symm.trans hc)
  subst hr
  obtain ⟨hS, hfc, kC, hkC, hkind⟩ := hK.1.1 ci _ hc
  obtain ⟨cf, kf, fi, f, hi, hsl⟩ := hS j hj
  have hlay := hts _ (hin _ (u_in_lay hj))
  have hst := (u_facts hfc hkC (u_lays hts hin hj) hi).1
  have fin : ∀ H' : Heap, H'[b + k]? = some (cell.setSlot f.slot v) → H'.size = H.size → (∀ q, q ≠ b + k → H'[q]? = H[q]?) → W p l e R s m args below meth c H' (locs ++ [⟨b + k, f.slot⟩]) cells slots Q (F0 m (pc + 3) ls rest) := by
    intro H' e1 e2 e3
    rw [hsl] at e1 ⊢
    have hP' := hP.set (m_D (cy := cy) (b := b) (lay := lay) (μ := μ)) hk (e := .inr (ci, fs.set j v)) ⟨_, hc, t_OB.to (V := updV (vp_V fs) j v) ⟨_, e1, q2, q3, t_set q4 hap hj v⟩ (fun i _ => vp_updV_set hl v i)⟩ e3
    rw [hnew] at hP'
    exact kk H' _ ⟨hK, hP', hS0.put e2 e3 (Nat.le_add_right b k)⟩ e2
  rcases hfin with hfin | ⟨hfin, hin2, hdecl⟩
  · unfold u_lay at hlay
    rw [if_neg (by rw [hfin]; decide)] at hlay
    have h6 := u_store hfc hkC hkind hlay hi (hty j hj) hn hfit
    exact W.putK hx hb (f := f) ⟨hown, hts _ hlink, ⟨_, _, _, hi⟩, hst⟩ (by rw [q2]; exact h6) q1 q3 (by rw [hsl]; exact k2_hasslot (q4 j hj)) rfl rfl hdg fin
  · unfold u_lay at hlay
    rw [if_pos hfin] at hlay
    have hcf : m.cls = cf := by
      obtain ⟨_, _, c', _, _, _, -, -, hf', -, -, -, hown2, -⟩ := Cond.laysFinal_spec hlay
      have e1 : c' = cf := by have := hi.symm.trans hf'; simp at this; exact this.1.symm
      rw [hdecl] at hown2
      rw [← e1]; exact Option.some.inj (hown.symm.trans hown2)
    have h6 := u_fits hfc hkC hkind (Or.inr hlay) hi (hty j hj) hn hfit
    exact W.putFinK hx hb hown (hts _ hlink) hi hst hcf hin2 (by rw [q2]; exact h6) q1 q3 (by rw [hsl]; exact k2_hasslot (q4 j hj)) rfl rfl hdg fin
/-- an int field (or a boolean one) is written -/
theorem m_puti (hx : p.tables.exec = Jvm.exec) (hb : c.code = cc) {own C : String} {T : u_T} {N ci index : Nat} (hts : ∀ w ∈ TB, w.before args s = true) (hown : s.vm.findClass own = some m.cls) (hW : m_W D cy s b lay μ H locs) (k j : Nat) {fs : List Nat} (hk : lay[k]? = some (.inl (ci, fs))) (hf : fs[j]? = some 0) (hin : ∀ w ∈ u_ws C T N, w ∈ TB) {ty0 : Nat → FieldType} (hty : ∀ k, k < N → parseFieldDescriptor (T k).2.2.1 = some (ty0 k)) (hnm : ∀ a, a < N → ∀ b, b < N → a ≠ b → (T a).2.1 ≠ (T b).2.1) (hc : vwCl[ci]? = some (C, T, N)) (hj : j < N) (hlink : Cond.fieldLink own index (T j).1 (T j).2.1 (T j).2.2.1 ∈ TB) (hfin : (T j).2.2.2 = false) {v : Int32} (hn : narrow (ty0 j) (.int v) = .int v) (hfit : fits (ty0 j) (.int v) = true) (hdg : decode cc pc = .ok (.putfield index, 3))
    (kk : ∀ (H1 : Heap) (locs1 : List Loc), m_W D cy s b lay (m_si μ k j v) H1 locs1 → H1.size = H.size → W p l e R s m args below meth c H1 locs1 cells slots Q (F0 m (pc + 3) ls rest)) : W p l e R s m args below meth c H locs cells slots Q (F0 m pc ls (.int v :: .ref (b + k) :: rest)) := by
  refine m_putG hx hb hts hown hW k j (m_w_at hk) hin ty0 hty hnm hc hj hlink (Or.inl hfin) hn hfit ?_ hdg ?_ kk
  · simpa using (List.getElem?_eq_some_iff.mp hf).1
  · refine m_w_set (x' := .inl (ci, fs)) hk (fun _ _ => rfl) hk ?_ (fun i hi => ⟨fun j' => by simp [m_si, hi], fun _ => rfl⟩)
    show (Sum.inr (ci, _) : va_E) = Sum.inr (ci, _)
    rw [m_fs_set (ν := m_si μ k j v) (g := 0) hf (by simp [m_v, m_si]) (fun i hi => by simp [m_si, hi]), m_set_same hf]
/-- a long field is written -/
theorem m_putl (hx : p.tables.exec = Jvm.exec) (hb : c.code = cc) {own C : String} {T : u_T} {N ci index : Nat} (hts : ∀ w ∈ TB, w.before args s = true) (hown : s.vm.findClass own = some m.cls) (hW : m_W D cy s b lay μ H locs) (k j : Nat) {fs : List Nat} (hk : lay[k]? = some (.inl (ci, fs))) (hf : fs[j]? = some 1) (hin : ∀ w ∈ u_ws C T N, w ∈ TB) {ty0 : Nat → FieldType} (hty : ∀ k, k < N → parseFieldDescriptor (T k).2.2.1 = some (ty0 k)) (hnm : ∀ a, a < N → ∀ b, b < N → a ≠ b → (T a).2.1 ≠ (T b).2.1) (hc : vwCl[ci]? = some (C, T, N)) (hj : j < N) (hlink : Cond.fieldLink own index (T j).1 (T j).2.1 (T j).2.2.1 ∈ TB) (hfin : (T j).2.2.2 = false) {v : Int64} (hn : narrow (ty0 j) (.long v) = .long v) (hfit : fits (ty0 j) (.long v) = true) (hdg : decode cc pc = .ok (.putfield index, 3))
    (kk : ∀ (H1 : Heap) (locs1 : List Loc), m_W D cy s b lay (m_sl μ k j v) H1 locs1 → H1.size = H.size → W p l e R s m args below meth c H1 locs1 cells slots Q (F0 m (pc + 3) ls rest)) : W p l e R s m args below meth c H locs cells slots Q (F0 m pc ls (.long v :: .ref (b + k) :: rest)) := by
  refine m_putG hx hb hts hown hW k j (m_w_at hk) hin ty0 hty hnm hc hj hlink (Or.inl hfin) hn hfit ?_ hdg ?_ kk
  · simpa using (List.getElem?_eq_some_iff.mp hf).1
  · refine m_w_set (x' := .inl (ci, fs)) hk (fun _ _ => rfl) hk ?_ (fun i hi => ⟨fun _ => rfl, fun j' => by simp [m_sl, hi]⟩)
    show (Sum.inr (ci, _) : va_E) = Sum.inr (ci, _)
    rw [m_fs_set (ν := m_sl μ k j v) (g := 1) hf (by simp [m_v, m_sl]) (fun i hi => by simp [m_sl, hi]), m_set_same hf]
/-- a final reference is set, in a constructor -/
theorem m_putr (hx : p.tables.exec = Jvm.exec) (hb : c.code = cc) {own C : String} {T : u_T} {N ci index : Nat} (hts : ∀ w ∈ TB, w.before args s = true) (hown : s.vm.findClass own = some m.cls) (hW : m_W D cy s b lay μ H locs) (k j n : Nat) {fs : List Nat} (hk : lay[k]? = some (.inl (ci, fs))) (hf : fs[j]? = some 2) (hin : ∀ w ∈ u_ws C T N, w ∈ TB) {ty0 : Nat → FieldType} (hty : ∀ k, k < N → parseFieldDescriptor (T k).2.2.1 = some (ty0 k)) (hnm : ∀ a, a < N → ∀ b, b < N → a ≠ b → (T a).2.1 ≠ (T b).2.1) (hc : vwCl[ci]? = some (C, T, N)) (hj : j < N) (hlink : Cond.fieldLink own index (T j).1 (T j).2.1 (T j).2.2.1 ∈ TB) (hfin : (T j).2.2.2 = true ∧ meth.name = "<init>" ∧ (T j).1 = own) (hn : narrow (ty0 j) (.ref (b + n)) = .ref (b + n)) (hfit : fits (ty0 j) (.ref (b + n)) = true) {lay' : List mL} (hlay : lay.set k (.inl (ci, fs.set j (n + 3))) = lay') (hdg : decode cc pc = .ok (.putfield index, 3))
    (kk : ∀ (H1 : Heap) (locs1 : List Loc), m_W D cy s b lay' μ H1 locs1 → H1.size = H.size → W p l e R s m args below meth c H1 locs1 cells slots Q (F0 m (pc + 3) ls rest)) : W p l e R s m args below meth c H locs cells slots Q (F0 m pc ls (.ref (b + n) :: .ref (b + k) :: rest)) := by
  have hkl := (List.getElem?_eq_some_iff.mp hk).1
  refine m_putG hx hb hts hown hW k j (m_w_at hk) hin ty0 hty hnm hc hj hlink (Or.inr hfin) hn hfit ?_ hdg ?_ kk
  · simpa using (List.getElem?_eq_some_iff.mp hf).1
  · refine m_w_set (x' := .inl (ci, fs.set j (n + 3))) hk (fun i hi => by rw [← hlay, List.getElem?_set_ne (Ne.symm hi)]) (by rw [← hlay, List.getElem?_set_self hkl]) ?_ (fun i hi => ⟨fun _ => rfl, fun _ => rfl⟩)
    show (Sum.inr (ci, _) : va_E) = Sum.inr (ci, _)
    rw [m_fs_set (ν := μ) (g := n + 3) hf (by simp [m_v]) (fun i hi => ⟨rfl, rfl⟩)]
-- arrays
theorem m_iald (hx : p.tables.exec = Jvm.exec) (hb : c.code = cc) (hW : m_W D cy s b lay μ H locs) (k : Nat) {n : Nat} {rs : List Nat} (hk : lay[k]? = some (.inr (0, n, rs))) {i : Int32} (hin : vp_in i n) (hdg : decode cc pc = .ok (.iaload, 1))
    (kk : W p l e R s m args below meth c H locs cells slots Q (F0 m (pc + 1) ls (.int (μ.1 k i.toNatClampNeg) :: rest))) : W p l e R s m args below meth c H locs cells slots Q (F0 m pc ls (.int i :: .ref (b + k) :: rest)) :=
  va_iald hx hb hW.1.1 hW.2.1 k 0 (m_w_at hk) rfl hin hdg kk
theorem m_zald (hx : p.tables.exec = Jvm.exec) (hb : c.code = cc) (hW : m_W D cy s b lay μ H locs) (k : Nat) {n : Nat} {rs : List Nat} (hk : lay[k]? = some (.inr (1, n, rs))) {i : Int32} (hin : vp_in i n) (hdg : decode cc pc = .ok (.baload, 1))
    (kk : W p l e R s m args below meth c H locs cells slots Q (F0 m (pc + 1) ls (.int (μ.1 k i.toNatClampNeg) :: rest))) : W p l e R s m args below meth c H locs cells slots Q (F0 m pc ls (.int i :: .ref (b + k) :: rest)) :=
  va_zald hx hb hW.1.1 hW.2.1 k 1 (m_w_at hk) rfl hin hdg kk
theorem m_lald (hx : p.tables.exec = Jvm.exec) (hb : c.code = cc) (hW : m_W D cy s b lay μ H locs) (k : Nat) {n : Nat} {rs : List Nat} (hk : lay[k]? = some (.inr (2, n, rs))) {i : Int32} (hin : vp_in i n) (hdg : decode cc pc = .ok (.laload, 1))
    (kk : W p l e R s m args below meth c H locs cells slots Q (F0 m (pc + 1) ls (.long (μ.2 k i.toNatClampNeg) :: rest))) : W p l e R s m args below meth c H locs cells slots Q (F0 m pc ls (.int i :: .ref (b + k) :: rest)) :=
  va_lald hx hb hW.1.1 hW.2.1 k 2 (m_w_at hk) rfl hin hdg kk
theorem m_aald (hx : p.tables.exec = Jvm.exec) (hb : c.code = cc) (hW : m_W D cy s b lay μ H locs) (k : Nat) {n q : Nat} {rs : List Nat} (hk : lay[k]? = some (.inr (3, n, rs))) {i : Int32} (hin : vp_in i n) (hq : rs[i.toNatClampNeg]? = some q) (hdg : decode cc pc = .ok (.aaload, 1))
    (kk : W p l e R s m args below meth c H locs cells slots Q (F0 m (pc + 1) ls (.ref (b + q) :: rest))) : W p l e R s m args below meth c H locs cells slots Q (F0 m pc ls (.int i :: .ref (b + k) :: rest)) :=
  va_aldq hx hb hW.1.1 hW.2.1 k 3 (m_w_at hk) rfl hin hdg (by rw [hq]; exact kk)
theorem m_alen (hx : p.tables.exec = Jvm.exec) (hb : c.code = cc) (hW : m_W D cy s b lay μ H locs) (k : Nat) {a n : Nat} {rs : List Nat} (hk : lay[k]? = some (.inr (a, n, rs))) (hdg : decode cc pc = .ok (.arraylength, 1))
    (kk : W p l e R s m args below meth c H locs cells slots Q (F0 m (pc + 1) ls (.int (nI n) :: rest))) : W p l e R s m args below meth c H locs cells slots Q (F0 m pc ls (.ref (b + k) :: rest)) := by
  match a, hk with
  | 0, hk => exact va_alen hx hb hW.1.1 hW.2.1 k 0 (m_w_at hk) (ty := .int) rfl rfl hdg kk
  | 1, hk => exact va_alen hx hb hW.1.1 hW.2.1 k 1 (m_w_at hk) (ty := .boolean) rfl rfl hdg kk
  | 2, hk => exact va_alen hx hb hW.1.1 hW.2.1 k 2 (m_w_at hk) (ty := .long) rfl rfl hdg kk
  | a + 3, hk => exact va_alen hx hb hW.1.1 hW.2.1 k 3 (m_w_at hk) (ty := .object "BeamPlate$Row") rfl rfl hdg kk
theorem m_iast (hx : p.tables.exec = Jvm.exec) (hb : c.code = cc) (hW : m_W D cy s b lay μ H locs) (k : Nat) {n : Nat} {rs : List Nat} (hk : lay[k]? = some (.inr (0, n, rs))) {i x : Int32} (hin : vp_in i n) (hdg : decode cc pc = .ok (.iastore, 1))
    (kk : ∀ (H1 : Heap) (locs1 : List Loc), m_W D cy s b lay (m_si μ k i.toNatClampNeg x) H1 locs1 → H1.size = H.size → W p l e R s m args below meth c H1 locs1 cells slots Q (F0 m (pc + 1) ls rest)) : W p l e R s m args below meth c H locs cells slots Q (F0 m pc ls (.int x :: .int i :: .ref (b + k) :: rest)) := by
  obtain ⟨hK, hP, hS⟩ := hW
  have ha := m_w_at (cy := cy) (b := b) (μ := μ) hk
  refine W.iast hx hb (hP k _ ha) ((hK.1.2 0 _ rfl).1 n (fun j => .int (μ.1 k j))) (fun q => by cases q) (by show ¬ (i < 0 ∨ (arrV _ _ _).slots.size ≤ _); rw [arrV_size]; exact hin) rfl rfl hdg fun H1 e z oq => ?_
  have hP' := hP.set (m_D (cy := cy) (b := b) (lay := lay) (μ := μ)) ha (e := m_e cy b (m_si μ k i.toNatClampNeg x) k (.inr (0, n, rs))) (by
    show H1[b + k]? = some (vp_cell _ _)
    rw [e]
    rw [vp_cell_i, vp_cell_i, arrV_store]
    congr 2
    funext q
    by_cases hq : q = i.toNatClampNeg
    · subst hq
      simp [updV, m_si]
    · simp [updV, m_si, hq]) oq
  rw [m_w_set (lay' := lay) (μ := μ) (ν := m_si μ k i.toNatClampNeg x) (x' := .inr (0, n, rs)) hk (fun _ _ => rfl) hk rfl (fun i hi => ⟨fun j' => by simp [m_si, hi], fun _ => rfl⟩)] at hP'
  exact kk H1 _ ⟨hK, hP', hS.put z oq (Nat.le_add_right b k)⟩ z
theorem m_zast (hx : p.tables.exec = Jvm.exec) (hb : c.code = cc) (hW : m_W D cy s b lay μ H locs) (k : Nat) {n : Nat} {rs : List Nat} (hk : lay[k]? = some (.inr (1, n, rs))) {i x : Int32} (hin : vp_in i n) (hz : narrow .boolean (.int x) = .int x) (hdg : decode cc pc = .ok (.bastore, 1))
    (kk : ∀ (H1 : Heap) (locs1 : List Loc), m_W D cy s b lay (m_si μ k i.toNatClampNeg x) H1 locs1 → H1.size = H.size → W p l e R s m args below meth c H1 locs1 cells slots Q (F0 m (pc + 1) ls rest)) : W p l e R s m args below meth c H locs cells slots Q (F0 m pc ls (.int x :: .int i :: .ref (b + k) :: rest)) := by
  obtain ⟨hK, hP, hS⟩ := hW
  have ha := m_w_at (cy := cy) (b := b) (μ := μ) hk
  refine W.zast hx hb (hP k _ ha) ((hK.1.2 1 _ rfl).1 n (fun j => .int (μ.1 k j))) (fun q => by cases q) (by show ¬ (i < 0 ∨ (arrV _ _ _).slots.size ≤ _); rw [arrV_size]; exact hin) rfl rfl hdg fun H1 e z oq => ?_
  have hP' := hP.set (m_D (cy := cy) (b := b) (lay := lay) (μ := μ)) ha (e := m_e cy b (m_si μ k i.toNatClampNeg x) k (.inr (1, n, rs))) (by
    show H1[b + k]? = some (vp_cell _ _)
    rw [e, hz]
    rw [vp_cell_i, vp_cell_i, arrV_store]
    congr 2
    funext q
    by_cases hq : q = i.toNatClampNeg
    · subst hq
      simp [updV, m_si]
    · simp [updV, m_si, hq]) oq
  rw [m_w_set (lay' := lay) (μ := μ) (ν := m_si μ k i.toNatClampNeg x) (x' := .inr (1, n, rs)) hk (fun _ _ => rfl) hk rfl (fun i hi => ⟨fun j' => by simp [m_si, hi], fun _ => rfl⟩)] at hP'
  exact kk H1 _ ⟨hK, hP', hS.put z oq (Nat.le_add_right b k)⟩ z
theorem m_last (hx : p.tables.exec = Jvm.exec) (hb : c.code = cc) (hW : m_W D cy s b lay μ H locs) (k : Nat) {n : Nat} {rs : List Nat} (hk : lay[k]? = some (.inr (2, n, rs))) {i : Int32} {x : Int64} (hin : vp_in i n) (hdg : decode cc pc = .ok (.lastore, 1))
    (kk : ∀ (H1 : Heap) (locs1 : List Loc), m_W D cy s b lay (m_sl μ k i.toNatClampNeg x) H1 locs1 → H1.size = H.size → W p l e R s m args below meth c H1 locs1 cells slots Q (F0 m (pc + 1) ls rest)) : W p l e R s m args below meth c H locs cells slots Q (F0 m pc ls (.long x :: .int i :: .ref (b + k) :: rest)) := by
  obtain ⟨hK, hP, hS⟩ := hW
  have ha := m_w_at (cy := cy) (b := b) (μ := μ) hk
  refine W.last hx hb (hP k _ ha) ((hK.1.2 2 _ rfl).1 n (fun j => .long (μ.2 k j))) (fun q => by cases q) (by show ¬ (i < 0 ∨ (arrV _ _ _).slots.size ≤ _); rw [arrV_size]; exact hin) rfl rfl hdg fun H1 e z oq => ?_
  have hP' := hP.set (m_D (cy := cy) (b := b) (lay := lay) (μ := μ)) ha (e := m_e cy b (m_sl μ k i.toNatClampNeg x) k (.inr (2, n, rs))) (by
    show H1[b + k]? = some (vp_cell _ _)
    rw [e]
    rw [vp_cell_l, vp_cell_l, arrV_store]
    congr 2
    funext q
    by_cases hq : q = i.toNatClampNeg
    · subst hq
      simp [updV, m_sl]
    · simp [updV, m_sl, hq]) oq
  rw [m_w_set (lay' := lay) (μ := μ) (ν := m_sl μ k i.toNatClampNeg x) (x' := .inr (2, n, rs)) hk (fun _ _ => rfl) hk rfl (fun i hi => ⟨fun _ => rfl, fun j' => by simp [m_sl, hi]⟩)] at hP'
  exact kk H1 _ ⟨hK, hP', hS.put z oq (Nat.le_add_right b k)⟩ z
/-- a Row is put into an array of Rows, at the first free place -/
theorem m_aast (hx : p.tables.exec = Jvm.exec) (hb : c.code = cc) (hW : m_W D cy s b lay μ H locs) (k q : Nat) {n : Nat} {rs fs : List Nat} (hk : lay[k]? = some (.inr (3, n, rs))) (hq : lay[q]? = some (.inl (5, fs))) {i : Int32} (hin : vp_in i n) (hi : i.toNatClampNeg = rs.length) {lay' : List mL} (hlay : lay.set k (.inr (3, n, rs ++ [q])) = lay') (hdg : decode cc pc = .ok (.aastore, 1))
    (kk : ∀ (H1 : Heap) (locs1 : List Loc), m_W D cy s b lay' μ H1 locs1 → H1.size = H.size → W p l e R s m args below meth c H1 locs1 cells slots Q (F0 m (pc + 1) ls rest)) : W p l e R s m args below meth c H locs cells slots Q (F0 m pc ls (.ref (b + q) :: .int i :: .ref (b + k) :: rest)) := by
  obtain ⟨hK, hP, hS⟩ := hW
  have hkl := (List.getElem?_eq_some_iff.mp hk).1
  have ha := m_w_at (cy := cy) (b := b) (μ := μ) hk
  have hv := m_w_at (cy := cy) (b := b) (μ := μ) hq
  have hlt : i.toNatClampNeg < n := Nat.not_le.mp fun q => hin (Or.inr q)
  have h0 : ¬ i < 0 := fun q => hin (Or.inl q)
  obtain ⟨r', hr', cellV, g1, g2, g3, -⟩ := hP q _ hv
  have hcls := (hK.1.1 5 (RX5, TX5, 2) rfl).2
  obtain ⟨kA, comp, k1, k2, k3, -⟩ := (hK.1.2 3 _ rfl).2
  have hcomp : comp = D.1 5 := Option.some.inj (k3.symm.trans hcls.1)
  subst hcomp
  obtain ⟨kC, hkC, -⟩ := hcls.2
  refine W.aast hx hb (hP k _ ha) (fun q h => by cases h) (fun h => by cases h) k1 k2 rfl hkC ⟨h0, by show _ < (arrV _ _ _).slots.size; rw [arrV_size]; exact hlt⟩ g1 (fun q h => by rw [g3] at h; cases h) (by rw [g2]; exact hkC) (by rw [g2]; exact va_assign hcls) rfl rfl hdg fun H1 e z oq => ?_
  have hP' := hP.set (m_D (cy := cy) (b := b) (lay := lay) (μ := μ)) ha (e := m_e cy b μ k (.inr (3, n, rs ++ [q]))) (by
    show H1[b + k]? = some (vp_cell _ _)
    rw [e]
    rw [vp_cell_q, vp_cell_q, arrV_store]
    congr 2
    funext j
    by_cases hj : j = i.toNatClampNeg
    · subst hj
      simp [updV, va_rf, hi]
    · have hj2 : j ≠ rs.length := by rw [← hi]; exact hj
      have : (rs ++ [q])[j]? = rs[j]? := by
        by_cases hl : j < rs.length
        · rw [List.getElem?_append_left hl]
        · rw [List.getElem?_eq_none (by simp; omega), List.getElem?_eq_none (by omega)]
      simp [updV, hj, this]) oq
  rw [m_w_set (lay' := lay') (μ := μ) (ν := μ) (x' := .inr (3, n, rs ++ [q])) hk (fun i hi => by rw [← hlay, List.getElem?_set_ne (Ne.symm hi)]) (by rw [← hlay, List.getElem?_set_self hkl]) rfl (fun i hi => ⟨fun _ => rfl, fun _ => rfl⟩)] at hP'
  exact kk H1 _ ⟨hK, hP', hS.put z oq (Nat.le_add_right b k)⟩ z
-- new cells: the next place
theorem m_w_push {lay : List mL} {μ ν : mM} {x : mL} (h : ∀ k, k < lay.length → (∀ j, ν.1 k j = μ.1 k j) ∧ ∀ j, ν.2 k j = μ.2 k j) : m_w cy b (lay ++ [x]) ν = m_w cy b lay μ ++ [(b + lay.length, m_e cy b ν lay.length x)] := by
  refine List.ext_getElem? fun i => ?_
  by_cases hi : i < lay.length
  · rw [List.getElem?_append_left (by simpa [m_w] using hi)]
    simp only [m_w, List.getElem?_mapIdx, List.getElem?_append_left hi]
    cases lay[i]? with
    | none => rfl
    | some y =>
      show some (b + i, m_e cy b ν i y) = some (b + i, m_e cy b μ i y)
      rw [m_e_cong (h i hi).1 (h i hi).2 y]
  · by_cases hj : i = lay.length
    · subst hj
      have e1 : (m_w cy b lay μ).length = lay.length := by simp [m_w]
      rw [List.getElem?_append_right (by rw [e1]; exact Nat.le_refl _), e1, Nat.sub_self]
      simp [m_w, List.getElem?_mapIdx]
    · rw [List.getElem?_eq_none (by simp [m_w]; omega), List.getElem?_eq_none (by simp [m_w]; omega)]
theorem m_push {lay : List mL} {μ : mM} {x : mL} {H1 : Heap} (hW : m_W D cy s b lay μ H locs) (hz : H.size = b + lay.length) (hA : m_e cy b (m_z μ lay.length) lay.length x = m_e cy b (m_z μ lay.length) lay.length x) (he : va_at D vwCl (b + lay.length, m_e cy b (m_z μ lay.length) lay.length x) H1) (z1 : H1.size = H.size + 1) (o1 : ∀ q, q < H.size → H1[q]? = H[q]?) : m_W D cy s b (lay ++ [x]) (m_z μ lay.length) H1 locs := by
  obtain ⟨hK, hP, hS⟩ := hW
  refine ⟨hK, ?_, ⟨Nat.le_trans hS.1 (by omega), fun q h1 h2 => (o1 q (Nat.lt_of_lt_of_le h1 hS.1)).trans (hS.2.1 q h1 h2), hS.2.2⟩⟩
  rw [m_w_push (μ := μ) (fun k hk => ⟨fun j => by simp [m_z, Nat.ne_of_lt hk], fun j => by simp [m_z, Nat.ne_of_lt hk]⟩)]
  refine (hP.kept fun k q hq => o1 q.1 ((hP k q hq).lt)).app fun k q hq => ?_
  have hk0 : k < 1 := (List.getElem?_eq_some_iff.mp hq).1
  rw [show k = 0 by omega] at hq
  cases hq
  exact he
theorem m_newa (hx : p.tables.exec = Jvm.exec) (hb : c.code = cc) (hts : ∀ w ∈ TB, w.before args s = true) (hW : m_W D cy s b lay μ H locs) (hz : H.size = b + lay.length) (a : Nat) {atype : ArrayType} (harr : Cond.arrayClass (newarray.typeOf atype) ∈ TB) (hty : (a = 0 ∧ atype = .int) ∨ (a = 1 ∧ atype = .boolean) ∨ (a = 2 ∧ atype = .long)) {n : Int32} {N : Nat} (hn : ¬ n < 0) (hN : n.toNatClampNeg = N) (hbytes : N * 8 ≤ 536870912) (hcells : cells + 1 ≤ R.cells) (hslots : slots + N ≤ R.slots) (hdg : decode cc pc = .ok (.newarray atype, 2))
    (kk : ∀ (H1 : Heap), m_W D cy s b (lay ++ [.inr (a, N, [])]) (m_z μ lay.length) H1 locs → H1.size = b + (lay ++ [(.inr (a, N, []) : mL)]).length → W p l e R s m args below meth c H1 locs (cells + 1) (slots + N) Q (F0 m (pc + 2) ls (.ref (b + lay.length) :: rest))) : W p l e R s m args below meth c H locs cells slots Q (F0 m pc ls (.int n :: rest)) := by
  have hbt : ∀ t, componentBytes t ≤ 8 → N * componentBytes t ≤ 536870912 := fun t h => Nat.le_trans (Nat.mul_le_mul_left N h) hbytes
  have key : ∀ (H1 : Heap) (cA : ClassId), H1[b + lay.length]? = some (arrV cA N (fun _ => defaultValue (newarray.typeOf atype))) → H1.size = b + lay.length + 1 → (∀ q, q < b + lay.length → H1[q]? = H[q]?) → s.vm.findClass ("[" ++ (newarray.typeOf atype).toString) = some cA → W p l e R s m args below meth c H1 locs (cells + 1) (slots + N) Q (F0 m (pc + 2) ls (.ref (b + lay.length) :: rest)) := by
    intro H1 cA e1 z1 o1 hf
    refine kk H1 (m_push hW hz rfl ?_ (by rw [hz]; exact z1) (by rw [hz]; exact o1)) (by rw [z1]; simp; omega)
    rcases hty with ⟨rfl, rfl⟩ | ⟨rfl, rfl⟩ | ⟨rfl, rfl⟩
    · have hc : cA = cy 0 := Option.some.inj (hf.symm.trans (hW.1.1.2 0 _ rfl).2)
      subst hc
      show H1[b + lay.length]? = some (vp_cell _ _)
      rw [vp_cell_i, e1]
      simp [m_z]; rfl
    · have hc : cA = cy 1 := Option.some.inj (hf.symm.trans (hW.1.1.2 1 _ rfl).2)
      subst hc
      show H1[b + lay.length]? = some (vp_cell _ _)
      rw [vp_cell_i, e1]
      simp [m_z]; rfl
    · have hc : cA = cy 2 := Option.some.inj (hf.symm.trans (hW.1.1.2 2 _ rfl).2)
      subst hc
      show H1[b + lay.length]? = some (vp_cell _ _)
      rw [vp_cell_l, e1]
      simp [m_z]; rfl
  refine va_newaK hx hb (hts _ harr) rfl hdg rfl hn hN (hbt _ ?_) hcells hslots hz fun H1 cA e1 z1 o1 _ hf => key H1 cA e1 z1 o1 hf
  rcases hty with ⟨-, rfl⟩ | ⟨-, rfl⟩ | ⟨-, rfl⟩ <;> decide
theorem m_newq (hx : p.tables.exec = Jvm.exec) (hb : c.code = cc) (hts : ∀ w ∈ TB, w.before args s = true) {own : String} {index : Nat} (hown : s.vm.findClass own = some m.cls) (hW : m_W D cy s b lay μ H locs) (hz : H.size = b + lay.length) (hcl : Cond.classLink own index "BeamPlate$Row" ∈ TB) {n : Int32} {N : Nat} (hn : ¬ n < 0) (hN : n.toNatClampNeg = N) (hbytes : N * 4 ≤ 536870912) (hcells : cells + 1 ≤ R.cells) (hslots : slots + N ≤ R.slots) (hdg : decode cc pc = .ok (.anewarray index, 3))
    (kk : ∀ (H1 : Heap), m_W D cy s b (lay ++ [.inr (3, N, [])]) (m_z μ lay.length) H1 locs → H1.size = b + (lay ++ [(.inr (3, N, []) : mL)]).length → W p l e R s m args below meth c H1 locs (cells + 1) (slots + N) Q (F0 m (pc + 3) ls (.ref (b + lay.length) :: rest))) : W p l e R s m args below meth c H locs cells slots Q (F0 m pc ls (.int n :: rest)) := by
  subst hN
  refine W.anew hx hb hown (hts _ hcl) (va_AO.use hW.1.2.2) rfl hdg rfl hn hbytes hcells hslots fun cA kA comp f1 f2 f3 f4 => ?_
  generalize hH1 : H.push ({ cls := cA, slots := Array.replicate n.toNatClampNeg .null, vm := .none } : Cell) = H1
  have z1 : H1.size = H.size + 1 := by rw [← hH1, Array.size_push]
  have e1 : H1[H.size]? = some (arrV cA n.toNatClampNeg (fun _ => .null)) := by rw [← hH1, Array.getElem?_push_size, ← arrV_new]
  have o1 : ∀ q : Nat, q < H.size → H1[q]? = H[q]? := fun q hq => by rw [← hH1, Array.getElem?_push, if_neg (Nat.ne_of_lt hq)]
  have hc : cA = cy 3 := by
    obtain ⟨_, _, _, _, _, g4⟩ := (hW.1.1.2 3 _ rfl).2
    exact Option.some.inj (f1.symm.trans g4)
  subst hc
  rw [hz] at e1
  have hk := kk H1 (m_push hW hz rfl (by
    show H1[b + lay.length]? = some (vp_cell _ _)
    rw [vp_cell_q, e1]
    simp [va_rf]) z1 o1) (by rw [z1, hz]; simp; omega)
  show W p l e R s m args below meth c H1 locs (cells + 1) (slots + n.toNatClampNeg) Q (F0 m (pc + 3) ls (.ref H.size :: rest))
  rw [hz]
  exact hk
theorem m_new (hx : p.tables.exec = Jvm.exec) (hb : c.code = cc) (hts : ∀ w ∈ TB, w.before args s = true) {own C : String} {T : u_T} {N ci index : Nat} (hown : s.vm.findClass own = some m.cls) (hW : m_W D cy s b lay μ H locs) (hz : H.size = b + lay.length) (hin : ∀ w ∈ u_ws C T N, w ∈ TB) {ty0 : Nat → FieldType} (hty : ∀ k, k < N → parseFieldDescriptor (T k).2.2.1 = some (ty0 k)) (hcl : Cond.classLink own index C ∈ TB) (hinst : Cond.instantiable C N ∈ TB) (hini : Cond.initialized C ∈ TB) (hc : vwCl[ci]? = some (C, T, N)) (fs : List Nat) (hfs : ∀ j, j < N → defaultValue (ty0 j) = vp_V (fs.mapIdx (fun j f => m_v b (m_z μ lay.length) lay.length j f)) j) (hcells : cells + 1 ≤ R.cells) (hslots : slots + N ≤ R.slots) (hdg : decode cc pc = .ok (.new index, 3))
    (kk : ∀ (H1 : Heap), m_W D cy s b (lay ++ [.inl (ci, fs)]) (m_z μ lay.length) H1 locs → H1.size = b + (lay ++ [(.inl (ci, fs) : mL)]).length → W p l e R s m args below meth c H1 locs (cells + 1) (slots + N) Q (F0 m (pc + 3) ls (.ref (b + lay.length) :: rest))) : W p l e R s m args below meth c H locs cells slots Q (F0 m pc ls rest) := by
  have hKn := hW.1.1.1 ci _ hc
  refine W.newcK hx hb hown (hts _ hcl) (hts _ hinst) (hts _ hini) rfl hdg hcells hslots hKn.2.1 hz fun H1 kC hkC e1 z1 o1 => ?_
  refine kk H1 (m_push hW hz rfl ⟨_, hc, (u_born ty0 hts hin hKn hkC e1 hty).to hfs⟩ (by rw [hz]; exact z1) (by rw [hz]; exact o1)) (by rw [z1]; simp; omega)
end MR
end
section
-- CONTRACTS over the memory: 'y, at the memory μ, with the arguments as, answers r and leaves ν, and post r ν'
abbrev m_R (d mc ms : Nat) : Room := { frames := d, cells := mc, slots := ms, locals := 40 * d }
abbrev m_B (D : va_G) (cy : Nat → ClassId) (b : Nat) (lay : List mL) (μ : mM) (U : State) : Prop := m_K D cy U ∧ va_P D vwCl (m_w cy b lay μ) U.heap
abbrev m_Bz (D : va_G) (cy : Nat → ClassId) (b : Nat) (lay : List mL) (μ : mM) (U : State) : Prop := m_K D cy U ∧ va_P D vwCl (m_w cy b lay μ) U.heap ∧ U.heap.size = b + lay.length
abbrev m_E (D : va_G) (cy : Nat → ClassId) (b : Nat) (lay : List mL) (ν : mM) (t : State) : Prop := va_P D vwCl (m_w cy b lay ν) t.heap
abbrev m_Ez (D : va_G) (cy : Nat → ClassId) (b : Nat) (lay : List mL) (ν : mM) (t : State) : Prop := va_P D vwCl (m_w cy b lay ν) t.heap ∧ t.heap.size = b + lay.length
abbrev m_Qi (D : va_G) (cy : Nat → ClassId) (b : Nat) (lay : List mL) (post : Int32 → mM → Prop) : Array Value → State → Outcome → State → Prop := va_Qi post (m_E D cy b lay) (fun q => b ≤ q)
abbrev m_Ql (D : va_G) (cy : Nat → ClassId) (b : Nat) (lay : List mL) (post : Int64 → mM → Prop) : Array Value → State → Outcome → State → Prop := va_Ql post (m_E D cy b lay) (fun q => b ≤ q)
abbrev m_Qv (D : va_G) (cy : Nat → ClassId) (b : Nat) (lay : List mL) (post : mM → Prop) : Array Value → State → Outcome → State → Prop := va_Qv post (m_E D cy b lay) (fun q => b ≤ q)
abbrev m_Qq (D : va_G) (cy : Nat → ClassId) (b : Nat) (lay : List mL) (post : Option Nat → mM → Prop) : Array Value → State → Outcome → State → Prop := va_Qq (fun r ν => ∃ q : Option Nat, r = q.map (fun q => b + q) ∧ post q ν) (m_E D cy b lay) (fun q => b ≤ q)
abbrev m_Qz (D : va_G) (cy : Nat → ClassId) (b : Nat) (lay : List mL) (post : mM → Prop) : Array Value → State → Outcome → State → Prop := va_Qv post (m_Ez D cy b lay) (fun q => b ≤ q)
def m_Ci (l : Launch) (y : MethodName) (cc : ByteArray) (n : Nat) (ret : Option FieldType) (d : Nat) (D : va_G) (cy : Nat → ClassId) (b : Nat) (lay : List mL) (μ : mM) (as : List Value) (post : Int32 → mM → Prop) : Prop := Met l y (.code y cc n ret :: TB) (m_R d 0 0) (va_Pc as (m_B D cy b lay μ)) (m_Qi D cy b lay post) 0 0 (fun q => b ≤ q)
def m_Cl (l : Launch) (y : MethodName) (cc : ByteArray) (n : Nat) (ret : Option FieldType) (d : Nat) (D : va_G) (cy : Nat → ClassId) (b : Nat) (lay : List mL) (μ : mM) (as : List Value) (post : Int64 → mM → Prop) : Prop := Met l y (.code y cc n ret :: TB) (m_R d 0 0) (va_Pc as (m_B D cy b lay μ)) (m_Ql D cy b lay post) 0 0 (fun q => b ≤ q)
def m_Cv (l : Launch) (y : MethodName) (cc : ByteArray) (n : Nat) (ret : Option FieldType) (d : Nat) (D : va_G) (cy : Nat → ClassId) (b : Nat) (lay : List mL) (μ : mM) (as : List Value) (post : mM → Prop) : Prop := Met l y (.code y cc n ret :: TB) (m_R d 0 0) (va_Pc as (m_B D cy b lay μ)) (m_Qv D cy b lay post) 0 0 (fun q => b ≤ q)
def m_Cq (l : Launch) (y : MethodName) (cc : ByteArray) (n : Nat) (ret : Option FieldType) (d : Nat) (D : va_G) (cy : Nat → ClassId) (b : Nat) (lay : List mL) (μ : mM) (as : List Value) (post : Option Nat → mM → Prop) : Prop := Met l y (.code y cc n ret :: TB) (m_R d 0 0) (va_Pc as (m_B D cy b lay μ)) (m_Qq D cy b lay post) 0 0 (fun q => b ≤ q)
/-- a constructor: the layout grows from lay to lay', by mc cells of ms slots -/
def m_Cz (l : Launch) (y : MethodName) (cc : ByteArray) (n d mc ms : Nat) (D : va_G) (cy : Nat → ClassId) (b : Nat) (lay lay' : List mL) (μ : mM) (as : List Value) (post : mM → Prop) : Prop := Met l y (.code y cc n none :: TB) (m_R d mc ms) (va_Pc as (m_Bz D cy b lay μ)) (m_Qz D cy b lay' post) mc ms (fun q => b ≤ q)
theorem m_K.moved {D : va_G} {cy : Nat → ClassId} {s U : State} (hW : s.WarmedH U.vm) (h : m_K D cy s) : m_K D cy U := ⟨va_K.moved hW.alike h.1, fun w hw hn => m_nest_moved hW hn (h.2.1 w hw hn), va_AO.moved hW.alike h.2.2⟩
theorem m_K.called {D : va_G} {cy : Nat → ClassId} {U : State} {g : JFrame} {mk : MethodId} {a : Array Value} (h : m_K D cy U) : m_K D cy (U.calling g mk a) := ⟨va_K.moved (u := U) (U := U.calling g mk a) (Vm.Alike.refl U.vm) h.1, fun w hw hn => m_nest_same (s := U) (U := U.calling g mk a) rfl hn (h.2.1 w hw hn), va_AO.moved (u := U) (U := U.calling g mk a) (Vm.Alike.refl U.vm) h.2.2⟩
-- a method's words, of its call
def m_mI (y : MethodName) (cc : ByteArray) (n : Nat) (ret : Option FieldType) (na : Nat) : Prop := Cond.instanceMethod y ∈ TB ∧ Cond.selects y.cls y y ∈ TB ∧ Cond.initialized y.cls ∈ TB ∧ Cond.code y cc n ret ∈ TB ∧ y.cls ≠ "java/lang/invoke/MethodHandle" ∧ y.cls ≠ "java/lang/invoke/VarHandle" ∧ (parseMethodDescriptor y.desc).map (fun d => d.parameters.length) = some na
def m_mS (y : MethodName) (cc : ByteArray) (n : Nat) (ret : Option FieldType) (na : Nat) : Prop := Cond.static y ∈ TB ∧ Cond.initialized y.cls ∈ TB ∧ Cond.code y cc n ret ∈ TB ∧ y.cls ≠ "java/lang/invoke/MethodHandle" ∧ y.cls ≠ "java/lang/invoke/VarHandle" ∧ (parseMethodDescriptor y.desc).map (fun d => d.parameters.length) = some na
def m_mC (y : MethodName) (cc : ByteArray) (n : Nat) (na : Nat) : Prop := Cond.instanceMethod y ∈ TB ∧ y.name = "<init>" ∧ Cond.initialized y.cls ∈ TB ∧ Cond.code y cc n none ∈ TB ∧ y.cls ≠ "java/lang/invoke/MethodHandle" ∧ y.cls ≠ "java/lang/invoke/VarHandle" ∧ (parseMethodDescriptor y.desc).map (fun d => d.parameters.length) = some na
section MC
variable {p : Program} {l : Launch} {e : Env} {R : Room} {s : State} {m : MethodId} {args : Array Value} {below : List Frame} {meth : Method} {c : Code} {H : Heap} {locs : List Loc} {cells slots : Nat} {Q : State → Prop}
variable {cc : ByteArray} {pc : Nat} {ls : Array Slot} {st rest : List Value} {D : va_G} {cy : Nat → ClassId} {b : Nat} {lay : List mL} {μ : mM}
variable {y : MethodName} {c' : ByteArray} {n' na d' nL index mc ms : Nat} {ret' : Option FieldType} {own : String} {Qc : Array Value → State → Outcome → State → Prop} {free : Addr → Prop}
theorem m_blind {as : List Value} : FrameBlind (va_Pc as (m_B D cy b lay μ)) := fun _ _ _ _ q => ⟨q.1, m_K.called q.2.1, q.2.2⟩
theorem m_blindz {as : List Value} : FrameBlind (va_Pc as (m_Bz D cy b lay μ)) := fun _ _ _ _ q => ⟨q.1, m_K.called q.2.1, q.2.2⟩
theorem m_runV {As : List Value} (hx : p.tables.exec = Jvm.exec) (hb : c.code = cc) (hml : c.maxLocals = nL) (hown : s.vm.findClass own = some m.cls) (hts : ∀ w ∈ TB, w.before args s = true) (hW : m_W D cy s b lay μ H locs) (k : Nat) (hM : Met l y (.code y c' n' ret' :: TB) (m_R d' 0 0) (va_Pc (.ref (b + k) :: As) (m_B D cy b lay μ)) Qc 0 0 free) (mi : m_mI y c' n' ret' na) (hlink : Cond.methodLink own index y ∈ TB) {ci : Nat} {fs : List Nat} {T : u_T} {N : Nat} (hk : lay[k]? = some (.inl (ci, fs))) (hc : vwCl[ci]? = some (y.cls, T, N)) (hn : As.length = na) (hls : ls.size = nL) (hst : st = As.reverse ++ .ref (b + k) :: rest) (hroom : (rest.map fun v => v.category).sum ≤ 8) (hdg : decode cc pc = .ok (.invokevirtual index, 3)) (hR : d' + 1 ≤ R.frames ∧ 8 + (n' + 11) + 40 * d' ≤ R.locals) (hf : cells ≤ R.cells ∧ slots ≤ R.slots) :
    va_Run p l e R s m args below meth c H locs cells slots 0 0 (F0 m pc ls st) rest (Qc (Value.ref (b + k) :: As).toArray) free := by
  obtain ⟨i1, i2, i3, i4, i5, i6, i7⟩ := mi
  exact va_runV (C := y.cls) (Ts := TB) ⟨hx, hb, hml, hown, hts⟩ hM ⟨callB_of na hts (tb_in i4) rfl rfl rfl (hts _ i3) (hts _ hlink) ⟨i5, i6, i7⟩ hR, hts _ i1, hts _ i2⟩ ⟨m_blind, va_recv hW.1.1 hW.2.1 hc (m_w_at hk), fun U hU hw => ⟨rfl, hW.1.moved hw, by rw [hU]; exact hW.2.1⟩⟩ rfl hn hls hst (lv_room hroom) hdg hf
theorem m_runVN {As : List Value} {host : String} (hx : p.tables.exec = Jvm.exec) (hb : c.code = cc) (hml : c.maxLocals = nL) (hown : s.vm.findClass own = some m.cls) (hts : ∀ w ∈ TB, w.before args s = true) (hW : m_W D cy s b lay μ H locs) (k : Nat) (hM : Met l y (.code y c' n' ret' :: TB) (m_R d' 0 0) (va_Pc (.ref (b + k) :: As) (m_B D cy b lay μ)) Qc 0 0 free) (mi : m_mI y c' n' ret' na) (hlink : Cond.methodLinkNest own index y host ∈ lw_tbl) {ci : Nat} {fs : List Nat} {T : u_T} {N : Nat} (hk : lay[k]? = some (.inl (ci, fs))) (hc : vwCl[ci]? = some (y.cls, T, N)) (hn : As.length = na) (hls : ls.size = nL) (hst : st = As.reverse ++ .ref (b + k) :: rest) (hroom : (rest.map fun v => v.category).sum ≤ 8) (hdg : decode cc pc = .ok (.invokevirtual index, 3)) (hR : d' + 1 ≤ R.frames ∧ 8 + (n' + 11) + 40 * d' ≤ R.locals) (hf : cells ≤ R.cells ∧ slots ≤ R.slots) :
    va_Run p l e R s m args below meth c H locs cells slots 0 0 (F0 m pc ls st) rest (Qc (Value.ref (b + k) :: As).toArray) free := by
  obtain ⟨i1, i2, i3, i4, i5, i6, i7⟩ := mi
  exact va_runVN (C := y.cls) (host := host) (Ts := TB) ⟨hx, hb, hml, hown, hts⟩ hM ⟨va_cnB na hts (tb_in i4) rfl rfl rfl (hW.1.2.1 _ hlink rfl) (hts _ i3) ⟨i5, i6, i7⟩ hR, hts _ i1, hts _ i2⟩ ⟨m_blind, va_recv hW.1.1 hW.2.1 hc (m_w_at hk), fun U hU hw => ⟨rfl, hW.1.moved hw, by rw [hU]; exact hW.2.1⟩⟩ rfl hn hls hst (lv_room hroom) hdg hf
theorem m_runS {As : List Value} (hx : p.tables.exec = Jvm.exec) (hb : c.code = cc) (hml : c.maxLocals = nL) (hown : s.vm.findClass own = some m.cls) (hts : ∀ w ∈ TB, w.before args s = true) (hW : m_W D cy s b lay μ H locs) (hM : Met l y (.code y c' n' ret' :: TB) (m_R d' 0 0) (va_Pc As (m_B D cy b lay μ)) Qc 0 0 free) (mi : m_mS y c' n' ret' na) (hlink : Cond.methodLink own index y ∈ TB) (hn : As.length = na) (hls : ls.size = nL) (hst : st = As.reverse ++ rest) (hroom : (rest.map fun v => v.category).sum ≤ 8) (hdg : decode cc pc = .ok (.invokestatic index, 3)) (hR : d' + 1 ≤ R.frames ∧ 8 + (n' + 11) + 40 * d' ≤ R.locals) (hf : cells ≤ R.cells ∧ slots ≤ R.slots) :
    va_Run p l e R s m args below meth c H locs cells slots 0 0 (F0 m pc ls st) rest (Qc As.toArray) free := by
  obtain ⟨i1, i3, i4, i5, i6, i7⟩ := mi
  exact va_runS (Ts := TB) ⟨hx, hb, hml, hown, hts⟩ hM ⟨callB_of na hts (tb_in i4) rfl rfl rfl (hts _ i3) (hts _ hlink) ⟨i5, i6, i7⟩ hR, hts _ i1⟩ ⟨m_blind, fun U hU hw => ⟨rfl, hW.1.moved hw, by rw [hU]; exact hW.2.1⟩⟩ rfl hn hls hst (lv_room hroom) hdg hf
theorem m_runSN {As : List Value} {host : String} (hx : p.tables.exec = Jvm.exec) (hb : c.code = cc) (hml : c.maxLocals = nL) (hown : s.vm.findClass own = some m.cls) (hts : ∀ w ∈ TB, w.before args s = true) (hW : m_W D cy s b lay μ H locs) (hM : Met l y (.code y c' n' ret' :: TB) (m_R d' 0 0) (va_Pc As (m_B D cy b lay μ)) Qc 0 0 free) (mi : m_mS y c' n' ret' na) (hlink : Cond.methodLinkNest own index y host ∈ lw_tbl) (hn : As.length = na) (hls : ls.size = nL) (hst : st = As.reverse ++ rest) (hroom : (rest.map fun v => v.category).sum ≤ 8) (hdg : decode cc pc = .ok (.invokestatic index, 3)) (hR : d' + 1 ≤ R.frames ∧ 8 + (n' + 11) + 40 * d' ≤ R.locals) (hf : cells ≤ R.cells ∧ slots ≤ R.slots) :
    va_Run p l e R s m args below meth c H locs cells slots 0 0 (F0 m pc ls st) rest (Qc As.toArray) free := by
  obtain ⟨i1, i3, i4, i5, i6, i7⟩ := mi
  exact va_runSN (host := host) (Ts := TB) ⟨hx, hb, hml, hown, hts⟩ hM ⟨va_cnB na hts (tb_in i4) rfl rfl rfl (hW.1.2.1 _ hlink rfl) (hts _ i3) ⟨i5, i6, i7⟩ hR, hts _ i1, trivial⟩ ⟨m_blind, fun U hU hw => ⟨rfl, hW.1.moved hw, by rw [hU]; exact hW.2.1⟩⟩ rfl hn hls hst (lv_room hroom) hdg hf
theorem m_runI {As : List Value} (hx : p.tables.exec = Jvm.exec) (hb : c.code = cc) (hml : c.maxLocals = nL) (hown : s.vm.findClass own = some m.cls) (hts : ∀ w ∈ TB, w.before args s = true) (hW : m_W D cy s b lay μ H locs) (hz : H.size = b + lay.length) (k : Nat) (hM : Met l y (.code y c' n' none :: TB) (m_R d' mc ms) (va_Pc (.ref (b + k) :: As) (m_Bz D cy b lay μ)) Qc mc ms free) (mi : m_mC y c' n' na) (hlink : Cond.methodLink own index y ∈ TB) (hn : As.length = na) (hls : ls.size = nL) (hst : st = As.reverse ++ .ref (b + k) :: rest) (hroom : (rest.map fun v => v.category).sum ≤ 8) (hdg : decode cc pc = .ok (.invokespecial index, 3)) (hR : d' + 1 ≤ R.frames ∧ 8 + (n' + 11) + 40 * d' ≤ R.locals) (hf : cells + mc ≤ R.cells ∧ slots + ms ≤ R.slots) :
    va_Run p l e R s m args below meth c H locs cells slots mc ms (F0 m pc ls st) rest (Qc (Value.ref (b + k) :: As).toArray) free := by
  obtain ⟨i1, i2, i3, i4, i5, i6, i7⟩ := mi
  exact va_runI (Ts := TB) ⟨hx, hb, hml, hown, hts⟩ hM ⟨callB_of na hts (tb_in i4) rfl rfl rfl (hts _ i3) (hts _ hlink) ⟨i5, i6, i7⟩ hR, i2, hts _ i1⟩ ⟨m_blindz, fun U hU hw => ⟨rfl, hW.1.moved hw, by rw [hU]; exact ⟨hW.2.1, hz⟩⟩⟩ rfl hn hls hst (lv_room hroom) hdg hf
theorem m_runIN {As : List Value} {host : String} (hx : p.tables.exec = Jvm.exec) (hb : c.code = cc) (hml : c.maxLocals = nL) (hown : s.vm.findClass own = some m.cls) (hts : ∀ w ∈ TB, w.before args s = true) (hW : m_W D cy s b lay μ H locs) (hz : H.size = b + lay.length) (k : Nat) (hM : Met l y (.code y c' n' none :: TB) (m_R d' mc ms) (va_Pc (.ref (b + k) :: As) (m_Bz D cy b lay μ)) Qc mc ms free) (mi : m_mC y c' n' na) (hlink : Cond.methodLinkNest own index y host ∈ lw_tbl) (hn : As.length = na) (hls : ls.size = nL) (hst : st = As.reverse ++ .ref (b + k) :: rest) (hroom : (rest.map fun v => v.category).sum ≤ 8) (hdg : decode cc pc = .ok (.invokespecial index, 3)) (hR : d' + 1 ≤ R.frames ∧ 8 + (n' + 11) + 40 * d' ≤ R.locals) (hf : cells + mc ≤ R.cells ∧ slots + ms ≤ R.slots) :
    va_Run p l e R s m args below meth c H locs cells slots mc ms (F0 m pc ls st) rest (Qc (Value.ref (b + k) :: As).toArray) free := by
  obtain ⟨i1, i2, i3, i4, i5, i6, i7⟩ := mi
  exact va_runIN (host := host) (Ts := TB) ⟨hx, hb, hml, hown, hts⟩ hM ⟨va_cnB na hts (tb_in i4) rfl rfl rfl (hW.1.2.1 _ hlink rfl) (hts _ i3) ⟨i5, i6, i7⟩ hR, i2, hts _ i1⟩ ⟨m_blindz, fun U hU hw => ⟨rfl, hW.1.moved hw, by rw [hU]; exact ⟨hW.2.1, hz⟩⟩⟩ rfl hn hls hst (lv_room hroom) hdg hf
-- behind a call
theorem m_aI {post : Int32 → mM → Prop} {a : Array Value} (hW : m_W D cy s b lay μ H locs) (hr : va_Run p l e R s m args below meth c H locs cells slots 0 0 (F0 m pc ls st) rest (m_Qi D cy b lay post a) (fun q => b ≤ q)) (kk : ∀ (r : Int32) (ν : mM) (H1 : Heap) (locs1 : List Loc), post r ν → m_W D cy s b lay ν H1 locs1 → W p l e R s m args below meth c H1 locs1 cells slots Q (F0 m (pc + 3) ls (.int r :: rest))) : W p l e R s m args below meth c H locs cells slots Q (F0 m pc ls st) :=
  va_calli hr hW.2.2 (fun _ _ h => h) (fun _ h => h) (fun r ν t H1 locs1 ht _ hp hB _ _ hS => kk r ν H1 locs1 hp ⟨hW.1, by rw [← ht]; exact hB, hS⟩)
theorem m_aL {post : Int64 → mM → Prop} {a : Array Value} (hW : m_W D cy s b lay μ H locs) (hr : va_Run p l e R s m args below meth c H locs cells slots 0 0 (F0 m pc ls st) rest (m_Ql D cy b lay post a) (fun q => b ≤ q)) (kk : ∀ (r : Int64) (ν : mM) (H1 : Heap) (locs1 : List Loc), post r ν → m_W D cy s b lay ν H1 locs1 → W p l e R s m args below meth c H1 locs1 cells slots Q (F0 m (pc + 3) ls (.long r :: rest))) : W p l e R s m args below meth c H locs cells slots Q (F0 m pc ls st) :=
  va_calll hr hW.2.2 (fun _ _ h => h) (fun _ h => h) (fun r ν t H1 locs1 ht _ hp hB _ _ hS => kk r ν H1 locs1 hp ⟨hW.1, by rw [← ht]; exact hB, hS⟩)
theorem m_aV {post : mM → Prop} {a : Array Value} (hW : m_W D cy s b lay μ H locs) (hr : va_Run p l e R s m args below meth c H locs cells slots 0 0 (F0 m pc ls st) rest (m_Qv D cy b lay post a) (fun q => b ≤ q)) (kk : ∀ (ν : mM) (H1 : Heap) (locs1 : List Loc), post ν → m_W D cy s b lay ν H1 locs1 → W p l e R s m args below meth c H1 locs1 cells slots Q (F0 m (pc + 3) ls rest)) : W p l e R s m args below meth c H locs cells slots Q (F0 m pc ls st) :=
  va_callv hr hW.2.2 (fun _ _ h => h) (fun _ h => h) (fun ν t H1 locs1 ht _ hp hB _ _ hS => kk ν H1 locs1 hp ⟨hW.1, by rw [← ht]; exact hB, hS⟩)
theorem m_aQ {post : Option Nat → mM → Prop} {a : Array Value} (hW : m_W D cy s b lay μ H locs) (hr : va_Run p l e R s m args below meth c H locs cells slots 0 0 (F0 m pc ls st) rest (m_Qq D cy b lay post a) (fun q => b ≤ q)) (kn : ∀ (ν : mM) (H1 : Heap) (locs1 : List Loc), post none ν → m_W D cy s b lay ν H1 locs1 → W p l e R s m args below meth c H1 locs1 cells slots Q (F0 m (pc + 3) ls (.null :: rest))) (kk : ∀ (q : Nat) (ν : mM) (H1 : Heap) (locs1 : List Loc), post (some q) ν → m_W D cy s b lay ν H1 locs1 → W p l e R s m args below meth c H1 locs1 cells slots Q (F0 m (pc + 3) ls (.ref (b + q) :: rest))) : W p l e R s m args below meth c H locs cells slots Q (F0 m pc ls st) :=
  va_callq hr hW.2.2 (fun _ _ h => h) (fun _ h => h) (fun r ν t H1 locs1 ht _ hp hB _ _ hS => by
    obtain ⟨q, rfl, hp⟩ := hp
    cases q with
    | none => exact kn ν H1 locs1 hp ⟨hW.1, by rw [← ht]; exact hB, hS⟩
    | some q => exact kk q ν H1 locs1 hp ⟨hW.1, by rw [← ht]; exact hB, hS⟩)
theorem m_aZ {post : mM → Prop} {a : Array Value} {lay' : List mL} (hW : m_W D cy s b lay μ H locs) (hr : va_Run p l e R s m args below meth c H locs cells slots mc ms (F0 m pc ls st) rest (m_Qz D cy b lay' post a) (fun q => b ≤ q)) (kk : ∀ (ν : mM) (H1 : Heap) (locs1 : List Loc), post ν → m_W D cy s b lay' ν H1 locs1 → H1.size = b + lay'.length → W p l e R s m args below meth c H1 locs1 (cells + mc) (slots + ms) Q (F0 m (pc + 3) ls rest)) : W p l e R s m args below meth c H locs cells slots Q (F0 m pc ls st) :=
  va_callv hr hW.2.2 (fun _ _ h => h) (fun _ h => h) (fun ν t H1 locs1 ht _ hp hB _ _ hS => kk ν H1 locs1 hp ⟨hW.1, by rw [← ht]; exact hB.1, hS⟩ (by rw [← ht]; exact hB.2))
-- a method's end
theorem m_iret {post : Int32 → mM → Prop} {v : Int32} {ty : FieldType} (hx : p.tables.exec = Jvm.exec) (hb : c.code = cc) (hr : meth.sig.returnType = some ty) (hlocks : meth.locks = false) (hW : m_W D cy s b lay μ H locs) (hn : narrow ty (.int v) = .int v) (hp : post v μ) (hdg : decode cc pc = .ok (.ireturn, 1)) : W p l e R s m args below meth c H locs cells slots (MQ below (m_Qi D cy b lay post) args s cells slots (fun q => b ≤ q)) (F0 m pc ls [.int v]) :=
  W.zret hx hb hr hn (fun t ht _ => ⟨⟨v, μ, rfl, hp, by rw [m_E, ht]; exact hW.2.1⟩, hW.2.2.F ht⟩) hW.2.2.2.2 hdg
theorem m_lret {post : Int64 → mM → Prop} {v : Int64} (hx : p.tables.exec = Jvm.exec) (hb : c.code = cc) (hr : meth.sig.returnType = some .long) (hlocks : meth.locks = false) (hW : m_W D cy s b lay μ H locs) (hp : post v μ) (hdg : decode cc pc = .ok (.lreturn, 1)) : W p l e R s m args below meth c H locs cells slots (MQ below (m_Ql D cy b lay post) args s cells slots (fun q => b ≤ q)) (F0 m pc ls [.long v]) :=
  W.lret hx hb hr (fun t ht _ => ⟨⟨v, μ, rfl, hp, by rw [m_E, ht]; exact hW.2.1⟩, hW.2.2.F ht⟩) hW.2.2.2.2 hdg
theorem m_vret {post : mM → Prop} (hx : p.tables.exec = Jvm.exec) (hb : c.code = cc) (hr : meth.sig.returnType = none) (hlocks : meth.locks = false) (hW : m_W D cy s b lay μ H locs) (hp : post μ) (hdg : decode cc pc = .ok (.return_, 1)) : W p l e R s m args below meth c H locs cells slots (MQ below (m_Qv D cy b lay post) args s cells slots (fun q => b ≤ q)) (F0 m pc ls []) :=
  W.vret hx hb hr (fun t ht _ => ⟨⟨μ, rfl, hp, by rw [m_E, ht]; exact hW.2.1⟩, hW.2.2.F ht⟩) hW.2.2.2.2 hdg
theorem m_zret {post : mM → Prop} (hx : p.tables.exec = Jvm.exec) (hb : c.code = cc) (hr : meth.sig.returnType = none) (hlocks : meth.locks = false) (hW : m_W D cy s b lay μ H locs) (hz : H.size = b + lay.length) (hp : post μ) (hdg : decode cc pc = .ok (.return_, 1)) : W p l e R s m args below meth c H locs cells slots (MQ below (m_Qz D cy b lay post) args s cells slots (fun q => b ≤ q)) (F0 m pc ls []) :=
  W.vret hx hb hr (fun t ht _ => ⟨⟨μ, rfl, hp, by rw [m_Ez, ht]; exact ⟨hW.2.1, hz⟩⟩, hW.2.2.F ht⟩) hW.2.2.2.2 hdg
theorem m_aret {post : Option Nat → mM → Prop} {q : Nat} {t0 : String} (hx : p.tables.exec = Jvm.exec) (hb : c.code = cc) (hr : meth.sig.returnType = some (.object t0)) (hlocks : meth.locks = false) (hW : m_W D cy s b lay μ H locs) (hp : post (some q) μ) (hdg : decode cc pc = .ok (.areturn, 1)) : W p l e R s m args below meth c H locs cells slots (MQ below (m_Qq D cy b lay post) args s cells slots (fun q => b ≤ q)) (F0 m pc ls [.ref (b + q)]) :=
  W.aret hx hb hr (Or.inl ⟨_, rfl⟩) (Or.inr ⟨_, rfl⟩) (fun t ht _ => ⟨⟨some (b + q), μ, rfl, ⟨some q, rfl, hp⟩, by rw [m_E, ht]; exact hW.2.1⟩, hW.2.2.F ht⟩) hW.2.2.2.2 hdg
theorem m_nret {post : Option Nat → mM → Prop} {t0 : String} (hx : p.tables.exec = Jvm.exec) (hb : c.code = cc) (hr : meth.sig.returnType = some (.object t0)) (hlocks : meth.locks = false) (hW : m_W D cy s b lay μ H locs) (hp : post none μ) (hdg : decode cc pc = .ok (.areturn, 1)) : W p l e R s m args below meth c H locs cells slots (MQ below (m_Qq D cy b lay post) args s cells slots (fun q => b ≤ q)) (F0 m pc ls [.null]) :=
  W.aret hx hb hr (Or.inl ⟨_, rfl⟩) (Or.inl rfl) (fun t ht _ => ⟨⟨none, μ, rfl, ⟨none, rfl, hp⟩, by rw [m_E, ht]; exact hW.2.1⟩, hW.2.2.F ht⟩) hW.2.2.2.2 hdg
end MC
/-- a contract out of the walk of its body -/
theorem m_of {l : Launch} {y : MethodName} {cc : ByteArray} {n d mc ms : Nat} {ret : Option FieldType} {D : va_G} {cy : Nat → ClassId} {b : Nat} {lay : List mL} {μ : mM} {as : List Value} {Qc : Array Value → State → Outcome → State → Prop} {free : Addr → Prop} (hy : plainName y.cls = true) (hlen : (lg_sl as).length ≤ n)
    (body : ∀ (p : Program) (e : Env) (s : State) (m : MethodId) (below : List Frame) (meth : Method) (c : Code), p.tables.exec = Jvm.exec → c.code = cc → meth.sig.returnType = ret → c.maxLocals = n → s.vm.findClass y.cls = some m.cls → (∀ w ∈ TB, w.before as.toArray s = true) → meth.locks = false → meth.name = y.name → m_W D cy s b lay μ s.heap [] → ∀ ls : Array Slot, lv_has ls n (lv_args 0 as) → W p l e (m_R d mc ms) s m as.toArray below meth c s.heap [] 0 0 (MQ below Qc as.toArray s mc ms free) (F0 m 0 ls [])) :
    Met l y (.code y cc n ret :: TB) (m_R d mc ms) (va_Pc as (m_B D cy b lay μ)) Qc mc ms free := by
  refine Met.ofW (cc := cc) (maxL := n) (ret := ret) hy rfl ?_
  intro p e s m args below meth c s₁ B hml hv
  obtain ⟨rfl, hK, hP⟩ := hv
  have hts := atoms_spec (ws := .code y cc n ret :: TB) B.pre
  have hl := lv_entry as (n := n) hlen
  rw [lg_entry_eq]
  exact body p e s m below meth c B.exec B.bytes B.returns hml (findClass_of_methodNamed B.named) (fun w hw => hts w (List.mem_cons_of_mem _ hw)) B.notSynchronized (name_of_methodNamed B.named B.method).1 ⟨hK, hP, va_S.rf⟩ _ hl
theorem m_ofz {l : Launch} {y : MethodName} {cc : ByteArray} {n d mc ms : Nat} {ret : Option FieldType} {D : va_G} {cy : Nat → ClassId} {b : Nat} {lay : List mL} {μ : mM} {as : List Value} {Qc : Array Value → State → Outcome → State → Prop} {free : Addr → Prop} (hy : plainName y.cls = true) (hlen : (lg_sl as).length ≤ n)
    (body : ∀ (p : Program) (e : Env) (s : State) (m : MethodId) (below : List Frame) (meth : Method) (c : Code), p.tables.exec = Jvm.exec → c.code = cc → meth.sig.returnType = ret → c.maxLocals = n → s.vm.findClass y.cls = some m.cls → (∀ w ∈ TB, w.before as.toArray s = true) → meth.locks = false → meth.name = y.name → m_W D cy s b lay μ s.heap [] → s.heap.size = b + lay.length → ∀ ls : Array Slot, lv_has ls n (lv_args 0 as) → W p l e (m_R d mc ms) s m as.toArray below meth c s.heap [] 0 0 (MQ below Qc as.toArray s mc ms free) (F0 m 0 ls [])) :
    Met l y (.code y cc n ret :: TB) (m_R d mc ms) (va_Pc as (m_Bz D cy b lay μ)) Qc mc ms free := by
  refine Met.ofW (cc := cc) (maxL := n) (ret := ret) hy rfl ?_
  intro p e s m args below meth c s₁ B hml hv
  obtain ⟨rfl, hK, hP, hz⟩ := hv
  have hts := atoms_spec (ws := .code y cc n ret :: TB) B.pre
  have hl := lv_entry as (n := n) hlen
  rw [lg_entry_eq]
  exact body p e s m below meth c B.exec B.bytes B.returns hml (findClass_of_methodNamed B.named) (fun w hw => hts w (List.mem_cons_of_mem _ hw)) B.notSynchronized (name_of_methodNamed B.named B.method).1 ⟨hK, hP, va_S.rf⟩ hz _ hl
end
section
theorem cw_0 : ∀ w ∈ u_ws RX0 TX0 5, w ∈ TB := fun w hw => by
  obtain ⟨k, hk, rfl⟩ := List.mem_map.mp hw
  have hk := List.mem_range.mp hk
  match k, hk with
  | 0, _ => exact tb2 121 rfl rfl
  | 1, _ => exact tb2 123 rfl rfl
  | 2, _ => exact tb2 125 rfl rfl
  | 3, _ => exact tb2 127 rfl rfl
  | 4, _ => exact tb2 129 rfl rfl
  | k + 5, h => exact absurd h (by omega)
theorem cw_1 : ∀ w ∈ u_ws RX1 TX1 5, w ∈ TB := fun w hw => by
  obtain ⟨k, hk, rfl⟩ := List.mem_map.mp hw
  have hk := List.mem_range.mp hk
  match k, hk with
  | 0, _ => exact tb1 186 rfl rfl
  | 1, _ => exact tb1 188 rfl rfl
  | 2, _ => exact tb1 190 rfl rfl
  | 3, _ => exact tb1 192 rfl rfl
  | 4, _ => exact tb1 194 rfl rfl
  | k + 5, h => exact absurd h (by omega)
theorem cw_2 : ∀ w ∈ u_ws RX2 TX2 5, w ∈ TB := fun w hw => by
  obtain ⟨k, hk, rfl⟩ := List.mem_map.mp hw
  have hk := List.mem_range.mp hk
  match k, hk with
  | 0, _ => exact tb1 214 rfl rfl
  | 1, _ => exact tb1 216 rfl rfl
  | 2, _ => exact tb1 218 rfl rfl
  | 3, _ => exact tb1 220 rfl rfl
  | 4, _ => exact tb1 222 rfl rfl
  | k + 5, h => exact absurd h (by omega)
theorem cw_3 : ∀ w ∈ u_ws RX3 TX3 18, w ∈ TB := fun w hw => by
  obtain ⟨k, hk, rfl⟩ := List.mem_map.mp hw
  have hk := List.mem_range.mp hk
  match k, hk with
  | 0, _ => exact tb2 20 rfl rfl
  | 1, _ => exact tb2 22 rfl rfl
  | 2, _ => exact tb2 24 rfl rfl
  | 3, _ => exact tb2 26 rfl rfl
  | 4, _ => exact tb2 28 rfl rfl
  | 5, _ => exact tb2 30 rfl rfl
  | 6, _ => exact tb2 32 rfl rfl
  | 7, _ => exact tb2 34 rfl rfl
  | 8, _ => exact tb2 36 rfl rfl
  | 9, _ => exact tb2 38 rfl rfl
  | 10, _ => exact tb2 40 rfl rfl
  | 11, _ => exact tb2 42 rfl rfl
  | 12, _ => exact tb2 44 rfl rfl
  | 13, _ => exact tb2 46 rfl rfl
  | 14, _ => exact tb2 48 rfl rfl
  | 15, _ => exact tb2 50 rfl rfl
  | 16, _ => exact tb2 52 rfl rfl
  | 17, _ => exact tb2 54 rfl rfl
  | k + 18, h => exact absurd h (by omega)
theorem cw_4 : ∀ w ∈ u_ws RX4 TX4 8, w ∈ TB := fun w hw => by
  obtain ⟨k, hk, rfl⟩ := List.mem_map.mp hw
  have hk := List.mem_range.mp hk
  match k, hk with
  | 0, _ => exact tb1 136 rfl rfl
  | 1, _ => exact tb1 138 rfl rfl
  | 2, _ => exact tb1 140 rfl rfl
  | 3, _ => exact tb1 142 rfl rfl
  | 4, _ => exact tb1 144 rfl rfl
  | 5, _ => exact tb1 146 rfl rfl
  | 6, _ => exact tb1 148 rfl rfl
  | 7, _ => exact tb1 150 rfl rfl
  | k + 8, h => exact absurd h (by omega)
theorem cw_5 : ∀ w ∈ u_ws RX5 TX5 2, w ∈ TB := fun w hw => by
  obtain ⟨k, hk, rfl⟩ := List.mem_map.mp hw
  have hk := List.mem_range.mp hk
  match k, hk with
  | 0, _ => exact tb1 54 rfl rfl
  | 1, _ => exact tb1 56 rfl rfl
  | k + 2, h => exact absurd h (by omega)
theorem cw_6 : ∀ w ∈ u_ws RX6 TX6 3, w ∈ TB := fun w hw => by
  obtain ⟨k, hk, rfl⟩ := List.mem_map.mp hw
  have hk := List.mem_range.mp hk
  match k, hk with
  | 0, _ => exact tb2 66 rfl rfl
  | 1, _ => exact tb2 68 rfl rfl
  | 2, _ => exact tb2 70 rfl rfl
  | k + 3, h => exact absurd h (by omega)
theorem cw_7 : ∀ w ∈ u_ws RX7 TX7 6, w ∈ TB := fun w hw => by
  obtain ⟨k, hk, rfl⟩ := List.mem_map.mp hw
  have hk := List.mem_range.mp hk
  match k, hk with
  | 0, _ => exact tb2 144 rfl rfl
  | 1, _ => exact tb2 146 rfl rfl
  | 2, _ => exact tb2 148 rfl rfl
  | 3, _ => exact tb2 150 rfl rfl
  | 4, _ => exact tb2 152 rfl rfl
  | 5, _ => exact tb2 154 rfl rfl
  | k + 6, h => exact absurd h (by omega)
theorem cw_8 : ∀ w ∈ u_ws RX8 TX8 3, w ∈ TB := fun w hw => by
  obtain ⟨k, hk, rfl⟩ := List.mem_map.mp hw
  have hk := List.mem_range.mp hk
  match k, hk with
  | 0, _ => exact tb1 118 rfl rfl
  | 1, _ => exact tb1 120 rfl rfl
  | 2, _ => exact tb1 122 rfl rfl
  | k + 3, h => exact absurd h (by omega)
theorem cw_9 : ∀ w ∈ u_ws RX9 TX9 7, w ∈ TB := fun w hw => by
  obtain ⟨k, hk, rfl⟩ := List.mem_map.mp hw
  have hk := List.mem_range.mp hk
  match k, hk with
  | 0, _ => exact tb2 95 rfl rfl
  | 1, _ => exact tb2 97 rfl rfl
  | 2, _ => exact tb2 99 rfl rfl
  | 3, _ => exact tb2 101 rfl rfl
  | 4, _ => exact tb2 103 rfl rfl
  | 5, _ => exact tb2 105 rfl rfl
  | 6, _ => exact tb2 107 rfl rfl
  | k + 7, h => exact absurd h (by omega)
theorem cw_10 : ∀ w ∈ u_ws RX10 TX10 8, w ∈ TB := fun w hw => by
  obtain ⟨k, hk, rfl⟩ := List.mem_map.mp hw
  have hk := List.mem_range.mp hk
  match k, hk with
  | 0, _ => exact tb1 77 rfl rfl
  | 1, _ => exact tb1 79 rfl rfl
  | 2, _ => exact tb1 81 rfl rfl
  | 3, _ => exact tb1 83 rfl rfl
  | 4, _ => exact tb1 85 rfl rfl
  | 5, _ => exact tb1 87 rfl rfl
  | 6, _ => exact tb1 89 rfl rfl
  | 7, _ => exact tb1 91 rfl rfl
  | k + 8, h => exact absurd h (by omega)
theorem cw_11 : ∀ w ∈ u_ws RX11 TX11 11, w ∈ TB := fun w hw => by
  obtain ⟨k, hk, rfl⟩ := List.mem_map.mp hw
  have hk := List.mem_range.mp hk
  match k, hk with
  | 0, _ => exact tb2 169 rfl rfl
  | 1, _ => exact tb2 171 rfl rfl
  | 2, _ => exact tb2 173 rfl rfl
  | 3, _ => exact tb2 175 rfl rfl
  | 4, _ => exact tb2 177 rfl rfl
  | 5, _ => exact tb2 179 rfl rfl
  | 6, _ => exact tb2 181 rfl rfl
  | 7, _ => exact tb2 183 rfl rfl
  | 8, _ => exact tb2 185 rfl rfl
  | 9, _ => exact tb2 187 rfl rfl
  | 10, _ => exact tb2 189 rfl rfl
  | k + 11, h => exact absurd h (by omega)
theorem cw_12 : ∀ w ∈ u_ws RX12 TX12 74, w ∈ TB := fun w hw => by
  obtain ⟨k, hk, rfl⟩ := List.mem_map.mp hw
  have hk := List.mem_range.mp hk
  match k, hk with
  | 0, _ => exact tb5 104 rfl rfl
  | 1, _ => exact tb5 106 rfl rfl
  | 2, _ => exact tb5 108 rfl rfl
  | 3, _ => exact tb5 110 rfl rfl
  | 4, _ => exact tb5 112 rfl rfl
  | 5, _ => exact tb5 114 rfl rfl
  | 6, _ => exact tb5 116 rfl rfl
  | 7, _ => exact tb5 118 rfl rfl
  | 8, _ => exact tb5 120 rfl rfl
  | 9, _ => exact tb5 122 rfl rfl
  | 10, _ => exact tb5 124 rfl rfl
  | 11, _ => exact tb5 126 rfl rfl
  | 12, _ => exact tb5 128 rfl rfl
  | 13, _ => exact tb5 130 rfl rfl
  | 14, _ => exact tb5 132 rfl rfl
  | 15, _ => exact tb5 134 rfl rfl
  | 16, _ => exact tb5 136 rfl rfl
  | 17, _ => exact tb5 138 rfl rfl
  | 18, _ => exact tb5 140 rfl rfl
  | 19, _ => exact tb5 142 rfl rfl
  | 20, _ => exact tb5 144 rfl rfl
  | 21, _ => exact tb5 146 rfl rfl
  | 22, _ => exact tb5 148 rfl rfl
  | 23, _ => exact tb5 150 rfl rfl
  | 24, _ => exact tb5 152 rfl rfl
  | 25, _ => exact tb5 154 rfl rfl
  | 26, _ => exact tb5 156 rfl rfl
  | 27, _ => exact tb5 158 rfl rfl
  | 28, _ => exact tb5 160 rfl rfl
  | 29, _ => exact tb5 162 rfl rfl
  | 30, _ => exact tb5 164 rfl rfl
  | 31, _ => exact tb5 166 rfl rfl
  | 32, _ => exact tb5 168 rfl rfl
  | 33, _ => exact tb5 170 rfl rfl
  | 34, _ => exact tb5 172 rfl rfl
  | 35, _ => exact tb5 174 rfl rfl
  | 36, _ => exact tb5 176 rfl rfl
  | 37, _ => exact tb5 178 rfl rfl
  | 38, _ => exact tb5 180 rfl rfl
  | 39, _ => exact tb5 182 rfl rfl
  | 40, _ => exact tb5 184 rfl rfl
  | 41, _ => exact tb5 186 rfl rfl
  | 42, _ => exact tb5 188 rfl rfl
  | 43, _ => exact tb5 190 rfl rfl
  | 44, _ => exact tb5 192 rfl rfl
  | 45, _ => exact tb5 194 rfl rfl
  | 46, _ => exact tb5 196 rfl rfl
  | 47, _ => exact tb5 198 rfl rfl
  | 48, _ => exact tb5 200 rfl rfl
  | 49, _ => exact tb5 202 rfl rfl
  | 50, _ => exact tb5 204 rfl rfl
  | 51, _ => exact tb5 206 rfl rfl
  | 52, _ => exact tb5 208 rfl rfl
  | 53, _ => exact tb5 210 rfl rfl
  | 54, _ => exact tb5 212 rfl rfl
  | 55, _ => exact tb5 214 rfl rfl
  | 56, _ => exact tb5 216 rfl rfl
  | 57, _ => exact tb5 218 rfl rfl
  | 58, _ => exact tb5 220 rfl rfl
  | 59, _ => exact tb5 222 rfl rfl
  | 60, _ => exact tb5 224 rfl rfl
  | 61, _ => exact tb5 226 rfl rfl
  | 62, _ => exact tb5 228 rfl rfl
  | 63, _ => exact tb5 230 rfl rfl
  | 64, _ => exact tb5 232 rfl rfl
  | 65, _ => exact tb5 234 rfl rfl
  | 66, _ => exact tb5 236 rfl rfl
  | 67, _ => exact tb5 238 rfl rfl
  | 68, _ => exact tb6 0 rfl rfl
  | 69, _ => exact tb6 2 rfl rfl
  | 70, _ => exact tb6 4 rfl rfl
  | 71, _ => exact tb6 6 rfl rfl
  | 72, _ => exact tb6 8 rfl rfl
  | 73, _ => exact tb6 10 rfl rfl
  | k + 74, h => exact absurd h (by omega)
theorem kn_L : Cond.initialized RL ∈ TB := tb1 0 rfl rfl
theorem kn_X11 : Cond.initialized RX11 ∈ TB := tb1 1 rfl rfl
theorem kn_X10 : Cond.initialized RX10 ∈ TB := tb1 2 rfl rfl
theorem kn_X5 : Cond.initialized RX5 ∈ TB := tb1 3 rfl rfl
theorem kn_J9 : Cond.initialized RJ9 ∈ TB := tb1 4 rfl rfl
theorem kn_X4 : Cond.initialized RX4 ∈ TB := tb1 5 rfl rfl
theorem kn_X8 : Cond.initialized RX8 ∈ TB := tb1 6 rfl rfl
theorem kn_X3 : Cond.initialized RX3 ∈ TB := tb1 7 rfl rfl
theorem kn_X1 : Cond.initialized RX1 ∈ TB := tb1 8 rfl rfl
theorem kn_X2 : Cond.initialized RX2 ∈ TB := tb1 9 rfl rfl
theorem kn_X6 : Cond.initialized RX6 ∈ TB := tb1 10 rfl rfl
theorem kn_X9 : Cond.initialized RX9 ∈ TB := tb1 11 rfl rfl
theorem kn_X0 : Cond.initialized RX0 ∈ TB := tb1 12 rfl rfl
theorem kn_X7 : Cond.initialized RX7 ∈ TB := tb1 13 rfl rfl
theorem kn_X12 : Cond.initialized RX12 ∈ TB := tb1 14 rfl rfl
theorem kn_J7 : Cond.initialized RJ7 ∈ TB := tb1 15 rfl rfl
theorem kn_J0 : Cond.initialized RJ0 ∈ TB := tb1 16 rfl rfl
theorem kn_J1 : Cond.initialized RJ1 ∈ TB := tb1 17 rfl rfl
theorem kn_J3 : Cond.initialized RJ3 ∈ TB := tb1 18 rfl rfl
theorem kn_J2 : Cond.initialized RJ2 ∈ TB := tb1 19 rfl rfl
theorem kn_J10 : Cond.initialized RJ10 ∈ TB := tb1 20 rfl rfl
theorem kn_J6 : Cond.initialized RJ6 ∈ TB := tb1 21 rfl rfl
theorem k_L_7 : Cond.classLink RL 7 RX11 ∈ TB := tb1 22 rfl rfl
theorem ki_X11 : Cond.instantiable RX11 11 ∈ TB := tb1 23 rfl rfl
theorem k_L_9 : Cond.methodLink RL 9 yX11_init ∈ TB := tb1 24 rfl rfl
theorem k_X11_1 : Cond.methodLink RX11 1 objectInit ∈ TB := tb1 27 rfl rfl
theorem k_X11_7 : Cond.classLink RX11 7 RX10 ∈ TB := tb1 30 rfl rfl
theorem ki_X10 : Cond.instantiable RX10 8 ∈ TB := tb1 31 rfl rfl
theorem k_X11_9 : Cond.methodLink RX11 9 yX10_init ∈ TB := tb1 32 rfl rfl
theorem k_X10_3 : Cond.methodLink RX10 3 objectInit ∈ TB := tb1 35 rfl rfl
theorem k_X10_35 : Cond.classLink RX10 35 RX5 ∈ TB := tb1 36 rfl rfl
theorem ki_X5 : Cond.instantiable RX5 2 ∈ TB := tb1 38 rfl rfl
theorem k_X10_43 : Cond.methodLink RX10 43 yX5_init ∈ TB := tb1 39 rfl rfl
theorem k_X5_3 : Cond.methodLink RX5 3 objectInit ∈ TB := tb1 42 rfl rfl
theorem k_X5_15 : Cond.methodLink RX5 15 Lib.Math.max.name ∈ TB := tb1 43 rfl rfl
theorem k_X5_21 : Cond.fieldLink RX5 21 (TX5 0).1 (TX5 0).2.1 (TX5 0).2.2.1 ∈ TB := tb1 46 rfl rfl
theorem k_X8_30 : Cond.fieldLink RX8 30 (TX5 0).1 (TX5 0).2.1 (TX5 0).2.2.1 ∈ TB := tb1 47 rfl rfl
theorem k_X5_9 : Cond.fieldLink RX5 9 (TX5 1).1 (TX5 1).2.1 (TX5 1).2.2.1 ∈ TB := tb1 48 rfl rfl
theorem k_X8_26 : Cond.fieldLink RX8 26 (TX5 1).1 (TX5 1).2.1 (TX5 1).2.2.1 ∈ TB := tb1 49 rfl rfl
theorem k_X4_50 : Cond.fieldLink RX4 50 (TX5 1).1 (TX5 1).2.1 (TX5 1).2.2.1 ∈ TB := tb1 50 rfl rfl
theorem k_X6_28 : Cond.fieldLink RX6 28 (TX5 1).1 (TX5 1).2.1 (TX5 1).2.2.1 ∈ TB := tb1 51 rfl rfl
theorem k_X11_99 : Cond.fieldLink RX11 99 (TX5 1).1 (TX5 1).2.1 (TX5 1).2.2.1 ∈ TB := tb1 52 rfl rfl
theorem k_X9_105 : Cond.fieldLink RX9 105 (TX5 1).1 (TX5 1).2.1 (TX5 1).2.2.1 ∈ TB := tb1 53 rfl rfl
theorem ka_int : Cond.arrayClass .int ∈ TB := tb1 59 rfl rfl
theorem k_X10_9 : Cond.fieldLink RX10 9 (TX10 0).1 (TX10 0).2.1 (TX10 0).2.2.1 ∈ TB := tb1 60 rfl rfl
theorem k_X3_153 : Cond.fieldLink RX3 153 (TX10 0).1 (TX10 0).2.1 (TX10 0).2.2.1 ∈ TB := tb1 61 rfl rfl
theorem k_X10_15 : Cond.fieldLink RX10 15 (TX10 1).1 (TX10 1).2.1 (TX10 1).2.2.1 ∈ TB := tb1 62 rfl rfl
theorem k_X3_138 : Cond.fieldLink RX3 138 (TX10 1).1 (TX10 1).2.1 (TX10 1).2.2.1 ∈ TB := tb1 63 rfl rfl
theorem k_X10_18 : Cond.fieldLink RX10 18 (TX10 2).1 (TX10 2).2.1 (TX10 2).2.2.1 ∈ TB := tb1 64 rfl rfl
theorem k_X3_144 : Cond.fieldLink RX3 144 (TX10 2).1 (TX10 2).2.1 (TX10 2).2.2.1 ∈ TB := tb1 65 rfl rfl
theorem k_X10_21 : Cond.fieldLink RX10 21 (TX10 3).1 (TX10 3).2.1 (TX10 3).2.2.1 ∈ TB := tb1 66 rfl rfl
theorem k_X3_159 : Cond.fieldLink RX3 159 (TX10 3).1 (TX10 3).2.1 (TX10 3).2.2.1 ∈ TB := tb1 67 rfl rfl
theorem k_X10_24 : Cond.fieldLink RX10 24 (TX10 4).1 (TX10 4).2.1 (TX10 4).2.2.1 ∈ TB := tb1 68 rfl rfl
theorem k_X11_89 : Cond.fieldLink RX11 89 (TX10 4).1 (TX10 4).2.1 (TX10 4).2.2.1 ∈ TB := tb1 69 rfl rfl
theorem k_X3_129 : Cond.fieldLink RX3 129 (TX10 4).1 (TX10 4).2.1 (TX10 4).2.2.1 ∈ TB := tb1 70 rfl rfl
theorem k_X10_28 : Cond.fieldLink RX10 28 (TX10 5).1 (TX10 5).2.1 (TX10 5).2.2.1 ∈ TB := tb1 71 rfl rfl
theorem k_X11_92 : Cond.fieldLink RX11 92 (TX10 5).1 (TX10 5).2.1 (TX10 5).2.2.1 ∈ TB := tb1 72 rfl rfl
theorem k_X3_150 : Cond.fieldLink RX3 150 (TX10 5).1 (TX10 5).2.1 (TX10 5).2.2.1 ∈ TB := tb1 73 rfl rfl
theorem k_X10_32 : Cond.fieldLink RX10 32 (TX10 6).1 (TX10 6).2.1 (TX10 6).2.2.1 ∈ TB := tb1 74 rfl rfl
theorem k_X11_96 : Cond.fieldLink RX11 96 (TX10 6).1 (TX10 6).2.1 (TX10 6).2.2.1 ∈ TB := tb1 75 rfl rfl
theorem k_X10_37 : Cond.fieldLink RX10 37 (TX10 7).1 (TX10 7).2.1 (TX10 7).2.2.1 ∈ TB := tb1 76 rfl rfl
theorem k_X11_16 : Cond.classLink RX11 16 RX5 ∈ TB := tb1 94 rfl rfl
theorem k_X11_18 : Cond.methodLink RX11 18 yX5_init ∈ TB := tb1 95 rfl rfl
theorem k_X11_28 : Cond.classLink RX11 28 RX4 ∈ TB := tb1 96 rfl rfl
theorem ki_X4 : Cond.instantiable RX4 8 ∈ TB := tb1 97 rfl rfl
theorem n_X11_30 : Cond.methodLinkNest RX11 30 yX4_init "BeamPlate" ∈ lw_tbl := List.mem_append_right _ (List.mem_append_left _ (List.mem_of_getElem? (i := 98) rfl))
theorem k_X4_3 : Cond.methodLink RX4 3 objectInit ∈ TB := tb1 101 rfl rfl
theorem k_X4_9 : Cond.classLink RX4 9 RX5 ∈ TB := tb1 102 rfl rfl
theorem k_X4_13 : Cond.methodLink RX4 13 yX5_init ∈ TB := tb1 103 rfl rfl
theorem k_X4_27 : Cond.classLink RX4 27 RX8 ∈ TB := tb1 104 rfl rfl
theorem ki_X8 : Cond.instantiable RX8 3 ∈ TB := tb1 105 rfl rfl
theorem n_X4_29 : Cond.methodLinkNest RX4 29 yX8_init "BeamPlate" ∈ lw_tbl := List.mem_append_right _ (List.mem_append_left _ (List.mem_of_getElem? (i := 106) rfl))
theorem k_X8_3 : Cond.methodLink RX8 3 objectInit ∈ TB := tb1 109 rfl rfl
theorem k_X8_9 : Cond.classLink RX8 9 RX5 ∈ TB := tb1 110 rfl rfl
theorem k_X8_11 : Cond.methodLink RX8 11 yX5_init ∈ TB := tb1 111 rfl rfl
theorem k_X8_14 : Cond.fieldLink RX8 14 (TX8 0).1 (TX8 0).2.1 (TX8 0).2.2.1 ∈ TB := tb1 112 rfl rfl
theorem k_X4_53 : Cond.fieldLink RX4 53 (TX8 0).1 (TX8 0).2.1 (TX8 0).2.2.1 ∈ TB := tb1 113 rfl rfl
theorem k_X8_20 : Cond.fieldLink RX8 20 (TX8 1).1 (TX8 1).2.1 (TX8 1).2.2.1 ∈ TB := tb1 114 rfl rfl
theorem k_X4_77 : Cond.fieldLink RX4 77 (TX8 1).1 (TX8 1).2.1 (TX8 1).2.2.1 ∈ TB := tb1 115 rfl rfl
theorem k_X8_23 : Cond.fieldLink RX8 23 (TX8 2).1 (TX8 2).2.1 (TX8 2).2.2.1 ∈ TB := tb1 116 rfl rfl
theorem k_X4_124 : Cond.fieldLink RX4 124 (TX8 2).1 (TX8 2).2.1 (TX8 2).2.2.1 ∈ TB := tb1 117 rfl rfl
theorem k_X4_16 : Cond.fieldLink RX4 16 (TX4 0).1 (TX4 0).2.1 (TX4 0).2.2.1 ∈ TB := tb1 125 rfl rfl
theorem k_X11_117 : Cond.fieldLink RX11 117 (TX4 0).1 (TX4 0).2.1 (TX4 0).2.2.1 ∈ TB := tb1 126 rfl rfl
theorem k_X4_20 : Cond.fieldLink RX4 20 (TX4 1).1 (TX4 1).2.1 (TX4 1).2.2.1 ∈ TB := tb1 127 rfl rfl
theorem k_X11_113 : Cond.fieldLink RX11 113 (TX4 1).1 (TX4 1).2.1 (TX4 1).2.2.1 ∈ TB := tb1 128 rfl rfl
theorem k_X4_24 : Cond.fieldLink RX4 24 (TX4 2).1 (TX4 2).2.1 (TX4 2).2.2.1 ∈ TB := tb1 129 rfl rfl
theorem k_X11_116 : Cond.fieldLink RX11 116 (TX4 2).1 (TX4 2).2.1 (TX4 2).2.2.1 ∈ TB := tb1 130 rfl rfl
theorem k_X4_30 : Cond.fieldLink RX4 30 (TX4 3).1 (TX4 3).2.1 (TX4 3).2.2.1 ∈ TB := tb1 131 rfl rfl
theorem k_X4_34 : Cond.fieldLink RX4 34 (TX4 4).1 (TX4 4).2.1 (TX4 4).2.2.1 ∈ TB := tb1 132 rfl rfl
theorem k_X4_37 : Cond.fieldLink RX4 37 (TX4 5).1 (TX4 5).2.1 (TX4 5).2.2.1 ∈ TB := tb1 133 rfl rfl
theorem k_X4_40 : Cond.fieldLink RX4 40 (TX4 6).1 (TX4 6).2.1 (TX4 6).2.2.1 ∈ TB := tb1 134 rfl rfl
theorem k_X4_43 : Cond.fieldLink RX4 43 (TX4 7).1 (TX4 7).2.1 (TX4 7).2.2.1 ∈ TB := tb1 135 rfl rfl
theorem k_X11_35 : Cond.classLink RX11 35 RX3 ∈ TB := tb1 153 rfl rfl
theorem ki_X3 : Cond.instantiable RX3 18 ∈ TB := tb1 154 rfl rfl
theorem n_X11_37 : Cond.methodLinkNest RX11 37 yX3_init "BeamPlate" ∈ lw_tbl := List.mem_append_right _ (List.mem_append_left _ (List.mem_of_getElem? (i := 155) rfl))
theorem k_X3_5 : Cond.methodLink RX3 5 objectInit ∈ TB := tb1 158 rfl rfl
theorem k_X3_43 : Cond.classLink RX3 43 RX1 ∈ TB := tb1 159 rfl rfl
theorem ki_X1 : Cond.instantiable RX1 5 ∈ TB := tb1 160 rfl rfl
theorem n_X3_45 : Cond.methodLinkNest RX3 45 yX1_init "BeamPlate" ∈ lw_tbl := List.mem_append_right _ (List.mem_append_left _ (List.mem_of_getElem? (i := 161) rfl))
theorem k_X1_1 : Cond.methodLink RX1 1 objectInit ∈ TB := tb1 164 rfl rfl
theorem k_X1_7 : Cond.fieldLink RX1 7 (TX1 0).1 (TX1 0).2.1 (TX1 0).2.2.1 ∈ TB := tb1 165 rfl rfl
theorem k_X6_88 : Cond.fieldLink RX6 88 (TX1 0).1 (TX1 0).2.1 (TX1 0).2.2.1 ∈ TB := tb1 166 rfl rfl
theorem k_X9_88 : Cond.fieldLink RX9 88 (TX1 0).1 (TX1 0).2.1 (TX1 0).2.2.1 ∈ TB := tb1 167 rfl rfl
theorem k_X3_104 : Cond.fieldLink RX3 104 (TX1 0).1 (TX1 0).2.1 (TX1 0).2.2.1 ∈ TB := tb1 168 rfl rfl
theorem k_X11_175 : Cond.fieldLink RX11 175 (TX1 0).1 (TX1 0).2.1 (TX1 0).2.2.1 ∈ TB := tb1 169 rfl rfl
theorem k_X1_13 : Cond.fieldLink RX1 13 (TX1 1).1 (TX1 1).2.1 (TX1 1).2.2.1 ∈ TB := tb1 170 rfl rfl
theorem k_X6_94 : Cond.fieldLink RX6 94 (TX1 1).1 (TX1 1).2.1 (TX1 1).2.2.1 ∈ TB := tb1 171 rfl rfl
theorem k_X9_96 : Cond.fieldLink RX9 96 (TX1 1).1 (TX1 1).2.1 (TX1 1).2.2.1 ∈ TB := tb1 172 rfl rfl
theorem k_X3_101 : Cond.fieldLink RX3 101 (TX1 1).1 (TX1 1).2.1 (TX1 1).2.2.1 ∈ TB := tb1 173 rfl rfl
theorem k_X11_180 : Cond.fieldLink RX11 180 (TX1 1).1 (TX1 1).2.1 (TX1 1).2.2.1 ∈ TB := tb1 174 rfl rfl
theorem k_X1_16 : Cond.fieldLink RX1 16 (TX1 2).1 (TX1 2).2.1 (TX1 2).2.2.1 ∈ TB := tb1 175 rfl rfl
theorem k_X6_75 : Cond.fieldLink RX6 75 (TX1 2).1 (TX1 2).2.1 (TX1 2).2.2.1 ∈ TB := tb1 176 rfl rfl
theorem k_X3_125 : Cond.fieldLink RX3 125 (TX1 2).1 (TX1 2).2.1 (TX1 2).2.2.1 ∈ TB := tb1 177 rfl rfl
theorem k_X11_183 : Cond.fieldLink RX11 183 (TX1 2).1 (TX1 2).2.1 (TX1 2).2.2.1 ∈ TB := tb1 178 rfl rfl
theorem k_X1_20 : Cond.fieldLink RX1 20 (TX1 3).1 (TX1 3).2.1 (TX1 3).2.2.1 ∈ TB := tb1 179 rfl rfl
theorem k_X6_55 : Cond.fieldLink RX6 55 (TX1 3).1 (TX1 3).2.1 (TX1 3).2.2.1 ∈ TB := tb1 180 rfl rfl
theorem k_X9_113 : Cond.fieldLink RX9 113 (TX1 3).1 (TX1 3).2.1 (TX1 3).2.2.1 ∈ TB := tb1 181 rfl rfl
theorem k_X11_186 : Cond.fieldLink RX11 186 (TX1 3).1 (TX1 3).2.1 (TX1 3).2.2.1 ∈ TB := tb1 182 rfl rfl
theorem k_X1_23 : Cond.fieldLink RX1 23 (TX1 4).1 (TX1 4).2.1 (TX1 4).2.2.1 ∈ TB := tb1 183 rfl rfl
theorem k_X3_118 : Cond.fieldLink RX3 118 (TX1 4).1 (TX1 4).2.1 (TX1 4).2.2.1 ∈ TB := tb1 184 rfl rfl
theorem k_X11_189 : Cond.fieldLink RX11 189 (TX1 4).1 (TX1 4).2.1 (TX1 4).2.2.1 ∈ TB := tb1 185 rfl rfl
theorem k_X3_69 : Cond.classLink RX3 69 RX2 ∈ TB := tb1 197 rfl rfl
theorem ki_X2 : Cond.instantiable RX2 5 ∈ TB := tb1 198 rfl rfl
theorem n_X3_71 : Cond.methodLinkNest RX3 71 yX2_init "BeamPlate" ∈ lw_tbl := List.mem_append_right _ (List.mem_append_left _ (List.mem_of_getElem? (i := 199) rfl))
theorem k_X2_1 : Cond.methodLink RX2 1 objectInit ∈ TB := tb1 202 rfl rfl
theorem k_X2_9 : Cond.fieldLink RX2 9 (TX2 0).1 (TX2 0).2.1 (TX2 0).2.2.1 ∈ TB := tb1 203 rfl rfl
theorem k_X3_201 : Cond.fieldLink RX3 201 (TX2 0).1 (TX2 0).2.1 (TX2 0).2.2.1 ∈ TB := tb1 204 rfl rfl
theorem k_X2_15 : Cond.fieldLink RX2 15 (TX2 1).1 (TX2 1).2.1 (TX2 1).2.2.1 ∈ TB := tb1 205 rfl rfl
theorem k_X2_18 : Cond.fieldLink RX2 18 (TX2 2).1 (TX2 2).2.1 (TX2 2).2.2.1 ∈ TB := tb1 206 rfl rfl
theorem k_X11_155 : Cond.fieldLink RX11 155 (TX2 2).1 (TX2 2).2.1 (TX2 2).2.2.1 ∈ TB := tb1 207 rfl rfl
theorem k_X3_198 : Cond.fieldLink RX3 198 (TX2 2).1 (TX2 2).2.1 (TX2 2).2.2.1 ∈ TB := tb1 208 rfl rfl
theorem k_X2_22 : Cond.fieldLink RX2 22 (TX2 3).1 (TX2 3).2.1 (TX2 3).2.2.1 ∈ TB := tb1 209 rfl rfl
theorem k_X3_207 : Cond.fieldLink RX3 207 (TX2 3).1 (TX2 3).2.1 (TX2 3).2.2.1 ∈ TB := tb1 210 rfl rfl
theorem k_X2_25 : Cond.fieldLink RX2 25 (TX2 4).1 (TX2 4).2.1 (TX2 4).2.2.1 ∈ TB := tb1 211 rfl rfl
theorem k_X11_158 : Cond.fieldLink RX11 158 (TX2 4).1 (TX2 4).2.1 (TX2 4).2.2.1 ∈ TB := tb1 212 rfl rfl
theorem k_X3_192 : Cond.fieldLink RX3 192 (TX2 4).1 (TX2 4).2.1 (TX2 4).2.2.1 ∈ TB := tb1 213 rfl rfl
theorem k_X3_11 : Cond.fieldLink RX3 11 (TX3 0).1 (TX3 0).2.1 (TX3 0).2.2.1 ∈ TB := tb1 225 rfl rfl
theorem k_X2_35 : Cond.fieldLink RX2 35 (TX3 0).1 (TX3 0).2.1 (TX3 0).2.2.1 ∈ TB := tb1 226 rfl rfl
theorem k_X3_15 : Cond.fieldLink RX3 15 (TX3 1).1 (TX3 1).2.1 (TX3 1).2.2.1 ∈ TB := tb1 227 rfl rfl
theorem k_X3_18 : Cond.fieldLink RX3 18 (TX3 2).1 (TX3 2).2.1 (TX3 2).2.2.1 ∈ TB := tb1 228 rfl rfl
theorem k_X2_46 : Cond.fieldLink RX2 46 (TX3 2).1 (TX3 2).2.1 (TX3 2).2.2.1 ∈ TB := tb1 229 rfl rfl
theorem k_X3_21 : Cond.fieldLink RX3 21 (TX3 3).1 (TX3 3).2.1 (TX3 3).2.2.1 ∈ TB := tb1 230 rfl rfl
theorem k_X3_24 : Cond.fieldLink RX3 24 (TX3 4).1 (TX3 4).2.1 (TX3 4).2.2.1 ∈ TB := tb1 231 rfl rfl
theorem k_X3_27 : Cond.fieldLink RX3 27 (TX3 5).1 (TX3 5).2.1 (TX3 5).2.2.1 ∈ TB := tb1 232 rfl rfl
theorem k_X6_22 : Cond.fieldLink RX6 22 (TX3 5).1 (TX3 5).2.1 (TX3 5).2.2.1 ∈ TB := tb1 233 rfl rfl
theorem k_X9_77 : Cond.fieldLink RX9 77 (TX3 5).1 (TX3 5).2.1 (TX3 5).2.2.1 ∈ TB := tb1 234 rfl rfl
theorem k_X11_168 : Cond.fieldLink RX11 168 (TX3 5).1 (TX3 5).2.1 (TX3 5).2.2.1 ∈ TB := tb1 235 rfl rfl
theorem k_X3_30 : Cond.fieldLink RX3 30 (TX3 6).1 (TX3 6).2.1 (TX3 6).2.2.1 ∈ TB := tb1 236 rfl rfl
theorem k_X6_79 : Cond.fieldLink RX6 79 (TX3 6).1 (TX3 6).2.1 (TX3 6).2.2.1 ∈ TB := tb1 237 rfl rfl
theorem k_X11_206 : Cond.fieldLink RX11 206 (TX3 6).1 (TX3 6).2.1 (TX3 6).2.2.1 ∈ TB := tb1 238 rfl rfl
theorem k_X3_33 : Cond.fieldLink RX3 33 (TX3 7).1 (TX3 7).2.1 (TX3 7).2.2.1 ∈ TB := tb1 239 rfl rfl
theorem k_X11_209 : Cond.fieldLink RX11 209 (TX3 7).1 (TX3 7).2.1 (TX3 7).2.2.1 ∈ TB := tb2 0 rfl rfl
theorem k_X3_37 : Cond.fieldLink RX3 37 (TX3 8).1 (TX3 8).2.1 (TX3 8).2.2.1 ∈ TB := tb2 1 rfl rfl
theorem k_X11_217 : Cond.fieldLink RX11 217 (TX3 8).1 (TX3 8).2.1 (TX3 8).2.2.1 ∈ TB := tb2 2 rfl rfl
theorem k_X3_40 : Cond.fieldLink RX3 40 (TX3 9).1 (TX3 9).2.1 (TX3 9).2.2.1 ∈ TB := tb2 3 rfl rfl
theorem k_X11_220 : Cond.fieldLink RX11 220 (TX3 9).1 (TX3 9).2.1 (TX3 9).2.2.1 ∈ TB := tb2 4 rfl rfl
theorem k_X3_46 : Cond.fieldLink RX3 46 (TX3 10).1 (TX3 10).2.1 (TX3 10).2.2.1 ∈ TB := tb2 5 rfl rfl
theorem k_X6_51 : Cond.fieldLink RX6 51 (TX3 10).1 (TX3 10).2.1 (TX3 10).2.2.1 ∈ TB := tb2 6 rfl rfl
theorem k_X9_84 : Cond.fieldLink RX9 84 (TX3 10).1 (TX3 10).2.1 (TX3 10).2.2.1 ∈ TB := tb2 7 rfl rfl
theorem k_X11_171 : Cond.fieldLink RX11 171 (TX3 10).1 (TX3 10).2.1 (TX3 10).2.2.1 ∈ TB := tb2 8 rfl rfl
theorem k_X3_50 : Cond.fieldLink RX3 50 (TX3 11).1 (TX3 11).2.1 (TX3 11).2.2.1 ∈ TB := tb2 9 rfl rfl
theorem k_X6_125 : Cond.fieldLink RX6 125 (TX3 11).1 (TX3 11).2.1 (TX3 11).2.2.1 ∈ TB := tb2 10 rfl rfl
theorem k_X11_140 : Cond.fieldLink RX11 140 (TX3 11).1 (TX3 11).2.1 (TX3 11).2.2.1 ∈ TB := tb2 11 rfl rfl
theorem k_X3_54 : Cond.fieldLink RX3 54 (TX3 12).1 (TX3 12).2.1 (TX3 12).2.2.1 ∈ TB := tb2 12 rfl rfl
theorem k_X2_49 : Cond.fieldLink RX2 49 (TX3 12).1 (TX3 12).2.1 (TX3 12).2.2.1 ∈ TB := tb2 13 rfl rfl
theorem k_X3_57 : Cond.fieldLink RX3 57 (TX3 13).1 (TX3 13).2.1 (TX3 13).2.2.1 ∈ TB := tb2 14 rfl rfl
theorem k_X11_148 : Cond.fieldLink RX11 148 (TX3 13).1 (TX3 13).2.1 (TX3 13).2.2.1 ∈ TB := tb2 15 rfl rfl
theorem k_X3_60 : Cond.fieldLink RX3 60 (TX3 14).1 (TX3 14).2.1 (TX3 14).2.2.1 ∈ TB := tb2 16 rfl rfl
theorem k_X3_63 : Cond.fieldLink RX3 63 (TX3 15).1 (TX3 15).2.1 (TX3 15).2.2.1 ∈ TB := tb2 17 rfl rfl
theorem k_X3_66 : Cond.fieldLink RX3 66 (TX3 16).1 (TX3 16).2.1 (TX3 16).2.2.1 ∈ TB := tb2 18 rfl rfl
theorem k_X3_72 : Cond.fieldLink RX3 72 (TX3 17).1 (TX3 17).2.1 (TX3 17).2.2.1 ∈ TB := tb2 19 rfl rfl
theorem k_X11_42 : Cond.classLink RX11 42 RX6 ∈ TB := tb2 57 rfl rfl
theorem ki_X6 : Cond.instantiable RX6 3 ∈ TB := tb2 58 rfl rfl
theorem n_X11_44 : Cond.methodLinkNest RX11 44 yX6_init "BeamPlate" ∈ lw_tbl := List.mem_append_right _ (List.mem_append_right _ (List.mem_append_left _ (List.mem_of_getElem? (i := 59) rfl)))
theorem k_X6_3 : Cond.methodLink RX6 3 objectInit ∈ TB := tb2 62 rfl rfl
theorem k_X6_11 : Cond.fieldLink RX6 11 (TX6 0).1 (TX6 0).2.1 (TX6 0).2.2.1 ∈ TB := tb2 63 rfl rfl
theorem k_X6_15 : Cond.fieldLink RX6 15 (TX6 1).1 (TX6 1).2.1 (TX6 1).2.2.1 ∈ TB := tb2 64 rfl rfl
theorem k_X6_19 : Cond.fieldLink RX6 19 (TX6 2).1 (TX6 2).2.1 (TX6 2).2.2.1 ∈ TB := tb2 65 rfl rfl
theorem k_X11_49 : Cond.classLink RX11 49 RX9 ∈ TB := tb2 73 rfl rfl
theorem ki_X9 : Cond.instantiable RX9 7 ∈ TB := tb2 74 rfl rfl
theorem n_X11_51 : Cond.methodLinkNest RX11 51 yX9_init "BeamPlate" ∈ lw_tbl := List.mem_append_right _ (List.mem_append_right _ (List.mem_append_left _ (List.mem_of_getElem? (i := 75) rfl)))
theorem k_X9_3 : Cond.methodLink RX9 3 objectInit ∈ TB := tb2 78 rfl rfl
theorem k_X9_21 : Cond.classLink RX9 21 RX6 ∈ TB := tb2 79 rfl rfl
theorem n_X9_23 : Cond.methodLinkNest RX9 23 yX6_init "BeamPlate" ∈ lw_tbl := List.mem_append_right _ (List.mem_append_right _ (List.mem_append_left _ (List.mem_of_getElem? (i := 80) rfl)))
theorem k_X9_28 : Cond.classLink RX9 28 RX5 ∈ TB := tb2 81 rfl rfl
theorem k_X9_30 : Cond.methodLink RX9 30 yX5_init ∈ TB := tb2 82 rfl rfl
theorem k_X9_37 : Cond.classLink RX9 37 RX3 ∈ TB := tb2 83 rfl rfl
theorem n_X9_39 : Cond.methodLinkNest RX9 39 yX3_init "BeamPlate" ∈ lw_tbl := List.mem_append_right _ (List.mem_append_right _ (List.mem_append_left _ (List.mem_of_getElem? (i := 84) rfl)))
theorem k_X9_9 : Cond.fieldLink RX9 9 (TX9 0).1 (TX9 0).2.1 (TX9 0).2.2.1 ∈ TB := tb2 85 rfl rfl
theorem k_X11_234 : Cond.fieldLink RX11 234 (TX9 0).1 (TX9 0).2.1 (TX9 0).2.2.1 ∈ TB := tb2 86 rfl rfl
theorem k_X9_15 : Cond.fieldLink RX9 15 (TX9 1).1 (TX9 1).2.1 (TX9 1).2.2.1 ∈ TB := tb2 87 rfl rfl
theorem k_X11_237 : Cond.fieldLink RX11 237 (TX9 1).1 (TX9 1).2.1 (TX9 1).2.2.1 ∈ TB := tb2 88 rfl rfl
theorem k_X9_18 : Cond.fieldLink RX9 18 (TX9 2).1 (TX9 2).2.1 (TX9 2).2.2.1 ∈ TB := tb2 89 rfl rfl
theorem k_X11_240 : Cond.fieldLink RX11 240 (TX9 2).1 (TX9 2).2.1 (TX9 2).2.2.1 ∈ TB := tb2 90 rfl rfl
theorem k_X9_24 : Cond.fieldLink RX9 24 (TX9 3).1 (TX9 3).2.1 (TX9 3).2.2.1 ∈ TB := tb2 91 rfl rfl
theorem k_X9_33 : Cond.fieldLink RX9 33 (TX9 4).1 (TX9 4).2.1 (TX9 4).2.2.1 ∈ TB := tb2 92 rfl rfl
theorem k_X9_40 : Cond.fieldLink RX9 40 (TX9 5).1 (TX9 5).2.1 (TX9 5).2.2.1 ∈ TB := tb2 93 rfl rfl
theorem k_X9_44 : Cond.fieldLink RX9 44 (TX9 6).1 (TX9 6).2.1 (TX9 6).2.2.1 ∈ TB := tb2 94 rfl rfl
theorem k_X11_56 : Cond.classLink RX11 56 RX0 ∈ TB := tb2 110 rfl rfl
theorem ki_X0 : Cond.instantiable RX0 5 ∈ TB := tb2 111 rfl rfl
theorem n_X11_58 : Cond.methodLinkNest RX11 58 yX0_init "BeamPlate" ∈ lw_tbl := List.mem_append_right _ (List.mem_append_right _ (List.mem_append_left _ (List.mem_of_getElem? (i := 112) rfl)))
theorem k_X0_5 : Cond.methodLink RX0 5 objectInit ∈ TB := tb2 115 rfl rfl
theorem k_X0_11 : Cond.fieldLink RX0 11 (TX0 0).1 (TX0 0).2.1 (TX0 0).2.2.1 ∈ TB := tb2 116 rfl rfl
theorem k_X0_15 : Cond.fieldLink RX0 15 (TX0 1).1 (TX0 1).2.1 (TX0 1).2.2.1 ∈ TB := tb2 117 rfl rfl
theorem k_X0_18 : Cond.fieldLink RX0 18 (TX0 2).1 (TX0 2).2.1 (TX0 2).2.2.1 ∈ TB := tb2 118 rfl rfl
theorem k_X0_21 : Cond.fieldLink RX0 21 (TX0 3).1 (TX0 3).2.1 (TX0 3).2.2.1 ∈ TB := tb2 119 rfl rfl
theorem k_X0_24 : Cond.fieldLink RX0 24 (TX0 4).1 (TX0 4).2.1 (TX0 4).2.2.1 ∈ TB := tb2 120 rfl rfl
theorem k_X11_63 : Cond.classLink RX11 63 RX7 ∈ TB := tb2 132 rfl rfl
theorem ki_X7 : Cond.instantiable RX7 6 ∈ TB := tb2 133 rfl rfl
theorem n_X11_65 : Cond.methodLinkNest RX11 65 yX7_init "BeamPlate" ∈ lw_tbl := List.mem_append_right _ (List.mem_append_right _ (List.mem_append_left _ (List.mem_of_getElem? (i := 134) rfl)))
theorem k_X7_3 : Cond.methodLink RX7 3 objectInit ∈ TB := tb2 137 rfl rfl
theorem k_X7_11 : Cond.fieldLink RX7 11 (TX7 0).1 (TX7 0).2.1 (TX7 0).2.2.1 ∈ TB := tb2 138 rfl rfl
theorem k_X7_15 : Cond.fieldLink RX7 15 (TX7 1).1 (TX7 1).2.1 (TX7 1).2.2.1 ∈ TB := tb2 139 rfl rfl
theorem k_X7_18 : Cond.fieldLink RX7 18 (TX7 2).1 (TX7 2).2.1 (TX7 2).2.2.1 ∈ TB := tb2 140 rfl rfl
theorem k_X7_21 : Cond.fieldLink RX7 21 (TX7 3).1 (TX7 3).2.1 (TX7 3).2.2.1 ∈ TB := tb2 141 rfl rfl
theorem k_X7_25 : Cond.fieldLink RX7 25 (TX7 4).1 (TX7 4).2.1 (TX7 4).2.2.1 ∈ TB := tb2 142 rfl rfl
theorem k_X7_29 : Cond.fieldLink RX7 29 (TX7 5).1 (TX7 5).2.1 (TX7 5).2.2.1 ∈ TB := tb2 143 rfl rfl
theorem ka_boolean : Cond.arrayClass .boolean ∈ TB := tb2 157 rfl rfl
theorem k_X11_10 : Cond.fieldLink RX11 10 (TX11 0).1 (TX11 0).2.1 (TX11 0).2.2.1 ∈ TB := tb2 158 rfl rfl
theorem k_X11_21 : Cond.fieldLink RX11 21 (TX11 1).1 (TX11 1).2.1 (TX11 1).2.2.1 ∈ TB := tb2 159 rfl rfl
theorem k_X11_25 : Cond.fieldLink RX11 25 (TX11 2).1 (TX11 2).2.1 (TX11 2).2.2.1 ∈ TB := tb2 160 rfl rfl
theorem k_X11_31 : Cond.fieldLink RX11 31 (TX11 3).1 (TX11 3).2.1 (TX11 3).2.2.1 ∈ TB := tb2 161 rfl rfl
theorem k_X11_38 : Cond.fieldLink RX11 38 (TX11 4).1 (TX11 4).2.1 (TX11 4).2.2.1 ∈ TB := tb2 162 rfl rfl
theorem k_X11_45 : Cond.fieldLink RX11 45 (TX11 5).1 (TX11 5).2.1 (TX11 5).2.2.1 ∈ TB := tb2 163 rfl rfl
theorem k_X11_52 : Cond.fieldLink RX11 52 (TX11 6).1 (TX11 6).2.1 (TX11 6).2.2.1 ∈ TB := tb2 164 rfl rfl
theorem k_X11_59 : Cond.fieldLink RX11 59 (TX11 7).1 (TX11 7).2.1 (TX11 7).2.2.1 ∈ TB := tb2 165 rfl rfl
theorem k_X11_66 : Cond.fieldLink RX11 66 (TX11 8).1 (TX11 8).2.1 (TX11 8).2.2.1 ∈ TB := tb2 166 rfl rfl
theorem k_X11_70 : Cond.fieldLink RX11 70 (TX11 9).1 (TX11 9).2.1 (TX11 9).2.2.1 ∈ TB := tb2 167 rfl rfl
theorem k_X11_74 : Cond.fieldLink RX11 74 (TX11 10).1 (TX11 10).2.1 (TX11 10).2.2.1 ∈ TB := tb2 168 rfl rfl
theorem k_L_13 : Cond.methodLink RL 13 yX11_stuff ∈ TB := tb2 192 rfl rfl
theorem k_X11_77 : Cond.methodLink RX11 77 yX10_setStuff ∈ TB := tb2 196 rfl rfl
theorem n_X10_46 : Cond.methodLinkNest RX10 46 yX11_within "BeamPlate" ∈ lw_tbl := List.mem_append_right _ (List.mem_append_right _ (List.mem_append_left _ (List.mem_of_getElem? (i := 200) rfl)))
theorem k_L_18 : Cond.methodLink RL 18 yX11_plate ∈ TB := tb2 203 rfl rfl
theorem k_X11_81 : Cond.methodLink RX11 81 yX11_within ∈ TB := tb2 207 rfl rfl
theorem k_X11_85 : Cond.methodLink RX11 85 yX3_renew ∈ TB := tb2 208 rfl rfl
theorem k_X3_76 : Cond.methodLink RX3 76 Lib.Math.min.name ∈ TB := tb2 212 rfl rfl
theorem k_X3_82 : Cond.methodLink RX3 82 yX1_renew ∈ TB := tb2 215 rfl rfl
theorem k_X3_85 : Cond.methodLink RX3 85 yJ7_fill_53178 ∈ TB := tb2 219 rfl rfl
theorem k_L_23 : Cond.methodLink RL 23 yX11_beam ∈ TB := tb2 222 rfl rfl
theorem k_L_28 : Cond.methodLink RL 28 yX11_pitch ∈ TB := tb2 226 rfl rfl
theorem k_L_33 : Cond.methodLink RL 33 yX11_feed ∈ TB := tb2 230 rfl rfl
theorem k_X11_102 : Cond.methodLink RX11 102 yX5_addBytes ∈ TB := tb2 234 rfl rfl
theorem k_X5_25 : Cond.methodLink RX5 25 yX5_add ∈ TB := tb2 238 rfl rfl
theorem k_L_38 : Cond.methodLink RL 38 yX11_end ∈ TB := tb3 2 rfl rfl
theorem k_L_42 : Cond.methodLink RL 42 yX11_way ∈ TB := tb3 6 rfl rfl
theorem k_X11_105 : Cond.methodLink RX11 105 yX10_programOf ∈ TB := tb3 10 rfl rfl
theorem k_X11_109 : Cond.methodLink RX11 109 yX4_read ∈ TB := tb3 14 rfl rfl
theorem k_X4_46 : Cond.methodLink RX4 46 yX8_takeApart ∈ TB := tb3 18 rfl rfl
theorem k_X8_34 : Cond.methodLink RX8 34 yX8_isLetter ∈ TB := tb3 22 rfl rfl
theorem n_X8_81 : Cond.methodLinkNest RX8 81 yX11_within "BeamPlate" ∈ lw_tbl := List.mem_append_right _ (List.mem_append_right _ (List.mem_append_right _ (List.mem_append_left _ (List.mem_of_getElem? (i := 25) rfl))))
theorem k_X8_38 : Cond.methodLink RX8 38 yX8_takeWord ∈ TB := tb3 26 rfl rfl
theorem k_X8_62 : Cond.methodLink RX8 62 yX8_kindOfWord ∈ TB := tb3 30 rfl rfl
theorem k_X8_68 : Cond.methodLink RX8 68 yJ0_length_8abf5 ∈ TB := tb3 34 rfl rfl
theorem k_J0_335 : Cond.methodLink RJ0 335 yJ0_coder_7d493 ∈ TB := tb3 38 rfl rfl
theorem k_X8_74 : Cond.methodLink RX8 74 yJ0_charAt_5068e ∈ TB := tb3 44 rfl rfl
theorem k_J0_492 : Cond.methodLink RJ0 492 yJ0_isLatin1_aae02 ∈ TB := tb3 48 rfl rfl
theorem k_J0_495 : Cond.methodLink RJ0 495 yJ1_charAt_3b067 ∈ TB := tb3 52 rfl rfl
theorem k_J1_9 : Cond.methodLink RJ1 9 yJ0_checkIndex_df160 ∈ TB := tb3 55 rfl rfl
theorem k_J0_1059 : Cond.methodLink RJ0 1059 yJ3_checkIndex_8e157 ∈ TB := tb3 60 rfl rfl
theorem k_J0_498 : Cond.methodLink RJ0 498 yJ2_charAt_3b067 ∈ TB := tb3 63 rfl rfl
theorem k_J2_67 : Cond.methodLink RJ2 67 yJ2_checkIndex_2214a ∈ TB := tb3 66 rfl rfl
theorem k_J2_48 : Cond.methodLink RJ2 48 yJ2_length_9d52b ∈ TB := tb3 69 rfl rfl
theorem k_J2_414 : Cond.methodLink RJ2 414 yJ0_checkIndex_df160 ∈ TB := tb3 72 rfl rfl
theorem k_J2_71 : Cond.methodLink RJ2 71 yJ2_getChar_3b067 ∈ TB := tb3 73 rfl rfl
theorem k_X8_78 : Cond.methodLink RX8 78 yX5_at ∈ TB := tb3 82 rfl rfl
theorem k_X8_55 : Cond.methodLink RX8 55 yX8_keep ∈ TB := tb3 86 rfl rfl
theorem k_X8_59 : Cond.methodLink RX8 59 yX5_add ∈ TB := tb3 90 rfl rfl
theorem k_X8_42 : Cond.methodLink RX8 42 yX8_isDigit ∈ TB := tb3 91 rfl rfl
theorem k_X8_45 : Cond.methodLink RX8 45 yX8_takeNumber ∈ TB := tb3 94 rfl rfl
theorem k_X8_48 : Cond.methodLink RX8 48 yX8_isBlank ∈ TB := tb3 98 rfl rfl
theorem k_X8_51 : Cond.methodLink RX8 51 yX8_kindOfSign ∈ TB := tb3 101 rfl rfl
theorem k_X4_56 : Cond.methodLink RX4 56 yX5_at ∈ TB := tb3 104 rfl rfl
theorem n_X4_60 : Cond.methodLinkNest RX4 60 yX11_within "BeamPlate" ∈ lw_tbl := List.mem_append_right _ (List.mem_append_right _ (List.mem_append_right _ (List.mem_append_left _ (List.mem_of_getElem? (i := 105) rfl))))
theorem k_X4_64 : Cond.methodLink RX4 64 yX4_readStep ∈ TB := tb3 106 rfl rfl
theorem k_X4_74 : Cond.methodLink RX4 74 yX4_fail ∈ TB := tb3 110 rfl rfl
theorem k_X4_83 : Cond.methodLink RX4 83 yX5_add ∈ TB := tb3 114 rfl rfl
theorem k_X4_80 : Cond.methodLink RX4 80 yX4_advance ∈ TB := tb3 115 rfl rfl
theorem k_X4_86 : Cond.methodLink RX4 86 yX4_readNumber ∈ TB := tb3 119 rfl rfl
theorem k_X4_90 : Cond.methodLink RX4 90 yX4_readSide ∈ TB := tb3 123 rfl rfl
theorem k_X4_93 : Cond.methodLink RX4 93 yX4_openAgain ∈ TB := tb3 127 rfl rfl
theorem k_X4_108 : Cond.methodLink RX4 108 yX4_expect ∈ TB := tb3 131 rfl rfl
theorem k_X4_96 : Cond.methodLink RX4 96 yX4_openIf ∈ TB := tb3 135 rfl rfl
theorem k_X4_117 : Cond.methodLink RX4 117 yX4_readSum ∈ TB := tb3 139 rfl rfl
theorem k_X4_120 : Cond.methodLink RX4 120 yX4_readTerm ∈ TB := tb3 143 rfl rfl
theorem k_X4_102 : Cond.methodLink RX4 102 yX5_put ∈ TB := tb3 147 rfl rfl
theorem k_X4_99 : Cond.methodLink RX4 99 yX4_closeStep ∈ TB := tb3 151 rfl rfl
theorem k_X4_67 : Cond.methodLink RX4 67 yX4_innermost ∈ TB := tb3 155 rfl rfl
theorem k_X4_105 : Cond.methodLink RX4 105 yX4_dropInnermost ∈ TB := tb3 159 rfl rfl
theorem k_X4_111 : Cond.methodLink RX4 111 Lib.Math.max.name ∈ TB := tb3 163 rfl rfl
theorem k_X4_71 : Cond.methodLink RX4 71 yX4_closeAgain ∈ TB := tb3 164 rfl rfl
theorem k_X11_120 : Cond.methodLink RX11 120 yX5_copyFrom ∈ TB := tb3 168 rfl rfl
theorem k_X5_29 : Cond.methodLink RX5 29 Lib.Math.min.name ∈ TB := tb3 172 rfl rfl
theorem k_X5_32 : Cond.methodLink RX5 32 arraycopyName ∈ TB := tb3 173 rfl rfl
theorem ka_byte : Cond.arrayClass .byte ∈ TB := tb3 176 rfl rfl
theorem k_L_46 : Cond.methodLink RL 46 yX11_fault ∈ TB := tb3 177 rfl rfl
theorem k_L_51 : Cond.methodLink RL 51 yX11_run ∈ TB := tb3 181 rfl rfl
theorem k_X11_124 : Cond.methodLink RX11 124 yX3_isLaid ∈ TB := tb3 185 rfl rfl
theorem k_X11_128 : Cond.methodLink RX11 128 yX6_perform ∈ TB := tb3 189 rfl rfl
theorem k_X6_27 : Cond.constant RX6 27 (200000) ∈ TB := tb3 193 rfl rfl
theorem k_X6_33 : Cond.methodLink RX6 33 yX5_at ∈ TB := tb3 194 rfl rfl
theorem k_X6_39 : Cond.methodLink RX6 39 yX3_moveHead ∈ TB := tb3 195 rfl rfl
theorem k_X3_107 : Cond.methodLink RX3 107 yX3_has ∈ TB := tb3 199 rfl rfl
theorem k_X3_111 : Cond.methodLink RX3 111 yX3_index ∈ TB := tb3 203 rfl rfl
theorem k_X3_114 : Cond.methodLink RX3 114 yX3_isThere ∈ TB := tb3 207 rfl rfl
theorem k_X6_43 : Cond.methodLink RX6 43 yX6_travel ∈ TB := tb3 211 rfl rfl
theorem n_X6_91 : Cond.methodLinkNest RX6 91 yX11_stepX "BeamPlate" ∈ lw_tbl := List.mem_append_right _ (List.mem_append_right _ (List.mem_append_right _ (List.mem_append_left _ (List.mem_of_getElem? (i := 215) rfl))))
theorem n_X6_97 : Cond.methodLinkNest RX6 97 yX11_stepY "BeamPlate" ∈ lw_tbl := List.mem_append_right _ (List.mem_append_right _ (List.mem_append_right _ (List.mem_append_left _ (List.mem_of_getElem? (i := 218) rfl))))
theorem k_X6_100 : Cond.methodLink RX6 100 yX3_tick ∈ TB := tb3 221 rfl rfl
theorem n_X3_121 : Cond.methodLinkNest RX3 121 yX11_within "BeamPlate" ∈ lw_tbl := List.mem_append_right _ (List.mem_append_right _ (List.mem_append_right _ (List.mem_append_left _ (List.mem_of_getElem? (i := 225) rfl))))
theorem k_X3_134 : Cond.methodLink RX3 134 yX3_giveHeat ∈ TB := tb3 226 rfl rfl
theorem k_X3_169 : Cond.methodLink RX3 169 yX3_headPlace ∈ TB := tb3 230 rfl rfl
theorem k_X3_173 : Cond.constant RX3 173 (99999999) ∈ TB := tb3 234 rfl rfl
theorem k_X3_174 : Cond.methodLink RX3 174 Lib.Math.max.name ∈ TB := tb3 235 rfl rfl
theorem k_X3_141 : Cond.methodLink RX3 141 yX3_leadHeat ∈ TB := tb3 236 rfl rfl
theorem k_X3_177 : Cond.methodLink RX3 177 yX3_leadBetween ∈ TB := tb4 0 rfl rfl
theorem k_X3_147 : Cond.methodLink RX3 147 yX3_loseHeat ∈ TB := tb4 4 rfl rfl
theorem k_X3_156 : Cond.methodLink RX3 156 yX3_cutMolten ∈ TB := tb4 8 rfl rfl
theorem k_X3_181 : Cond.methodLink RX3 181 yX3_takeAway ∈ TB := tb4 12 rfl rfl
theorem k_X3_162 : Cond.methodLink RX3 162 yX3_burnHot ∈ TB := tb4 16 rfl rfl
theorem k_X3_165 : Cond.methodLink RX3 165 yX3_loosenParts ∈ TB := tb4 20 rfl rfl
theorem k_X3_185 : Cond.methodLink RX3 185 yX2_forgetSeen ∈ TB := tb4 24 rfl rfl
theorem k_X2_29 : Cond.methodLink RX2 29 yJ7_fill_53178 ∈ TB := tb4 28 rfl rfl
theorem k_X3_188 : Cond.methodLink RX3 188 yX2_gather ∈ TB := tb4 29 rfl rfl
theorem k_X2_38 : Cond.methodLink RX2 38 yX2_take ∈ TB := tb4 33 rfl rfl
theorem k_X2_42 : Cond.methodLink RX2 42 yX3_isBorder ∈ TB := tb4 37 rfl rfl
theorem k_X3_195 : Cond.methodLink RX3 195 yX3_settlePart ∈ TB := tb4 41 rfl rfl
theorem k_X3_204 : Cond.methodLink RX3 204 yX10_hasSlatAt ∈ TB := tb4 45 rfl rfl
theorem k_X6_47 : Cond.methodLink RX6 47 yX6_stay ∈ TB := tb4 49 rfl rfl
theorem k_X6_60 : Cond.methodLink RX6 60 yX6_setTurns ∈ TB := tb4 53 rfl rfl
theorem n_X6_82 : Cond.methodLinkNest RX6 82 yX11_within "BeamPlate" ∈ lw_tbl := List.mem_append_right _ (List.mem_append_right _ (List.mem_append_right _ (List.mem_append_right _ (List.mem_append_left _ (List.mem_of_getElem? (i := 57) rfl)))))
theorem k_X6_64 : Cond.methodLink RX6 64 yX6_turns ∈ TB := tb4 58 rfl rfl
theorem k_X6_67 : Cond.methodLink RX6 67 yX6_isSo ∈ TB := tb4 62 rfl rfl
theorem k_X6_104 : Cond.methodLink RX6 104 yX6_sum ∈ TB := tb4 66 rfl rfl
theorem k_X6_108 : Cond.methodLink RX6 108 Lib.Math.abs.name ∈ TB := tb4 70 rfl rfl
theorem k_X6_113 : Cond.methodLink RX6 113 yX6_valueOf ∈ TB := tb4 73 rfl rfl
theorem k_X6_117 : Cond.methodLink RX6 117 yX3_headPlace ∈ TB := tb4 77 rfl rfl
theorem k_X6_121 : Cond.methodLink RX6 121 yX3_isThere ∈ TB := tb4 78 rfl rfl
theorem k_X6_71 : Cond.methodLink RX6 71 yX6_stepOfIf ∈ TB := tb4 79 rfl rfl
theorem k_L_55 : Cond.methodLink RL 55 yX11_cell ∈ TB := tb4 82 rfl rfl
theorem k_X11_132 : Cond.methodLink RX11 132 yX3_has ∈ TB := tb4 86 rfl rfl
theorem k_X11_136 : Cond.methodLink RX11 136 yX3_index ∈ TB := tb4 87 rfl rfl
theorem k_X11_144 : Cond.methodLink RX11 144 yX3_condition ∈ TB := tb4 88 rfl rfl
theorem k_X11_151 : Cond.methodLink RX11 151 yX3_partAt ∈ TB := tb4 92 rfl rfl
theorem k_X11_161 : Cond.methodLink RX11 161 yX3_isThere ∈ TB := tb4 96 rfl rfl
theorem k_X11_165 : Cond.methodLink RX11 165 yX3_bridge ∈ TB := tb4 97 rfl rfl
theorem k_X3_210 : Cond.methodLink RX3 210 yX3_partAt ∈ TB := tb4 101 rfl rfl
theorem k_X3_214 : Cond.methodLink RX3 214 yX3_spreadCosts ∈ TB := tb4 102 rfl rfl
theorem n_X3_224 : Cond.methodLinkNest RX3 224 yX11_stepX "BeamPlate" ∈ lw_tbl := List.mem_append_right _ (List.mem_append_right _ (List.mem_append_right _ (List.mem_append_right _ (List.mem_append_left _ (List.mem_of_getElem? (i := 106) rfl)))))
theorem n_X3_228 : Cond.methodLinkNest RX3 228 yX11_stepY "BeamPlate" ∈ lw_tbl := List.mem_append_right _ (List.mem_append_right _ (List.mem_append_right _ (List.mem_append_right _ (List.mem_append_left _ (List.mem_of_getElem? (i := 107) rfl)))))
theorem k_X3_221 : Cond.methodLink RX3 221 yX3_costAt ∈ TB := tb4 108 rfl rfl
theorem k_X3_218 : Cond.methodLink RX3 218 yX3_isBorder ∈ TB := tb4 112 rfl rfl
theorem k_L_60 : Cond.methodLink RL 60 yX11_look ∈ TB := tb4 113 rfl rfl
theorem k_X11_192 : Cond.methodLink RX11 192 yX3_countState ∈ TB := tb4 117 rfl rfl
theorem k_X11_195 : Cond.methodLink RX11 195 yX3_countTipped ∈ TB := tb4 121 rfl rfl
theorem k_X11_199 : Cond.methodLink RX11 199 yX3_countBurntThere ∈ TB := tb4 125 rfl rfl
theorem k_X11_202 : Cond.methodLink RX11 202 yX3_countParts ∈ TB := tb4 129 rfl rfl
theorem k_L_64 : Cond.methodLink RL 64 yX11_heat ∈ TB := tb4 133 rfl rfl
theorem k_X11_213 : Cond.methodLink RX11 213 yX3_heatInAll ∈ TB := tb4 137 rfl rfl
theorem k_X11_223 : Cond.constantLong RX11 223 (-1) ∈ TB := tb4 141 rfl rfl
theorem k_L_69 : Cond.methodLink RL 69 yX11_order ∈ TB := tb4 142 rfl rfl
theorem k_X11_225 : Cond.methodLink RX11 225 yJ6_bitCount_0f7a4 ∈ TB := tb4 146 rfl rfl
theorem k_J6_265 : Cond.constant RJ6 265 (1431655765) ∈ TB := tb4 149 rfl rfl
theorem k_J6_266 : Cond.constant RJ6 266 (858993459) ∈ TB := tb4 150 rfl rfl
theorem k_J6_267 : Cond.constant RJ6 267 (252645135) ∈ TB := tb4 151 rfl rfl
theorem k_X11_230 : Cond.methodLink RX11 230 yX9_seekOrder ∈ TB := tb4 152 rfl rfl
theorem k_X9_48 : Cond.methodLink RX9 48 yX9_choose ∈ TB := tb4 156 rfl rfl
theorem k_X9_55 : Cond.methodLink RX9 55 yX9_ordersJust ∈ TB := tb4 162 rfl rfl
theorem k_X9_59 : Cond.methodLink RX9 59 yX3_copyFrom ∈ TB := tb4 165 rfl rfl
theorem k_X3_91 : Cond.methodLink RX3 91 yX1_copyFrom ∈ TB := tb4 169 rfl rfl
theorem k_X3_95 : Cond.methodLink RX3 95 arraycopyName ∈ TB := tb4 173 rfl rfl
theorem k_X9_63 : Cond.methodLink RX9 63 yX10_programOf ∈ TB := tb4 174 rfl rfl
theorem k_X9_69 : Cond.methodLink RX9 69 yX6_perform ∈ TB := tb4 175 rfl rfl
theorem k_X9_73 : Cond.methodLink RX9 73 yX3_countBurntThere ∈ TB := tb4 176 rfl rfl
theorem k_X9_80 : Cond.methodLink RX9 80 yX9_keepIfBetter ∈ TB := tb4 177 rfl rfl
theorem k_L_74 : Cond.methodLink RL 74 yX11_speed ∈ TB := tb4 181 rfl rfl
theorem k_X11_243 : Cond.methodLink RX11 243 yX9_leastSpeed ∈ TB := tb4 185 rfl rfl
theorem n_X9_93 : Cond.methodLinkNest RX9 93 yX11_stepX "BeamPlate" ∈ lw_tbl := List.mem_append_right _ (List.mem_append_right _ (List.mem_append_right _ (List.mem_append_right _ (List.mem_append_left _ (List.mem_of_getElem? (i := 189) rfl)))))
theorem n_X9_99 : Cond.methodLinkNest RX9 99 yX11_stepY "BeamPlate" ∈ lw_tbl := List.mem_append_right _ (List.mem_append_right _ (List.mem_append_right _ (List.mem_append_right _ (List.mem_append_left _ (List.mem_of_getElem? (i := 190) rfl)))))
theorem k_X9_102 : Cond.methodLink RX9 102 yX3_has ∈ TB := tb4 191 rfl rfl
theorem k_X9_110 : Cond.methodLink RX9 110 yX5_add ∈ TB := tb4 192 rfl rfl
theorem k_X9_116 : Cond.methodLink RX9 116 yX9_noneIsThereBehind ∈ TB := tb4 193 rfl rfl
theorem k_X9_119 : Cond.methodLink RX9 119 yX3_index ∈ TB := tb4 197 rfl rfl
theorem k_X9_123 : Cond.methodLink RX9 123 yX3_isThere ∈ TB := tb4 198 rfl rfl
theorem k_L_78 : Cond.methodLink RL 78 yX11_kind ∈ TB := tb4 199 rfl rfl
theorem k_X11_247 : Cond.methodLink RX11 247 yX0_addKind ∈ TB := tb4 203 rfl rfl
theorem n_X0_28 : Cond.methodLinkNest RX0 28 yX11_within "BeamPlate" ∈ lw_tbl := List.mem_append_right _ (List.mem_append_right _ (List.mem_append_right _ (List.mem_append_right _ (List.mem_append_left _ (List.mem_of_getElem? (i := 207) rfl)))))
theorem k_X0_32 : Cond.methodLink RX0 32 yX0_fillAll ∈ TB := tb4 208 rfl rfl
theorem k_X0_35 : Cond.methodLink RX0 35 yX0_bestKind ∈ TB := tb4 212 rfl rfl
theorem k_X0_42 : Cond.methodLink RX0 42 Lib.Math.max.name ∈ TB := tb4 216 rfl rfl
theorem k_X0_39 : Cond.methodLink RX0 39 yX0_bestCut ∈ TB := tb4 217 rfl rfl
theorem k_L_82 : Cond.methodLink RL 82 yX11_fill ∈ TB := tb4 221 rfl rfl
theorem k_X11_251 : Cond.methodLink RX11 251 yX0_greatestWorth ∈ TB := tb4 225 rfl rfl
theorem k_L_86 : Cond.methodLink RL 86 yX11_test ∈ TB := tb4 229 rfl rfl
theorem k_X11_254 : Cond.methodLink RX11 254 yX7_tell ∈ TB := tb4 233 rfl rfl
theorem n_X7_32 : Cond.methodLinkNest RX7 32 yX11_within "BeamPlate" ∈ lw_tbl := List.mem_append_right _ (List.mem_append_right _ (List.mem_append_right _ (List.mem_append_right _ (List.mem_append_left _ (List.mem_of_getElem? (i := 237) rfl)))))
theorem k_L_91 : Cond.methodLink RL 91 yX11_known ∈ TB := tb4 238 rfl rfl
theorem k_X11_258 : Cond.methodLink RX11 258 yX7_leastMelt ∈ TB := tb5 2 rfl rfl
theorem k_X7_36 : Cond.methodLink RX7 36 Lib.Math.max.name ∈ TB := tb5 6 rfl rfl
theorem k_X11_261 : Cond.methodLink RX11 261 yX7_greatestMelt ∈ TB := tb5 7 rfl rfl
theorem k_X7_42 : Cond.methodLink RX7 42 Lib.Math.min.name ∈ TB := tb5 11 rfl rfl
theorem k_L_95 : Cond.methodLink RL 95 yX11_sparks ∈ TB := tb5 12 rfl rfl
theorem k_L_100 : Cond.methodLink RL 100 yX11_lost ∈ TB := tb5 16 rfl rfl
theorem k_X11_264 : Cond.methodLink RX11 264 yX5_firstRunBelow ∈ TB := tb5 20 rfl rfl
theorem k_L_10 : Cond.classLink RL 10 RX12 ∈ TB := tb5 24 rfl rfl
theorem ki_X12 : Cond.instantiable RX12 74 ∈ TB := tb5 25 rfl rfl
theorem k_L_12 : Cond.methodLink RL 12 yX12_init ∈ TB := tb5 26 rfl rfl
theorem k_X12_1 : Cond.methodLink RX12 1 objectInit ∈ TB := tb5 29 rfl rfl
theorem k_X12_167 : Cond.fieldLink RX12 167 (TX12 0).1 (TX12 0).2.1 (TX12 0).2.2.1 ∈ TB := tb5 30 rfl rfl
theorem k_X12_7 : Cond.fieldLink RX12 7 (TX12 1).1 (TX12 1).2.1 (TX12 1).2.2.1 ∈ TB := tb5 31 rfl rfl
theorem k_X12_13 : Cond.fieldLink RX12 13 (TX12 2).1 (TX12 2).2.1 (TX12 2).2.2.1 ∈ TB := tb5 32 rfl rfl
theorem k_X12_16 : Cond.fieldLink RX12 16 (TX12 3).1 (TX12 3).2.1 (TX12 3).2.2.1 ∈ TB := tb5 33 rfl rfl
theorem k_X12_19 : Cond.fieldLink RX12 19 (TX12 4).1 (TX12 4).2.1 (TX12 4).2.2.1 ∈ TB := tb5 34 rfl rfl
theorem k_X12_174 : Cond.fieldLink RX12 174 (TX12 5).1 (TX12 5).2.1 (TX12 5).2.2.1 ∈ TB := tb5 35 rfl rfl
theorem k_X12_177 : Cond.fieldLink RX12 177 (TX12 6).1 (TX12 6).2.1 (TX12 6).2.2.1 ∈ TB := tb5 36 rfl rfl
theorem k_X12_180 : Cond.fieldLink RX12 180 (TX12 7).1 (TX12 7).2.1 (TX12 7).2.2.1 ∈ TB := tb5 37 rfl rfl
theorem k_X12_183 : Cond.fieldLink RX12 183 (TX12 8).1 (TX12 8).2.1 (TX12 8).2.2.1 ∈ TB := tb5 38 rfl rfl
theorem k_X12_186 : Cond.fieldLink RX12 186 (TX12 9).1 (TX12 9).2.1 (TX12 9).2.2.1 ∈ TB := tb5 39 rfl rfl
theorem k_X12_22 : Cond.fieldLink RX12 22 (TX12 10).1 (TX12 10).2.1 (TX12 10).2.2.1 ∈ TB := tb5 40 rfl rfl
theorem k_X12_26 : Cond.fieldLink RX12 26 (TX12 11).1 (TX12 11).2.1 (TX12 11).2.2.1 ∈ TB := tb5 41 rfl rfl
theorem k_X12_30 : Cond.fieldLink RX12 30 (TX12 12).1 (TX12 12).2.1 (TX12 12).2.2.1 ∈ TB := tb5 42 rfl rfl
theorem k_X12_33 : Cond.fieldLink RX12 33 (TX12 13).1 (TX12 13).2.1 (TX12 13).2.2.1 ∈ TB := tb5 43 rfl rfl
theorem k_X12_36 : Cond.fieldLink RX12 36 (TX12 14).1 (TX12 14).2.1 (TX12 14).2.2.1 ∈ TB := tb5 44 rfl rfl
theorem k_X12_39 : Cond.fieldLink RX12 39 (TX12 15).1 (TX12 15).2.1 (TX12 15).2.2.1 ∈ TB := tb5 45 rfl rfl
theorem k_X12_42 : Cond.fieldLink RX12 42 (TX12 16).1 (TX12 16).2.1 (TX12 16).2.2.1 ∈ TB := tb5 46 rfl rfl
theorem k_X12_46 : Cond.fieldLink RX12 46 (TX12 17).1 (TX12 17).2.1 (TX12 17).2.2.1 ∈ TB := tb5 47 rfl rfl
theorem k_X12_49 : Cond.fieldLink RX12 49 (TX12 18).1 (TX12 18).2.1 (TX12 18).2.2.1 ∈ TB := tb5 48 rfl rfl
theorem k_X12_52 : Cond.fieldLink RX12 52 (TX12 19).1 (TX12 19).2.1 (TX12 19).2.2.1 ∈ TB := tb5 49 rfl rfl
theorem k_X12_55 : Cond.fieldLink RX12 55 (TX12 20).1 (TX12 20).2.1 (TX12 20).2.2.1 ∈ TB := tb5 50 rfl rfl
theorem k_X12_58 : Cond.fieldLink RX12 58 (TX12 21).1 (TX12 21).2.1 (TX12 21).2.2.1 ∈ TB := tb5 51 rfl rfl
theorem k_X12_61 : Cond.fieldLink RX12 61 (TX12 22).1 (TX12 22).2.1 (TX12 22).2.2.1 ∈ TB := tb5 52 rfl rfl
theorem k_X12_64 : Cond.fieldLink RX12 64 (TX12 23).1 (TX12 23).2.1 (TX12 23).2.2.1 ∈ TB := tb5 53 rfl rfl
theorem k_X12_67 : Cond.fieldLink RX12 67 (TX12 24).1 (TX12 24).2.1 (TX12 24).2.2.1 ∈ TB := tb5 54 rfl rfl
theorem k_X12_70 : Cond.fieldLink RX12 70 (TX12 25).1 (TX12 25).2.1 (TX12 25).2.2.1 ∈ TB := tb5 55 rfl rfl
theorem k_X12_74 : Cond.fieldLink RX12 74 (TX12 26).1 (TX12 26).2.1 (TX12 26).2.2.1 ∈ TB := tb5 56 rfl rfl
theorem k_X12_77 : Cond.fieldLink RX12 77 (TX12 27).1 (TX12 27).2.1 (TX12 27).2.2.1 ∈ TB := tb5 57 rfl rfl
theorem k_X12_80 : Cond.fieldLink RX12 80 (TX12 28).1 (TX12 28).2.1 (TX12 28).2.2.1 ∈ TB := tb5 58 rfl rfl
theorem k_X12_83 : Cond.fieldLink RX12 83 (TX12 29).1 (TX12 29).2.1 (TX12 29).2.2.1 ∈ TB := tb5 59 rfl rfl
theorem k_X12_226 : Cond.fieldLink RX12 226 (TX12 30).1 (TX12 30).2.1 (TX12 30).2.2.1 ∈ TB := tb5 60 rfl rfl
theorem k_X12_86 : Cond.fieldLink RX12 86 (TX12 31).1 (TX12 31).2.1 (TX12 31).2.2.1 ∈ TB := tb5 61 rfl rfl
theorem k_X12_89 : Cond.fieldLink RX12 89 (TX12 32).1 (TX12 32).2.1 (TX12 32).2.2.1 ∈ TB := tb5 62 rfl rfl
theorem k_X12_92 : Cond.fieldLink RX12 92 (TX12 33).1 (TX12 33).2.1 (TX12 33).2.2.1 ∈ TB := tb5 63 rfl rfl
theorem k_X12_95 : Cond.fieldLink RX12 95 (TX12 34).1 (TX12 34).2.1 (TX12 34).2.2.1 ∈ TB := tb5 64 rfl rfl
theorem k_X12_239 : Cond.fieldLink RX12 239 (TX12 35).1 (TX12 35).2.1 (TX12 35).2.2.1 ∈ TB := tb5 65 rfl rfl
theorem k_X12_245 : Cond.fieldLink RX12 245 (TX12 36).1 (TX12 36).2.1 (TX12 36).2.2.1 ∈ TB := tb5 66 rfl rfl
theorem k_X12_251 : Cond.fieldLink RX12 251 (TX12 37).1 (TX12 37).2.1 (TX12 37).2.2.1 ∈ TB := tb5 67 rfl rfl
theorem k_X12_254 : Cond.fieldLink RX12 254 (TX12 38).1 (TX12 38).2.1 (TX12 38).2.2.1 ∈ TB := tb5 68 rfl rfl
theorem k_X12_257 : Cond.fieldLink RX12 257 (TX12 39).1 (TX12 39).2.1 (TX12 39).2.2.1 ∈ TB := tb5 69 rfl rfl
theorem k_X12_98 : Cond.fieldLink RX12 98 (TX12 40).1 (TX12 40).2.1 (TX12 40).2.2.1 ∈ TB := tb5 70 rfl rfl
theorem k_X12_101 : Cond.fieldLink RX12 101 (TX12 41).1 (TX12 41).2.1 (TX12 41).2.2.1 ∈ TB := tb5 71 rfl rfl
theorem k_X12_104 : Cond.fieldLink RX12 104 (TX12 42).1 (TX12 42).2.1 (TX12 42).2.2.1 ∈ TB := tb5 72 rfl rfl
theorem k_X12_107 : Cond.fieldLink RX12 107 (TX12 43).1 (TX12 43).2.1 (TX12 43).2.2.1 ∈ TB := tb5 73 rfl rfl
theorem k_X12_110 : Cond.fieldLink RX12 110 (TX12 44).1 (TX12 44).2.1 (TX12 44).2.2.1 ∈ TB := tb5 74 rfl rfl
theorem k_X12_113 : Cond.fieldLink RX12 113 (TX12 45).1 (TX12 45).2.1 (TX12 45).2.2.1 ∈ TB := tb5 75 rfl rfl
theorem k_X12_116 : Cond.fieldLink RX12 116 (TX12 46).1 (TX12 46).2.1 (TX12 46).2.2.1 ∈ TB := tb5 76 rfl rfl
theorem k_X12_119 : Cond.fieldLink RX12 119 (TX12 47).1 (TX12 47).2.1 (TX12 47).2.2.1 ∈ TB := tb5 77 rfl rfl
theorem k_X12_122 : Cond.fieldLink RX12 122 (TX12 48).1 (TX12 48).2.1 (TX12 48).2.2.1 ∈ TB := tb5 78 rfl rfl
theorem k_X12_125 : Cond.fieldLink RX12 125 (TX12 49).1 (TX12 49).2.1 (TX12 49).2.2.1 ∈ TB := tb5 79 rfl rfl
theorem k_X12_128 : Cond.fieldLink RX12 128 (TX12 50).1 (TX12 50).2.1 (TX12 50).2.2.1 ∈ TB := tb5 80 rfl rfl
theorem k_X12_285 : Cond.fieldLink RX12 285 (TX12 51).1 (TX12 51).2.1 (TX12 51).2.2.1 ∈ TB := tb5 81 rfl rfl
theorem k_X12_131 : Cond.fieldLink RX12 131 (TX12 52).1 (TX12 52).2.1 (TX12 52).2.2.1 ∈ TB := tb5 82 rfl rfl
theorem k_X12_294 : Cond.fieldLink RX12 294 (TX12 53).1 (TX12 53).2.1 (TX12 53).2.2.1 ∈ TB := tb5 83 rfl rfl
theorem k_X12_273 : Cond.fieldLink RX12 273 (TX12 54).1 (TX12 54).2.1 (TX12 54).2.2.1 ∈ TB := tb5 84 rfl rfl
theorem k_X12_276 : Cond.fieldLink RX12 276 (TX12 55).1 (TX12 55).2.1 (TX12 55).2.2.1 ∈ TB := tb5 85 rfl rfl
theorem k_X12_329 : Cond.fieldLink RX12 329 (TX12 56).1 (TX12 56).2.1 (TX12 56).2.2.1 ∈ TB := tb5 86 rfl rfl
theorem k_X12_134 : Cond.fieldLink RX12 134 (TX12 57).1 (TX12 57).2.1 (TX12 57).2.2.1 ∈ TB := tb5 87 rfl rfl
theorem k_X12_335 : Cond.fieldLink RX12 335 (TX12 58).1 (TX12 58).2.1 (TX12 58).2.2.1 ∈ TB := tb5 88 rfl rfl
theorem k_X12_338 : Cond.fieldLink RX12 338 (TX12 59).1 (TX12 59).2.1 (TX12 59).2.2.1 ∈ TB := tb5 89 rfl rfl
theorem k_X12_347 : Cond.fieldLink RX12 347 (TX12 60).1 (TX12 60).2.1 (TX12 60).2.2.1 ∈ TB := tb5 90 rfl rfl
theorem k_X12_137 : Cond.fieldLink RX12 137 (TX12 61).1 (TX12 61).2.1 (TX12 61).2.2.1 ∈ TB := tb5 91 rfl rfl
theorem k_X12_395 : Cond.fieldLink RX12 395 (TX12 62).1 (TX12 62).2.1 (TX12 62).2.2.1 ∈ TB := tb5 92 rfl rfl
theorem k_X12_140 : Cond.fieldLink RX12 140 (TX12 63).1 (TX12 63).2.1 (TX12 63).2.2.1 ∈ TB := tb5 93 rfl rfl
theorem k_X12_143 : Cond.fieldLink RX12 143 (TX12 64).1 (TX12 64).2.1 (TX12 64).2.2.1 ∈ TB := tb5 94 rfl rfl
theorem k_X12_146 : Cond.fieldLink RX12 146 (TX12 65).1 (TX12 65).2.1 (TX12 65).2.2.1 ∈ TB := tb5 95 rfl rfl
theorem k_X12_149 : Cond.fieldLink RX12 149 (TX12 66).1 (TX12 66).2.1 (TX12 66).2.2.1 ∈ TB := tb5 96 rfl rfl
theorem k_X12_401 : Cond.fieldLink RX12 401 (TX12 67).1 (TX12 67).2.1 (TX12 67).2.2.1 ∈ TB := tb5 97 rfl rfl
theorem k_X12_152 : Cond.fieldLink RX12 152 (TX12 68).1 (TX12 68).2.1 (TX12 68).2.2.1 ∈ TB := tb5 98 rfl rfl
theorem k_X12_155 : Cond.fieldLink RX12 155 (TX12 69).1 (TX12 69).2.1 (TX12 69).2.2.1 ∈ TB := tb5 99 rfl rfl
theorem k_X12_158 : Cond.fieldLink RX12 158 (TX12 70).1 (TX12 70).2.1 (TX12 70).2.2.1 ∈ TB := tb5 100 rfl rfl
theorem k_X12_161 : Cond.fieldLink RX12 161 (TX12 71).1 (TX12 71).2.1 (TX12 71).2.2.1 ∈ TB := tb5 101 rfl rfl
theorem k_X12_164 : Cond.fieldLink RX12 164 (TX12 72).1 (TX12 72).2.1 (TX12 72).2.2.1 ∈ TB := tb5 102 rfl rfl
theorem k_X12_404 : Cond.fieldLink RX12 404 (TX12 73).1 (TX12 73).2.1 (TX12 73).2.2.1 ∈ TB := tb5 103 rfl rfl
theorem ka_long : Cond.arrayClass .long ∈ TB := tb6 13 rfl rfl
theorem k_L_17 : Cond.methodLink RL 17 yX12_stuff ∈ TB := tb6 14 rfl rfl
theorem k_X12_170 : Cond.methodLink RX12 170 yX12_isIn ∈ TB := tb6 18 rfl rfl
theorem k_L_22 : Cond.methodLink RL 22 yX12_plate ∈ TB := tb6 22 rfl rfl
theorem k_L_27 : Cond.methodLink RL 27 yX12_beam ∈ TB := tb6 26 rfl rfl
theorem k_L_32 : Cond.methodLink RL 32 yX12_pitch ∈ TB := tb6 30 rfl rfl
theorem k_L_37 : Cond.methodLink RL 37 yX12_feed ∈ TB := tb6 34 rfl rfl
theorem k_X12_242 : Cond.methodLink RX12 242 yX12_puts ∈ TB := tb6 38 rfl rfl
theorem k_L_41 : Cond.methodLink RL 41 yX12_end ∈ TB := tb6 42 rfl rfl
theorem k_L_45 : Cond.methodLink RL 45 yX12_way ∈ TB := tb6 46 rfl rfl
theorem k_X12_332 : Cond.methodLink RX12 332 yX12_readAll ∈ TB := tb6 50 rfl rfl
theorem k_X12_279 : Cond.methodLink RX12 279 yX12_reads ∈ TB := tb6 54 rfl rfl
theorem k_X12_248 : Cond.methodLink RX12 248 yX12_raw ∈ TB := tb6 58 rfl rfl
theorem k_X12_260 : Cond.methodLink RX12 260 yX12_isLetter ∈ TB := tb6 62 rfl rfl
theorem k_X12_263 : Cond.methodLink RX12 263 yX12_wordAt ∈ TB := tb6 66 rfl rfl
theorem k_X12_267 : Cond.methodLink RX12 267 yX12_isDigit ∈ TB := tb6 70 rfl rfl
theorem k_X12_270 : Cond.methodLink RX12 270 yX12_isMarkSign ∈ TB := tb6 74 rfl rfl
theorem k_X12_307 : Cond.methodLink RX12 307 yX12_isWord ∈ TB := tb6 78 rfl rfl
theorem k_X12_310 : Cond.methodLink RX12 310 yX12_isInAgain ∈ TB := tb6 82 rfl rfl
theorem k_X12_314 : Cond.methodLink RX12 314 yX12_closes ∈ TB := tb6 86 rfl rfl
theorem k_X12_301 : Cond.methodLink RX12 301 yX12_emits ∈ TB := tb6 90 rfl rfl
theorem k_X12_317 : Cond.methodLink RX12 317 yX12_ends ∈ TB := tb6 94 rfl rfl
theorem k_X12_291 : Cond.methodLink RX12 291 yX12_isSign ∈ TB := tb6 98 rfl rfl
theorem k_X12_282 : Cond.methodLink RX12 282 yX12_fails ∈ TB := tb6 102 rfl rfl
theorem k_X12_320 : Cond.methodLink RX12 320 yX12_readIf ∈ TB := tb6 106 rfl rfl
theorem k_X12_297 : Cond.methodLink RX12 297 yX12_readSum ∈ TB := tb6 110 rfl rfl
theorem k_X12_288 : Cond.methodLink RX12 288 yX12_readUnit ∈ TB := tb6 114 rfl rfl
theorem k_X12_323 : Cond.methodLink RX12 323 yX12_readAgain ∈ TB := tb6 118 rfl rfl
theorem k_X12_304 : Cond.methodLink RX12 304 yX12_readNumber ∈ TB := tb6 122 rfl rfl
theorem k_X12_326 : Cond.methodLink RX12 326 yX12_readPlain ∈ TB := tb6 126 rfl rfl
theorem k_L_50 : Cond.methodLink RL 50 yX12_fault ∈ TB := tb6 130 rfl rfl
theorem k_L_54 : Cond.methodLink RL 54 yX12_run ∈ TB := tb6 134 rfl rfl
theorem k_X12_372 : Cond.methodLink RX12 372 yX12_runs ∈ TB := tb6 138 rfl rfl
theorem k_X12_341 : Cond.methodLink RX12 341 yX12_pays ∈ TB := tb6 142 rfl rfl
theorem k_X12_365 : Cond.methodLink RX12 365 yX12_isSo ∈ TB := tb6 146 rfl rfl
theorem k_X12_359 : Cond.methodLink RX12 359 yX12_sumOf ∈ TB := tb6 150 rfl rfl
theorem k_X12_356 : Cond.methodLink RX12 356 yX12_askedOf ∈ TB := tb6 154 rfl rfl
theorem k_X12_200 : Cond.methodLink RX12 200 yX12_isThere ∈ TB := tb6 158 rfl rfl
theorem k_X12_189 : Cond.methodLink RX12 189 yX12_isOnPlate ∈ TB := tb6 162 rfl rfl
theorem k_X12_368 : Cond.methodLink RX12 368 yX12_doesPlain ∈ TB := tb6 166 rfl rfl
theorem k_X12_350 : Cond.methodLink RX12 350 yX12_comes ∈ TB := tb6 170 rfl rfl
theorem k_X12_362 : Cond.methodLink RX12 362 yX12_goes ∈ TB := tb6 174 rfl rfl
theorem k_X12_193 : Cond.methodLink RX12 193 yX12_stepX ∈ TB := tb6 178 rfl rfl
theorem k_X12_197 : Cond.methodLink RX12 197 yX12_stepY ∈ TB := tb6 182 rfl rfl
theorem k_X12_353 : Cond.methodLink RX12 353 yX12_waits ∈ TB := tb6 186 rfl rfl
theorem k_X12_344 : Cond.methodLink RX12 344 yX12_ticksOnce ∈ TB := tb6 190 rfl rfl
theorem k_X12_212 : Cond.methodLink RX12 212 yX12_gives ∈ TB := tb6 194 rfl rfl
theorem k_X12_203 : Cond.constant RX12 203 (99999999) ∈ TB := tb6 198 rfl rfl
theorem k_X12_216 : Cond.methodLink RX12 216 yX12_leads ∈ TB := tb6 199 rfl rfl
theorem k_X12_204 : Cond.methodLink RX12 204 yX12_flowFrom ∈ TB := tb6 203 rfl rfl
theorem k_X12_219 : Cond.methodLink RX12 219 yX12_cuts ∈ TB := tb6 207 rfl rfl
theorem k_X12_208 : Cond.methodLink RX12 208 yX12_goesAway ∈ TB := tb6 211 rfl rfl
theorem k_X12_223 : Cond.methodLink RX12 223 yX12_loosens ∈ TB := tb6 215 rfl rfl
theorem k_X12_233 : Cond.methodLink RX12 233 yX12_findsParts ∈ TB := tb6 219 rfl rfl
theorem k_X12_229 : Cond.methodLink RX12 229 yX12_spreads ∈ TB := tb6 223 rfl rfl
theorem k_X12_236 : Cond.methodLink RX12 236 yX12_lying ∈ TB := tb6 227 rfl rfl
theorem k_L_59 : Cond.methodLink RL 59 yX12_cell ∈ TB := tb6 231 rfl rfl
theorem k_X12_375 : Cond.methodLink RX12 375 yX12_bridgeOf ∈ TB := tb6 235 rfl rfl
theorem k_L_63 : Cond.methodLink RL 63 yX12_look ∈ TB := tb6 239 rfl rfl
theorem k_X12_378 : Cond.methodLink RX12 378 yX12_cellsAs ∈ TB := tb7 3 rfl rfl
theorem k_L_68 : Cond.methodLink RL 68 yX12_heat ∈ TB := tb7 7 rfl rfl
theorem k_X12_381 : Cond.constantLong RX12 381 (-1) ∈ TB := tb7 11 rfl rfl
theorem k_L_73 : Cond.methodLink RL 73 yX12_order ∈ TB := tb7 12 rfl rfl
theorem k_X12_383 : Cond.methodLink RX12 383 yX12_ones ∈ TB := tb7 16 rfl rfl
theorem k_X12_386 : Cond.methodLink RX12 386 yX12_isOrder ∈ TB := tb7 20 rfl rfl
theorem k_X12_389 : Cond.methodLink RX12 389 yX12_copies ∈ TB := tb7 24 rfl rfl
theorem k_L_77 : Cond.methodLink RL 77 yX12_speed ∈ TB := tb7 28 rfl rfl
theorem k_X12_392 : Cond.methodLink RX12 392 yX12_cutsThrough ∈ TB := tb7 32 rfl rfl
theorem k_L_81 : Cond.methodLink RL 81 yX12_kind ∈ TB := tb7 36 rfl rfl
theorem k_L_85 : Cond.methodLink RL 85 yX12_fill ∈ TB := tb7 40 rfl rfl
theorem k_X12_398 : Cond.methodLink RX12 398 yX12_mostOf ∈ TB := tb7 44 rfl rfl
theorem k_L_90 : Cond.methodLink RL 90 yX12_test ∈ TB := tb7 48 rfl rfl
theorem k_L_94 : Cond.methodLink RL 94 yX12_known ∈ TB := tb7 52 rfl rfl
theorem k_L_99 : Cond.methodLink RL 99 yX12_sparks ∈ TB := tb7 56 rfl rfl
theorem k_L_103 : Cond.methodLink RL 103 yX12_lost ∈ TB := tb7 60 rfl rfl
theorem mc_X0_init : m_mC yX0_init cX0_init 1 0 := ⟨tb2 113 rfl rfl, rfl, tb1 12 rfl rfl, tb2 114 rfl rfl, by decide +kernel, by decide +kernel, by decide +kernel⟩
theorem mi_X0_addKind : m_mI yX0_addKind cX0_addKind 4 ((some .int)) 3 := ⟨tb4 204 rfl rfl, tb4 205 rfl rfl, tb1 12 rfl rfl, tb4 206 rfl rfl, by decide +kernel, by decide +kernel, by decide +kernel⟩
theorem mi_X0_greatestWorth : m_mI yX0_greatestWorth cX0_greatestWorth 3 ((some .int)) 2 := ⟨tb4 226 rfl rfl, tb4 227 rfl rfl, tb1 12 rfl rfl, tb4 228 rfl rfl, by decide +kernel, by decide +kernel, by decide +kernel⟩
theorem mi_X0_fillAll : m_mI yX0_fillAll cX0_fillAll 3 (none) 0 := ⟨tb4 210 rfl rfl, tbS 39 rfl rfl, tb1 12 rfl rfl, tb4 211 rfl rfl, by decide +kernel, by decide +kernel, by decide +kernel⟩
theorem mi_X0_bestKind : m_mI yX0_bestKind cX0_bestKind 7 ((some .int)) 2 := ⟨tb4 214 rfl rfl, tbS 40 rfl rfl, tb1 12 rfl rfl, tb4 215 rfl rfl, by decide +kernel, by decide +kernel, by decide +kernel⟩
theorem mi_X0_bestCut : m_mI yX0_bestCut cX0_bestCut 5 ((some .int)) 2 := ⟨tb4 219 rfl rfl, tbS 41 rfl rfl, tb1 12 rfl rfl, tb4 220 rfl rfl, by decide +kernel, by decide +kernel, by decide +kernel⟩
theorem mc_X1_init : m_mC yX1_init cX1_init 1 0 := ⟨tb1 162 rfl rfl, rfl, tb1 8 rfl rfl, tb1 163 rfl rfl, by decide +kernel, by decide +kernel, by decide +kernel⟩
theorem mi_X1_renew : m_mI yX1_renew cX1_renew 1 (none) 0 := ⟨tb2 216 rfl rfl, tb2 217 rfl rfl, tb1 8 rfl rfl, tb2 218 rfl rfl, by decide +kernel, by decide +kernel, by decide +kernel⟩
theorem mi_X1_copyFrom : m_mI yX1_copyFrom cX1_copyFrom 2 (none) 1 := ⟨tb4 170 rfl rfl, tb4 171 rfl rfl, tb1 8 rfl rfl, tb4 172 rfl rfl, by decide +kernel, by decide +kernel, by decide +kernel⟩
theorem mc_X2_init : m_mC yX2_init cX2_init 1 0 := ⟨tb1 200 rfl rfl, rfl, tb1 9 rfl rfl, tb1 201 rfl rfl, by decide +kernel, by decide +kernel, by decide +kernel⟩
theorem mi_X2_forgetSeen : m_mI yX2_forgetSeen cX2_forgetSeen 1 (none) 0 := ⟨tb4 25 rfl rfl, tb4 26 rfl rfl, tb1 9 rfl rfl, tb4 27 rfl rfl, by decide +kernel, by decide +kernel, by decide +kernel⟩
theorem mi_X2_gather : m_mI yX2_gather cX2_gather 7 (none) 2 := ⟨tb4 30 rfl rfl, tb4 31 rfl rfl, tb1 9 rfl rfl, tb4 32 rfl rfl, by decide +kernel, by decide +kernel, by decide +kernel⟩
theorem mi_X2_take : m_mI yX2_take cX2_take 4 (none) 2 := ⟨tb4 35 rfl rfl, tbS 26 rfl rfl, tb1 9 rfl rfl, tb4 36 rfl rfl, by decide +kernel, by decide +kernel, by decide +kernel⟩
theorem mc_X3_init : m_mC yX3_init cX3_init 1 0 := ⟨tb1 156 rfl rfl, rfl, tb1 7 rfl rfl, tb1 157 rfl rfl, by decide +kernel, by decide +kernel, by decide +kernel⟩
theorem mi_X3_renew : m_mI yX3_renew cX3_renew 5 (none) 4 := ⟨tb2 209 rfl rfl, tb2 210 rfl rfl, tb1 7 rfl rfl, tb2 211 rfl rfl, by decide +kernel, by decide +kernel, by decide +kernel⟩
theorem mi_X3_copyFrom : m_mI yX3_copyFrom cX3_copyFrom 2 (none) 1 := ⟨tb4 166 rfl rfl, tb4 167 rfl rfl, tb1 7 rfl rfl, tb4 168 rfl rfl, by decide +kernel, by decide +kernel, by decide +kernel⟩
theorem mi_X3_isLaid : m_mI yX3_isLaid cX3_isLaid 1 ((some .boolean)) 0 := ⟨tb3 186 rfl rfl, tb3 187 rfl rfl, tb1 7 rfl rfl, tb3 188 rfl rfl, by decide +kernel, by decide +kernel, by decide +kernel⟩
theorem mi_X3_has : m_mI yX3_has cX3_has 3 ((some .boolean)) 2 := ⟨tb3 200 rfl rfl, tb3 201 rfl rfl, tb1 7 rfl rfl, tb3 202 rfl rfl, by decide +kernel, by decide +kernel, by decide +kernel⟩
theorem mi_X3_isBorder : m_mI yX3_isBorder cX3_isBorder 3 ((some .boolean)) 2 := ⟨tb4 38 rfl rfl, tb4 39 rfl rfl, tb1 7 rfl rfl, tb4 40 rfl rfl, by decide +kernel, by decide +kernel, by decide +kernel⟩
theorem mi_X3_index : m_mI yX3_index cX3_index 3 ((some .int)) 2 := ⟨tb3 204 rfl rfl, tb3 205 rfl rfl, tb1 7 rfl rfl, tb3 206 rfl rfl, by decide +kernel, by decide +kernel, by decide +kernel⟩
theorem mi_X3_headPlace : m_mI yX3_headPlace cX3_headPlace 1 ((some .int)) 0 := ⟨tb3 231 rfl rfl, tb3 232 rfl rfl, tb1 7 rfl rfl, tb3 233 rfl rfl, by decide +kernel, by decide +kernel, by decide +kernel⟩
theorem mi_X3_isThere : m_mI yX3_isThere cX3_isThere 2 ((some .boolean)) 1 := ⟨tb3 208 rfl rfl, tb3 209 rfl rfl, tb1 7 rfl rfl, tb3 210 rfl rfl, by decide +kernel, by decide +kernel, by decide +kernel⟩
theorem mi_X3_moveHead : m_mI yX3_moveHead cX3_moveHead 4 ((some .boolean)) 2 := ⟨tb3 196 rfl rfl, tb3 197 rfl rfl, tb1 7 rfl rfl, tb3 198 rfl rfl, by decide +kernel, by decide +kernel, by decide +kernel⟩
theorem mi_X3_tick : m_mI yX3_tick cX3_tick 3 (none) 1 := ⟨tb3 222 rfl rfl, tb3 223 rfl rfl, tb1 7 rfl rfl, tb3 224 rfl rfl, by decide +kernel, by decide +kernel, by decide +kernel⟩
theorem mi_X3_giveHeat : m_mI yX3_giveHeat cX3_giveHeat 5 (none) 1 := ⟨tb3 228 rfl rfl, tbS 18 rfl rfl, tb1 7 rfl rfl, tb3 229 rfl rfl, by decide +kernel, by decide +kernel, by decide +kernel⟩
theorem mi_X3_leadHeat : m_mI yX3_leadHeat cX3_leadHeat 5 (none) 1 := ⟨tb3 238 rfl rfl, tbS 19 rfl rfl, tb1 7 rfl rfl, tb3 239 rfl rfl, by decide +kernel, by decide +kernel, by decide +kernel⟩
theorem mi_X3_leadBetween : m_mI yX3_leadBetween cX3_leadBetween 5 (none) 3 := ⟨tb4 2 rfl rfl, tbS 20 rfl rfl, tb1 7 rfl rfl, tb4 3 rfl rfl, by decide +kernel, by decide +kernel, by decide +kernel⟩
theorem mi_X3_loseHeat : m_mI yX3_loseHeat cX3_loseHeat 4 (none) 1 := ⟨tb4 6 rfl rfl, tbS 21 rfl rfl, tb1 7 rfl rfl, tb4 7 rfl rfl, by decide +kernel, by decide +kernel, by decide +kernel⟩
theorem mi_X3_cutMolten : m_mI yX3_cutMolten cX3_cutMolten 4 ((some .boolean)) 1 := ⟨tb4 10 rfl rfl, tbS 22 rfl rfl, tb1 7 rfl rfl, tb4 11 rfl rfl, by decide +kernel, by decide +kernel, by decide +kernel⟩
theorem mi_X3_takeAway : m_mI yX3_takeAway cX3_takeAway 3 (none) 2 := ⟨tb4 14 rfl rfl, tbS 23 rfl rfl, tb1 7 rfl rfl, tb4 15 rfl rfl, by decide +kernel, by decide +kernel, by decide +kernel⟩
theorem mi_X3_burnHot : m_mI yX3_burnHot cX3_burnHot 3 (none) 1 := ⟨tb4 18 rfl rfl, tbS 24 rfl rfl, tb1 7 rfl rfl, tb4 19 rfl rfl, by decide +kernel, by decide +kernel, by decide +kernel⟩
theorem mi_X3_loosenParts : m_mI yX3_loosenParts cX3_loosenParts 3 (none) 1 := ⟨tb4 22 rfl rfl, tbS 25 rfl rfl, tb1 7 rfl rfl, tb4 23 rfl rfl, by decide +kernel, by decide +kernel, by decide +kernel⟩
theorem mi_X3_settlePart : m_mI yX3_settlePart cX3_settlePart 7 (none) 1 := ⟨tb4 43 rfl rfl, tbS 27 rfl rfl, tb1 7 rfl rfl, tb4 44 rfl rfl, by decide +kernel, by decide +kernel, by decide +kernel⟩
theorem mi_X3_condition : m_mI yX3_condition cX3_condition 2 ((some .int)) 1 := ⟨tb4 89 rfl rfl, tb4 90 rfl rfl, tb1 7 rfl rfl, tb4 91 rfl rfl, by decide +kernel, by decide +kernel, by decide +kernel⟩
theorem mi_X3_countState : m_mI yX3_countState cX3_countState 4 ((some .int)) 1 := ⟨tb4 118 rfl rfl, tb4 119 rfl rfl, tb1 7 rfl rfl, tb4 120 rfl rfl, by decide +kernel, by decide +kernel, by decide +kernel⟩
theorem mi_X3_countTipped : m_mI yX3_countTipped cX3_countTipped 3 ((some .int)) 0 := ⟨tb4 122 rfl rfl, tb4 123 rfl rfl, tb1 7 rfl rfl, tb4 124 rfl rfl, by decide +kernel, by decide +kernel, by decide +kernel⟩
theorem mi_X3_countBurntThere : m_mI yX3_countBurntThere cX3_countBurntThere 3 ((some .int)) 0 := ⟨tb4 126 rfl rfl, tb4 127 rfl rfl, tb1 7 rfl rfl, tb4 128 rfl rfl, by decide +kernel, by decide +kernel, by decide +kernel⟩
theorem mi_X3_countParts : m_mI yX3_countParts cX3_countParts 4 ((some .int)) 1 := ⟨tb4 130 rfl rfl, tb4 131 rfl rfl, tb1 7 rfl rfl, tb4 132 rfl rfl, by decide +kernel, by decide +kernel, by decide +kernel⟩
theorem mi_X3_partAt : m_mI yX3_partAt cX3_partAt 2 ((some (.object "BeamPlate$Part"))) 1 := ⟨tb4 93 rfl rfl, tb4 94 rfl rfl, tb1 7 rfl rfl, tb4 95 rfl rfl, by decide +kernel, by decide +kernel, by decide +kernel⟩
theorem mi_X3_bridge : m_mI yX3_bridge cX3_bridge 6 ((some .int)) 1 := ⟨tb4 98 rfl rfl, tb4 99 rfl rfl, tb1 7 rfl rfl, tb4 100 rfl rfl, by decide +kernel, by decide +kernel, by decide +kernel⟩
theorem mi_X3_spreadCosts : m_mI yX3_spreadCosts cX3_spreadCosts 8 ((some .boolean)) 0 := ⟨tb4 104 rfl rfl, tbS 34 rfl rfl, tb1 7 rfl rfl, tb4 105 rfl rfl, by decide +kernel, by decide +kernel, by decide +kernel⟩
theorem mi_X3_costAt : m_mI yX3_costAt cX3_costAt 3 ((some .int)) 2 := ⟨tb4 110 rfl rfl, tbS 35 rfl rfl, tb1 7 rfl rfl, tb4 111 rfl rfl, by decide +kernel, by decide +kernel, by decide +kernel⟩
theorem mi_X3_heatInAll : m_mI yX3_heatInAll cX3_heatInAll 4 ((some .long)) 0 := ⟨tb4 138 rfl rfl, tb4 139 rfl rfl, tb1 7 rfl rfl, tb4 140 rfl rfl, by decide +kernel, by decide +kernel, by decide +kernel⟩
theorem mc_X4_init : m_mC yX4_init cX4_init 1 0 := ⟨tb1 99 rfl rfl, rfl, tb1 5 rfl rfl, tb1 100 rfl rfl, by decide +kernel, by decide +kernel, by decide +kernel⟩
theorem mi_X4_read : m_mI yX4_read cX4_read 4 ((some .boolean)) 1 := ⟨tb3 15 rfl rfl, tb3 16 rfl rfl, tb1 5 rfl rfl, tb3 17 rfl rfl, by decide +kernel, by decide +kernel, by decide +kernel⟩
theorem mi_X4_fail : m_mI yX4_fail cX4_fail 2 (none) 1 := ⟨tb3 112 rfl rfl, tbS 4 rfl rfl, tb1 5 rfl rfl, tb3 113 rfl rfl, by decide +kernel, by decide +kernel, by decide +kernel⟩
theorem mi_X4_advance : m_mI yX4_advance cX4_advance 1 (none) 0 := ⟨tb3 117 rfl rfl, tbS 5 rfl rfl, tb1 5 rfl rfl, tb3 118 rfl rfl, by decide +kernel, by decide +kernel, by decide +kernel⟩
theorem mi_X4_expect : m_mI yX4_expect cX4_expect 2 (none) 1 := ⟨tb3 133 rfl rfl, tbS 9 rfl rfl, tb1 5 rfl rfl, tb3 134 rfl rfl, by decide +kernel, by decide +kernel, by decide +kernel⟩
theorem mi_X4_innermost : m_mI yX4_innermost cX4_innermost 1 ((some .int)) 0 := ⟨tb3 157 rfl rfl, tbS 14 rfl rfl, tb1 5 rfl rfl, tb3 158 rfl rfl, by decide +kernel, by decide +kernel, by decide +kernel⟩
theorem mi_X4_readStep : m_mI yX4_readStep cX4_readStep 3 (none) 0 := ⟨tb3 108 rfl rfl, tbS 3 rfl rfl, tb1 5 rfl rfl, tb3 109 rfl rfl, by decide +kernel, by decide +kernel, by decide +kernel⟩
theorem mi_X4_closeStep : m_mI yX4_closeStep cX4_closeStep 2 (none) 0 := ⟨tb3 153 rfl rfl, tbS 13 rfl rfl, tb1 5 rfl rfl, tb3 154 rfl rfl, by decide +kernel, by decide +kernel, by decide +kernel⟩
theorem mi_X4_dropInnermost : m_mI yX4_dropInnermost cX4_dropInnermost 1 (none) 0 := ⟨tb3 161 rfl rfl, tbS 15 rfl rfl, tb1 5 rfl rfl, tb3 162 rfl rfl, by decide +kernel, by decide +kernel, by decide +kernel⟩
theorem mi_X4_openAgain : m_mI yX4_openAgain cX4_openAgain 1 (none) 0 := ⟨tb3 129 rfl rfl, tbS 8 rfl rfl, tb1 5 rfl rfl, tb3 130 rfl rfl, by decide +kernel, by decide +kernel, by decide +kernel⟩
theorem mi_X4_closeAgain : m_mI yX4_closeAgain cX4_closeAgain 1 (none) 0 := ⟨tb3 166 rfl rfl, tbS 16 rfl rfl, tb1 5 rfl rfl, tb3 167 rfl rfl, by decide +kernel, by decide +kernel, by decide +kernel⟩
theorem mi_X4_openIf : m_mI yX4_openIf cX4_openIf 3 (none) 0 := ⟨tb3 137 rfl rfl, tbS 10 rfl rfl, tb1 5 rfl rfl, tb3 138 rfl rfl, by decide +kernel, by decide +kernel, by decide +kernel⟩
theorem mi_X4_readSum : m_mI yX4_readSum cX4_readSum 4 ((some .int)) 0 := ⟨tb3 141 rfl rfl, tbS 11 rfl rfl, tb1 5 rfl rfl, tb3 142 rfl rfl, by decide +kernel, by decide +kernel, by decide +kernel⟩
theorem mi_X4_readTerm : m_mI yX4_readTerm cX4_readTerm 2 (none) 1 := ⟨tb3 145 rfl rfl, tbS 12 rfl rfl, tb1 5 rfl rfl, tb3 146 rfl rfl, by decide +kernel, by decide +kernel, by decide +kernel⟩
theorem mi_X4_readNumber : m_mI yX4_readNumber cX4_readNumber 4 (none) 2 := ⟨tb3 121 rfl rfl, tbS 6 rfl rfl, tb1 5 rfl rfl, tb3 122 rfl rfl, by decide +kernel, by decide +kernel, by decide +kernel⟩
theorem mi_X4_readSide : m_mI yX4_readSide cX4_readSide 1 (none) 0 := ⟨tb3 125 rfl rfl, tbS 7 rfl rfl, tb1 5 rfl rfl, tb3 126 rfl rfl, by decide +kernel, by decide +kernel, by decide +kernel⟩
theorem mc_X5_init : m_mC yX5_init cX5_init 2 1 := ⟨tb1 40 rfl rfl, rfl, tb1 3 rfl rfl, tb1 41 rfl rfl, by decide +kernel, by decide +kernel, by decide +kernel⟩
theorem mi_X5_add : m_mI yX5_add cX5_add 2 (none) 1 := ⟨tb2 239 rfl rfl, tb3 0 rfl rfl, tb1 3 rfl rfl, tb3 1 rfl rfl, by decide +kernel, by decide +kernel, by decide +kernel⟩
theorem mi_X5_addBytes : m_mI yX5_addBytes cX5_addBytes 3 (none) 1 := ⟨tb2 235 rfl rfl, tb2 236 rfl rfl, tb1 3 rfl rfl, tb2 237 rfl rfl, by decide +kernel, by decide +kernel, by decide +kernel⟩
theorem mi_X5_put : m_mI yX5_put cX5_put 3 (none) 2 := ⟨tb3 148 rfl rfl, tb3 149 rfl rfl, tb1 3 rfl rfl, tb3 150 rfl rfl, by decide +kernel, by decide +kernel, by decide +kernel⟩
theorem mi_X5_at : m_mI yX5_at cX5_at 2 ((some .int)) 1 := ⟨tb3 83 rfl rfl, tb3 84 rfl rfl, tb1 3 rfl rfl, tb3 85 rfl rfl, by decide +kernel, by decide +kernel, by decide +kernel⟩
theorem mi_X5_copyFrom : m_mI yX5_copyFrom cX5_copyFrom 2 (none) 1 := ⟨tb3 169 rfl rfl, tb3 170 rfl rfl, tb1 3 rfl rfl, tb3 171 rfl rfl, by decide +kernel, by decide +kernel, by decide +kernel⟩
theorem mi_X5_firstRunBelow : m_mI yX5_firstRunBelow cX5_firstRunBelow 5 ((some .int)) 2 := ⟨tb5 21 rfl rfl, tb5 22 rfl rfl, tb1 3 rfl rfl, tb5 23 rfl rfl, by decide +kernel, by decide +kernel, by decide +kernel⟩
theorem mc_X6_init : m_mC yX6_init cX6_init 1 0 := ⟨tb2 60 rfl rfl, rfl, tb1 10 rfl rfl, tb2 61 rfl rfl, by decide +kernel, by decide +kernel, by decide +kernel⟩
theorem mi_X6_perform : m_mI yX6_perform cX6_perform 9 ((some .int)) 3 := ⟨tb3 190 rfl rfl, tb3 191 rfl rfl, tb1 10 rfl rfl, tb3 192 rfl rfl, by decide +kernel, by decide +kernel, by decide +kernel⟩
theorem mi_X6_turns : m_mI yX6_turns cX6_turns 2 ((some .int)) 1 := ⟨tb4 60 rfl rfl, tbS 30 rfl rfl, tb1 10 rfl rfl, tb4 61 rfl rfl, by decide +kernel, by decide +kernel, by decide +kernel⟩
theorem mi_X6_setTurns : m_mI yX6_setTurns cX6_setTurns 3 (none) 2 := ⟨tb4 55 rfl rfl, tbS 29 rfl rfl, tb1 10 rfl rfl, tb4 56 rfl rfl, by decide +kernel, by decide +kernel, by decide +kernel⟩
theorem mi_X6_travel : m_mI yX6_travel cX6_travel 8 (none) 4 := ⟨tb3 213 rfl rfl, tbS 17 rfl rfl, tb1 10 rfl rfl, tb3 214 rfl rfl, by decide +kernel, by decide +kernel, by decide +kernel⟩
theorem mi_X6_stay : m_mI yX6_stay cX6_stay 5 (none) 3 := ⟨tb4 51 rfl rfl, tbS 28 rfl rfl, tb1 10 rfl rfl, tb4 52 rfl rfl, by decide +kernel, by decide +kernel, by decide +kernel⟩
theorem ms_X6_stepOfIf : m_mS yX6_stepOfIf cX6_stepOfIf 2 ((some .int)) 2 := ⟨tb4 80 rfl rfl, tb1 10 rfl rfl, tb4 81 rfl rfl, by decide +kernel, by decide +kernel, by decide +kernel⟩
theorem mi_X6_isSo : m_mI yX6_isSo cX6_isSo 9 ((some .boolean)) 3 := ⟨tb4 64 rfl rfl, tbS 31 rfl rfl, tb1 10 rfl rfl, tb4 65 rfl rfl, by decide +kernel, by decide +kernel, by decide +kernel⟩
theorem mi_X6_sum : m_mI yX6_sum cX6_sum 11 ((some .long)) 4 := ⟨tb4 68 rfl rfl, tbS 32 rfl rfl, tb1 10 rfl rfl, tb4 69 rfl rfl, by decide +kernel, by decide +kernel, by decide +kernel⟩
theorem mi_X6_valueOf : m_mI yX6_valueOf cX6_valueOf 5 ((some .int)) 3 := ⟨tb4 75 rfl rfl, tbS 33 rfl rfl, tb1 10 rfl rfl, tb4 76 rfl rfl, by decide +kernel, by decide +kernel, by decide +kernel⟩
theorem mc_X7_init : m_mC yX7_init cX7_init 1 0 := ⟨tb2 135 rfl rfl, rfl, tb1 13 rfl rfl, tb2 136 rfl rfl, by decide +kernel, by decide +kernel, by decide +kernel⟩
theorem mi_X7_tell : m_mI yX7_tell cX7_tell 5 ((some .boolean)) 4 := ⟨tb4 234 rfl rfl, tb4 235 rfl rfl, tb1 13 rfl rfl, tb4 236 rfl rfl, by decide +kernel, by decide +kernel, by decide +kernel⟩
theorem mi_X7_leastMelt : m_mI yX7_leastMelt cX7_leastMelt 5 ((some .int)) 2 := ⟨tb5 3 rfl rfl, tb5 4 rfl rfl, tb1 13 rfl rfl, tb5 5 rfl rfl, by decide +kernel, by decide +kernel, by decide +kernel⟩
theorem mi_X7_greatestMelt : m_mI yX7_greatestMelt cX7_greatestMelt 5 ((some .int)) 2 := ⟨tb5 8 rfl rfl, tb5 9 rfl rfl, tb1 13 rfl rfl, tb5 10 rfl rfl, by decide +kernel, by decide +kernel, by decide +kernel⟩
theorem mc_X8_init : m_mC yX8_init cX8_init 1 0 := ⟨tb1 107 rfl rfl, rfl, tb1 6 rfl rfl, tb1 108 rfl rfl, by decide +kernel, by decide +kernel, by decide +kernel⟩
theorem mi_X8_takeApart : m_mI yX8_takeApart cX8_takeApart 5 (none) 1 := ⟨tb3 19 rfl rfl, tb3 20 rfl rfl, tb1 6 rfl rfl, tb3 21 rfl rfl, by decide +kernel, by decide +kernel, by decide +kernel⟩
theorem mi_X8_keep : m_mI yX8_keep cX8_keep 4 (none) 3 := ⟨tb3 88 rfl rfl, tbS 1 rfl rfl, tb1 6 rfl rfl, tb3 89 rfl rfl, by decide +kernel, by decide +kernel, by decide +kernel⟩
theorem mi_X8_takeWord : m_mI yX8_takeWord cX8_takeWord 4 ((some .int)) 2 := ⟨tb3 28 rfl rfl, tbS 0 rfl rfl, tb1 6 rfl rfl, tb3 29 rfl rfl, by decide +kernel, by decide +kernel, by decide +kernel⟩
theorem mi_X8_takeNumber : m_mI yX8_takeNumber cX8_takeNumber 5 ((some .int)) 2 := ⟨tb3 96 rfl rfl, tbS 2 rfl rfl, tb1 6 rfl rfl, tb3 97 rfl rfl, by decide +kernel, by decide +kernel, by decide +kernel⟩
theorem ms_X8_kindOfSign : m_mS yX8_kindOfSign cX8_kindOfSign 1 ((some .int)) 1 := ⟨tb3 102 rfl rfl, tb1 6 rfl rfl, tb3 103 rfl rfl, by decide +kernel, by decide +kernel, by decide +kernel⟩
theorem ms_X8_kindOfWord : m_mS yX8_kindOfWord cX8_kindOfWord 8 ((some .int)) 3 := ⟨tb3 31 rfl rfl, tb1 6 rfl rfl, tb3 32 rfl rfl, by decide +kernel, by decide +kernel, by decide +kernel⟩
theorem ms_X8_isLetter : m_mS yX8_isLetter cX8_isLetter 1 ((some .boolean)) 1 := ⟨tb3 23 rfl rfl, tb1 6 rfl rfl, tb3 24 rfl rfl, by decide +kernel, by decide +kernel, by decide +kernel⟩
theorem ms_X8_isDigit : m_mS yX8_isDigit cX8_isDigit 1 ((some .boolean)) 1 := ⟨tb3 92 rfl rfl, tb1 6 rfl rfl, tb3 93 rfl rfl, by decide +kernel, by decide +kernel, by decide +kernel⟩
theorem ms_X8_isBlank : m_mS yX8_isBlank cX8_isBlank 1 ((some .boolean)) 1 := ⟨tb3 99 rfl rfl, tb1 6 rfl rfl, tb3 100 rfl rfl, by decide +kernel, by decide +kernel, by decide +kernel⟩
theorem mc_X9_init : m_mC yX9_init cX9_init 1 0 := ⟨tb2 76 rfl rfl, rfl, tb1 11 rfl rfl, tb2 77 rfl rfl, by decide +kernel, by decide +kernel, by decide +kernel⟩
theorem mi_X9_seekOrder : m_mI yX9_seekOrder cX9_seekOrder 10 (none) 3 := ⟨tb4 153 rfl rfl, tb4 154 rfl rfl, tb1 11 rfl rfl, tb4 155 rfl rfl, by decide +kernel, by decide +kernel, by decide +kernel⟩
theorem mi_X9_choose : m_mI yX9_choose cX9_choose 4 ((some .int)) 1 := ⟨tb4 158 rfl rfl, tbS 36 rfl rfl, tb1 11 rfl rfl, tb4 159 rfl rfl, by decide +kernel, by decide +kernel, by decide +kernel⟩
theorem ms_X9_ordersJust : m_mS yX9_ordersJust cX9_ordersJust 3 ((some .boolean)) 2 := ⟨tb4 163 rfl rfl, tb1 11 rfl rfl, tb4 164 rfl rfl, by decide +kernel, by decide +kernel, by decide +kernel⟩
theorem mi_X9_keepIfBetter : m_mI yX9_keepIfBetter cX9_keepIfBetter 5 (none) 3 := ⟨tb4 179 rfl rfl, tbS 37 rfl rfl, tb1 11 rfl rfl, tb4 180 rfl rfl, by decide +kernel, by decide +kernel, by decide +kernel⟩
theorem mi_X9_leastSpeed : m_mI yX9_leastSpeed cX9_leastSpeed 6 ((some .int)) 4 := ⟨tb4 186 rfl rfl, tb4 187 rfl rfl, tb1 11 rfl rfl, tb4 188 rfl rfl, by decide +kernel, by decide +kernel, by decide +kernel⟩
theorem mi_X9_noneIsThereBehind : m_mI yX9_noneIsThereBehind cX9_noneIsThereBehind 5 ((some .boolean)) 2 := ⟨tb4 195 rfl rfl, tbS 38 rfl rfl, tb1 11 rfl rfl, tb4 196 rfl rfl, by decide +kernel, by decide +kernel, by decide +kernel⟩
theorem mc_X10_init : m_mC yX10_init cX10_init 2 0 := ⟨tb1 33 rfl rfl, rfl, tb1 2 rfl rfl, tb1 34 rfl rfl, by decide +kernel, by decide +kernel, by decide +kernel⟩
theorem mi_X10_setStuff : m_mI yX10_setStuff cX10_setStuff 6 ((some .boolean)) 5 := ⟨tb2 197 rfl rfl, tb2 198 rfl rfl, tb1 2 rfl rfl, tb2 199 rfl rfl, by decide +kernel, by decide +kernel, by decide +kernel⟩
theorem mi_X10_programOf : m_mI yX10_programOf cX10_programOf 2 ((some (.object "BeamPlate$Row"))) 1 := ⟨tb3 11 rfl rfl, tb3 12 rfl rfl, tb1 2 rfl rfl, tb3 13 rfl rfl, by decide +kernel, by decide +kernel, by decide +kernel⟩
theorem mi_X10_hasSlatAt : m_mI yX10_hasSlatAt cX10_hasSlatAt 2 ((some .boolean)) 1 := ⟨tb4 46 rfl rfl, tb4 47 rfl rfl, tb1 2 rfl rfl, tb4 48 rfl rfl, by decide +kernel, by decide +kernel, by decide +kernel⟩
theorem mc_X11_init : m_mC yX11_init cX11_init 1 0 := ⟨tb1 25 rfl rfl, rfl, tb1 1 rfl rfl, tb1 26 rfl rfl, by decide +kernel, by decide +kernel, by decide +kernel⟩
theorem mi_X11_stuff : m_mI yX11_stuff cX11_stuff 6 ((some .boolean)) 5 := ⟨tb2 193 rfl rfl, tb2 194 rfl rfl, tb1 1 rfl rfl, tb2 195 rfl rfl, by decide +kernel, by decide +kernel, by decide +kernel⟩
theorem mi_X11_plate : m_mI yX11_plate cX11_plate 5 ((some .boolean)) 4 := ⟨tb2 204 rfl rfl, tb2 205 rfl rfl, tb1 1 rfl rfl, tb2 206 rfl rfl, by decide +kernel, by decide +kernel, by decide +kernel⟩
theorem mi_X11_beam : m_mI yX11_beam cX11_beam 3 ((some .boolean)) 2 := ⟨tb2 223 rfl rfl, tb2 224 rfl rfl, tb1 1 rfl rfl, tb2 225 rfl rfl, by decide +kernel, by decide +kernel, by decide +kernel⟩
theorem mi_X11_pitch : m_mI yX11_pitch cX11_pitch 2 ((some .boolean)) 1 := ⟨tb2 227 rfl rfl, tb2 228 rfl rfl, tb1 1 rfl rfl, tb2 229 rfl rfl, by decide +kernel, by decide +kernel, by decide +kernel⟩
theorem mi_X11_feed : m_mI yX11_feed cX11_feed 6 ((some .int)) 5 := ⟨tb2 231 rfl rfl, tb2 232 rfl rfl, tb1 1 rfl rfl, tb2 233 rfl rfl, by decide +kernel, by decide +kernel, by decide +kernel⟩
theorem mi_X11_end : m_mI yX11_end cX11_end 2 ((some .boolean)) 1 := ⟨tb3 3 rfl rfl, tb3 4 rfl rfl, tb1 1 rfl rfl, tb3 5 rfl rfl, by decide +kernel, by decide +kernel, by decide +kernel⟩
theorem mi_X11_way : m_mI yX11_way cX11_way 4 ((some .boolean)) 1 := ⟨tb3 7 rfl rfl, tb3 8 rfl rfl, tb1 1 rfl rfl, tb3 9 rfl rfl, by decide +kernel, by decide +kernel, by decide +kernel⟩
theorem mi_X11_fault : m_mI yX11_fault cX11_fault 2 ((some .int)) 1 := ⟨tb3 178 rfl rfl, tb3 179 rfl rfl, tb1 1 rfl rfl, tb3 180 rfl rfl, by decide +kernel, by decide +kernel, by decide +kernel⟩
theorem mi_X11_run : m_mI yX11_run cX11_run 3 ((some .int)) 1 := ⟨tb3 182 rfl rfl, tb3 183 rfl rfl, tb1 1 rfl rfl, tb3 184 rfl rfl, by decide +kernel, by decide +kernel, by decide +kernel⟩
theorem mi_X11_cell : m_mI yX11_cell cX11_cell 5 ((some .int)) 3 := ⟨tb4 83 rfl rfl, tb4 84 rfl rfl, tb1 1 rfl rfl, tb4 85 rfl rfl, by decide +kernel, by decide +kernel, by decide +kernel⟩
theorem mi_X11_look : m_mI yX11_look cX11_look 2 ((some .int)) 1 := ⟨tb4 114 rfl rfl, tb4 115 rfl rfl, tb1 1 rfl rfl, tb4 116 rfl rfl, by decide +kernel, by decide +kernel, by decide +kernel⟩
theorem mi_X11_heat : m_mI yX11_heat cX11_heat 2 ((some .long)) 1 := ⟨tb4 134 rfl rfl, tb4 135 rfl rfl, tb1 1 rfl rfl, tb4 136 rfl rfl, by decide +kernel, by decide +kernel, by decide +kernel⟩
theorem mi_X11_order : m_mI yX11_order cX11_order 4 ((some .int)) 2 := ⟨tb4 143 rfl rfl, tb4 144 rfl rfl, tb1 1 rfl rfl, tb4 145 rfl rfl, by decide +kernel, by decide +kernel, by decide +kernel⟩
theorem mi_X11_speed : m_mI yX11_speed cX11_speed 3 ((some .int)) 2 := ⟨tb4 182 rfl rfl, tb4 183 rfl rfl, tb1 1 rfl rfl, tb4 184 rfl rfl, by decide +kernel, by decide +kernel, by decide +kernel⟩
theorem mi_X11_kind : m_mI yX11_kind cX11_kind 4 ((some .int)) 3 := ⟨tb4 200 rfl rfl, tb4 201 rfl rfl, tb1 1 rfl rfl, tb4 202 rfl rfl, by decide +kernel, by decide +kernel, by decide +kernel⟩
theorem mi_X11_fill : m_mI yX11_fill cX11_fill 3 ((some .int)) 2 := ⟨tb4 222 rfl rfl, tb4 223 rfl rfl, tb1 1 rfl rfl, tb4 224 rfl rfl, by decide +kernel, by decide +kernel, by decide +kernel⟩
theorem mi_X11_test : m_mI yX11_test cX11_test 5 ((some .boolean)) 4 := ⟨tb4 230 rfl rfl, tb4 231 rfl rfl, tb1 1 rfl rfl, tb4 232 rfl rfl, by decide +kernel, by decide +kernel, by decide +kernel⟩
theorem mi_X11_known : m_mI yX11_known cX11_known 6 ((some .int)) 3 := ⟨tb4 239 rfl rfl, tb5 0 rfl rfl, tb1 1 rfl rfl, tb5 1 rfl rfl, by decide +kernel, by decide +kernel, by decide +kernel⟩
theorem mi_X11_sparks : m_mI yX11_sparks cX11_sparks 1 ((some .int)) 0 := ⟨tb5 13 rfl rfl, tb5 14 rfl rfl, tb1 1 rfl rfl, tb5 15 rfl rfl, by decide +kernel, by decide +kernel, by decide +kernel⟩
theorem mi_X11_lost : m_mI yX11_lost cX11_lost 3 ((some .int)) 2 := ⟨tb5 17 rfl rfl, tb5 18 rfl rfl, tb1 1 rfl rfl, tb5 19 rfl rfl, by decide +kernel, by decide +kernel, by decide +kernel⟩
theorem ms_X11_within : m_mS yX11_within cX11_within 3 ((some .boolean)) 3 := ⟨tb2 201 rfl rfl, tb1 1 rfl rfl, tb2 202 rfl rfl, by decide +kernel, by decide +kernel, by decide +kernel⟩
theorem ms_X11_stepX : m_mS yX11_stepX cX11_stepX 1 ((some .int)) 1 := ⟨tb3 216 rfl rfl, tb1 1 rfl rfl, tb3 217 rfl rfl, by decide +kernel, by decide +kernel, by decide +kernel⟩
theorem ms_X11_stepY : m_mS yX11_stepY cX11_stepY 1 ((some .int)) 1 := ⟨tb3 219 rfl rfl, tb1 1 rfl rfl, tb3 220 rfl rfl, by decide +kernel, by decide +kernel, by decide +kernel⟩
theorem mc_X12_init : m_mC yX12_init cX12_init 1 0 := ⟨tb5 27 rfl rfl, rfl, tb1 14 rfl rfl, tb5 28 rfl rfl, by decide +kernel, by decide +kernel, by decide +kernel⟩
theorem mi_X12_isIn : m_mI yX12_isIn cX12_isIn 4 ((some .boolean)) 3 := ⟨tb6 20 rfl rfl, tbS 42 rfl rfl, tb1 14 rfl rfl, tb6 21 rfl rfl, by decide +kernel, by decide +kernel, by decide +kernel⟩
theorem mi_X12_stuff : m_mI yX12_stuff cX12_stuff 6 ((some .boolean)) 5 := ⟨tb6 15 rfl rfl, tb6 16 rfl rfl, tb1 14 rfl rfl, tb6 17 rfl rfl, by decide +kernel, by decide +kernel, by decide +kernel⟩
theorem mi_X12_plate : m_mI yX12_plate cX12_plate 6 ((some .boolean)) 4 := ⟨tb6 23 rfl rfl, tb6 24 rfl rfl, tb1 14 rfl rfl, tb6 25 rfl rfl, by decide +kernel, by decide +kernel, by decide +kernel⟩
theorem mi_X12_beam : m_mI yX12_beam cX12_beam 3 ((some .boolean)) 2 := ⟨tb6 27 rfl rfl, tb6 28 rfl rfl, tb1 14 rfl rfl, tb6 29 rfl rfl, by decide +kernel, by decide +kernel, by decide +kernel⟩
theorem mi_X12_pitch : m_mI yX12_pitch cX12_pitch 2 ((some .boolean)) 1 := ⟨tb6 31 rfl rfl, tb6 32 rfl rfl, tb1 14 rfl rfl, tb6 33 rfl rfl, by decide +kernel, by decide +kernel, by decide +kernel⟩
theorem mi_X12_isOnPlate : m_mI yX12_isOnPlate cX12_isOnPlate 3 ((some .boolean)) 2 := ⟨tb6 164 rfl rfl, tbS 70 rfl rfl, tb1 14 rfl rfl, tb6 165 rfl rfl, by decide +kernel, by decide +kernel, by decide +kernel⟩
theorem mi_X12_isThere : m_mI yX12_isThere cX12_isThere 4 ((some .boolean)) 3 := ⟨tb6 160 rfl rfl, tbS 69 rfl rfl, tb1 14 rfl rfl, tb6 161 rfl rfl, by decide +kernel, by decide +kernel, by decide +kernel⟩
theorem mi_X12_copies : m_mI yX12_copies cX12_copies 2 (none) 0 := ⟨tb7 26 rfl rfl, tbS 91 rfl rfl, tb1 14 rfl rfl, tb7 27 rfl rfl, by decide +kernel, by decide +kernel, by decide +kernel⟩
theorem mi_X12_stepX : m_mI yX12_stepX cX12_stepX 2 ((some .int)) 1 := ⟨tb6 180 rfl rfl, tbS 74 rfl rfl, tb1 14 rfl rfl, tb6 181 rfl rfl, by decide +kernel, by decide +kernel, by decide +kernel⟩
theorem mi_X12_stepY : m_mI yX12_stepY cX12_stepY 2 ((some .int)) 1 := ⟨tb6 184 rfl rfl, tbS 75 rfl rfl, tb1 14 rfl rfl, tb6 185 rfl rfl, by decide +kernel, by decide +kernel, by decide +kernel⟩
theorem mi_X12_flowFrom : m_mI yX12_flowFrom cX12_flowFrom 7 ((some .int)) 4 := ⟨tb6 205 rfl rfl, tbS 80 rfl rfl, tb1 14 rfl rfl, tb6 206 rfl rfl, by decide +kernel, by decide +kernel, by decide +kernel⟩
theorem mi_X12_gives : m_mI yX12_gives cX12_gives 4 (none) 1 := ⟨tb6 196 rfl rfl, tbS 78 rfl rfl, tb1 14 rfl rfl, tb6 197 rfl rfl, by decide +kernel, by decide +kernel, by decide +kernel⟩
theorem mi_X12_leads : m_mI yX12_leads cX12_leads 6 (none) 1 := ⟨tb6 201 rfl rfl, tbS 79 rfl rfl, tb1 14 rfl rfl, tb6 202 rfl rfl, by decide +kernel, by decide +kernel, by decide +kernel⟩
theorem mi_X12_goesAway : m_mI yX12_goesAway cX12_goesAway 4 (none) 3 := ⟨tb6 213 rfl rfl, tbS 82 rfl rfl, tb1 14 rfl rfl, tb6 214 rfl rfl, by decide +kernel, by decide +kernel, by decide +kernel⟩
theorem mi_X12_cuts : m_mI yX12_cuts cX12_cuts 5 ((some .boolean)) 1 := ⟨tb6 209 rfl rfl, tbS 81 rfl rfl, tb1 14 rfl rfl, tb6 210 rfl rfl, by decide +kernel, by decide +kernel, by decide +kernel⟩
theorem mi_X12_ticksOnce : m_mI yX12_ticksOnce cX12_ticksOnce 6 (none) 1 := ⟨tb6 192 rfl rfl, tbS 77 rfl rfl, tb1 14 rfl rfl, tb6 193 rfl rfl, by decide +kernel, by decide +kernel, by decide +kernel⟩
theorem mi_X12_findsParts : m_mI yX12_findsParts cX12_findsParts 4 (none) 1 := ⟨tb6 221 rfl rfl, tbS 84 rfl rfl, tb1 14 rfl rfl, tb6 222 rfl rfl, by decide +kernel, by decide +kernel, by decide +kernel⟩
theorem mi_X12_spreads : m_mI yX12_spreads cX12_spreads 9 (none) 2 := ⟨tb6 225 rfl rfl, tbS 85 rfl rfl, tb1 14 rfl rfl, tb6 226 rfl rfl, by decide +kernel, by decide +kernel, by decide +kernel⟩
theorem mi_X12_lying : m_mI yX12_lying cX12_lying 7 ((some .int)) 1 := ⟨tb6 229 rfl rfl, tbS 86 rfl rfl, tb1 14 rfl rfl, tb6 230 rfl rfl, by decide +kernel, by decide +kernel, by decide +kernel⟩
theorem mi_X12_loosens : m_mI yX12_loosens cX12_loosens 5 (none) 1 := ⟨tb6 217 rfl rfl, tbS 83 rfl rfl, tb1 14 rfl rfl, tb6 218 rfl rfl, by decide +kernel, by decide +kernel, by decide +kernel⟩
theorem mi_X12_puts : m_mI yX12_puts cX12_puts 3 (none) 1 := ⟨tb6 40 rfl rfl, tbS 43 rfl rfl, tb1 14 rfl rfl, tb6 41 rfl rfl, by decide +kernel, by decide +kernel, by decide +kernel⟩
theorem mi_X12_feed : m_mI yX12_feed cX12_feed 6 ((some .int)) 5 := ⟨tb6 35 rfl rfl, tb6 36 rfl rfl, tb1 14 rfl rfl, tb6 37 rfl rfl, by decide +kernel, by decide +kernel, by decide +kernel⟩
theorem mi_X12_end : m_mI yX12_end cX12_end 2 ((some .boolean)) 1 := ⟨tb6 43 rfl rfl, tb6 44 rfl rfl, tb1 14 rfl rfl, tb6 45 rfl rfl, by decide +kernel, by decide +kernel, by decide +kernel⟩
theorem mi_X12_raw : m_mI yX12_raw cX12_raw 2 ((some .int)) 1 := ⟨tb6 60 rfl rfl, tbS 46 rfl rfl, tb1 14 rfl rfl, tb6 61 rfl rfl, by decide +kernel, by decide +kernel, by decide +kernel⟩
theorem mi_X12_isLetter : m_mI yX12_isLetter cX12_isLetter 2 ((some .boolean)) 1 := ⟨tb6 64 rfl rfl, tbS 47 rfl rfl, tb1 14 rfl rfl, tb6 65 rfl rfl, by decide +kernel, by decide +kernel, by decide +kernel⟩
theorem mi_X12_isDigit : m_mI yX12_isDigit cX12_isDigit 2 ((some .boolean)) 1 := ⟨tb6 72 rfl rfl, tbS 49 rfl rfl, tb1 14 rfl rfl, tb6 73 rfl rfl, by decide +kernel, by decide +kernel, by decide +kernel⟩
theorem mi_X12_isMarkSign : m_mI yX12_isMarkSign cX12_isMarkSign 2 ((some .boolean)) 1 := ⟨tb6 76 rfl rfl, tbS 50 rfl rfl, tb1 14 rfl rfl, tb6 77 rfl rfl, by decide +kernel, by decide +kernel, by decide +kernel⟩
theorem mi_X12_wordAt : m_mI yX12_wordAt cX12_wordAt 6 ((some .int)) 2 := ⟨tb6 68 rfl rfl, tbS 48 rfl rfl, tb1 14 rfl rfl, tb6 69 rfl rfl, by decide +kernel, by decide +kernel, by decide +kernel⟩
theorem mi_X12_reads : m_mI yX12_reads cX12_reads 2 (none) 0 := ⟨tb6 56 rfl rfl, tbS 45 rfl rfl, tb1 14 rfl rfl, tb6 57 rfl rfl, by decide +kernel, by decide +kernel, by decide +kernel⟩
theorem mi_X12_fails : m_mI yX12_fails cX12_fails 2 ((some .int)) 1 := ⟨tb6 104 rfl rfl, tbS 57 rfl rfl, tb1 14 rfl rfl, tb6 105 rfl rfl, by decide +kernel, by decide +kernel, by decide +kernel⟩
theorem mi_X12_isWord : m_mI yX12_isWord cX12_isWord 2 ((some .boolean)) 1 := ⟨tb6 80 rfl rfl, tbS 51 rfl rfl, tb1 14 rfl rfl, tb6 81 rfl rfl, by decide +kernel, by decide +kernel, by decide +kernel⟩
theorem mi_X12_isSign : m_mI yX12_isSign cX12_isSign 2 ((some .boolean)) 1 := ⟨tb6 100 rfl rfl, tbS 56 rfl rfl, tb1 14 rfl rfl, tb6 101 rfl rfl, by decide +kernel, by decide +kernel, by decide +kernel⟩
theorem mi_X12_emits : m_mI yX12_emits cX12_emits 5 (none) 3 := ⟨tb6 92 rfl rfl, tbS 54 rfl rfl, tb1 14 rfl rfl, tb6 93 rfl rfl, by decide +kernel, by decide +kernel, by decide +kernel⟩
theorem mi_X12_readNumber : m_mI yX12_readNumber cX12_readNumber 1 ((some .int)) 0 := ⟨tb6 124 rfl rfl, tbS 62 rfl rfl, tb1 14 rfl rfl, tb6 125 rfl rfl, by decide +kernel, by decide +kernel, by decide +kernel⟩
theorem mi_X12_readUnit : m_mI yX12_readUnit cX12_readUnit 4 ((some .int)) 1 := ⟨tb6 116 rfl rfl, tbS 60 rfl rfl, tb1 14 rfl rfl, tb6 117 rfl rfl, by decide +kernel, by decide +kernel, by decide +kernel⟩
theorem mi_X12_readSum : m_mI yX12_readSum cX12_readSum 2 ((some .int)) 0 := ⟨tb6 112 rfl rfl, tbS 59 rfl rfl, tb1 14 rfl rfl, tb6 113 rfl rfl, by decide +kernel, by decide +kernel, by decide +kernel⟩
theorem mi_X12_readIf : m_mI yX12_readIf cX12_readIf 3 ((some .int)) 0 := ⟨tb6 108 rfl rfl, tbS 58 rfl rfl, tb1 14 rfl rfl, tb6 109 rfl rfl, by decide +kernel, by decide +kernel, by decide +kernel⟩
theorem mi_X12_readAgain : m_mI yX12_readAgain cX12_readAgain 2 ((some .int)) 0 := ⟨tb6 120 rfl rfl, tbS 61 rfl rfl, tb1 14 rfl rfl, tb6 121 rfl rfl, by decide +kernel, by decide +kernel, by decide +kernel⟩
theorem mi_X12_readPlain : m_mI yX12_readPlain cX12_readPlain 4 ((some .int)) 0 := ⟨tb6 128 rfl rfl, tbS 63 rfl rfl, tb1 14 rfl rfl, tb6 129 rfl rfl, by decide +kernel, by decide +kernel, by decide +kernel⟩
theorem mi_X12_isInAgain : m_mI yX12_isInAgain cX12_isInAgain 1 ((some .boolean)) 0 := ⟨tb6 84 rfl rfl, tbS 52 rfl rfl, tb1 14 rfl rfl, tb6 85 rfl rfl, by decide +kernel, by decide +kernel, by decide +kernel⟩
theorem mi_X12_closes : m_mI yX12_closes cX12_closes 2 (none) 0 := ⟨tb6 88 rfl rfl, tbS 53 rfl rfl, tb1 14 rfl rfl, tb6 89 rfl rfl, by decide +kernel, by decide +kernel, by decide +kernel⟩
theorem mi_X12_ends : m_mI yX12_ends cX12_ends 1 ((some .int)) 0 := ⟨tb6 96 rfl rfl, tbS 55 rfl rfl, tb1 14 rfl rfl, tb6 97 rfl rfl, by decide +kernel, by decide +kernel, by decide +kernel⟩
theorem mi_X12_readAll : m_mI yX12_readAll cX12_readAll 2 ((some .int)) 0 := ⟨tb6 52 rfl rfl, tbS 44 rfl rfl, tb1 14 rfl rfl, tb6 53 rfl rfl, by decide +kernel, by decide +kernel, by decide +kernel⟩
theorem mi_X12_way : m_mI yX12_way cX12_way 7 ((some .boolean)) 1 := ⟨tb6 47 rfl rfl, tb6 48 rfl rfl, tb1 14 rfl rfl, tb6 49 rfl rfl, by decide +kernel, by decide +kernel, by decide +kernel⟩
theorem mi_X12_fault : m_mI yX12_fault cX12_fault 2 ((some .int)) 1 := ⟨tb6 131 rfl rfl, tb6 132 rfl rfl, tb1 14 rfl rfl, tb6 133 rfl rfl, by decide +kernel, by decide +kernel, by decide +kernel⟩
theorem mi_X12_pays : m_mI yX12_pays cX12_pays 1 ((some .boolean)) 0 := ⟨tb6 144 rfl rfl, tbS 65 rfl rfl, tb1 14 rfl rfl, tb6 145 rfl rfl, by decide +kernel, by decide +kernel, by decide +kernel⟩
theorem mi_X12_waits : m_mI yX12_waits cX12_waits 4 (none) 2 := ⟨tb6 188 rfl rfl, tbS 76 rfl rfl, tb1 14 rfl rfl, tb6 189 rfl rfl, by decide +kernel, by decide +kernel, by decide +kernel⟩
theorem mi_X12_comes : m_mI yX12_comes cX12_comes 4 (none) 3 := ⟨tb6 172 rfl rfl, tbS 72 rfl rfl, tb1 14 rfl rfl, tb6 173 rfl rfl, by decide +kernel, by decide +kernel, by decide +kernel⟩
theorem mi_X12_goes : m_mI yX12_goes cX12_goes 7 (none) 3 := ⟨tb6 176 rfl rfl, tbS 73 rfl rfl, tb1 14 rfl rfl, tb6 177 rfl rfl, by decide +kernel, by decide +kernel, by decide +kernel⟩
theorem mi_X12_askedOf : m_mI yX12_askedOf cX12_askedOf 4 ((some .int)) 2 := ⟨tb6 156 rfl rfl, tbS 68 rfl rfl, tb1 14 rfl rfl, tb6 157 rfl rfl, by decide +kernel, by decide +kernel, by decide +kernel⟩
theorem mi_X12_sumOf : m_mI yX12_sumOf cX12_sumOf 7 ((some .int)) 4 := ⟨tb6 152 rfl rfl, tbS 67 rfl rfl, tb1 14 rfl rfl, tb6 153 rfl rfl, by decide +kernel, by decide +kernel, by decide +kernel⟩
theorem mi_X12_isSo : m_mI yX12_isSo cX12_isSo 7 ((some .boolean)) 3 := ⟨tb6 148 rfl rfl, tbS 66 rfl rfl, tb1 14 rfl rfl, tb6 149 rfl rfl, by decide +kernel, by decide +kernel, by decide +kernel⟩
theorem mi_X12_doesPlain : m_mI yX12_doesPlain cX12_doesPlain 5 (none) 4 := ⟨tb6 168 rfl rfl, tbS 71 rfl rfl, tb1 14 rfl rfl, tb6 169 rfl rfl, by decide +kernel, by decide +kernel, by decide +kernel⟩
theorem mi_X12_runs : m_mI yX12_runs cX12_runs 6 (none) 2 := ⟨tb6 140 rfl rfl, tbS 64 rfl rfl, tb1 14 rfl rfl, tb6 141 rfl rfl, by decide +kernel, by decide +kernel, by decide +kernel⟩
theorem mi_X12_run : m_mI yX12_run cX12_run 2 ((some .int)) 1 := ⟨tb6 135 rfl rfl, tb6 136 rfl rfl, tb1 14 rfl rfl, tb6 137 rfl rfl, by decide +kernel, by decide +kernel, by decide +kernel⟩
theorem mi_X12_bridgeOf : m_mI yX12_bridgeOf cX12_bridgeOf 9 ((some .int)) 2 := ⟨tb6 237 rfl rfl, tbS 87 rfl rfl, tb1 14 rfl rfl, tb6 238 rfl rfl, by decide +kernel, by decide +kernel, by decide +kernel⟩
theorem mi_X12_cell : m_mI yX12_cell cX12_cell 6 ((some .int)) 3 := ⟨tb6 232 rfl rfl, tb6 233 rfl rfl, tb1 14 rfl rfl, tb6 234 rfl rfl, by decide +kernel, by decide +kernel, by decide +kernel⟩
theorem mi_X12_cellsAs : m_mI yX12_cellsAs cX12_cellsAs 8 ((some .int)) 2 := ⟨tb7 5 rfl rfl, tbS 88 rfl rfl, tb1 14 rfl rfl, tb7 6 rfl rfl, by decide +kernel, by decide +kernel, by decide +kernel⟩
theorem mi_X12_look : m_mI yX12_look cX12_look 4 ((some .int)) 1 := ⟨tb7 0 rfl rfl, tb7 1 rfl rfl, tb1 14 rfl rfl, tb7 2 rfl rfl, by decide +kernel, by decide +kernel, by decide +kernel⟩
theorem mi_X12_heat : m_mI yX12_heat cX12_heat 5 ((some .long)) 1 := ⟨tb7 8 rfl rfl, tb7 9 rfl rfl, tb1 14 rfl rfl, tb7 10 rfl rfl, by decide +kernel, by decide +kernel, by decide +kernel⟩
theorem mi_X12_ones : m_mI yX12_ones cX12_ones 4 ((some .int)) 1 := ⟨tb7 18 rfl rfl, tbS 89 rfl rfl, tb1 14 rfl rfl, tb7 19 rfl rfl, by decide +kernel, by decide +kernel, by decide +kernel⟩
theorem mi_X12_isOrder : m_mI yX12_isOrder cX12_isOrder 6 ((some .boolean)) 3 := ⟨tb7 22 rfl rfl, tbS 90 rfl rfl, tb1 14 rfl rfl, tb7 23 rfl rfl, by decide +kernel, by decide +kernel, by decide +kernel⟩
theorem mi_X12_order : m_mI yX12_order cX12_order 10 ((some .int)) 2 := ⟨tb7 13 rfl rfl, tb7 14 rfl rfl, tb1 14 rfl rfl, tb7 15 rfl rfl, by decide +kernel, by decide +kernel, by decide +kernel⟩
theorem mi_X12_cutsThrough : m_mI yX12_cutsThrough cX12_cutsThrough 6 ((some .boolean)) 3 := ⟨tb7 34 rfl rfl, tbS 92 rfl rfl, tb1 14 rfl rfl, tb7 35 rfl rfl, by decide +kernel, by decide +kernel, by decide +kernel⟩
theorem mi_X12_speed : m_mI yX12_speed cX12_speed 4 ((some .int)) 2 := ⟨tb7 29 rfl rfl, tb7 30 rfl rfl, tb1 14 rfl rfl, tb7 31 rfl rfl, by decide +kernel, by decide +kernel, by decide +kernel⟩
theorem mi_X12_kind : m_mI yX12_kind cX12_kind 4 ((some .int)) 3 := ⟨tb7 37 rfl rfl, tb7 38 rfl rfl, tb1 14 rfl rfl, tb7 39 rfl rfl, by decide +kernel, by decide +kernel, by decide +kernel⟩
theorem mi_X12_mostOf : m_mI yX12_mostOf cX12_mostOf 6 ((some .int)) 2 := ⟨tb7 46 rfl rfl, tbS 93 rfl rfl, tb1 14 rfl rfl, tb7 47 rfl rfl, by decide +kernel, by decide +kernel, by decide +kernel⟩
theorem mi_X12_fill : m_mI yX12_fill cX12_fill 5 ((some .int)) 2 := ⟨tb7 41 rfl rfl, tb7 42 rfl rfl, tb1 14 rfl rfl, tb7 43 rfl rfl, by decide +kernel, by decide +kernel, by decide +kernel⟩
theorem mi_X12_test : m_mI yX12_test cX12_test 5 ((some .boolean)) 4 := ⟨tb7 49 rfl rfl, tb7 50 rfl rfl, tb1 14 rfl rfl, tb7 51 rfl rfl, by decide +kernel, by decide +kernel, by decide +kernel⟩
theorem mi_X12_known : m_mI yX12_known cX12_known 7 ((some .int)) 3 := ⟨tb7 53 rfl rfl, tb7 54 rfl rfl, tb1 14 rfl rfl, tb7 55 rfl rfl, by decide +kernel, by decide +kernel, by decide +kernel⟩
theorem mi_X12_sparks : m_mI yX12_sparks cX12_sparks 2 ((some .int)) 0 := ⟨tb7 57 rfl rfl, tb7 58 rfl rfl, tb1 14 rfl rfl, tb7 59 rfl rfl, by decide +kernel, by decide +kernel, by decide +kernel⟩
theorem mi_X12_lost : m_mI yX12_lost cX12_lost 5 ((some .int)) 2 := ⟨tb7 61 rfl rfl, tb7 62 rfl rfl, tb1 14 rfl rfl, tb7 63 rfl rfl, by decide +kernel, by decide +kernel, by decide +kernel⟩
theorem ms_J6_bitCount_0f7a4 : m_mS yJ6_bitCount_0f7a4 cJ6_bitCount_0f7a4 1 ((some .int)) 1 := ⟨tb4 147 rfl rfl, tb1 21 rfl rfl, tb4 148 rfl rfl, by decide +kernel, by decide +kernel, by decide +kernel⟩
theorem ms_J9_abs_0f7a4 : m_mS yJ9_abs_0f7a4 cJ9_abs_0f7a4 1 ((some .int)) 1 := ⟨tb4 71 rfl rfl, tb1 4 rfl rfl, tb4 72 rfl rfl, by decide +kernel, by decide +kernel, by decide +kernel⟩
theorem ms_J9_max_7cf53 : m_mS yJ9_max_7cf53 cJ9_max_7cf53 2 ((some .int)) 2 := ⟨tb1 44 rfl rfl, tb1 4 rfl rfl, tb1 45 rfl rfl, by decide +kernel, by decide +kernel, by decide +kernel⟩
theorem ms_J9_min_7cf53 : m_mS yJ9_min_7cf53 cJ9_min_7cf53 2 ((some .int)) 2 := ⟨tb2 213 rfl rfl, tb1 4 rfl rfl, tb2 214 rfl rfl, by decide +kernel, by decide +kernel, by decide +kernel⟩
theorem mi_J0_length_8abf5 : m_mI yJ0_length_8abf5 cJ0_length_8abf5 1 ((some .int)) 0 := ⟨tb3 35 rfl rfl, tb3 36 rfl rfl, tb1 16 rfl rfl, tb3 37 rfl rfl, by decide +kernel, by decide +kernel, by decide +kernel⟩
theorem mi_J0_charAt_5068e : m_mI yJ0_charAt_5068e cJ0_charAt_5068e 2 ((some .char)) 1 := ⟨tb3 45 rfl rfl, tb3 46 rfl rfl, tb1 16 rfl rfl, tb3 47 rfl rfl, by decide +kernel, by decide +kernel, by decide +kernel⟩
theorem mi_J0_coder_7d493 : m_mI yJ0_coder_7d493 cJ0_coder_7d493 1 ((some .byte)) 0 := ⟨tb3 39 rfl rfl, tb3 40 rfl rfl, tb1 16 rfl rfl, tb3 41 rfl rfl, by decide +kernel, by decide +kernel, by decide +kernel⟩
theorem mi_J0_isLatin1_aae02 : m_mI yJ0_isLatin1_aae02 cJ0_isLatin1_aae02 1 ((some .boolean)) 0 := ⟨tb3 49 rfl rfl, tb3 50 rfl rfl, tb1 16 rfl rfl, tb3 51 rfl rfl, by decide +kernel, by decide +kernel, by decide +kernel⟩
theorem ms_J0_checkIndex_df160 : m_mS yJ0_checkIndex_df160 cJ0_checkIndex_df160 2 (none) 2 := ⟨tb3 56 rfl rfl, tb1 16 rfl rfl, tb3 57 rfl rfl, by decide +kernel, by decide +kernel, by decide +kernel⟩
theorem ms_J1_charAt_3b067 : m_mS yJ1_charAt_3b067 cJ1_charAt_3b067 2 ((some .char)) 2 := ⟨tb3 53 rfl rfl, tb1 17 rfl rfl, tb3 54 rfl rfl, by decide +kernel, by decide +kernel, by decide +kernel⟩
theorem ms_J2_getChar_3b067 : m_mS yJ2_getChar_3b067 cJ2_getChar_3b067 2 ((some .char)) 2 := ⟨tb3 74 rfl rfl, tb1 19 rfl rfl, tb3 75 rfl rfl, by decide +kernel, by decide +kernel, by decide +kernel⟩
theorem ms_J2_length_9d52b : m_mS yJ2_length_9d52b cJ2_length_9d52b 1 ((some .int)) 1 := ⟨tb3 70 rfl rfl, tb1 19 rfl rfl, tb3 71 rfl rfl, by decide +kernel, by decide +kernel, by decide +kernel⟩
theorem ms_J2_charAt_3b067 : m_mS yJ2_charAt_3b067 cJ2_charAt_3b067 2 ((some .char)) 2 := ⟨tb3 64 rfl rfl, tb1 19 rfl rfl, tb3 65 rfl rfl, by decide +kernel, by decide +kernel, by decide +kernel⟩
theorem ms_J2_checkIndex_2214a : m_mS yJ2_checkIndex_2214a cJ2_checkIndex_2214a 2 (none) 2 := ⟨tb3 67 rfl rfl, tb1 19 rfl rfl, tb3 68 rfl rfl, by decide +kernel, by decide +kernel, by decide +kernel⟩
theorem ms_J7_fill_53178 : m_mS yJ7_fill_53178 cJ7_fill_53178 4 (none) 2 := ⟨tb2 220 rfl rfl, tb1 15 rfl rfl, tb2 221 rfl rfl, by decide +kernel, by decide +kernel, by decide +kernel⟩
theorem ms_J3_checkIndex_8e157 : m_mS yJ3_checkIndex_8e157 cJ3_checkIndex_8e157 3 ((some .int)) 3 := ⟨tb3 61 rfl rfl, tb1 18 rfl rfl, tb3 62 rfl rfl, by decide +kernel, by decide +kernel, by decide +kernel⟩
end
section
theorem dX0_init_0 : decode cX0_init 0 = .ok (.aload_n 0, 1) := by decide +kernel
theorem dX0_init_1 : decode cX0_init 1 = .ok (.invokespecial 5, 3) := by decide +kernel
theorem dX0_init_4 : decode cX0_init 4 = .ok (.aload_n 0, 1) := by decide +kernel
theorem dX0_init_5 : decode cX0_init 5 = .ok (.bipush 6, 2) := by decide +kernel
theorem dX0_init_7 : decode cX0_init 7 = .ok (.newarray .int, 2) := by decide +kernel
theorem dX0_init_9 : decode cX0_init 9 = .ok (.putfield 11, 3) := by decide +kernel
theorem dX0_init_12 : decode cX0_init 12 = .ok (.aload_n 0, 1) := by decide +kernel
theorem dX0_init_13 : decode cX0_init 13 = .ok (.bipush 6, 2) := by decide +kernel
theorem dX0_init_15 : decode cX0_init 15 = .ok (.newarray .int, 2) := by decide +kernel
theorem dX0_init_17 : decode cX0_init 17 = .ok (.putfield 15, 3) := by decide +kernel
theorem dX0_init_20 : decode cX0_init 20 = .ok (.aload_n 0, 1) := by decide +kernel
theorem dX0_init_21 : decode cX0_init 21 = .ok (.bipush 6, 2) := by decide +kernel
theorem dX0_init_23 : decode cX0_init 23 = .ok (.newarray .int, 2) := by decide +kernel
theorem dX0_init_25 : decode cX0_init 25 = .ok (.putfield 18, 3) := by decide +kernel
theorem dX0_init_28 : decode cX0_init 28 = .ok (.aload_n 0, 1) := by decide +kernel
theorem dX0_init_29 : decode cX0_init 29 = .ok (.sipush 1681, 3) := by decide +kernel
theorem dX0_init_32 : decode cX0_init 32 = .ok (.newarray .int, 2) := by decide +kernel
theorem dX0_init_34 : decode cX0_init 34 = .ok (.putfield 21, 3) := by decide +kernel
theorem dX0_init_37 : decode cX0_init 37 = .ok (.aload_n 0, 1) := by decide +kernel
theorem dX0_init_38 : decode cX0_init 38 = .ok (.iconst 0, 1) := by decide +kernel
theorem dX0_init_39 : decode cX0_init 39 = .ok (.putfield 24, 3) := by decide +kernel
theorem dX0_init_42 : decode cX0_init 42 = .ok (.return_, 1) := by decide +kernel
theorem dX0_addKind_0 : decode cX0_addKind 0 = .ok (.iload_n 1, 1) := by decide +kernel
theorem dX0_addKind_1 : decode cX0_addKind 1 = .ok (.iconst 1, 1) := by decide +kernel
theorem dX0_addKind_2 : decode cX0_addKind 2 = .ok (.bipush 40, 2) := by decide +kernel
theorem dX0_addKind_4 : decode cX0_addKind 4 = .ok (.invokestatic 28, 3) := by decide +kernel
theorem dX0_addKind_7 : decode cX0_addKind 7 = .ok (.ifCond .eq 33, 3) := by decide +kernel
theorem dX0_addKind_10 : decode cX0_addKind 10 = .ok (.iload_n 2, 1) := by decide +kernel
theorem dX0_addKind_11 : decode cX0_addKind 11 = .ok (.iconst 1, 1) := by decide +kernel
theorem dX0_addKind_12 : decode cX0_addKind 12 = .ok (.bipush 40, 2) := by decide +kernel
theorem dX0_addKind_14 : decode cX0_addKind 14 = .ok (.invokestatic 28, 3) := by decide +kernel
theorem dX0_addKind_17 : decode cX0_addKind 17 = .ok (.ifCond .eq 23, 3) := by decide +kernel
theorem dX0_addKind_20 : decode cX0_addKind 20 = .ok (.iload_n 3, 1) := by decide +kernel
theorem dX0_addKind_21 : decode cX0_addKind 21 = .ok (.iconst 0, 1) := by decide +kernel
theorem dX0_addKind_22 : decode cX0_addKind 22 = .ok (.sipush 999, 3) := by decide +kernel
theorem dX0_addKind_25 : decode cX0_addKind 25 = .ok (.invokestatic 28, 3) := by decide +kernel
theorem dX0_addKind_28 : decode cX0_addKind 28 = .ok (.ifCond .eq 12, 3) := by decide +kernel
theorem dX0_addKind_31 : decode cX0_addKind 31 = .ok (.aload_n 0, 1) := by decide +kernel
theorem dX0_addKind_32 : decode cX0_addKind 32 = .ok (.getfield 24, 3) := by decide +kernel
theorem dX0_addKind_35 : decode cX0_addKind 35 = .ok (.bipush 6, 2) := by decide +kernel
theorem dX0_addKind_37 : decode cX0_addKind 37 = .ok (.if_icmp .lt 5, 3) := by decide +kernel
theorem dX0_addKind_40 : decode cX0_addKind 40 = .ok (.iconst (-1), 1) := by decide +kernel
theorem dX0_addKind_41 : decode cX0_addKind 41 = .ok (.ireturn, 1) := by decide +kernel
theorem dX0_addKind_42 : decode cX0_addKind 42 = .ok (.aload_n 0, 1) := by decide +kernel
theorem dX0_addKind_43 : decode cX0_addKind 43 = .ok (.getfield 11, 3) := by decide +kernel
theorem dX0_addKind_46 : decode cX0_addKind 46 = .ok (.aload_n 0, 1) := by decide +kernel
theorem dX0_addKind_47 : decode cX0_addKind 47 = .ok (.getfield 24, 3) := by decide +kernel
theorem dX0_addKind_50 : decode cX0_addKind 50 = .ok (.iload_n 1, 1) := by decide +kernel
theorem dX0_addKind_51 : decode cX0_addKind 51 = .ok (.iastore, 1) := by decide +kernel
theorem dX0_addKind_52 : decode cX0_addKind 52 = .ok (.aload_n 0, 1) := by decide +kernel
theorem dX0_addKind_53 : decode cX0_addKind 53 = .ok (.getfield 15, 3) := by decide +kernel
theorem dX0_addKind_56 : decode cX0_addKind 56 = .ok (.aload_n 0, 1) := by decide +kernel
theorem dX0_addKind_57 : decode cX0_addKind 57 = .ok (.getfield 24, 3) := by decide +kernel
theorem dX0_addKind_60 : decode cX0_addKind 60 = .ok (.iload_n 2, 1) := by decide +kernel
theorem dX0_addKind_61 : decode cX0_addKind 61 = .ok (.iastore, 1) := by decide +kernel
theorem dX0_addKind_62 : decode cX0_addKind 62 = .ok (.aload_n 0, 1) := by decide +kernel
theorem dX0_addKind_63 : decode cX0_addKind 63 = .ok (.getfield 18, 3) := by decide +kernel
theorem dX0_addKind_66 : decode cX0_addKind 66 = .ok (.aload_n 0, 1) := by decide +kernel
theorem dX0_addKind_67 : decode cX0_addKind 67 = .ok (.getfield 24, 3) := by decide +kernel
theorem dX0_addKind_70 : decode cX0_addKind 70 = .ok (.iload_n 3, 1) := by decide +kernel
theorem dX0_addKind_71 : decode cX0_addKind 71 = .ok (.iastore, 1) := by decide +kernel
theorem dX0_addKind_72 : decode cX0_addKind 72 = .ok (.aload_n 0, 1) := by decide +kernel
theorem dX0_addKind_73 : decode cX0_addKind 73 = .ok (.dup, 1) := by decide +kernel
theorem dX0_addKind_74 : decode cX0_addKind 74 = .ok (.getfield 24, 3) := by decide +kernel
theorem dX0_addKind_77 : decode cX0_addKind 77 = .ok (.iconst 1, 1) := by decide +kernel
theorem dX0_addKind_78 : decode cX0_addKind 78 = .ok (.iadd, 1) := by decide +kernel
theorem dX0_addKind_79 : decode cX0_addKind 79 = .ok (.putfield 24, 3) := by decide +kernel
theorem dX0_addKind_82 : decode cX0_addKind 82 = .ok (.aload_n 0, 1) := by decide +kernel
theorem dX0_addKind_83 : decode cX0_addKind 83 = .ok (.invokevirtual 32, 3) := by decide +kernel
theorem dX0_addKind_86 : decode cX0_addKind 86 = .ok (.aload_n 0, 1) := by decide +kernel
theorem dX0_addKind_87 : decode cX0_addKind 87 = .ok (.getfield 24, 3) := by decide +kernel
theorem dX0_addKind_90 : decode cX0_addKind 90 = .ok (.iconst 1, 1) := by decide +kernel
theorem dX0_addKind_91 : decode cX0_addKind 91 = .ok (.isub, 1) := by decide +kernel
theorem dX0_addKind_92 : decode cX0_addKind 92 = .ok (.ireturn, 1) := by decide +kernel
theorem dX0_greatestWorth_0 : decode cX0_greatestWorth 0 = .ok (.iload_n 1, 1) := by decide +kernel
theorem dX0_greatestWorth_1 : decode cX0_greatestWorth 1 = .ok (.iconst 0, 1) := by decide +kernel
theorem dX0_greatestWorth_2 : decode cX0_greatestWorth 2 = .ok (.bipush 40, 2) := by decide +kernel
theorem dX0_greatestWorth_4 : decode cX0_greatestWorth 4 = .ok (.invokestatic 28, 3) := by decide +kernel
theorem dX0_greatestWorth_7 : decode cX0_greatestWorth 7 = .ok (.ifCond .eq 13, 3) := by decide +kernel
theorem dX0_greatestWorth_10 : decode cX0_greatestWorth 10 = .ok (.iload_n 2, 1) := by decide +kernel
theorem dX0_greatestWorth_11 : decode cX0_greatestWorth 11 = .ok (.iconst 0, 1) := by decide +kernel
theorem dX0_greatestWorth_12 : decode cX0_greatestWorth 12 = .ok (.bipush 40, 2) := by decide +kernel
theorem dX0_greatestWorth_14 : decode cX0_greatestWorth 14 = .ok (.invokestatic 28, 3) := by decide +kernel
theorem dX0_greatestWorth_17 : decode cX0_greatestWorth 17 = .ok (.ifCond .ne 5, 3) := by decide +kernel
theorem dX0_greatestWorth_20 : decode cX0_greatestWorth 20 = .ok (.iconst (-1), 1) := by decide +kernel
theorem dX0_greatestWorth_21 : decode cX0_greatestWorth 21 = .ok (.ireturn, 1) := by decide +kernel
theorem dX0_greatestWorth_22 : decode cX0_greatestWorth 22 = .ok (.aload_n 0, 1) := by decide +kernel
theorem dX0_greatestWorth_23 : decode cX0_greatestWorth 23 = .ok (.getfield 21, 3) := by decide +kernel
theorem dX0_greatestWorth_26 : decode cX0_greatestWorth 26 = .ok (.iload_n 1, 1) := by decide +kernel
theorem dX0_greatestWorth_27 : decode cX0_greatestWorth 27 = .ok (.bipush 41, 2) := by decide +kernel
theorem dX0_greatestWorth_29 : decode cX0_greatestWorth 29 = .ok (.imul, 1) := by decide +kernel
theorem dX0_greatestWorth_30 : decode cX0_greatestWorth 30 = .ok (.iload_n 2, 1) := by decide +kernel
theorem dX0_greatestWorth_31 : decode cX0_greatestWorth 31 = .ok (.iadd, 1) := by decide +kernel
theorem dX0_greatestWorth_32 : decode cX0_greatestWorth 32 = .ok (.iaload, 1) := by decide +kernel
theorem dX0_greatestWorth_33 : decode cX0_greatestWorth 33 = .ok (.ireturn, 1) := by decide +kernel
theorem dX0_fillAll_0 : decode cX0_fillAll 0 = .ok (.iconst 1, 1) := by decide +kernel
theorem dX0_fillAll_1 : decode cX0_fillAll 1 = .ok (.istore_n 1, 1) := by decide +kernel
theorem dX0_fillAll_2 : decode cX0_fillAll 2 = .ok (.iload_n 1, 1) := by decide +kernel
theorem dX0_fillAll_3 : decode cX0_fillAll 3 = .ok (.bipush 40, 2) := by decide +kernel
theorem dX0_fillAll_5 : decode cX0_fillAll 5 = .ok (.if_icmp .gt 49, 3) := by decide +kernel
theorem dX0_fillAll_8 : decode cX0_fillAll 8 = .ok (.iconst 1, 1) := by decide +kernel
theorem dX0_fillAll_9 : decode cX0_fillAll 9 = .ok (.istore_n 2, 1) := by decide +kernel
theorem dX0_fillAll_10 : decode cX0_fillAll 10 = .ok (.iload_n 2, 1) := by decide +kernel
theorem dX0_fillAll_11 : decode cX0_fillAll 11 = .ok (.bipush 40, 2) := by decide +kernel
theorem dX0_fillAll_13 : decode cX0_fillAll 13 = .ok (.if_icmp .gt 35, 3) := by decide +kernel
theorem dX0_fillAll_16 : decode cX0_fillAll 16 = .ok (.aload_n 0, 1) := by decide +kernel
theorem dX0_fillAll_17 : decode cX0_fillAll 17 = .ok (.getfield 21, 3) := by decide +kernel
theorem dX0_fillAll_20 : decode cX0_fillAll 20 = .ok (.iload_n 1, 1) := by decide +kernel
theorem dX0_fillAll_21 : decode cX0_fillAll 21 = .ok (.bipush 41, 2) := by decide +kernel
theorem dX0_fillAll_23 : decode cX0_fillAll 23 = .ok (.imul, 1) := by decide +kernel
theorem dX0_fillAll_24 : decode cX0_fillAll 24 = .ok (.iload_n 2, 1) := by decide +kernel
theorem dX0_fillAll_25 : decode cX0_fillAll 25 = .ok (.iadd, 1) := by decide +kernel
theorem dX0_fillAll_26 : decode cX0_fillAll 26 = .ok (.aload_n 0, 1) := by decide +kernel
theorem dX0_fillAll_27 : decode cX0_fillAll 27 = .ok (.iload_n 1, 1) := by decide +kernel
theorem dX0_fillAll_28 : decode cX0_fillAll 28 = .ok (.iload_n 2, 1) := by decide +kernel
theorem dX0_fillAll_29 : decode cX0_fillAll 29 = .ok (.invokevirtual 35, 3) := by decide +kernel
theorem dX0_fillAll_32 : decode cX0_fillAll 32 = .ok (.aload_n 0, 1) := by decide +kernel
theorem dX0_fillAll_33 : decode cX0_fillAll 33 = .ok (.iload_n 1, 1) := by decide +kernel
theorem dX0_fillAll_34 : decode cX0_fillAll 34 = .ok (.iload_n 2, 1) := by decide +kernel
theorem dX0_fillAll_35 : decode cX0_fillAll 35 = .ok (.invokevirtual 39, 3) := by decide +kernel
theorem dX0_fillAll_38 : decode cX0_fillAll 38 = .ok (.invokestatic 42, 3) := by decide +kernel
theorem dX0_fillAll_41 : decode cX0_fillAll 41 = .ok (.iastore, 1) := by decide +kernel
theorem dX0_fillAll_42 : decode cX0_fillAll 42 = .ok (.iinc 2 1, 3) := by decide +kernel
theorem dX0_fillAll_45 : decode cX0_fillAll 45 = .ok (.goto (-35), 3) := by decide +kernel
theorem dX0_fillAll_48 : decode cX0_fillAll 48 = .ok (.iinc 1 1, 3) := by decide +kernel
theorem dX0_fillAll_51 : decode cX0_fillAll 51 = .ok (.goto (-49), 3) := by decide +kernel
theorem dX0_fillAll_54 : decode cX0_fillAll 54 = .ok (.return_, 1) := by decide +kernel
theorem dX0_bestKind_0 : decode cX0_bestKind 0 = .ok (.iconst 0, 1) := by decide +kernel
theorem dX0_bestKind_1 : decode cX0_bestKind 1 = .ok (.istore_n 3, 1) := by decide +kernel
theorem dX0_bestKind_2 : decode cX0_bestKind 2 = .ok (.iconst 0, 1) := by decide +kernel
theorem dX0_bestKind_3 : decode cX0_bestKind 3 = .ok (.istore 4, 2) := by decide +kernel
theorem dX0_bestKind_5 : decode cX0_bestKind 5 = .ok (.iload 4, 2) := by decide +kernel
theorem dX0_bestKind_7 : decode cX0_bestKind 7 = .ok (.aload_n 0, 1) := by decide +kernel
theorem dX0_bestKind_8 : decode cX0_bestKind 8 = .ok (.getfield 24, 3) := by decide +kernel
theorem dX0_bestKind_11 : decode cX0_bestKind 11 = .ok (.if_icmp .ge 89, 3) := by decide +kernel
theorem dX0_bestKind_14 : decode cX0_bestKind 14 = .ok (.aload_n 0, 1) := by decide +kernel
theorem dX0_bestKind_15 : decode cX0_bestKind 15 = .ok (.getfield 11, 3) := by decide +kernel
theorem dX0_bestKind_18 : decode cX0_bestKind 18 = .ok (.iload 4, 2) := by decide +kernel
theorem dX0_bestKind_20 : decode cX0_bestKind 20 = .ok (.iaload, 1) := by decide +kernel
theorem dX0_bestKind_21 : decode cX0_bestKind 21 = .ok (.iload_n 1, 1) := by decide +kernel
theorem dX0_bestKind_22 : decode cX0_bestKind 22 = .ok (.if_icmp .ne 18, 3) := by decide +kernel
theorem dX0_bestKind_25 : decode cX0_bestKind 25 = .ok (.aload_n 0, 1) := by decide +kernel
theorem dX0_bestKind_26 : decode cX0_bestKind 26 = .ok (.getfield 15, 3) := by decide +kernel
theorem dX0_bestKind_29 : decode cX0_bestKind 29 = .ok (.iload 4, 2) := by decide +kernel
theorem dX0_bestKind_31 : decode cX0_bestKind 31 = .ok (.iaload, 1) := by decide +kernel
theorem dX0_bestKind_32 : decode cX0_bestKind 32 = .ok (.iload_n 2, 1) := by decide +kernel
theorem dX0_bestKind_33 : decode cX0_bestKind 33 = .ok (.if_icmp .ne 7, 3) := by decide +kernel
theorem dX0_bestKind_36 : decode cX0_bestKind 36 = .ok (.iconst 1, 1) := by decide +kernel
theorem dX0_bestKind_37 : decode cX0_bestKind 37 = .ok (.goto 4, 3) := by decide +kernel
theorem dX0_bestKind_40 : decode cX0_bestKind 40 = .ok (.iconst 0, 1) := by decide +kernel
theorem dX0_bestKind_41 : decode cX0_bestKind 41 = .ok (.istore 5, 2) := by decide +kernel
theorem dX0_bestKind_43 : decode cX0_bestKind 43 = .ok (.aload_n 0, 1) := by decide +kernel
theorem dX0_bestKind_44 : decode cX0_bestKind 44 = .ok (.getfield 11, 3) := by decide +kernel
theorem dX0_bestKind_47 : decode cX0_bestKind 47 = .ok (.iload 4, 2) := by decide +kernel
theorem dX0_bestKind_49 : decode cX0_bestKind 49 = .ok (.iaload, 1) := by decide +kernel
theorem dX0_bestKind_50 : decode cX0_bestKind 50 = .ok (.iload_n 2, 1) := by decide +kernel
theorem dX0_bestKind_51 : decode cX0_bestKind 51 = .ok (.if_icmp .ne 18, 3) := by decide +kernel
theorem dX0_bestKind_54 : decode cX0_bestKind 54 = .ok (.aload_n 0, 1) := by decide +kernel
theorem dX0_bestKind_55 : decode cX0_bestKind 55 = .ok (.getfield 15, 3) := by decide +kernel
theorem dX0_bestKind_58 : decode cX0_bestKind 58 = .ok (.iload 4, 2) := by decide +kernel
theorem dX0_bestKind_60 : decode cX0_bestKind 60 = .ok (.iaload, 1) := by decide +kernel
theorem dX0_bestKind_61 : decode cX0_bestKind 61 = .ok (.iload_n 1, 1) := by decide +kernel
theorem dX0_bestKind_62 : decode cX0_bestKind 62 = .ok (.if_icmp .ne 7, 3) := by decide +kernel
theorem dX0_bestKind_65 : decode cX0_bestKind 65 = .ok (.iconst 1, 1) := by decide +kernel
theorem dX0_bestKind_66 : decode cX0_bestKind 66 = .ok (.goto 4, 3) := by decide +kernel
theorem dX0_bestKind_69 : decode cX0_bestKind 69 = .ok (.iconst 0, 1) := by decide +kernel
theorem dX0_bestKind_70 : decode cX0_bestKind 70 = .ok (.istore 6, 2) := by decide +kernel
theorem dX0_bestKind_72 : decode cX0_bestKind 72 = .ok (.iload 5, 2) := by decide +kernel
theorem dX0_bestKind_74 : decode cX0_bestKind 74 = .ok (.ifCond .ne 8, 3) := by decide +kernel
theorem dX0_bestKind_77 : decode cX0_bestKind 77 = .ok (.iload 6, 2) := by decide +kernel
theorem dX0_bestKind_79 : decode cX0_bestKind 79 = .ok (.ifCond .eq 15, 3) := by decide +kernel
theorem dX0_bestKind_82 : decode cX0_bestKind 82 = .ok (.iload_n 3, 1) := by decide +kernel
theorem dX0_bestKind_83 : decode cX0_bestKind 83 = .ok (.aload_n 0, 1) := by decide +kernel
theorem dX0_bestKind_84 : decode cX0_bestKind 84 = .ok (.getfield 18, 3) := by decide +kernel
theorem dX0_bestKind_87 : decode cX0_bestKind 87 = .ok (.iload 4, 2) := by decide +kernel
theorem dX0_bestKind_89 : decode cX0_bestKind 89 = .ok (.iaload, 1) := by decide +kernel
theorem dX0_bestKind_90 : decode cX0_bestKind 90 = .ok (.invokestatic 42, 3) := by decide +kernel
theorem dX0_bestKind_93 : decode cX0_bestKind 93 = .ok (.istore_n 3, 1) := by decide +kernel
theorem dX0_bestKind_94 : decode cX0_bestKind 94 = .ok (.iinc 4 1, 3) := by decide +kernel
theorem dX0_bestKind_97 : decode cX0_bestKind 97 = .ok (.goto (-92), 3) := by decide +kernel
theorem dX0_bestKind_100 : decode cX0_bestKind 100 = .ok (.iload_n 3, 1) := by decide +kernel
theorem dX0_bestKind_101 : decode cX0_bestKind 101 = .ok (.ireturn, 1) := by decide +kernel
theorem dX0_bestCut_0 : decode cX0_bestCut 0 = .ok (.iconst 0, 1) := by decide +kernel
theorem dX0_bestCut_1 : decode cX0_bestCut 1 = .ok (.istore_n 3, 1) := by decide +kernel
theorem dX0_bestCut_2 : decode cX0_bestCut 2 = .ok (.iconst 1, 1) := by decide +kernel
theorem dX0_bestCut_3 : decode cX0_bestCut 3 = .ok (.istore 4, 2) := by decide +kernel
theorem dX0_bestCut_5 : decode cX0_bestCut 5 = .ok (.iload 4, 2) := by decide +kernel
theorem dX0_bestCut_7 : decode cX0_bestCut 7 = .ok (.iload_n 1, 1) := by decide +kernel
theorem dX0_bestCut_8 : decode cX0_bestCut 8 = .ok (.iconst 2, 1) := by decide +kernel
theorem dX0_bestCut_9 : decode cX0_bestCut 9 = .ok (.idiv, 1) := by decide +kernel
theorem dX0_bestCut_10 : decode cX0_bestCut 10 = .ok (.if_icmp .gt 41, 3) := by decide +kernel
theorem dX0_bestCut_13 : decode cX0_bestCut 13 = .ok (.iload_n 3, 1) := by decide +kernel
theorem dX0_bestCut_14 : decode cX0_bestCut 14 = .ok (.aload_n 0, 1) := by decide +kernel
theorem dX0_bestCut_15 : decode cX0_bestCut 15 = .ok (.getfield 21, 3) := by decide +kernel
theorem dX0_bestCut_18 : decode cX0_bestCut 18 = .ok (.iload 4, 2) := by decide +kernel
theorem dX0_bestCut_20 : decode cX0_bestCut 20 = .ok (.bipush 41, 2) := by decide +kernel
theorem dX0_bestCut_22 : decode cX0_bestCut 22 = .ok (.imul, 1) := by decide +kernel
theorem dX0_bestCut_23 : decode cX0_bestCut 23 = .ok (.iload_n 2, 1) := by decide +kernel
theorem dX0_bestCut_24 : decode cX0_bestCut 24 = .ok (.iadd, 1) := by decide +kernel
theorem dX0_bestCut_25 : decode cX0_bestCut 25 = .ok (.iaload, 1) := by decide +kernel
theorem dX0_bestCut_26 : decode cX0_bestCut 26 = .ok (.aload_n 0, 1) := by decide +kernel
theorem dX0_bestCut_27 : decode cX0_bestCut 27 = .ok (.getfield 21, 3) := by decide +kernel
theorem dX0_bestCut_30 : decode cX0_bestCut 30 = .ok (.iload_n 1, 1) := by decide +kernel
theorem dX0_bestCut_31 : decode cX0_bestCut 31 = .ok (.iload 4, 2) := by decide +kernel
theorem dX0_bestCut_33 : decode cX0_bestCut 33 = .ok (.isub, 1) := by decide +kernel
theorem dX0_bestCut_34 : decode cX0_bestCut 34 = .ok (.bipush 41, 2) := by decide +kernel
theorem dX0_bestCut_36 : decode cX0_bestCut 36 = .ok (.imul, 1) := by decide +kernel
theorem dX0_bestCut_37 : decode cX0_bestCut 37 = .ok (.iload_n 2, 1) := by decide +kernel
theorem dX0_bestCut_38 : decode cX0_bestCut 38 = .ok (.iadd, 1) := by decide +kernel
theorem dX0_bestCut_39 : decode cX0_bestCut 39 = .ok (.iaload, 1) := by decide +kernel
theorem dX0_bestCut_40 : decode cX0_bestCut 40 = .ok (.iadd, 1) := by decide +kernel
theorem dX0_bestCut_41 : decode cX0_bestCut 41 = .ok (.invokestatic 42, 3) := by decide +kernel
theorem dX0_bestCut_44 : decode cX0_bestCut 44 = .ok (.istore_n 3, 1) := by decide +kernel
theorem dX0_bestCut_45 : decode cX0_bestCut 45 = .ok (.iinc 4 1, 3) := by decide +kernel
theorem dX0_bestCut_48 : decode cX0_bestCut 48 = .ok (.goto (-43), 3) := by decide +kernel
theorem dX0_bestCut_51 : decode cX0_bestCut 51 = .ok (.iconst 1, 1) := by decide +kernel
theorem dX0_bestCut_52 : decode cX0_bestCut 52 = .ok (.istore 4, 2) := by decide +kernel
theorem dX0_bestCut_54 : decode cX0_bestCut 54 = .ok (.iload 4, 2) := by decide +kernel
theorem dX0_bestCut_56 : decode cX0_bestCut 56 = .ok (.iload_n 2, 1) := by decide +kernel
theorem dX0_bestCut_57 : decode cX0_bestCut 57 = .ok (.iconst 2, 1) := by decide +kernel
theorem dX0_bestCut_58 : decode cX0_bestCut 58 = .ok (.idiv, 1) := by decide +kernel
theorem dX0_bestCut_59 : decode cX0_bestCut 59 = .ok (.if_icmp .gt 41, 3) := by decide +kernel
theorem dX0_bestCut_62 : decode cX0_bestCut 62 = .ok (.iload_n 3, 1) := by decide +kernel
theorem dX0_bestCut_63 : decode cX0_bestCut 63 = .ok (.aload_n 0, 1) := by decide +kernel
theorem dX0_bestCut_64 : decode cX0_bestCut 64 = .ok (.getfield 21, 3) := by decide +kernel
theorem dX0_bestCut_67 : decode cX0_bestCut 67 = .ok (.iload_n 1, 1) := by decide +kernel
theorem dX0_bestCut_68 : decode cX0_bestCut 68 = .ok (.bipush 41, 2) := by decide +kernel
theorem dX0_bestCut_70 : decode cX0_bestCut 70 = .ok (.imul, 1) := by decide +kernel
theorem dX0_bestCut_71 : decode cX0_bestCut 71 = .ok (.iload 4, 2) := by decide +kernel
theorem dX0_bestCut_73 : decode cX0_bestCut 73 = .ok (.iadd, 1) := by decide +kernel
theorem dX0_bestCut_74 : decode cX0_bestCut 74 = .ok (.iaload, 1) := by decide +kernel
theorem dX0_bestCut_75 : decode cX0_bestCut 75 = .ok (.aload_n 0, 1) := by decide +kernel
theorem dX0_bestCut_76 : decode cX0_bestCut 76 = .ok (.getfield 21, 3) := by decide +kernel
theorem dX0_bestCut_79 : decode cX0_bestCut 79 = .ok (.iload_n 1, 1) := by decide +kernel
theorem dX0_bestCut_80 : decode cX0_bestCut 80 = .ok (.bipush 41, 2) := by decide +kernel
theorem dX0_bestCut_82 : decode cX0_bestCut 82 = .ok (.imul, 1) := by decide +kernel
theorem dX0_bestCut_83 : decode cX0_bestCut 83 = .ok (.iload_n 2, 1) := by decide +kernel
theorem dX0_bestCut_84 : decode cX0_bestCut 84 = .ok (.iadd, 1) := by decide +kernel
theorem dX0_bestCut_85 : decode cX0_bestCut 85 = .ok (.iload 4, 2) := by decide +kernel
theorem dX0_bestCut_87 : decode cX0_bestCut 87 = .ok (.isub, 1) := by decide +kernel
theorem dX0_bestCut_88 : decode cX0_bestCut 88 = .ok (.iaload, 1) := by decide +kernel
theorem dX0_bestCut_89 : decode cX0_bestCut 89 = .ok (.iadd, 1) := by decide +kernel
theorem dX0_bestCut_90 : decode cX0_bestCut 90 = .ok (.invokestatic 42, 3) := by decide +kernel
theorem dX0_bestCut_93 : decode cX0_bestCut 93 = .ok (.istore_n 3, 1) := by decide +kernel
theorem dX0_bestCut_94 : decode cX0_bestCut 94 = .ok (.iinc 4 1, 3) := by decide +kernel
theorem dX0_bestCut_97 : decode cX0_bestCut 97 = .ok (.goto (-43), 3) := by decide +kernel
theorem dX0_bestCut_100 : decode cX0_bestCut 100 = .ok (.iload_n 3, 1) := by decide +kernel
theorem dX0_bestCut_101 : decode cX0_bestCut 101 = .ok (.ireturn, 1) := by decide +kernel
theorem dX1_init_0 : decode cX1_init 0 = .ok (.aload_n 0, 1) := by decide +kernel
theorem dX1_init_1 : decode cX1_init 1 = .ok (.invokespecial 1, 3) := by decide +kernel
theorem dX1_init_4 : decode cX1_init 4 = .ok (.aload_n 0, 1) := by decide +kernel
theorem dX1_init_5 : decode cX1_init 5 = .ok (.iconst 0, 1) := by decide +kernel
theorem dX1_init_6 : decode cX1_init 6 = .ok (.putfield 7, 3) := by decide +kernel
theorem dX1_init_9 : decode cX1_init 9 = .ok (.aload_n 0, 1) := by decide +kernel
theorem dX1_init_10 : decode cX1_init 10 = .ok (.iconst 0, 1) := by decide +kernel
theorem dX1_init_11 : decode cX1_init 11 = .ok (.putfield 13, 3) := by decide +kernel
theorem dX1_init_14 : decode cX1_init 14 = .ok (.aload_n 0, 1) := by decide +kernel
theorem dX1_init_15 : decode cX1_init 15 = .ok (.iconst 0, 1) := by decide +kernel
theorem dX1_init_16 : decode cX1_init 16 = .ok (.putfield 16, 3) := by decide +kernel
theorem dX1_init_19 : decode cX1_init 19 = .ok (.aload_n 0, 1) := by decide +kernel
theorem dX1_init_20 : decode cX1_init 20 = .ok (.iconst 5, 1) := by decide +kernel
theorem dX1_init_21 : decode cX1_init 21 = .ok (.putfield 20, 3) := by decide +kernel
theorem dX1_init_24 : decode cX1_init 24 = .ok (.aload_n 0, 1) := by decide +kernel
theorem dX1_init_25 : decode cX1_init 25 = .ok (.iconst 0, 1) := by decide +kernel
theorem dX1_init_26 : decode cX1_init 26 = .ok (.putfield 23, 3) := by decide +kernel
theorem dX1_init_29 : decode cX1_init 29 = .ok (.return_, 1) := by decide +kernel
theorem dX1_renew_0 : decode cX1_renew 0 = .ok (.aload_n 0, 1) := by decide +kernel
theorem dX1_renew_1 : decode cX1_renew 1 = .ok (.iconst 0, 1) := by decide +kernel
theorem dX1_renew_2 : decode cX1_renew 2 = .ok (.putfield 7, 3) := by decide +kernel
theorem dX1_renew_5 : decode cX1_renew 5 = .ok (.aload_n 0, 1) := by decide +kernel
theorem dX1_renew_6 : decode cX1_renew 6 = .ok (.iconst 0, 1) := by decide +kernel
theorem dX1_renew_7 : decode cX1_renew 7 = .ok (.putfield 13, 3) := by decide +kernel
theorem dX1_renew_10 : decode cX1_renew 10 = .ok (.aload_n 0, 1) := by decide +kernel
theorem dX1_renew_11 : decode cX1_renew 11 = .ok (.iconst 0, 1) := by decide +kernel
theorem dX1_renew_12 : decode cX1_renew 12 = .ok (.putfield 16, 3) := by decide +kernel
theorem dX1_renew_15 : decode cX1_renew 15 = .ok (.aload_n 0, 1) := by decide +kernel
theorem dX1_renew_16 : decode cX1_renew 16 = .ok (.iconst 5, 1) := by decide +kernel
theorem dX1_renew_17 : decode cX1_renew 17 = .ok (.putfield 20, 3) := by decide +kernel
theorem dX1_renew_20 : decode cX1_renew 20 = .ok (.aload_n 0, 1) := by decide +kernel
theorem dX1_renew_21 : decode cX1_renew 21 = .ok (.iconst 0, 1) := by decide +kernel
theorem dX1_renew_22 : decode cX1_renew 22 = .ok (.putfield 23, 3) := by decide +kernel
theorem dX1_renew_25 : decode cX1_renew 25 = .ok (.return_, 1) := by decide +kernel
theorem dX2_init_0 : decode cX2_init 0 = .ok (.aload_n 0, 1) := by decide +kernel
theorem dX2_init_1 : decode cX2_init 1 = .ok (.invokespecial 1, 3) := by decide +kernel
theorem dX2_init_4 : decode cX2_init 4 = .ok (.aload_n 0, 1) := by decide +kernel
theorem dX2_init_5 : decode cX2_init 5 = .ok (.sipush 192, 3) := by decide +kernel
theorem dX2_init_8 : decode cX2_init 8 = .ok (.newarray .int, 2) := by decide +kernel
theorem dX2_init_10 : decode cX2_init 10 = .ok (.putfield 9, 3) := by decide +kernel
theorem dX2_init_13 : decode cX2_init 13 = .ok (.aload_n 0, 1) := by decide +kernel
theorem dX2_init_14 : decode cX2_init 14 = .ok (.sipush 192, 3) := by decide +kernel
theorem dX2_init_17 : decode cX2_init 17 = .ok (.newarray .int, 2) := by decide +kernel
theorem dX2_init_19 : decode cX2_init 19 = .ok (.putfield 15, 3) := by decide +kernel
theorem dX2_init_22 : decode cX2_init 22 = .ok (.aload_n 0, 1) := by decide +kernel
theorem dX2_init_23 : decode cX2_init 23 = .ok (.iconst 0, 1) := by decide +kernel
theorem dX2_init_24 : decode cX2_init 24 = .ok (.putfield 18, 3) := by decide +kernel
theorem dX2_init_27 : decode cX2_init 27 = .ok (.aload_n 0, 1) := by decide +kernel
theorem dX2_init_28 : decode cX2_init 28 = .ok (.iconst 0, 1) := by decide +kernel
theorem dX2_init_29 : decode cX2_init 29 = .ok (.putfield 22, 3) := by decide +kernel
theorem dX2_init_32 : decode cX2_init 32 = .ok (.aload_n 0, 1) := by decide +kernel
theorem dX2_init_33 : decode cX2_init 33 = .ok (.iconst 0, 1) := by decide +kernel
theorem dX2_init_34 : decode cX2_init 34 = .ok (.putfield 25, 3) := by decide +kernel
theorem dX2_init_37 : decode cX2_init 37 = .ok (.return_, 1) := by decide +kernel
theorem dX3_init_0 : decode cX3_init 0 = .ok (.aload_n 0, 1) := by decide +kernel
theorem dX3_init_1 : decode cX3_init 1 = .ok (.invokespecial 5, 3) := by decide +kernel
theorem dX3_init_4 : decode cX3_init 4 = .ok (.aload_n 0, 1) := by decide +kernel
theorem dX3_init_5 : decode cX3_init 5 = .ok (.iconst 0, 1) := by decide +kernel
theorem dX3_init_6 : decode cX3_init 6 = .ok (.putfield 11, 3) := by decide +kernel
theorem dX3_init_9 : decode cX3_init 9 = .ok (.aload_n 0, 1) := by decide +kernel
theorem dX3_init_10 : decode cX3_init 10 = .ok (.iconst 0, 1) := by decide +kernel
theorem dX3_init_11 : decode cX3_init 11 = .ok (.putfield 15, 3) := by decide +kernel
theorem dX3_init_14 : decode cX3_init 14 = .ok (.aload_n 0, 1) := by decide +kernel
theorem dX3_init_15 : decode cX3_init 15 = .ok (.iconst 0, 1) := by decide +kernel
theorem dX3_init_16 : decode cX3_init 16 = .ok (.putfield 18, 3) := by decide +kernel
theorem dX3_init_19 : decode cX3_init 19 = .ok (.aload_n 0, 1) := by decide +kernel
theorem dX3_init_20 : decode cX3_init 20 = .ok (.iconst 0, 1) := by decide +kernel
theorem dX3_init_21 : decode cX3_init 21 = .ok (.putfield 21, 3) := by decide +kernel
theorem dX3_init_24 : decode cX3_init 24 = .ok (.aload_n 0, 1) := by decide +kernel
theorem dX3_init_25 : decode cX3_init 25 = .ok (.iconst 1, 1) := by decide +kernel
theorem dX3_init_26 : decode cX3_init 26 = .ok (.putfield 24, 3) := by decide +kernel
theorem dX3_init_29 : decode cX3_init 29 = .ok (.aload_n 0, 1) := by decide +kernel
theorem dX3_init_30 : decode cX3_init 30 = .ok (.iconst 0, 1) := by decide +kernel
theorem dX3_init_31 : decode cX3_init 31 = .ok (.putfield 27, 3) := by decide +kernel
theorem dX3_init_34 : decode cX3_init 34 = .ok (.aload_n 0, 1) := by decide +kernel
theorem dX3_init_35 : decode cX3_init 35 = .ok (.iconst 0, 1) := by decide +kernel
theorem dX3_init_36 : decode cX3_init 36 = .ok (.putfield 30, 3) := by decide +kernel
theorem dX3_init_39 : decode cX3_init 39 = .ok (.aload_n 0, 1) := by decide +kernel
theorem dX3_init_40 : decode cX3_init 40 = .ok (.lconst 0, 1) := by decide +kernel
theorem dX3_init_41 : decode cX3_init 41 = .ok (.putfield 33, 3) := by decide +kernel
theorem dX3_init_44 : decode cX3_init 44 = .ok (.aload_n 0, 1) := by decide +kernel
theorem dX3_init_45 : decode cX3_init 45 = .ok (.lconst 0, 1) := by decide +kernel
theorem dX3_init_46 : decode cX3_init 46 = .ok (.putfield 37, 3) := by decide +kernel
theorem dX3_init_49 : decode cX3_init 49 = .ok (.aload_n 0, 1) := by decide +kernel
theorem dX3_init_50 : decode cX3_init 50 = .ok (.lconst 0, 1) := by decide +kernel
theorem dX3_init_51 : decode cX3_init 51 = .ok (.putfield 40, 3) := by decide +kernel
theorem dX3_init_54 : decode cX3_init 54 = .ok (.aload_n 0, 1) := by decide +kernel
theorem dX3_init_55 : decode cX3_init 55 = .ok (.new 43, 3) := by decide +kernel
theorem dX3_init_58 : decode cX3_init 58 = .ok (.dup, 1) := by decide +kernel
theorem dX3_init_59 : decode cX3_init 59 = .ok (.invokespecial 45, 3) := by decide +kernel
theorem dX3_init_62 : decode cX3_init 62 = .ok (.putfield 46, 3) := by decide +kernel
theorem dX3_init_65 : decode cX3_init 65 = .ok (.aload_n 0, 1) := by decide +kernel
theorem dX3_init_66 : decode cX3_init 66 = .ok (.sipush 192, 3) := by decide +kernel
theorem dX3_init_69 : decode cX3_init 69 = .ok (.newarray .int, 2) := by decide +kernel
theorem dX3_init_71 : decode cX3_init 71 = .ok (.putfield 50, 3) := by decide +kernel
theorem dX3_init_74 : decode cX3_init 74 = .ok (.aload_n 0, 1) := by decide +kernel
theorem dX3_init_75 : decode cX3_init 75 = .ok (.sipush 192, 3) := by decide +kernel
theorem dX3_init_78 : decode cX3_init 78 = .ok (.newarray .int, 2) := by decide +kernel
theorem dX3_init_80 : decode cX3_init 80 = .ok (.putfield 54, 3) := by decide +kernel
theorem dX3_init_83 : decode cX3_init 83 = .ok (.aload_n 0, 1) := by decide +kernel
theorem dX3_init_84 : decode cX3_init 84 = .ok (.sipush 192, 3) := by decide +kernel
theorem dX3_init_87 : decode cX3_init 87 = .ok (.newarray .int, 2) := by decide +kernel
theorem dX3_init_89 : decode cX3_init 89 = .ok (.putfield 57, 3) := by decide +kernel
theorem dX3_init_92 : decode cX3_init 92 = .ok (.aload_n 0, 1) := by decide +kernel
theorem dX3_init_93 : decode cX3_init 93 = .ok (.sipush 192, 3) := by decide +kernel
theorem dX3_init_96 : decode cX3_init 96 = .ok (.newarray .int, 2) := by decide +kernel
theorem dX3_init_98 : decode cX3_init 98 = .ok (.putfield 60, 3) := by decide +kernel
theorem dX3_init_101 : decode cX3_init 101 = .ok (.aload_n 0, 1) := by decide +kernel
theorem dX3_init_102 : decode cX3_init 102 = .ok (.sipush 192, 3) := by decide +kernel
theorem dX3_init_105 : decode cX3_init 105 = .ok (.newarray .int, 2) := by decide +kernel
theorem dX3_init_107 : decode cX3_init 107 = .ok (.putfield 63, 3) := by decide +kernel
theorem dX3_init_110 : decode cX3_init 110 = .ok (.aload_n 0, 1) := by decide +kernel
theorem dX3_init_111 : decode cX3_init 111 = .ok (.sipush 192, 3) := by decide +kernel
theorem dX3_init_114 : decode cX3_init 114 = .ok (.newarray .int, 2) := by decide +kernel
theorem dX3_init_116 : decode cX3_init 116 = .ok (.putfield 66, 3) := by decide +kernel
theorem dX3_init_119 : decode cX3_init 119 = .ok (.aload_n 0, 1) := by decide +kernel
theorem dX3_init_120 : decode cX3_init 120 = .ok (.new 69, 3) := by decide +kernel
theorem dX3_init_123 : decode cX3_init 123 = .ok (.dup, 1) := by decide +kernel
theorem dX3_init_124 : decode cX3_init 124 = .ok (.invokespecial 71, 3) := by decide +kernel
theorem dX3_init_127 : decode cX3_init 127 = .ok (.putfield 72, 3) := by decide +kernel
theorem dX3_init_130 : decode cX3_init 130 = .ok (.return_, 1) := by decide +kernel
theorem dX3_renew_0 : decode cX3_renew 0 = .ok (.aload_n 0, 1) := by decide +kernel
theorem dX3_renew_1 : decode cX3_renew 1 = .ok (.iload_n 1, 1) := by decide +kernel
theorem dX3_renew_2 : decode cX3_renew 2 = .ok (.putfield 11, 3) := by decide +kernel
theorem dX3_renew_5 : decode cX3_renew 5 = .ok (.aload_n 0, 1) := by decide +kernel
theorem dX3_renew_6 : decode cX3_renew 6 = .ok (.iload_n 2, 1) := by decide +kernel
theorem dX3_renew_7 : decode cX3_renew 7 = .ok (.putfield 15, 3) := by decide +kernel
theorem dX3_renew_10 : decode cX3_renew 10 = .ok (.aload_n 0, 1) := by decide +kernel
theorem dX3_renew_11 : decode cX3_renew 11 = .ok (.iload_n 1, 1) := by decide +kernel
theorem dX3_renew_12 : decode cX3_renew 12 = .ok (.iload_n 2, 1) := by decide +kernel
theorem dX3_renew_13 : decode cX3_renew 13 = .ok (.imul, 1) := by decide +kernel
theorem dX3_renew_14 : decode cX3_renew 14 = .ok (.sipush 192, 3) := by decide +kernel
theorem dX3_renew_17 : decode cX3_renew 17 = .ok (.invokestatic 76, 3) := by decide +kernel
theorem dX3_renew_20 : decode cX3_renew 20 = .ok (.putfield 18, 3) := by decide +kernel
theorem dX3_renew_23 : decode cX3_renew 23 = .ok (.aload_n 0, 1) := by decide +kernel
theorem dX3_renew_24 : decode cX3_renew 24 = .ok (.iload_n 3, 1) := by decide +kernel
theorem dX3_renew_25 : decode cX3_renew 25 = .ok (.putfield 21, 3) := by decide +kernel
theorem dX3_renew_28 : decode cX3_renew 28 = .ok (.aload_n 0, 1) := by decide +kernel
theorem dX3_renew_29 : decode cX3_renew 29 = .ok (.iload 4, 2) := by decide +kernel
theorem dX3_renew_31 : decode cX3_renew 31 = .ok (.putfield 24, 3) := by decide +kernel
theorem dX3_renew_34 : decode cX3_renew 34 = .ok (.aload_n 0, 1) := by decide +kernel
theorem dX3_renew_35 : decode cX3_renew 35 = .ok (.iconst 0, 1) := by decide +kernel
theorem dX3_renew_36 : decode cX3_renew 36 = .ok (.putfield 27, 3) := by decide +kernel
theorem dX3_renew_39 : decode cX3_renew 39 = .ok (.aload_n 0, 1) := by decide +kernel
theorem dX3_renew_40 : decode cX3_renew 40 = .ok (.iconst 0, 1) := by decide +kernel
theorem dX3_renew_41 : decode cX3_renew 41 = .ok (.putfield 30, 3) := by decide +kernel
theorem dX3_renew_44 : decode cX3_renew 44 = .ok (.aload_n 0, 1) := by decide +kernel
theorem dX3_renew_45 : decode cX3_renew 45 = .ok (.lconst 0, 1) := by decide +kernel
theorem dX3_renew_46 : decode cX3_renew 46 = .ok (.putfield 33, 3) := by decide +kernel
theorem dX3_renew_49 : decode cX3_renew 49 = .ok (.aload_n 0, 1) := by decide +kernel
theorem dX3_renew_50 : decode cX3_renew 50 = .ok (.lconst 0, 1) := by decide +kernel
theorem dX3_renew_51 : decode cX3_renew 51 = .ok (.putfield 37, 3) := by decide +kernel
theorem dX3_renew_54 : decode cX3_renew 54 = .ok (.aload_n 0, 1) := by decide +kernel
theorem dX3_renew_55 : decode cX3_renew 55 = .ok (.lconst 0, 1) := by decide +kernel
theorem dX3_renew_56 : decode cX3_renew 56 = .ok (.putfield 40, 3) := by decide +kernel
theorem dX3_renew_59 : decode cX3_renew 59 = .ok (.aload_n 0, 1) := by decide +kernel
theorem dX3_renew_60 : decode cX3_renew 60 = .ok (.getfield 46, 3) := by decide +kernel
theorem dX3_renew_63 : decode cX3_renew 63 = .ok (.invokevirtual 82, 3) := by decide +kernel
theorem dX3_renew_66 : decode cX3_renew 66 = .ok (.aload_n 0, 1) := by decide +kernel
theorem dX3_renew_67 : decode cX3_renew 67 = .ok (.getfield 50, 3) := by decide +kernel
theorem dX3_renew_70 : decode cX3_renew 70 = .ok (.iconst 0, 1) := by decide +kernel
theorem dX3_renew_71 : decode cX3_renew 71 = .ok (.invokestatic 85, 3) := by decide +kernel
theorem dX3_renew_74 : decode cX3_renew 74 = .ok (.aload_n 0, 1) := by decide +kernel
theorem dX3_renew_75 : decode cX3_renew 75 = .ok (.getfield 54, 3) := by decide +kernel
theorem dX3_renew_78 : decode cX3_renew 78 = .ok (.iconst 0, 1) := by decide +kernel
theorem dX3_renew_79 : decode cX3_renew 79 = .ok (.invokestatic 85, 3) := by decide +kernel
theorem dX3_renew_82 : decode cX3_renew 82 = .ok (.aload_n 0, 1) := by decide +kernel
theorem dX3_renew_83 : decode cX3_renew 83 = .ok (.getfield 57, 3) := by decide +kernel
theorem dX3_renew_86 : decode cX3_renew 86 = .ok (.iconst 0, 1) := by decide +kernel
theorem dX3_renew_87 : decode cX3_renew 87 = .ok (.invokestatic 85, 3) := by decide +kernel
theorem dX3_renew_90 : decode cX3_renew 90 = .ok (.aload_n 0, 1) := by decide +kernel
theorem dX3_renew_91 : decode cX3_renew 91 = .ok (.getfield 60, 3) := by decide +kernel
theorem dX3_renew_94 : decode cX3_renew 94 = .ok (.iconst 0, 1) := by decide +kernel
theorem dX3_renew_95 : decode cX3_renew 95 = .ok (.invokestatic 85, 3) := by decide +kernel
theorem dX3_renew_98 : decode cX3_renew 98 = .ok (.return_, 1) := by decide +kernel
theorem dX3_isLaid_0 : decode cX3_isLaid 0 = .ok (.aload_n 0, 1) := by decide +kernel
theorem dX3_isLaid_1 : decode cX3_isLaid 1 = .ok (.getfield 18, 3) := by decide +kernel
theorem dX3_isLaid_4 : decode cX3_isLaid 4 = .ok (.ifCond .le 7, 3) := by decide +kernel
theorem dX3_isLaid_7 : decode cX3_isLaid 7 = .ok (.iconst 1, 1) := by decide +kernel
theorem dX3_isLaid_8 : decode cX3_isLaid 8 = .ok (.goto 4, 3) := by decide +kernel
theorem dX3_isLaid_11 : decode cX3_isLaid 11 = .ok (.iconst 0, 1) := by decide +kernel
theorem dX3_isLaid_12 : decode cX3_isLaid 12 = .ok (.ireturn, 1) := by decide +kernel
theorem dX3_has_0 : decode cX3_has 0 = .ok (.iload_n 1, 1) := by decide +kernel
theorem dX3_has_1 : decode cX3_has 1 = .ok (.ifCond .lt 27, 3) := by decide +kernel
theorem dX3_has_4 : decode cX3_has 4 = .ok (.iload_n 1, 1) := by decide +kernel
theorem dX3_has_5 : decode cX3_has 5 = .ok (.aload_n 0, 1) := by decide +kernel
theorem dX3_has_6 : decode cX3_has 6 = .ok (.getfield 11, 3) := by decide +kernel
theorem dX3_has_9 : decode cX3_has 9 = .ok (.if_icmp .ge 19, 3) := by decide +kernel
theorem dX3_has_12 : decode cX3_has 12 = .ok (.iload_n 2, 1) := by decide +kernel
theorem dX3_has_13 : decode cX3_has 13 = .ok (.ifCond .lt 15, 3) := by decide +kernel
theorem dX3_has_16 : decode cX3_has 16 = .ok (.iload_n 2, 1) := by decide +kernel
theorem dX3_has_17 : decode cX3_has 17 = .ok (.aload_n 0, 1) := by decide +kernel
theorem dX3_has_18 : decode cX3_has 18 = .ok (.getfield 15, 3) := by decide +kernel
theorem dX3_has_21 : decode cX3_has 21 = .ok (.if_icmp .ge 7, 3) := by decide +kernel
theorem dX3_has_24 : decode cX3_has 24 = .ok (.iconst 1, 1) := by decide +kernel
theorem dX3_has_25 : decode cX3_has 25 = .ok (.goto 4, 3) := by decide +kernel
theorem dX3_has_28 : decode cX3_has 28 = .ok (.iconst 0, 1) := by decide +kernel
theorem dX3_has_29 : decode cX3_has 29 = .ok (.ireturn, 1) := by decide +kernel
theorem dX3_heatInAll_0 : decode cX3_heatInAll 0 = .ok (.lconst 0, 1) := by decide +kernel
theorem dX3_heatInAll_1 : decode cX3_heatInAll 1 = .ok (.lstore_n 1, 1) := by decide +kernel
theorem dX3_heatInAll_2 : decode cX3_heatInAll 2 = .ok (.iconst 0, 1) := by decide +kernel
theorem dX3_heatInAll_3 : decode cX3_heatInAll 3 = .ok (.istore_n 3, 1) := by decide +kernel
theorem dX3_heatInAll_4 : decode cX3_heatInAll 4 = .ok (.iload_n 3, 1) := by decide +kernel
theorem dX3_heatInAll_5 : decode cX3_heatInAll 5 = .ok (.aload_n 0, 1) := by decide +kernel
theorem dX3_heatInAll_6 : decode cX3_heatInAll 6 = .ok (.getfield 18, 3) := by decide +kernel
theorem dX3_heatInAll_9 : decode cX3_heatInAll 9 = .ok (.if_icmp .ge 19, 3) := by decide +kernel
theorem dX3_heatInAll_12 : decode cX3_heatInAll 12 = .ok (.lload_n 1, 1) := by decide +kernel
theorem dX3_heatInAll_13 : decode cX3_heatInAll 13 = .ok (.aload_n 0, 1) := by decide +kernel
theorem dX3_heatInAll_14 : decode cX3_heatInAll 14 = .ok (.getfield 50, 3) := by decide +kernel
theorem dX3_heatInAll_17 : decode cX3_heatInAll 17 = .ok (.iload_n 3, 1) := by decide +kernel
theorem dX3_heatInAll_18 : decode cX3_heatInAll 18 = .ok (.iaload, 1) := by decide +kernel
theorem dX3_heatInAll_19 : decode cX3_heatInAll 19 = .ok (.i2l, 1) := by decide +kernel
theorem dX3_heatInAll_20 : decode cX3_heatInAll 20 = .ok (.ladd, 1) := by decide +kernel
theorem dX3_heatInAll_21 : decode cX3_heatInAll 21 = .ok (.lstore_n 1, 1) := by decide +kernel
theorem dX3_heatInAll_22 : decode cX3_heatInAll 22 = .ok (.iinc 3 1, 3) := by decide +kernel
theorem dX3_heatInAll_25 : decode cX3_heatInAll 25 = .ok (.goto (-21), 3) := by decide +kernel
theorem dX3_heatInAll_28 : decode cX3_heatInAll 28 = .ok (.lload_n 1, 1) := by decide +kernel
theorem dX3_heatInAll_29 : decode cX3_heatInAll 29 = .ok (.lreturn, 1) := by decide +kernel
theorem dX4_init_0 : decode cX4_init 0 = .ok (.aload_n 0, 1) := by decide +kernel
theorem dX4_init_1 : decode cX4_init 1 = .ok (.invokespecial 3, 3) := by decide +kernel
theorem dX4_init_4 : decode cX4_init 4 = .ok (.aload_n 0, 1) := by decide +kernel
theorem dX4_init_5 : decode cX4_init 5 = .ok (.new 9, 3) := by decide +kernel
theorem dX4_init_8 : decode cX4_init 8 = .ok (.dup, 1) := by decide +kernel
theorem dX4_init_9 : decode cX4_init 9 = .ok (.sipush 800, 3) := by decide +kernel
theorem dX4_init_12 : decode cX4_init 12 = .ok (.invokespecial 13, 3) := by decide +kernel
theorem dX4_init_15 : decode cX4_init 15 = .ok (.putfield 16, 3) := by decide +kernel
theorem dX4_init_18 : decode cX4_init 18 = .ok (.aload_n 0, 1) := by decide +kernel
theorem dX4_init_19 : decode cX4_init 19 = .ok (.iconst 0, 1) := by decide +kernel
theorem dX4_init_20 : decode cX4_init 20 = .ok (.putfield 20, 3) := by decide +kernel
theorem dX4_init_23 : decode cX4_init 23 = .ok (.aload_n 0, 1) := by decide +kernel
theorem dX4_init_24 : decode cX4_init 24 = .ok (.iconst (-1), 1) := by decide +kernel
theorem dX4_init_25 : decode cX4_init 25 = .ok (.putfield 24, 3) := by decide +kernel
theorem dX4_init_28 : decode cX4_init 28 = .ok (.aload_n 0, 1) := by decide +kernel
theorem dX4_init_29 : decode cX4_init 29 = .ok (.new 27, 3) := by decide +kernel
theorem dX4_init_32 : decode cX4_init 32 = .ok (.dup, 1) := by decide +kernel
theorem dX4_init_33 : decode cX4_init 33 = .ok (.invokespecial 29, 3) := by decide +kernel
theorem dX4_init_36 : decode cX4_init 36 = .ok (.putfield 30, 3) := by decide +kernel
theorem dX4_init_39 : decode cX4_init 39 = .ok (.aload_n 0, 1) := by decide +kernel
theorem dX4_init_40 : decode cX4_init 40 = .ok (.iconst 0, 1) := by decide +kernel
theorem dX4_init_41 : decode cX4_init 41 = .ok (.putfield 34, 3) := by decide +kernel
theorem dX4_init_44 : decode cX4_init 44 = .ok (.aload_n 0, 1) := by decide +kernel
theorem dX4_init_45 : decode cX4_init 45 = .ok (.iconst 0, 1) := by decide +kernel
theorem dX4_init_46 : decode cX4_init 46 = .ok (.putfield 37, 3) := by decide +kernel
theorem dX4_init_49 : decode cX4_init 49 = .ok (.aload_n 0, 1) := by decide +kernel
theorem dX4_init_50 : decode cX4_init 50 = .ok (.new 9, 3) := by decide +kernel
theorem dX4_init_53 : decode cX4_init 53 = .ok (.dup, 1) := by decide +kernel
theorem dX4_init_54 : decode cX4_init 54 = .ok (.iconst 4, 1) := by decide +kernel
theorem dX4_init_55 : decode cX4_init 55 = .ok (.invokespecial 13, 3) := by decide +kernel
theorem dX4_init_58 : decode cX4_init 58 = .ok (.putfield 40, 3) := by decide +kernel
theorem dX4_init_61 : decode cX4_init 61 = .ok (.aload_n 0, 1) := by decide +kernel
theorem dX4_init_62 : decode cX4_init 62 = .ok (.new 9, 3) := by decide +kernel
theorem dX4_init_65 : decode cX4_init 65 = .ok (.dup, 1) := by decide +kernel
theorem dX4_init_66 : decode cX4_init 66 = .ok (.iconst 4, 1) := by decide +kernel
theorem dX4_init_67 : decode cX4_init 67 = .ok (.invokespecial 13, 3) := by decide +kernel
theorem dX4_init_70 : decode cX4_init 70 = .ok (.putfield 43, 3) := by decide +kernel
theorem dX4_init_73 : decode cX4_init 73 = .ok (.return_, 1) := by decide +kernel
theorem dX4_read_0 : decode cX4_read 0 = .ok (.aload_n 0, 1) := by decide +kernel
theorem dX4_read_1 : decode cX4_read 1 = .ok (.getfield 30, 3) := by decide +kernel
theorem dX4_read_4 : decode cX4_read 4 = .ok (.aload_n 1, 1) := by decide +kernel
theorem dX4_read_5 : decode cX4_read 5 = .ok (.invokevirtual 46, 3) := by decide +kernel
theorem dX4_read_8 : decode cX4_read 8 = .ok (.aload_n 0, 1) := by decide +kernel
theorem dX4_read_9 : decode cX4_read 9 = .ok (.getfield 16, 3) := by decide +kernel
theorem dX4_read_12 : decode cX4_read 12 = .ok (.iconst 0, 1) := by decide +kernel
theorem dX4_read_13 : decode cX4_read 13 = .ok (.putfield 50, 3) := by decide +kernel
theorem dX4_read_16 : decode cX4_read 16 = .ok (.aload_n 0, 1) := by decide +kernel
theorem dX4_read_17 : decode cX4_read 17 = .ok (.getfield 40, 3) := by decide +kernel
theorem dX4_read_20 : decode cX4_read 20 = .ok (.iconst 0, 1) := by decide +kernel
theorem dX4_read_21 : decode cX4_read 21 = .ok (.putfield 50, 3) := by decide +kernel
theorem dX4_read_24 : decode cX4_read 24 = .ok (.aload_n 0, 1) := by decide +kernel
theorem dX4_read_25 : decode cX4_read 25 = .ok (.getfield 43, 3) := by decide +kernel
theorem dX4_read_28 : decode cX4_read 28 = .ok (.iconst 0, 1) := by decide +kernel
theorem dX4_read_29 : decode cX4_read 29 = .ok (.putfield 50, 3) := by decide +kernel
theorem dX4_read_32 : decode cX4_read 32 = .ok (.aload_n 0, 1) := by decide +kernel
theorem dX4_read_33 : decode cX4_read 33 = .ok (.iconst 0, 1) := by decide +kernel
theorem dX4_read_34 : decode cX4_read 34 = .ok (.putfield 20, 3) := by decide +kernel
theorem dX4_read_37 : decode cX4_read 37 = .ok (.aload_n 0, 1) := by decide +kernel
theorem dX4_read_38 : decode cX4_read 38 = .ok (.iconst (-1), 1) := by decide +kernel
theorem dX4_read_39 : decode cX4_read 39 = .ok (.putfield 24, 3) := by decide +kernel
theorem dX4_read_42 : decode cX4_read 42 = .ok (.aload_n 0, 1) := by decide +kernel
theorem dX4_read_43 : decode cX4_read 43 = .ok (.iconst 0, 1) := by decide +kernel
theorem dX4_read_44 : decode cX4_read 44 = .ok (.putfield 34, 3) := by decide +kernel
theorem dX4_read_47 : decode cX4_read 47 = .ok (.aload_n 0, 1) := by decide +kernel
theorem dX4_read_48 : decode cX4_read 48 = .ok (.aload_n 0, 1) := by decide +kernel
theorem dX4_read_49 : decode cX4_read 49 = .ok (.getfield 30, 3) := by decide +kernel
theorem dX4_read_52 : decode cX4_read 52 = .ok (.getfield 53, 3) := by decide +kernel
theorem dX4_read_55 : decode cX4_read 55 = .ok (.iconst 0, 1) := by decide +kernel
theorem dX4_read_56 : decode cX4_read 56 = .ok (.invokevirtual 56, 3) := by decide +kernel
theorem dX4_read_59 : decode cX4_read 59 = .ok (.putfield 37, 3) := by decide +kernel
theorem dX4_read_62 : decode cX4_read 62 = .ok (.iconst 0, 1) := by decide +kernel
theorem dX4_read_63 : decode cX4_read 63 = .ok (.istore_n 2, 1) := by decide +kernel
theorem dX4_read_64 : decode cX4_read 64 = .ok (.iconst 0, 1) := by decide +kernel
theorem dX4_read_65 : decode cX4_read 65 = .ok (.istore_n 3, 1) := by decide +kernel
theorem dX4_read_66 : decode cX4_read 66 = .ok (.iload_n 3, 1) := by decide +kernel
theorem dX4_read_67 : decode cX4_read 67 = .ok (.sipush 400, 3) := by decide +kernel
theorem dX4_read_70 : decode cX4_read 70 = .ok (.if_icmp .gt 92, 3) := by decide +kernel
theorem dX4_read_73 : decode cX4_read 73 = .ok (.aload_n 0, 1) := by decide +kernel
theorem dX4_read_74 : decode cX4_read 74 = .ok (.getfield 20, 3) := by decide +kernel
theorem dX4_read_77 : decode cX4_read 77 = .ok (.ifCond .ne 85, 3) := by decide +kernel
theorem dX4_read_80 : decode cX4_read 80 = .ok (.iload_n 2, 1) := by decide +kernel
theorem dX4_read_81 : decode cX4_read 81 = .ok (.ifCond .ne 81, 3) := by decide +kernel
theorem dX4_read_84 : decode cX4_read 84 = .ok (.aload_n 0, 1) := by decide +kernel
theorem dX4_read_85 : decode cX4_read 85 = .ok (.getfield 37, 3) := by decide +kernel
theorem dX4_read_88 : decode cX4_read 88 = .ok (.bipush 9, 2) := by decide +kernel
theorem dX4_read_90 : decode cX4_read 90 = .ok (.bipush 16, 2) := by decide +kernel
theorem dX4_read_92 : decode cX4_read 92 = .ok (.invokestatic 60, 3) := by decide +kernel
theorem dX4_read_95 : decode cX4_read 95 = .ok (.ifCond .eq 10, 3) := by decide +kernel
theorem dX4_read_98 : decode cX4_read 98 = .ok (.aload_n 0, 1) := by decide +kernel
theorem dX4_read_99 : decode cX4_read 99 = .ok (.invokevirtual 64, 3) := by decide +kernel
theorem dX4_read_102 : decode cX4_read 102 = .ok (.goto 54, 3) := by decide +kernel
theorem dX4_read_105 : decode cX4_read 105 = .ok (.aload_n 0, 1) := by decide +kernel
theorem dX4_read_106 : decode cX4_read 106 = .ok (.getfield 37, 3) := by decide +kernel
theorem dX4_read_109 : decode cX4_read 109 = .ok (.bipush 18, 2) := by decide +kernel
theorem dX4_read_111 : decode cX4_read 111 = .ok (.if_icmp .ne 19, 3) := by decide +kernel
theorem dX4_read_114 : decode cX4_read 114 = .ok (.aload_n 0, 1) := by decide +kernel
theorem dX4_read_115 : decode cX4_read 115 = .ok (.invokevirtual 67, 3) := by decide +kernel
theorem dX4_read_118 : decode cX4_read 118 = .ok (.bipush 15, 2) := by decide +kernel
theorem dX4_read_120 : decode cX4_read 120 = .ok (.if_icmp .ne 10, 3) := by decide +kernel
theorem dX4_read_123 : decode cX4_read 123 = .ok (.aload_n 0, 1) := by decide +kernel
theorem dX4_read_124 : decode cX4_read 124 = .ok (.invokevirtual 71, 3) := by decide +kernel
theorem dX4_read_127 : decode cX4_read 127 = .ok (.goto 29, 3) := by decide +kernel
theorem dX4_read_130 : decode cX4_read 130 = .ok (.aload_n 0, 1) := by decide +kernel
theorem dX4_read_131 : decode cX4_read 131 = .ok (.getfield 37, 3) := by decide +kernel
theorem dX4_read_134 : decode cX4_read 134 = .ok (.iconst 1, 1) := by decide +kernel
theorem dX4_read_135 : decode cX4_read 135 = .ok (.if_icmp .ne 16, 3) := by decide +kernel
theorem dX4_read_138 : decode cX4_read 138 = .ok (.aload_n 0, 1) := by decide +kernel
theorem dX4_read_139 : decode cX4_read 139 = .ok (.invokevirtual 67, 3) := by decide +kernel
theorem dX4_read_142 : decode cX4_read 142 = .ok (.iconst (-1), 1) := by decide +kernel
theorem dX4_read_143 : decode cX4_read 143 = .ok (.if_icmp .ne 8, 3) := by decide +kernel
theorem dX4_read_146 : decode cX4_read 146 = .ok (.iconst 1, 1) := by decide +kernel
theorem dX4_read_147 : decode cX4_read 147 = .ok (.istore_n 2, 1) := by decide +kernel
theorem dX4_read_148 : decode cX4_read 148 = .ok (.goto 8, 3) := by decide +kernel
theorem dX4_read_151 : decode cX4_read 151 = .ok (.aload_n 0, 1) := by decide +kernel
theorem dX4_read_152 : decode cX4_read 152 = .ok (.iconst 1, 1) := by decide +kernel
theorem dX4_read_153 : decode cX4_read 153 = .ok (.invokevirtual 74, 3) := by decide +kernel
theorem dX4_read_156 : decode cX4_read 156 = .ok (.iinc 3 1, 3) := by decide +kernel
theorem dX4_read_159 : decode cX4_read 159 = .ok (.goto (-93), 3) := by decide +kernel
theorem dX4_read_162 : decode cX4_read 162 = .ok (.iload_n 2, 1) := by decide +kernel
theorem dX4_read_163 : decode cX4_read 163 = .ok (.ireturn, 1) := by decide +kernel
theorem dX5_init_0 : decode cX5_init 0 = .ok (.aload_n 0, 1) := by decide +kernel
theorem dX5_init_1 : decode cX5_init 1 = .ok (.invokespecial 3, 3) := by decide +kernel
theorem dX5_init_4 : decode cX5_init 4 = .ok (.aload_n 0, 1) := by decide +kernel
theorem dX5_init_5 : decode cX5_init 5 = .ok (.iconst 0, 1) := by decide +kernel
theorem dX5_init_6 : decode cX5_init 6 = .ok (.putfield 9, 3) := by decide +kernel
theorem dX5_init_9 : decode cX5_init 9 = .ok (.aload_n 0, 1) := by decide +kernel
theorem dX5_init_10 : decode cX5_init 10 = .ok (.iconst 0, 1) := by decide +kernel
theorem dX5_init_11 : decode cX5_init 11 = .ok (.iload_n 1, 1) := by decide +kernel
theorem dX5_init_12 : decode cX5_init 12 = .ok (.invokestatic 15, 3) := by decide +kernel
theorem dX5_init_15 : decode cX5_init 15 = .ok (.newarray .int, 2) := by decide +kernel
theorem dX5_init_17 : decode cX5_init 17 = .ok (.putfield 21, 3) := by decide +kernel
theorem dX5_init_20 : decode cX5_init 20 = .ok (.return_, 1) := by decide +kernel
theorem dX5_add_0 : decode cX5_add 0 = .ok (.aload_n 0, 1) := by decide +kernel
theorem dX5_add_1 : decode cX5_add 1 = .ok (.getfield 9, 3) := by decide +kernel
theorem dX5_add_4 : decode cX5_add 4 = .ok (.aload_n 0, 1) := by decide +kernel
theorem dX5_add_5 : decode cX5_add 5 = .ok (.getfield 21, 3) := by decide +kernel
theorem dX5_add_8 : decode cX5_add 8 = .ok (.arraylength, 1) := by decide +kernel
theorem dX5_add_9 : decode cX5_add 9 = .ok (.if_icmp .ge 23, 3) := by decide +kernel
theorem dX5_add_12 : decode cX5_add 12 = .ok (.aload_n 0, 1) := by decide +kernel
theorem dX5_add_13 : decode cX5_add 13 = .ok (.getfield 21, 3) := by decide +kernel
theorem dX5_add_16 : decode cX5_add 16 = .ok (.aload_n 0, 1) := by decide +kernel
theorem dX5_add_17 : decode cX5_add 17 = .ok (.getfield 9, 3) := by decide +kernel
theorem dX5_add_20 : decode cX5_add 20 = .ok (.iload_n 1, 1) := by decide +kernel
theorem dX5_add_21 : decode cX5_add 21 = .ok (.iastore, 1) := by decide +kernel
theorem dX5_add_22 : decode cX5_add 22 = .ok (.aload_n 0, 1) := by decide +kernel
theorem dX5_add_23 : decode cX5_add 23 = .ok (.dup, 1) := by decide +kernel
theorem dX5_add_24 : decode cX5_add 24 = .ok (.getfield 9, 3) := by decide +kernel
theorem dX5_add_27 : decode cX5_add 27 = .ok (.iconst 1, 1) := by decide +kernel
theorem dX5_add_28 : decode cX5_add 28 = .ok (.iadd, 1) := by decide +kernel
theorem dX5_add_29 : decode cX5_add 29 = .ok (.putfield 9, 3) := by decide +kernel
theorem dX5_add_32 : decode cX5_add 32 = .ok (.return_, 1) := by decide +kernel
theorem dX5_addBytes_0 : decode cX5_addBytes 0 = .ok (.bipush 24, 2) := by decide +kernel
theorem dX5_addBytes_2 : decode cX5_addBytes 2 = .ok (.istore_n 2, 1) := by decide +kernel
theorem dX5_addBytes_3 : decode cX5_addBytes 3 = .ok (.iload_n 2, 1) := by decide +kernel
theorem dX5_addBytes_4 : decode cX5_addBytes 4 = .ok (.ifCond .lt 20, 3) := by decide +kernel
theorem dX5_addBytes_7 : decode cX5_addBytes 7 = .ok (.aload_n 0, 1) := by decide +kernel
theorem dX5_addBytes_8 : decode cX5_addBytes 8 = .ok (.iload_n 1, 1) := by decide +kernel
theorem dX5_addBytes_9 : decode cX5_addBytes 9 = .ok (.iload_n 2, 1) := by decide +kernel
theorem dX5_addBytes_10 : decode cX5_addBytes 10 = .ok (.iushr, 1) := by decide +kernel
theorem dX5_addBytes_11 : decode cX5_addBytes 11 = .ok (.sipush 255, 3) := by decide +kernel
theorem dX5_addBytes_14 : decode cX5_addBytes 14 = .ok (.iand, 1) := by decide +kernel
theorem dX5_addBytes_15 : decode cX5_addBytes 15 = .ok (.invokevirtual 25, 3) := by decide +kernel
theorem dX5_addBytes_18 : decode cX5_addBytes 18 = .ok (.iinc 2 (-8), 3) := by decide +kernel
theorem dX5_addBytes_21 : decode cX5_addBytes 21 = .ok (.goto (-18), 3) := by decide +kernel
theorem dX5_addBytes_24 : decode cX5_addBytes 24 = .ok (.return_, 1) := by decide +kernel
theorem dX5_at_0 : decode cX5_at 0 = .ok (.iload_n 1, 1) := by decide +kernel
theorem dX5_at_1 : decode cX5_at 1 = .ok (.ifCond .lt 20, 3) := by decide +kernel
theorem dX5_at_4 : decode cX5_at 4 = .ok (.iload_n 1, 1) := by decide +kernel
theorem dX5_at_5 : decode cX5_at 5 = .ok (.aload_n 0, 1) := by decide +kernel
theorem dX5_at_6 : decode cX5_at 6 = .ok (.getfield 9, 3) := by decide +kernel
theorem dX5_at_9 : decode cX5_at 9 = .ok (.if_icmp .ge 12, 3) := by decide +kernel
theorem dX5_at_12 : decode cX5_at 12 = .ok (.aload_n 0, 1) := by decide +kernel
theorem dX5_at_13 : decode cX5_at 13 = .ok (.getfield 21, 3) := by decide +kernel
theorem dX5_at_16 : decode cX5_at 16 = .ok (.iload_n 1, 1) := by decide +kernel
theorem dX5_at_17 : decode cX5_at 17 = .ok (.iaload, 1) := by decide +kernel
theorem dX5_at_18 : decode cX5_at 18 = .ok (.goto 4, 3) := by decide +kernel
theorem dX5_at_21 : decode cX5_at 21 = .ok (.iconst (-1), 1) := by decide +kernel
theorem dX5_at_22 : decode cX5_at 22 = .ok (.ireturn, 1) := by decide +kernel
theorem dX5_copyFrom_0 : decode cX5_copyFrom 0 = .ok (.aload_n 0, 1) := by decide +kernel
theorem dX5_copyFrom_1 : decode cX5_copyFrom 1 = .ok (.aload_n 1, 1) := by decide +kernel
theorem dX5_copyFrom_2 : decode cX5_copyFrom 2 = .ok (.getfield 9, 3) := by decide +kernel
theorem dX5_copyFrom_5 : decode cX5_copyFrom 5 = .ok (.aload_n 0, 1) := by decide +kernel
theorem dX5_copyFrom_6 : decode cX5_copyFrom 6 = .ok (.getfield 21, 3) := by decide +kernel
theorem dX5_copyFrom_9 : decode cX5_copyFrom 9 = .ok (.arraylength, 1) := by decide +kernel
theorem dX5_copyFrom_10 : decode cX5_copyFrom 10 = .ok (.invokestatic 29, 3) := by decide +kernel
theorem dX5_copyFrom_13 : decode cX5_copyFrom 13 = .ok (.putfield 9, 3) := by decide +kernel
theorem dX5_copyFrom_16 : decode cX5_copyFrom 16 = .ok (.aload_n 1, 1) := by decide +kernel
theorem dX5_copyFrom_17 : decode cX5_copyFrom 17 = .ok (.getfield 21, 3) := by decide +kernel
theorem dX5_copyFrom_20 : decode cX5_copyFrom 20 = .ok (.iconst 0, 1) := by decide +kernel
theorem dX5_copyFrom_21 : decode cX5_copyFrom 21 = .ok (.aload_n 0, 1) := by decide +kernel
theorem dX5_copyFrom_22 : decode cX5_copyFrom 22 = .ok (.getfield 21, 3) := by decide +kernel
theorem dX5_copyFrom_25 : decode cX5_copyFrom 25 = .ok (.iconst 0, 1) := by decide +kernel
theorem dX5_copyFrom_26 : decode cX5_copyFrom 26 = .ok (.aload_n 0, 1) := by decide +kernel
theorem dX5_copyFrom_27 : decode cX5_copyFrom 27 = .ok (.getfield 9, 3) := by decide +kernel
theorem dX5_copyFrom_30 : decode cX5_copyFrom 30 = .ok (.invokestatic 32, 3) := by decide +kernel
theorem dX5_copyFrom_33 : decode cX5_copyFrom 33 = .ok (.return_, 1) := by decide +kernel
theorem dX5_firstRunBelow_0 : decode cX5_firstRunBelow 0 = .ok (.iconst 0, 1) := by decide +kernel
theorem dX5_firstRunBelow_1 : decode cX5_firstRunBelow 1 = .ok (.istore_n 3, 1) := by decide +kernel
theorem dX5_firstRunBelow_2 : decode cX5_firstRunBelow 2 = .ok (.iconst 0, 1) := by decide +kernel
theorem dX5_firstRunBelow_3 : decode cX5_firstRunBelow 3 = .ok (.istore 4, 2) := by decide +kernel
theorem dX5_firstRunBelow_5 : decode cX5_firstRunBelow 5 = .ok (.iload 4, 2) := by decide +kernel
theorem dX5_firstRunBelow_7 : decode cX5_firstRunBelow 7 = .ok (.aload_n 0, 1) := by decide +kernel
theorem dX5_firstRunBelow_8 : decode cX5_firstRunBelow 8 = .ok (.getfield 9, 3) := by decide +kernel
theorem dX5_firstRunBelow_11 : decode cX5_firstRunBelow 11 = .ok (.if_icmp .ge 40, 3) := by decide +kernel
theorem dX5_firstRunBelow_14 : decode cX5_firstRunBelow 14 = .ok (.aload_n 0, 1) := by decide +kernel
theorem dX5_firstRunBelow_15 : decode cX5_firstRunBelow 15 = .ok (.getfield 21, 3) := by decide +kernel
theorem dX5_firstRunBelow_18 : decode cX5_firstRunBelow 18 = .ok (.iload 4, 2) := by decide +kernel
theorem dX5_firstRunBelow_20 : decode cX5_firstRunBelow 20 = .ok (.iaload, 1) := by decide +kernel
theorem dX5_firstRunBelow_21 : decode cX5_firstRunBelow 21 = .ok (.iload_n 1, 1) := by decide +kernel
theorem dX5_firstRunBelow_22 : decode cX5_firstRunBelow 22 = .ok (.if_icmp .ge 9, 3) := by decide +kernel
theorem dX5_firstRunBelow_25 : decode cX5_firstRunBelow 25 = .ok (.iload_n 3, 1) := by decide +kernel
theorem dX5_firstRunBelow_26 : decode cX5_firstRunBelow 26 = .ok (.iconst 1, 1) := by decide +kernel
theorem dX5_firstRunBelow_27 : decode cX5_firstRunBelow 27 = .ok (.iadd, 1) := by decide +kernel
theorem dX5_firstRunBelow_28 : decode cX5_firstRunBelow 28 = .ok (.goto 4, 3) := by decide +kernel
theorem dX5_firstRunBelow_31 : decode cX5_firstRunBelow 31 = .ok (.iconst 0, 1) := by decide +kernel
theorem dX5_firstRunBelow_32 : decode cX5_firstRunBelow 32 = .ok (.istore_n 3, 1) := by decide +kernel
theorem dX5_firstRunBelow_33 : decode cX5_firstRunBelow 33 = .ok (.iload_n 3, 1) := by decide +kernel
theorem dX5_firstRunBelow_34 : decode cX5_firstRunBelow 34 = .ok (.iload_n 2, 1) := by decide +kernel
theorem dX5_firstRunBelow_35 : decode cX5_firstRunBelow 35 = .ok (.if_icmp .ne 10, 3) := by decide +kernel
theorem dX5_firstRunBelow_38 : decode cX5_firstRunBelow 38 = .ok (.iload 4, 2) := by decide +kernel
theorem dX5_firstRunBelow_40 : decode cX5_firstRunBelow 40 = .ok (.iload_n 2, 1) := by decide +kernel
theorem dX5_firstRunBelow_41 : decode cX5_firstRunBelow 41 = .ok (.isub, 1) := by decide +kernel
theorem dX5_firstRunBelow_42 : decode cX5_firstRunBelow 42 = .ok (.iconst 1, 1) := by decide +kernel
theorem dX5_firstRunBelow_43 : decode cX5_firstRunBelow 43 = .ok (.iadd, 1) := by decide +kernel
theorem dX5_firstRunBelow_44 : decode cX5_firstRunBelow 44 = .ok (.ireturn, 1) := by decide +kernel
theorem dX5_firstRunBelow_45 : decode cX5_firstRunBelow 45 = .ok (.iinc 4 1, 3) := by decide +kernel
theorem dX5_firstRunBelow_48 : decode cX5_firstRunBelow 48 = .ok (.goto (-43), 3) := by decide +kernel
theorem dX5_firstRunBelow_51 : decode cX5_firstRunBelow 51 = .ok (.iconst (-1), 1) := by decide +kernel
theorem dX5_firstRunBelow_52 : decode cX5_firstRunBelow 52 = .ok (.ireturn, 1) := by decide +kernel
theorem dX6_init_0 : decode cX6_init 0 = .ok (.aload_n 0, 1) := by decide +kernel
theorem dX6_init_1 : decode cX6_init 1 = .ok (.invokespecial 3, 3) := by decide +kernel
theorem dX6_init_4 : decode cX6_init 4 = .ok (.aload_n 0, 1) := by decide +kernel
theorem dX6_init_5 : decode cX6_init 5 = .ok (.iconst 5, 1) := by decide +kernel
theorem dX6_init_6 : decode cX6_init 6 = .ok (.newarray .int, 2) := by decide +kernel
theorem dX6_init_8 : decode cX6_init 8 = .ok (.putfield 11, 3) := by decide +kernel
theorem dX6_init_11 : decode cX6_init 11 = .ok (.aload_n 0, 1) := by decide +kernel
theorem dX6_init_12 : decode cX6_init 12 = .ok (.iconst 0, 1) := by decide +kernel
theorem dX6_init_13 : decode cX6_init 13 = .ok (.putfield 15, 3) := by decide +kernel
theorem dX6_init_16 : decode cX6_init 16 = .ok (.aload_n 0, 1) := by decide +kernel
theorem dX6_init_17 : decode cX6_init 17 = .ok (.iconst 0, 1) := by decide +kernel
theorem dX6_init_18 : decode cX6_init 18 = .ok (.putfield 19, 3) := by decide +kernel
theorem dX6_init_21 : decode cX6_init 21 = .ok (.return_, 1) := by decide +kernel
theorem dX7_init_0 : decode cX7_init 0 = .ok (.aload_n 0, 1) := by decide +kernel
theorem dX7_init_1 : decode cX7_init 1 = .ok (.invokespecial 3, 3) := by decide +kernel
theorem dX7_init_4 : decode cX7_init 4 = .ok (.aload_n 0, 1) := by decide +kernel
theorem dX7_init_5 : decode cX7_init 5 = .ok (.sipush 200, 3) := by decide +kernel
theorem dX7_init_8 : decode cX7_init 8 = .ok (.newarray .int, 2) := by decide +kernel
theorem dX7_init_10 : decode cX7_init 10 = .ok (.putfield 11, 3) := by decide +kernel
theorem dX7_init_13 : decode cX7_init 13 = .ok (.aload_n 0, 1) := by decide +kernel
theorem dX7_init_14 : decode cX7_init 14 = .ok (.sipush 200, 3) := by decide +kernel
theorem dX7_init_17 : decode cX7_init 17 = .ok (.newarray .int, 2) := by decide +kernel
theorem dX7_init_19 : decode cX7_init 19 = .ok (.putfield 15, 3) := by decide +kernel
theorem dX7_init_22 : decode cX7_init 22 = .ok (.aload_n 0, 1) := by decide +kernel
theorem dX7_init_23 : decode cX7_init 23 = .ok (.sipush 200, 3) := by decide +kernel
theorem dX7_init_26 : decode cX7_init 26 = .ok (.newarray .int, 2) := by decide +kernel
theorem dX7_init_28 : decode cX7_init 28 = .ok (.putfield 18, 3) := by decide +kernel
theorem dX7_init_31 : decode cX7_init 31 = .ok (.aload_n 0, 1) := by decide +kernel
theorem dX7_init_32 : decode cX7_init 32 = .ok (.sipush 200, 3) := by decide +kernel
theorem dX7_init_35 : decode cX7_init 35 = .ok (.newarray .boolean, 2) := by decide +kernel
theorem dX7_init_37 : decode cX7_init 37 = .ok (.putfield 21, 3) := by decide +kernel
theorem dX7_init_40 : decode cX7_init 40 = .ok (.aload_n 0, 1) := by decide +kernel
theorem dX7_init_41 : decode cX7_init 41 = .ok (.iconst 0, 1) := by decide +kernel
theorem dX7_init_42 : decode cX7_init 42 = .ok (.putfield 25, 3) := by decide +kernel
theorem dX7_init_45 : decode cX7_init 45 = .ok (.aload_n 0, 1) := by decide +kernel
theorem dX7_init_46 : decode cX7_init 46 = .ok (.iconst 0, 1) := by decide +kernel
theorem dX7_init_47 : decode cX7_init 47 = .ok (.putfield 29, 3) := by decide +kernel
theorem dX7_init_50 : decode cX7_init 50 = .ok (.return_, 1) := by decide +kernel
theorem dX7_tell_0 : decode cX7_tell 0 = .ok (.iload_n 1, 1) := by decide +kernel
theorem dX7_tell_1 : decode cX7_tell 1 = .ok (.iconst 0, 1) := by decide +kernel
theorem dX7_tell_2 : decode cX7_tell 2 = .ok (.iconst 3, 1) := by decide +kernel
theorem dX7_tell_3 : decode cX7_tell 3 = .ok (.invokestatic 32, 3) := by decide +kernel
theorem dX7_tell_6 : decode cX7_tell 6 = .ok (.ifCond .eq 39, 3) := by decide +kernel
theorem dX7_tell_9 : decode cX7_tell 9 = .ok (.iload_n 2, 1) := by decide +kernel
theorem dX7_tell_10 : decode cX7_tell 10 = .ok (.iconst 1, 1) := by decide +kernel
theorem dX7_tell_11 : decode cX7_tell 11 = .ok (.sipush 9999, 3) := by decide +kernel
theorem dX7_tell_14 : decode cX7_tell 14 = .ok (.invokestatic 32, 3) := by decide +kernel
theorem dX7_tell_17 : decode cX7_tell 17 = .ok (.ifCond .eq 28, 3) := by decide +kernel
theorem dX7_tell_20 : decode cX7_tell 20 = .ok (.iload 4, 2) := by decide +kernel
theorem dX7_tell_22 : decode cX7_tell 22 = .ok (.aload_n 0, 1) := by decide +kernel
theorem dX7_tell_23 : decode cX7_tell 23 = .ok (.getfield 29, 3) := by decide +kernel
theorem dX7_tell_26 : decode cX7_tell 26 = .ok (.sipush 999, 3) := by decide +kernel
theorem dX7_tell_29 : decode cX7_tell 29 = .ok (.invokestatic 32, 3) := by decide +kernel
theorem dX7_tell_32 : decode cX7_tell 32 = .ok (.ifCond .eq 13, 3) := by decide +kernel
theorem dX7_tell_35 : decode cX7_tell 35 = .ok (.aload_n 0, 1) := by decide +kernel
theorem dX7_tell_36 : decode cX7_tell 36 = .ok (.getfield 25, 3) := by decide +kernel
theorem dX7_tell_39 : decode cX7_tell 39 = .ok (.sipush 200, 3) := by decide +kernel
theorem dX7_tell_42 : decode cX7_tell 42 = .ok (.if_icmp .lt 5, 3) := by decide +kernel
theorem dX7_tell_45 : decode cX7_tell 45 = .ok (.iconst 0, 1) := by decide +kernel
theorem dX7_tell_46 : decode cX7_tell 46 = .ok (.ireturn, 1) := by decide +kernel
theorem dX7_tell_47 : decode cX7_tell 47 = .ok (.aload_n 0, 1) := by decide +kernel
theorem dX7_tell_48 : decode cX7_tell 48 = .ok (.getfield 11, 3) := by decide +kernel
theorem dX7_tell_51 : decode cX7_tell 51 = .ok (.aload_n 0, 1) := by decide +kernel
theorem dX7_tell_52 : decode cX7_tell 52 = .ok (.getfield 25, 3) := by decide +kernel
theorem dX7_tell_55 : decode cX7_tell 55 = .ok (.iload_n 1, 1) := by decide +kernel
theorem dX7_tell_56 : decode cX7_tell 56 = .ok (.iastore, 1) := by decide +kernel
theorem dX7_tell_57 : decode cX7_tell 57 = .ok (.aload_n 0, 1) := by decide +kernel
theorem dX7_tell_58 : decode cX7_tell 58 = .ok (.getfield 15, 3) := by decide +kernel
theorem dX7_tell_61 : decode cX7_tell 61 = .ok (.aload_n 0, 1) := by decide +kernel
theorem dX7_tell_62 : decode cX7_tell 62 = .ok (.getfield 25, 3) := by decide +kernel
theorem dX7_tell_65 : decode cX7_tell 65 = .ok (.iload_n 2, 1) := by decide +kernel
theorem dX7_tell_66 : decode cX7_tell 66 = .ok (.iastore, 1) := by decide +kernel
theorem dX7_tell_67 : decode cX7_tell 67 = .ok (.aload_n 0, 1) := by decide +kernel
theorem dX7_tell_68 : decode cX7_tell 68 = .ok (.getfield 21, 3) := by decide +kernel
theorem dX7_tell_71 : decode cX7_tell 71 = .ok (.aload_n 0, 1) := by decide +kernel
theorem dX7_tell_72 : decode cX7_tell 72 = .ok (.getfield 25, 3) := by decide +kernel
theorem dX7_tell_75 : decode cX7_tell 75 = .ok (.iload_n 3, 1) := by decide +kernel
theorem dX7_tell_76 : decode cX7_tell 76 = .ok (.bastore, 1) := by decide +kernel
theorem dX7_tell_77 : decode cX7_tell 77 = .ok (.aload_n 0, 1) := by decide +kernel
theorem dX7_tell_78 : decode cX7_tell 78 = .ok (.getfield 18, 3) := by decide +kernel
theorem dX7_tell_81 : decode cX7_tell 81 = .ok (.aload_n 0, 1) := by decide +kernel
theorem dX7_tell_82 : decode cX7_tell 82 = .ok (.getfield 25, 3) := by decide +kernel
theorem dX7_tell_85 : decode cX7_tell 85 = .ok (.iload 4, 2) := by decide +kernel
theorem dX7_tell_87 : decode cX7_tell 87 = .ok (.iastore, 1) := by decide +kernel
theorem dX7_tell_88 : decode cX7_tell 88 = .ok (.aload_n 0, 1) := by decide +kernel
theorem dX7_tell_89 : decode cX7_tell 89 = .ok (.dup, 1) := by decide +kernel
theorem dX7_tell_90 : decode cX7_tell 90 = .ok (.getfield 25, 3) := by decide +kernel
theorem dX7_tell_93 : decode cX7_tell 93 = .ok (.iconst 1, 1) := by decide +kernel
theorem dX7_tell_94 : decode cX7_tell 94 = .ok (.iadd, 1) := by decide +kernel
theorem dX7_tell_95 : decode cX7_tell 95 = .ok (.putfield 25, 3) := by decide +kernel
theorem dX7_tell_98 : decode cX7_tell 98 = .ok (.aload_n 0, 1) := by decide +kernel
theorem dX7_tell_99 : decode cX7_tell 99 = .ok (.iload 4, 2) := by decide +kernel
theorem dX7_tell_101 : decode cX7_tell 101 = .ok (.putfield 29, 3) := by decide +kernel
theorem dX7_tell_104 : decode cX7_tell 104 = .ok (.iconst 1, 1) := by decide +kernel
theorem dX7_tell_105 : decode cX7_tell 105 = .ok (.ireturn, 1) := by decide +kernel
theorem dX7_leastMelt_0 : decode cX7_leastMelt 0 = .ok (.iconst 1, 1) := by decide +kernel
theorem dX7_leastMelt_1 : decode cX7_leastMelt 1 = .ok (.istore_n 3, 1) := by decide +kernel
theorem dX7_leastMelt_2 : decode cX7_leastMelt 2 = .ok (.iconst 0, 1) := by decide +kernel
theorem dX7_leastMelt_3 : decode cX7_leastMelt 3 = .ok (.istore 4, 2) := by decide +kernel
theorem dX7_leastMelt_5 : decode cX7_leastMelt 5 = .ok (.iload 4, 2) := by decide +kernel
theorem dX7_leastMelt_7 : decode cX7_leastMelt 7 = .ok (.aload_n 0, 1) := by decide +kernel
theorem dX7_leastMelt_8 : decode cX7_leastMelt 8 = .ok (.getfield 25, 3) := by decide +kernel
theorem dX7_leastMelt_11 : decode cX7_leastMelt 11 = .ok (.if_icmp .ge 55, 3) := by decide +kernel
theorem dX7_leastMelt_14 : decode cX7_leastMelt 14 = .ok (.aload_n 0, 1) := by decide +kernel
theorem dX7_leastMelt_15 : decode cX7_leastMelt 15 = .ok (.getfield 11, 3) := by decide +kernel
theorem dX7_leastMelt_18 : decode cX7_leastMelt 18 = .ok (.iload 4, 2) := by decide +kernel
theorem dX7_leastMelt_20 : decode cX7_leastMelt 20 = .ok (.iaload, 1) := by decide +kernel
theorem dX7_leastMelt_21 : decode cX7_leastMelt 21 = .ok (.iload_n 1, 1) := by decide +kernel
theorem dX7_leastMelt_22 : decode cX7_leastMelt 22 = .ok (.if_icmp .ne 38, 3) := by decide +kernel
theorem dX7_leastMelt_25 : decode cX7_leastMelt 25 = .ok (.aload_n 0, 1) := by decide +kernel
theorem dX7_leastMelt_26 : decode cX7_leastMelt 26 = .ok (.getfield 18, 3) := by decide +kernel
theorem dX7_leastMelt_29 : decode cX7_leastMelt 29 = .ok (.iload 4, 2) := by decide +kernel
theorem dX7_leastMelt_31 : decode cX7_leastMelt 31 = .ok (.iaload, 1) := by decide +kernel
theorem dX7_leastMelt_32 : decode cX7_leastMelt 32 = .ok (.iload_n 2, 1) := by decide +kernel
theorem dX7_leastMelt_33 : decode cX7_leastMelt 33 = .ok (.if_icmp .gt 27, 3) := by decide +kernel
theorem dX7_leastMelt_36 : decode cX7_leastMelt 36 = .ok (.aload_n 0, 1) := by decide +kernel
theorem dX7_leastMelt_37 : decode cX7_leastMelt 37 = .ok (.getfield 21, 3) := by decide +kernel
theorem dX7_leastMelt_40 : decode cX7_leastMelt 40 = .ok (.iload 4, 2) := by decide +kernel
theorem dX7_leastMelt_42 : decode cX7_leastMelt 42 = .ok (.baload, 1) := by decide +kernel
theorem dX7_leastMelt_43 : decode cX7_leastMelt 43 = .ok (.ifCond .ne 17, 3) := by decide +kernel
theorem dX7_leastMelt_46 : decode cX7_leastMelt 46 = .ok (.iload_n 3, 1) := by decide +kernel
theorem dX7_leastMelt_47 : decode cX7_leastMelt 47 = .ok (.aload_n 0, 1) := by decide +kernel
theorem dX7_leastMelt_48 : decode cX7_leastMelt 48 = .ok (.getfield 15, 3) := by decide +kernel
theorem dX7_leastMelt_51 : decode cX7_leastMelt 51 = .ok (.iload 4, 2) := by decide +kernel
theorem dX7_leastMelt_53 : decode cX7_leastMelt 53 = .ok (.iaload, 1) := by decide +kernel
theorem dX7_leastMelt_54 : decode cX7_leastMelt 54 = .ok (.iconst 1, 1) := by decide +kernel
theorem dX7_leastMelt_55 : decode cX7_leastMelt 55 = .ok (.iadd, 1) := by decide +kernel
theorem dX7_leastMelt_56 : decode cX7_leastMelt 56 = .ok (.invokestatic 36, 3) := by decide +kernel
theorem dX7_leastMelt_59 : decode cX7_leastMelt 59 = .ok (.istore_n 3, 1) := by decide +kernel
theorem dX7_leastMelt_60 : decode cX7_leastMelt 60 = .ok (.iinc 4 1, 3) := by decide +kernel
theorem dX7_leastMelt_63 : decode cX7_leastMelt 63 = .ok (.goto (-58), 3) := by decide +kernel
theorem dX7_leastMelt_66 : decode cX7_leastMelt 66 = .ok (.iload_n 3, 1) := by decide +kernel
theorem dX7_leastMelt_67 : decode cX7_leastMelt 67 = .ok (.ireturn, 1) := by decide +kernel
theorem dX7_greatestMelt_0 : decode cX7_greatestMelt 0 = .ok (.sipush 999, 3) := by decide +kernel
theorem dX7_greatestMelt_3 : decode cX7_greatestMelt 3 = .ok (.istore_n 3, 1) := by decide +kernel
theorem dX7_greatestMelt_4 : decode cX7_greatestMelt 4 = .ok (.iconst 0, 1) := by decide +kernel
theorem dX7_greatestMelt_5 : decode cX7_greatestMelt 5 = .ok (.istore 4, 2) := by decide +kernel
theorem dX7_greatestMelt_7 : decode cX7_greatestMelt 7 = .ok (.iload 4, 2) := by decide +kernel
theorem dX7_greatestMelt_9 : decode cX7_greatestMelt 9 = .ok (.aload_n 0, 1) := by decide +kernel
theorem dX7_greatestMelt_10 : decode cX7_greatestMelt 10 = .ok (.getfield 25, 3) := by decide +kernel
theorem dX7_greatestMelt_13 : decode cX7_greatestMelt 13 = .ok (.if_icmp .ge 53, 3) := by decide +kernel
theorem dX7_greatestMelt_16 : decode cX7_greatestMelt 16 = .ok (.aload_n 0, 1) := by decide +kernel
theorem dX7_greatestMelt_17 : decode cX7_greatestMelt 17 = .ok (.getfield 11, 3) := by decide +kernel
theorem dX7_greatestMelt_20 : decode cX7_greatestMelt 20 = .ok (.iload 4, 2) := by decide +kernel
theorem dX7_greatestMelt_22 : decode cX7_greatestMelt 22 = .ok (.iaload, 1) := by decide +kernel
theorem dX7_greatestMelt_23 : decode cX7_greatestMelt 23 = .ok (.iload_n 1, 1) := by decide +kernel
theorem dX7_greatestMelt_24 : decode cX7_greatestMelt 24 = .ok (.if_icmp .ne 36, 3) := by decide +kernel
theorem dX7_greatestMelt_27 : decode cX7_greatestMelt 27 = .ok (.aload_n 0, 1) := by decide +kernel
theorem dX7_greatestMelt_28 : decode cX7_greatestMelt 28 = .ok (.getfield 18, 3) := by decide +kernel
theorem dX7_greatestMelt_31 : decode cX7_greatestMelt 31 = .ok (.iload 4, 2) := by decide +kernel
theorem dX7_greatestMelt_33 : decode cX7_greatestMelt 33 = .ok (.iaload, 1) := by decide +kernel
theorem dX7_greatestMelt_34 : decode cX7_greatestMelt 34 = .ok (.iload_n 2, 1) := by decide +kernel
theorem dX7_greatestMelt_35 : decode cX7_greatestMelt 35 = .ok (.if_icmp .gt 25, 3) := by decide +kernel
theorem dX7_greatestMelt_38 : decode cX7_greatestMelt 38 = .ok (.aload_n 0, 1) := by decide +kernel
theorem dX7_greatestMelt_39 : decode cX7_greatestMelt 39 = .ok (.getfield 21, 3) := by decide +kernel
theorem dX7_greatestMelt_42 : decode cX7_greatestMelt 42 = .ok (.iload 4, 2) := by decide +kernel
theorem dX7_greatestMelt_44 : decode cX7_greatestMelt 44 = .ok (.baload, 1) := by decide +kernel
theorem dX7_greatestMelt_45 : decode cX7_greatestMelt 45 = .ok (.ifCond .eq 15, 3) := by decide +kernel
theorem dX7_greatestMelt_48 : decode cX7_greatestMelt 48 = .ok (.iload_n 3, 1) := by decide +kernel
theorem dX7_greatestMelt_49 : decode cX7_greatestMelt 49 = .ok (.aload_n 0, 1) := by decide +kernel
theorem dX7_greatestMelt_50 : decode cX7_greatestMelt 50 = .ok (.getfield 15, 3) := by decide +kernel
theorem dX7_greatestMelt_53 : decode cX7_greatestMelt 53 = .ok (.iload 4, 2) := by decide +kernel
theorem dX7_greatestMelt_55 : decode cX7_greatestMelt 55 = .ok (.iaload, 1) := by decide +kernel
theorem dX7_greatestMelt_56 : decode cX7_greatestMelt 56 = .ok (.invokestatic 42, 3) := by decide +kernel
theorem dX7_greatestMelt_59 : decode cX7_greatestMelt 59 = .ok (.istore_n 3, 1) := by decide +kernel
theorem dX7_greatestMelt_60 : decode cX7_greatestMelt 60 = .ok (.iinc 4 1, 3) := by decide +kernel
theorem dX7_greatestMelt_63 : decode cX7_greatestMelt 63 = .ok (.goto (-56), 3) := by decide +kernel
theorem dX7_greatestMelt_66 : decode cX7_greatestMelt 66 = .ok (.iload_n 3, 1) := by decide +kernel
theorem dX7_greatestMelt_67 : decode cX7_greatestMelt 67 = .ok (.ireturn, 1) := by decide +kernel
theorem dX8_init_0 : decode cX8_init 0 = .ok (.aload_n 0, 1) := by decide +kernel
theorem dX8_init_1 : decode cX8_init 1 = .ok (.invokespecial 3, 3) := by decide +kernel
theorem dX8_init_4 : decode cX8_init 4 = .ok (.aload_n 0, 1) := by decide +kernel
theorem dX8_init_5 : decode cX8_init 5 = .ok (.new 9, 3) := by decide +kernel
theorem dX8_init_8 : decode cX8_init 8 = .ok (.dup, 1) := by decide +kernel
theorem dX8_init_9 : decode cX8_init 9 = .ok (.sipush 401, 3) := by decide +kernel
theorem dX8_init_12 : decode cX8_init 12 = .ok (.invokespecial 11, 3) := by decide +kernel
theorem dX8_init_15 : decode cX8_init 15 = .ok (.putfield 14, 3) := by decide +kernel
theorem dX8_init_18 : decode cX8_init 18 = .ok (.aload_n 0, 1) := by decide +kernel
theorem dX8_init_19 : decode cX8_init 19 = .ok (.new 9, 3) := by decide +kernel
theorem dX8_init_22 : decode cX8_init 22 = .ok (.dup, 1) := by decide +kernel
theorem dX8_init_23 : decode cX8_init 23 = .ok (.sipush 401, 3) := by decide +kernel
theorem dX8_init_26 : decode cX8_init 26 = .ok (.invokespecial 11, 3) := by decide +kernel
theorem dX8_init_29 : decode cX8_init 29 = .ok (.putfield 20, 3) := by decide +kernel
theorem dX8_init_32 : decode cX8_init 32 = .ok (.aload_n 0, 1) := by decide +kernel
theorem dX8_init_33 : decode cX8_init 33 = .ok (.new 9, 3) := by decide +kernel
theorem dX8_init_36 : decode cX8_init 36 = .ok (.dup, 1) := by decide +kernel
theorem dX8_init_37 : decode cX8_init 37 = .ok (.sipush 401, 3) := by decide +kernel
theorem dX8_init_40 : decode cX8_init 40 = .ok (.invokespecial 11, 3) := by decide +kernel
theorem dX8_init_43 : decode cX8_init 43 = .ok (.putfield 23, 3) := by decide +kernel
theorem dX8_init_46 : decode cX8_init 46 = .ok (.return_, 1) := by decide +kernel
theorem dX8_takeApart_0 : decode cX8_takeApart 0 = .ok (.aload_n 0, 1) := by decide +kernel
theorem dX8_takeApart_1 : decode cX8_takeApart 1 = .ok (.getfield 14, 3) := by decide +kernel
theorem dX8_takeApart_4 : decode cX8_takeApart 4 = .ok (.iconst 0, 1) := by decide +kernel
theorem dX8_takeApart_5 : decode cX8_takeApart 5 = .ok (.putfield 26, 3) := by decide +kernel
theorem dX8_takeApart_8 : decode cX8_takeApart 8 = .ok (.aload_n 0, 1) := by decide +kernel
theorem dX8_takeApart_9 : decode cX8_takeApart 9 = .ok (.getfield 20, 3) := by decide +kernel
theorem dX8_takeApart_12 : decode cX8_takeApart 12 = .ok (.iconst 0, 1) := by decide +kernel
theorem dX8_takeApart_13 : decode cX8_takeApart 13 = .ok (.putfield 26, 3) := by decide +kernel
theorem dX8_takeApart_16 : decode cX8_takeApart 16 = .ok (.aload_n 0, 1) := by decide +kernel
theorem dX8_takeApart_17 : decode cX8_takeApart 17 = .ok (.getfield 23, 3) := by decide +kernel
theorem dX8_takeApart_20 : decode cX8_takeApart 20 = .ok (.iconst 0, 1) := by decide +kernel
theorem dX8_takeApart_21 : decode cX8_takeApart 21 = .ok (.putfield 26, 3) := by decide +kernel
theorem dX8_takeApart_24 : decode cX8_takeApart 24 = .ok (.iconst 0, 1) := by decide +kernel
theorem dX8_takeApart_25 : decode cX8_takeApart 25 = .ok (.istore_n 2, 1) := by decide +kernel
theorem dX8_takeApart_26 : decode cX8_takeApart 26 = .ok (.iconst 0, 1) := by decide +kernel
theorem dX8_takeApart_27 : decode cX8_takeApart 27 = .ok (.istore_n 3, 1) := by decide +kernel
theorem dX8_takeApart_28 : decode cX8_takeApart 28 = .ok (.iload_n 3, 1) := by decide +kernel
theorem dX8_takeApart_29 : decode cX8_takeApart 29 = .ok (.sipush 400, 3) := by decide +kernel
theorem dX8_takeApart_32 : decode cX8_takeApart 32 = .ok (.if_icmp .ge 83, 3) := by decide +kernel
theorem dX8_takeApart_35 : decode cX8_takeApart 35 = .ok (.iload_n 2, 1) := by decide +kernel
theorem dX8_takeApart_36 : decode cX8_takeApart 36 = .ok (.aload_n 1, 1) := by decide +kernel
theorem dX8_takeApart_37 : decode cX8_takeApart 37 = .ok (.getfield 26, 3) := by decide +kernel
theorem dX8_takeApart_40 : decode cX8_takeApart 40 = .ok (.if_icmp .ge 75, 3) := by decide +kernel
theorem dX8_takeApart_43 : decode cX8_takeApart 43 = .ok (.aload_n 1, 1) := by decide +kernel
theorem dX8_takeApart_44 : decode cX8_takeApart 44 = .ok (.getfield 30, 3) := by decide +kernel
theorem dX8_takeApart_47 : decode cX8_takeApart 47 = .ok (.iload_n 2, 1) := by decide +kernel
theorem dX8_takeApart_48 : decode cX8_takeApart 48 = .ok (.iaload, 1) := by decide +kernel
theorem dX8_takeApart_49 : decode cX8_takeApart 49 = .ok (.istore 4, 2) := by decide +kernel
theorem dX8_takeApart_51 : decode cX8_takeApart 51 = .ok (.iload 4, 2) := by decide +kernel
theorem dX8_takeApart_53 : decode cX8_takeApart 53 = .ok (.invokestatic 34, 3) := by decide +kernel
theorem dX8_takeApart_56 : decode cX8_takeApart 56 = .ok (.ifCond .eq 13, 3) := by decide +kernel
theorem dX8_takeApart_59 : decode cX8_takeApart 59 = .ok (.aload_n 0, 1) := by decide +kernel
theorem dX8_takeApart_60 : decode cX8_takeApart 60 = .ok (.aload_n 1, 1) := by decide +kernel
theorem dX8_takeApart_61 : decode cX8_takeApart 61 = .ok (.iload_n 2, 1) := by decide +kernel
theorem dX8_takeApart_62 : decode cX8_takeApart 62 = .ok (.invokevirtual 38, 3) := by decide +kernel
theorem dX8_takeApart_65 : decode cX8_takeApart 65 = .ok (.istore_n 2, 1) := by decide +kernel
theorem dX8_takeApart_66 : decode cX8_takeApart 66 = .ok (.goto 43, 3) := by decide +kernel
theorem dX8_takeApart_69 : decode cX8_takeApart 69 = .ok (.iload 4, 2) := by decide +kernel
theorem dX8_takeApart_71 : decode cX8_takeApart 71 = .ok (.invokestatic 42, 3) := by decide +kernel
theorem dX8_takeApart_74 : decode cX8_takeApart 74 = .ok (.ifCond .eq 13, 3) := by decide +kernel
theorem dX8_takeApart_77 : decode cX8_takeApart 77 = .ok (.aload_n 0, 1) := by decide +kernel
theorem dX8_takeApart_78 : decode cX8_takeApart 78 = .ok (.aload_n 1, 1) := by decide +kernel
theorem dX8_takeApart_79 : decode cX8_takeApart 79 = .ok (.iload_n 2, 1) := by decide +kernel
theorem dX8_takeApart_80 : decode cX8_takeApart 80 = .ok (.invokevirtual 45, 3) := by decide +kernel
theorem dX8_takeApart_83 : decode cX8_takeApart 83 = .ok (.istore_n 2, 1) := by decide +kernel
theorem dX8_takeApart_84 : decode cX8_takeApart 84 = .ok (.goto 25, 3) := by decide +kernel
theorem dX8_takeApart_87 : decode cX8_takeApart 87 = .ok (.iload 4, 2) := by decide +kernel
theorem dX8_takeApart_89 : decode cX8_takeApart 89 = .ok (.invokestatic 48, 3) := by decide +kernel
theorem dX8_takeApart_92 : decode cX8_takeApart 92 = .ok (.ifCond .ne 14, 3) := by decide +kernel
theorem dX8_takeApart_95 : decode cX8_takeApart 95 = .ok (.aload_n 0, 1) := by decide +kernel
theorem dX8_takeApart_96 : decode cX8_takeApart 96 = .ok (.iload 4, 2) := by decide +kernel
theorem dX8_takeApart_98 : decode cX8_takeApart 98 = .ok (.invokestatic 51, 3) := by decide +kernel
theorem dX8_takeApart_101 : decode cX8_takeApart 101 = .ok (.iload_n 2, 1) := by decide +kernel
theorem dX8_takeApart_102 : decode cX8_takeApart 102 = .ok (.iconst 0, 1) := by decide +kernel
theorem dX8_takeApart_103 : decode cX8_takeApart 103 = .ok (.invokevirtual 55, 3) := by decide +kernel
theorem dX8_takeApart_106 : decode cX8_takeApart 106 = .ok (.iinc 2 1, 3) := by decide +kernel
theorem dX8_takeApart_109 : decode cX8_takeApart 109 = .ok (.iinc 3 1, 3) := by decide +kernel
theorem dX8_takeApart_112 : decode cX8_takeApart 112 = .ok (.goto (-84), 3) := by decide +kernel
theorem dX8_takeApart_115 : decode cX8_takeApart 115 = .ok (.aload_n 0, 1) := by decide +kernel
theorem dX8_takeApart_116 : decode cX8_takeApart 116 = .ok (.iconst 1, 1) := by decide +kernel
theorem dX8_takeApart_117 : decode cX8_takeApart 117 = .ok (.aload_n 1, 1) := by decide +kernel
theorem dX8_takeApart_118 : decode cX8_takeApart 118 = .ok (.getfield 26, 3) := by decide +kernel
theorem dX8_takeApart_121 : decode cX8_takeApart 121 = .ok (.iconst 0, 1) := by decide +kernel
theorem dX8_takeApart_122 : decode cX8_takeApart 122 = .ok (.invokevirtual 55, 3) := by decide +kernel
theorem dX8_takeApart_125 : decode cX8_takeApart 125 = .ok (.return_, 1) := by decide +kernel
theorem dX8_keep_0 : decode cX8_keep 0 = .ok (.aload_n 0, 1) := by decide +kernel
theorem dX8_keep_1 : decode cX8_keep 1 = .ok (.getfield 14, 3) := by decide +kernel
theorem dX8_keep_4 : decode cX8_keep 4 = .ok (.iload_n 1, 1) := by decide +kernel
theorem dX8_keep_5 : decode cX8_keep 5 = .ok (.invokevirtual 59, 3) := by decide +kernel
theorem dX8_keep_8 : decode cX8_keep 8 = .ok (.aload_n 0, 1) := by decide +kernel
theorem dX8_keep_9 : decode cX8_keep 9 = .ok (.getfield 20, 3) := by decide +kernel
theorem dX8_keep_12 : decode cX8_keep 12 = .ok (.iload_n 2, 1) := by decide +kernel
theorem dX8_keep_13 : decode cX8_keep 13 = .ok (.invokevirtual 59, 3) := by decide +kernel
theorem dX8_keep_16 : decode cX8_keep 16 = .ok (.aload_n 0, 1) := by decide +kernel
theorem dX8_keep_17 : decode cX8_keep 17 = .ok (.getfield 23, 3) := by decide +kernel
theorem dX8_keep_20 : decode cX8_keep 20 = .ok (.iload_n 3, 1) := by decide +kernel
theorem dX8_keep_21 : decode cX8_keep 21 = .ok (.invokevirtual 59, 3) := by decide +kernel
theorem dX8_keep_24 : decode cX8_keep 24 = .ok (.return_, 1) := by decide +kernel
theorem dX9_init_0 : decode cX9_init 0 = .ok (.aload_n 0, 1) := by decide +kernel
theorem dX9_init_1 : decode cX9_init 1 = .ok (.invokespecial 3, 3) := by decide +kernel
theorem dX9_init_4 : decode cX9_init 4 = .ok (.aload_n 0, 1) := by decide +kernel
theorem dX9_init_5 : decode cX9_init 5 = .ok (.iconst 0, 1) := by decide +kernel
theorem dX9_init_6 : decode cX9_init 6 = .ok (.putfield 9, 3) := by decide +kernel
theorem dX9_init_9 : decode cX9_init 9 = .ok (.aload_n 0, 1) := by decide +kernel
theorem dX9_init_10 : decode cX9_init 10 = .ok (.iconst 0, 1) := by decide +kernel
theorem dX9_init_11 : decode cX9_init 11 = .ok (.putfield 15, 3) := by decide +kernel
theorem dX9_init_14 : decode cX9_init 14 = .ok (.aload_n 0, 1) := by decide +kernel
theorem dX9_init_15 : decode cX9_init 15 = .ok (.iconst (-1), 1) := by decide +kernel
theorem dX9_init_16 : decode cX9_init 16 = .ok (.putfield 18, 3) := by decide +kernel
theorem dX9_init_19 : decode cX9_init 19 = .ok (.aload_n 0, 1) := by decide +kernel
theorem dX9_init_20 : decode cX9_init 20 = .ok (.new 21, 3) := by decide +kernel
theorem dX9_init_23 : decode cX9_init 23 = .ok (.dup, 1) := by decide +kernel
theorem dX9_init_24 : decode cX9_init 24 = .ok (.invokespecial 23, 3) := by decide +kernel
theorem dX9_init_27 : decode cX9_init 27 = .ok (.putfield 24, 3) := by decide +kernel
theorem dX9_init_30 : decode cX9_init 30 = .ok (.aload_n 0, 1) := by decide +kernel
theorem dX9_init_31 : decode cX9_init 31 = .ok (.new 28, 3) := by decide +kernel
theorem dX9_init_34 : decode cX9_init 34 = .ok (.dup, 1) := by decide +kernel
theorem dX9_init_35 : decode cX9_init 35 = .ok (.iconst 4, 1) := by decide +kernel
theorem dX9_init_36 : decode cX9_init 36 = .ok (.invokespecial 30, 3) := by decide +kernel
theorem dX9_init_39 : decode cX9_init 39 = .ok (.putfield 33, 3) := by decide +kernel
theorem dX9_init_42 : decode cX9_init 42 = .ok (.aload_n 0, 1) := by decide +kernel
theorem dX9_init_43 : decode cX9_init 43 = .ok (.new 37, 3) := by decide +kernel
theorem dX9_init_46 : decode cX9_init 46 = .ok (.dup, 1) := by decide +kernel
theorem dX9_init_47 : decode cX9_init 47 = .ok (.invokespecial 39, 3) := by decide +kernel
theorem dX9_init_50 : decode cX9_init 50 = .ok (.putfield 40, 3) := by decide +kernel
theorem dX9_init_53 : decode cX9_init 53 = .ok (.aload_n 0, 1) := by decide +kernel
theorem dX9_init_54 : decode cX9_init 54 = .ok (.iconst 3, 1) := by decide +kernel
theorem dX9_init_55 : decode cX9_init 55 = .ok (.newarray .int, 2) := by decide +kernel
theorem dX9_init_57 : decode cX9_init 57 = .ok (.putfield 44, 3) := by decide +kernel
theorem dX9_init_60 : decode cX9_init 60 = .ok (.return_, 1) := by decide +kernel
theorem dX10_init_0 : decode cX10_init 0 = .ok (.aload_n 0, 1) := by decide +kernel
theorem dX10_init_1 : decode cX10_init 1 = .ok (.invokespecial 3, 3) := by decide +kernel
theorem dX10_init_4 : decode cX10_init 4 = .ok (.aload_n 0, 1) := by decide +kernel
theorem dX10_init_5 : decode cX10_init 5 = .ok (.iconst 4, 1) := by decide +kernel
theorem dX10_init_6 : decode cX10_init 6 = .ok (.newarray .int, 2) := by decide +kernel
theorem dX10_init_8 : decode cX10_init 8 = .ok (.dup, 1) := by decide +kernel
theorem dX10_init_9 : decode cX10_init 9 = .ok (.iconst 0, 1) := by decide +kernel
theorem dX10_init_10 : decode cX10_init 10 = .ok (.bipush 100, 2) := by decide +kernel
theorem dX10_init_12 : decode cX10_init 12 = .ok (.iastore, 1) := by decide +kernel
theorem dX10_init_13 : decode cX10_init 13 = .ok (.dup, 1) := by decide +kernel
theorem dX10_init_14 : decode cX10_init 14 = .ok (.iconst 1, 1) := by decide +kernel
theorem dX10_init_15 : decode cX10_init 15 = .ok (.bipush 100, 2) := by decide +kernel
theorem dX10_init_17 : decode cX10_init 17 = .ok (.iastore, 1) := by decide +kernel
theorem dX10_init_18 : decode cX10_init 18 = .ok (.dup, 1) := by decide +kernel
theorem dX10_init_19 : decode cX10_init 19 = .ok (.iconst 2, 1) := by decide +kernel
theorem dX10_init_20 : decode cX10_init 20 = .ok (.bipush 100, 2) := by decide +kernel
theorem dX10_init_22 : decode cX10_init 22 = .ok (.iastore, 1) := by decide +kernel
theorem dX10_init_23 : decode cX10_init 23 = .ok (.dup, 1) := by decide +kernel
theorem dX10_init_24 : decode cX10_init 24 = .ok (.iconst 3, 1) := by decide +kernel
theorem dX10_init_25 : decode cX10_init 25 = .ok (.bipush 100, 2) := by decide +kernel
theorem dX10_init_27 : decode cX10_init 27 = .ok (.iastore, 1) := by decide +kernel
theorem dX10_init_28 : decode cX10_init 28 = .ok (.putfield 9, 3) := by decide +kernel
theorem dX10_init_31 : decode cX10_init 31 = .ok (.aload_n 0, 1) := by decide +kernel
theorem dX10_init_32 : decode cX10_init 32 = .ok (.iconst 4, 1) := by decide +kernel
theorem dX10_init_33 : decode cX10_init 33 = .ok (.newarray .int, 2) := by decide +kernel
theorem dX10_init_35 : decode cX10_init 35 = .ok (.dup, 1) := by decide +kernel
theorem dX10_init_36 : decode cX10_init 36 = .ok (.iconst 0, 1) := by decide +kernel
theorem dX10_init_37 : decode cX10_init 37 = .ok (.bipush 10, 2) := by decide +kernel
theorem dX10_init_39 : decode cX10_init 39 = .ok (.iastore, 1) := by decide +kernel
theorem dX10_init_40 : decode cX10_init 40 = .ok (.dup, 1) := by decide +kernel
theorem dX10_init_41 : decode cX10_init 41 = .ok (.iconst 1, 1) := by decide +kernel
theorem dX10_init_42 : decode cX10_init 42 = .ok (.bipush 10, 2) := by decide +kernel
theorem dX10_init_44 : decode cX10_init 44 = .ok (.iastore, 1) := by decide +kernel
theorem dX10_init_45 : decode cX10_init 45 = .ok (.dup, 1) := by decide +kernel
theorem dX10_init_46 : decode cX10_init 46 = .ok (.iconst 2, 1) := by decide +kernel
theorem dX10_init_47 : decode cX10_init 47 = .ok (.bipush 10, 2) := by decide +kernel
theorem dX10_init_49 : decode cX10_init 49 = .ok (.iastore, 1) := by decide +kernel
theorem dX10_init_50 : decode cX10_init 50 = .ok (.dup, 1) := by decide +kernel
theorem dX10_init_51 : decode cX10_init 51 = .ok (.iconst 3, 1) := by decide +kernel
theorem dX10_init_52 : decode cX10_init 52 = .ok (.bipush 10, 2) := by decide +kernel
theorem dX10_init_54 : decode cX10_init 54 = .ok (.iastore, 1) := by decide +kernel
theorem dX10_init_55 : decode cX10_init 55 = .ok (.putfield 15, 3) := by decide +kernel
theorem dX10_init_58 : decode cX10_init 58 = .ok (.aload_n 0, 1) := by decide +kernel
theorem dX10_init_59 : decode cX10_init 59 = .ok (.iconst 4, 1) := by decide +kernel
theorem dX10_init_60 : decode cX10_init 60 = .ok (.newarray .int, 2) := by decide +kernel
theorem dX10_init_62 : decode cX10_init 62 = .ok (.dup, 1) := by decide +kernel
theorem dX10_init_63 : decode cX10_init 63 = .ok (.iconst 0, 1) := by decide +kernel
theorem dX10_init_64 : decode cX10_init 64 = .ok (.iconst 2, 1) := by decide +kernel
theorem dX10_init_65 : decode cX10_init 65 = .ok (.iastore, 1) := by decide +kernel
theorem dX10_init_66 : decode cX10_init 66 = .ok (.dup, 1) := by decide +kernel
theorem dX10_init_67 : decode cX10_init 67 = .ok (.iconst 1, 1) := by decide +kernel
theorem dX10_init_68 : decode cX10_init 68 = .ok (.iconst 2, 1) := by decide +kernel
theorem dX10_init_69 : decode cX10_init 69 = .ok (.iastore, 1) := by decide +kernel
theorem dX10_init_70 : decode cX10_init 70 = .ok (.dup, 1) := by decide +kernel
theorem dX10_init_71 : decode cX10_init 71 = .ok (.iconst 2, 1) := by decide +kernel
theorem dX10_init_72 : decode cX10_init 72 = .ok (.iconst 2, 1) := by decide +kernel
theorem dX10_init_73 : decode cX10_init 73 = .ok (.iastore, 1) := by decide +kernel
theorem dX10_init_74 : decode cX10_init 74 = .ok (.dup, 1) := by decide +kernel
theorem dX10_init_75 : decode cX10_init 75 = .ok (.iconst 3, 1) := by decide +kernel
theorem dX10_init_76 : decode cX10_init 76 = .ok (.iconst 2, 1) := by decide +kernel
theorem dX10_init_77 : decode cX10_init 77 = .ok (.iastore, 1) := by decide +kernel
theorem dX10_init_78 : decode cX10_init 78 = .ok (.putfield 18, 3) := by decide +kernel
theorem dX10_init_81 : decode cX10_init 81 = .ok (.aload_n 0, 1) := by decide +kernel
theorem dX10_init_82 : decode cX10_init 82 = .ok (.iconst 4, 1) := by decide +kernel
theorem dX10_init_83 : decode cX10_init 83 = .ok (.newarray .int, 2) := by decide +kernel
theorem dX10_init_85 : decode cX10_init 85 = .ok (.dup, 1) := by decide +kernel
theorem dX10_init_86 : decode cX10_init 86 = .ok (.iconst 0, 1) := by decide +kernel
theorem dX10_init_87 : decode cX10_init 87 = .ok (.bipush 60, 2) := by decide +kernel
theorem dX10_init_89 : decode cX10_init 89 = .ok (.iastore, 1) := by decide +kernel
theorem dX10_init_90 : decode cX10_init 90 = .ok (.dup, 1) := by decide +kernel
theorem dX10_init_91 : decode cX10_init 91 = .ok (.iconst 1, 1) := by decide +kernel
theorem dX10_init_92 : decode cX10_init 92 = .ok (.bipush 60, 2) := by decide +kernel
theorem dX10_init_94 : decode cX10_init 94 = .ok (.iastore, 1) := by decide +kernel
theorem dX10_init_95 : decode cX10_init 95 = .ok (.dup, 1) := by decide +kernel
theorem dX10_init_96 : decode cX10_init 96 = .ok (.iconst 2, 1) := by decide +kernel
theorem dX10_init_97 : decode cX10_init 97 = .ok (.bipush 60, 2) := by decide +kernel
theorem dX10_init_99 : decode cX10_init 99 = .ok (.iastore, 1) := by decide +kernel
theorem dX10_init_100 : decode cX10_init 100 = .ok (.dup, 1) := by decide +kernel
theorem dX10_init_101 : decode cX10_init 101 = .ok (.iconst 3, 1) := by decide +kernel
theorem dX10_init_102 : decode cX10_init 102 = .ok (.bipush 60, 2) := by decide +kernel
theorem dX10_init_104 : decode cX10_init 104 = .ok (.iastore, 1) := by decide +kernel
theorem dX10_init_105 : decode cX10_init 105 = .ok (.putfield 21, 3) := by decide +kernel
theorem dX10_init_108 : decode cX10_init 108 = .ok (.aload_n 0, 1) := by decide +kernel
theorem dX10_init_109 : decode cX10_init 109 = .ok (.bipush 100, 2) := by decide +kernel
theorem dX10_init_111 : decode cX10_init 111 = .ok (.putfield 24, 3) := by decide +kernel
theorem dX10_init_114 : decode cX10_init 114 = .ok (.aload_n 0, 1) := by decide +kernel
theorem dX10_init_115 : decode cX10_init 115 = .ok (.iconst 1, 1) := by decide +kernel
theorem dX10_init_116 : decode cX10_init 116 = .ok (.putfield 28, 3) := by decide +kernel
theorem dX10_init_119 : decode cX10_init 119 = .ok (.aload_n 0, 1) := by decide +kernel
theorem dX10_init_120 : decode cX10_init 120 = .ok (.iconst 4, 1) := by decide +kernel
theorem dX10_init_121 : decode cX10_init 121 = .ok (.putfield 32, 3) := by decide +kernel
theorem dX10_init_124 : decode cX10_init 124 = .ok (.aload_n 0, 1) := by decide +kernel
theorem dX10_init_125 : decode cX10_init 125 = .ok (.bipush 8, 2) := by decide +kernel
theorem dX10_init_127 : decode cX10_init 127 = .ok (.anewarray 35, 3) := by decide +kernel
theorem dX10_init_130 : decode cX10_init 130 = .ok (.putfield 37, 3) := by decide +kernel
theorem dX10_init_133 : decode cX10_init 133 = .ok (.iconst 0, 1) := by decide +kernel
theorem dX10_init_134 : decode cX10_init 134 = .ok (.istore_n 1, 1) := by decide +kernel
theorem dX10_init_135 : decode cX10_init 135 = .ok (.iload_n 1, 1) := by decide +kernel
theorem dX10_init_136 : decode cX10_init 136 = .ok (.bipush 8, 2) := by decide +kernel
theorem dX10_init_138 : decode cX10_init 138 = .ok (.if_icmp .ge 25, 3) := by decide +kernel
theorem dX10_init_141 : decode cX10_init 141 = .ok (.aload_n 0, 1) := by decide +kernel
theorem dX10_init_142 : decode cX10_init 142 = .ok (.getfield 37, 3) := by decide +kernel
theorem dX10_init_145 : decode cX10_init 145 = .ok (.iload_n 1, 1) := by decide +kernel
theorem dX10_init_146 : decode cX10_init 146 = .ok (.new 35, 3) := by decide +kernel
theorem dX10_init_149 : decode cX10_init 149 = .ok (.dup, 1) := by decide +kernel
theorem dX10_init_150 : decode cX10_init 150 = .ok (.sipush 800, 3) := by decide +kernel
theorem dX10_init_153 : decode cX10_init 153 = .ok (.invokespecial 43, 3) := by decide +kernel
theorem dX10_init_156 : decode cX10_init 156 = .ok (.aastore, 1) := by decide +kernel
theorem dX10_init_157 : decode cX10_init 157 = .ok (.iinc 1 1, 3) := by decide +kernel
theorem dX10_init_160 : decode cX10_init 160 = .ok (.goto (-25), 3) := by decide +kernel
theorem dX10_init_163 : decode cX10_init 163 = .ok (.return_, 1) := by decide +kernel
theorem dX10_setStuff_0 : decode cX10_setStuff 0 = .ok (.iload_n 1, 1) := by decide +kernel
theorem dX10_setStuff_1 : decode cX10_setStuff 1 = .ok (.iconst 0, 1) := by decide +kernel
theorem dX10_setStuff_2 : decode cX10_setStuff 2 = .ok (.iconst 3, 1) := by decide +kernel
theorem dX10_setStuff_3 : decode cX10_setStuff 3 = .ok (.invokestatic 46, 3) := by decide +kernel
theorem dX10_setStuff_6 : decode cX10_setStuff 6 = .ok (.ifCond .eq 47, 3) := by decide +kernel
theorem dX10_setStuff_9 : decode cX10_setStuff 9 = .ok (.iload_n 2, 1) := by decide +kernel
theorem dX10_setStuff_10 : decode cX10_setStuff 10 = .ok (.iconst 1, 1) := by decide +kernel
theorem dX10_setStuff_11 : decode cX10_setStuff 11 = .ok (.sipush 999, 3) := by decide +kernel
theorem dX10_setStuff_14 : decode cX10_setStuff 14 = .ok (.invokestatic 46, 3) := by decide +kernel
theorem dX10_setStuff_17 : decode cX10_setStuff 17 = .ok (.ifCond .eq 36, 3) := by decide +kernel
theorem dX10_setStuff_20 : decode cX10_setStuff 20 = .ok (.iload_n 3, 1) := by decide +kernel
theorem dX10_setStuff_21 : decode cX10_setStuff 21 = .ok (.iconst 0, 1) := by decide +kernel
theorem dX10_setStuff_22 : decode cX10_setStuff 22 = .ok (.bipush 20, 2) := by decide +kernel
theorem dX10_setStuff_24 : decode cX10_setStuff 24 = .ok (.invokestatic 46, 3) := by decide +kernel
theorem dX10_setStuff_27 : decode cX10_setStuff 27 = .ok (.ifCond .eq 26, 3) := by decide +kernel
theorem dX10_setStuff_30 : decode cX10_setStuff 30 = .ok (.iload 4, 2) := by decide +kernel
theorem dX10_setStuff_32 : decode cX10_setStuff 32 = .ok (.iconst 0, 1) := by decide +kernel
theorem dX10_setStuff_33 : decode cX10_setStuff 33 = .ok (.bipush 20, 2) := by decide +kernel
theorem dX10_setStuff_35 : decode cX10_setStuff 35 = .ok (.invokestatic 46, 3) := by decide +kernel
theorem dX10_setStuff_38 : decode cX10_setStuff 38 = .ok (.ifCond .eq 15, 3) := by decide +kernel
theorem dX10_setStuff_41 : decode cX10_setStuff 41 = .ok (.iload 5, 2) := by decide +kernel
theorem dX10_setStuff_43 : decode cX10_setStuff 43 = .ok (.iconst 1, 1) := by decide +kernel
theorem dX10_setStuff_44 : decode cX10_setStuff 44 = .ok (.sipush 9999, 3) := by decide +kernel
theorem dX10_setStuff_47 : decode cX10_setStuff 47 = .ok (.invokestatic 46, 3) := by decide +kernel
theorem dX10_setStuff_50 : decode cX10_setStuff 50 = .ok (.ifCond .ne 5, 3) := by decide +kernel
theorem dX10_setStuff_53 : decode cX10_setStuff 53 = .ok (.iconst 0, 1) := by decide +kernel
theorem dX10_setStuff_54 : decode cX10_setStuff 54 = .ok (.ireturn, 1) := by decide +kernel
theorem dX10_setStuff_55 : decode cX10_setStuff 55 = .ok (.aload_n 0, 1) := by decide +kernel
theorem dX10_setStuff_56 : decode cX10_setStuff 56 = .ok (.getfield 9, 3) := by decide +kernel
theorem dX10_setStuff_59 : decode cX10_setStuff 59 = .ok (.iload_n 1, 1) := by decide +kernel
theorem dX10_setStuff_60 : decode cX10_setStuff 60 = .ok (.iload_n 2, 1) := by decide +kernel
theorem dX10_setStuff_61 : decode cX10_setStuff 61 = .ok (.iastore, 1) := by decide +kernel
theorem dX10_setStuff_62 : decode cX10_setStuff 62 = .ok (.aload_n 0, 1) := by decide +kernel
theorem dX10_setStuff_63 : decode cX10_setStuff 63 = .ok (.getfield 15, 3) := by decide +kernel
theorem dX10_setStuff_66 : decode cX10_setStuff 66 = .ok (.iload_n 1, 1) := by decide +kernel
theorem dX10_setStuff_67 : decode cX10_setStuff 67 = .ok (.iload_n 3, 1) := by decide +kernel
theorem dX10_setStuff_68 : decode cX10_setStuff 68 = .ok (.iastore, 1) := by decide +kernel
theorem dX10_setStuff_69 : decode cX10_setStuff 69 = .ok (.aload_n 0, 1) := by decide +kernel
theorem dX10_setStuff_70 : decode cX10_setStuff 70 = .ok (.getfield 18, 3) := by decide +kernel
theorem dX10_setStuff_73 : decode cX10_setStuff 73 = .ok (.iload_n 1, 1) := by decide +kernel
theorem dX10_setStuff_74 : decode cX10_setStuff 74 = .ok (.iload 4, 2) := by decide +kernel
theorem dX10_setStuff_76 : decode cX10_setStuff 76 = .ok (.iastore, 1) := by decide +kernel
theorem dX10_setStuff_77 : decode cX10_setStuff 77 = .ok (.aload_n 0, 1) := by decide +kernel
theorem dX10_setStuff_78 : decode cX10_setStuff 78 = .ok (.getfield 21, 3) := by decide +kernel
theorem dX10_setStuff_81 : decode cX10_setStuff 81 = .ok (.iload_n 1, 1) := by decide +kernel
theorem dX10_setStuff_82 : decode cX10_setStuff 82 = .ok (.iload 5, 2) := by decide +kernel
theorem dX10_setStuff_84 : decode cX10_setStuff 84 = .ok (.iastore, 1) := by decide +kernel
theorem dX10_setStuff_85 : decode cX10_setStuff 85 = .ok (.iconst 1, 1) := by decide +kernel
theorem dX10_setStuff_86 : decode cX10_setStuff 86 = .ok (.ireturn, 1) := by decide +kernel
theorem dX10_programOf_0 : decode cX10_programOf 0 = .ok (.iload_n 1, 1) := by decide +kernel
theorem dX10_programOf_1 : decode cX10_programOf 1 = .ok (.iconst 0, 1) := by decide +kernel
theorem dX10_programOf_2 : decode cX10_programOf 2 = .ok (.bipush 7, 2) := by decide +kernel
theorem dX10_programOf_4 : decode cX10_programOf 4 = .ok (.invokestatic 46, 3) := by decide +kernel
theorem dX10_programOf_7 : decode cX10_programOf 7 = .ok (.ifCond .eq 12, 3) := by decide +kernel
theorem dX10_programOf_10 : decode cX10_programOf 10 = .ok (.aload_n 0, 1) := by decide +kernel
theorem dX10_programOf_11 : decode cX10_programOf 11 = .ok (.getfield 37, 3) := by decide +kernel
theorem dX10_programOf_14 : decode cX10_programOf 14 = .ok (.iload_n 1, 1) := by decide +kernel
theorem dX10_programOf_15 : decode cX10_programOf 15 = .ok (.aaload, 1) := by decide +kernel
theorem dX10_programOf_16 : decode cX10_programOf 16 = .ok (.goto 4, 3) := by decide +kernel
theorem dX10_programOf_19 : decode cX10_programOf 19 = .ok (.aconst_null, 1) := by decide +kernel
theorem dX10_programOf_20 : decode cX10_programOf 20 = .ok (.areturn, 1) := by decide +kernel
theorem dX11_init_0 : decode cX11_init 0 = .ok (.aload_n 0, 1) := by decide +kernel
theorem dX11_init_1 : decode cX11_init 1 = .ok (.invokespecial 1, 3) := by decide +kernel
theorem dX11_init_4 : decode cX11_init 4 = .ok (.aload_n 0, 1) := by decide +kernel
theorem dX11_init_5 : decode cX11_init 5 = .ok (.new 7, 3) := by decide +kernel
theorem dX11_init_8 : decode cX11_init 8 = .ok (.dup, 1) := by decide +kernel
theorem dX11_init_9 : decode cX11_init 9 = .ok (.invokespecial 9, 3) := by decide +kernel
theorem dX11_init_12 : decode cX11_init 12 = .ok (.putfield 10, 3) := by decide +kernel
theorem dX11_init_15 : decode cX11_init 15 = .ok (.aload_n 0, 1) := by decide +kernel
theorem dX11_init_16 : decode cX11_init 16 = .ok (.new 16, 3) := by decide +kernel
theorem dX11_init_19 : decode cX11_init 19 = .ok (.dup, 1) := by decide +kernel
theorem dX11_init_20 : decode cX11_init 20 = .ok (.sipush 400, 3) := by decide +kernel
theorem dX11_init_23 : decode cX11_init 23 = .ok (.invokespecial 18, 3) := by decide +kernel
theorem dX11_init_26 : decode cX11_init 26 = .ok (.putfield 21, 3) := by decide +kernel
theorem dX11_init_29 : decode cX11_init 29 = .ok (.aload_n 0, 1) := by decide +kernel
theorem dX11_init_30 : decode cX11_init 30 = .ok (.new 16, 3) := by decide +kernel
theorem dX11_init_33 : decode cX11_init 33 = .ok (.dup, 1) := by decide +kernel
theorem dX11_init_34 : decode cX11_init 34 = .ok (.sipush 400, 3) := by decide +kernel
theorem dX11_init_37 : decode cX11_init 37 = .ok (.invokespecial 18, 3) := by decide +kernel
theorem dX11_init_40 : decode cX11_init 40 = .ok (.putfield 25, 3) := by decide +kernel
theorem dX11_init_43 : decode cX11_init 43 = .ok (.aload_n 0, 1) := by decide +kernel
theorem dX11_init_44 : decode cX11_init 44 = .ok (.new 28, 3) := by decide +kernel
theorem dX11_init_47 : decode cX11_init 47 = .ok (.dup, 1) := by decide +kernel
theorem dX11_init_48 : decode cX11_init 48 = .ok (.invokespecial 30, 3) := by decide +kernel
theorem dX11_init_51 : decode cX11_init 51 = .ok (.putfield 31, 3) := by decide +kernel
theorem dX11_init_54 : decode cX11_init 54 = .ok (.aload_n 0, 1) := by decide +kernel
theorem dX11_init_55 : decode cX11_init 55 = .ok (.new 35, 3) := by decide +kernel
theorem dX11_init_58 : decode cX11_init 58 = .ok (.dup, 1) := by decide +kernel
theorem dX11_init_59 : decode cX11_init 59 = .ok (.invokespecial 37, 3) := by decide +kernel
theorem dX11_init_62 : decode cX11_init 62 = .ok (.putfield 38, 3) := by decide +kernel
theorem dX11_init_65 : decode cX11_init 65 = .ok (.aload_n 0, 1) := by decide +kernel
theorem dX11_init_66 : decode cX11_init 66 = .ok (.new 42, 3) := by decide +kernel
theorem dX11_init_69 : decode cX11_init 69 = .ok (.dup, 1) := by decide +kernel
theorem dX11_init_70 : decode cX11_init 70 = .ok (.invokespecial 44, 3) := by decide +kernel
theorem dX11_init_73 : decode cX11_init 73 = .ok (.putfield 45, 3) := by decide +kernel
theorem dX11_init_76 : decode cX11_init 76 = .ok (.aload_n 0, 1) := by decide +kernel
theorem dX11_init_77 : decode cX11_init 77 = .ok (.new 49, 3) := by decide +kernel
theorem dX11_init_80 : decode cX11_init 80 = .ok (.dup, 1) := by decide +kernel
theorem dX11_init_81 : decode cX11_init 81 = .ok (.invokespecial 51, 3) := by decide +kernel
theorem dX11_init_84 : decode cX11_init 84 = .ok (.putfield 52, 3) := by decide +kernel
theorem dX11_init_87 : decode cX11_init 87 = .ok (.aload_n 0, 1) := by decide +kernel
theorem dX11_init_88 : decode cX11_init 88 = .ok (.new 56, 3) := by decide +kernel
theorem dX11_init_91 : decode cX11_init 91 = .ok (.dup, 1) := by decide +kernel
theorem dX11_init_92 : decode cX11_init 92 = .ok (.invokespecial 58, 3) := by decide +kernel
theorem dX11_init_95 : decode cX11_init 95 = .ok (.putfield 59, 3) := by decide +kernel
theorem dX11_init_98 : decode cX11_init 98 = .ok (.aload_n 0, 1) := by decide +kernel
theorem dX11_init_99 : decode cX11_init 99 = .ok (.new 63, 3) := by decide +kernel
theorem dX11_init_102 : decode cX11_init 102 = .ok (.dup, 1) := by decide +kernel
theorem dX11_init_103 : decode cX11_init 103 = .ok (.invokespecial 65, 3) := by decide +kernel
theorem dX11_init_106 : decode cX11_init 106 = .ok (.putfield 66, 3) := by decide +kernel
theorem dX11_init_109 : decode cX11_init 109 = .ok (.aload_n 0, 1) := by decide +kernel
theorem dX11_init_110 : decode cX11_init 110 = .ok (.iconst 0, 1) := by decide +kernel
theorem dX11_init_111 : decode cX11_init 111 = .ok (.putfield 70, 3) := by decide +kernel
theorem dX11_init_114 : decode cX11_init 114 = .ok (.aload_n 0, 1) := by decide +kernel
theorem dX11_init_115 : decode cX11_init 115 = .ok (.iconst (-1), 1) := by decide +kernel
theorem dX11_init_116 : decode cX11_init 116 = .ok (.putfield 74, 3) := by decide +kernel
theorem dX11_init_119 : decode cX11_init 119 = .ok (.return_, 1) := by decide +kernel
theorem dX11_stuff_0 : decode cX11_stuff 0 = .ok (.aload_n 0, 1) := by decide +kernel
theorem dX11_stuff_1 : decode cX11_stuff 1 = .ok (.getfield 10, 3) := by decide +kernel
theorem dX11_stuff_4 : decode cX11_stuff 4 = .ok (.iload_n 1, 1) := by decide +kernel
theorem dX11_stuff_5 : decode cX11_stuff 5 = .ok (.iload_n 2, 1) := by decide +kernel
theorem dX11_stuff_6 : decode cX11_stuff 6 = .ok (.iload_n 3, 1) := by decide +kernel
theorem dX11_stuff_7 : decode cX11_stuff 7 = .ok (.iload 4, 2) := by decide +kernel
theorem dX11_stuff_9 : decode cX11_stuff 9 = .ok (.iload 5, 2) := by decide +kernel
theorem dX11_stuff_11 : decode cX11_stuff 11 = .ok (.invokevirtual 77, 3) := by decide +kernel
theorem dX11_stuff_14 : decode cX11_stuff 14 = .ok (.ireturn, 1) := by decide +kernel
theorem dX11_plate_0 : decode cX11_plate 0 = .ok (.iload_n 1, 1) := by decide +kernel
theorem dX11_plate_1 : decode cX11_plate 1 = .ok (.iconst 1, 1) := by decide +kernel
theorem dX11_plate_2 : decode cX11_plate 2 = .ok (.bipush 16, 2) := by decide +kernel
theorem dX11_plate_4 : decode cX11_plate 4 = .ok (.invokestatic 81, 3) := by decide +kernel
theorem dX11_plate_7 : decode cX11_plate 7 = .ok (.ifCond .eq 33, 3) := by decide +kernel
theorem dX11_plate_10 : decode cX11_plate 10 = .ok (.iload_n 2, 1) := by decide +kernel
theorem dX11_plate_11 : decode cX11_plate 11 = .ok (.iconst 1, 1) := by decide +kernel
theorem dX11_plate_12 : decode cX11_plate 12 = .ok (.bipush 12, 2) := by decide +kernel
theorem dX11_plate_14 : decode cX11_plate 14 = .ok (.invokestatic 81, 3) := by decide +kernel
theorem dX11_plate_17 : decode cX11_plate 17 = .ok (.ifCond .eq 23, 3) := by decide +kernel
theorem dX11_plate_20 : decode cX11_plate 20 = .ok (.iload_n 3, 1) := by decide +kernel
theorem dX11_plate_21 : decode cX11_plate 21 = .ok (.iconst 0, 1) := by decide +kernel
theorem dX11_plate_22 : decode cX11_plate 22 = .ok (.iconst 3, 1) := by decide +kernel
theorem dX11_plate_23 : decode cX11_plate 23 = .ok (.invokestatic 81, 3) := by decide +kernel
theorem dX11_plate_26 : decode cX11_plate 26 = .ok (.ifCond .eq 14, 3) := by decide +kernel
theorem dX11_plate_29 : decode cX11_plate 29 = .ok (.iload 4, 2) := by decide +kernel
theorem dX11_plate_31 : decode cX11_plate 31 = .ok (.iconst 1, 1) := by decide +kernel
theorem dX11_plate_32 : decode cX11_plate 32 = .ok (.bipush 9, 2) := by decide +kernel
theorem dX11_plate_34 : decode cX11_plate 34 = .ok (.invokestatic 81, 3) := by decide +kernel
theorem dX11_plate_37 : decode cX11_plate 37 = .ok (.ifCond .ne 5, 3) := by decide +kernel
theorem dX11_plate_40 : decode cX11_plate 40 = .ok (.iconst 0, 1) := by decide +kernel
theorem dX11_plate_41 : decode cX11_plate 41 = .ok (.ireturn, 1) := by decide +kernel
theorem dX11_plate_42 : decode cX11_plate 42 = .ok (.aload_n 0, 1) := by decide +kernel
theorem dX11_plate_43 : decode cX11_plate 43 = .ok (.getfield 38, 3) := by decide +kernel
theorem dX11_plate_46 : decode cX11_plate 46 = .ok (.iload_n 1, 1) := by decide +kernel
theorem dX11_plate_47 : decode cX11_plate 47 = .ok (.iload_n 2, 1) := by decide +kernel
theorem dX11_plate_48 : decode cX11_plate 48 = .ok (.iload_n 3, 1) := by decide +kernel
theorem dX11_plate_49 : decode cX11_plate 49 = .ok (.iload 4, 2) := by decide +kernel
theorem dX11_plate_51 : decode cX11_plate 51 = .ok (.invokevirtual 85, 3) := by decide +kernel
theorem dX11_plate_54 : decode cX11_plate 54 = .ok (.iconst 1, 1) := by decide +kernel
theorem dX11_plate_55 : decode cX11_plate 55 = .ok (.ireturn, 1) := by decide +kernel
theorem dX11_beam_0 : decode cX11_beam 0 = .ok (.iload_n 1, 1) := by decide +kernel
theorem dX11_beam_1 : decode cX11_beam 1 = .ok (.iconst 0, 1) := by decide +kernel
theorem dX11_beam_2 : decode cX11_beam 2 = .ok (.sipush 9999, 3) := by decide +kernel
theorem dX11_beam_5 : decode cX11_beam 5 = .ok (.invokestatic 81, 3) := by decide +kernel
theorem dX11_beam_8 : decode cX11_beam 8 = .ok (.ifCond .ne 5, 3) := by decide +kernel
theorem dX11_beam_11 : decode cX11_beam 11 = .ok (.iconst 0, 1) := by decide +kernel
theorem dX11_beam_12 : decode cX11_beam 12 = .ok (.ireturn, 1) := by decide +kernel
theorem dX11_beam_13 : decode cX11_beam 13 = .ok (.aload_n 0, 1) := by decide +kernel
theorem dX11_beam_14 : decode cX11_beam 14 = .ok (.getfield 10, 3) := by decide +kernel
theorem dX11_beam_17 : decode cX11_beam 17 = .ok (.iload_n 1, 1) := by decide +kernel
theorem dX11_beam_18 : decode cX11_beam 18 = .ok (.putfield 89, 3) := by decide +kernel
theorem dX11_beam_21 : decode cX11_beam 21 = .ok (.aload_n 0, 1) := by decide +kernel
theorem dX11_beam_22 : decode cX11_beam 22 = .ok (.getfield 10, 3) := by decide +kernel
theorem dX11_beam_25 : decode cX11_beam 25 = .ok (.iload_n 2, 1) := by decide +kernel
theorem dX11_beam_26 : decode cX11_beam 26 = .ok (.putfield 92, 3) := by decide +kernel
theorem dX11_beam_29 : decode cX11_beam 29 = .ok (.iconst 1, 1) := by decide +kernel
theorem dX11_beam_30 : decode cX11_beam 30 = .ok (.ireturn, 1) := by decide +kernel
theorem dX11_pitch_0 : decode cX11_pitch 0 = .ok (.iload_n 1, 1) := by decide +kernel
theorem dX11_pitch_1 : decode cX11_pitch 1 = .ok (.iconst 2, 1) := by decide +kernel
theorem dX11_pitch_2 : decode cX11_pitch 2 = .ok (.bipush 9, 2) := by decide +kernel
theorem dX11_pitch_4 : decode cX11_pitch 4 = .ok (.invokestatic 81, 3) := by decide +kernel
theorem dX11_pitch_7 : decode cX11_pitch 7 = .ok (.ifCond .ne 5, 3) := by decide +kernel
theorem dX11_pitch_10 : decode cX11_pitch 10 = .ok (.iconst 0, 1) := by decide +kernel
theorem dX11_pitch_11 : decode cX11_pitch 11 = .ok (.ireturn, 1) := by decide +kernel
theorem dX11_pitch_12 : decode cX11_pitch 12 = .ok (.aload_n 0, 1) := by decide +kernel
theorem dX11_pitch_13 : decode cX11_pitch 13 = .ok (.getfield 10, 3) := by decide +kernel
theorem dX11_pitch_16 : decode cX11_pitch 16 = .ok (.iload_n 1, 1) := by decide +kernel
theorem dX11_pitch_17 : decode cX11_pitch 17 = .ok (.putfield 96, 3) := by decide +kernel
theorem dX11_pitch_20 : decode cX11_pitch 20 = .ok (.iconst 1, 1) := by decide +kernel
theorem dX11_pitch_21 : decode cX11_pitch 21 = .ok (.ireturn, 1) := by decide +kernel
theorem dX11_feed_0 : decode cX11_feed 0 = .ok (.aload_n 0, 1) := by decide +kernel
theorem dX11_feed_1 : decode cX11_feed 1 = .ok (.getfield 21, 3) := by decide +kernel
theorem dX11_feed_4 : decode cX11_feed 4 = .ok (.getfield 99, 3) := by decide +kernel
theorem dX11_feed_7 : decode cX11_feed 7 = .ok (.bipush 20, 2) := by decide +kernel
theorem dX11_feed_9 : decode cX11_feed 9 = .ok (.iadd, 1) := by decide +kernel
theorem dX11_feed_10 : decode cX11_feed 10 = .ok (.sipush 400, 3) := by decide +kernel
theorem dX11_feed_13 : decode cX11_feed 13 = .ok (.if_icmp .le 5, 3) := by decide +kernel
theorem dX11_feed_16 : decode cX11_feed 16 = .ok (.iconst (-1), 1) := by decide +kernel
theorem dX11_feed_17 : decode cX11_feed 17 = .ok (.ireturn, 1) := by decide +kernel
theorem dX11_feed_18 : decode cX11_feed 18 = .ok (.aload_n 0, 1) := by decide +kernel
theorem dX11_feed_19 : decode cX11_feed 19 = .ok (.getfield 21, 3) := by decide +kernel
theorem dX11_feed_22 : decode cX11_feed 22 = .ok (.iload_n 1, 1) := by decide +kernel
theorem dX11_feed_23 : decode cX11_feed 23 = .ok (.invokevirtual 102, 3) := by decide +kernel
theorem dX11_feed_26 : decode cX11_feed 26 = .ok (.aload_n 0, 1) := by decide +kernel
theorem dX11_feed_27 : decode cX11_feed 27 = .ok (.getfield 21, 3) := by decide +kernel
theorem dX11_feed_30 : decode cX11_feed 30 = .ok (.iload_n 2, 1) := by decide +kernel
theorem dX11_feed_31 : decode cX11_feed 31 = .ok (.invokevirtual 102, 3) := by decide +kernel
theorem dX11_feed_34 : decode cX11_feed 34 = .ok (.aload_n 0, 1) := by decide +kernel
theorem dX11_feed_35 : decode cX11_feed 35 = .ok (.getfield 21, 3) := by decide +kernel
theorem dX11_feed_38 : decode cX11_feed 38 = .ok (.iload_n 3, 1) := by decide +kernel
theorem dX11_feed_39 : decode cX11_feed 39 = .ok (.invokevirtual 102, 3) := by decide +kernel
theorem dX11_feed_42 : decode cX11_feed 42 = .ok (.aload_n 0, 1) := by decide +kernel
theorem dX11_feed_43 : decode cX11_feed 43 = .ok (.getfield 21, 3) := by decide +kernel
theorem dX11_feed_46 : decode cX11_feed 46 = .ok (.iload 4, 2) := by decide +kernel
theorem dX11_feed_48 : decode cX11_feed 48 = .ok (.invokevirtual 102, 3) := by decide +kernel
theorem dX11_feed_51 : decode cX11_feed 51 = .ok (.aload_n 0, 1) := by decide +kernel
theorem dX11_feed_52 : decode cX11_feed 52 = .ok (.getfield 21, 3) := by decide +kernel
theorem dX11_feed_55 : decode cX11_feed 55 = .ok (.iload 5, 2) := by decide +kernel
theorem dX11_feed_57 : decode cX11_feed 57 = .ok (.invokevirtual 102, 3) := by decide +kernel
theorem dX11_feed_60 : decode cX11_feed 60 = .ok (.aload_n 0, 1) := by decide +kernel
theorem dX11_feed_61 : decode cX11_feed 61 = .ok (.getfield 21, 3) := by decide +kernel
theorem dX11_feed_64 : decode cX11_feed 64 = .ok (.getfield 99, 3) := by decide +kernel
theorem dX11_feed_67 : decode cX11_feed 67 = .ok (.ireturn, 1) := by decide +kernel
theorem dX11_end_0 : decode cX11_end 0 = .ok (.iload_n 1, 1) := by decide +kernel
theorem dX11_end_1 : decode cX11_end 1 = .ok (.iconst 0, 1) := by decide +kernel
theorem dX11_end_2 : decode cX11_end 2 = .ok (.aload_n 0, 1) := by decide +kernel
theorem dX11_end_3 : decode cX11_end 3 = .ok (.getfield 21, 3) := by decide +kernel
theorem dX11_end_6 : decode cX11_end 6 = .ok (.getfield 99, 3) := by decide +kernel
theorem dX11_end_9 : decode cX11_end 9 = .ok (.invokestatic 81, 3) := by decide +kernel
theorem dX11_end_12 : decode cX11_end 12 = .ok (.ifCond .ne 5, 3) := by decide +kernel
theorem dX11_end_15 : decode cX11_end 15 = .ok (.iconst 0, 1) := by decide +kernel
theorem dX11_end_16 : decode cX11_end 16 = .ok (.ireturn, 1) := by decide +kernel
theorem dX11_end_17 : decode cX11_end 17 = .ok (.aload_n 0, 1) := by decide +kernel
theorem dX11_end_18 : decode cX11_end 18 = .ok (.getfield 21, 3) := by decide +kernel
theorem dX11_end_21 : decode cX11_end 21 = .ok (.iload_n 1, 1) := by decide +kernel
theorem dX11_end_22 : decode cX11_end 22 = .ok (.putfield 99, 3) := by decide +kernel
theorem dX11_end_25 : decode cX11_end 25 = .ok (.iconst 1, 1) := by decide +kernel
theorem dX11_end_26 : decode cX11_end 26 = .ok (.ireturn, 1) := by decide +kernel
theorem dX11_way_0 : decode cX11_way 0 = .ok (.aload_n 0, 1) := by decide +kernel
theorem dX11_way_1 : decode cX11_way 1 = .ok (.iconst 0, 1) := by decide +kernel
theorem dX11_way_2 : decode cX11_way 2 = .ok (.putfield 70, 3) := by decide +kernel
theorem dX11_way_5 : decode cX11_way 5 = .ok (.aload_n 0, 1) := by decide +kernel
theorem dX11_way_6 : decode cX11_way 6 = .ok (.iconst (-1), 1) := by decide +kernel
theorem dX11_way_7 : decode cX11_way 7 = .ok (.putfield 74, 3) := by decide +kernel
theorem dX11_way_10 : decode cX11_way 10 = .ok (.iconst 0, 1) := by decide +kernel
theorem dX11_way_11 : decode cX11_way 11 = .ok (.istore_n 2, 1) := by decide +kernel
theorem dX11_way_12 : decode cX11_way 12 = .ok (.aload_n 0, 1) := by decide +kernel
theorem dX11_way_13 : decode cX11_way 13 = .ok (.getfield 10, 3) := by decide +kernel
theorem dX11_way_16 : decode cX11_way 16 = .ok (.iload_n 1, 1) := by decide +kernel
theorem dX11_way_17 : decode cX11_way 17 = .ok (.invokevirtual 105, 3) := by decide +kernel
theorem dX11_way_20 : decode cX11_way 20 = .ok (.astore_n 3, 1) := by decide +kernel
theorem dX11_way_21 : decode cX11_way 21 = .ok (.aload_n 3, 1) := by decide +kernel
theorem dX11_way_22 : decode cX11_way 22 = .ok (.ifnull 52, 3) := by decide +kernel
theorem dX11_way_25 : decode cX11_way 25 = .ok (.aload_n 0, 1) := by decide +kernel
theorem dX11_way_26 : decode cX11_way 26 = .ok (.getfield 31, 3) := by decide +kernel
theorem dX11_way_29 : decode cX11_way 29 = .ok (.aload_n 0, 1) := by decide +kernel
theorem dX11_way_30 : decode cX11_way 30 = .ok (.getfield 21, 3) := by decide +kernel
theorem dX11_way_33 : decode cX11_way 33 = .ok (.invokevirtual 109, 3) := by decide +kernel
theorem dX11_way_36 : decode cX11_way 36 = .ok (.istore_n 2, 1) := by decide +kernel
theorem dX11_way_37 : decode cX11_way 37 = .ok (.aload_n 0, 1) := by decide +kernel
theorem dX11_way_38 : decode cX11_way 38 = .ok (.aload_n 0, 1) := by decide +kernel
theorem dX11_way_39 : decode cX11_way 39 = .ok (.getfield 31, 3) := by decide +kernel
theorem dX11_way_42 : decode cX11_way 42 = .ok (.getfield 113, 3) := by decide +kernel
theorem dX11_way_45 : decode cX11_way 45 = .ok (.putfield 70, 3) := by decide +kernel
theorem dX11_way_48 : decode cX11_way 48 = .ok (.aload_n 0, 1) := by decide +kernel
theorem dX11_way_49 : decode cX11_way 49 = .ok (.aload_n 0, 1) := by decide +kernel
theorem dX11_way_50 : decode cX11_way 50 = .ok (.getfield 31, 3) := by decide +kernel
theorem dX11_way_53 : decode cX11_way 53 = .ok (.getfield 116, 3) := by decide +kernel
theorem dX11_way_56 : decode cX11_way 56 = .ok (.putfield 74, 3) := by decide +kernel
theorem dX11_way_59 : decode cX11_way 59 = .ok (.iload_n 2, 1) := by decide +kernel
theorem dX11_way_60 : decode cX11_way 60 = .ok (.ifCond .eq 14, 3) := by decide +kernel
theorem dX11_way_63 : decode cX11_way 63 = .ok (.aload_n 3, 1) := by decide +kernel
theorem dX11_way_64 : decode cX11_way 64 = .ok (.aload_n 0, 1) := by decide +kernel
theorem dX11_way_65 : decode cX11_way 65 = .ok (.getfield 31, 3) := by decide +kernel
theorem dX11_way_68 : decode cX11_way 68 = .ok (.getfield 117, 3) := by decide +kernel
theorem dX11_way_71 : decode cX11_way 71 = .ok (.invokevirtual 120, 3) := by decide +kernel
theorem dX11_way_74 : decode cX11_way 74 = .ok (.aload_n 0, 1) := by decide +kernel
theorem dX11_way_75 : decode cX11_way 75 = .ok (.getfield 21, 3) := by decide +kernel
theorem dX11_way_78 : decode cX11_way 78 = .ok (.iconst 0, 1) := by decide +kernel
theorem dX11_way_79 : decode cX11_way 79 = .ok (.putfield 99, 3) := by decide +kernel
theorem dX11_way_82 : decode cX11_way 82 = .ok (.iload_n 2, 1) := by decide +kernel
theorem dX11_way_83 : decode cX11_way 83 = .ok (.ireturn, 1) := by decide +kernel
theorem dX11_fault_0 : decode cX11_fault 0 = .ok (.iload_n 1, 1) := by decide +kernel
theorem dX11_fault_1 : decode cX11_fault 1 = .ok (.lookupswitch 37 #[(0, 27), (1, 32)], 27) := by decide +kernel
theorem dX11_fault_28 : decode cX11_fault 28 = .ok (.aload_n 0, 1) := by decide +kernel
theorem dX11_fault_29 : decode cX11_fault 29 = .ok (.getfield 70, 3) := by decide +kernel
theorem dX11_fault_32 : decode cX11_fault 32 = .ok (.ireturn, 1) := by decide +kernel
theorem dX11_fault_33 : decode cX11_fault 33 = .ok (.aload_n 0, 1) := by decide +kernel
theorem dX11_fault_34 : decode cX11_fault 34 = .ok (.getfield 74, 3) := by decide +kernel
theorem dX11_fault_37 : decode cX11_fault 37 = .ok (.ireturn, 1) := by decide +kernel
theorem dX11_fault_38 : decode cX11_fault 38 = .ok (.iconst (-1), 1) := by decide +kernel
theorem dX11_fault_39 : decode cX11_fault 39 = .ok (.ireturn, 1) := by decide +kernel
theorem dX11_run_0 : decode cX11_run 0 = .ok (.aload_n 0, 1) := by decide +kernel
theorem dX11_run_1 : decode cX11_run 1 = .ok (.getfield 10, 3) := by decide +kernel
theorem dX11_run_4 : decode cX11_run 4 = .ok (.iload_n 1, 1) := by decide +kernel
theorem dX11_run_5 : decode cX11_run 5 = .ok (.invokevirtual 105, 3) := by decide +kernel
theorem dX11_run_8 : decode cX11_run 8 = .ok (.astore_n 2, 1) := by decide +kernel
theorem dX11_run_9 : decode cX11_run 9 = .ok (.aload_n 2, 1) := by decide +kernel
theorem dX11_run_10 : decode cX11_run 10 = .ok (.ifnull 13, 3) := by decide +kernel
theorem dX11_run_13 : decode cX11_run 13 = .ok (.aload_n 0, 1) := by decide +kernel
theorem dX11_run_14 : decode cX11_run 14 = .ok (.getfield 38, 3) := by decide +kernel
theorem dX11_run_17 : decode cX11_run 17 = .ok (.invokevirtual 124, 3) := by decide +kernel
theorem dX11_run_20 : decode cX11_run 20 = .ok (.ifCond .ne 5, 3) := by decide +kernel
theorem dX11_run_23 : decode cX11_run 23 = .ok (.iconst (-1), 1) := by decide +kernel
theorem dX11_run_24 : decode cX11_run 24 = .ok (.ireturn, 1) := by decide +kernel
theorem dX11_run_25 : decode cX11_run 25 = .ok (.aload_n 0, 1) := by decide +kernel
theorem dX11_run_26 : decode cX11_run 26 = .ok (.getfield 45, 3) := by decide +kernel
theorem dX11_run_29 : decode cX11_run 29 = .ok (.aload_n 2, 1) := by decide +kernel
theorem dX11_run_30 : decode cX11_run 30 = .ok (.aload_n 0, 1) := by decide +kernel
theorem dX11_run_31 : decode cX11_run 31 = .ok (.getfield 38, 3) := by decide +kernel
theorem dX11_run_34 : decode cX11_run 34 = .ok (.aload_n 0, 1) := by decide +kernel
theorem dX11_run_35 : decode cX11_run 35 = .ok (.getfield 10, 3) := by decide +kernel
theorem dX11_run_38 : decode cX11_run 38 = .ok (.invokevirtual 128, 3) := by decide +kernel
theorem dX11_run_41 : decode cX11_run 41 = .ok (.ireturn, 1) := by decide +kernel
theorem dX11_cell_0 : decode cX11_cell 0 = .ok (.aload_n 0, 1) := by decide +kernel
theorem dX11_cell_1 : decode cX11_cell 1 = .ok (.getfield 38, 3) := by decide +kernel
theorem dX11_cell_4 : decode cX11_cell 4 = .ok (.iload_n 1, 1) := by decide +kernel
theorem dX11_cell_5 : decode cX11_cell 5 = .ok (.iload_n 2, 1) := by decide +kernel
theorem dX11_cell_6 : decode cX11_cell 6 = .ok (.invokevirtual 132, 3) := by decide +kernel
theorem dX11_cell_9 : decode cX11_cell 9 = .ok (.ifCond .ne 5, 3) := by decide +kernel
theorem dX11_cell_12 : decode cX11_cell 12 = .ok (.iconst (-1), 1) := by decide +kernel
theorem dX11_cell_13 : decode cX11_cell 13 = .ok (.ireturn, 1) := by decide +kernel
theorem dX11_cell_14 : decode cX11_cell 14 = .ok (.aload_n 0, 1) := by decide +kernel
theorem dX11_cell_15 : decode cX11_cell 15 = .ok (.getfield 38, 3) := by decide +kernel
theorem dX11_cell_18 : decode cX11_cell 18 = .ok (.iload_n 1, 1) := by decide +kernel
theorem dX11_cell_19 : decode cX11_cell 19 = .ok (.iload_n 2, 1) := by decide +kernel
theorem dX11_cell_20 : decode cX11_cell 20 = .ok (.invokevirtual 136, 3) := by decide +kernel
theorem dX11_cell_23 : decode cX11_cell 23 = .ok (.istore 4, 2) := by decide +kernel
theorem dX11_cell_25 : decode cX11_cell 25 = .ok (.iload_n 3, 1) := by decide +kernel
theorem dX11_cell_26 : decode cX11_cell 26 = .ok (.tableswitch 130 0 5 #[38, 49, 59, 70, 83, 104], 38) := by decide +kernel
theorem dX11_cell_64 : decode cX11_cell 64 = .ok (.aload_n 0, 1) := by decide +kernel
theorem dX11_cell_65 : decode cX11_cell 65 = .ok (.getfield 38, 3) := by decide +kernel
theorem dX11_cell_68 : decode cX11_cell 68 = .ok (.getfield 140, 3) := by decide +kernel
theorem dX11_cell_71 : decode cX11_cell 71 = .ok (.iload 4, 2) := by decide +kernel
theorem dX11_cell_73 : decode cX11_cell 73 = .ok (.iaload, 1) := by decide +kernel
theorem dX11_cell_74 : decode cX11_cell 74 = .ok (.ireturn, 1) := by decide +kernel
theorem dX11_cell_75 : decode cX11_cell 75 = .ok (.aload_n 0, 1) := by decide +kernel
theorem dX11_cell_76 : decode cX11_cell 76 = .ok (.getfield 38, 3) := by decide +kernel
theorem dX11_cell_79 : decode cX11_cell 79 = .ok (.iload 4, 2) := by decide +kernel
theorem dX11_cell_81 : decode cX11_cell 81 = .ok (.invokevirtual 144, 3) := by decide +kernel
theorem dX11_cell_84 : decode cX11_cell 84 = .ok (.ireturn, 1) := by decide +kernel
theorem dX11_cell_85 : decode cX11_cell 85 = .ok (.aload_n 0, 1) := by decide +kernel
theorem dX11_cell_86 : decode cX11_cell 86 = .ok (.getfield 38, 3) := by decide +kernel
theorem dX11_cell_89 : decode cX11_cell 89 = .ok (.getfield 148, 3) := by decide +kernel
theorem dX11_cell_92 : decode cX11_cell 92 = .ok (.iload 4, 2) := by decide +kernel
theorem dX11_cell_94 : decode cX11_cell 94 = .ok (.iaload, 1) := by decide +kernel
theorem dX11_cell_95 : decode cX11_cell 95 = .ok (.ireturn, 1) := by decide +kernel
theorem dX11_cell_96 : decode cX11_cell 96 = .ok (.aload_n 0, 1) := by decide +kernel
theorem dX11_cell_97 : decode cX11_cell 97 = .ok (.getfield 38, 3) := by decide +kernel
theorem dX11_cell_100 : decode cX11_cell 100 = .ok (.iload 4, 2) := by decide +kernel
theorem dX11_cell_102 : decode cX11_cell 102 = .ok (.invokevirtual 151, 3) := by decide +kernel
theorem dX11_cell_105 : decode cX11_cell 105 = .ok (.getfield 155, 3) := by decide +kernel
theorem dX11_cell_108 : decode cX11_cell 108 = .ok (.ireturn, 1) := by decide +kernel
theorem dX11_cell_109 : decode cX11_cell 109 = .ok (.aload_n 0, 1) := by decide +kernel
theorem dX11_cell_110 : decode cX11_cell 110 = .ok (.getfield 38, 3) := by decide +kernel
theorem dX11_cell_113 : decode cX11_cell 113 = .ok (.iload 4, 2) := by decide +kernel
theorem dX11_cell_115 : decode cX11_cell 115 = .ok (.invokevirtual 151, 3) := by decide +kernel
theorem dX11_cell_118 : decode cX11_cell 118 = .ok (.getfield 158, 3) := by decide +kernel
theorem dX11_cell_121 : decode cX11_cell 121 = .ok (.ifCond .eq 7, 3) := by decide +kernel
theorem dX11_cell_124 : decode cX11_cell 124 = .ok (.iconst 1, 1) := by decide +kernel
theorem dX11_cell_125 : decode cX11_cell 125 = .ok (.goto 4, 3) := by decide +kernel
theorem dX11_cell_128 : decode cX11_cell 128 = .ok (.iconst 0, 1) := by decide +kernel
theorem dX11_cell_129 : decode cX11_cell 129 = .ok (.ireturn, 1) := by decide +kernel
theorem dX11_cell_130 : decode cX11_cell 130 = .ok (.aload_n 0, 1) := by decide +kernel
theorem dX11_cell_131 : decode cX11_cell 131 = .ok (.getfield 38, 3) := by decide +kernel
theorem dX11_cell_134 : decode cX11_cell 134 = .ok (.iload 4, 2) := by decide +kernel
theorem dX11_cell_136 : decode cX11_cell 136 = .ok (.invokevirtual 161, 3) := by decide +kernel
theorem dX11_cell_139 : decode cX11_cell 139 = .ok (.ifCond .eq 15, 3) := by decide +kernel
theorem dX11_cell_142 : decode cX11_cell 142 = .ok (.aload_n 0, 1) := by decide +kernel
theorem dX11_cell_143 : decode cX11_cell 143 = .ok (.getfield 38, 3) := by decide +kernel
theorem dX11_cell_146 : decode cX11_cell 146 = .ok (.iload 4, 2) := by decide +kernel
theorem dX11_cell_148 : decode cX11_cell 148 = .ok (.invokevirtual 165, 3) := by decide +kernel
theorem dX11_cell_151 : decode cX11_cell 151 = .ok (.goto 4, 3) := by decide +kernel
theorem dX11_cell_154 : decode cX11_cell 154 = .ok (.iconst (-1), 1) := by decide +kernel
theorem dX11_cell_155 : decode cX11_cell 155 = .ok (.ireturn, 1) := by decide +kernel
theorem dX11_cell_156 : decode cX11_cell 156 = .ok (.iconst (-1), 1) := by decide +kernel
theorem dX11_cell_157 : decode cX11_cell 157 = .ok (.ireturn, 1) := by decide +kernel
theorem dX11_look_0 : decode cX11_look 0 = .ok (.iload_n 1, 1) := by decide +kernel
theorem dX11_look_1 : decode cX11_look 1 = .ok (.iconst 0, 1) := by decide +kernel
theorem dX11_look_2 : decode cX11_look 2 = .ok (.bipush 13, 2) := by decide +kernel
theorem dX11_look_4 : decode cX11_look 4 = .ok (.invokestatic 81, 3) := by decide +kernel
theorem dX11_look_7 : decode cX11_look 7 = .ok (.ifCond .ne 5, 3) := by decide +kernel
theorem dX11_look_10 : decode cX11_look 10 = .ok (.iconst (-1), 1) := by decide +kernel
theorem dX11_look_11 : decode cX11_look 11 = .ok (.ireturn, 1) := by decide +kernel
theorem dX11_look_12 : decode cX11_look 12 = .ok (.aload_n 0, 1) := by decide +kernel
theorem dX11_look_13 : decode cX11_look 13 = .ok (.getfield 38, 3) := by decide +kernel
theorem dX11_look_16 : decode cX11_look 16 = .ok (.invokevirtual 124, 3) := by decide +kernel
theorem dX11_look_19 : decode cX11_look 19 = .ok (.ifCond .ne 5, 3) := by decide +kernel
theorem dX11_look_22 : decode cX11_look 22 = .ok (.iconst 0, 1) := by decide +kernel
theorem dX11_look_23 : decode cX11_look 23 = .ok (.ireturn, 1) := by decide +kernel
theorem dX11_look_24 : decode cX11_look 24 = .ok (.iload_n 1, 1) := by decide +kernel
theorem dX11_look_25 : decode cX11_look 25 = .ok (.tableswitch 199 0 12 #[67, 75, 86, 97, 116, 127, 138, 147, 156, 165, 173, 181, 190], 67) := by decide +kernel
theorem dX11_look_92 : decode cX11_look 92 = .ok (.aload_n 0, 1) := by decide +kernel
theorem dX11_look_93 : decode cX11_look 93 = .ok (.getfield 38, 3) := by decide +kernel
theorem dX11_look_96 : decode cX11_look 96 = .ok (.getfield 168, 3) := by decide +kernel
theorem dX11_look_99 : decode cX11_look 99 = .ok (.ireturn, 1) := by decide +kernel
theorem dX11_look_100 : decode cX11_look 100 = .ok (.aload_n 0, 1) := by decide +kernel
theorem dX11_look_101 : decode cX11_look 101 = .ok (.getfield 38, 3) := by decide +kernel
theorem dX11_look_104 : decode cX11_look 104 = .ok (.getfield 171, 3) := by decide +kernel
theorem dX11_look_107 : decode cX11_look 107 = .ok (.getfield 175, 3) := by decide +kernel
theorem dX11_look_110 : decode cX11_look 110 = .ok (.ireturn, 1) := by decide +kernel
theorem dX11_look_111 : decode cX11_look 111 = .ok (.aload_n 0, 1) := by decide +kernel
theorem dX11_look_112 : decode cX11_look 112 = .ok (.getfield 38, 3) := by decide +kernel
theorem dX11_look_115 : decode cX11_look 115 = .ok (.getfield 171, 3) := by decide +kernel
theorem dX11_look_118 : decode cX11_look 118 = .ok (.getfield 180, 3) := by decide +kernel
theorem dX11_look_121 : decode cX11_look 121 = .ok (.ireturn, 1) := by decide +kernel
theorem dX11_look_122 : decode cX11_look 122 = .ok (.aload_n 0, 1) := by decide +kernel
theorem dX11_look_123 : decode cX11_look 123 = .ok (.getfield 38, 3) := by decide +kernel
theorem dX11_look_126 : decode cX11_look 126 = .ok (.getfield 171, 3) := by decide +kernel
theorem dX11_look_129 : decode cX11_look 129 = .ok (.getfield 183, 3) := by decide +kernel
theorem dX11_look_132 : decode cX11_look 132 = .ok (.ifCond .eq 7, 3) := by decide +kernel
theorem dX11_look_135 : decode cX11_look 135 = .ok (.iconst 1, 1) := by decide +kernel
theorem dX11_look_136 : decode cX11_look 136 = .ok (.goto 4, 3) := by decide +kernel
theorem dX11_look_139 : decode cX11_look 139 = .ok (.iconst 0, 1) := by decide +kernel
theorem dX11_look_140 : decode cX11_look 140 = .ok (.ireturn, 1) := by decide +kernel
theorem dX11_look_141 : decode cX11_look 141 = .ok (.aload_n 0, 1) := by decide +kernel
theorem dX11_look_142 : decode cX11_look 142 = .ok (.getfield 38, 3) := by decide +kernel
theorem dX11_look_145 : decode cX11_look 145 = .ok (.getfield 171, 3) := by decide +kernel
theorem dX11_look_148 : decode cX11_look 148 = .ok (.getfield 186, 3) := by decide +kernel
theorem dX11_look_151 : decode cX11_look 151 = .ok (.ireturn, 1) := by decide +kernel
theorem dX11_look_152 : decode cX11_look 152 = .ok (.aload_n 0, 1) := by decide +kernel
theorem dX11_look_153 : decode cX11_look 153 = .ok (.getfield 38, 3) := by decide +kernel
theorem dX11_look_156 : decode cX11_look 156 = .ok (.getfield 171, 3) := by decide +kernel
theorem dX11_look_159 : decode cX11_look 159 = .ok (.getfield 189, 3) := by decide +kernel
theorem dX11_look_162 : decode cX11_look 162 = .ok (.ireturn, 1) := by decide +kernel
theorem dX11_look_163 : decode cX11_look 163 = .ok (.aload_n 0, 1) := by decide +kernel
theorem dX11_look_164 : decode cX11_look 164 = .ok (.getfield 38, 3) := by decide +kernel
theorem dX11_look_167 : decode cX11_look 167 = .ok (.iconst 0, 1) := by decide +kernel
theorem dX11_look_168 : decode cX11_look 168 = .ok (.invokevirtual 192, 3) := by decide +kernel
theorem dX11_look_171 : decode cX11_look 171 = .ok (.ireturn, 1) := by decide +kernel
theorem dX11_look_172 : decode cX11_look 172 = .ok (.aload_n 0, 1) := by decide +kernel
theorem dX11_look_173 : decode cX11_look 173 = .ok (.getfield 38, 3) := by decide +kernel
theorem dX11_look_176 : decode cX11_look 176 = .ok (.iconst 1, 1) := by decide +kernel
theorem dX11_look_177 : decode cX11_look 177 = .ok (.invokevirtual 192, 3) := by decide +kernel
theorem dX11_look_180 : decode cX11_look 180 = .ok (.ireturn, 1) := by decide +kernel
theorem dX11_look_181 : decode cX11_look 181 = .ok (.aload_n 0, 1) := by decide +kernel
theorem dX11_look_182 : decode cX11_look 182 = .ok (.getfield 38, 3) := by decide +kernel
theorem dX11_look_185 : decode cX11_look 185 = .ok (.iconst 2, 1) := by decide +kernel
theorem dX11_look_186 : decode cX11_look 186 = .ok (.invokevirtual 192, 3) := by decide +kernel
theorem dX11_look_189 : decode cX11_look 189 = .ok (.ireturn, 1) := by decide +kernel
theorem dX11_look_190 : decode cX11_look 190 = .ok (.aload_n 0, 1) := by decide +kernel
theorem dX11_look_191 : decode cX11_look 191 = .ok (.getfield 38, 3) := by decide +kernel
theorem dX11_look_194 : decode cX11_look 194 = .ok (.invokevirtual 195, 3) := by decide +kernel
theorem dX11_look_197 : decode cX11_look 197 = .ok (.ireturn, 1) := by decide +kernel
theorem dX11_look_198 : decode cX11_look 198 = .ok (.aload_n 0, 1) := by decide +kernel
theorem dX11_look_199 : decode cX11_look 199 = .ok (.getfield 38, 3) := by decide +kernel
theorem dX11_look_202 : decode cX11_look 202 = .ok (.invokevirtual 199, 3) := by decide +kernel
theorem dX11_look_205 : decode cX11_look 205 = .ok (.ireturn, 1) := by decide +kernel
theorem dX11_look_206 : decode cX11_look 206 = .ok (.aload_n 0, 1) := by decide +kernel
theorem dX11_look_207 : decode cX11_look 207 = .ok (.getfield 38, 3) := by decide +kernel
theorem dX11_look_210 : decode cX11_look 210 = .ok (.iconst 0, 1) := by decide +kernel
theorem dX11_look_211 : decode cX11_look 211 = .ok (.invokevirtual 202, 3) := by decide +kernel
theorem dX11_look_214 : decode cX11_look 214 = .ok (.ireturn, 1) := by decide +kernel
theorem dX11_look_215 : decode cX11_look 215 = .ok (.aload_n 0, 1) := by decide +kernel
theorem dX11_look_216 : decode cX11_look 216 = .ok (.getfield 38, 3) := by decide +kernel
theorem dX11_look_219 : decode cX11_look 219 = .ok (.iconst 1, 1) := by decide +kernel
theorem dX11_look_220 : decode cX11_look 220 = .ok (.invokevirtual 202, 3) := by decide +kernel
theorem dX11_look_223 : decode cX11_look 223 = .ok (.ireturn, 1) := by decide +kernel
theorem dX11_look_224 : decode cX11_look 224 = .ok (.aload_n 0, 1) := by decide +kernel
theorem dX11_look_225 : decode cX11_look 225 = .ok (.getfield 38, 3) := by decide +kernel
theorem dX11_look_228 : decode cX11_look 228 = .ok (.getfield 206, 3) := by decide +kernel
theorem dX11_look_231 : decode cX11_look 231 = .ok (.ireturn, 1) := by decide +kernel
theorem dX11_heat_0 : decode cX11_heat 0 = .ok (.iload_n 1, 1) := by decide +kernel
theorem dX11_heat_1 : decode cX11_heat 1 = .ok (.tableswitch 63 0 3 #[31, 39, 47, 55], 31) := by decide +kernel
theorem dX11_heat_32 : decode cX11_heat 32 = .ok (.aload_n 0, 1) := by decide +kernel
theorem dX11_heat_33 : decode cX11_heat 33 = .ok (.getfield 38, 3) := by decide +kernel
theorem dX11_heat_36 : decode cX11_heat 36 = .ok (.getfield 209, 3) := by decide +kernel
theorem dX11_heat_39 : decode cX11_heat 39 = .ok (.lreturn, 1) := by decide +kernel
theorem dX11_heat_40 : decode cX11_heat 40 = .ok (.aload_n 0, 1) := by decide +kernel
theorem dX11_heat_41 : decode cX11_heat 41 = .ok (.getfield 38, 3) := by decide +kernel
theorem dX11_heat_44 : decode cX11_heat 44 = .ok (.invokevirtual 213, 3) := by decide +kernel
theorem dX11_heat_47 : decode cX11_heat 47 = .ok (.lreturn, 1) := by decide +kernel
theorem dX11_heat_48 : decode cX11_heat 48 = .ok (.aload_n 0, 1) := by decide +kernel
theorem dX11_heat_49 : decode cX11_heat 49 = .ok (.getfield 38, 3) := by decide +kernel
theorem dX11_heat_52 : decode cX11_heat 52 = .ok (.getfield 217, 3) := by decide +kernel
theorem dX11_heat_55 : decode cX11_heat 55 = .ok (.lreturn, 1) := by decide +kernel
theorem dX11_heat_56 : decode cX11_heat 56 = .ok (.aload_n 0, 1) := by decide +kernel
theorem dX11_heat_57 : decode cX11_heat 57 = .ok (.getfield 38, 3) := by decide +kernel
theorem dX11_heat_60 : decode cX11_heat 60 = .ok (.getfield 220, 3) := by decide +kernel
theorem dX11_heat_63 : decode cX11_heat 63 = .ok (.lreturn, 1) := by decide +kernel
theorem dX11_heat_64 : decode cX11_heat 64 = .ok (.ldc2_w 223, 3) := by decide +kernel
theorem dX11_heat_67 : decode cX11_heat 67 = .ok (.lreturn, 1) := by decide +kernel
theorem dX11_order_0 : decode cX11_order 0 = .ok (.iload_n 1, 1) := by decide +kernel
theorem dX11_order_1 : decode cX11_order 1 = .ok (.iconst 1, 1) := by decide +kernel
theorem dX11_order_2 : decode cX11_order 2 = .ok (.sipush 255, 3) := by decide +kernel
theorem dX11_order_5 : decode cX11_order 5 = .ok (.invokestatic 81, 3) := by decide +kernel
theorem dX11_order_8 : decode cX11_order 8 = .ok (.ifCond .eq 15, 3) := by decide +kernel
theorem dX11_order_11 : decode cX11_order 11 = .ok (.iload_n 1, 1) := by decide +kernel
theorem dX11_order_12 : decode cX11_order 12 = .ok (.invokestatic 225, 3) := by decide +kernel
theorem dX11_order_15 : decode cX11_order 15 = .ok (.iconst 3, 1) := by decide +kernel
theorem dX11_order_16 : decode cX11_order 16 = .ok (.if_icmp .gt 7, 3) := by decide +kernel
theorem dX11_order_19 : decode cX11_order 19 = .ok (.iconst 1, 1) := by decide +kernel
theorem dX11_order_20 : decode cX11_order 20 = .ok (.goto 4, 3) := by decide +kernel
theorem dX11_order_23 : decode cX11_order 23 = .ok (.iconst 0, 1) := by decide +kernel
theorem dX11_order_24 : decode cX11_order 24 = .ok (.istore_n 3, 1) := by decide +kernel
theorem dX11_order_25 : decode cX11_order 25 = .ok (.iload_n 3, 1) := by decide +kernel
theorem dX11_order_26 : decode cX11_order 26 = .ok (.ifCond .eq 22, 3) := by decide +kernel
theorem dX11_order_29 : decode cX11_order 29 = .ok (.aload_n 0, 1) := by decide +kernel
theorem dX11_order_30 : decode cX11_order 30 = .ok (.getfield 38, 3) := by decide +kernel
theorem dX11_order_33 : decode cX11_order 33 = .ok (.invokevirtual 124, 3) := by decide +kernel
theorem dX11_order_36 : decode cX11_order 36 = .ok (.ifCond .eq 12, 3) := by decide +kernel
theorem dX11_order_39 : decode cX11_order 39 = .ok (.iload_n 2, 1) := by decide +kernel
theorem dX11_order_40 : decode cX11_order 40 = .ok (.iconst 0, 1) := by decide +kernel
theorem dX11_order_41 : decode cX11_order 41 = .ok (.iconst 2, 1) := by decide +kernel
theorem dX11_order_42 : decode cX11_order 42 = .ok (.invokestatic 81, 3) := by decide +kernel
theorem dX11_order_45 : decode cX11_order 45 = .ok (.ifCond .ne 5, 3) := by decide +kernel
theorem dX11_order_48 : decode cX11_order 48 = .ok (.iconst (-1), 1) := by decide +kernel
theorem dX11_order_49 : decode cX11_order 49 = .ok (.ireturn, 1) := by decide +kernel
theorem dX11_order_50 : decode cX11_order 50 = .ok (.aload_n 0, 1) := by decide +kernel
theorem dX11_order_51 : decode cX11_order 51 = .ok (.getfield 52, 3) := by decide +kernel
theorem dX11_order_54 : decode cX11_order 54 = .ok (.aload_n 0, 1) := by decide +kernel
theorem dX11_order_55 : decode cX11_order 55 = .ok (.getfield 10, 3) := by decide +kernel
theorem dX11_order_58 : decode cX11_order 58 = .ok (.aload_n 0, 1) := by decide +kernel
theorem dX11_order_59 : decode cX11_order 59 = .ok (.getfield 38, 3) := by decide +kernel
theorem dX11_order_62 : decode cX11_order 62 = .ok (.iload_n 1, 1) := by decide +kernel
theorem dX11_order_63 : decode cX11_order 63 = .ok (.invokevirtual 230, 3) := by decide +kernel
theorem dX11_order_66 : decode cX11_order 66 = .ok (.iload_n 2, 1) := by decide +kernel
theorem dX11_order_67 : decode cX11_order 67 = .ok (.lookupswitch 41 #[(0, 25), (1, 33)], 25) := by decide +kernel
theorem dX11_order_92 : decode cX11_order 92 = .ok (.aload_n 0, 1) := by decide +kernel
theorem dX11_order_93 : decode cX11_order 93 = .ok (.getfield 52, 3) := by decide +kernel
theorem dX11_order_96 : decode cX11_order 96 = .ok (.getfield 234, 3) := by decide +kernel
theorem dX11_order_99 : decode cX11_order 99 = .ok (.ireturn, 1) := by decide +kernel
theorem dX11_order_100 : decode cX11_order 100 = .ok (.aload_n 0, 1) := by decide +kernel
theorem dX11_order_101 : decode cX11_order 101 = .ok (.getfield 52, 3) := by decide +kernel
theorem dX11_order_104 : decode cX11_order 104 = .ok (.getfield 237, 3) := by decide +kernel
theorem dX11_order_107 : decode cX11_order 107 = .ok (.ireturn, 1) := by decide +kernel
theorem dX11_order_108 : decode cX11_order 108 = .ok (.aload_n 0, 1) := by decide +kernel
theorem dX11_order_109 : decode cX11_order 109 = .ok (.getfield 52, 3) := by decide +kernel
theorem dX11_order_112 : decode cX11_order 112 = .ok (.getfield 240, 3) := by decide +kernel
theorem dX11_order_115 : decode cX11_order 115 = .ok (.ireturn, 1) := by decide +kernel
theorem dX11_speed_0 : decode cX11_speed 0 = .ok (.iload_n 1, 1) := by decide +kernel
theorem dX11_speed_1 : decode cX11_speed 1 = .ok (.iconst 0, 1) := by decide +kernel
theorem dX11_speed_2 : decode cX11_speed 2 = .ok (.iconst 3, 1) := by decide +kernel
theorem dX11_speed_3 : decode cX11_speed 3 = .ok (.invokestatic 81, 3) := by decide +kernel
theorem dX11_speed_6 : decode cX11_speed 6 = .ok (.ifCond .eq 23, 3) := by decide +kernel
theorem dX11_speed_9 : decode cX11_speed 9 = .ok (.iload_n 2, 1) := by decide +kernel
theorem dX11_speed_10 : decode cX11_speed 10 = .ok (.iconst 1, 1) := by decide +kernel
theorem dX11_speed_11 : decode cX11_speed 11 = .ok (.bipush 15, 2) := by decide +kernel
theorem dX11_speed_13 : decode cX11_speed 13 = .ok (.invokestatic 81, 3) := by decide +kernel
theorem dX11_speed_16 : decode cX11_speed 16 = .ok (.ifCond .eq 13, 3) := by decide +kernel
theorem dX11_speed_19 : decode cX11_speed 19 = .ok (.aload_n 0, 1) := by decide +kernel
theorem dX11_speed_20 : decode cX11_speed 20 = .ok (.getfield 38, 3) := by decide +kernel
theorem dX11_speed_23 : decode cX11_speed 23 = .ok (.invokevirtual 124, 3) := by decide +kernel
theorem dX11_speed_26 : decode cX11_speed 26 = .ok (.ifCond .ne 5, 3) := by decide +kernel
theorem dX11_speed_29 : decode cX11_speed 29 = .ok (.iconst (-1), 1) := by decide +kernel
theorem dX11_speed_30 : decode cX11_speed 30 = .ok (.ireturn, 1) := by decide +kernel
theorem dX11_speed_31 : decode cX11_speed 31 = .ok (.aload_n 0, 1) := by decide +kernel
theorem dX11_speed_32 : decode cX11_speed 32 = .ok (.getfield 52, 3) := by decide +kernel
theorem dX11_speed_35 : decode cX11_speed 35 = .ok (.aload_n 0, 1) := by decide +kernel
theorem dX11_speed_36 : decode cX11_speed 36 = .ok (.getfield 10, 3) := by decide +kernel
theorem dX11_speed_39 : decode cX11_speed 39 = .ok (.aload_n 0, 1) := by decide +kernel
theorem dX11_speed_40 : decode cX11_speed 40 = .ok (.getfield 38, 3) := by decide +kernel
theorem dX11_speed_43 : decode cX11_speed 43 = .ok (.iload_n 1, 1) := by decide +kernel
theorem dX11_speed_44 : decode cX11_speed 44 = .ok (.iload_n 2, 1) := by decide +kernel
theorem dX11_speed_45 : decode cX11_speed 45 = .ok (.invokevirtual 243, 3) := by decide +kernel
theorem dX11_speed_48 : decode cX11_speed 48 = .ok (.ireturn, 1) := by decide +kernel
theorem dX11_kind_0 : decode cX11_kind 0 = .ok (.aload_n 0, 1) := by decide +kernel
theorem dX11_kind_1 : decode cX11_kind 1 = .ok (.getfield 59, 3) := by decide +kernel
theorem dX11_kind_4 : decode cX11_kind 4 = .ok (.iload_n 1, 1) := by decide +kernel
theorem dX11_kind_5 : decode cX11_kind 5 = .ok (.iload_n 2, 1) := by decide +kernel
theorem dX11_kind_6 : decode cX11_kind 6 = .ok (.iload_n 3, 1) := by decide +kernel
theorem dX11_kind_7 : decode cX11_kind 7 = .ok (.invokevirtual 247, 3) := by decide +kernel
theorem dX11_kind_10 : decode cX11_kind 10 = .ok (.ireturn, 1) := by decide +kernel
theorem dX11_fill_0 : decode cX11_fill 0 = .ok (.aload_n 0, 1) := by decide +kernel
theorem dX11_fill_1 : decode cX11_fill 1 = .ok (.getfield 59, 3) := by decide +kernel
theorem dX11_fill_4 : decode cX11_fill 4 = .ok (.iload_n 1, 1) := by decide +kernel
theorem dX11_fill_5 : decode cX11_fill 5 = .ok (.iload_n 2, 1) := by decide +kernel
theorem dX11_fill_6 : decode cX11_fill 6 = .ok (.invokevirtual 251, 3) := by decide +kernel
theorem dX11_fill_9 : decode cX11_fill 9 = .ok (.ireturn, 1) := by decide +kernel
theorem dX11_test_0 : decode cX11_test 0 = .ok (.aload_n 0, 1) := by decide +kernel
theorem dX11_test_1 : decode cX11_test 1 = .ok (.getfield 66, 3) := by decide +kernel
theorem dX11_test_4 : decode cX11_test 4 = .ok (.iload_n 1, 1) := by decide +kernel
theorem dX11_test_5 : decode cX11_test 5 = .ok (.iload_n 2, 1) := by decide +kernel
theorem dX11_test_6 : decode cX11_test 6 = .ok (.iload_n 3, 1) := by decide +kernel
theorem dX11_test_7 : decode cX11_test 7 = .ok (.iload 4, 2) := by decide +kernel
theorem dX11_test_9 : decode cX11_test 9 = .ok (.invokevirtual 254, 3) := by decide +kernel
theorem dX11_test_12 : decode cX11_test 12 = .ok (.ireturn, 1) := by decide +kernel
theorem dX11_known_0 : decode cX11_known 0 = .ok (.iload_n 1, 1) := by decide +kernel
theorem dX11_known_1 : decode cX11_known 1 = .ok (.iconst 0, 1) := by decide +kernel
theorem dX11_known_2 : decode cX11_known 2 = .ok (.iconst 3, 1) := by decide +kernel
theorem dX11_known_3 : decode cX11_known 3 = .ok (.invokestatic 81, 3) := by decide +kernel
theorem dX11_known_6 : decode cX11_known 6 = .ok (.ifCond .eq 14, 3) := by decide +kernel
theorem dX11_known_9 : decode cX11_known 9 = .ok (.iload_n 2, 1) := by decide +kernel
theorem dX11_known_10 : decode cX11_known 10 = .ok (.iconst 0, 1) := by decide +kernel
theorem dX11_known_11 : decode cX11_known 11 = .ok (.sipush 999, 3) := by decide +kernel
theorem dX11_known_14 : decode cX11_known 14 = .ok (.invokestatic 81, 3) := by decide +kernel
theorem dX11_known_17 : decode cX11_known 17 = .ok (.ifCond .ne 5, 3) := by decide +kernel
theorem dX11_known_20 : decode cX11_known 20 = .ok (.iconst (-1), 1) := by decide +kernel
theorem dX11_known_21 : decode cX11_known 21 = .ok (.ireturn, 1) := by decide +kernel
theorem dX11_known_22 : decode cX11_known 22 = .ok (.aload_n 0, 1) := by decide +kernel
theorem dX11_known_23 : decode cX11_known 23 = .ok (.getfield 66, 3) := by decide +kernel
theorem dX11_known_26 : decode cX11_known 26 = .ok (.iload_n 1, 1) := by decide +kernel
theorem dX11_known_27 : decode cX11_known 27 = .ok (.iload_n 2, 1) := by decide +kernel
theorem dX11_known_28 : decode cX11_known 28 = .ok (.invokevirtual 258, 3) := by decide +kernel
theorem dX11_known_31 : decode cX11_known 31 = .ok (.istore 4, 2) := by decide +kernel
theorem dX11_known_33 : decode cX11_known 33 = .ok (.aload_n 0, 1) := by decide +kernel
theorem dX11_known_34 : decode cX11_known 34 = .ok (.getfield 66, 3) := by decide +kernel
theorem dX11_known_37 : decode cX11_known 37 = .ok (.iload_n 1, 1) := by decide +kernel
theorem dX11_known_38 : decode cX11_known 38 = .ok (.iload_n 2, 1) := by decide +kernel
theorem dX11_known_39 : decode cX11_known 39 = .ok (.invokevirtual 261, 3) := by decide +kernel
theorem dX11_known_42 : decode cX11_known 42 = .ok (.istore 5, 2) := by decide +kernel
theorem dX11_known_44 : decode cX11_known 44 = .ok (.iload_n 3, 1) := by decide +kernel
theorem dX11_known_45 : decode cX11_known 45 = .ok (.tableswitch 69 0 3 #[31, 34, 37, 50], 31) := by decide +kernel
theorem dX11_known_76 : decode cX11_known 76 = .ok (.iload 4, 2) := by decide +kernel
theorem dX11_known_78 : decode cX11_known 78 = .ok (.ireturn, 1) := by decide +kernel
theorem dX11_known_79 : decode cX11_known 79 = .ok (.iload 5, 2) := by decide +kernel
theorem dX11_known_81 : decode cX11_known 81 = .ok (.ireturn, 1) := by decide +kernel
theorem dX11_known_82 : decode cX11_known 82 = .ok (.iload 4, 2) := by decide +kernel
theorem dX11_known_84 : decode cX11_known 84 = .ok (.iload 5, 2) := by decide +kernel
theorem dX11_known_86 : decode cX11_known 86 = .ok (.if_icmp .le 7, 3) := by decide +kernel
theorem dX11_known_89 : decode cX11_known 89 = .ok (.iconst 1, 1) := by decide +kernel
theorem dX11_known_90 : decode cX11_known 90 = .ok (.goto 4, 3) := by decide +kernel
theorem dX11_known_93 : decode cX11_known 93 = .ok (.iconst 0, 1) := by decide +kernel
theorem dX11_known_94 : decode cX11_known 94 = .ok (.ireturn, 1) := by decide +kernel
theorem dX11_known_95 : decode cX11_known 95 = .ok (.iload 4, 2) := by decide +kernel
theorem dX11_known_97 : decode cX11_known 97 = .ok (.iload 5, 2) := by decide +kernel
theorem dX11_known_99 : decode cX11_known 99 = .ok (.if_icmp .ge 13, 3) := by decide +kernel
theorem dX11_known_102 : decode cX11_known 102 = .ok (.iload 4, 2) := by decide +kernel
theorem dX11_known_104 : decode cX11_known 104 = .ok (.iload 5, 2) := by decide +kernel
theorem dX11_known_106 : decode cX11_known 106 = .ok (.iadd, 1) := by decide +kernel
theorem dX11_known_107 : decode cX11_known 107 = .ok (.iconst 2, 1) := by decide +kernel
theorem dX11_known_108 : decode cX11_known 108 = .ok (.idiv, 1) := by decide +kernel
theorem dX11_known_109 : decode cX11_known 109 = .ok (.goto 4, 3) := by decide +kernel
theorem dX11_known_112 : decode cX11_known 112 = .ok (.iconst (-1), 1) := by decide +kernel
theorem dX11_known_113 : decode cX11_known 113 = .ok (.ireturn, 1) := by decide +kernel
theorem dX11_known_114 : decode cX11_known 114 = .ok (.iconst (-1), 1) := by decide +kernel
theorem dX11_known_115 : decode cX11_known 115 = .ok (.ireturn, 1) := by decide +kernel
theorem dX11_sparks_0 : decode cX11_sparks 0 = .ok (.aload_n 0, 1) := by decide +kernel
theorem dX11_sparks_1 : decode cX11_sparks 1 = .ok (.getfield 25, 3) := by decide +kernel
theorem dX11_sparks_4 : decode cX11_sparks 4 = .ok (.aload_n 0, 1) := by decide +kernel
theorem dX11_sparks_5 : decode cX11_sparks 5 = .ok (.getfield 21, 3) := by decide +kernel
theorem dX11_sparks_8 : decode cX11_sparks 8 = .ok (.invokevirtual 120, 3) := by decide +kernel
theorem dX11_sparks_11 : decode cX11_sparks 11 = .ok (.aload_n 0, 1) := by decide +kernel
theorem dX11_sparks_12 : decode cX11_sparks 12 = .ok (.getfield 21, 3) := by decide +kernel
theorem dX11_sparks_15 : decode cX11_sparks 15 = .ok (.iconst 0, 1) := by decide +kernel
theorem dX11_sparks_16 : decode cX11_sparks 16 = .ok (.putfield 99, 3) := by decide +kernel
theorem dX11_sparks_19 : decode cX11_sparks 19 = .ok (.aload_n 0, 1) := by decide +kernel
theorem dX11_sparks_20 : decode cX11_sparks 20 = .ok (.getfield 25, 3) := by decide +kernel
theorem dX11_sparks_23 : decode cX11_sparks 23 = .ok (.getfield 99, 3) := by decide +kernel
theorem dX11_sparks_26 : decode cX11_sparks 26 = .ok (.ireturn, 1) := by decide +kernel
theorem dX11_lost_0 : decode cX11_lost 0 = .ok (.iload_n 1, 1) := by decide +kernel
theorem dX11_lost_1 : decode cX11_lost 1 = .ok (.iconst 0, 1) := by decide +kernel
theorem dX11_lost_2 : decode cX11_lost 2 = .ok (.sipush 256, 3) := by decide +kernel
theorem dX11_lost_5 : decode cX11_lost 5 = .ok (.invokestatic 81, 3) := by decide +kernel
theorem dX11_lost_8 : decode cX11_lost 8 = .ok (.ifCond .eq 13, 3) := by decide +kernel
theorem dX11_lost_11 : decode cX11_lost 11 = .ok (.iload_n 2, 1) := by decide +kernel
theorem dX11_lost_12 : decode cX11_lost 12 = .ok (.iconst 1, 1) := by decide +kernel
theorem dX11_lost_13 : decode cX11_lost 13 = .ok (.bipush 99, 2) := by decide +kernel
theorem dX11_lost_15 : decode cX11_lost 15 = .ok (.invokestatic 81, 3) := by decide +kernel
theorem dX11_lost_18 : decode cX11_lost 18 = .ok (.ifCond .ne 5, 3) := by decide +kernel
theorem dX11_lost_21 : decode cX11_lost 21 = .ok (.iconst (-1), 1) := by decide +kernel
theorem dX11_lost_22 : decode cX11_lost 22 = .ok (.ireturn, 1) := by decide +kernel
theorem dX11_lost_23 : decode cX11_lost 23 = .ok (.aload_n 0, 1) := by decide +kernel
theorem dX11_lost_24 : decode cX11_lost 24 = .ok (.getfield 25, 3) := by decide +kernel
theorem dX11_lost_27 : decode cX11_lost 27 = .ok (.iload_n 1, 1) := by decide +kernel
theorem dX11_lost_28 : decode cX11_lost 28 = .ok (.iload_n 2, 1) := by decide +kernel
theorem dX11_lost_29 : decode cX11_lost 29 = .ok (.invokevirtual 264, 3) := by decide +kernel
theorem dX11_lost_32 : decode cX11_lost 32 = .ok (.ireturn, 1) := by decide +kernel
theorem dX11_within_0 : decode cX11_within 0 = .ok (.iload_n 0, 1) := by decide +kernel
theorem dX11_within_1 : decode cX11_within 1 = .ok (.iload_n 1, 1) := by decide +kernel
theorem dX11_within_2 : decode cX11_within 2 = .ok (.if_icmp .lt 12, 3) := by decide +kernel
theorem dX11_within_5 : decode cX11_within 5 = .ok (.iload_n 0, 1) := by decide +kernel
theorem dX11_within_6 : decode cX11_within 6 = .ok (.iload_n 2, 1) := by decide +kernel
theorem dX11_within_7 : decode cX11_within 7 = .ok (.if_icmp .gt 7, 3) := by decide +kernel
theorem dX11_within_10 : decode cX11_within 10 = .ok (.iconst 1, 1) := by decide +kernel
theorem dX11_within_11 : decode cX11_within 11 = .ok (.goto 4, 3) := by decide +kernel
theorem dX11_within_14 : decode cX11_within 14 = .ok (.iconst 0, 1) := by decide +kernel
theorem dX11_within_15 : decode cX11_within 15 = .ok (.ireturn, 1) := by decide +kernel
theorem dX12_init_0 : decode cX12_init 0 = .ok (.aload_n 0, 1) := by decide +kernel
theorem dX12_init_1 : decode cX12_init 1 = .ok (.invokespecial 1, 3) := by decide +kernel
theorem dX12_init_4 : decode cX12_init 4 = .ok (.aload_n 0, 1) := by decide +kernel
theorem dX12_init_5 : decode cX12_init 5 = .ok (.iconst 4, 1) := by decide +kernel
theorem dX12_init_6 : decode cX12_init 6 = .ok (.newarray .int, 2) := by decide +kernel
theorem dX12_init_8 : decode cX12_init 8 = .ok (.dup, 1) := by decide +kernel
theorem dX12_init_9 : decode cX12_init 9 = .ok (.iconst 0, 1) := by decide +kernel
theorem dX12_init_10 : decode cX12_init 10 = .ok (.bipush 100, 2) := by decide +kernel
theorem dX12_init_12 : decode cX12_init 12 = .ok (.iastore, 1) := by decide +kernel
theorem dX12_init_13 : decode cX12_init 13 = .ok (.dup, 1) := by decide +kernel
theorem dX12_init_14 : decode cX12_init 14 = .ok (.iconst 1, 1) := by decide +kernel
theorem dX12_init_15 : decode cX12_init 15 = .ok (.bipush 100, 2) := by decide +kernel
theorem dX12_init_17 : decode cX12_init 17 = .ok (.iastore, 1) := by decide +kernel
theorem dX12_init_18 : decode cX12_init 18 = .ok (.dup, 1) := by decide +kernel
theorem dX12_init_19 : decode cX12_init 19 = .ok (.iconst 2, 1) := by decide +kernel
theorem dX12_init_20 : decode cX12_init 20 = .ok (.bipush 100, 2) := by decide +kernel
theorem dX12_init_22 : decode cX12_init 22 = .ok (.iastore, 1) := by decide +kernel
theorem dX12_init_23 : decode cX12_init 23 = .ok (.dup, 1) := by decide +kernel
theorem dX12_init_24 : decode cX12_init 24 = .ok (.iconst 3, 1) := by decide +kernel
theorem dX12_init_25 : decode cX12_init 25 = .ok (.bipush 100, 2) := by decide +kernel
theorem dX12_init_27 : decode cX12_init 27 = .ok (.iastore, 1) := by decide +kernel
theorem dX12_init_28 : decode cX12_init 28 = .ok (.putfield 7, 3) := by decide +kernel
theorem dX12_init_31 : decode cX12_init 31 = .ok (.aload_n 0, 1) := by decide +kernel
theorem dX12_init_32 : decode cX12_init 32 = .ok (.iconst 4, 1) := by decide +kernel
theorem dX12_init_33 : decode cX12_init 33 = .ok (.newarray .int, 2) := by decide +kernel
theorem dX12_init_35 : decode cX12_init 35 = .ok (.dup, 1) := by decide +kernel
theorem dX12_init_36 : decode cX12_init 36 = .ok (.iconst 0, 1) := by decide +kernel
theorem dX12_init_37 : decode cX12_init 37 = .ok (.bipush 10, 2) := by decide +kernel
theorem dX12_init_39 : decode cX12_init 39 = .ok (.iastore, 1) := by decide +kernel
theorem dX12_init_40 : decode cX12_init 40 = .ok (.dup, 1) := by decide +kernel
theorem dX12_init_41 : decode cX12_init 41 = .ok (.iconst 1, 1) := by decide +kernel
theorem dX12_init_42 : decode cX12_init 42 = .ok (.bipush 10, 2) := by decide +kernel
theorem dX12_init_44 : decode cX12_init 44 = .ok (.iastore, 1) := by decide +kernel
theorem dX12_init_45 : decode cX12_init 45 = .ok (.dup, 1) := by decide +kernel
theorem dX12_init_46 : decode cX12_init 46 = .ok (.iconst 2, 1) := by decide +kernel
theorem dX12_init_47 : decode cX12_init 47 = .ok (.bipush 10, 2) := by decide +kernel
theorem dX12_init_49 : decode cX12_init 49 = .ok (.iastore, 1) := by decide +kernel
theorem dX12_init_50 : decode cX12_init 50 = .ok (.dup, 1) := by decide +kernel
theorem dX12_init_51 : decode cX12_init 51 = .ok (.iconst 3, 1) := by decide +kernel
theorem dX12_init_52 : decode cX12_init 52 = .ok (.bipush 10, 2) := by decide +kernel
theorem dX12_init_54 : decode cX12_init 54 = .ok (.iastore, 1) := by decide +kernel
theorem dX12_init_55 : decode cX12_init 55 = .ok (.putfield 13, 3) := by decide +kernel
theorem dX12_init_58 : decode cX12_init 58 = .ok (.aload_n 0, 1) := by decide +kernel
theorem dX12_init_59 : decode cX12_init 59 = .ok (.iconst 4, 1) := by decide +kernel
theorem dX12_init_60 : decode cX12_init 60 = .ok (.newarray .int, 2) := by decide +kernel
theorem dX12_init_62 : decode cX12_init 62 = .ok (.dup, 1) := by decide +kernel
theorem dX12_init_63 : decode cX12_init 63 = .ok (.iconst 0, 1) := by decide +kernel
theorem dX12_init_64 : decode cX12_init 64 = .ok (.iconst 2, 1) := by decide +kernel
theorem dX12_init_65 : decode cX12_init 65 = .ok (.iastore, 1) := by decide +kernel
theorem dX12_init_66 : decode cX12_init 66 = .ok (.dup, 1) := by decide +kernel
theorem dX12_init_67 : decode cX12_init 67 = .ok (.iconst 1, 1) := by decide +kernel
theorem dX12_init_68 : decode cX12_init 68 = .ok (.iconst 2, 1) := by decide +kernel
theorem dX12_init_69 : decode cX12_init 69 = .ok (.iastore, 1) := by decide +kernel
theorem dX12_init_70 : decode cX12_init 70 = .ok (.dup, 1) := by decide +kernel
theorem dX12_init_71 : decode cX12_init 71 = .ok (.iconst 2, 1) := by decide +kernel
theorem dX12_init_72 : decode cX12_init 72 = .ok (.iconst 2, 1) := by decide +kernel
theorem dX12_init_73 : decode cX12_init 73 = .ok (.iastore, 1) := by decide +kernel
theorem dX12_init_74 : decode cX12_init 74 = .ok (.dup, 1) := by decide +kernel
theorem dX12_init_75 : decode cX12_init 75 = .ok (.iconst 3, 1) := by decide +kernel
theorem dX12_init_76 : decode cX12_init 76 = .ok (.iconst 2, 1) := by decide +kernel
theorem dX12_init_77 : decode cX12_init 77 = .ok (.iastore, 1) := by decide +kernel
theorem dX12_init_78 : decode cX12_init 78 = .ok (.putfield 16, 3) := by decide +kernel
theorem dX12_init_81 : decode cX12_init 81 = .ok (.aload_n 0, 1) := by decide +kernel
theorem dX12_init_82 : decode cX12_init 82 = .ok (.iconst 4, 1) := by decide +kernel
theorem dX12_init_83 : decode cX12_init 83 = .ok (.newarray .int, 2) := by decide +kernel
theorem dX12_init_85 : decode cX12_init 85 = .ok (.dup, 1) := by decide +kernel
theorem dX12_init_86 : decode cX12_init 86 = .ok (.iconst 0, 1) := by decide +kernel
theorem dX12_init_87 : decode cX12_init 87 = .ok (.bipush 60, 2) := by decide +kernel
theorem dX12_init_89 : decode cX12_init 89 = .ok (.iastore, 1) := by decide +kernel
theorem dX12_init_90 : decode cX12_init 90 = .ok (.dup, 1) := by decide +kernel
theorem dX12_init_91 : decode cX12_init 91 = .ok (.iconst 1, 1) := by decide +kernel
theorem dX12_init_92 : decode cX12_init 92 = .ok (.bipush 60, 2) := by decide +kernel
theorem dX12_init_94 : decode cX12_init 94 = .ok (.iastore, 1) := by decide +kernel
theorem dX12_init_95 : decode cX12_init 95 = .ok (.dup, 1) := by decide +kernel
theorem dX12_init_96 : decode cX12_init 96 = .ok (.iconst 2, 1) := by decide +kernel
theorem dX12_init_97 : decode cX12_init 97 = .ok (.bipush 60, 2) := by decide +kernel
theorem dX12_init_99 : decode cX12_init 99 = .ok (.iastore, 1) := by decide +kernel
theorem dX12_init_100 : decode cX12_init 100 = .ok (.dup, 1) := by decide +kernel
theorem dX12_init_101 : decode cX12_init 101 = .ok (.iconst 3, 1) := by decide +kernel
theorem dX12_init_102 : decode cX12_init 102 = .ok (.bipush 60, 2) := by decide +kernel
theorem dX12_init_104 : decode cX12_init 104 = .ok (.iastore, 1) := by decide +kernel
theorem dX12_init_105 : decode cX12_init 105 = .ok (.putfield 19, 3) := by decide +kernel
theorem dX12_init_108 : decode cX12_init 108 = .ok (.aload_n 0, 1) := by decide +kernel
theorem dX12_init_109 : decode cX12_init 109 = .ok (.bipush 100, 2) := by decide +kernel
theorem dX12_init_111 : decode cX12_init 111 = .ok (.putfield 22, 3) := by decide +kernel
theorem dX12_init_114 : decode cX12_init 114 = .ok (.aload_n 0, 1) := by decide +kernel
theorem dX12_init_115 : decode cX12_init 115 = .ok (.iconst 1, 1) := by decide +kernel
theorem dX12_init_116 : decode cX12_init 116 = .ok (.putfield 26, 3) := by decide +kernel
theorem dX12_init_119 : decode cX12_init 119 = .ok (.aload_n 0, 1) := by decide +kernel
theorem dX12_init_120 : decode cX12_init 120 = .ok (.iconst 4, 1) := by decide +kernel
theorem dX12_init_121 : decode cX12_init 121 = .ok (.putfield 30, 3) := by decide +kernel
theorem dX12_init_124 : decode cX12_init 124 = .ok (.aload_n 0, 1) := by decide +kernel
theorem dX12_init_125 : decode cX12_init 125 = .ok (.sipush 384, 3) := by decide +kernel
theorem dX12_init_128 : decode cX12_init 128 = .ok (.newarray .int, 2) := by decide +kernel
theorem dX12_init_130 : decode cX12_init 130 = .ok (.putfield 33, 3) := by decide +kernel
theorem dX12_init_133 : decode cX12_init 133 = .ok (.aload_n 0, 1) := by decide +kernel
theorem dX12_init_134 : decode cX12_init 134 = .ok (.sipush 192, 3) := by decide +kernel
theorem dX12_init_137 : decode cX12_init 137 = .ok (.newarray .int, 2) := by decide +kernel
theorem dX12_init_139 : decode cX12_init 139 = .ok (.putfield 36, 3) := by decide +kernel
theorem dX12_init_142 : decode cX12_init 142 = .ok (.aload_n 0, 1) := by decide +kernel
theorem dX12_init_143 : decode cX12_init 143 = .ok (.sipush 384, 3) := by decide +kernel
theorem dX12_init_146 : decode cX12_init 146 = .ok (.newarray .int, 2) := by decide +kernel
theorem dX12_init_148 : decode cX12_init 148 = .ok (.putfield 39, 3) := by decide +kernel
theorem dX12_init_151 : decode cX12_init 151 = .ok (.aload_n 0, 1) := by decide +kernel
theorem dX12_init_152 : decode cX12_init 152 = .ok (.sipush 384, 3) := by decide +kernel
theorem dX12_init_155 : decode cX12_init 155 = .ok (.newarray .boolean, 2) := by decide +kernel
theorem dX12_init_157 : decode cX12_init 157 = .ok (.putfield 42, 3) := by decide +kernel
theorem dX12_init_160 : decode cX12_init 160 = .ok (.aload_n 0, 1) := by decide +kernel
theorem dX12_init_161 : decode cX12_init 161 = .ok (.sipush 384, 3) := by decide +kernel
theorem dX12_init_164 : decode cX12_init 164 = .ok (.newarray .boolean, 2) := by decide +kernel
theorem dX12_init_166 : decode cX12_init 166 = .ok (.putfield 46, 3) := by decide +kernel
theorem dX12_init_169 : decode cX12_init 169 = .ok (.aload_n 0, 1) := by decide +kernel
theorem dX12_init_170 : decode cX12_init 170 = .ok (.iconst 2, 1) := by decide +kernel
theorem dX12_init_171 : decode cX12_init 171 = .ok (.newarray .int, 2) := by decide +kernel
theorem dX12_init_173 : decode cX12_init 173 = .ok (.putfield 49, 3) := by decide +kernel
theorem dX12_init_176 : decode cX12_init 176 = .ok (.aload_n 0, 1) := by decide +kernel
theorem dX12_init_177 : decode cX12_init 177 = .ok (.iconst 2, 1) := by decide +kernel
theorem dX12_init_178 : decode cX12_init 178 = .ok (.newarray .int, 2) := by decide +kernel
theorem dX12_init_180 : decode cX12_init 180 = .ok (.putfield 52, 3) := by decide +kernel
theorem dX12_init_183 : decode cX12_init 183 = .ok (.aload_n 0, 1) := by decide +kernel
theorem dX12_init_184 : decode cX12_init 184 = .ok (.iconst 2, 1) := by decide +kernel
theorem dX12_init_185 : decode cX12_init 185 = .ok (.newarray .boolean, 2) := by decide +kernel
theorem dX12_init_187 : decode cX12_init 187 = .ok (.putfield 55, 3) := by decide +kernel
theorem dX12_init_190 : decode cX12_init 190 = .ok (.aload_n 0, 1) := by decide +kernel
theorem dX12_init_191 : decode cX12_init 191 = .ok (.iconst 2, 1) := by decide +kernel
theorem dX12_init_192 : decode cX12_init 192 = .ok (.newarray .int, 2) := by decide +kernel
theorem dX12_init_194 : decode cX12_init 194 = .ok (.putfield 58, 3) := by decide +kernel
theorem dX12_init_197 : decode cX12_init 197 = .ok (.aload_n 0, 1) := by decide +kernel
theorem dX12_init_198 : decode cX12_init 198 = .ok (.iconst 2, 1) := by decide +kernel
theorem dX12_init_199 : decode cX12_init 199 = .ok (.newarray .int, 2) := by decide +kernel
theorem dX12_init_201 : decode cX12_init 201 = .ok (.putfield 61, 3) := by decide +kernel
theorem dX12_init_204 : decode cX12_init 204 = .ok (.aload_n 0, 1) := by decide +kernel
theorem dX12_init_205 : decode cX12_init 205 = .ok (.iconst 2, 1) := by decide +kernel
theorem dX12_init_206 : decode cX12_init 206 = .ok (.newarray .int, 2) := by decide +kernel
theorem dX12_init_208 : decode cX12_init 208 = .ok (.putfield 64, 3) := by decide +kernel
theorem dX12_init_211 : decode cX12_init 211 = .ok (.aload_n 0, 1) := by decide +kernel
theorem dX12_init_212 : decode cX12_init 212 = .ok (.iconst 2, 1) := by decide +kernel
theorem dX12_init_213 : decode cX12_init 213 = .ok (.newarray .int, 2) := by decide +kernel
theorem dX12_init_215 : decode cX12_init 215 = .ok (.putfield 67, 3) := by decide +kernel
theorem dX12_init_218 : decode cX12_init 218 = .ok (.aload_n 0, 1) := by decide +kernel
theorem dX12_init_219 : decode cX12_init 219 = .ok (.iconst 2, 1) := by decide +kernel
theorem dX12_init_220 : decode cX12_init 220 = .ok (.newarray .long, 2) := by decide +kernel
theorem dX12_init_222 : decode cX12_init 222 = .ok (.putfield 70, 3) := by decide +kernel
theorem dX12_init_225 : decode cX12_init 225 = .ok (.aload_n 0, 1) := by decide +kernel
theorem dX12_init_226 : decode cX12_init 226 = .ok (.iconst 2, 1) := by decide +kernel
theorem dX12_init_227 : decode cX12_init 227 = .ok (.newarray .long, 2) := by decide +kernel
theorem dX12_init_229 : decode cX12_init 229 = .ok (.putfield 74, 3) := by decide +kernel
theorem dX12_init_232 : decode cX12_init 232 = .ok (.aload_n 0, 1) := by decide +kernel
theorem dX12_init_233 : decode cX12_init 233 = .ok (.iconst 2, 1) := by decide +kernel
theorem dX12_init_234 : decode cX12_init 234 = .ok (.newarray .long, 2) := by decide +kernel
theorem dX12_init_236 : decode cX12_init 236 = .ok (.putfield 77, 3) := by decide +kernel
theorem dX12_init_239 : decode cX12_init 239 = .ok (.aload_n 0, 1) := by decide +kernel
theorem dX12_init_240 : decode cX12_init 240 = .ok (.sipush 192, 3) := by decide +kernel
theorem dX12_init_243 : decode cX12_init 243 = .ok (.newarray .int, 2) := by decide +kernel
theorem dX12_init_245 : decode cX12_init 245 = .ok (.putfield 80, 3) := by decide +kernel
theorem dX12_init_248 : decode cX12_init 248 = .ok (.aload_n 0, 1) := by decide +kernel
theorem dX12_init_249 : decode cX12_init 249 = .ok (.sipush 192, 3) := by decide +kernel
theorem dX12_init_252 : decode cX12_init 252 = .ok (.newarray .int, 2) := by decide +kernel
theorem dX12_init_254 : decode cX12_init 254 = .ok (.putfield 83, 3) := by decide +kernel
theorem dX12_init_257 : decode cX12_init 257 = .ok (.aload_n 0, 1) := by decide +kernel
theorem dX12_init_258 : decode cX12_init 258 = .ok (.sipush 193, 3) := by decide +kernel
theorem dX12_init_261 : decode cX12_init 261 = .ok (.newarray .int, 2) := by decide +kernel
theorem dX12_init_263 : decode cX12_init 263 = .ok (.putfield 86, 3) := by decide +kernel
theorem dX12_init_266 : decode cX12_init 266 = .ok (.aload_n 0, 1) := by decide +kernel
theorem dX12_init_267 : decode cX12_init 267 = .ok (.sipush 193, 3) := by decide +kernel
theorem dX12_init_270 : decode cX12_init 270 = .ok (.newarray .int, 2) := by decide +kernel
theorem dX12_init_272 : decode cX12_init 272 = .ok (.putfield 89, 3) := by decide +kernel
theorem dX12_init_275 : decode cX12_init 275 = .ok (.aload_n 0, 1) := by decide +kernel
theorem dX12_init_276 : decode cX12_init 276 = .ok (.sipush 193, 3) := by decide +kernel
theorem dX12_init_279 : decode cX12_init 279 = .ok (.newarray .boolean, 2) := by decide +kernel
theorem dX12_init_281 : decode cX12_init 281 = .ok (.putfield 92, 3) := by decide +kernel
theorem dX12_init_284 : decode cX12_init 284 = .ok (.aload_n 0, 1) := by decide +kernel
theorem dX12_init_285 : decode cX12_init 285 = .ok (.sipush 400, 3) := by decide +kernel
theorem dX12_init_288 : decode cX12_init 288 = .ok (.newarray .int, 2) := by decide +kernel
theorem dX12_init_290 : decode cX12_init 290 = .ok (.putfield 95, 3) := by decide +kernel
theorem dX12_init_293 : decode cX12_init 293 = .ok (.aload_n 0, 1) := by decide +kernel
theorem dX12_init_294 : decode cX12_init 294 = .ok (.bipush 83, 2) := by decide +kernel
theorem dX12_init_296 : decode cX12_init 296 = .ok (.newarray .int, 2) := by decide +kernel
theorem dX12_init_298 : decode cX12_init 298 = .ok (.dup, 1) := by decide +kernel
theorem dX12_init_299 : decode cX12_init 299 = .ok (.iconst 0, 1) := by decide +kernel
theorem dX12_init_300 : decode cX12_init 300 = .ok (.bipush 32, 2) := by decide +kernel
theorem dX12_init_302 : decode cX12_init 302 = .ok (.iastore, 1) := by decide +kernel
theorem dX12_init_303 : decode cX12_init 303 = .ok (.dup, 1) := by decide +kernel
theorem dX12_init_304 : decode cX12_init 304 = .ok (.iconst 1, 1) := by decide +kernel
theorem dX12_init_305 : decode cX12_init 305 = .ok (.bipush 111, 2) := by decide +kernel
theorem dX12_init_307 : decode cX12_init 307 = .ok (.iastore, 1) := by decide +kernel
theorem dX12_init_308 : decode cX12_init 308 = .ok (.dup, 1) := by decide +kernel
theorem dX12_init_309 : decode cX12_init 309 = .ok (.iconst 2, 1) := by decide +kernel
theorem dX12_init_310 : decode cX12_init 310 = .ok (.bipush 110, 2) := by decide +kernel
theorem dX12_init_312 : decode cX12_init 312 = .ok (.iastore, 1) := by decide +kernel
theorem dX12_init_313 : decode cX12_init 313 = .ok (.dup, 1) := by decide +kernel
theorem dX12_init_314 : decode cX12_init 314 = .ok (.iconst 3, 1) := by decide +kernel
theorem dX12_init_315 : decode cX12_init 315 = .ok (.bipush 32, 2) := by decide +kernel
theorem dX12_init_317 : decode cX12_init 317 = .ok (.iastore, 1) := by decide +kernel
theorem dX12_init_318 : decode cX12_init 318 = .ok (.dup, 1) := by decide +kernel
theorem dX12_init_319 : decode cX12_init 319 = .ok (.iconst 4, 1) := by decide +kernel
theorem dX12_init_320 : decode cX12_init 320 = .ok (.bipush 111, 2) := by decide +kernel
theorem dX12_init_322 : decode cX12_init 322 = .ok (.iastore, 1) := by decide +kernel
theorem dX12_init_323 : decode cX12_init 323 = .ok (.dup, 1) := by decide +kernel
theorem dX12_init_324 : decode cX12_init 324 = .ok (.iconst 5, 1) := by decide +kernel
theorem dX12_init_325 : decode cX12_init 325 = .ok (.bipush 102, 2) := by decide +kernel
theorem dX12_init_327 : decode cX12_init 327 = .ok (.iastore, 1) := by decide +kernel
theorem dX12_init_328 : decode cX12_init 328 = .ok (.dup, 1) := by decide +kernel
theorem dX12_init_329 : decode cX12_init 329 = .ok (.bipush 6, 2) := by decide +kernel
theorem dX12_init_331 : decode cX12_init 331 = .ok (.bipush 102, 2) := by decide +kernel
theorem dX12_init_333 : decode cX12_init 333 = .ok (.iastore, 1) := by decide +kernel
theorem dX12_init_334 : decode cX12_init 334 = .ok (.dup, 1) := by decide +kernel
theorem dX12_init_335 : decode cX12_init 335 = .ok (.bipush 7, 2) := by decide +kernel
theorem dX12_init_337 : decode cX12_init 337 = .ok (.bipush 32, 2) := by decide +kernel
theorem dX12_init_339 : decode cX12_init 339 = .ok (.iastore, 1) := by decide +kernel
theorem dX12_init_340 : decode cX12_init 340 = .ok (.dup, 1) := by decide +kernel
theorem dX12_init_341 : decode cX12_init 341 = .ok (.bipush 8, 2) := by decide +kernel
theorem dX12_init_343 : decode cX12_init 343 = .ok (.bipush 116, 2) := by decide +kernel
theorem dX12_init_345 : decode cX12_init 345 = .ok (.iastore, 1) := by decide +kernel
theorem dX12_init_346 : decode cX12_init 346 = .ok (.dup, 1) := by decide +kernel
theorem dX12_init_347 : decode cX12_init 347 = .ok (.bipush 9, 2) := by decide +kernel
theorem dX12_init_349 : decode cX12_init 349 = .ok (.bipush 111, 2) := by decide +kernel
theorem dX12_init_351 : decode cX12_init 351 = .ok (.iastore, 1) := by decide +kernel
theorem dX12_init_352 : decode cX12_init 352 = .ok (.dup, 1) := by decide +kernel
theorem dX12_init_353 : decode cX12_init 353 = .ok (.bipush 10, 2) := by decide +kernel
theorem dX12_init_355 : decode cX12_init 355 = .ok (.bipush 32, 2) := by decide +kernel
theorem dX12_init_357 : decode cX12_init 357 = .ok (.iastore, 1) := by decide +kernel
theorem dX12_init_358 : decode cX12_init 358 = .ok (.dup, 1) := by decide +kernel
theorem dX12_init_359 : decode cX12_init 359 = .ok (.bipush 11, 2) := by decide +kernel
theorem dX12_init_361 : decode cX12_init 361 = .ok (.bipush 103, 2) := by decide +kernel
theorem dX12_init_363 : decode cX12_init 363 = .ok (.iastore, 1) := by decide +kernel
theorem dX12_init_364 : decode cX12_init 364 = .ok (.dup, 1) := by decide +kernel
theorem dX12_init_365 : decode cX12_init 365 = .ok (.bipush 12, 2) := by decide +kernel
theorem dX12_init_367 : decode cX12_init 367 = .ok (.bipush 111, 2) := by decide +kernel
theorem dX12_init_369 : decode cX12_init 369 = .ok (.iastore, 1) := by decide +kernel
theorem dX12_init_370 : decode cX12_init 370 = .ok (.dup, 1) := by decide +kernel
theorem dX12_init_371 : decode cX12_init 371 = .ok (.bipush 13, 2) := by decide +kernel
theorem dX12_init_373 : decode cX12_init 373 = .ok (.bipush 32, 2) := by decide +kernel
theorem dX12_init_375 : decode cX12_init 375 = .ok (.iastore, 1) := by decide +kernel
theorem dX12_init_376 : decode cX12_init 376 = .ok (.dup, 1) := by decide +kernel
theorem dX12_init_377 : decode cX12_init 377 = .ok (.bipush 14, 2) := by decide +kernel
theorem dX12_init_379 : decode cX12_init 379 = .ok (.bipush 104, 2) := by decide +kernel
theorem dX12_init_381 : decode cX12_init 381 = .ok (.iastore, 1) := by decide +kernel
theorem dX12_init_382 : decode cX12_init 382 = .ok (.dup, 1) := by decide +kernel
theorem dX12_init_383 : decode cX12_init 383 = .ok (.bipush 15, 2) := by decide +kernel
theorem dX12_init_385 : decode cX12_init 385 = .ok (.bipush 111, 2) := by decide +kernel
theorem dX12_init_387 : decode cX12_init 387 = .ok (.iastore, 1) := by decide +kernel
theorem dX12_init_388 : decode cX12_init 388 = .ok (.dup, 1) := by decide +kernel
theorem dX12_init_389 : decode cX12_init 389 = .ok (.bipush 16, 2) := by decide +kernel
theorem dX12_init_391 : decode cX12_init 391 = .ok (.bipush 108, 2) := by decide +kernel
theorem dX12_init_393 : decode cX12_init 393 = .ok (.iastore, 1) := by decide +kernel
theorem dX12_init_394 : decode cX12_init 394 = .ok (.dup, 1) := by decide +kernel
theorem dX12_init_395 : decode cX12_init 395 = .ok (.bipush 17, 2) := by decide +kernel
theorem dX12_init_397 : decode cX12_init 397 = .ok (.bipush 100, 2) := by decide +kernel
theorem dX12_init_399 : decode cX12_init 399 = .ok (.iastore, 1) := by decide +kernel
theorem dX12_init_400 : decode cX12_init 400 = .ok (.dup, 1) := by decide +kernel
theorem dX12_init_401 : decode cX12_init 401 = .ok (.bipush 18, 2) := by decide +kernel
theorem dX12_init_403 : decode cX12_init 403 = .ok (.bipush 32, 2) := by decide +kernel
theorem dX12_init_405 : decode cX12_init 405 = .ok (.iastore, 1) := by decide +kernel
theorem dX12_init_406 : decode cX12_init 406 = .ok (.dup, 1) := by decide +kernel
theorem dX12_init_407 : decode cX12_init 407 = .ok (.bipush 19, 2) := by decide +kernel
theorem dX12_init_409 : decode cX12_init 409 = .ok (.bipush 115, 2) := by decide +kernel
theorem dX12_init_411 : decode cX12_init 411 = .ok (.iastore, 1) := by decide +kernel
theorem dX12_init_412 : decode cX12_init 412 = .ok (.dup, 1) := by decide +kernel
theorem dX12_init_413 : decode cX12_init 413 = .ok (.bipush 20, 2) := by decide +kernel
theorem dX12_init_415 : decode cX12_init 415 = .ok (.bipush 112, 2) := by decide +kernel
theorem dX12_init_417 : decode cX12_init 417 = .ok (.iastore, 1) := by decide +kernel
theorem dX12_init_418 : decode cX12_init 418 = .ok (.dup, 1) := by decide +kernel
theorem dX12_init_419 : decode cX12_init 419 = .ok (.bipush 21, 2) := by decide +kernel
theorem dX12_init_421 : decode cX12_init 421 = .ok (.bipush 101, 2) := by decide +kernel
theorem dX12_init_423 : decode cX12_init 423 = .ok (.iastore, 1) := by decide +kernel
theorem dX12_init_424 : decode cX12_init 424 = .ok (.dup, 1) := by decide +kernel
theorem dX12_init_425 : decode cX12_init 425 = .ok (.bipush 22, 2) := by decide +kernel
theorem dX12_init_427 : decode cX12_init 427 = .ok (.bipush 101, 2) := by decide +kernel
theorem dX12_init_429 : decode cX12_init 429 = .ok (.iastore, 1) := by decide +kernel
theorem dX12_init_430 : decode cX12_init 430 = .ok (.dup, 1) := by decide +kernel
theorem dX12_init_431 : decode cX12_init 431 = .ok (.bipush 23, 2) := by decide +kernel
theorem dX12_init_433 : decode cX12_init 433 = .ok (.bipush 100, 2) := by decide +kernel
theorem dX12_init_435 : decode cX12_init 435 = .ok (.iastore, 1) := by decide +kernel
theorem dX12_init_436 : decode cX12_init 436 = .ok (.dup, 1) := by decide +kernel
theorem dX12_init_437 : decode cX12_init 437 = .ok (.bipush 24, 2) := by decide +kernel
theorem dX12_init_439 : decode cX12_init 439 = .ok (.bipush 32, 2) := by decide +kernel
theorem dX12_init_441 : decode cX12_init 441 = .ok (.iastore, 1) := by decide +kernel
theorem dX12_init_442 : decode cX12_init 442 = .ok (.dup, 1) := by decide +kernel
theorem dX12_init_443 : decode cX12_init 443 = .ok (.bipush 25, 2) := by decide +kernel
theorem dX12_init_445 : decode cX12_init 445 = .ok (.bipush 97, 2) := by decide +kernel
theorem dX12_init_447 : decode cX12_init 447 = .ok (.iastore, 1) := by decide +kernel
theorem dX12_init_448 : decode cX12_init 448 = .ok (.dup, 1) := by decide +kernel
theorem dX12_init_449 : decode cX12_init 449 = .ok (.bipush 26, 2) := by decide +kernel
theorem dX12_init_451 : decode cX12_init 451 = .ok (.bipush 103, 2) := by decide +kernel
theorem dX12_init_453 : decode cX12_init 453 = .ok (.iastore, 1) := by decide +kernel
theorem dX12_init_454 : decode cX12_init 454 = .ok (.dup, 1) := by decide +kernel
theorem dX12_init_455 : decode cX12_init 455 = .ok (.bipush 27, 2) := by decide +kernel
theorem dX12_init_457 : decode cX12_init 457 = .ok (.bipush 97, 2) := by decide +kernel
theorem dX12_init_459 : decode cX12_init 459 = .ok (.iastore, 1) := by decide +kernel
theorem dX12_init_460 : decode cX12_init 460 = .ok (.dup, 1) := by decide +kernel
theorem dX12_init_461 : decode cX12_init 461 = .ok (.bipush 28, 2) := by decide +kernel
theorem dX12_init_463 : decode cX12_init 463 = .ok (.bipush 105, 2) := by decide +kernel
theorem dX12_init_465 : decode cX12_init 465 = .ok (.iastore, 1) := by decide +kernel
theorem dX12_init_466 : decode cX12_init 466 = .ok (.dup, 1) := by decide +kernel
theorem dX12_init_467 : decode cX12_init 467 = .ok (.bipush 29, 2) := by decide +kernel
theorem dX12_init_469 : decode cX12_init 469 = .ok (.bipush 110, 2) := by decide +kernel
theorem dX12_init_471 : decode cX12_init 471 = .ok (.iastore, 1) := by decide +kernel
theorem dX12_init_472 : decode cX12_init 472 = .ok (.dup, 1) := by decide +kernel
theorem dX12_init_473 : decode cX12_init 473 = .ok (.bipush 30, 2) := by decide +kernel
theorem dX12_init_475 : decode cX12_init 475 = .ok (.bipush 32, 2) := by decide +kernel
theorem dX12_init_477 : decode cX12_init 477 = .ok (.iastore, 1) := by decide +kernel
theorem dX12_init_478 : decode cX12_init 478 = .ok (.dup, 1) := by decide +kernel
theorem dX12_init_479 : decode cX12_init 479 = .ok (.bipush 31, 2) := by decide +kernel
theorem dX12_init_481 : decode cX12_init 481 = .ok (.bipush 98, 2) := by decide +kernel
theorem dX12_init_483 : decode cX12_init 483 = .ok (.iastore, 1) := by decide +kernel
theorem dX12_init_484 : decode cX12_init 484 = .ok (.dup, 1) := by decide +kernel
theorem dX12_init_485 : decode cX12_init 485 = .ok (.bipush 32, 2) := by decide +kernel
theorem dX12_init_487 : decode cX12_init 487 = .ok (.bipush 101, 2) := by decide +kernel
theorem dX12_init_489 : decode cX12_init 489 = .ok (.iastore, 1) := by decide +kernel
theorem dX12_init_490 : decode cX12_init 490 = .ok (.dup, 1) := by decide +kernel
theorem dX12_init_491 : decode cX12_init 491 = .ok (.bipush 33, 2) := by decide +kernel
theorem dX12_init_493 : decode cX12_init 493 = .ok (.bipush 103, 2) := by decide +kernel
theorem dX12_init_495 : decode cX12_init 495 = .ok (.iastore, 1) := by decide +kernel
theorem dX12_init_496 : decode cX12_init 496 = .ok (.dup, 1) := by decide +kernel
theorem dX12_init_497 : decode cX12_init 497 = .ok (.bipush 34, 2) := by decide +kernel
theorem dX12_init_499 : decode cX12_init 499 = .ok (.bipush 105, 2) := by decide +kernel
theorem dX12_init_501 : decode cX12_init 501 = .ok (.iastore, 1) := by decide +kernel
theorem dX12_init_502 : decode cX12_init 502 = .ok (.dup, 1) := by decide +kernel
theorem dX12_init_503 : decode cX12_init 503 = .ok (.bipush 35, 2) := by decide +kernel
theorem dX12_init_505 : decode cX12_init 505 = .ok (.bipush 110, 2) := by decide +kernel
theorem dX12_init_507 : decode cX12_init 507 = .ok (.iastore, 1) := by decide +kernel
theorem dX12_init_508 : decode cX12_init 508 = .ok (.dup, 1) := by decide +kernel
theorem dX12_init_509 : decode cX12_init 509 = .ok (.bipush 36, 2) := by decide +kernel
theorem dX12_init_511 : decode cX12_init 511 = .ok (.bipush 32, 2) := by decide +kernel
theorem dX12_init_513 : decode cX12_init 513 = .ok (.iastore, 1) := by decide +kernel
theorem dX12_init_514 : decode cX12_init 514 = .ok (.dup, 1) := by decide +kernel
theorem dX12_init_515 : decode cX12_init 515 = .ok (.bipush 37, 2) := by decide +kernel
theorem dX12_init_517 : decode cX12_init 517 = .ok (.bipush 101, 2) := by decide +kernel
theorem dX12_init_519 : decode cX12_init 519 = .ok (.iastore, 1) := by decide +kernel
theorem dX12_init_520 : decode cX12_init 520 = .ok (.dup, 1) := by decide +kernel
theorem dX12_init_521 : decode cX12_init 521 = .ok (.bipush 38, 2) := by decide +kernel
theorem dX12_init_523 : decode cX12_init 523 = .ok (.bipush 110, 2) := by decide +kernel
theorem dX12_init_525 : decode cX12_init 525 = .ok (.iastore, 1) := by decide +kernel
theorem dX12_init_526 : decode cX12_init 526 = .ok (.dup, 1) := by decide +kernel
theorem dX12_init_527 : decode cX12_init 527 = .ok (.bipush 39, 2) := by decide +kernel
theorem dX12_init_529 : decode cX12_init 529 = .ok (.bipush 100, 2) := by decide +kernel
theorem dX12_init_531 : decode cX12_init 531 = .ok (.iastore, 1) := by decide +kernel
theorem dX12_init_532 : decode cX12_init 532 = .ok (.dup, 1) := by decide +kernel
theorem dX12_init_533 : decode cX12_init 533 = .ok (.bipush 40, 2) := by decide +kernel
theorem dX12_init_535 : decode cX12_init 535 = .ok (.bipush 32, 2) := by decide +kernel
theorem dX12_init_537 : decode cX12_init 537 = .ok (.iastore, 1) := by decide +kernel
theorem dX12_init_538 : decode cX12_init 538 = .ok (.dup, 1) := by decide +kernel
theorem dX12_init_539 : decode cX12_init 539 = .ok (.bipush 41, 2) := by decide +kernel
theorem dX12_init_541 : decode cX12_init 541 = .ok (.bipush 105, 2) := by decide +kernel
theorem dX12_init_543 : decode cX12_init 543 = .ok (.iastore, 1) := by decide +kernel
theorem dX12_init_544 : decode cX12_init 544 = .ok (.dup, 1) := by decide +kernel
theorem dX12_init_545 : decode cX12_init 545 = .ok (.bipush 42, 2) := by decide +kernel
theorem dX12_init_547 : decode cX12_init 547 = .ok (.bipush 102, 2) := by decide +kernel
theorem dX12_init_549 : decode cX12_init 549 = .ok (.iastore, 1) := by decide +kernel
theorem dX12_init_550 : decode cX12_init 550 = .ok (.dup, 1) := by decide +kernel
theorem dX12_init_551 : decode cX12_init 551 = .ok (.bipush 43, 2) := by decide +kernel
theorem dX12_init_553 : decode cX12_init 553 = .ok (.bipush 32, 2) := by decide +kernel
theorem dX12_init_555 : decode cX12_init 555 = .ok (.iastore, 1) := by decide +kernel
theorem dX12_init_556 : decode cX12_init 556 = .ok (.dup, 1) := by decide +kernel
theorem dX12_init_557 : decode cX12_init 557 = .ok (.bipush 44, 2) := by decide +kernel
theorem dX12_init_559 : decode cX12_init 559 = .ok (.bipush 101, 2) := by decide +kernel
theorem dX12_init_561 : decode cX12_init 561 = .ok (.iastore, 1) := by decide +kernel
theorem dX12_init_562 : decode cX12_init 562 = .ok (.dup, 1) := by decide +kernel
theorem dX12_init_563 : decode cX12_init 563 = .ok (.bipush 45, 2) := by decide +kernel
theorem dX12_init_565 : decode cX12_init 565 = .ok (.bipush 97, 2) := by decide +kernel
theorem dX12_init_567 : decode cX12_init 567 = .ok (.iastore, 1) := by decide +kernel
theorem dX12_init_568 : decode cX12_init 568 = .ok (.dup, 1) := by decide +kernel
theorem dX12_init_569 : decode cX12_init 569 = .ok (.bipush 46, 2) := by decide +kernel
theorem dX12_init_571 : decode cX12_init 571 = .ok (.bipush 115, 2) := by decide +kernel
theorem dX12_init_573 : decode cX12_init 573 = .ok (.iastore, 1) := by decide +kernel
theorem dX12_init_574 : decode cX12_init 574 = .ok (.dup, 1) := by decide +kernel
theorem dX12_init_575 : decode cX12_init 575 = .ok (.bipush 47, 2) := by decide +kernel
theorem dX12_init_577 : decode cX12_init 577 = .ok (.bipush 116, 2) := by decide +kernel
theorem dX12_init_579 : decode cX12_init 579 = .ok (.iastore, 1) := by decide +kernel
theorem dX12_init_580 : decode cX12_init 580 = .ok (.dup, 1) := by decide +kernel
theorem dX12_init_581 : decode cX12_init 581 = .ok (.bipush 48, 2) := by decide +kernel
theorem dX12_init_583 : decode cX12_init 583 = .ok (.bipush 32, 2) := by decide +kernel
theorem dX12_init_585 : decode cX12_init 585 = .ok (.iastore, 1) := by decide +kernel
theorem dX12_init_586 : decode cX12_init 586 = .ok (.dup, 1) := by decide +kernel
theorem dX12_init_587 : decode cX12_init 587 = .ok (.bipush 49, 2) := by decide +kernel
theorem dX12_init_589 : decode cX12_init 589 = .ok (.bipush 110, 2) := by decide +kernel
theorem dX12_init_591 : decode cX12_init 591 = .ok (.iastore, 1) := by decide +kernel
theorem dX12_init_592 : decode cX12_init 592 = .ok (.dup, 1) := by decide +kernel
theorem dX12_init_593 : decode cX12_init 593 = .ok (.bipush 50, 2) := by decide +kernel
theorem dX12_init_595 : decode cX12_init 595 = .ok (.bipush 111, 2) := by decide +kernel
theorem dX12_init_597 : decode cX12_init 597 = .ok (.iastore, 1) := by decide +kernel
theorem dX12_init_598 : decode cX12_init 598 = .ok (.dup, 1) := by decide +kernel
theorem dX12_init_599 : decode cX12_init 599 = .ok (.bipush 51, 2) := by decide +kernel
theorem dX12_init_601 : decode cX12_init 601 = .ok (.bipush 114, 2) := by decide +kernel
theorem dX12_init_603 : decode cX12_init 603 = .ok (.iastore, 1) := by decide +kernel
theorem dX12_init_604 : decode cX12_init 604 = .ok (.dup, 1) := by decide +kernel
theorem dX12_init_605 : decode cX12_init 605 = .ok (.bipush 52, 2) := by decide +kernel
theorem dX12_init_607 : decode cX12_init 607 = .ok (.bipush 116, 2) := by decide +kernel
theorem dX12_init_609 : decode cX12_init 609 = .ok (.iastore, 1) := by decide +kernel
theorem dX12_init_610 : decode cX12_init 610 = .ok (.dup, 1) := by decide +kernel
theorem dX12_init_611 : decode cX12_init 611 = .ok (.bipush 53, 2) := by decide +kernel
theorem dX12_init_613 : decode cX12_init 613 = .ok (.bipush 104, 2) := by decide +kernel
theorem dX12_init_615 : decode cX12_init 615 = .ok (.iastore, 1) := by decide +kernel
theorem dX12_init_616 : decode cX12_init 616 = .ok (.dup, 1) := by decide +kernel
theorem dX12_init_617 : decode cX12_init 617 = .ok (.bipush 54, 2) := by decide +kernel
theorem dX12_init_619 : decode cX12_init 619 = .ok (.bipush 32, 2) := by decide +kernel
theorem dX12_init_621 : decode cX12_init 621 = .ok (.iastore, 1) := by decide +kernel
theorem dX12_init_622 : decode cX12_init 622 = .ok (.dup, 1) := by decide +kernel
theorem dX12_init_623 : decode cX12_init 623 = .ok (.bipush 55, 2) := by decide +kernel
theorem dX12_init_625 : decode cX12_init 625 = .ok (.bipush 119, 2) := by decide +kernel
theorem dX12_init_627 : decode cX12_init 627 = .ok (.iastore, 1) := by decide +kernel
theorem dX12_init_628 : decode cX12_init 628 = .ok (.dup, 1) := by decide +kernel
theorem dX12_init_629 : decode cX12_init 629 = .ok (.bipush 56, 2) := by decide +kernel
theorem dX12_init_631 : decode cX12_init 631 = .ok (.bipush 101, 2) := by decide +kernel
theorem dX12_init_633 : decode cX12_init 633 = .ok (.iastore, 1) := by decide +kernel
theorem dX12_init_634 : decode cX12_init 634 = .ok (.dup, 1) := by decide +kernel
theorem dX12_init_635 : decode cX12_init 635 = .ok (.bipush 57, 2) := by decide +kernel
theorem dX12_init_637 : decode cX12_init 637 = .ok (.bipush 115, 2) := by decide +kernel
theorem dX12_init_639 : decode cX12_init 639 = .ok (.iastore, 1) := by decide +kernel
theorem dX12_init_640 : decode cX12_init 640 = .ok (.dup, 1) := by decide +kernel
theorem dX12_init_641 : decode cX12_init 641 = .ok (.bipush 58, 2) := by decide +kernel
theorem dX12_init_643 : decode cX12_init 643 = .ok (.bipush 116, 2) := by decide +kernel
theorem dX12_init_645 : decode cX12_init 645 = .ok (.iastore, 1) := by decide +kernel
theorem dX12_init_646 : decode cX12_init 646 = .ok (.dup, 1) := by decide +kernel
theorem dX12_init_647 : decode cX12_init 647 = .ok (.bipush 59, 2) := by decide +kernel
theorem dX12_init_649 : decode cX12_init 649 = .ok (.bipush 32, 2) := by decide +kernel
theorem dX12_init_651 : decode cX12_init 651 = .ok (.iastore, 1) := by decide +kernel
theorem dX12_init_652 : decode cX12_init 652 = .ok (.dup, 1) := by decide +kernel
theorem dX12_init_653 : decode cX12_init 653 = .ok (.bipush 60, 2) := by decide +kernel
theorem dX12_init_655 : decode cX12_init 655 = .ok (.bipush 115, 2) := by decide +kernel
theorem dX12_init_657 : decode cX12_init 657 = .ok (.iastore, 1) := by decide +kernel
theorem dX12_init_658 : decode cX12_init 658 = .ok (.dup, 1) := by decide +kernel
theorem dX12_init_659 : decode cX12_init 659 = .ok (.bipush 61, 2) := by decide +kernel
theorem dX12_init_661 : decode cX12_init 661 = .ok (.bipush 111, 2) := by decide +kernel
theorem dX12_init_663 : decode cX12_init 663 = .ok (.iastore, 1) := by decide +kernel
theorem dX12_init_664 : decode cX12_init 664 = .ok (.dup, 1) := by decide +kernel
theorem dX12_init_665 : decode cX12_init 665 = .ok (.bipush 62, 2) := by decide +kernel
theorem dX12_init_667 : decode cX12_init 667 = .ok (.bipush 117, 2) := by decide +kernel
theorem dX12_init_669 : decode cX12_init 669 = .ok (.iastore, 1) := by decide +kernel
theorem dX12_init_670 : decode cX12_init 670 = .ok (.dup, 1) := by decide +kernel
theorem dX12_init_671 : decode cX12_init 671 = .ok (.bipush 63, 2) := by decide +kernel
theorem dX12_init_673 : decode cX12_init 673 = .ok (.bipush 116, 2) := by decide +kernel
theorem dX12_init_675 : decode cX12_init 675 = .ok (.iastore, 1) := by decide +kernel
theorem dX12_init_676 : decode cX12_init 676 = .ok (.dup, 1) := by decide +kernel
theorem dX12_init_677 : decode cX12_init 677 = .ok (.bipush 64, 2) := by decide +kernel
theorem dX12_init_679 : decode cX12_init 679 = .ok (.bipush 104, 2) := by decide +kernel
theorem dX12_init_681 : decode cX12_init 681 = .ok (.iastore, 1) := by decide +kernel
theorem dX12_init_682 : decode cX12_init 682 = .ok (.dup, 1) := by decide +kernel
theorem dX12_init_683 : decode cX12_init 683 = .ok (.bipush 65, 2) := by decide +kernel
theorem dX12_init_685 : decode cX12_init 685 = .ok (.bipush 32, 2) := by decide +kernel
theorem dX12_init_687 : decode cX12_init 687 = .ok (.iastore, 1) := by decide +kernel
theorem dX12_init_688 : decode cX12_init 688 = .ok (.dup, 1) := by decide +kernel
theorem dX12_init_689 : decode cX12_init 689 = .ok (.bipush 66, 2) := by decide +kernel
theorem dX12_init_691 : decode cX12_init 691 = .ok (.bipush 104, 2) := by decide +kernel
theorem dX12_init_693 : decode cX12_init 693 = .ok (.iastore, 1) := by decide +kernel
theorem dX12_init_694 : decode cX12_init 694 = .ok (.dup, 1) := by decide +kernel
theorem dX12_init_695 : decode cX12_init 695 = .ok (.bipush 67, 2) := by decide +kernel
theorem dX12_init_697 : decode cX12_init 697 = .ok (.bipush 111, 2) := by decide +kernel
theorem dX12_init_699 : decode cX12_init 699 = .ok (.iastore, 1) := by decide +kernel
theorem dX12_init_700 : decode cX12_init 700 = .ok (.dup, 1) := by decide +kernel
theorem dX12_init_701 : decode cX12_init 701 = .ok (.bipush 68, 2) := by decide +kernel
theorem dX12_init_703 : decode cX12_init 703 = .ok (.bipush 116, 2) := by decide +kernel
theorem dX12_init_705 : decode cX12_init 705 = .ok (.iastore, 1) := by decide +kernel
theorem dX12_init_706 : decode cX12_init 706 = .ok (.dup, 1) := by decide +kernel
theorem dX12_init_707 : decode cX12_init 707 = .ok (.bipush 69, 2) := by decide +kernel
theorem dX12_init_709 : decode cX12_init 709 = .ok (.bipush 32, 2) := by decide +kernel
theorem dX12_init_711 : decode cX12_init 711 = .ok (.iastore, 1) := by decide +kernel
theorem dX12_init_712 : decode cX12_init 712 = .ok (.dup, 1) := by decide +kernel
theorem dX12_init_713 : decode cX12_init 713 = .ok (.bipush 70, 2) := by decide +kernel
theorem dX12_init_715 : decode cX12_init 715 = .ok (.bipush 120, 2) := by decide +kernel
theorem dX12_init_717 : decode cX12_init 717 = .ok (.iastore, 1) := by decide +kernel
theorem dX12_init_718 : decode cX12_init 718 = .ok (.dup, 1) := by decide +kernel
theorem dX12_init_719 : decode cX12_init 719 = .ok (.bipush 71, 2) := by decide +kernel
theorem dX12_init_721 : decode cX12_init 721 = .ok (.bipush 32, 2) := by decide +kernel
theorem dX12_init_723 : decode cX12_init 723 = .ok (.iastore, 1) := by decide +kernel
theorem dX12_init_724 : decode cX12_init 724 = .ok (.dup, 1) := by decide +kernel
theorem dX12_init_725 : decode cX12_init 725 = .ok (.bipush 72, 2) := by decide +kernel
theorem dX12_init_727 : decode cX12_init 727 = .ok (.bipush 121, 2) := by decide +kernel
theorem dX12_init_729 : decode cX12_init 729 = .ok (.iastore, 1) := by decide +kernel
theorem dX12_init_730 : decode cX12_init 730 = .ok (.dup, 1) := by decide +kernel
theorem dX12_init_731 : decode cX12_init 731 = .ok (.bipush 73, 2) := by decide +kernel
theorem dX12_init_733 : decode cX12_init 733 = .ok (.bipush 32, 2) := by decide +kernel
theorem dX12_init_735 : decode cX12_init 735 = .ok (.iastore, 1) := by decide +kernel
theorem dX12_init_736 : decode cX12_init 736 = .ok (.dup, 1) := by decide +kernel
theorem dX12_init_737 : decode cX12_init 737 = .ok (.bipush 74, 2) := by decide +kernel
theorem dX12_init_739 : decode cX12_init 739 = .ok (.bipush 116, 2) := by decide +kernel
theorem dX12_init_741 : decode cX12_init 741 = .ok (.iastore, 1) := by decide +kernel
theorem dX12_init_742 : decode cX12_init 742 = .ok (.dup, 1) := by decide +kernel
theorem dX12_init_743 : decode cX12_init 743 = .ok (.bipush 75, 2) := by decide +kernel
theorem dX12_init_745 : decode cX12_init 745 = .ok (.bipush 105, 2) := by decide +kernel
theorem dX12_init_747 : decode cX12_init 747 = .ok (.iastore, 1) := by decide +kernel
theorem dX12_init_748 : decode cX12_init 748 = .ok (.dup, 1) := by decide +kernel
theorem dX12_init_749 : decode cX12_init 749 = .ok (.bipush 76, 2) := by decide +kernel
theorem dX12_init_751 : decode cX12_init 751 = .ok (.bipush 99, 2) := by decide +kernel
theorem dX12_init_753 : decode cX12_init 753 = .ok (.iastore, 1) := by decide +kernel
theorem dX12_init_754 : decode cX12_init 754 = .ok (.dup, 1) := by decide +kernel
theorem dX12_init_755 : decode cX12_init 755 = .ok (.bipush 77, 2) := by decide +kernel
theorem dX12_init_757 : decode cX12_init 757 = .ok (.bipush 107, 2) := by decide +kernel
theorem dX12_init_759 : decode cX12_init 759 = .ok (.iastore, 1) := by decide +kernel
theorem dX12_init_760 : decode cX12_init 760 = .ok (.dup, 1) := by decide +kernel
theorem dX12_init_761 : decode cX12_init 761 = .ok (.bipush 78, 2) := by decide +kernel
theorem dX12_init_763 : decode cX12_init 763 = .ok (.bipush 32, 2) := by decide +kernel
theorem dX12_init_765 : decode cX12_init 765 = .ok (.iastore, 1) := by decide +kernel
theorem dX12_init_766 : decode cX12_init 766 = .ok (.dup, 1) := by decide +kernel
theorem dX12_init_767 : decode cX12_init 767 = .ok (.bipush 79, 2) := by decide +kernel
theorem dX12_init_769 : decode cX12_init 769 = .ok (.bipush 99, 2) := by decide +kernel
theorem dX12_init_771 : decode cX12_init 771 = .ok (.iastore, 1) := by decide +kernel
theorem dX12_init_772 : decode cX12_init 772 = .ok (.dup, 1) := by decide +kernel
theorem dX12_init_773 : decode cX12_init 773 = .ok (.bipush 80, 2) := by decide +kernel
theorem dX12_init_775 : decode cX12_init 775 = .ok (.bipush 117, 2) := by decide +kernel
theorem dX12_init_777 : decode cX12_init 777 = .ok (.iastore, 1) := by decide +kernel
theorem dX12_init_778 : decode cX12_init 778 = .ok (.dup, 1) := by decide +kernel
theorem dX12_init_779 : decode cX12_init 779 = .ok (.bipush 81, 2) := by decide +kernel
theorem dX12_init_781 : decode cX12_init 781 = .ok (.bipush 116, 2) := by decide +kernel
theorem dX12_init_783 : decode cX12_init 783 = .ok (.iastore, 1) := by decide +kernel
theorem dX12_init_784 : decode cX12_init 784 = .ok (.dup, 1) := by decide +kernel
theorem dX12_init_785 : decode cX12_init 785 = .ok (.bipush 82, 2) := by decide +kernel
theorem dX12_init_787 : decode cX12_init 787 = .ok (.bipush 32, 2) := by decide +kernel
theorem dX12_init_789 : decode cX12_init 789 = .ok (.iastore, 1) := by decide +kernel
theorem dX12_init_790 : decode cX12_init 790 = .ok (.putfield 98, 3) := by decide +kernel
theorem dX12_init_793 : decode cX12_init 793 = .ok (.aload_n 0, 1) := by decide +kernel
theorem dX12_init_794 : decode cX12_init 794 = .ok (.sipush 3600, 3) := by decide +kernel
theorem dX12_init_797 : decode cX12_init 797 = .ok (.newarray .int, 2) := by decide +kernel
theorem dX12_init_799 : decode cX12_init 799 = .ok (.putfield 101, 3) := by decide +kernel
theorem dX12_init_802 : decode cX12_init 802 = .ok (.aload_n 0, 1) := by decide +kernel
theorem dX12_init_803 : decode cX12_init 803 = .ok (.sipush 3600, 3) := by decide +kernel
theorem dX12_init_806 : decode cX12_init 806 = .ok (.newarray .int, 2) := by decide +kernel
theorem dX12_init_808 : decode cX12_init 808 = .ok (.putfield 104, 3) := by decide +kernel
theorem dX12_init_811 : decode cX12_init 811 = .ok (.aload_n 0, 1) := by decide +kernel
theorem dX12_init_812 : decode cX12_init 812 = .ok (.sipush 3600, 3) := by decide +kernel
theorem dX12_init_815 : decode cX12_init 815 = .ok (.newarray .int, 2) := by decide +kernel
theorem dX12_init_817 : decode cX12_init 817 = .ok (.putfield 107, 3) := by decide +kernel
theorem dX12_init_820 : decode cX12_init 820 = .ok (.aload_n 0, 1) := by decide +kernel
theorem dX12_init_821 : decode cX12_init 821 = .ok (.bipush 9, 2) := by decide +kernel
theorem dX12_init_823 : decode cX12_init 823 = .ok (.newarray .int, 2) := by decide +kernel
theorem dX12_init_825 : decode cX12_init 825 = .ok (.putfield 110, 3) := by decide +kernel
theorem dX12_init_828 : decode cX12_init 828 = .ok (.aload_n 0, 1) := by decide +kernel
theorem dX12_init_829 : decode cX12_init 829 = .ok (.sipush 3600, 3) := by decide +kernel
theorem dX12_init_832 : decode cX12_init 832 = .ok (.newarray .int, 2) := by decide +kernel
theorem dX12_init_834 : decode cX12_init 834 = .ok (.putfield 113, 3) := by decide +kernel
theorem dX12_init_837 : decode cX12_init 837 = .ok (.aload_n 0, 1) := by decide +kernel
theorem dX12_init_838 : decode cX12_init 838 = .ok (.sipush 3600, 3) := by decide +kernel
theorem dX12_init_841 : decode cX12_init 841 = .ok (.newarray .int, 2) := by decide +kernel
theorem dX12_init_843 : decode cX12_init 843 = .ok (.putfield 116, 3) := by decide +kernel
theorem dX12_init_846 : decode cX12_init 846 = .ok (.aload_n 0, 1) := by decide +kernel
theorem dX12_init_847 : decode cX12_init 847 = .ok (.sipush 3600, 3) := by decide +kernel
theorem dX12_init_850 : decode cX12_init 850 = .ok (.newarray .int, 2) := by decide +kernel
theorem dX12_init_852 : decode cX12_init 852 = .ok (.putfield 119, 3) := by decide +kernel
theorem dX12_init_855 : decode cX12_init 855 = .ok (.aload_n 0, 1) := by decide +kernel
theorem dX12_init_856 : decode cX12_init 856 = .ok (.sipush 3600, 3) := by decide +kernel
theorem dX12_init_859 : decode cX12_init 859 = .ok (.newarray .int, 2) := by decide +kernel
theorem dX12_init_861 : decode cX12_init 861 = .ok (.putfield 122, 3) := by decide +kernel
theorem dX12_init_864 : decode cX12_init 864 = .ok (.aload_n 0, 1) := by decide +kernel
theorem dX12_init_865 : decode cX12_init 865 = .ok (.sipush 3600, 3) := by decide +kernel
theorem dX12_init_868 : decode cX12_init 868 = .ok (.newarray .int, 2) := by decide +kernel
theorem dX12_init_870 : decode cX12_init 870 = .ok (.putfield 125, 3) := by decide +kernel
theorem dX12_init_873 : decode cX12_init 873 = .ok (.aload_n 0, 1) := by decide +kernel
theorem dX12_init_874 : decode cX12_init 874 = .ok (.sipush 3600, 3) := by decide +kernel
theorem dX12_init_877 : decode cX12_init 877 = .ok (.newarray .int, 2) := by decide +kernel
theorem dX12_init_879 : decode cX12_init 879 = .ok (.putfield 128, 3) := by decide +kernel
theorem dX12_init_882 : decode cX12_init 882 = .ok (.aload_n 0, 1) := by decide +kernel
theorem dX12_init_883 : decode cX12_init 883 = .ok (.iconst 4, 1) := by decide +kernel
theorem dX12_init_884 : decode cX12_init 884 = .ok (.newarray .int, 2) := by decide +kernel
theorem dX12_init_886 : decode cX12_init 886 = .ok (.putfield 131, 3) := by decide +kernel
theorem dX12_init_889 : decode cX12_init 889 = .ok (.aload_n 0, 1) := by decide +kernel
theorem dX12_init_890 : decode cX12_init 890 = .ok (.iconst (-1), 1) := by decide +kernel
theorem dX12_init_891 : decode cX12_init 891 = .ok (.putfield 134, 3) := by decide +kernel
theorem dX12_init_894 : decode cX12_init 894 = .ok (.aload_n 0, 1) := by decide +kernel
theorem dX12_init_895 : decode cX12_init 895 = .ok (.iconst 4, 1) := by decide +kernel
theorem dX12_init_896 : decode cX12_init 896 = .ok (.newarray .int, 2) := by decide +kernel
theorem dX12_init_898 : decode cX12_init 898 = .ok (.putfield 137, 3) := by decide +kernel
theorem dX12_init_901 : decode cX12_init 901 = .ok (.aload_n 0, 1) := by decide +kernel
theorem dX12_init_902 : decode cX12_init 902 = .ok (.bipush 6, 2) := by decide +kernel
theorem dX12_init_904 : decode cX12_init 904 = .ok (.newarray .int, 2) := by decide +kernel
theorem dX12_init_906 : decode cX12_init 906 = .ok (.putfield 140, 3) := by decide +kernel
theorem dX12_init_909 : decode cX12_init 909 = .ok (.aload_n 0, 1) := by decide +kernel
theorem dX12_init_910 : decode cX12_init 910 = .ok (.bipush 6, 2) := by decide +kernel
theorem dX12_init_912 : decode cX12_init 912 = .ok (.newarray .int, 2) := by decide +kernel
theorem dX12_init_914 : decode cX12_init 914 = .ok (.putfield 143, 3) := by decide +kernel
theorem dX12_init_917 : decode cX12_init 917 = .ok (.aload_n 0, 1) := by decide +kernel
theorem dX12_init_918 : decode cX12_init 918 = .ok (.bipush 6, 2) := by decide +kernel
theorem dX12_init_920 : decode cX12_init 920 = .ok (.newarray .int, 2) := by decide +kernel
theorem dX12_init_922 : decode cX12_init 922 = .ok (.putfield 146, 3) := by decide +kernel
theorem dX12_init_925 : decode cX12_init 925 = .ok (.aload_n 0, 1) := by decide +kernel
theorem dX12_init_926 : decode cX12_init 926 = .ok (.sipush 1681, 3) := by decide +kernel
theorem dX12_init_929 : decode cX12_init 929 = .ok (.newarray .int, 2) := by decide +kernel
theorem dX12_init_931 : decode cX12_init 931 = .ok (.putfield 149, 3) := by decide +kernel
theorem dX12_init_934 : decode cX12_init 934 = .ok (.aload_n 0, 1) := by decide +kernel
theorem dX12_init_935 : decode cX12_init 935 = .ok (.sipush 200, 3) := by decide +kernel
theorem dX12_init_938 : decode cX12_init 938 = .ok (.newarray .int, 2) := by decide +kernel
theorem dX12_init_940 : decode cX12_init 940 = .ok (.putfield 152, 3) := by decide +kernel
theorem dX12_init_943 : decode cX12_init 943 = .ok (.aload_n 0, 1) := by decide +kernel
theorem dX12_init_944 : decode cX12_init 944 = .ok (.sipush 200, 3) := by decide +kernel
theorem dX12_init_947 : decode cX12_init 947 = .ok (.newarray .int, 2) := by decide +kernel
theorem dX12_init_949 : decode cX12_init 949 = .ok (.putfield 155, 3) := by decide +kernel
theorem dX12_init_952 : decode cX12_init 952 = .ok (.aload_n 0, 1) := by decide +kernel
theorem dX12_init_953 : decode cX12_init 953 = .ok (.sipush 200, 3) := by decide +kernel
theorem dX12_init_956 : decode cX12_init 956 = .ok (.newarray .boolean, 2) := by decide +kernel
theorem dX12_init_958 : decode cX12_init 958 = .ok (.putfield 158, 3) := by decide +kernel
theorem dX12_init_961 : decode cX12_init 961 = .ok (.aload_n 0, 1) := by decide +kernel
theorem dX12_init_962 : decode cX12_init 962 = .ok (.sipush 200, 3) := by decide +kernel
theorem dX12_init_965 : decode cX12_init 965 = .ok (.newarray .int, 2) := by decide +kernel
theorem dX12_init_967 : decode cX12_init 967 = .ok (.putfield 161, 3) := by decide +kernel
theorem dX12_init_970 : decode cX12_init 970 = .ok (.aload_n 0, 1) := by decide +kernel
theorem dX12_init_971 : decode cX12_init 971 = .ok (.sipush 400, 3) := by decide +kernel
theorem dX12_init_974 : decode cX12_init 974 = .ok (.newarray .int, 2) := by decide +kernel
theorem dX12_init_976 : decode cX12_init 976 = .ok (.putfield 164, 3) := by decide +kernel
theorem dX12_init_979 : decode cX12_init 979 = .ok (.return_, 1) := by decide +kernel
theorem dX12_isIn_0 : decode cX12_isIn 0 = .ok (.iload_n 1, 1) := by decide +kernel
theorem dX12_isIn_1 : decode cX12_isIn 1 = .ok (.iload_n 2, 1) := by decide +kernel
theorem dX12_isIn_2 : decode cX12_isIn 2 = .ok (.if_icmp .lt 12, 3) := by decide +kernel
theorem dX12_isIn_5 : decode cX12_isIn 5 = .ok (.iload_n 1, 1) := by decide +kernel
theorem dX12_isIn_6 : decode cX12_isIn 6 = .ok (.iload_n 3, 1) := by decide +kernel
theorem dX12_isIn_7 : decode cX12_isIn 7 = .ok (.if_icmp .gt 7, 3) := by decide +kernel
theorem dX12_isIn_10 : decode cX12_isIn 10 = .ok (.iconst 1, 1) := by decide +kernel
theorem dX12_isIn_11 : decode cX12_isIn 11 = .ok (.goto 4, 3) := by decide +kernel
theorem dX12_isIn_14 : decode cX12_isIn 14 = .ok (.iconst 0, 1) := by decide +kernel
theorem dX12_isIn_15 : decode cX12_isIn 15 = .ok (.ireturn, 1) := by decide +kernel
theorem dX12_stuff_0 : decode cX12_stuff 0 = .ok (.aload_n 0, 1) := by decide +kernel
theorem dX12_stuff_1 : decode cX12_stuff 1 = .ok (.iconst 0, 1) := by decide +kernel
theorem dX12_stuff_2 : decode cX12_stuff 2 = .ok (.putfield 167, 3) := by decide +kernel
theorem dX12_stuff_5 : decode cX12_stuff 5 = .ok (.aload_n 0, 1) := by decide +kernel
theorem dX12_stuff_6 : decode cX12_stuff 6 = .ok (.iload_n 1, 1) := by decide +kernel
theorem dX12_stuff_7 : decode cX12_stuff 7 = .ok (.iconst 0, 1) := by decide +kernel
theorem dX12_stuff_8 : decode cX12_stuff 8 = .ok (.iconst 3, 1) := by decide +kernel
theorem dX12_stuff_9 : decode cX12_stuff 9 = .ok (.invokevirtual 170, 3) := by decide +kernel
theorem dX12_stuff_12 : decode cX12_stuff 12 = .ok (.ifCond .eq 51, 3) := by decide +kernel
theorem dX12_stuff_15 : decode cX12_stuff 15 = .ok (.aload_n 0, 1) := by decide +kernel
theorem dX12_stuff_16 : decode cX12_stuff 16 = .ok (.iload_n 2, 1) := by decide +kernel
theorem dX12_stuff_17 : decode cX12_stuff 17 = .ok (.iconst 1, 1) := by decide +kernel
theorem dX12_stuff_18 : decode cX12_stuff 18 = .ok (.sipush 999, 3) := by decide +kernel
theorem dX12_stuff_21 : decode cX12_stuff 21 = .ok (.invokevirtual 170, 3) := by decide +kernel
theorem dX12_stuff_24 : decode cX12_stuff 24 = .ok (.ifCond .eq 39, 3) := by decide +kernel
theorem dX12_stuff_27 : decode cX12_stuff 27 = .ok (.aload_n 0, 1) := by decide +kernel
theorem dX12_stuff_28 : decode cX12_stuff 28 = .ok (.iload_n 3, 1) := by decide +kernel
theorem dX12_stuff_29 : decode cX12_stuff 29 = .ok (.iconst 0, 1) := by decide +kernel
theorem dX12_stuff_30 : decode cX12_stuff 30 = .ok (.bipush 20, 2) := by decide +kernel
theorem dX12_stuff_32 : decode cX12_stuff 32 = .ok (.invokevirtual 170, 3) := by decide +kernel
theorem dX12_stuff_35 : decode cX12_stuff 35 = .ok (.ifCond .eq 28, 3) := by decide +kernel
theorem dX12_stuff_38 : decode cX12_stuff 38 = .ok (.aload_n 0, 1) := by decide +kernel
theorem dX12_stuff_39 : decode cX12_stuff 39 = .ok (.iload 4, 2) := by decide +kernel
theorem dX12_stuff_41 : decode cX12_stuff 41 = .ok (.iconst 0, 1) := by decide +kernel
theorem dX12_stuff_42 : decode cX12_stuff 42 = .ok (.bipush 20, 2) := by decide +kernel
theorem dX12_stuff_44 : decode cX12_stuff 44 = .ok (.invokevirtual 170, 3) := by decide +kernel
theorem dX12_stuff_47 : decode cX12_stuff 47 = .ok (.ifCond .eq 16, 3) := by decide +kernel
theorem dX12_stuff_50 : decode cX12_stuff 50 = .ok (.aload_n 0, 1) := by decide +kernel
theorem dX12_stuff_51 : decode cX12_stuff 51 = .ok (.iload 5, 2) := by decide +kernel
theorem dX12_stuff_53 : decode cX12_stuff 53 = .ok (.iconst 1, 1) := by decide +kernel
theorem dX12_stuff_54 : decode cX12_stuff 54 = .ok (.sipush 9999, 3) := by decide +kernel
theorem dX12_stuff_57 : decode cX12_stuff 57 = .ok (.invokevirtual 170, 3) := by decide +kernel
theorem dX12_stuff_60 : decode cX12_stuff 60 = .ok (.ifCond .ne 5, 3) := by decide +kernel
theorem dX12_stuff_63 : decode cX12_stuff 63 = .ok (.iconst 0, 1) := by decide +kernel
theorem dX12_stuff_64 : decode cX12_stuff 64 = .ok (.ireturn, 1) := by decide +kernel
theorem dX12_stuff_65 : decode cX12_stuff 65 = .ok (.aload_n 0, 1) := by decide +kernel
theorem dX12_stuff_66 : decode cX12_stuff 66 = .ok (.getfield 7, 3) := by decide +kernel
theorem dX12_stuff_69 : decode cX12_stuff 69 = .ok (.iload_n 1, 1) := by decide +kernel
theorem dX12_stuff_70 : decode cX12_stuff 70 = .ok (.iload_n 2, 1) := by decide +kernel
theorem dX12_stuff_71 : decode cX12_stuff 71 = .ok (.iastore, 1) := by decide +kernel
theorem dX12_stuff_72 : decode cX12_stuff 72 = .ok (.aload_n 0, 1) := by decide +kernel
theorem dX12_stuff_73 : decode cX12_stuff 73 = .ok (.getfield 13, 3) := by decide +kernel
theorem dX12_stuff_76 : decode cX12_stuff 76 = .ok (.iload_n 1, 1) := by decide +kernel
theorem dX12_stuff_77 : decode cX12_stuff 77 = .ok (.iload_n 3, 1) := by decide +kernel
theorem dX12_stuff_78 : decode cX12_stuff 78 = .ok (.iastore, 1) := by decide +kernel
theorem dX12_stuff_79 : decode cX12_stuff 79 = .ok (.aload_n 0, 1) := by decide +kernel
theorem dX12_stuff_80 : decode cX12_stuff 80 = .ok (.getfield 16, 3) := by decide +kernel
theorem dX12_stuff_83 : decode cX12_stuff 83 = .ok (.iload_n 1, 1) := by decide +kernel
theorem dX12_stuff_84 : decode cX12_stuff 84 = .ok (.iload 4, 2) := by decide +kernel
theorem dX12_stuff_86 : decode cX12_stuff 86 = .ok (.iastore, 1) := by decide +kernel
theorem dX12_stuff_87 : decode cX12_stuff 87 = .ok (.aload_n 0, 1) := by decide +kernel
theorem dX12_stuff_88 : decode cX12_stuff 88 = .ok (.getfield 19, 3) := by decide +kernel
theorem dX12_stuff_91 : decode cX12_stuff 91 = .ok (.iload_n 1, 1) := by decide +kernel
theorem dX12_stuff_92 : decode cX12_stuff 92 = .ok (.iload 5, 2) := by decide +kernel
theorem dX12_stuff_94 : decode cX12_stuff 94 = .ok (.iastore, 1) := by decide +kernel
theorem dX12_stuff_95 : decode cX12_stuff 95 = .ok (.iconst 1, 1) := by decide +kernel
theorem dX12_stuff_96 : decode cX12_stuff 96 = .ok (.ireturn, 1) := by decide +kernel
theorem dX12_plate_0 : decode cX12_plate 0 = .ok (.aload_n 0, 1) := by decide +kernel
theorem dX12_plate_1 : decode cX12_plate 1 = .ok (.iconst 0, 1) := by decide +kernel
theorem dX12_plate_2 : decode cX12_plate 2 = .ok (.putfield 167, 3) := by decide +kernel
theorem dX12_plate_5 : decode cX12_plate 5 = .ok (.aload_n 0, 1) := by decide +kernel
theorem dX12_plate_6 : decode cX12_plate 6 = .ok (.iload_n 1, 1) := by decide +kernel
theorem dX12_plate_7 : decode cX12_plate 7 = .ok (.iconst 1, 1) := by decide +kernel
theorem dX12_plate_8 : decode cX12_plate 8 = .ok (.bipush 16, 2) := by decide +kernel
theorem dX12_plate_10 : decode cX12_plate 10 = .ok (.invokevirtual 170, 3) := by decide +kernel
theorem dX12_plate_13 : decode cX12_plate 13 = .ok (.ifCond .eq 36, 3) := by decide +kernel
theorem dX12_plate_16 : decode cX12_plate 16 = .ok (.aload_n 0, 1) := by decide +kernel
theorem dX12_plate_17 : decode cX12_plate 17 = .ok (.iload_n 2, 1) := by decide +kernel
theorem dX12_plate_18 : decode cX12_plate 18 = .ok (.iconst 1, 1) := by decide +kernel
theorem dX12_plate_19 : decode cX12_plate 19 = .ok (.bipush 12, 2) := by decide +kernel
theorem dX12_plate_21 : decode cX12_plate 21 = .ok (.invokevirtual 170, 3) := by decide +kernel
theorem dX12_plate_24 : decode cX12_plate 24 = .ok (.ifCond .eq 25, 3) := by decide +kernel
theorem dX12_plate_27 : decode cX12_plate 27 = .ok (.aload_n 0, 1) := by decide +kernel
theorem dX12_plate_28 : decode cX12_plate 28 = .ok (.iload_n 3, 1) := by decide +kernel
theorem dX12_plate_29 : decode cX12_plate 29 = .ok (.iconst 0, 1) := by decide +kernel
theorem dX12_plate_30 : decode cX12_plate 30 = .ok (.iconst 3, 1) := by decide +kernel
theorem dX12_plate_31 : decode cX12_plate 31 = .ok (.invokevirtual 170, 3) := by decide +kernel
theorem dX12_plate_34 : decode cX12_plate 34 = .ok (.ifCond .eq 15, 3) := by decide +kernel
theorem dX12_plate_37 : decode cX12_plate 37 = .ok (.aload_n 0, 1) := by decide +kernel
theorem dX12_plate_38 : decode cX12_plate 38 = .ok (.iload 4, 2) := by decide +kernel
theorem dX12_plate_40 : decode cX12_plate 40 = .ok (.iconst 1, 1) := by decide +kernel
theorem dX12_plate_41 : decode cX12_plate 41 = .ok (.bipush 9, 2) := by decide +kernel
theorem dX12_plate_43 : decode cX12_plate 43 = .ok (.invokevirtual 170, 3) := by decide +kernel
theorem dX12_plate_46 : decode cX12_plate 46 = .ok (.ifCond .ne 5, 3) := by decide +kernel
theorem dX12_plate_49 : decode cX12_plate 49 = .ok (.iconst 0, 1) := by decide +kernel
theorem dX12_plate_50 : decode cX12_plate 50 = .ok (.ireturn, 1) := by decide +kernel
theorem dX12_plate_51 : decode cX12_plate 51 = .ok (.aload_n 0, 1) := by decide +kernel
theorem dX12_plate_52 : decode cX12_plate 52 = .ok (.iconst 1, 1) := by decide +kernel
theorem dX12_plate_53 : decode cX12_plate 53 = .ok (.putfield 174, 3) := by decide +kernel
theorem dX12_plate_56 : decode cX12_plate 56 = .ok (.aload_n 0, 1) := by decide +kernel
theorem dX12_plate_57 : decode cX12_plate 57 = .ok (.iload_n 1, 1) := by decide +kernel
theorem dX12_plate_58 : decode cX12_plate 58 = .ok (.putfield 177, 3) := by decide +kernel
theorem dX12_plate_61 : decode cX12_plate 61 = .ok (.aload_n 0, 1) := by decide +kernel
theorem dX12_plate_62 : decode cX12_plate 62 = .ok (.iload_n 2, 1) := by decide +kernel
theorem dX12_plate_63 : decode cX12_plate 63 = .ok (.putfield 180, 3) := by decide +kernel
theorem dX12_plate_66 : decode cX12_plate 66 = .ok (.aload_n 0, 1) := by decide +kernel
theorem dX12_plate_67 : decode cX12_plate 67 = .ok (.iload_n 3, 1) := by decide +kernel
theorem dX12_plate_68 : decode cX12_plate 68 = .ok (.putfield 183, 3) := by decide +kernel
theorem dX12_plate_71 : decode cX12_plate 71 = .ok (.aload_n 0, 1) := by decide +kernel
theorem dX12_plate_72 : decode cX12_plate 72 = .ok (.iload 4, 2) := by decide +kernel
theorem dX12_plate_74 : decode cX12_plate 74 = .ok (.putfield 186, 3) := by decide +kernel
theorem dX12_plate_77 : decode cX12_plate 77 = .ok (.iconst 0, 1) := by decide +kernel
theorem dX12_plate_78 : decode cX12_plate 78 = .ok (.istore 5, 2) := by decide +kernel
theorem dX12_plate_80 : decode cX12_plate 80 = .ok (.iload 5, 2) := by decide +kernel
theorem dX12_plate_82 : decode cX12_plate 82 = .ok (.sipush 192, 3) := by decide +kernel
theorem dX12_plate_85 : decode cX12_plate 85 = .ok (.if_icmp .ge 41, 3) := by decide +kernel
theorem dX12_plate_88 : decode cX12_plate 88 = .ok (.aload_n 0, 1) := by decide +kernel
theorem dX12_plate_89 : decode cX12_plate 89 = .ok (.getfield 33, 3) := by decide +kernel
theorem dX12_plate_92 : decode cX12_plate 92 = .ok (.iload 5, 2) := by decide +kernel
theorem dX12_plate_94 : decode cX12_plate 94 = .ok (.iconst 0, 1) := by decide +kernel
theorem dX12_plate_95 : decode cX12_plate 95 = .ok (.iastore, 1) := by decide +kernel
theorem dX12_plate_96 : decode cX12_plate 96 = .ok (.aload_n 0, 1) := by decide +kernel
theorem dX12_plate_97 : decode cX12_plate 97 = .ok (.getfield 39, 3) := by decide +kernel
theorem dX12_plate_100 : decode cX12_plate 100 = .ok (.iload 5, 2) := by decide +kernel
theorem dX12_plate_102 : decode cX12_plate 102 = .ok (.iconst 0, 1) := by decide +kernel
theorem dX12_plate_103 : decode cX12_plate 103 = .ok (.iastore, 1) := by decide +kernel
theorem dX12_plate_104 : decode cX12_plate 104 = .ok (.aload_n 0, 1) := by decide +kernel
theorem dX12_plate_105 : decode cX12_plate 105 = .ok (.getfield 42, 3) := by decide +kernel
theorem dX12_plate_108 : decode cX12_plate 108 = .ok (.iload 5, 2) := by decide +kernel
theorem dX12_plate_110 : decode cX12_plate 110 = .ok (.iconst 0, 1) := by decide +kernel
theorem dX12_plate_111 : decode cX12_plate 111 = .ok (.bastore, 1) := by decide +kernel
theorem dX12_plate_112 : decode cX12_plate 112 = .ok (.aload_n 0, 1) := by decide +kernel
theorem dX12_plate_113 : decode cX12_plate 113 = .ok (.getfield 46, 3) := by decide +kernel
theorem dX12_plate_116 : decode cX12_plate 116 = .ok (.iload 5, 2) := by decide +kernel
theorem dX12_plate_118 : decode cX12_plate 118 = .ok (.iconst 0, 1) := by decide +kernel
theorem dX12_plate_119 : decode cX12_plate 119 = .ok (.bastore, 1) := by decide +kernel
theorem dX12_plate_120 : decode cX12_plate 120 = .ok (.iinc 5 1, 3) := by decide +kernel
theorem dX12_plate_123 : decode cX12_plate 123 = .ok (.goto (-43), 3) := by decide +kernel
theorem dX12_plate_126 : decode cX12_plate 126 = .ok (.aload_n 0, 1) := by decide +kernel
theorem dX12_plate_127 : decode cX12_plate 127 = .ok (.getfield 49, 3) := by decide +kernel
theorem dX12_plate_130 : decode cX12_plate 130 = .ok (.iconst 0, 1) := by decide +kernel
theorem dX12_plate_131 : decode cX12_plate 131 = .ok (.iconst 0, 1) := by decide +kernel
theorem dX12_plate_132 : decode cX12_plate 132 = .ok (.iastore, 1) := by decide +kernel
theorem dX12_plate_133 : decode cX12_plate 133 = .ok (.aload_n 0, 1) := by decide +kernel
theorem dX12_plate_134 : decode cX12_plate 134 = .ok (.getfield 52, 3) := by decide +kernel
theorem dX12_plate_137 : decode cX12_plate 137 = .ok (.iconst 0, 1) := by decide +kernel
theorem dX12_plate_138 : decode cX12_plate 138 = .ok (.iconst 0, 1) := by decide +kernel
theorem dX12_plate_139 : decode cX12_plate 139 = .ok (.iastore, 1) := by decide +kernel
theorem dX12_plate_140 : decode cX12_plate 140 = .ok (.aload_n 0, 1) := by decide +kernel
theorem dX12_plate_141 : decode cX12_plate 141 = .ok (.getfield 55, 3) := by decide +kernel
theorem dX12_plate_144 : decode cX12_plate 144 = .ok (.iconst 0, 1) := by decide +kernel
theorem dX12_plate_145 : decode cX12_plate 145 = .ok (.iconst 0, 1) := by decide +kernel
theorem dX12_plate_146 : decode cX12_plate 146 = .ok (.bastore, 1) := by decide +kernel
theorem dX12_plate_147 : decode cX12_plate 147 = .ok (.aload_n 0, 1) := by decide +kernel
theorem dX12_plate_148 : decode cX12_plate 148 = .ok (.getfield 58, 3) := by decide +kernel
theorem dX12_plate_151 : decode cX12_plate 151 = .ok (.iconst 0, 1) := by decide +kernel
theorem dX12_plate_152 : decode cX12_plate 152 = .ok (.iconst 5, 1) := by decide +kernel
theorem dX12_plate_153 : decode cX12_plate 153 = .ok (.iastore, 1) := by decide +kernel
theorem dX12_plate_154 : decode cX12_plate 154 = .ok (.aload_n 0, 1) := by decide +kernel
theorem dX12_plate_155 : decode cX12_plate 155 = .ok (.getfield 61, 3) := by decide +kernel
theorem dX12_plate_158 : decode cX12_plate 158 = .ok (.iconst 0, 1) := by decide +kernel
theorem dX12_plate_159 : decode cX12_plate 159 = .ok (.iconst 0, 1) := by decide +kernel
theorem dX12_plate_160 : decode cX12_plate 160 = .ok (.iastore, 1) := by decide +kernel
theorem dX12_plate_161 : decode cX12_plate 161 = .ok (.aload_n 0, 1) := by decide +kernel
theorem dX12_plate_162 : decode cX12_plate 162 = .ok (.getfield 64, 3) := by decide +kernel
theorem dX12_plate_165 : decode cX12_plate 165 = .ok (.iconst 0, 1) := by decide +kernel
theorem dX12_plate_166 : decode cX12_plate 166 = .ok (.iconst 0, 1) := by decide +kernel
theorem dX12_plate_167 : decode cX12_plate 167 = .ok (.iastore, 1) := by decide +kernel
theorem dX12_plate_168 : decode cX12_plate 168 = .ok (.aload_n 0, 1) := by decide +kernel
theorem dX12_plate_169 : decode cX12_plate 169 = .ok (.getfield 67, 3) := by decide +kernel
theorem dX12_plate_172 : decode cX12_plate 172 = .ok (.iconst 0, 1) := by decide +kernel
theorem dX12_plate_173 : decode cX12_plate 173 = .ok (.iconst 0, 1) := by decide +kernel
theorem dX12_plate_174 : decode cX12_plate 174 = .ok (.iastore, 1) := by decide +kernel
theorem dX12_plate_175 : decode cX12_plate 175 = .ok (.aload_n 0, 1) := by decide +kernel
theorem dX12_plate_176 : decode cX12_plate 176 = .ok (.getfield 70, 3) := by decide +kernel
theorem dX12_plate_179 : decode cX12_plate 179 = .ok (.iconst 0, 1) := by decide +kernel
theorem dX12_plate_180 : decode cX12_plate 180 = .ok (.lconst 0, 1) := by decide +kernel
theorem dX12_plate_181 : decode cX12_plate 181 = .ok (.lastore, 1) := by decide +kernel
theorem dX12_plate_182 : decode cX12_plate 182 = .ok (.aload_n 0, 1) := by decide +kernel
theorem dX12_plate_183 : decode cX12_plate 183 = .ok (.getfield 74, 3) := by decide +kernel
theorem dX12_plate_186 : decode cX12_plate 186 = .ok (.iconst 0, 1) := by decide +kernel
theorem dX12_plate_187 : decode cX12_plate 187 = .ok (.lconst 0, 1) := by decide +kernel
theorem dX12_plate_188 : decode cX12_plate 188 = .ok (.lastore, 1) := by decide +kernel
theorem dX12_plate_189 : decode cX12_plate 189 = .ok (.aload_n 0, 1) := by decide +kernel
theorem dX12_plate_190 : decode cX12_plate 190 = .ok (.getfield 77, 3) := by decide +kernel
theorem dX12_plate_193 : decode cX12_plate 193 = .ok (.iconst 0, 1) := by decide +kernel
theorem dX12_plate_194 : decode cX12_plate 194 = .ok (.lconst 0, 1) := by decide +kernel
theorem dX12_plate_195 : decode cX12_plate 195 = .ok (.lastore, 1) := by decide +kernel
theorem dX12_plate_196 : decode cX12_plate 196 = .ok (.iconst 1, 1) := by decide +kernel
theorem dX12_plate_197 : decode cX12_plate 197 = .ok (.ireturn, 1) := by decide +kernel
theorem dX12_beam_0 : decode cX12_beam 0 = .ok (.aload_n 0, 1) := by decide +kernel
theorem dX12_beam_1 : decode cX12_beam 1 = .ok (.iconst 0, 1) := by decide +kernel
theorem dX12_beam_2 : decode cX12_beam 2 = .ok (.putfield 167, 3) := by decide +kernel
theorem dX12_beam_5 : decode cX12_beam 5 = .ok (.aload_n 0, 1) := by decide +kernel
theorem dX12_beam_6 : decode cX12_beam 6 = .ok (.iload_n 1, 1) := by decide +kernel
theorem dX12_beam_7 : decode cX12_beam 7 = .ok (.iconst 0, 1) := by decide +kernel
theorem dX12_beam_8 : decode cX12_beam 8 = .ok (.sipush 9999, 3) := by decide +kernel
theorem dX12_beam_11 : decode cX12_beam 11 = .ok (.invokevirtual 170, 3) := by decide +kernel
theorem dX12_beam_14 : decode cX12_beam 14 = .ok (.ifCond .ne 5, 3) := by decide +kernel
theorem dX12_beam_17 : decode cX12_beam 17 = .ok (.iconst 0, 1) := by decide +kernel
theorem dX12_beam_18 : decode cX12_beam 18 = .ok (.ireturn, 1) := by decide +kernel
theorem dX12_beam_19 : decode cX12_beam 19 = .ok (.aload_n 0, 1) := by decide +kernel
theorem dX12_beam_20 : decode cX12_beam 20 = .ok (.iload_n 1, 1) := by decide +kernel
theorem dX12_beam_21 : decode cX12_beam 21 = .ok (.putfield 22, 3) := by decide +kernel
theorem dX12_beam_24 : decode cX12_beam 24 = .ok (.aload_n 0, 1) := by decide +kernel
theorem dX12_beam_25 : decode cX12_beam 25 = .ok (.iload_n 2, 1) := by decide +kernel
theorem dX12_beam_26 : decode cX12_beam 26 = .ok (.putfield 26, 3) := by decide +kernel
theorem dX12_beam_29 : decode cX12_beam 29 = .ok (.iconst 1, 1) := by decide +kernel
theorem dX12_beam_30 : decode cX12_beam 30 = .ok (.ireturn, 1) := by decide +kernel
theorem dX12_pitch_0 : decode cX12_pitch 0 = .ok (.aload_n 0, 1) := by decide +kernel
theorem dX12_pitch_1 : decode cX12_pitch 1 = .ok (.iconst 0, 1) := by decide +kernel
theorem dX12_pitch_2 : decode cX12_pitch 2 = .ok (.putfield 167, 3) := by decide +kernel
theorem dX12_pitch_5 : decode cX12_pitch 5 = .ok (.aload_n 0, 1) := by decide +kernel
theorem dX12_pitch_6 : decode cX12_pitch 6 = .ok (.iload_n 1, 1) := by decide +kernel
theorem dX12_pitch_7 : decode cX12_pitch 7 = .ok (.iconst 2, 1) := by decide +kernel
theorem dX12_pitch_8 : decode cX12_pitch 8 = .ok (.bipush 9, 2) := by decide +kernel
theorem dX12_pitch_10 : decode cX12_pitch 10 = .ok (.invokevirtual 170, 3) := by decide +kernel
theorem dX12_pitch_13 : decode cX12_pitch 13 = .ok (.ifCond .ne 5, 3) := by decide +kernel
theorem dX12_pitch_16 : decode cX12_pitch 16 = .ok (.iconst 0, 1) := by decide +kernel
theorem dX12_pitch_17 : decode cX12_pitch 17 = .ok (.ireturn, 1) := by decide +kernel
theorem dX12_pitch_18 : decode cX12_pitch 18 = .ok (.aload_n 0, 1) := by decide +kernel
theorem dX12_pitch_19 : decode cX12_pitch 19 = .ok (.iload_n 1, 1) := by decide +kernel
theorem dX12_pitch_20 : decode cX12_pitch 20 = .ok (.putfield 30, 3) := by decide +kernel
theorem dX12_pitch_23 : decode cX12_pitch 23 = .ok (.iconst 1, 1) := by decide +kernel
theorem dX12_pitch_24 : decode cX12_pitch 24 = .ok (.ireturn, 1) := by decide +kernel
theorem dX12_isOnPlate_0 : decode cX12_isOnPlate 0 = .ok (.iload_n 1, 1) := by decide +kernel
theorem dX12_isOnPlate_1 : decode cX12_isOnPlate 1 = .ok (.ifCond .lt 27, 3) := by decide +kernel
theorem dX12_isOnPlate_4 : decode cX12_isOnPlate 4 = .ok (.iload_n 1, 1) := by decide +kernel
theorem dX12_isOnPlate_5 : decode cX12_isOnPlate 5 = .ok (.aload_n 0, 1) := by decide +kernel
theorem dX12_isOnPlate_6 : decode cX12_isOnPlate 6 = .ok (.getfield 177, 3) := by decide +kernel
theorem dX12_isOnPlate_9 : decode cX12_isOnPlate 9 = .ok (.if_icmp .ge 19, 3) := by decide +kernel
theorem dX12_isOnPlate_12 : decode cX12_isOnPlate 12 = .ok (.iload_n 2, 1) := by decide +kernel
theorem dX12_isOnPlate_13 : decode cX12_isOnPlate 13 = .ok (.ifCond .lt 15, 3) := by decide +kernel
theorem dX12_isOnPlate_16 : decode cX12_isOnPlate 16 = .ok (.iload_n 2, 1) := by decide +kernel
theorem dX12_isOnPlate_17 : decode cX12_isOnPlate 17 = .ok (.aload_n 0, 1) := by decide +kernel
theorem dX12_isOnPlate_18 : decode cX12_isOnPlate 18 = .ok (.getfield 180, 3) := by decide +kernel
theorem dX12_isOnPlate_21 : decode cX12_isOnPlate 21 = .ok (.if_icmp .ge 7, 3) := by decide +kernel
theorem dX12_isOnPlate_24 : decode cX12_isOnPlate 24 = .ok (.iconst 1, 1) := by decide +kernel
theorem dX12_isOnPlate_25 : decode cX12_isOnPlate 25 = .ok (.goto 4, 3) := by decide +kernel
theorem dX12_isOnPlate_28 : decode cX12_isOnPlate 28 = .ok (.iconst 0, 1) := by decide +kernel
theorem dX12_isOnPlate_29 : decode cX12_isOnPlate 29 = .ok (.ireturn, 1) := by decide +kernel
theorem dX12_puts_0 : decode cX12_puts 0 = .ok (.bipush 24, 2) := by decide +kernel
theorem dX12_puts_2 : decode cX12_puts 2 = .ok (.istore_n 2, 1) := by decide +kernel
theorem dX12_puts_3 : decode cX12_puts 3 = .ok (.iload_n 2, 1) := by decide +kernel
theorem dX12_puts_4 : decode cX12_puts 4 = .ok (.ifCond .lt 35, 3) := by decide +kernel
theorem dX12_puts_7 : decode cX12_puts 7 = .ok (.aload_n 0, 1) := by decide +kernel
theorem dX12_puts_8 : decode cX12_puts 8 = .ok (.getfield 95, 3) := by decide +kernel
theorem dX12_puts_11 : decode cX12_puts 11 = .ok (.aload_n 0, 1) := by decide +kernel
theorem dX12_puts_12 : decode cX12_puts 12 = .ok (.getfield 239, 3) := by decide +kernel
theorem dX12_puts_15 : decode cX12_puts 15 = .ok (.iload_n 1, 1) := by decide +kernel
theorem dX12_puts_16 : decode cX12_puts 16 = .ok (.iload_n 2, 1) := by decide +kernel
theorem dX12_puts_17 : decode cX12_puts 17 = .ok (.ishr, 1) := by decide +kernel
theorem dX12_puts_18 : decode cX12_puts 18 = .ok (.sipush 255, 3) := by decide +kernel
theorem dX12_puts_21 : decode cX12_puts 21 = .ok (.iand, 1) := by decide +kernel
theorem dX12_puts_22 : decode cX12_puts 22 = .ok (.iastore, 1) := by decide +kernel
theorem dX12_puts_23 : decode cX12_puts 23 = .ok (.aload_n 0, 1) := by decide +kernel
theorem dX12_puts_24 : decode cX12_puts 24 = .ok (.aload_n 0, 1) := by decide +kernel
theorem dX12_puts_25 : decode cX12_puts 25 = .ok (.getfield 239, 3) := by decide +kernel
theorem dX12_puts_28 : decode cX12_puts 28 = .ok (.iconst 1, 1) := by decide +kernel
theorem dX12_puts_29 : decode cX12_puts 29 = .ok (.iadd, 1) := by decide +kernel
theorem dX12_puts_30 : decode cX12_puts 30 = .ok (.putfield 239, 3) := by decide +kernel
theorem dX12_puts_33 : decode cX12_puts 33 = .ok (.iinc 2 (-8), 3) := by decide +kernel
theorem dX12_puts_36 : decode cX12_puts 36 = .ok (.goto (-33), 3) := by decide +kernel
theorem dX12_puts_39 : decode cX12_puts 39 = .ok (.return_, 1) := by decide +kernel
theorem dX12_feed_0 : decode cX12_feed 0 = .ok (.aload_n 0, 1) := by decide +kernel
theorem dX12_feed_1 : decode cX12_feed 1 = .ok (.iconst 0, 1) := by decide +kernel
theorem dX12_feed_2 : decode cX12_feed 2 = .ok (.putfield 167, 3) := by decide +kernel
theorem dX12_feed_5 : decode cX12_feed 5 = .ok (.aload_n 0, 1) := by decide +kernel
theorem dX12_feed_6 : decode cX12_feed 6 = .ok (.getfield 239, 3) := by decide +kernel
theorem dX12_feed_9 : decode cX12_feed 9 = .ok (.sipush 380, 3) := by decide +kernel
theorem dX12_feed_12 : decode cX12_feed 12 = .ok (.if_icmp .le 5, 3) := by decide +kernel
theorem dX12_feed_15 : decode cX12_feed 15 = .ok (.iconst (-1), 1) := by decide +kernel
theorem dX12_feed_16 : decode cX12_feed 16 = .ok (.ireturn, 1) := by decide +kernel
theorem dX12_feed_17 : decode cX12_feed 17 = .ok (.aload_n 0, 1) := by decide +kernel
theorem dX12_feed_18 : decode cX12_feed 18 = .ok (.iload_n 1, 1) := by decide +kernel
theorem dX12_feed_19 : decode cX12_feed 19 = .ok (.invokevirtual 242, 3) := by decide +kernel
theorem dX12_feed_22 : decode cX12_feed 22 = .ok (.aload_n 0, 1) := by decide +kernel
theorem dX12_feed_23 : decode cX12_feed 23 = .ok (.iload_n 2, 1) := by decide +kernel
theorem dX12_feed_24 : decode cX12_feed 24 = .ok (.invokevirtual 242, 3) := by decide +kernel
theorem dX12_feed_27 : decode cX12_feed 27 = .ok (.aload_n 0, 1) := by decide +kernel
theorem dX12_feed_28 : decode cX12_feed 28 = .ok (.iload_n 3, 1) := by decide +kernel
theorem dX12_feed_29 : decode cX12_feed 29 = .ok (.invokevirtual 242, 3) := by decide +kernel
theorem dX12_feed_32 : decode cX12_feed 32 = .ok (.aload_n 0, 1) := by decide +kernel
theorem dX12_feed_33 : decode cX12_feed 33 = .ok (.iload 4, 2) := by decide +kernel
theorem dX12_feed_35 : decode cX12_feed 35 = .ok (.invokevirtual 242, 3) := by decide +kernel
theorem dX12_feed_38 : decode cX12_feed 38 = .ok (.aload_n 0, 1) := by decide +kernel
theorem dX12_feed_39 : decode cX12_feed 39 = .ok (.iload 5, 2) := by decide +kernel
theorem dX12_feed_41 : decode cX12_feed 41 = .ok (.invokevirtual 242, 3) := by decide +kernel
theorem dX12_feed_44 : decode cX12_feed 44 = .ok (.aload_n 0, 1) := by decide +kernel
theorem dX12_feed_45 : decode cX12_feed 45 = .ok (.getfield 239, 3) := by decide +kernel
theorem dX12_feed_48 : decode cX12_feed 48 = .ok (.ireturn, 1) := by decide +kernel
theorem dX12_end_0 : decode cX12_end 0 = .ok (.aload_n 0, 1) := by decide +kernel
theorem dX12_end_1 : decode cX12_end 1 = .ok (.iconst 0, 1) := by decide +kernel
theorem dX12_end_2 : decode cX12_end 2 = .ok (.putfield 167, 3) := by decide +kernel
theorem dX12_end_5 : decode cX12_end 5 = .ok (.aload_n 0, 1) := by decide +kernel
theorem dX12_end_6 : decode cX12_end 6 = .ok (.iload_n 1, 1) := by decide +kernel
theorem dX12_end_7 : decode cX12_end 7 = .ok (.iconst 0, 1) := by decide +kernel
theorem dX12_end_8 : decode cX12_end 8 = .ok (.aload_n 0, 1) := by decide +kernel
theorem dX12_end_9 : decode cX12_end 9 = .ok (.getfield 239, 3) := by decide +kernel
theorem dX12_end_12 : decode cX12_end 12 = .ok (.invokevirtual 170, 3) := by decide +kernel
theorem dX12_end_15 : decode cX12_end 15 = .ok (.ifCond .ne 5, 3) := by decide +kernel
theorem dX12_end_18 : decode cX12_end 18 = .ok (.iconst 0, 1) := by decide +kernel
theorem dX12_end_19 : decode cX12_end 19 = .ok (.ireturn, 1) := by decide +kernel
theorem dX12_end_20 : decode cX12_end 20 = .ok (.aload_n 0, 1) := by decide +kernel
theorem dX12_end_21 : decode cX12_end 21 = .ok (.iload_n 1, 1) := by decide +kernel
theorem dX12_end_22 : decode cX12_end 22 = .ok (.putfield 239, 3) := by decide +kernel
theorem dX12_end_25 : decode cX12_end 25 = .ok (.iconst 1, 1) := by decide +kernel
theorem dX12_end_26 : decode cX12_end 26 = .ok (.ireturn, 1) := by decide +kernel
theorem dX12_raw_0 : decode cX12_raw 0 = .ok (.iload_n 1, 1) := by decide +kernel
theorem dX12_raw_1 : decode cX12_raw 1 = .ok (.aload_n 0, 1) := by decide +kernel
theorem dX12_raw_2 : decode cX12_raw 2 = .ok (.getfield 239, 3) := by decide +kernel
theorem dX12_raw_5 : decode cX12_raw 5 = .ok (.if_icmp .ge 12, 3) := by decide +kernel
theorem dX12_raw_8 : decode cX12_raw 8 = .ok (.aload_n 0, 1) := by decide +kernel
theorem dX12_raw_9 : decode cX12_raw 9 = .ok (.getfield 95, 3) := by decide +kernel
theorem dX12_raw_12 : decode cX12_raw 12 = .ok (.iload_n 1, 1) := by decide +kernel
theorem dX12_raw_13 : decode cX12_raw 13 = .ok (.iaload, 1) := by decide +kernel
theorem dX12_raw_14 : decode cX12_raw 14 = .ok (.goto 4, 3) := by decide +kernel
theorem dX12_raw_17 : decode cX12_raw 17 = .ok (.iconst (-1), 1) := by decide +kernel
theorem dX12_raw_18 : decode cX12_raw 18 = .ok (.ireturn, 1) := by decide +kernel
theorem dX12_reads_0 : decode cX12_reads 0 = .ok (.aload_n 0, 1) := by decide +kernel
theorem dX12_reads_1 : decode cX12_reads 1 = .ok (.aload_n 0, 1) := by decide +kernel
theorem dX12_reads_2 : decode cX12_reads 2 = .ok (.getfield 245, 3) := by decide +kernel
theorem dX12_reads_5 : decode cX12_reads 5 = .ok (.invokevirtual 248, 3) := by decide +kernel
theorem dX12_reads_8 : decode cX12_reads 8 = .ok (.bipush 32, 2) := by decide +kernel
theorem dX12_reads_10 : decode cX12_reads 10 = .ok (.if_icmp .eq 16, 3) := by decide +kernel
theorem dX12_reads_13 : decode cX12_reads 13 = .ok (.aload_n 0, 1) := by decide +kernel
theorem dX12_reads_14 : decode cX12_reads 14 = .ok (.aload_n 0, 1) := by decide +kernel
theorem dX12_reads_15 : decode cX12_reads 15 = .ok (.getfield 245, 3) := by decide +kernel
theorem dX12_reads_18 : decode cX12_reads 18 = .ok (.invokevirtual 248, 3) := by decide +kernel
theorem dX12_reads_21 : decode cX12_reads 21 = .ok (.bipush 10, 2) := by decide +kernel
theorem dX12_reads_23 : decode cX12_reads 23 = .ok (.if_icmp .ne 16, 3) := by decide +kernel
theorem dX12_reads_26 : decode cX12_reads 26 = .ok (.aload_n 0, 1) := by decide +kernel
theorem dX12_reads_27 : decode cX12_reads 27 = .ok (.aload_n 0, 1) := by decide +kernel
theorem dX12_reads_28 : decode cX12_reads 28 = .ok (.getfield 245, 3) := by decide +kernel
theorem dX12_reads_31 : decode cX12_reads 31 = .ok (.iconst 1, 1) := by decide +kernel
theorem dX12_reads_32 : decode cX12_reads 32 = .ok (.iadd, 1) := by decide +kernel
theorem dX12_reads_33 : decode cX12_reads 33 = .ok (.putfield 245, 3) := by decide +kernel
theorem dX12_reads_36 : decode cX12_reads 36 = .ok (.goto (-36), 3) := by decide +kernel
theorem dX12_reads_39 : decode cX12_reads 39 = .ok (.aload_n 0, 1) := by decide +kernel
theorem dX12_reads_40 : decode cX12_reads 40 = .ok (.aload_n 0, 1) := by decide +kernel
theorem dX12_reads_41 : decode cX12_reads 41 = .ok (.getfield 245, 3) := by decide +kernel
theorem dX12_reads_44 : decode cX12_reads 44 = .ok (.putfield 251, 3) := by decide +kernel
theorem dX12_reads_47 : decode cX12_reads 47 = .ok (.aload_n 0, 1) := by decide +kernel
theorem dX12_reads_48 : decode cX12_reads 48 = .ok (.iconst 1, 1) := by decide +kernel
theorem dX12_reads_49 : decode cX12_reads 49 = .ok (.putfield 254, 3) := by decide +kernel
theorem dX12_reads_52 : decode cX12_reads 52 = .ok (.aload_n 0, 1) := by decide +kernel
theorem dX12_reads_53 : decode cX12_reads 53 = .ok (.aload_n 0, 1) := by decide +kernel
theorem dX12_reads_54 : decode cX12_reads 54 = .ok (.getfield 245, 3) := by decide +kernel
theorem dX12_reads_57 : decode cX12_reads 57 = .ok (.invokevirtual 248, 3) := by decide +kernel
theorem dX12_reads_60 : decode cX12_reads 60 = .ok (.istore_n 1, 1) := by decide +kernel
theorem dX12_reads_61 : decode cX12_reads 61 = .ok (.iload_n 1, 1) := by decide +kernel
theorem dX12_reads_62 : decode cX12_reads 62 = .ok (.iconst (-1), 1) := by decide +kernel
theorem dX12_reads_63 : decode cX12_reads 63 = .ok (.if_icmp .ne 9, 3) := by decide +kernel
theorem dX12_reads_66 : decode cX12_reads 66 = .ok (.aload_n 0, 1) := by decide +kernel
theorem dX12_reads_67 : decode cX12_reads 67 = .ok (.iconst 0, 1) := by decide +kernel
theorem dX12_reads_68 : decode cX12_reads 68 = .ok (.putfield 254, 3) := by decide +kernel
theorem dX12_reads_71 : decode cX12_reads 71 = .ok (.return_, 1) := by decide +kernel
theorem dX12_reads_72 : decode cX12_reads 72 = .ok (.aload_n 0, 1) := by decide +kernel
theorem dX12_reads_73 : decode cX12_reads 73 = .ok (.aload_n 0, 1) := by decide +kernel
theorem dX12_reads_74 : decode cX12_reads 74 = .ok (.getfield 245, 3) := by decide +kernel
theorem dX12_reads_77 : decode cX12_reads 77 = .ok (.iconst 1, 1) := by decide +kernel
theorem dX12_reads_78 : decode cX12_reads 78 = .ok (.iadd, 1) := by decide +kernel
theorem dX12_reads_79 : decode cX12_reads 79 = .ok (.putfield 245, 3) := by decide +kernel
theorem dX12_reads_82 : decode cX12_reads 82 = .ok (.aload_n 0, 1) := by decide +kernel
theorem dX12_reads_83 : decode cX12_reads 83 = .ok (.iload_n 1, 1) := by decide +kernel
theorem dX12_reads_84 : decode cX12_reads 84 = .ok (.putfield 257, 3) := by decide +kernel
theorem dX12_reads_87 : decode cX12_reads 87 = .ok (.aload_n 0, 1) := by decide +kernel
theorem dX12_reads_88 : decode cX12_reads 88 = .ok (.iload_n 1, 1) := by decide +kernel
theorem dX12_reads_89 : decode cX12_reads 89 = .ok (.invokevirtual 260, 3) := by decide +kernel
theorem dX12_reads_92 : decode cX12_reads 92 = .ok (.ifCond .eq 63, 3) := by decide +kernel
theorem dX12_reads_95 : decode cX12_reads 95 = .ok (.aload_n 0, 1) := by decide +kernel
theorem dX12_reads_96 : decode cX12_reads 96 = .ok (.aload_n 0, 1) := by decide +kernel
theorem dX12_reads_97 : decode cX12_reads 97 = .ok (.aload_n 0, 1) := by decide +kernel
theorem dX12_reads_98 : decode cX12_reads 98 = .ok (.getfield 245, 3) := by decide +kernel
theorem dX12_reads_101 : decode cX12_reads 101 = .ok (.invokevirtual 248, 3) := by decide +kernel
theorem dX12_reads_104 : decode cX12_reads 104 = .ok (.invokevirtual 260, 3) := by decide +kernel
theorem dX12_reads_107 : decode cX12_reads 107 = .ok (.ifCond .eq 16, 3) := by decide +kernel
theorem dX12_reads_110 : decode cX12_reads 110 = .ok (.aload_n 0, 1) := by decide +kernel
theorem dX12_reads_111 : decode cX12_reads 111 = .ok (.aload_n 0, 1) := by decide +kernel
theorem dX12_reads_112 : decode cX12_reads 112 = .ok (.getfield 245, 3) := by decide +kernel
theorem dX12_reads_115 : decode cX12_reads 115 = .ok (.iconst 1, 1) := by decide +kernel
theorem dX12_reads_116 : decode cX12_reads 116 = .ok (.iadd, 1) := by decide +kernel
theorem dX12_reads_117 : decode cX12_reads 117 = .ok (.putfield 245, 3) := by decide +kernel
theorem dX12_reads_120 : decode cX12_reads 120 = .ok (.goto (-25), 3) := by decide +kernel
theorem dX12_reads_123 : decode cX12_reads 123 = .ok (.aload_n 0, 1) := by decide +kernel
theorem dX12_reads_124 : decode cX12_reads 124 = .ok (.aload_n 0, 1) := by decide +kernel
theorem dX12_reads_125 : decode cX12_reads 125 = .ok (.aload_n 0, 1) := by decide +kernel
theorem dX12_reads_126 : decode cX12_reads 126 = .ok (.getfield 251, 3) := by decide +kernel
theorem dX12_reads_129 : decode cX12_reads 129 = .ok (.aload_n 0, 1) := by decide +kernel
theorem dX12_reads_130 : decode cX12_reads 130 = .ok (.getfield 245, 3) := by decide +kernel
theorem dX12_reads_133 : decode cX12_reads 133 = .ok (.invokevirtual 263, 3) := by decide +kernel
theorem dX12_reads_136 : decode cX12_reads 136 = .ok (.putfield 257, 3) := by decide +kernel
theorem dX12_reads_139 : decode cX12_reads 139 = .ok (.aload_n 0, 1) := by decide +kernel
theorem dX12_reads_140 : decode cX12_reads 140 = .ok (.getfield 257, 3) := by decide +kernel
theorem dX12_reads_143 : decode cX12_reads 143 = .ok (.iconst (-1), 1) := by decide +kernel
theorem dX12_reads_144 : decode cX12_reads 144 = .ok (.if_icmp .eq 129, 3) := by decide +kernel
theorem dX12_reads_147 : decode cX12_reads 147 = .ok (.aload_n 0, 1) := by decide +kernel
theorem dX12_reads_148 : decode cX12_reads 148 = .ok (.iconst 2, 1) := by decide +kernel
theorem dX12_reads_149 : decode cX12_reads 149 = .ok (.putfield 254, 3) := by decide +kernel
theorem dX12_reads_152 : decode cX12_reads 152 = .ok (.goto 121, 3) := by decide +kernel
theorem dX12_reads_155 : decode cX12_reads 155 = .ok (.aload_n 0, 1) := by decide +kernel
theorem dX12_reads_156 : decode cX12_reads 156 = .ok (.iload_n 1, 1) := by decide +kernel
theorem dX12_reads_157 : decode cX12_reads 157 = .ok (.invokevirtual 267, 3) := by decide +kernel
theorem dX12_reads_160 : decode cX12_reads 160 = .ok (.ifCond .eq 100, 3) := by decide +kernel
theorem dX12_reads_163 : decode cX12_reads 163 = .ok (.aload_n 0, 1) := by decide +kernel
theorem dX12_reads_164 : decode cX12_reads 164 = .ok (.iload_n 1, 1) := by decide +kernel
theorem dX12_reads_165 : decode cX12_reads 165 = .ok (.bipush 48, 2) := by decide +kernel
theorem dX12_reads_167 : decode cX12_reads 167 = .ok (.isub, 1) := by decide +kernel
theorem dX12_reads_168 : decode cX12_reads 168 = .ok (.putfield 257, 3) := by decide +kernel
theorem dX12_reads_171 : decode cX12_reads 171 = .ok (.aload_n 0, 1) := by decide +kernel
theorem dX12_reads_172 : decode cX12_reads 172 = .ok (.aload_n 0, 1) := by decide +kernel
theorem dX12_reads_173 : decode cX12_reads 173 = .ok (.aload_n 0, 1) := by decide +kernel
theorem dX12_reads_174 : decode cX12_reads 174 = .ok (.getfield 245, 3) := by decide +kernel
theorem dX12_reads_177 : decode cX12_reads 177 = .ok (.invokevirtual 248, 3) := by decide +kernel
theorem dX12_reads_180 : decode cX12_reads 180 = .ok (.invokevirtual 267, 3) := by decide +kernel
theorem dX12_reads_183 : decode cX12_reads 183 = .ok (.ifCond .eq 56, 3) := by decide +kernel
theorem dX12_reads_186 : decode cX12_reads 186 = .ok (.aload_n 0, 1) := by decide +kernel
theorem dX12_reads_187 : decode cX12_reads 187 = .ok (.aload_n 0, 1) := by decide +kernel
theorem dX12_reads_188 : decode cX12_reads 188 = .ok (.getfield 257, 3) := by decide +kernel
theorem dX12_reads_191 : decode cX12_reads 191 = .ok (.sipush 10000, 3) := by decide +kernel
theorem dX12_reads_194 : decode cX12_reads 194 = .ok (.if_icmp .ge 25, 3) := by decide +kernel
theorem dX12_reads_197 : decode cX12_reads 197 = .ok (.bipush 10, 2) := by decide +kernel
theorem dX12_reads_199 : decode cX12_reads 199 = .ok (.aload_n 0, 1) := by decide +kernel
theorem dX12_reads_200 : decode cX12_reads 200 = .ok (.getfield 257, 3) := by decide +kernel
theorem dX12_reads_203 : decode cX12_reads 203 = .ok (.imul, 1) := by decide +kernel
theorem dX12_reads_204 : decode cX12_reads 204 = .ok (.aload_n 0, 1) := by decide +kernel
theorem dX12_reads_205 : decode cX12_reads 205 = .ok (.aload_n 0, 1) := by decide +kernel
theorem dX12_reads_206 : decode cX12_reads 206 = .ok (.getfield 245, 3) := by decide +kernel
theorem dX12_reads_209 : decode cX12_reads 209 = .ok (.invokevirtual 248, 3) := by decide +kernel
theorem dX12_reads_212 : decode cX12_reads 212 = .ok (.iadd, 1) := by decide +kernel
theorem dX12_reads_213 : decode cX12_reads 213 = .ok (.bipush 48, 2) := by decide +kernel
theorem dX12_reads_215 : decode cX12_reads 215 = .ok (.isub, 1) := by decide +kernel
theorem dX12_reads_216 : decode cX12_reads 216 = .ok (.goto 7, 3) := by decide +kernel
theorem dX12_reads_219 : decode cX12_reads 219 = .ok (.aload_n 0, 1) := by decide +kernel
theorem dX12_reads_220 : decode cX12_reads 220 = .ok (.getfield 257, 3) := by decide +kernel
theorem dX12_reads_223 : decode cX12_reads 223 = .ok (.putfield 257, 3) := by decide +kernel
theorem dX12_reads_226 : decode cX12_reads 226 = .ok (.aload_n 0, 1) := by decide +kernel
theorem dX12_reads_227 : decode cX12_reads 227 = .ok (.aload_n 0, 1) := by decide +kernel
theorem dX12_reads_228 : decode cX12_reads 228 = .ok (.getfield 245, 3) := by decide +kernel
theorem dX12_reads_231 : decode cX12_reads 231 = .ok (.iconst 1, 1) := by decide +kernel
theorem dX12_reads_232 : decode cX12_reads 232 = .ok (.iadd, 1) := by decide +kernel
theorem dX12_reads_233 : decode cX12_reads 233 = .ok (.putfield 245, 3) := by decide +kernel
theorem dX12_reads_236 : decode cX12_reads 236 = .ok (.goto (-65), 3) := by decide +kernel
theorem dX12_reads_239 : decode cX12_reads 239 = .ok (.aload_n 0, 1) := by decide +kernel
theorem dX12_reads_240 : decode cX12_reads 240 = .ok (.getfield 245, 3) := by decide +kernel
theorem dX12_reads_243 : decode cX12_reads 243 = .ok (.aload_n 0, 1) := by decide +kernel
theorem dX12_reads_244 : decode cX12_reads 244 = .ok (.getfield 251, 3) := by decide +kernel
theorem dX12_reads_247 : decode cX12_reads 247 = .ok (.isub, 1) := by decide +kernel
theorem dX12_reads_248 : decode cX12_reads 248 = .ok (.iconst 5, 1) := by decide +kernel
theorem dX12_reads_249 : decode cX12_reads 249 = .ok (.if_icmp .ge 24, 3) := by decide +kernel
theorem dX12_reads_252 : decode cX12_reads 252 = .ok (.aload_n 0, 1) := by decide +kernel
theorem dX12_reads_253 : decode cX12_reads 253 = .ok (.iconst 3, 1) := by decide +kernel
theorem dX12_reads_254 : decode cX12_reads 254 = .ok (.putfield 254, 3) := by decide +kernel
theorem dX12_reads_257 : decode cX12_reads 257 = .ok (.goto 16, 3) := by decide +kernel
theorem dX12_reads_260 : decode cX12_reads 260 = .ok (.aload_n 0, 1) := by decide +kernel
theorem dX12_reads_261 : decode cX12_reads 261 = .ok (.iload_n 1, 1) := by decide +kernel
theorem dX12_reads_262 : decode cX12_reads 262 = .ok (.invokevirtual 270, 3) := by decide +kernel
theorem dX12_reads_265 : decode cX12_reads 265 = .ok (.ifCond .eq 8, 3) := by decide +kernel
theorem dX12_reads_268 : decode cX12_reads 268 = .ok (.aload_n 0, 1) := by decide +kernel
theorem dX12_reads_269 : decode cX12_reads 269 = .ok (.iconst 4, 1) := by decide +kernel
theorem dX12_reads_270 : decode cX12_reads 270 = .ok (.putfield 254, 3) := by decide +kernel
theorem dX12_reads_273 : decode cX12_reads 273 = .ok (.return_, 1) := by decide +kernel
theorem dX12_readAll_0 : decode cX12_readAll 0 = .ok (.aload_n 0, 1) := by decide +kernel
theorem dX12_readAll_1 : decode cX12_readAll 1 = .ok (.iconst 0, 1) := by decide +kernel
theorem dX12_readAll_2 : decode cX12_readAll 2 = .ok (.putfield 245, 3) := by decide +kernel
theorem dX12_readAll_5 : decode cX12_readAll 5 = .ok (.aload_n 0, 1) := by decide +kernel
theorem dX12_readAll_6 : decode cX12_readAll 6 = .ok (.getfield 110, 3) := by decide +kernel
theorem dX12_readAll_9 : decode cX12_readAll 9 = .ok (.bipush 8, 2) := by decide +kernel
theorem dX12_readAll_11 : decode cX12_readAll 11 = .ok (.iconst 0, 1) := by decide +kernel
theorem dX12_readAll_12 : decode cX12_readAll 12 = .ok (.iastore, 1) := by decide +kernel
theorem dX12_readAll_13 : decode cX12_readAll 13 = .ok (.aload_n 0, 1) := by decide +kernel
theorem dX12_readAll_14 : decode cX12_readAll 14 = .ok (.iconst 0, 1) := by decide +kernel
theorem dX12_readAll_15 : decode cX12_readAll 15 = .ok (.putfield 285, 3) := by decide +kernel
theorem dX12_readAll_18 : decode cX12_readAll 18 = .ok (.aload_n 0, 1) := by decide +kernel
theorem dX12_readAll_19 : decode cX12_readAll 19 = .ok (.iconst 0, 1) := by decide +kernel
theorem dX12_readAll_20 : decode cX12_readAll 20 = .ok (.putfield 294, 3) := by decide +kernel
theorem dX12_readAll_23 : decode cX12_readAll 23 = .ok (.aload_n 0, 1) := by decide +kernel
theorem dX12_readAll_24 : decode cX12_readAll 24 = .ok (.invokevirtual 279, 3) := by decide +kernel
theorem dX12_readAll_27 : decode cX12_readAll 27 = .ok (.iconst 0, 1) := by decide +kernel
theorem dX12_readAll_28 : decode cX12_readAll 28 = .ok (.istore_n 1, 1) := by decide +kernel
theorem dX12_readAll_29 : decode cX12_readAll 29 = .ok (.aload_n 0, 1) := by decide +kernel
theorem dX12_readAll_30 : decode cX12_readAll 30 = .ok (.getfield 254, 3) := by decide +kernel
theorem dX12_readAll_33 : decode cX12_readAll 33 = .ok (.ifCond .ne 14, 3) := by decide +kernel
theorem dX12_readAll_36 : decode cX12_readAll 36 = .ok (.iload_n 1, 1) := by decide +kernel
theorem dX12_readAll_37 : decode cX12_readAll 37 = .ok (.ifCond .ne 10, 3) := by decide +kernel
theorem dX12_readAll_40 : decode cX12_readAll 40 = .ok (.aload_n 0, 1) := by decide +kernel
theorem dX12_readAll_41 : decode cX12_readAll 41 = .ok (.getfield 294, 3) := by decide +kernel
theorem dX12_readAll_44 : decode cX12_readAll 44 = .ok (.ifCond .le 136, 3) := by decide +kernel
theorem dX12_readAll_47 : decode cX12_readAll 47 = .ok (.iload_n 1, 1) := by decide +kernel
theorem dX12_readAll_48 : decode cX12_readAll 48 = .ok (.ifCond .ne 33, 3) := by decide +kernel
theorem dX12_readAll_51 : decode cX12_readAll 51 = .ok (.aload_n 0, 1) := by decide +kernel
theorem dX12_readAll_52 : decode cX12_readAll 52 = .ok (.bipush 8, 2) := by decide +kernel
theorem dX12_readAll_54 : decode cX12_readAll 54 = .ok (.invokevirtual 307, 3) := by decide +kernel
theorem dX12_readAll_57 : decode cX12_readAll 57 = .ok (.ifCond .eq 24, 3) := by decide +kernel
theorem dX12_readAll_60 : decode cX12_readAll 60 = .ok (.aload_n 0, 1) := by decide +kernel
theorem dX12_readAll_61 : decode cX12_readAll 61 = .ok (.invokevirtual 310, 3) := by decide +kernel
theorem dX12_readAll_64 : decode cX12_readAll 64 = .ok (.ifCond .eq 17, 3) := by decide +kernel
theorem dX12_readAll_67 : decode cX12_readAll 67 = .ok (.aload_n 0, 1) := by decide +kernel
theorem dX12_readAll_68 : decode cX12_readAll 68 = .ok (.invokevirtual 314, 3) := by decide +kernel
theorem dX12_readAll_71 : decode cX12_readAll 71 = .ok (.aload_n 0, 1) := by decide +kernel
theorem dX12_readAll_72 : decode cX12_readAll 72 = .ok (.invokevirtual 317, 3) := by decide +kernel
theorem dX12_readAll_75 : decode cX12_readAll 75 = .ok (.iconst (-1), 1) := by decide +kernel
theorem dX12_readAll_76 : decode cX12_readAll 76 = .ok (.if_icmp .ne (-47), 3) := by decide +kernel
theorem dX12_readAll_79 : decode cX12_readAll 79 = .ok (.iconst (-1), 1) := by decide +kernel
theorem dX12_readAll_80 : decode cX12_readAll 80 = .ok (.ireturn, 1) := by decide +kernel
theorem dX12_readAll_81 : decode cX12_readAll 81 = .ok (.aload_n 0, 1) := by decide +kernel
theorem dX12_readAll_82 : decode cX12_readAll 82 = .ok (.getfield 254, 3) := by decide +kernel
theorem dX12_readAll_85 : decode cX12_readAll 85 = .ok (.iconst 2, 1) := by decide +kernel
theorem dX12_readAll_86 : decode cX12_readAll 86 = .ok (.if_icmp .eq 9, 3) := by decide +kernel
theorem dX12_readAll_89 : decode cX12_readAll 89 = .ok (.aload_n 0, 1) := by decide +kernel
theorem dX12_readAll_90 : decode cX12_readAll 90 = .ok (.iconst 1, 1) := by decide +kernel
theorem dX12_readAll_91 : decode cX12_readAll 91 = .ok (.invokevirtual 282, 3) := by decide +kernel
theorem dX12_readAll_94 : decode cX12_readAll 94 = .ok (.ireturn, 1) := by decide +kernel
theorem dX12_readAll_95 : decode cX12_readAll 95 = .ok (.aload_n 0, 1) := by decide +kernel
theorem dX12_readAll_96 : decode cX12_readAll 96 = .ok (.getfield 257, 3) := by decide +kernel
theorem dX12_readAll_99 : decode cX12_readAll 99 = .ok (.bipush 9, 2) := by decide +kernel
theorem dX12_readAll_101 : decode cX12_readAll 101 = .ok (.if_icmp .ne 18, 3) := by decide +kernel
theorem dX12_readAll_104 : decode cX12_readAll 104 = .ok (.aload_n 0, 1) := by decide +kernel
theorem dX12_readAll_105 : decode cX12_readAll 105 = .ok (.invokevirtual 320, 3) := by decide +kernel
theorem dX12_readAll_108 : decode cX12_readAll 108 = .ok (.iconst (-1), 1) := by decide +kernel
theorem dX12_readAll_109 : decode cX12_readAll 109 = .ok (.if_icmp .ne 5, 3) := by decide +kernel
theorem dX12_readAll_112 : decode cX12_readAll 112 = .ok (.iconst (-1), 1) := by decide +kernel
theorem dX12_readAll_113 : decode cX12_readAll 113 = .ok (.ireturn, 1) := by decide +kernel
theorem dX12_readAll_114 : decode cX12_readAll 114 = .ok (.iconst 1, 1) := by decide +kernel
theorem dX12_readAll_115 : decode cX12_readAll 115 = .ok (.istore_n 1, 1) := by decide +kernel
theorem dX12_readAll_116 : decode cX12_readAll 116 = .ok (.goto (-87), 3) := by decide +kernel
theorem dX12_readAll_119 : decode cX12_readAll 119 = .ok (.aload_n 0, 1) := by decide +kernel
theorem dX12_readAll_120 : decode cX12_readAll 120 = .ok (.getfield 257, 3) := by decide +kernel
theorem dX12_readAll_123 : decode cX12_readAll 123 = .ok (.bipush 6, 2) := by decide +kernel
theorem dX12_readAll_125 : decode cX12_readAll 125 = .ok (.if_icmp .ne 18, 3) := by decide +kernel
theorem dX12_readAll_128 : decode cX12_readAll 128 = .ok (.aload_n 0, 1) := by decide +kernel
theorem dX12_readAll_129 : decode cX12_readAll 129 = .ok (.invokevirtual 323, 3) := by decide +kernel
theorem dX12_readAll_132 : decode cX12_readAll 132 = .ok (.iconst (-1), 1) := by decide +kernel
theorem dX12_readAll_133 : decode cX12_readAll 133 = .ok (.if_icmp .ne 5, 3) := by decide +kernel
theorem dX12_readAll_136 : decode cX12_readAll 136 = .ok (.iconst (-1), 1) := by decide +kernel
theorem dX12_readAll_137 : decode cX12_readAll 137 = .ok (.ireturn, 1) := by decide +kernel
theorem dX12_readAll_138 : decode cX12_readAll 138 = .ok (.iconst 0, 1) := by decide +kernel
theorem dX12_readAll_139 : decode cX12_readAll 139 = .ok (.istore_n 1, 1) := by decide +kernel
theorem dX12_readAll_140 : decode cX12_readAll 140 = .ok (.goto (-111), 3) := by decide +kernel
theorem dX12_readAll_143 : decode cX12_readAll 143 = .ok (.aload_n 0, 1) := by decide +kernel
theorem dX12_readAll_144 : decode cX12_readAll 144 = .ok (.getfield 257, 3) := by decide +kernel
theorem dX12_readAll_147 : decode cX12_readAll 147 = .ok (.iconst 5, 1) := by decide +kernel
theorem dX12_readAll_148 : decode cX12_readAll 148 = .ok (.if_icmp .gt 26, 3) := by decide +kernel
theorem dX12_readAll_151 : decode cX12_readAll 151 = .ok (.aload_n 0, 1) := by decide +kernel
theorem dX12_readAll_152 : decode cX12_readAll 152 = .ok (.invokevirtual 326, 3) := by decide +kernel
theorem dX12_readAll_155 : decode cX12_readAll 155 = .ok (.iconst (-1), 1) := by decide +kernel
theorem dX12_readAll_156 : decode cX12_readAll 156 = .ok (.if_icmp .eq 11, 3) := by decide +kernel
theorem dX12_readAll_159 : decode cX12_readAll 159 = .ok (.aload_n 0, 1) := by decide +kernel
theorem dX12_readAll_160 : decode cX12_readAll 160 = .ok (.invokevirtual 317, 3) := by decide +kernel
theorem dX12_readAll_163 : decode cX12_readAll 163 = .ok (.iconst (-1), 1) := by decide +kernel
theorem dX12_readAll_164 : decode cX12_readAll 164 = .ok (.if_icmp .ne 5, 3) := by decide +kernel
theorem dX12_readAll_167 : decode cX12_readAll 167 = .ok (.iconst (-1), 1) := by decide +kernel
theorem dX12_readAll_168 : decode cX12_readAll 168 = .ok (.ireturn, 1) := by decide +kernel
theorem dX12_readAll_169 : decode cX12_readAll 169 = .ok (.iconst 0, 1) := by decide +kernel
theorem dX12_readAll_170 : decode cX12_readAll 170 = .ok (.istore_n 1, 1) := by decide +kernel
theorem dX12_readAll_171 : decode cX12_readAll 171 = .ok (.goto (-142), 3) := by decide +kernel
theorem dX12_readAll_174 : decode cX12_readAll 174 = .ok (.aload_n 0, 1) := by decide +kernel
theorem dX12_readAll_175 : decode cX12_readAll 175 = .ok (.iconst 1, 1) := by decide +kernel
theorem dX12_readAll_176 : decode cX12_readAll 176 = .ok (.invokevirtual 282, 3) := by decide +kernel
theorem dX12_readAll_179 : decode cX12_readAll 179 = .ok (.ireturn, 1) := by decide +kernel
theorem dX12_readAll_180 : decode cX12_readAll 180 = .ok (.iconst 0, 1) := by decide +kernel
theorem dX12_readAll_181 : decode cX12_readAll 181 = .ok (.ireturn, 1) := by decide +kernel
theorem dX12_way_0 : decode cX12_way 0 = .ok (.aload_n 0, 1) := by decide +kernel
theorem dX12_way_1 : decode cX12_way 1 = .ok (.iconst 0, 1) := by decide +kernel
theorem dX12_way_2 : decode cX12_way 2 = .ok (.putfield 167, 3) := by decide +kernel
theorem dX12_way_5 : decode cX12_way 5 = .ok (.aload_n 0, 1) := by decide +kernel
theorem dX12_way_6 : decode cX12_way 6 = .ok (.iconst 0, 1) := by decide +kernel
theorem dX12_way_7 : decode cX12_way 7 = .ok (.putfield 329, 3) := by decide +kernel
theorem dX12_way_10 : decode cX12_way 10 = .ok (.aload_n 0, 1) := by decide +kernel
theorem dX12_way_11 : decode cX12_way 11 = .ok (.iconst (-1), 1) := by decide +kernel
theorem dX12_way_12 : decode cX12_way 12 = .ok (.putfield 134, 3) := by decide +kernel
theorem dX12_way_15 : decode cX12_way 15 = .ok (.aload_n 0, 1) := by decide +kernel
theorem dX12_way_16 : decode cX12_way 16 = .ok (.iload_n 1, 1) := by decide +kernel
theorem dX12_way_17 : decode cX12_way 17 = .ok (.iconst 0, 1) := by decide +kernel
theorem dX12_way_18 : decode cX12_way 18 = .ok (.bipush 7, 2) := by decide +kernel
theorem dX12_way_20 : decode cX12_way 20 = .ok (.invokevirtual 170, 3) := by decide +kernel
theorem dX12_way_23 : decode cX12_way 23 = .ok (.istore_n 2, 1) := by decide +kernel
theorem dX12_way_24 : decode cX12_way 24 = .ok (.iload_n 2, 1) := by decide +kernel
theorem dX12_way_25 : decode cX12_way 25 = .ok (.ifCond .eq 14, 3) := by decide +kernel
theorem dX12_way_28 : decode cX12_way 28 = .ok (.aload_n 0, 1) := by decide +kernel
theorem dX12_way_29 : decode cX12_way 29 = .ok (.invokevirtual 332, 3) := by decide +kernel
theorem dX12_way_32 : decode cX12_way 32 = .ok (.ifCond .ne 7, 3) := by decide +kernel
theorem dX12_way_35 : decode cX12_way 35 = .ok (.iconst 1, 1) := by decide +kernel
theorem dX12_way_36 : decode cX12_way 36 = .ok (.goto 4, 3) := by decide +kernel
theorem dX12_way_39 : decode cX12_way 39 = .ok (.iconst 0, 1) := by decide +kernel
theorem dX12_way_40 : decode cX12_way 40 = .ok (.istore_n 3, 1) := by decide +kernel
theorem dX12_way_41 : decode cX12_way 41 = .ok (.aload_n 0, 1) := by decide +kernel
theorem dX12_way_42 : decode cX12_way 42 = .ok (.iconst 0, 1) := by decide +kernel
theorem dX12_way_43 : decode cX12_way 43 = .ok (.putfield 239, 3) := by decide +kernel
theorem dX12_way_46 : decode cX12_way 46 = .ok (.iload_n 2, 1) := by decide +kernel
theorem dX12_way_47 : decode cX12_way 47 = .ok (.ifCond .ne 5, 3) := by decide +kernel
theorem dX12_way_50 : decode cX12_way 50 = .ok (.iconst 0, 1) := by decide +kernel
theorem dX12_way_51 : decode cX12_way 51 = .ok (.ireturn, 1) := by decide +kernel
theorem dX12_way_52 : decode cX12_way 52 = .ok (.iload_n 3, 1) := by decide +kernel
theorem dX12_way_53 : decode cX12_way 53 = .ok (.ifCond .ne 21, 3) := by decide +kernel
theorem dX12_way_56 : decode cX12_way 56 = .ok (.aload_n 0, 1) := by decide +kernel
theorem dX12_way_57 : decode cX12_way 57 = .ok (.aload_n 0, 1) := by decide +kernel
theorem dX12_way_58 : decode cX12_way 58 = .ok (.getfield 273, 3) := by decide +kernel
theorem dX12_way_61 : decode cX12_way 61 = .ok (.putfield 329, 3) := by decide +kernel
theorem dX12_way_64 : decode cX12_way 64 = .ok (.aload_n 0, 1) := by decide +kernel
theorem dX12_way_65 : decode cX12_way 65 = .ok (.aload_n 0, 1) := by decide +kernel
theorem dX12_way_66 : decode cX12_way 66 = .ok (.getfield 276, 3) := by decide +kernel
theorem dX12_way_69 : decode cX12_way 69 = .ok (.putfield 134, 3) := by decide +kernel
theorem dX12_way_72 : decode cX12_way 72 = .ok (.iconst 0, 1) := by decide +kernel
theorem dX12_way_73 : decode cX12_way 73 = .ok (.ireturn, 1) := by decide +kernel
theorem dX12_way_74 : decode cX12_way 74 = .ok (.iconst 0, 1) := by decide +kernel
theorem dX12_way_75 : decode cX12_way 75 = .ok (.istore 4, 2) := by decide +kernel
theorem dX12_way_77 : decode cX12_way 77 = .ok (.iload 4, 2) := by decide +kernel
theorem dX12_way_79 : decode cX12_way 79 = .ok (.sipush 400, 3) := by decide +kernel
theorem dX12_way_82 : decode cX12_way 82 = .ok (.if_icmp .ge 153, 3) := by decide +kernel
theorem dX12_way_85 : decode cX12_way 85 = .ok (.sipush 400, 3) := by decide +kernel
theorem dX12_way_88 : decode cX12_way 88 = .ok (.iload_n 1, 1) := by decide +kernel
theorem dX12_way_89 : decode cX12_way 89 = .ok (.imul, 1) := by decide +kernel
theorem dX12_way_90 : decode cX12_way 90 = .ok (.iload 4, 2) := by decide +kernel
theorem dX12_way_92 : decode cX12_way 92 = .ok (.iadd, 1) := by decide +kernel
theorem dX12_way_93 : decode cX12_way 93 = .ok (.istore 5, 2) := by decide +kernel
theorem dX12_way_95 : decode cX12_way 95 = .ok (.sipush 3200, 3) := by decide +kernel
theorem dX12_way_98 : decode cX12_way 98 = .ok (.iload 4, 2) := by decide +kernel
theorem dX12_way_100 : decode cX12_way 100 = .ok (.iadd, 1) := by decide +kernel
theorem dX12_way_101 : decode cX12_way 101 = .ok (.istore 6, 2) := by decide +kernel
theorem dX12_way_103 : decode cX12_way 103 = .ok (.aload_n 0, 1) := by decide +kernel
theorem dX12_way_104 : decode cX12_way 104 = .ok (.getfield 101, 3) := by decide +kernel
theorem dX12_way_107 : decode cX12_way 107 = .ok (.iload 5, 2) := by decide +kernel
theorem dX12_way_109 : decode cX12_way 109 = .ok (.aload_n 0, 1) := by decide +kernel
theorem dX12_way_110 : decode cX12_way 110 = .ok (.getfield 101, 3) := by decide +kernel
theorem dX12_way_113 : decode cX12_way 113 = .ok (.iload 6, 2) := by decide +kernel
theorem dX12_way_115 : decode cX12_way 115 = .ok (.iaload, 1) := by decide +kernel
theorem dX12_way_116 : decode cX12_way 116 = .ok (.iastore, 1) := by decide +kernel
theorem dX12_way_117 : decode cX12_way 117 = .ok (.aload_n 0, 1) := by decide +kernel
theorem dX12_way_118 : decode cX12_way 118 = .ok (.getfield 104, 3) := by decide +kernel
theorem dX12_way_121 : decode cX12_way 121 = .ok (.iload 5, 2) := by decide +kernel
theorem dX12_way_123 : decode cX12_way 123 = .ok (.aload_n 0, 1) := by decide +kernel
theorem dX12_way_124 : decode cX12_way 124 = .ok (.getfield 104, 3) := by decide +kernel
theorem dX12_way_127 : decode cX12_way 127 = .ok (.iload 6, 2) := by decide +kernel
theorem dX12_way_129 : decode cX12_way 129 = .ok (.iaload, 1) := by decide +kernel
theorem dX12_way_130 : decode cX12_way 130 = .ok (.iastore, 1) := by decide +kernel
theorem dX12_way_131 : decode cX12_way 131 = .ok (.aload_n 0, 1) := by decide +kernel
theorem dX12_way_132 : decode cX12_way 132 = .ok (.getfield 107, 3) := by decide +kernel
theorem dX12_way_135 : decode cX12_way 135 = .ok (.iload 5, 2) := by decide +kernel
theorem dX12_way_137 : decode cX12_way 137 = .ok (.aload_n 0, 1) := by decide +kernel
theorem dX12_way_138 : decode cX12_way 138 = .ok (.getfield 107, 3) := by decide +kernel
theorem dX12_way_141 : decode cX12_way 141 = .ok (.iload 6, 2) := by decide +kernel
theorem dX12_way_143 : decode cX12_way 143 = .ok (.iaload, 1) := by decide +kernel
theorem dX12_way_144 : decode cX12_way 144 = .ok (.iastore, 1) := by decide +kernel
theorem dX12_way_145 : decode cX12_way 145 = .ok (.aload_n 0, 1) := by decide +kernel
theorem dX12_way_146 : decode cX12_way 146 = .ok (.getfield 113, 3) := by decide +kernel
theorem dX12_way_149 : decode cX12_way 149 = .ok (.iload 5, 2) := by decide +kernel
theorem dX12_way_151 : decode cX12_way 151 = .ok (.aload_n 0, 1) := by decide +kernel
theorem dX12_way_152 : decode cX12_way 152 = .ok (.getfield 113, 3) := by decide +kernel
theorem dX12_way_155 : decode cX12_way 155 = .ok (.iload 6, 2) := by decide +kernel
theorem dX12_way_157 : decode cX12_way 157 = .ok (.iaload, 1) := by decide +kernel
theorem dX12_way_158 : decode cX12_way 158 = .ok (.iastore, 1) := by decide +kernel
theorem dX12_way_159 : decode cX12_way 159 = .ok (.aload_n 0, 1) := by decide +kernel
theorem dX12_way_160 : decode cX12_way 160 = .ok (.getfield 116, 3) := by decide +kernel
theorem dX12_way_163 : decode cX12_way 163 = .ok (.iload 5, 2) := by decide +kernel
theorem dX12_way_165 : decode cX12_way 165 = .ok (.aload_n 0, 1) := by decide +kernel
theorem dX12_way_166 : decode cX12_way 166 = .ok (.getfield 116, 3) := by decide +kernel
theorem dX12_way_169 : decode cX12_way 169 = .ok (.iload 6, 2) := by decide +kernel
theorem dX12_way_171 : decode cX12_way 171 = .ok (.iaload, 1) := by decide +kernel
theorem dX12_way_172 : decode cX12_way 172 = .ok (.iastore, 1) := by decide +kernel
theorem dX12_way_173 : decode cX12_way 173 = .ok (.aload_n 0, 1) := by decide +kernel
theorem dX12_way_174 : decode cX12_way 174 = .ok (.getfield 119, 3) := by decide +kernel
theorem dX12_way_177 : decode cX12_way 177 = .ok (.iload 5, 2) := by decide +kernel
theorem dX12_way_179 : decode cX12_way 179 = .ok (.aload_n 0, 1) := by decide +kernel
theorem dX12_way_180 : decode cX12_way 180 = .ok (.getfield 119, 3) := by decide +kernel
theorem dX12_way_183 : decode cX12_way 183 = .ok (.iload 6, 2) := by decide +kernel
theorem dX12_way_185 : decode cX12_way 185 = .ok (.iaload, 1) := by decide +kernel
theorem dX12_way_186 : decode cX12_way 186 = .ok (.iastore, 1) := by decide +kernel
theorem dX12_way_187 : decode cX12_way 187 = .ok (.aload_n 0, 1) := by decide +kernel
theorem dX12_way_188 : decode cX12_way 188 = .ok (.getfield 122, 3) := by decide +kernel
theorem dX12_way_191 : decode cX12_way 191 = .ok (.iload 5, 2) := by decide +kernel
theorem dX12_way_193 : decode cX12_way 193 = .ok (.aload_n 0, 1) := by decide +kernel
theorem dX12_way_194 : decode cX12_way 194 = .ok (.getfield 122, 3) := by decide +kernel
theorem dX12_way_197 : decode cX12_way 197 = .ok (.iload 6, 2) := by decide +kernel
theorem dX12_way_199 : decode cX12_way 199 = .ok (.iaload, 1) := by decide +kernel
theorem dX12_way_200 : decode cX12_way 200 = .ok (.iastore, 1) := by decide +kernel
theorem dX12_way_201 : decode cX12_way 201 = .ok (.aload_n 0, 1) := by decide +kernel
theorem dX12_way_202 : decode cX12_way 202 = .ok (.getfield 125, 3) := by decide +kernel
theorem dX12_way_205 : decode cX12_way 205 = .ok (.iload 5, 2) := by decide +kernel
theorem dX12_way_207 : decode cX12_way 207 = .ok (.aload_n 0, 1) := by decide +kernel
theorem dX12_way_208 : decode cX12_way 208 = .ok (.getfield 125, 3) := by decide +kernel
theorem dX12_way_211 : decode cX12_way 211 = .ok (.iload 6, 2) := by decide +kernel
theorem dX12_way_213 : decode cX12_way 213 = .ok (.iaload, 1) := by decide +kernel
theorem dX12_way_214 : decode cX12_way 214 = .ok (.iastore, 1) := by decide +kernel
theorem dX12_way_215 : decode cX12_way 215 = .ok (.aload_n 0, 1) := by decide +kernel
theorem dX12_way_216 : decode cX12_way 216 = .ok (.getfield 128, 3) := by decide +kernel
theorem dX12_way_219 : decode cX12_way 219 = .ok (.iload 5, 2) := by decide +kernel
theorem dX12_way_221 : decode cX12_way 221 = .ok (.aload_n 0, 1) := by decide +kernel
theorem dX12_way_222 : decode cX12_way 222 = .ok (.getfield 128, 3) := by decide +kernel
theorem dX12_way_225 : decode cX12_way 225 = .ok (.iload 6, 2) := by decide +kernel
theorem dX12_way_227 : decode cX12_way 227 = .ok (.iaload, 1) := by decide +kernel
theorem dX12_way_228 : decode cX12_way 228 = .ok (.iastore, 1) := by decide +kernel
theorem dX12_way_229 : decode cX12_way 229 = .ok (.iinc 4 1, 3) := by decide +kernel
theorem dX12_way_232 : decode cX12_way 232 = .ok (.goto (-155), 3) := by decide +kernel
theorem dX12_way_235 : decode cX12_way 235 = .ok (.aload_n 0, 1) := by decide +kernel
theorem dX12_way_236 : decode cX12_way 236 = .ok (.getfield 110, 3) := by decide +kernel
theorem dX12_way_239 : decode cX12_way 239 = .ok (.iload_n 1, 1) := by decide +kernel
theorem dX12_way_240 : decode cX12_way 240 = .ok (.aload_n 0, 1) := by decide +kernel
theorem dX12_way_241 : decode cX12_way 241 = .ok (.getfield 110, 3) := by decide +kernel
theorem dX12_way_244 : decode cX12_way 244 = .ok (.bipush 8, 2) := by decide +kernel
theorem dX12_way_246 : decode cX12_way 246 = .ok (.iaload, 1) := by decide +kernel
theorem dX12_way_247 : decode cX12_way 247 = .ok (.iastore, 1) := by decide +kernel
theorem dX12_way_248 : decode cX12_way 248 = .ok (.iconst 1, 1) := by decide +kernel
theorem dX12_way_249 : decode cX12_way 249 = .ok (.ireturn, 1) := by decide +kernel
theorem dX12_fault_0 : decode cX12_fault 0 = .ok (.aload_n 0, 1) := by decide +kernel
theorem dX12_fault_1 : decode cX12_fault 1 = .ok (.iconst 0, 1) := by decide +kernel
theorem dX12_fault_2 : decode cX12_fault 2 = .ok (.putfield 167, 3) := by decide +kernel
theorem dX12_fault_5 : decode cX12_fault 5 = .ok (.iload_n 1, 1) := by decide +kernel
theorem dX12_fault_6 : decode cX12_fault 6 = .ok (.ifCond .ne 10, 3) := by decide +kernel
theorem dX12_fault_9 : decode cX12_fault 9 = .ok (.aload_n 0, 1) := by decide +kernel
theorem dX12_fault_10 : decode cX12_fault 10 = .ok (.getfield 329, 3) := by decide +kernel
theorem dX12_fault_13 : decode cX12_fault 13 = .ok (.goto 16, 3) := by decide +kernel
theorem dX12_fault_16 : decode cX12_fault 16 = .ok (.iload_n 1, 1) := by decide +kernel
theorem dX12_fault_17 : decode cX12_fault 17 = .ok (.iconst 1, 1) := by decide +kernel
theorem dX12_fault_18 : decode cX12_fault 18 = .ok (.if_icmp .ne 10, 3) := by decide +kernel
theorem dX12_fault_21 : decode cX12_fault 21 = .ok (.aload_n 0, 1) := by decide +kernel
theorem dX12_fault_22 : decode cX12_fault 22 = .ok (.getfield 134, 3) := by decide +kernel
theorem dX12_fault_25 : decode cX12_fault 25 = .ok (.goto 4, 3) := by decide +kernel
theorem dX12_fault_28 : decode cX12_fault 28 = .ok (.iconst (-1), 1) := by decide +kernel
theorem dX12_fault_29 : decode cX12_fault 29 = .ok (.ireturn, 1) := by decide +kernel
theorem dX12_run_0 : decode cX12_run 0 = .ok (.aload_n 0, 1) := by decide +kernel
theorem dX12_run_1 : decode cX12_run 1 = .ok (.iconst 0, 1) := by decide +kernel
theorem dX12_run_2 : decode cX12_run 2 = .ok (.putfield 167, 3) := by decide +kernel
theorem dX12_run_5 : decode cX12_run 5 = .ok (.aload_n 0, 1) := by decide +kernel
theorem dX12_run_6 : decode cX12_run 6 = .ok (.iload_n 1, 1) := by decide +kernel
theorem dX12_run_7 : decode cX12_run 7 = .ok (.iconst 0, 1) := by decide +kernel
theorem dX12_run_8 : decode cX12_run 8 = .ok (.bipush 7, 2) := by decide +kernel
theorem dX12_run_10 : decode cX12_run 10 = .ok (.invokevirtual 170, 3) := by decide +kernel
theorem dX12_run_13 : decode cX12_run 13 = .ok (.ifCond .eq 10, 3) := by decide +kernel
theorem dX12_run_16 : decode cX12_run 16 = .ok (.aload_n 0, 1) := by decide +kernel
theorem dX12_run_17 : decode cX12_run 17 = .ok (.getfield 174, 3) := by decide +kernel
theorem dX12_run_20 : decode cX12_run 20 = .ok (.ifCond .ne 5, 3) := by decide +kernel
theorem dX12_run_23 : decode cX12_run 23 = .ok (.iconst (-1), 1) := by decide +kernel
theorem dX12_run_24 : decode cX12_run 24 = .ok (.ireturn, 1) := by decide +kernel
theorem dX12_run_25 : decode cX12_run 25 = .ok (.aload_n 0, 1) := by decide +kernel
theorem dX12_run_26 : decode cX12_run 26 = .ok (.iconst 0, 1) := by decide +kernel
theorem dX12_run_27 : decode cX12_run 27 = .ok (.iload_n 1, 1) := by decide +kernel
theorem dX12_run_28 : decode cX12_run 28 = .ok (.invokevirtual 372, 3) := by decide +kernel
theorem dX12_run_31 : decode cX12_run 31 = .ok (.aload_n 0, 1) := by decide +kernel
theorem dX12_run_32 : decode cX12_run 32 = .ok (.getfield 347, 3) := by decide +kernel
theorem dX12_run_35 : decode cX12_run 35 = .ok (.ireturn, 1) := by decide +kernel
theorem dX12_cell_0 : decode cX12_cell 0 = .ok (.aload_n 0, 1) := by decide +kernel
theorem dX12_cell_1 : decode cX12_cell 1 = .ok (.iconst 0, 1) := by decide +kernel
theorem dX12_cell_2 : decode cX12_cell 2 = .ok (.putfield 167, 3) := by decide +kernel
theorem dX12_cell_5 : decode cX12_cell 5 = .ok (.aload_n 0, 1) := by decide +kernel
theorem dX12_cell_6 : decode cX12_cell 6 = .ok (.getfield 174, 3) := by decide +kernel
theorem dX12_cell_9 : decode cX12_cell 9 = .ok (.ifCond .eq 22, 3) := by decide +kernel
theorem dX12_cell_12 : decode cX12_cell 12 = .ok (.aload_n 0, 1) := by decide +kernel
theorem dX12_cell_13 : decode cX12_cell 13 = .ok (.iload_n 1, 1) := by decide +kernel
theorem dX12_cell_14 : decode cX12_cell 14 = .ok (.iload_n 2, 1) := by decide +kernel
theorem dX12_cell_15 : decode cX12_cell 15 = .ok (.invokevirtual 189, 3) := by decide +kernel
theorem dX12_cell_18 : decode cX12_cell 18 = .ok (.ifCond .eq 13, 3) := by decide +kernel
theorem dX12_cell_21 : decode cX12_cell 21 = .ok (.aload_n 0, 1) := by decide +kernel
theorem dX12_cell_22 : decode cX12_cell 22 = .ok (.iload_n 3, 1) := by decide +kernel
theorem dX12_cell_23 : decode cX12_cell 23 = .ok (.iconst 0, 1) := by decide +kernel
theorem dX12_cell_24 : decode cX12_cell 24 = .ok (.iconst 5, 1) := by decide +kernel
theorem dX12_cell_25 : decode cX12_cell 25 = .ok (.invokevirtual 170, 3) := by decide +kernel
theorem dX12_cell_28 : decode cX12_cell 28 = .ok (.ifCond .ne 5, 3) := by decide +kernel
theorem dX12_cell_31 : decode cX12_cell 31 = .ok (.iconst (-1), 1) := by decide +kernel
theorem dX12_cell_32 : decode cX12_cell 32 = .ok (.ireturn, 1) := by decide +kernel
theorem dX12_cell_33 : decode cX12_cell 33 = .ok (.bipush 16, 2) := by decide +kernel
theorem dX12_cell_35 : decode cX12_cell 35 = .ok (.iload_n 2, 1) := by decide +kernel
theorem dX12_cell_36 : decode cX12_cell 36 = .ok (.imul, 1) := by decide +kernel
theorem dX12_cell_37 : decode cX12_cell 37 = .ok (.iload_n 1, 1) := by decide +kernel
theorem dX12_cell_38 : decode cX12_cell 38 = .ok (.iadd, 1) := by decide +kernel
theorem dX12_cell_39 : decode cX12_cell 39 = .ok (.istore 4, 2) := by decide +kernel
theorem dX12_cell_41 : decode cX12_cell 41 = .ok (.aload_n 0, 1) := by decide +kernel
theorem dX12_cell_42 : decode cX12_cell 42 = .ok (.getfield 39, 3) := by decide +kernel
theorem dX12_cell_45 : decode cX12_cell 45 = .ok (.iload 4, 2) := by decide +kernel
theorem dX12_cell_47 : decode cX12_cell 47 = .ok (.iaload, 1) := by decide +kernel
theorem dX12_cell_48 : decode cX12_cell 48 = .ok (.ifCond .ne 7, 3) := by decide +kernel
theorem dX12_cell_51 : decode cX12_cell 51 = .ok (.iconst 1, 1) := by decide +kernel
theorem dX12_cell_52 : decode cX12_cell 52 = .ok (.goto 4, 3) := by decide +kernel
theorem dX12_cell_55 : decode cX12_cell 55 = .ok (.iconst 0, 1) := by decide +kernel
theorem dX12_cell_56 : decode cX12_cell 56 = .ok (.istore 5, 2) := by decide +kernel
theorem dX12_cell_58 : decode cX12_cell 58 = .ok (.iload_n 3, 1) := by decide +kernel
theorem dX12_cell_59 : decode cX12_cell 59 = .ok (.ifCond .ne 20, 3) := by decide +kernel
theorem dX12_cell_62 : decode cX12_cell 62 = .ok (.iload 5, 2) := by decide +kernel
theorem dX12_cell_64 : decode cX12_cell 64 = .ok (.ifCond .eq 13, 3) := by decide +kernel
theorem dX12_cell_67 : decode cX12_cell 67 = .ok (.aload_n 0, 1) := by decide +kernel
theorem dX12_cell_68 : decode cX12_cell 68 = .ok (.getfield 33, 3) := by decide +kernel
theorem dX12_cell_71 : decode cX12_cell 71 = .ok (.iload 4, 2) := by decide +kernel
theorem dX12_cell_73 : decode cX12_cell 73 = .ok (.iaload, 1) := by decide +kernel
theorem dX12_cell_74 : decode cX12_cell 74 = .ok (.goto 4, 3) := by decide +kernel
theorem dX12_cell_77 : decode cX12_cell 77 = .ok (.iconst 0, 1) := by decide +kernel
theorem dX12_cell_78 : decode cX12_cell 78 = .ok (.ireturn, 1) := by decide +kernel
theorem dX12_cell_79 : decode cX12_cell 79 = .ok (.iload_n 3, 1) := by decide +kernel
theorem dX12_cell_80 : decode cX12_cell 80 = .ok (.iconst 1, 1) := by decide +kernel
theorem dX12_cell_81 : decode cX12_cell 81 = .ok (.if_icmp .ne 34, 3) := by decide +kernel
theorem dX12_cell_84 : decode cX12_cell 84 = .ok (.iload 5, 2) := by decide +kernel
theorem dX12_cell_86 : decode cX12_cell 86 = .ok (.ifCond .ne 13, 3) := by decide +kernel
theorem dX12_cell_89 : decode cX12_cell 89 = .ok (.aload_n 0, 1) := by decide +kernel
theorem dX12_cell_90 : decode cX12_cell 90 = .ok (.getfield 39, 3) := by decide +kernel
theorem dX12_cell_93 : decode cX12_cell 93 = .ok (.iload 4, 2) := by decide +kernel
theorem dX12_cell_95 : decode cX12_cell 95 = .ok (.iaload, 1) := by decide +kernel
theorem dX12_cell_96 : decode cX12_cell 96 = .ok (.goto 18, 3) := by decide +kernel
theorem dX12_cell_99 : decode cX12_cell 99 = .ok (.aload_n 0, 1) := by decide +kernel
theorem dX12_cell_100 : decode cX12_cell 100 = .ok (.getfield 46, 3) := by decide +kernel
theorem dX12_cell_103 : decode cX12_cell 103 = .ok (.iload 4, 2) := by decide +kernel
theorem dX12_cell_105 : decode cX12_cell 105 = .ok (.baload, 1) := by decide +kernel
theorem dX12_cell_106 : decode cX12_cell 106 = .ok (.ifCond .eq 7, 3) := by decide +kernel
theorem dX12_cell_109 : decode cX12_cell 109 = .ok (.iconst 3, 1) := by decide +kernel
theorem dX12_cell_110 : decode cX12_cell 110 = .ok (.goto 4, 3) := by decide +kernel
theorem dX12_cell_113 : decode cX12_cell 113 = .ok (.iconst 0, 1) := by decide +kernel
theorem dX12_cell_114 : decode cX12_cell 114 = .ok (.ireturn, 1) := by decide +kernel
theorem dX12_cell_115 : decode cX12_cell 115 = .ok (.iload_n 3, 1) := by decide +kernel
theorem dX12_cell_116 : decode cX12_cell 116 = .ok (.iconst 2, 1) := by decide +kernel
theorem dX12_cell_117 : decode cX12_cell 117 = .ok (.if_icmp .ne 19, 3) := by decide +kernel
theorem dX12_cell_120 : decode cX12_cell 120 = .ok (.aload_n 0, 1) := by decide +kernel
theorem dX12_cell_121 : decode cX12_cell 121 = .ok (.getfield 42, 3) := by decide +kernel
theorem dX12_cell_124 : decode cX12_cell 124 = .ok (.iload 4, 2) := by decide +kernel
theorem dX12_cell_126 : decode cX12_cell 126 = .ok (.baload, 1) := by decide +kernel
theorem dX12_cell_127 : decode cX12_cell 127 = .ok (.ifCond .eq 7, 3) := by decide +kernel
theorem dX12_cell_130 : decode cX12_cell 130 = .ok (.iconst 1, 1) := by decide +kernel
theorem dX12_cell_131 : decode cX12_cell 131 = .ok (.goto 4, 3) := by decide +kernel
theorem dX12_cell_134 : decode cX12_cell 134 = .ok (.iconst 0, 1) := by decide +kernel
theorem dX12_cell_135 : decode cX12_cell 135 = .ok (.ireturn, 1) := by decide +kernel
theorem dX12_cell_136 : decode cX12_cell 136 = .ok (.aload_n 0, 1) := by decide +kernel
theorem dX12_cell_137 : decode cX12_cell 137 = .ok (.iconst 0, 1) := by decide +kernel
theorem dX12_cell_138 : decode cX12_cell 138 = .ok (.invokevirtual 233, 3) := by decide +kernel
theorem dX12_cell_141 : decode cX12_cell 141 = .ok (.iload_n 3, 1) := by decide +kernel
theorem dX12_cell_142 : decode cX12_cell 142 = .ok (.iconst 3, 1) := by decide +kernel
theorem dX12_cell_143 : decode cX12_cell 143 = .ok (.if_icmp .ne 25, 3) := by decide +kernel
theorem dX12_cell_146 : decode cX12_cell 146 = .ok (.iload 5, 2) := by decide +kernel
theorem dX12_cell_148 : decode cX12_cell 148 = .ok (.ifCond .eq 18, 3) := by decide +kernel
theorem dX12_cell_151 : decode cX12_cell 151 = .ok (.aload_n 0, 1) := by decide +kernel
theorem dX12_cell_152 : decode cX12_cell 152 = .ok (.getfield 86, 3) := by decide +kernel
theorem dX12_cell_155 : decode cX12_cell 155 = .ok (.aload_n 0, 1) := by decide +kernel
theorem dX12_cell_156 : decode cX12_cell 156 = .ok (.getfield 80, 3) := by decide +kernel
theorem dX12_cell_159 : decode cX12_cell 159 = .ok (.iload 4, 2) := by decide +kernel
theorem dX12_cell_161 : decode cX12_cell 161 = .ok (.iaload, 1) := by decide +kernel
theorem dX12_cell_162 : decode cX12_cell 162 = .ok (.iaload, 1) := by decide +kernel
theorem dX12_cell_163 : decode cX12_cell 163 = .ok (.goto 4, 3) := by decide +kernel
theorem dX12_cell_166 : decode cX12_cell 166 = .ok (.iconst 0, 1) := by decide +kernel
theorem dX12_cell_167 : decode cX12_cell 167 = .ok (.ireturn, 1) := by decide +kernel
theorem dX12_cell_168 : decode cX12_cell 168 = .ok (.iload_n 3, 1) := by decide +kernel
theorem dX12_cell_169 : decode cX12_cell 169 = .ok (.iconst 4, 1) := by decide +kernel
theorem dX12_cell_170 : decode cX12_cell 170 = .ok (.if_icmp .ne 29, 3) := by decide +kernel
theorem dX12_cell_173 : decode cX12_cell 173 = .ok (.iload 5, 2) := by decide +kernel
theorem dX12_cell_175 : decode cX12_cell 175 = .ok (.ifCond .eq 22, 3) := by decide +kernel
theorem dX12_cell_178 : decode cX12_cell 178 = .ok (.aload_n 0, 1) := by decide +kernel
theorem dX12_cell_179 : decode cX12_cell 179 = .ok (.getfield 92, 3) := by decide +kernel
theorem dX12_cell_182 : decode cX12_cell 182 = .ok (.aload_n 0, 1) := by decide +kernel
theorem dX12_cell_183 : decode cX12_cell 183 = .ok (.getfield 80, 3) := by decide +kernel
theorem dX12_cell_186 : decode cX12_cell 186 = .ok (.iload 4, 2) := by decide +kernel
theorem dX12_cell_188 : decode cX12_cell 188 = .ok (.iaload, 1) := by decide +kernel
theorem dX12_cell_189 : decode cX12_cell 189 = .ok (.baload, 1) := by decide +kernel
theorem dX12_cell_190 : decode cX12_cell 190 = .ok (.ifCond .eq 7, 3) := by decide +kernel
theorem dX12_cell_193 : decode cX12_cell 193 = .ok (.iconst 1, 1) := by decide +kernel
theorem dX12_cell_194 : decode cX12_cell 194 = .ok (.goto 4, 3) := by decide +kernel
theorem dX12_cell_197 : decode cX12_cell 197 = .ok (.iconst 0, 1) := by decide +kernel
theorem dX12_cell_198 : decode cX12_cell 198 = .ok (.ireturn, 1) := by decide +kernel
theorem dX12_cell_199 : decode cX12_cell 199 = .ok (.iload 5, 2) := by decide +kernel
theorem dX12_cell_201 : decode cX12_cell 201 = .ok (.ifCond .eq 12, 3) := by decide +kernel
theorem dX12_cell_204 : decode cX12_cell 204 = .ok (.aload_n 0, 1) := by decide +kernel
theorem dX12_cell_205 : decode cX12_cell 205 = .ok (.iload_n 1, 1) := by decide +kernel
theorem dX12_cell_206 : decode cX12_cell 206 = .ok (.iload_n 2, 1) := by decide +kernel
theorem dX12_cell_207 : decode cX12_cell 207 = .ok (.invokevirtual 375, 3) := by decide +kernel
theorem dX12_cell_210 : decode cX12_cell 210 = .ok (.goto 4, 3) := by decide +kernel
theorem dX12_cell_213 : decode cX12_cell 213 = .ok (.iconst (-1), 1) := by decide +kernel
theorem dX12_cell_214 : decode cX12_cell 214 = .ok (.ireturn, 1) := by decide +kernel
theorem dX12_look_0 : decode cX12_look 0 = .ok (.aload_n 0, 1) := by decide +kernel
theorem dX12_look_1 : decode cX12_look 1 = .ok (.iconst 0, 1) := by decide +kernel
theorem dX12_look_2 : decode cX12_look 2 = .ok (.putfield 167, 3) := by decide +kernel
theorem dX12_look_5 : decode cX12_look 5 = .ok (.aload_n 0, 1) := by decide +kernel
theorem dX12_look_6 : decode cX12_look 6 = .ok (.iload_n 1, 1) := by decide +kernel
theorem dX12_look_7 : decode cX12_look 7 = .ok (.iconst 0, 1) := by decide +kernel
theorem dX12_look_8 : decode cX12_look 8 = .ok (.bipush 13, 2) := by decide +kernel
theorem dX12_look_10 : decode cX12_look 10 = .ok (.invokevirtual 170, 3) := by decide +kernel
theorem dX12_look_13 : decode cX12_look 13 = .ok (.ifCond .ne 5, 3) := by decide +kernel
theorem dX12_look_16 : decode cX12_look 16 = .ok (.iconst (-1), 1) := by decide +kernel
theorem dX12_look_17 : decode cX12_look 17 = .ok (.ireturn, 1) := by decide +kernel
theorem dX12_look_18 : decode cX12_look 18 = .ok (.aload_n 0, 1) := by decide +kernel
theorem dX12_look_19 : decode cX12_look 19 = .ok (.getfield 174, 3) := by decide +kernel
theorem dX12_look_22 : decode cX12_look 22 = .ok (.ifCond .ne 5, 3) := by decide +kernel
theorem dX12_look_25 : decode cX12_look 25 = .ok (.iconst 0, 1) := by decide +kernel
theorem dX12_look_26 : decode cX12_look 26 = .ok (.ireturn, 1) := by decide +kernel
theorem dX12_look_27 : decode cX12_look 27 = .ok (.iload_n 1, 1) := by decide +kernel
theorem dX12_look_28 : decode cX12_look 28 = .ok (.ifCond .ne 10, 3) := by decide +kernel
theorem dX12_look_31 : decode cX12_look 31 = .ok (.aload_n 0, 1) := by decide +kernel
theorem dX12_look_32 : decode cX12_look 32 = .ok (.getfield 61, 3) := by decide +kernel
theorem dX12_look_35 : decode cX12_look 35 = .ok (.iconst 0, 1) := by decide +kernel
theorem dX12_look_36 : decode cX12_look 36 = .ok (.iaload, 1) := by decide +kernel
theorem dX12_look_37 : decode cX12_look 37 = .ok (.ireturn, 1) := by decide +kernel
theorem dX12_look_38 : decode cX12_look 38 = .ok (.iload_n 1, 1) := by decide +kernel
theorem dX12_look_39 : decode cX12_look 39 = .ok (.iconst 1, 1) := by decide +kernel
theorem dX12_look_40 : decode cX12_look 40 = .ok (.if_icmp .ne 10, 3) := by decide +kernel
theorem dX12_look_43 : decode cX12_look 43 = .ok (.aload_n 0, 1) := by decide +kernel
theorem dX12_look_44 : decode cX12_look 44 = .ok (.getfield 49, 3) := by decide +kernel
theorem dX12_look_47 : decode cX12_look 47 = .ok (.iconst 0, 1) := by decide +kernel
theorem dX12_look_48 : decode cX12_look 48 = .ok (.iaload, 1) := by decide +kernel
theorem dX12_look_49 : decode cX12_look 49 = .ok (.ireturn, 1) := by decide +kernel
theorem dX12_look_50 : decode cX12_look 50 = .ok (.iload_n 1, 1) := by decide +kernel
theorem dX12_look_51 : decode cX12_look 51 = .ok (.iconst 2, 1) := by decide +kernel
theorem dX12_look_52 : decode cX12_look 52 = .ok (.if_icmp .ne 10, 3) := by decide +kernel
theorem dX12_look_55 : decode cX12_look 55 = .ok (.aload_n 0, 1) := by decide +kernel
theorem dX12_look_56 : decode cX12_look 56 = .ok (.getfield 52, 3) := by decide +kernel
theorem dX12_look_59 : decode cX12_look 59 = .ok (.iconst 0, 1) := by decide +kernel
theorem dX12_look_60 : decode cX12_look 60 = .ok (.iaload, 1) := by decide +kernel
theorem dX12_look_61 : decode cX12_look 61 = .ok (.ireturn, 1) := by decide +kernel
theorem dX12_look_62 : decode cX12_look 62 = .ok (.iload_n 1, 1) := by decide +kernel
theorem dX12_look_63 : decode cX12_look 63 = .ok (.iconst 3, 1) := by decide +kernel
theorem dX12_look_64 : decode cX12_look 64 = .ok (.if_icmp .ne 18, 3) := by decide +kernel
theorem dX12_look_67 : decode cX12_look 67 = .ok (.aload_n 0, 1) := by decide +kernel
theorem dX12_look_68 : decode cX12_look 68 = .ok (.getfield 55, 3) := by decide +kernel
theorem dX12_look_71 : decode cX12_look 71 = .ok (.iconst 0, 1) := by decide +kernel
theorem dX12_look_72 : decode cX12_look 72 = .ok (.baload, 1) := by decide +kernel
theorem dX12_look_73 : decode cX12_look 73 = .ok (.ifCond .eq 7, 3) := by decide +kernel
theorem dX12_look_76 : decode cX12_look 76 = .ok (.iconst 1, 1) := by decide +kernel
theorem dX12_look_77 : decode cX12_look 77 = .ok (.goto 4, 3) := by decide +kernel
theorem dX12_look_80 : decode cX12_look 80 = .ok (.iconst 0, 1) := by decide +kernel
theorem dX12_look_81 : decode cX12_look 81 = .ok (.ireturn, 1) := by decide +kernel
theorem dX12_look_82 : decode cX12_look 82 = .ok (.iload_n 1, 1) := by decide +kernel
theorem dX12_look_83 : decode cX12_look 83 = .ok (.iconst 4, 1) := by decide +kernel
theorem dX12_look_84 : decode cX12_look 84 = .ok (.if_icmp .ne 10, 3) := by decide +kernel
theorem dX12_look_87 : decode cX12_look 87 = .ok (.aload_n 0, 1) := by decide +kernel
theorem dX12_look_88 : decode cX12_look 88 = .ok (.getfield 58, 3) := by decide +kernel
theorem dX12_look_91 : decode cX12_look 91 = .ok (.iconst 0, 1) := by decide +kernel
theorem dX12_look_92 : decode cX12_look 92 = .ok (.iaload, 1) := by decide +kernel
theorem dX12_look_93 : decode cX12_look 93 = .ok (.ireturn, 1) := by decide +kernel
theorem dX12_look_94 : decode cX12_look 94 = .ok (.iload_n 1, 1) := by decide +kernel
theorem dX12_look_95 : decode cX12_look 95 = .ok (.iconst 5, 1) := by decide +kernel
theorem dX12_look_96 : decode cX12_look 96 = .ok (.if_icmp .ne 10, 3) := by decide +kernel
theorem dX12_look_99 : decode cX12_look 99 = .ok (.aload_n 0, 1) := by decide +kernel
theorem dX12_look_100 : decode cX12_look 100 = .ok (.getfield 64, 3) := by decide +kernel
theorem dX12_look_103 : decode cX12_look 103 = .ok (.iconst 0, 1) := by decide +kernel
theorem dX12_look_104 : decode cX12_look 104 = .ok (.iaload, 1) := by decide +kernel
theorem dX12_look_105 : decode cX12_look 105 = .ok (.ireturn, 1) := by decide +kernel
theorem dX12_look_106 : decode cX12_look 106 = .ok (.iload_n 1, 1) := by decide +kernel
theorem dX12_look_107 : decode cX12_look 107 = .ok (.bipush 11, 2) := by decide +kernel
theorem dX12_look_109 : decode cX12_look 109 = .ok (.if_icmp .ge 13, 3) := by decide +kernel
theorem dX12_look_112 : decode cX12_look 112 = .ok (.aload_n 0, 1) := by decide +kernel
theorem dX12_look_113 : decode cX12_look 113 = .ok (.iconst 0, 1) := by decide +kernel
theorem dX12_look_114 : decode cX12_look 114 = .ok (.iload_n 1, 1) := by decide +kernel
theorem dX12_look_115 : decode cX12_look 115 = .ok (.bipush 6, 2) := by decide +kernel
theorem dX12_look_117 : decode cX12_look 117 = .ok (.isub, 1) := by decide +kernel
theorem dX12_look_118 : decode cX12_look 118 = .ok (.invokevirtual 378, 3) := by decide +kernel
theorem dX12_look_121 : decode cX12_look 121 = .ok (.ireturn, 1) := by decide +kernel
theorem dX12_look_122 : decode cX12_look 122 = .ok (.iload_n 1, 1) := by decide +kernel
theorem dX12_look_123 : decode cX12_look 123 = .ok (.bipush 13, 2) := by decide +kernel
theorem dX12_look_125 : decode cX12_look 125 = .ok (.if_icmp .ne 10, 3) := by decide +kernel
theorem dX12_look_128 : decode cX12_look 128 = .ok (.aload_n 0, 1) := by decide +kernel
theorem dX12_look_129 : decode cX12_look 129 = .ok (.getfield 67, 3) := by decide +kernel
theorem dX12_look_132 : decode cX12_look 132 = .ok (.iconst 0, 1) := by decide +kernel
theorem dX12_look_133 : decode cX12_look 133 = .ok (.iaload, 1) := by decide +kernel
theorem dX12_look_134 : decode cX12_look 134 = .ok (.ireturn, 1) := by decide +kernel
theorem dX12_look_135 : decode cX12_look 135 = .ok (.aload_n 0, 1) := by decide +kernel
theorem dX12_look_136 : decode cX12_look 136 = .ok (.iconst 0, 1) := by decide +kernel
theorem dX12_look_137 : decode cX12_look 137 = .ok (.invokevirtual 233, 3) := by decide +kernel
theorem dX12_look_140 : decode cX12_look 140 = .ok (.iconst 0, 1) := by decide +kernel
theorem dX12_look_141 : decode cX12_look 141 = .ok (.istore_n 2, 1) := by decide +kernel
theorem dX12_look_142 : decode cX12_look 142 = .ok (.iconst 1, 1) := by decide +kernel
theorem dX12_look_143 : decode cX12_look 143 = .ok (.istore_n 3, 1) := by decide +kernel
theorem dX12_look_144 : decode cX12_look 144 = .ok (.iload_n 3, 1) := by decide +kernel
theorem dX12_look_145 : decode cX12_look 145 = .ok (.aload_n 0, 1) := by decide +kernel
theorem dX12_look_146 : decode cX12_look 146 = .ok (.getfield 226, 3) := by decide +kernel
theorem dX12_look_149 : decode cX12_look 149 = .ok (.if_icmp .gt 22, 3) := by decide +kernel
theorem dX12_look_152 : decode cX12_look 152 = .ok (.aload_n 0, 1) := by decide +kernel
theorem dX12_look_153 : decode cX12_look 153 = .ok (.getfield 92, 3) := by decide +kernel
theorem dX12_look_156 : decode cX12_look 156 = .ok (.iload_n 3, 1) := by decide +kernel
theorem dX12_look_157 : decode cX12_look 157 = .ok (.baload, 1) := by decide +kernel
theorem dX12_look_158 : decode cX12_look 158 = .ok (.ifCond .ne 7, 3) := by decide +kernel
theorem dX12_look_161 : decode cX12_look 161 = .ok (.iload_n 2, 1) := by decide +kernel
theorem dX12_look_162 : decode cX12_look 162 = .ok (.iconst 1, 1) := by decide +kernel
theorem dX12_look_163 : decode cX12_look 163 = .ok (.iadd, 1) := by decide +kernel
theorem dX12_look_164 : decode cX12_look 164 = .ok (.istore_n 2, 1) := by decide +kernel
theorem dX12_look_165 : decode cX12_look 165 = .ok (.iinc 3 1, 3) := by decide +kernel
theorem dX12_look_168 : decode cX12_look 168 = .ok (.goto (-24), 3) := by decide +kernel
theorem dX12_look_171 : decode cX12_look 171 = .ok (.iload_n 1, 1) := by decide +kernel
theorem dX12_look_172 : decode cX12_look 172 = .ok (.bipush 11, 2) := by decide +kernel
theorem dX12_look_174 : decode cX12_look 174 = .ok (.if_icmp .ne 10, 3) := by decide +kernel
theorem dX12_look_177 : decode cX12_look 177 = .ok (.aload_n 0, 1) := by decide +kernel
theorem dX12_look_178 : decode cX12_look 178 = .ok (.getfield 226, 3) := by decide +kernel
theorem dX12_look_181 : decode cX12_look 181 = .ok (.goto 4, 3) := by decide +kernel
theorem dX12_look_184 : decode cX12_look 184 = .ok (.iload_n 2, 1) := by decide +kernel
theorem dX12_look_185 : decode cX12_look 185 = .ok (.ireturn, 1) := by decide +kernel
theorem dX12_heat_0 : decode cX12_heat 0 = .ok (.aload_n 0, 1) := by decide +kernel
theorem dX12_heat_1 : decode cX12_heat 1 = .ok (.iconst 0, 1) := by decide +kernel
theorem dX12_heat_2 : decode cX12_heat 2 = .ok (.putfield 167, 3) := by decide +kernel
theorem dX12_heat_5 : decode cX12_heat 5 = .ok (.iload_n 1, 1) := by decide +kernel
theorem dX12_heat_6 : decode cX12_heat 6 = .ok (.ifCond .ne 10, 3) := by decide +kernel
theorem dX12_heat_9 : decode cX12_heat 9 = .ok (.aload_n 0, 1) := by decide +kernel
theorem dX12_heat_10 : decode cX12_heat 10 = .ok (.getfield 70, 3) := by decide +kernel
theorem dX12_heat_13 : decode cX12_heat 13 = .ok (.iconst 0, 1) := by decide +kernel
theorem dX12_heat_14 : decode cX12_heat 14 = .ok (.laload, 1) := by decide +kernel
theorem dX12_heat_15 : decode cX12_heat 15 = .ok (.lreturn, 1) := by decide +kernel
theorem dX12_heat_16 : decode cX12_heat 16 = .ok (.iload_n 1, 1) := by decide +kernel
theorem dX12_heat_17 : decode cX12_heat 17 = .ok (.iconst 2, 1) := by decide +kernel
theorem dX12_heat_18 : decode cX12_heat 18 = .ok (.if_icmp .ne 10, 3) := by decide +kernel
theorem dX12_heat_21 : decode cX12_heat 21 = .ok (.aload_n 0, 1) := by decide +kernel
theorem dX12_heat_22 : decode cX12_heat 22 = .ok (.getfield 74, 3) := by decide +kernel
theorem dX12_heat_25 : decode cX12_heat 25 = .ok (.iconst 0, 1) := by decide +kernel
theorem dX12_heat_26 : decode cX12_heat 26 = .ok (.laload, 1) := by decide +kernel
theorem dX12_heat_27 : decode cX12_heat 27 = .ok (.lreturn, 1) := by decide +kernel
theorem dX12_heat_28 : decode cX12_heat 28 = .ok (.iload_n 1, 1) := by decide +kernel
theorem dX12_heat_29 : decode cX12_heat 29 = .ok (.iconst 3, 1) := by decide +kernel
theorem dX12_heat_30 : decode cX12_heat 30 = .ok (.if_icmp .ne 10, 3) := by decide +kernel
theorem dX12_heat_33 : decode cX12_heat 33 = .ok (.aload_n 0, 1) := by decide +kernel
theorem dX12_heat_34 : decode cX12_heat 34 = .ok (.getfield 77, 3) := by decide +kernel
theorem dX12_heat_37 : decode cX12_heat 37 = .ok (.iconst 0, 1) := by decide +kernel
theorem dX12_heat_38 : decode cX12_heat 38 = .ok (.laload, 1) := by decide +kernel
theorem dX12_heat_39 : decode cX12_heat 39 = .ok (.lreturn, 1) := by decide +kernel
theorem dX12_heat_40 : decode cX12_heat 40 = .ok (.iload_n 1, 1) := by decide +kernel
theorem dX12_heat_41 : decode cX12_heat 41 = .ok (.iconst 1, 1) := by decide +kernel
theorem dX12_heat_42 : decode cX12_heat 42 = .ok (.if_icmp .eq 7, 3) := by decide +kernel
theorem dX12_heat_45 : decode cX12_heat 45 = .ok (.ldc2_w 381, 3) := by decide +kernel
theorem dX12_heat_48 : decode cX12_heat 48 = .ok (.lreturn, 1) := by decide +kernel
theorem dX12_heat_49 : decode cX12_heat 49 = .ok (.lconst 0, 1) := by decide +kernel
theorem dX12_heat_50 : decode cX12_heat 50 = .ok (.lstore_n 2, 1) := by decide +kernel
theorem dX12_heat_51 : decode cX12_heat 51 = .ok (.iconst 0, 1) := by decide +kernel
theorem dX12_heat_52 : decode cX12_heat 52 = .ok (.istore 4, 2) := by decide +kernel
theorem dX12_heat_54 : decode cX12_heat 54 = .ok (.iload 4, 2) := by decide +kernel
theorem dX12_heat_56 : decode cX12_heat 56 = .ok (.sipush 192, 3) := by decide +kernel
theorem dX12_heat_59 : decode cX12_heat 59 = .ok (.if_icmp .ge 20, 3) := by decide +kernel
theorem dX12_heat_62 : decode cX12_heat 62 = .ok (.lload_n 2, 1) := by decide +kernel
theorem dX12_heat_63 : decode cX12_heat 63 = .ok (.aload_n 0, 1) := by decide +kernel
theorem dX12_heat_64 : decode cX12_heat 64 = .ok (.getfield 33, 3) := by decide +kernel
theorem dX12_heat_67 : decode cX12_heat 67 = .ok (.iload 4, 2) := by decide +kernel
theorem dX12_heat_69 : decode cX12_heat 69 = .ok (.iaload, 1) := by decide +kernel
theorem dX12_heat_70 : decode cX12_heat 70 = .ok (.i2l, 1) := by decide +kernel
theorem dX12_heat_71 : decode cX12_heat 71 = .ok (.ladd, 1) := by decide +kernel
theorem dX12_heat_72 : decode cX12_heat 72 = .ok (.lstore_n 2, 1) := by decide +kernel
theorem dX12_heat_73 : decode cX12_heat 73 = .ok (.iinc 4 1, 3) := by decide +kernel
theorem dX12_heat_76 : decode cX12_heat 76 = .ok (.goto (-22), 3) := by decide +kernel
theorem dX12_heat_79 : decode cX12_heat 79 = .ok (.lload_n 2, 1) := by decide +kernel
theorem dX12_heat_80 : decode cX12_heat 80 = .ok (.lreturn, 1) := by decide +kernel
theorem dX12_ones_0 : decode cX12_ones 0 = .ok (.iconst 0, 1) := by decide +kernel
theorem dX12_ones_1 : decode cX12_ones 1 = .ok (.istore_n 2, 1) := by decide +kernel
theorem dX12_ones_2 : decode cX12_ones 2 = .ok (.iload_n 1, 1) := by decide +kernel
theorem dX12_ones_3 : decode cX12_ones 3 = .ok (.istore_n 3, 1) := by decide +kernel
theorem dX12_ones_4 : decode cX12_ones 4 = .ok (.iload_n 3, 1) := by decide +kernel
theorem dX12_ones_5 : decode cX12_ones 5 = .ok (.ifCond .eq 16, 3) := by decide +kernel
theorem dX12_ones_8 : decode cX12_ones 8 = .ok (.iload_n 2, 1) := by decide +kernel
theorem dX12_ones_9 : decode cX12_ones 9 = .ok (.iconst 1, 1) := by decide +kernel
theorem dX12_ones_10 : decode cX12_ones 10 = .ok (.iadd, 1) := by decide +kernel
theorem dX12_ones_11 : decode cX12_ones 11 = .ok (.istore_n 2, 1) := by decide +kernel
theorem dX12_ones_12 : decode cX12_ones 12 = .ok (.iload_n 3, 1) := by decide +kernel
theorem dX12_ones_13 : decode cX12_ones 13 = .ok (.iload_n 3, 1) := by decide +kernel
theorem dX12_ones_14 : decode cX12_ones 14 = .ok (.iconst 1, 1) := by decide +kernel
theorem dX12_ones_15 : decode cX12_ones 15 = .ok (.isub, 1) := by decide +kernel
theorem dX12_ones_16 : decode cX12_ones 16 = .ok (.iand, 1) := by decide +kernel
theorem dX12_ones_17 : decode cX12_ones 17 = .ok (.istore_n 3, 1) := by decide +kernel
theorem dX12_ones_18 : decode cX12_ones 18 = .ok (.goto (-14), 3) := by decide +kernel
theorem dX12_ones_21 : decode cX12_ones 21 = .ok (.iload_n 2, 1) := by decide +kernel
theorem dX12_ones_22 : decode cX12_ones 22 = .ok (.ireturn, 1) := by decide +kernel
theorem dX12_order_0 : decode cX12_order 0 = .ok (.aload_n 0, 1) := by decide +kernel
theorem dX12_order_1 : decode cX12_order 1 = .ok (.iconst 0, 1) := by decide +kernel
theorem dX12_order_2 : decode cX12_order 2 = .ok (.putfield 167, 3) := by decide +kernel
theorem dX12_order_5 : decode cX12_order 5 = .ok (.aload_n 0, 1) := by decide +kernel
theorem dX12_order_6 : decode cX12_order 6 = .ok (.iload_n 1, 1) := by decide +kernel
theorem dX12_order_7 : decode cX12_order 7 = .ok (.iconst 1, 1) := by decide +kernel
theorem dX12_order_8 : decode cX12_order 8 = .ok (.sipush 255, 3) := by decide +kernel
theorem dX12_order_11 : decode cX12_order 11 = .ok (.invokevirtual 170, 3) := by decide +kernel
theorem dX12_order_14 : decode cX12_order 14 = .ok (.ifCond .eq 29, 3) := by decide +kernel
theorem dX12_order_17 : decode cX12_order 17 = .ok (.aload_n 0, 1) := by decide +kernel
theorem dX12_order_18 : decode cX12_order 18 = .ok (.iload_n 1, 1) := by decide +kernel
theorem dX12_order_19 : decode cX12_order 19 = .ok (.invokevirtual 383, 3) := by decide +kernel
theorem dX12_order_22 : decode cX12_order 22 = .ok (.iconst 3, 1) := by decide +kernel
theorem dX12_order_23 : decode cX12_order 23 = .ok (.if_icmp .gt 20, 3) := by decide +kernel
theorem dX12_order_26 : decode cX12_order 26 = .ok (.aload_n 0, 1) := by decide +kernel
theorem dX12_order_27 : decode cX12_order 27 = .ok (.getfield 174, 3) := by decide +kernel
theorem dX12_order_30 : decode cX12_order 30 = .ok (.ifCond .eq 13, 3) := by decide +kernel
theorem dX12_order_33 : decode cX12_order 33 = .ok (.aload_n 0, 1) := by decide +kernel
theorem dX12_order_34 : decode cX12_order 34 = .ok (.iload_n 2, 1) := by decide +kernel
theorem dX12_order_35 : decode cX12_order 35 = .ok (.iconst 0, 1) := by decide +kernel
theorem dX12_order_36 : decode cX12_order 36 = .ok (.iconst 2, 1) := by decide +kernel
theorem dX12_order_37 : decode cX12_order 37 = .ok (.invokevirtual 170, 3) := by decide +kernel
theorem dX12_order_40 : decode cX12_order 40 = .ok (.ifCond .ne 5, 3) := by decide +kernel
theorem dX12_order_43 : decode cX12_order 43 = .ok (.iconst (-1), 1) := by decide +kernel
theorem dX12_order_44 : decode cX12_order 44 = .ok (.ireturn, 1) := by decide +kernel
theorem dX12_order_45 : decode cX12_order 45 = .ok (.aload_n 0, 1) := by decide +kernel
theorem dX12_order_46 : decode cX12_order 46 = .ok (.iload_n 1, 1) := by decide +kernel
theorem dX12_order_47 : decode cX12_order 47 = .ok (.invokevirtual 383, 3) := by decide +kernel
theorem dX12_order_50 : decode cX12_order 50 = .ok (.istore_n 3, 1) := by decide +kernel
theorem dX12_order_51 : decode cX12_order 51 = .ok (.iconst (-1), 1) := by decide +kernel
theorem dX12_order_52 : decode cX12_order 52 = .ok (.istore 4, 2) := by decide +kernel
theorem dX12_order_54 : decode cX12_order 54 = .ok (.iconst 0, 1) := by decide +kernel
theorem dX12_order_55 : decode cX12_order 55 = .ok (.istore 5, 2) := by decide +kernel
theorem dX12_order_57 : decode cX12_order 57 = .ok (.iconst 0, 1) := by decide +kernel
theorem dX12_order_58 : decode cX12_order 58 = .ok (.istore 6, 2) := by decide +kernel
theorem dX12_order_60 : decode cX12_order 60 = .ok (.iconst 0, 1) := by decide +kernel
theorem dX12_order_61 : decode cX12_order 61 = .ok (.istore 7, 2) := by decide +kernel
theorem dX12_order_63 : decode cX12_order 63 = .ok (.iload 7, 2) := by decide +kernel
theorem dX12_order_65 : decode cX12_order 65 = .ok (.iconst 1, 1) := by decide +kernel
theorem dX12_order_66 : decode cX12_order 66 = .ok (.iconst 3, 1) := by decide +kernel
theorem dX12_order_67 : decode cX12_order 67 = .ok (.iload_n 3, 1) := by decide +kernel
theorem dX12_order_68 : decode cX12_order 68 = .ok (.imul, 1) := by decide +kernel
theorem dX12_order_69 : decode cX12_order 69 = .ok (.ishl, 1) := by decide +kernel
theorem dX12_order_70 : decode cX12_order 70 = .ok (.if_icmp .ge 123, 3) := by decide +kernel
theorem dX12_order_73 : decode cX12_order 73 = .ok (.aload_n 0, 1) := by decide +kernel
theorem dX12_order_74 : decode cX12_order 74 = .ok (.iload 7, 2) := by decide +kernel
theorem dX12_order_76 : decode cX12_order 76 = .ok (.iload_n 3, 1) := by decide +kernel
theorem dX12_order_77 : decode cX12_order 77 = .ok (.iload_n 1, 1) := by decide +kernel
theorem dX12_order_78 : decode cX12_order 78 = .ok (.invokevirtual 386, 3) := by decide +kernel
theorem dX12_order_81 : decode cX12_order 81 = .ok (.ifCond .ne 6, 3) := by decide +kernel
theorem dX12_order_84 : decode cX12_order 84 = .ok (.goto 103, 3) := by decide +kernel
theorem dX12_order_87 : decode cX12_order 87 = .ok (.aload_n 0, 1) := by decide +kernel
theorem dX12_order_88 : decode cX12_order 88 = .ok (.invokevirtual 389, 3) := by decide +kernel
theorem dX12_order_91 : decode cX12_order 91 = .ok (.iload_n 3, 1) := by decide +kernel
theorem dX12_order_92 : decode cX12_order 92 = .ok (.iconst 1, 1) := by decide +kernel
theorem dX12_order_93 : decode cX12_order 93 = .ok (.isub, 1) := by decide +kernel
theorem dX12_order_94 : decode cX12_order 94 = .ok (.istore 8, 2) := by decide +kernel
theorem dX12_order_96 : decode cX12_order 96 = .ok (.iload 8, 2) := by decide +kernel
theorem dX12_order_98 : decode cX12_order 98 = .ok (.ifCond .lt 24, 3) := by decide +kernel
theorem dX12_order_101 : decode cX12_order 101 = .ok (.aload_n 0, 1) := by decide +kernel
theorem dX12_order_102 : decode cX12_order 102 = .ok (.iconst 1, 1) := by decide +kernel
theorem dX12_order_103 : decode cX12_order 103 = .ok (.iload 7, 2) := by decide +kernel
theorem dX12_order_105 : decode cX12_order 105 = .ok (.iconst 3, 1) := by decide +kernel
theorem dX12_order_106 : decode cX12_order 106 = .ok (.iload 8, 2) := by decide +kernel
theorem dX12_order_108 : decode cX12_order 108 = .ok (.imul, 1) := by decide +kernel
theorem dX12_order_109 : decode cX12_order 109 = .ok (.ishr, 1) := by decide +kernel
theorem dX12_order_110 : decode cX12_order 110 = .ok (.bipush 7, 2) := by decide +kernel
theorem dX12_order_112 : decode cX12_order 112 = .ok (.iand, 1) := by decide +kernel
theorem dX12_order_113 : decode cX12_order 113 = .ok (.invokevirtual 372, 3) := by decide +kernel
theorem dX12_order_116 : decode cX12_order 116 = .ok (.iinc 8 (-1), 3) := by decide +kernel
theorem dX12_order_119 : decode cX12_order 119 = .ok (.goto (-23), 3) := by decide +kernel
theorem dX12_order_122 : decode cX12_order 122 = .ok (.aload_n 0, 1) := by decide +kernel
theorem dX12_order_123 : decode cX12_order 123 = .ok (.iconst 1, 1) := by decide +kernel
theorem dX12_order_124 : decode cX12_order 124 = .ok (.iconst 4, 1) := by decide +kernel
theorem dX12_order_125 : decode cX12_order 125 = .ok (.invokevirtual 378, 3) := by decide +kernel
theorem dX12_order_128 : decode cX12_order 128 = .ok (.istore 8, 2) := by decide +kernel
theorem dX12_order_130 : decode cX12_order 130 = .ok (.aload_n 0, 1) := by decide +kernel
theorem dX12_order_131 : decode cX12_order 131 = .ok (.getfield 61, 3) := by decide +kernel
theorem dX12_order_134 : decode cX12_order 134 = .ok (.iconst 1, 1) := by decide +kernel
theorem dX12_order_135 : decode cX12_order 135 = .ok (.iaload, 1) := by decide +kernel
theorem dX12_order_136 : decode cX12_order 136 = .ok (.aload_n 0, 1) := by decide +kernel
theorem dX12_order_137 : decode cX12_order 137 = .ok (.getfield 61, 3) := by decide +kernel
theorem dX12_order_140 : decode cX12_order 140 = .ok (.iconst 0, 1) := by decide +kernel
theorem dX12_order_141 : decode cX12_order 141 = .ok (.iaload, 1) := by decide +kernel
theorem dX12_order_142 : decode cX12_order 142 = .ok (.isub, 1) := by decide +kernel
theorem dX12_order_143 : decode cX12_order 143 = .ok (.istore 9, 2) := by decide +kernel
theorem dX12_order_145 : decode cX12_order 145 = .ok (.iload 4, 2) := by decide +kernel
theorem dX12_order_147 : decode cX12_order 147 = .ok (.iconst (-1), 1) := by decide +kernel
theorem dX12_order_148 : decode cX12_order 148 = .ok (.if_icmp .eq 27, 3) := by decide +kernel
theorem dX12_order_151 : decode cX12_order 151 = .ok (.iload 8, 2) := by decide +kernel
theorem dX12_order_153 : decode cX12_order 153 = .ok (.iload 5, 2) := by decide +kernel
theorem dX12_order_155 : decode cX12_order 155 = .ok (.if_icmp .gt 32, 3) := by decide +kernel
theorem dX12_order_158 : decode cX12_order 158 = .ok (.iload 8, 2) := by decide +kernel
theorem dX12_order_160 : decode cX12_order 160 = .ok (.iload 5, 2) := by decide +kernel
theorem dX12_order_162 : decode cX12_order 162 = .ok (.if_icmp .ne 13, 3) := by decide +kernel
theorem dX12_order_165 : decode cX12_order 165 = .ok (.iload 9, 2) := by decide +kernel
theorem dX12_order_167 : decode cX12_order 167 = .ok (.iload 6, 2) := by decide +kernel
theorem dX12_order_169 : decode cX12_order 169 = .ok (.if_icmp .lt 6, 3) := by decide +kernel
theorem dX12_order_172 : decode cX12_order 172 = .ok (.goto 15, 3) := by decide +kernel
theorem dX12_order_175 : decode cX12_order 175 = .ok (.iload 7, 2) := by decide +kernel
theorem dX12_order_177 : decode cX12_order 177 = .ok (.istore 4, 2) := by decide +kernel
theorem dX12_order_179 : decode cX12_order 179 = .ok (.iload 8, 2) := by decide +kernel
theorem dX12_order_181 : decode cX12_order 181 = .ok (.istore 5, 2) := by decide +kernel
theorem dX12_order_183 : decode cX12_order 183 = .ok (.iload 9, 2) := by decide +kernel
theorem dX12_order_185 : decode cX12_order 185 = .ok (.istore 6, 2) := by decide +kernel
theorem dX12_order_187 : decode cX12_order 187 = .ok (.iinc 7 1, 3) := by decide +kernel
theorem dX12_order_190 : decode cX12_order 190 = .ok (.goto (-127), 3) := by decide +kernel
theorem dX12_order_193 : decode cX12_order 193 = .ok (.iload_n 2, 1) := by decide +kernel
theorem dX12_order_194 : decode cX12_order 194 = .ok (.iconst 2, 1) := by decide +kernel
theorem dX12_order_195 : decode cX12_order 195 = .ok (.if_icmp .ge 15, 3) := by decide +kernel
theorem dX12_order_198 : decode cX12_order 198 = .ok (.iload_n 2, 1) := by decide +kernel
theorem dX12_order_199 : decode cX12_order 199 = .ok (.ifCond .ne 8, 3) := by decide +kernel
theorem dX12_order_202 : decode cX12_order 202 = .ok (.iload 5, 2) := by decide +kernel
theorem dX12_order_204 : decode cX12_order 204 = .ok (.goto 5, 3) := by decide +kernel
theorem dX12_order_207 : decode cX12_order 207 = .ok (.iload 6, 2) := by decide +kernel
theorem dX12_order_209 : decode cX12_order 209 = .ok (.ireturn, 1) := by decide +kernel
theorem dX12_order_210 : decode cX12_order 210 = .ok (.bipush 9, 2) := by decide +kernel
theorem dX12_order_212 : decode cX12_order 212 = .ok (.istore 7, 2) := by decide +kernel
theorem dX12_order_214 : decode cX12_order 214 = .ok (.iload_n 3, 1) := by decide +kernel
theorem dX12_order_215 : decode cX12_order 215 = .ok (.iconst 1, 1) := by decide +kernel
theorem dX12_order_216 : decode cX12_order 216 = .ok (.isub, 1) := by decide +kernel
theorem dX12_order_217 : decode cX12_order 217 = .ok (.istore 8, 2) := by decide +kernel
theorem dX12_order_219 : decode cX12_order 219 = .ok (.iload 8, 2) := by decide +kernel
theorem dX12_order_221 : decode cX12_order 221 = .ok (.ifCond .lt 27, 3) := by decide +kernel
theorem dX12_order_224 : decode cX12_order 224 = .ok (.bipush 10, 2) := by decide +kernel
theorem dX12_order_226 : decode cX12_order 226 = .ok (.iload 7, 2) := by decide +kernel
theorem dX12_order_228 : decode cX12_order 228 = .ok (.imul, 1) := by decide +kernel
theorem dX12_order_229 : decode cX12_order 229 = .ok (.iload 4, 2) := by decide +kernel
theorem dX12_order_231 : decode cX12_order 231 = .ok (.iconst 3, 1) := by decide +kernel
theorem dX12_order_232 : decode cX12_order 232 = .ok (.iload 8, 2) := by decide +kernel
theorem dX12_order_234 : decode cX12_order 234 = .ok (.imul, 1) := by decide +kernel
theorem dX12_order_235 : decode cX12_order 235 = .ok (.ishr, 1) := by decide +kernel
theorem dX12_order_236 : decode cX12_order 236 = .ok (.bipush 7, 2) := by decide +kernel
theorem dX12_order_238 : decode cX12_order 238 = .ok (.iand, 1) := by decide +kernel
theorem dX12_order_239 : decode cX12_order 239 = .ok (.iadd, 1) := by decide +kernel
theorem dX12_order_240 : decode cX12_order 240 = .ok (.istore 7, 2) := by decide +kernel
theorem dX12_order_242 : decode cX12_order 242 = .ok (.iinc 8 (-1), 3) := by decide +kernel
theorem dX12_order_245 : decode cX12_order 245 = .ok (.goto (-26), 3) := by decide +kernel
theorem dX12_order_248 : decode cX12_order 248 = .ok (.iload 7, 2) := by decide +kernel
theorem dX12_order_250 : decode cX12_order 250 = .ok (.ireturn, 1) := by decide +kernel
theorem dX12_speed_0 : decode cX12_speed 0 = .ok (.aload_n 0, 1) := by decide +kernel
theorem dX12_speed_1 : decode cX12_speed 1 = .ok (.iconst 0, 1) := by decide +kernel
theorem dX12_speed_2 : decode cX12_speed 2 = .ok (.putfield 167, 3) := by decide +kernel
theorem dX12_speed_5 : decode cX12_speed 5 = .ok (.aload_n 0, 1) := by decide +kernel
theorem dX12_speed_6 : decode cX12_speed 6 = .ok (.iload_n 1, 1) := by decide +kernel
theorem dX12_speed_7 : decode cX12_speed 7 = .ok (.iconst 0, 1) := by decide +kernel
theorem dX12_speed_8 : decode cX12_speed 8 = .ok (.iconst 3, 1) := by decide +kernel
theorem dX12_speed_9 : decode cX12_speed 9 = .ok (.invokevirtual 170, 3) := by decide +kernel
theorem dX12_speed_12 : decode cX12_speed 12 = .ok (.ifCond .eq 56, 3) := by decide +kernel
theorem dX12_speed_15 : decode cX12_speed 15 = .ok (.aload_n 0, 1) := by decide +kernel
theorem dX12_speed_16 : decode cX12_speed 16 = .ok (.iload_n 2, 1) := by decide +kernel
theorem dX12_speed_17 : decode cX12_speed 17 = .ok (.iconst 1, 1) := by decide +kernel
theorem dX12_speed_18 : decode cX12_speed 18 = .ok (.bipush 15, 2) := by decide +kernel
theorem dX12_speed_20 : decode cX12_speed 20 = .ok (.invokevirtual 170, 3) := by decide +kernel
theorem dX12_speed_23 : decode cX12_speed 23 = .ok (.ifCond .eq 45, 3) := by decide +kernel
theorem dX12_speed_26 : decode cX12_speed 26 = .ok (.aload_n 0, 1) := by decide +kernel
theorem dX12_speed_27 : decode cX12_speed 27 = .ok (.getfield 174, 3) := by decide +kernel
theorem dX12_speed_30 : decode cX12_speed 30 = .ok (.ifCond .eq 38, 3) := by decide +kernel
theorem dX12_speed_33 : decode cX12_speed 33 = .ok (.aload_n 0, 1) := by decide +kernel
theorem dX12_speed_34 : decode cX12_speed 34 = .ok (.aload_n 0, 1) := by decide +kernel
theorem dX12_speed_35 : decode cX12_speed 35 = .ok (.getfield 49, 3) := by decide +kernel
theorem dX12_speed_38 : decode cX12_speed 38 = .ok (.iconst 0, 1) := by decide +kernel
theorem dX12_speed_39 : decode cX12_speed 39 = .ok (.iaload, 1) := by decide +kernel
theorem dX12_speed_40 : decode cX12_speed 40 = .ok (.iload_n 2, 1) := by decide +kernel
theorem dX12_speed_41 : decode cX12_speed 41 = .ok (.aload_n 0, 1) := by decide +kernel
theorem dX12_speed_42 : decode cX12_speed 42 = .ok (.iload_n 1, 1) := by decide +kernel
theorem dX12_speed_43 : decode cX12_speed 43 = .ok (.invokevirtual 193, 3) := by decide +kernel
theorem dX12_speed_46 : decode cX12_speed 46 = .ok (.imul, 1) := by decide +kernel
theorem dX12_speed_47 : decode cX12_speed 47 = .ok (.iadd, 1) := by decide +kernel
theorem dX12_speed_48 : decode cX12_speed 48 = .ok (.aload_n 0, 1) := by decide +kernel
theorem dX12_speed_49 : decode cX12_speed 49 = .ok (.getfield 52, 3) := by decide +kernel
theorem dX12_speed_52 : decode cX12_speed 52 = .ok (.iconst 0, 1) := by decide +kernel
theorem dX12_speed_53 : decode cX12_speed 53 = .ok (.iaload, 1) := by decide +kernel
theorem dX12_speed_54 : decode cX12_speed 54 = .ok (.iload_n 2, 1) := by decide +kernel
theorem dX12_speed_55 : decode cX12_speed 55 = .ok (.aload_n 0, 1) := by decide +kernel
theorem dX12_speed_56 : decode cX12_speed 56 = .ok (.iload_n 1, 1) := by decide +kernel
theorem dX12_speed_57 : decode cX12_speed 57 = .ok (.invokevirtual 197, 3) := by decide +kernel
theorem dX12_speed_60 : decode cX12_speed 60 = .ok (.imul, 1) := by decide +kernel
theorem dX12_speed_61 : decode cX12_speed 61 = .ok (.iadd, 1) := by decide +kernel
theorem dX12_speed_62 : decode cX12_speed 62 = .ok (.invokevirtual 189, 3) := by decide +kernel
theorem dX12_speed_65 : decode cX12_speed 65 = .ok (.ifCond .ne 5, 3) := by decide +kernel
theorem dX12_speed_68 : decode cX12_speed 68 = .ok (.iconst (-1), 1) := by decide +kernel
theorem dX12_speed_69 : decode cX12_speed 69 = .ok (.ireturn, 1) := by decide +kernel
theorem dX12_speed_70 : decode cX12_speed 70 = .ok (.iconst 1, 1) := by decide +kernel
theorem dX12_speed_71 : decode cX12_speed 71 = .ok (.istore_n 3, 1) := by decide +kernel
theorem dX12_speed_72 : decode cX12_speed 72 = .ok (.iload_n 3, 1) := by decide +kernel
theorem dX12_speed_73 : decode cX12_speed 73 = .ok (.bipush 20, 2) := by decide +kernel
theorem dX12_speed_75 : decode cX12_speed 75 = .ok (.if_icmp .gt 21, 3) := by decide +kernel
theorem dX12_speed_78 : decode cX12_speed 78 = .ok (.aload_n 0, 1) := by decide +kernel
theorem dX12_speed_79 : decode cX12_speed 79 = .ok (.iload_n 1, 1) := by decide +kernel
theorem dX12_speed_80 : decode cX12_speed 80 = .ok (.iload_n 2, 1) := by decide +kernel
theorem dX12_speed_81 : decode cX12_speed 81 = .ok (.iload_n 3, 1) := by decide +kernel
theorem dX12_speed_82 : decode cX12_speed 82 = .ok (.invokevirtual 392, 3) := by decide +kernel
theorem dX12_speed_85 : decode cX12_speed 85 = .ok (.ifCond .eq 5, 3) := by decide +kernel
theorem dX12_speed_88 : decode cX12_speed 88 = .ok (.iload_n 3, 1) := by decide +kernel
theorem dX12_speed_89 : decode cX12_speed 89 = .ok (.ireturn, 1) := by decide +kernel
theorem dX12_speed_90 : decode cX12_speed 90 = .ok (.iinc 3 1, 3) := by decide +kernel
theorem dX12_speed_93 : decode cX12_speed 93 = .ok (.goto (-21), 3) := by decide +kernel
theorem dX12_speed_96 : decode cX12_speed 96 = .ok (.iconst (-1), 1) := by decide +kernel
theorem dX12_speed_97 : decode cX12_speed 97 = .ok (.ireturn, 1) := by decide +kernel
theorem dX12_kind_0 : decode cX12_kind 0 = .ok (.aload_n 0, 1) := by decide +kernel
theorem dX12_kind_1 : decode cX12_kind 1 = .ok (.iconst 0, 1) := by decide +kernel
theorem dX12_kind_2 : decode cX12_kind 2 = .ok (.putfield 167, 3) := by decide +kernel
theorem dX12_kind_5 : decode cX12_kind 5 = .ok (.aload_n 0, 1) := by decide +kernel
theorem dX12_kind_6 : decode cX12_kind 6 = .ok (.iload_n 1, 1) := by decide +kernel
theorem dX12_kind_7 : decode cX12_kind 7 = .ok (.iconst 1, 1) := by decide +kernel
theorem dX12_kind_8 : decode cX12_kind 8 = .ok (.bipush 40, 2) := by decide +kernel
theorem dX12_kind_10 : decode cX12_kind 10 = .ok (.invokevirtual 170, 3) := by decide +kernel
theorem dX12_kind_13 : decode cX12_kind 13 = .ok (.ifCond .eq 35, 3) := by decide +kernel
theorem dX12_kind_16 : decode cX12_kind 16 = .ok (.aload_n 0, 1) := by decide +kernel
theorem dX12_kind_17 : decode cX12_kind 17 = .ok (.iload_n 2, 1) := by decide +kernel
theorem dX12_kind_18 : decode cX12_kind 18 = .ok (.iconst 1, 1) := by decide +kernel
theorem dX12_kind_19 : decode cX12_kind 19 = .ok (.bipush 40, 2) := by decide +kernel
theorem dX12_kind_21 : decode cX12_kind 21 = .ok (.invokevirtual 170, 3) := by decide +kernel
theorem dX12_kind_24 : decode cX12_kind 24 = .ok (.ifCond .eq 24, 3) := by decide +kernel
theorem dX12_kind_27 : decode cX12_kind 27 = .ok (.aload_n 0, 1) := by decide +kernel
theorem dX12_kind_28 : decode cX12_kind 28 = .ok (.iload_n 3, 1) := by decide +kernel
theorem dX12_kind_29 : decode cX12_kind 29 = .ok (.iconst 0, 1) := by decide +kernel
theorem dX12_kind_30 : decode cX12_kind 30 = .ok (.sipush 999, 3) := by decide +kernel
theorem dX12_kind_33 : decode cX12_kind 33 = .ok (.invokevirtual 170, 3) := by decide +kernel
theorem dX12_kind_36 : decode cX12_kind 36 = .ok (.ifCond .eq 12, 3) := by decide +kernel
theorem dX12_kind_39 : decode cX12_kind 39 = .ok (.aload_n 0, 1) := by decide +kernel
theorem dX12_kind_40 : decode cX12_kind 40 = .ok (.getfield 395, 3) := by decide +kernel
theorem dX12_kind_43 : decode cX12_kind 43 = .ok (.bipush 6, 2) := by decide +kernel
theorem dX12_kind_45 : decode cX12_kind 45 = .ok (.if_icmp .ne 5, 3) := by decide +kernel
theorem dX12_kind_48 : decode cX12_kind 48 = .ok (.iconst (-1), 1) := by decide +kernel
theorem dX12_kind_49 : decode cX12_kind 49 = .ok (.ireturn, 1) := by decide +kernel
theorem dX12_kind_50 : decode cX12_kind 50 = .ok (.aload_n 0, 1) := by decide +kernel
theorem dX12_kind_51 : decode cX12_kind 51 = .ok (.getfield 140, 3) := by decide +kernel
theorem dX12_kind_54 : decode cX12_kind 54 = .ok (.aload_n 0, 1) := by decide +kernel
theorem dX12_kind_55 : decode cX12_kind 55 = .ok (.getfield 395, 3) := by decide +kernel
theorem dX12_kind_58 : decode cX12_kind 58 = .ok (.iload_n 1, 1) := by decide +kernel
theorem dX12_kind_59 : decode cX12_kind 59 = .ok (.iastore, 1) := by decide +kernel
theorem dX12_kind_60 : decode cX12_kind 60 = .ok (.aload_n 0, 1) := by decide +kernel
theorem dX12_kind_61 : decode cX12_kind 61 = .ok (.getfield 143, 3) := by decide +kernel
theorem dX12_kind_64 : decode cX12_kind 64 = .ok (.aload_n 0, 1) := by decide +kernel
theorem dX12_kind_65 : decode cX12_kind 65 = .ok (.getfield 395, 3) := by decide +kernel
theorem dX12_kind_68 : decode cX12_kind 68 = .ok (.iload_n 2, 1) := by decide +kernel
theorem dX12_kind_69 : decode cX12_kind 69 = .ok (.iastore, 1) := by decide +kernel
theorem dX12_kind_70 : decode cX12_kind 70 = .ok (.aload_n 0, 1) := by decide +kernel
theorem dX12_kind_71 : decode cX12_kind 71 = .ok (.getfield 146, 3) := by decide +kernel
theorem dX12_kind_74 : decode cX12_kind 74 = .ok (.aload_n 0, 1) := by decide +kernel
theorem dX12_kind_75 : decode cX12_kind 75 = .ok (.getfield 395, 3) := by decide +kernel
theorem dX12_kind_78 : decode cX12_kind 78 = .ok (.iload_n 3, 1) := by decide +kernel
theorem dX12_kind_79 : decode cX12_kind 79 = .ok (.iastore, 1) := by decide +kernel
theorem dX12_kind_80 : decode cX12_kind 80 = .ok (.aload_n 0, 1) := by decide +kernel
theorem dX12_kind_81 : decode cX12_kind 81 = .ok (.aload_n 0, 1) := by decide +kernel
theorem dX12_kind_82 : decode cX12_kind 82 = .ok (.getfield 395, 3) := by decide +kernel
theorem dX12_kind_85 : decode cX12_kind 85 = .ok (.iconst 1, 1) := by decide +kernel
theorem dX12_kind_86 : decode cX12_kind 86 = .ok (.iadd, 1) := by decide +kernel
theorem dX12_kind_87 : decode cX12_kind 87 = .ok (.putfield 395, 3) := by decide +kernel
theorem dX12_kind_90 : decode cX12_kind 90 = .ok (.aload_n 0, 1) := by decide +kernel
theorem dX12_kind_91 : decode cX12_kind 91 = .ok (.getfield 395, 3) := by decide +kernel
theorem dX12_kind_94 : decode cX12_kind 94 = .ok (.iconst 1, 1) := by decide +kernel
theorem dX12_kind_95 : decode cX12_kind 95 = .ok (.isub, 1) := by decide +kernel
theorem dX12_kind_96 : decode cX12_kind 96 = .ok (.ireturn, 1) := by decide +kernel
theorem dX12_mostOf_0 : decode cX12_mostOf 0 = .ok (.iconst 0, 1) := by decide +kernel
theorem dX12_mostOf_1 : decode cX12_mostOf 1 = .ok (.istore_n 3, 1) := by decide +kernel
theorem dX12_mostOf_2 : decode cX12_mostOf 2 = .ok (.iconst 0, 1) := by decide +kernel
theorem dX12_mostOf_3 : decode cX12_mostOf 3 = .ok (.istore 4, 2) := by decide +kernel
theorem dX12_mostOf_5 : decode cX12_mostOf 5 = .ok (.iload 4, 2) := by decide +kernel
theorem dX12_mostOf_7 : decode cX12_mostOf 7 = .ok (.aload_n 0, 1) := by decide +kernel
theorem dX12_mostOf_8 : decode cX12_mostOf 8 = .ok (.getfield 395, 3) := by decide +kernel
theorem dX12_mostOf_11 : decode cX12_mostOf 11 = .ok (.if_icmp .ge 84, 3) := by decide +kernel
theorem dX12_mostOf_14 : decode cX12_mostOf 14 = .ok (.aload_n 0, 1) := by decide +kernel
theorem dX12_mostOf_15 : decode cX12_mostOf 15 = .ok (.getfield 140, 3) := by decide +kernel
theorem dX12_mostOf_18 : decode cX12_mostOf 18 = .ok (.iload 4, 2) := by decide +kernel
theorem dX12_mostOf_20 : decode cX12_mostOf 20 = .ok (.iaload, 1) := by decide +kernel
theorem dX12_mostOf_21 : decode cX12_mostOf 21 = .ok (.iload_n 1, 1) := by decide +kernel
theorem dX12_mostOf_22 : decode cX12_mostOf 22 = .ok (.if_icmp .ne 14, 3) := by decide +kernel
theorem dX12_mostOf_25 : decode cX12_mostOf 25 = .ok (.aload_n 0, 1) := by decide +kernel
theorem dX12_mostOf_26 : decode cX12_mostOf 26 = .ok (.getfield 143, 3) := by decide +kernel
theorem dX12_mostOf_29 : decode cX12_mostOf 29 = .ok (.iload 4, 2) := by decide +kernel
theorem dX12_mostOf_31 : decode cX12_mostOf 31 = .ok (.iaload, 1) := by decide +kernel
theorem dX12_mostOf_32 : decode cX12_mostOf 32 = .ok (.iload_n 2, 1) := by decide +kernel
theorem dX12_mostOf_33 : decode cX12_mostOf 33 = .ok (.if_icmp .eq 25, 3) := by decide +kernel
theorem dX12_mostOf_36 : decode cX12_mostOf 36 = .ok (.aload_n 0, 1) := by decide +kernel
theorem dX12_mostOf_37 : decode cX12_mostOf 37 = .ok (.getfield 140, 3) := by decide +kernel
theorem dX12_mostOf_40 : decode cX12_mostOf 40 = .ok (.iload 4, 2) := by decide +kernel
theorem dX12_mostOf_42 : decode cX12_mostOf 42 = .ok (.iaload, 1) := by decide +kernel
theorem dX12_mostOf_43 : decode cX12_mostOf 43 = .ok (.iload_n 2, 1) := by decide +kernel
theorem dX12_mostOf_44 : decode cX12_mostOf 44 = .ok (.if_icmp .ne 18, 3) := by decide +kernel
theorem dX12_mostOf_47 : decode cX12_mostOf 47 = .ok (.aload_n 0, 1) := by decide +kernel
theorem dX12_mostOf_48 : decode cX12_mostOf 48 = .ok (.getfield 143, 3) := by decide +kernel
theorem dX12_mostOf_51 : decode cX12_mostOf 51 = .ok (.iload 4, 2) := by decide +kernel
theorem dX12_mostOf_53 : decode cX12_mostOf 53 = .ok (.iaload, 1) := by decide +kernel
theorem dX12_mostOf_54 : decode cX12_mostOf 54 = .ok (.iload_n 1, 1) := by decide +kernel
theorem dX12_mostOf_55 : decode cX12_mostOf 55 = .ok (.if_icmp .ne 7, 3) := by decide +kernel
theorem dX12_mostOf_58 : decode cX12_mostOf 58 = .ok (.iconst 1, 1) := by decide +kernel
theorem dX12_mostOf_59 : decode cX12_mostOf 59 = .ok (.goto 4, 3) := by decide +kernel
theorem dX12_mostOf_62 : decode cX12_mostOf 62 = .ok (.iconst 0, 1) := by decide +kernel
theorem dX12_mostOf_63 : decode cX12_mostOf 63 = .ok (.istore 5, 2) := by decide +kernel
theorem dX12_mostOf_65 : decode cX12_mostOf 65 = .ok (.iload 5, 2) := by decide +kernel
theorem dX12_mostOf_67 : decode cX12_mostOf 67 = .ok (.ifCond .eq 22, 3) := by decide +kernel
theorem dX12_mostOf_70 : decode cX12_mostOf 70 = .ok (.aload_n 0, 1) := by decide +kernel
theorem dX12_mostOf_71 : decode cX12_mostOf 71 = .ok (.getfield 146, 3) := by decide +kernel
theorem dX12_mostOf_74 : decode cX12_mostOf 74 = .ok (.iload 4, 2) := by decide +kernel
theorem dX12_mostOf_76 : decode cX12_mostOf 76 = .ok (.iaload, 1) := by decide +kernel
theorem dX12_mostOf_77 : decode cX12_mostOf 77 = .ok (.iload_n 3, 1) := by decide +kernel
theorem dX12_mostOf_78 : decode cX12_mostOf 78 = .ok (.if_icmp .le 11, 3) := by decide +kernel
theorem dX12_mostOf_81 : decode cX12_mostOf 81 = .ok (.aload_n 0, 1) := by decide +kernel
theorem dX12_mostOf_82 : decode cX12_mostOf 82 = .ok (.getfield 146, 3) := by decide +kernel
theorem dX12_mostOf_85 : decode cX12_mostOf 85 = .ok (.iload 4, 2) := by decide +kernel
theorem dX12_mostOf_87 : decode cX12_mostOf 87 = .ok (.iaload, 1) := by decide +kernel
theorem dX12_mostOf_88 : decode cX12_mostOf 88 = .ok (.istore_n 3, 1) := by decide +kernel
theorem dX12_mostOf_89 : decode cX12_mostOf 89 = .ok (.iinc 4 1, 3) := by decide +kernel
theorem dX12_mostOf_92 : decode cX12_mostOf 92 = .ok (.goto (-87), 3) := by decide +kernel
theorem dX12_mostOf_95 : decode cX12_mostOf 95 = .ok (.iconst 1, 1) := by decide +kernel
theorem dX12_mostOf_96 : decode cX12_mostOf 96 = .ok (.istore 4, 2) := by decide +kernel
theorem dX12_mostOf_98 : decode cX12_mostOf 98 = .ok (.iload 4, 2) := by decide +kernel
theorem dX12_mostOf_100 : decode cX12_mostOf 100 = .ok (.iload_n 1, 1) := by decide +kernel
theorem dX12_mostOf_101 : decode cX12_mostOf 101 = .ok (.iconst 2, 1) := by decide +kernel
theorem dX12_mostOf_102 : decode cX12_mostOf 102 = .ok (.idiv, 1) := by decide +kernel
theorem dX12_mostOf_103 : decode cX12_mostOf 103 = .ok (.if_icmp .gt 47, 3) := by decide +kernel
theorem dX12_mostOf_106 : decode cX12_mostOf 106 = .ok (.aload_n 0, 1) := by decide +kernel
theorem dX12_mostOf_107 : decode cX12_mostOf 107 = .ok (.getfield 149, 3) := by decide +kernel
theorem dX12_mostOf_110 : decode cX12_mostOf 110 = .ok (.bipush 41, 2) := by decide +kernel
theorem dX12_mostOf_112 : decode cX12_mostOf 112 = .ok (.iload 4, 2) := by decide +kernel
theorem dX12_mostOf_114 : decode cX12_mostOf 114 = .ok (.imul, 1) := by decide +kernel
theorem dX12_mostOf_115 : decode cX12_mostOf 115 = .ok (.iload_n 2, 1) := by decide +kernel
theorem dX12_mostOf_116 : decode cX12_mostOf 116 = .ok (.iadd, 1) := by decide +kernel
theorem dX12_mostOf_117 : decode cX12_mostOf 117 = .ok (.iaload, 1) := by decide +kernel
theorem dX12_mostOf_118 : decode cX12_mostOf 118 = .ok (.aload_n 0, 1) := by decide +kernel
theorem dX12_mostOf_119 : decode cX12_mostOf 119 = .ok (.getfield 149, 3) := by decide +kernel
theorem dX12_mostOf_122 : decode cX12_mostOf 122 = .ok (.bipush 41, 2) := by decide +kernel
theorem dX12_mostOf_124 : decode cX12_mostOf 124 = .ok (.iload_n 1, 1) := by decide +kernel
theorem dX12_mostOf_125 : decode cX12_mostOf 125 = .ok (.iload 4, 2) := by decide +kernel
theorem dX12_mostOf_127 : decode cX12_mostOf 127 = .ok (.isub, 1) := by decide +kernel
theorem dX12_mostOf_128 : decode cX12_mostOf 128 = .ok (.imul, 1) := by decide +kernel
theorem dX12_mostOf_129 : decode cX12_mostOf 129 = .ok (.iload_n 2, 1) := by decide +kernel
theorem dX12_mostOf_130 : decode cX12_mostOf 130 = .ok (.iadd, 1) := by decide +kernel
theorem dX12_mostOf_131 : decode cX12_mostOf 131 = .ok (.iaload, 1) := by decide +kernel
theorem dX12_mostOf_132 : decode cX12_mostOf 132 = .ok (.iadd, 1) := by decide +kernel
theorem dX12_mostOf_133 : decode cX12_mostOf 133 = .ok (.istore 5, 2) := by decide +kernel
theorem dX12_mostOf_135 : decode cX12_mostOf 135 = .ok (.iload 5, 2) := by decide +kernel
theorem dX12_mostOf_137 : decode cX12_mostOf 137 = .ok (.iload_n 3, 1) := by decide +kernel
theorem dX12_mostOf_138 : decode cX12_mostOf 138 = .ok (.if_icmp .le 6, 3) := by decide +kernel
theorem dX12_mostOf_141 : decode cX12_mostOf 141 = .ok (.iload 5, 2) := by decide +kernel
theorem dX12_mostOf_143 : decode cX12_mostOf 143 = .ok (.istore_n 3, 1) := by decide +kernel
theorem dX12_mostOf_144 : decode cX12_mostOf 144 = .ok (.iinc 4 1, 3) := by decide +kernel
theorem dX12_mostOf_147 : decode cX12_mostOf 147 = .ok (.goto (-49), 3) := by decide +kernel
theorem dX12_mostOf_150 : decode cX12_mostOf 150 = .ok (.iconst 1, 1) := by decide +kernel
theorem dX12_mostOf_151 : decode cX12_mostOf 151 = .ok (.istore 4, 2) := by decide +kernel
theorem dX12_mostOf_153 : decode cX12_mostOf 153 = .ok (.iload 4, 2) := by decide +kernel
theorem dX12_mostOf_155 : decode cX12_mostOf 155 = .ok (.iload_n 2, 1) := by decide +kernel
theorem dX12_mostOf_156 : decode cX12_mostOf 156 = .ok (.iconst 2, 1) := by decide +kernel
theorem dX12_mostOf_157 : decode cX12_mostOf 157 = .ok (.idiv, 1) := by decide +kernel
theorem dX12_mostOf_158 : decode cX12_mostOf 158 = .ok (.if_icmp .gt 47, 3) := by decide +kernel
theorem dX12_mostOf_161 : decode cX12_mostOf 161 = .ok (.aload_n 0, 1) := by decide +kernel
theorem dX12_mostOf_162 : decode cX12_mostOf 162 = .ok (.getfield 149, 3) := by decide +kernel
theorem dX12_mostOf_165 : decode cX12_mostOf 165 = .ok (.bipush 41, 2) := by decide +kernel
theorem dX12_mostOf_167 : decode cX12_mostOf 167 = .ok (.iload_n 1, 1) := by decide +kernel
theorem dX12_mostOf_168 : decode cX12_mostOf 168 = .ok (.imul, 1) := by decide +kernel
theorem dX12_mostOf_169 : decode cX12_mostOf 169 = .ok (.iload 4, 2) := by decide +kernel
theorem dX12_mostOf_171 : decode cX12_mostOf 171 = .ok (.iadd, 1) := by decide +kernel
theorem dX12_mostOf_172 : decode cX12_mostOf 172 = .ok (.iaload, 1) := by decide +kernel
theorem dX12_mostOf_173 : decode cX12_mostOf 173 = .ok (.aload_n 0, 1) := by decide +kernel
theorem dX12_mostOf_174 : decode cX12_mostOf 174 = .ok (.getfield 149, 3) := by decide +kernel
theorem dX12_mostOf_177 : decode cX12_mostOf 177 = .ok (.bipush 41, 2) := by decide +kernel
theorem dX12_mostOf_179 : decode cX12_mostOf 179 = .ok (.iload_n 1, 1) := by decide +kernel
theorem dX12_mostOf_180 : decode cX12_mostOf 180 = .ok (.imul, 1) := by decide +kernel
theorem dX12_mostOf_181 : decode cX12_mostOf 181 = .ok (.iload_n 2, 1) := by decide +kernel
theorem dX12_mostOf_182 : decode cX12_mostOf 182 = .ok (.iadd, 1) := by decide +kernel
theorem dX12_mostOf_183 : decode cX12_mostOf 183 = .ok (.iload 4, 2) := by decide +kernel
theorem dX12_mostOf_185 : decode cX12_mostOf 185 = .ok (.isub, 1) := by decide +kernel
theorem dX12_mostOf_186 : decode cX12_mostOf 186 = .ok (.iaload, 1) := by decide +kernel
theorem dX12_mostOf_187 : decode cX12_mostOf 187 = .ok (.iadd, 1) := by decide +kernel
theorem dX12_mostOf_188 : decode cX12_mostOf 188 = .ok (.istore 5, 2) := by decide +kernel
theorem dX12_mostOf_190 : decode cX12_mostOf 190 = .ok (.iload 5, 2) := by decide +kernel
theorem dX12_mostOf_192 : decode cX12_mostOf 192 = .ok (.iload_n 3, 1) := by decide +kernel
theorem dX12_mostOf_193 : decode cX12_mostOf 193 = .ok (.if_icmp .le 6, 3) := by decide +kernel
theorem dX12_mostOf_196 : decode cX12_mostOf 196 = .ok (.iload 5, 2) := by decide +kernel
theorem dX12_mostOf_198 : decode cX12_mostOf 198 = .ok (.istore_n 3, 1) := by decide +kernel
theorem dX12_mostOf_199 : decode cX12_mostOf 199 = .ok (.iinc 4 1, 3) := by decide +kernel
theorem dX12_mostOf_202 : decode cX12_mostOf 202 = .ok (.goto (-49), 3) := by decide +kernel
theorem dX12_mostOf_205 : decode cX12_mostOf 205 = .ok (.iload_n 3, 1) := by decide +kernel
theorem dX12_mostOf_206 : decode cX12_mostOf 206 = .ok (.ireturn, 1) := by decide +kernel
theorem dX12_fill_0 : decode cX12_fill 0 = .ok (.aload_n 0, 1) := by decide +kernel
theorem dX12_fill_1 : decode cX12_fill 1 = .ok (.iconst 0, 1) := by decide +kernel
theorem dX12_fill_2 : decode cX12_fill 2 = .ok (.putfield 167, 3) := by decide +kernel
theorem dX12_fill_5 : decode cX12_fill 5 = .ok (.aload_n 0, 1) := by decide +kernel
theorem dX12_fill_6 : decode cX12_fill 6 = .ok (.iload_n 1, 1) := by decide +kernel
theorem dX12_fill_7 : decode cX12_fill 7 = .ok (.iconst 0, 1) := by decide +kernel
theorem dX12_fill_8 : decode cX12_fill 8 = .ok (.bipush 40, 2) := by decide +kernel
theorem dX12_fill_10 : decode cX12_fill 10 = .ok (.invokevirtual 170, 3) := by decide +kernel
theorem dX12_fill_13 : decode cX12_fill 13 = .ok (.ifCond .eq 14, 3) := by decide +kernel
theorem dX12_fill_16 : decode cX12_fill 16 = .ok (.aload_n 0, 1) := by decide +kernel
theorem dX12_fill_17 : decode cX12_fill 17 = .ok (.iload_n 2, 1) := by decide +kernel
theorem dX12_fill_18 : decode cX12_fill 18 = .ok (.iconst 0, 1) := by decide +kernel
theorem dX12_fill_19 : decode cX12_fill 19 = .ok (.bipush 40, 2) := by decide +kernel
theorem dX12_fill_21 : decode cX12_fill 21 = .ok (.invokevirtual 170, 3) := by decide +kernel
theorem dX12_fill_24 : decode cX12_fill 24 = .ok (.ifCond .ne 5, 3) := by decide +kernel
theorem dX12_fill_27 : decode cX12_fill 27 = .ok (.iconst (-1), 1) := by decide +kernel
theorem dX12_fill_28 : decode cX12_fill 28 = .ok (.ireturn, 1) := by decide +kernel
theorem dX12_fill_29 : decode cX12_fill 29 = .ok (.iload_n 1, 1) := by decide +kernel
theorem dX12_fill_30 : decode cX12_fill 30 = .ok (.ifCond .eq 7, 3) := by decide +kernel
theorem dX12_fill_33 : decode cX12_fill 33 = .ok (.iload_n 2, 1) := by decide +kernel
theorem dX12_fill_34 : decode cX12_fill 34 = .ok (.ifCond .ne 5, 3) := by decide +kernel
theorem dX12_fill_37 : decode cX12_fill 37 = .ok (.iconst 0, 1) := by decide +kernel
theorem dX12_fill_38 : decode cX12_fill 38 = .ok (.ireturn, 1) := by decide +kernel
theorem dX12_fill_39 : decode cX12_fill 39 = .ok (.iconst 1, 1) := by decide +kernel
theorem dX12_fill_40 : decode cX12_fill 40 = .ok (.istore_n 3, 1) := by decide +kernel
theorem dX12_fill_41 : decode cX12_fill 41 = .ok (.iload_n 3, 1) := by decide +kernel
theorem dX12_fill_42 : decode cX12_fill 42 = .ok (.iload_n 1, 1) := by decide +kernel
theorem dX12_fill_43 : decode cX12_fill 43 = .ok (.if_icmp .gt 43, 3) := by decide +kernel
theorem dX12_fill_46 : decode cX12_fill 46 = .ok (.iconst 1, 1) := by decide +kernel
theorem dX12_fill_47 : decode cX12_fill 47 = .ok (.istore 4, 2) := by decide +kernel
theorem dX12_fill_49 : decode cX12_fill 49 = .ok (.iload 4, 2) := by decide +kernel
theorem dX12_fill_51 : decode cX12_fill 51 = .ok (.iload_n 2, 1) := by decide +kernel
theorem dX12_fill_52 : decode cX12_fill 52 = .ok (.if_icmp .gt 28, 3) := by decide +kernel
theorem dX12_fill_55 : decode cX12_fill 55 = .ok (.aload_n 0, 1) := by decide +kernel
theorem dX12_fill_56 : decode cX12_fill 56 = .ok (.getfield 149, 3) := by decide +kernel
theorem dX12_fill_59 : decode cX12_fill 59 = .ok (.bipush 41, 2) := by decide +kernel
theorem dX12_fill_61 : decode cX12_fill 61 = .ok (.iload_n 3, 1) := by decide +kernel
theorem dX12_fill_62 : decode cX12_fill 62 = .ok (.imul, 1) := by decide +kernel
theorem dX12_fill_63 : decode cX12_fill 63 = .ok (.iload 4, 2) := by decide +kernel
theorem dX12_fill_65 : decode cX12_fill 65 = .ok (.iadd, 1) := by decide +kernel
theorem dX12_fill_66 : decode cX12_fill 66 = .ok (.aload_n 0, 1) := by decide +kernel
theorem dX12_fill_67 : decode cX12_fill 67 = .ok (.iload_n 3, 1) := by decide +kernel
theorem dX12_fill_68 : decode cX12_fill 68 = .ok (.iload 4, 2) := by decide +kernel
theorem dX12_fill_70 : decode cX12_fill 70 = .ok (.invokevirtual 398, 3) := by decide +kernel
theorem dX12_fill_73 : decode cX12_fill 73 = .ok (.iastore, 1) := by decide +kernel
theorem dX12_fill_74 : decode cX12_fill 74 = .ok (.iinc 4 1, 3) := by decide +kernel
theorem dX12_fill_77 : decode cX12_fill 77 = .ok (.goto (-28), 3) := by decide +kernel
theorem dX12_fill_80 : decode cX12_fill 80 = .ok (.iinc 3 1, 3) := by decide +kernel
theorem dX12_fill_83 : decode cX12_fill 83 = .ok (.goto (-42), 3) := by decide +kernel
theorem dX12_fill_86 : decode cX12_fill 86 = .ok (.aload_n 0, 1) := by decide +kernel
theorem dX12_fill_87 : decode cX12_fill 87 = .ok (.getfield 149, 3) := by decide +kernel
theorem dX12_fill_90 : decode cX12_fill 90 = .ok (.bipush 41, 2) := by decide +kernel
theorem dX12_fill_92 : decode cX12_fill 92 = .ok (.iload_n 1, 1) := by decide +kernel
theorem dX12_fill_93 : decode cX12_fill 93 = .ok (.imul, 1) := by decide +kernel
theorem dX12_fill_94 : decode cX12_fill 94 = .ok (.iload_n 2, 1) := by decide +kernel
theorem dX12_fill_95 : decode cX12_fill 95 = .ok (.iadd, 1) := by decide +kernel
theorem dX12_fill_96 : decode cX12_fill 96 = .ok (.iaload, 1) := by decide +kernel
theorem dX12_fill_97 : decode cX12_fill 97 = .ok (.ireturn, 1) := by decide +kernel
theorem dX12_test_0 : decode cX12_test 0 = .ok (.aload_n 0, 1) := by decide +kernel
theorem dX12_test_1 : decode cX12_test 1 = .ok (.iconst 0, 1) := by decide +kernel
theorem dX12_test_2 : decode cX12_test 2 = .ok (.putfield 167, 3) := by decide +kernel
theorem dX12_test_5 : decode cX12_test 5 = .ok (.aload_n 0, 1) := by decide +kernel
theorem dX12_test_6 : decode cX12_test 6 = .ok (.iload_n 1, 1) := by decide +kernel
theorem dX12_test_7 : decode cX12_test 7 = .ok (.iconst 0, 1) := by decide +kernel
theorem dX12_test_8 : decode cX12_test 8 = .ok (.iconst 3, 1) := by decide +kernel
theorem dX12_test_9 : decode cX12_test 9 = .ok (.invokevirtual 170, 3) := by decide +kernel
theorem dX12_test_12 : decode cX12_test 12 = .ok (.ifCond .eq 59, 3) := by decide +kernel
theorem dX12_test_15 : decode cX12_test 15 = .ok (.aload_n 0, 1) := by decide +kernel
theorem dX12_test_16 : decode cX12_test 16 = .ok (.iload_n 2, 1) := by decide +kernel
theorem dX12_test_17 : decode cX12_test 17 = .ok (.iconst 1, 1) := by decide +kernel
theorem dX12_test_18 : decode cX12_test 18 = .ok (.sipush 9999, 3) := by decide +kernel
theorem dX12_test_21 : decode cX12_test 21 = .ok (.invokevirtual 170, 3) := by decide +kernel
theorem dX12_test_24 : decode cX12_test 24 = .ok (.ifCond .eq 47, 3) := by decide +kernel
theorem dX12_test_27 : decode cX12_test 27 = .ok (.aload_n 0, 1) := by decide +kernel
theorem dX12_test_28 : decode cX12_test 28 = .ok (.iload 4, 2) := by decide +kernel
theorem dX12_test_30 : decode cX12_test 30 = .ok (.aload_n 0, 1) := by decide +kernel
theorem dX12_test_31 : decode cX12_test 31 = .ok (.getfield 401, 3) := by decide +kernel
theorem dX12_test_34 : decode cX12_test 34 = .ok (.ifCond .ne 7, 3) := by decide +kernel
theorem dX12_test_37 : decode cX12_test 37 = .ok (.iconst 0, 1) := by decide +kernel
theorem dX12_test_38 : decode cX12_test 38 = .ok (.goto 14, 3) := by decide +kernel
theorem dX12_test_41 : decode cX12_test 41 = .ok (.aload_n 0, 1) := by decide +kernel
theorem dX12_test_42 : decode cX12_test 42 = .ok (.getfield 161, 3) := by decide +kernel
theorem dX12_test_45 : decode cX12_test 45 = .ok (.aload_n 0, 1) := by decide +kernel
theorem dX12_test_46 : decode cX12_test 46 = .ok (.getfield 401, 3) := by decide +kernel
theorem dX12_test_49 : decode cX12_test 49 = .ok (.iconst 1, 1) := by decide +kernel
theorem dX12_test_50 : decode cX12_test 50 = .ok (.isub, 1) := by decide +kernel
theorem dX12_test_51 : decode cX12_test 51 = .ok (.iaload, 1) := by decide +kernel
theorem dX12_test_52 : decode cX12_test 52 = .ok (.sipush 999, 3) := by decide +kernel
theorem dX12_test_55 : decode cX12_test 55 = .ok (.invokevirtual 170, 3) := by decide +kernel
theorem dX12_test_58 : decode cX12_test 58 = .ok (.ifCond .eq 13, 3) := by decide +kernel
theorem dX12_test_61 : decode cX12_test 61 = .ok (.aload_n 0, 1) := by decide +kernel
theorem dX12_test_62 : decode cX12_test 62 = .ok (.getfield 401, 3) := by decide +kernel
theorem dX12_test_65 : decode cX12_test 65 = .ok (.sipush 200, 3) := by decide +kernel
theorem dX12_test_68 : decode cX12_test 68 = .ok (.if_icmp .ne 5, 3) := by decide +kernel
theorem dX12_test_71 : decode cX12_test 71 = .ok (.iconst 0, 1) := by decide +kernel
theorem dX12_test_72 : decode cX12_test 72 = .ok (.ireturn, 1) := by decide +kernel
theorem dX12_test_73 : decode cX12_test 73 = .ok (.aload_n 0, 1) := by decide +kernel
theorem dX12_test_74 : decode cX12_test 74 = .ok (.getfield 152, 3) := by decide +kernel
theorem dX12_test_77 : decode cX12_test 77 = .ok (.aload_n 0, 1) := by decide +kernel
theorem dX12_test_78 : decode cX12_test 78 = .ok (.getfield 401, 3) := by decide +kernel
theorem dX12_test_81 : decode cX12_test 81 = .ok (.iload_n 1, 1) := by decide +kernel
theorem dX12_test_82 : decode cX12_test 82 = .ok (.iastore, 1) := by decide +kernel
theorem dX12_test_83 : decode cX12_test 83 = .ok (.aload_n 0, 1) := by decide +kernel
theorem dX12_test_84 : decode cX12_test 84 = .ok (.getfield 155, 3) := by decide +kernel
theorem dX12_test_87 : decode cX12_test 87 = .ok (.aload_n 0, 1) := by decide +kernel
theorem dX12_test_88 : decode cX12_test 88 = .ok (.getfield 401, 3) := by decide +kernel
theorem dX12_test_91 : decode cX12_test 91 = .ok (.iload_n 2, 1) := by decide +kernel
theorem dX12_test_92 : decode cX12_test 92 = .ok (.iastore, 1) := by decide +kernel
theorem dX12_test_93 : decode cX12_test 93 = .ok (.aload_n 0, 1) := by decide +kernel
theorem dX12_test_94 : decode cX12_test 94 = .ok (.getfield 158, 3) := by decide +kernel
theorem dX12_test_97 : decode cX12_test 97 = .ok (.aload_n 0, 1) := by decide +kernel
theorem dX12_test_98 : decode cX12_test 98 = .ok (.getfield 401, 3) := by decide +kernel
theorem dX12_test_101 : decode cX12_test 101 = .ok (.iload_n 3, 1) := by decide +kernel
theorem dX12_test_102 : decode cX12_test 102 = .ok (.bastore, 1) := by decide +kernel
theorem dX12_test_103 : decode cX12_test 103 = .ok (.aload_n 0, 1) := by decide +kernel
theorem dX12_test_104 : decode cX12_test 104 = .ok (.getfield 161, 3) := by decide +kernel
theorem dX12_test_107 : decode cX12_test 107 = .ok (.aload_n 0, 1) := by decide +kernel
theorem dX12_test_108 : decode cX12_test 108 = .ok (.getfield 401, 3) := by decide +kernel
theorem dX12_test_111 : decode cX12_test 111 = .ok (.iload 4, 2) := by decide +kernel
theorem dX12_test_113 : decode cX12_test 113 = .ok (.iastore, 1) := by decide +kernel
theorem dX12_test_114 : decode cX12_test 114 = .ok (.aload_n 0, 1) := by decide +kernel
theorem dX12_test_115 : decode cX12_test 115 = .ok (.aload_n 0, 1) := by decide +kernel
theorem dX12_test_116 : decode cX12_test 116 = .ok (.getfield 401, 3) := by decide +kernel
theorem dX12_test_119 : decode cX12_test 119 = .ok (.iconst 1, 1) := by decide +kernel
theorem dX12_test_120 : decode cX12_test 120 = .ok (.iadd, 1) := by decide +kernel
theorem dX12_test_121 : decode cX12_test 121 = .ok (.putfield 401, 3) := by decide +kernel
theorem dX12_test_124 : decode cX12_test 124 = .ok (.iconst 1, 1) := by decide +kernel
theorem dX12_test_125 : decode cX12_test 125 = .ok (.ireturn, 1) := by decide +kernel
theorem dX12_known_0 : decode cX12_known 0 = .ok (.aload_n 0, 1) := by decide +kernel
theorem dX12_known_1 : decode cX12_known 1 = .ok (.iconst 0, 1) := by decide +kernel
theorem dX12_known_2 : decode cX12_known 2 = .ok (.putfield 167, 3) := by decide +kernel
theorem dX12_known_5 : decode cX12_known 5 = .ok (.aload_n 0, 1) := by decide +kernel
theorem dX12_known_6 : decode cX12_known 6 = .ok (.iload_n 1, 1) := by decide +kernel
theorem dX12_known_7 : decode cX12_known 7 = .ok (.iconst 0, 1) := by decide +kernel
theorem dX12_known_8 : decode cX12_known 8 = .ok (.iconst 3, 1) := by decide +kernel
theorem dX12_known_9 : decode cX12_known 9 = .ok (.invokevirtual 170, 3) := by decide +kernel
theorem dX12_known_12 : decode cX12_known 12 = .ok (.ifCond .eq 25, 3) := by decide +kernel
theorem dX12_known_15 : decode cX12_known 15 = .ok (.aload_n 0, 1) := by decide +kernel
theorem dX12_known_16 : decode cX12_known 16 = .ok (.iload_n 2, 1) := by decide +kernel
theorem dX12_known_17 : decode cX12_known 17 = .ok (.iconst 0, 1) := by decide +kernel
theorem dX12_known_18 : decode cX12_known 18 = .ok (.sipush 999, 3) := by decide +kernel
theorem dX12_known_21 : decode cX12_known 21 = .ok (.invokevirtual 170, 3) := by decide +kernel
theorem dX12_known_24 : decode cX12_known 24 = .ok (.ifCond .eq 13, 3) := by decide +kernel
theorem dX12_known_27 : decode cX12_known 27 = .ok (.aload_n 0, 1) := by decide +kernel
theorem dX12_known_28 : decode cX12_known 28 = .ok (.iload_n 3, 1) := by decide +kernel
theorem dX12_known_29 : decode cX12_known 29 = .ok (.iconst 0, 1) := by decide +kernel
theorem dX12_known_30 : decode cX12_known 30 = .ok (.iconst 3, 1) := by decide +kernel
theorem dX12_known_31 : decode cX12_known 31 = .ok (.invokevirtual 170, 3) := by decide +kernel
theorem dX12_known_34 : decode cX12_known 34 = .ok (.ifCond .ne 5, 3) := by decide +kernel
theorem dX12_known_37 : decode cX12_known 37 = .ok (.iconst (-1), 1) := by decide +kernel
theorem dX12_known_38 : decode cX12_known 38 = .ok (.ireturn, 1) := by decide +kernel
theorem dX12_known_39 : decode cX12_known 39 = .ok (.iconst 1, 1) := by decide +kernel
theorem dX12_known_40 : decode cX12_known 40 = .ok (.istore 4, 2) := by decide +kernel
theorem dX12_known_42 : decode cX12_known 42 = .ok (.sipush 999, 3) := by decide +kernel
theorem dX12_known_45 : decode cX12_known 45 = .ok (.istore 5, 2) := by decide +kernel
theorem dX12_known_47 : decode cX12_known 47 = .ok (.iconst 0, 1) := by decide +kernel
theorem dX12_known_48 : decode cX12_known 48 = .ok (.istore 6, 2) := by decide +kernel
theorem dX12_known_50 : decode cX12_known 50 = .ok (.iload 6, 2) := by decide +kernel
theorem dX12_known_52 : decode cX12_known 52 = .ok (.aload_n 0, 1) := by decide +kernel
theorem dX12_known_53 : decode cX12_known 53 = .ok (.getfield 401, 3) := by decide +kernel
theorem dX12_known_56 : decode cX12_known 56 = .ok (.if_icmp .ge 98, 3) := by decide +kernel
theorem dX12_known_59 : decode cX12_known 59 = .ok (.aload_n 0, 1) := by decide +kernel
theorem dX12_known_60 : decode cX12_known 60 = .ok (.getfield 152, 3) := by decide +kernel
theorem dX12_known_63 : decode cX12_known 63 = .ok (.iload 6, 2) := by decide +kernel
theorem dX12_known_65 : decode cX12_known 65 = .ok (.iaload, 1) := by decide +kernel
theorem dX12_known_66 : decode cX12_known 66 = .ok (.iload_n 1, 1) := by decide +kernel
theorem dX12_known_67 : decode cX12_known 67 = .ok (.if_icmp .ne 81, 3) := by decide +kernel
theorem dX12_known_70 : decode cX12_known 70 = .ok (.aload_n 0, 1) := by decide +kernel
theorem dX12_known_71 : decode cX12_known 71 = .ok (.getfield 161, 3) := by decide +kernel
theorem dX12_known_74 : decode cX12_known 74 = .ok (.iload 6, 2) := by decide +kernel
theorem dX12_known_76 : decode cX12_known 76 = .ok (.iaload, 1) := by decide +kernel
theorem dX12_known_77 : decode cX12_known 77 = .ok (.iload_n 2, 1) := by decide +kernel
theorem dX12_known_78 : decode cX12_known 78 = .ok (.if_icmp .le 6, 3) := by decide +kernel
theorem dX12_known_81 : decode cX12_known 81 = .ok (.goto 67, 3) := by decide +kernel
theorem dX12_known_84 : decode cX12_known 84 = .ok (.aload_n 0, 1) := by decide +kernel
theorem dX12_known_85 : decode cX12_known 85 = .ok (.getfield 158, 3) := by decide +kernel
theorem dX12_known_88 : decode cX12_known 88 = .ok (.iload 6, 2) := by decide +kernel
theorem dX12_known_90 : decode cX12_known 90 = .ok (.baload, 1) := by decide +kernel
theorem dX12_known_91 : decode cX12_known 91 = .ok (.ifCond .eq 24, 3) := by decide +kernel
theorem dX12_known_94 : decode cX12_known 94 = .ok (.aload_n 0, 1) := by decide +kernel
theorem dX12_known_95 : decode cX12_known 95 = .ok (.getfield 155, 3) := by decide +kernel
theorem dX12_known_98 : decode cX12_known 98 = .ok (.iload 6, 2) := by decide +kernel
theorem dX12_known_100 : decode cX12_known 100 = .ok (.iaload, 1) := by decide +kernel
theorem dX12_known_101 : decode cX12_known 101 = .ok (.iload 5, 2) := by decide +kernel
theorem dX12_known_103 : decode cX12_known 103 = .ok (.if_icmp .ge 12, 3) := by decide +kernel
theorem dX12_known_106 : decode cX12_known 106 = .ok (.aload_n 0, 1) := by decide +kernel
theorem dX12_known_107 : decode cX12_known 107 = .ok (.getfield 155, 3) := by decide +kernel
theorem dX12_known_110 : decode cX12_known 110 = .ok (.iload 6, 2) := by decide +kernel
theorem dX12_known_112 : decode cX12_known 112 = .ok (.iaload, 1) := by decide +kernel
theorem dX12_known_113 : decode cX12_known 113 = .ok (.istore 5, 2) := by decide +kernel
theorem dX12_known_115 : decode cX12_known 115 = .ok (.aload_n 0, 1) := by decide +kernel
theorem dX12_known_116 : decode cX12_known 116 = .ok (.getfield 158, 3) := by decide +kernel
theorem dX12_known_119 : decode cX12_known 119 = .ok (.iload 6, 2) := by decide +kernel
theorem dX12_known_121 : decode cX12_known 121 = .ok (.baload, 1) := by decide +kernel
theorem dX12_known_122 : decode cX12_known 122 = .ok (.ifCond .ne 26, 3) := by decide +kernel
theorem dX12_known_125 : decode cX12_known 125 = .ok (.aload_n 0, 1) := by decide +kernel
theorem dX12_known_126 : decode cX12_known 126 = .ok (.getfield 155, 3) := by decide +kernel
theorem dX12_known_129 : decode cX12_known 129 = .ok (.iload 6, 2) := by decide +kernel
theorem dX12_known_131 : decode cX12_known 131 = .ok (.iaload, 1) := by decide +kernel
theorem dX12_known_132 : decode cX12_known 132 = .ok (.iload 4, 2) := by decide +kernel
theorem dX12_known_134 : decode cX12_known 134 = .ok (.if_icmp .lt 14, 3) := by decide +kernel
theorem dX12_known_137 : decode cX12_known 137 = .ok (.aload_n 0, 1) := by decide +kernel
theorem dX12_known_138 : decode cX12_known 138 = .ok (.getfield 155, 3) := by decide +kernel
theorem dX12_known_141 : decode cX12_known 141 = .ok (.iload 6, 2) := by decide +kernel
theorem dX12_known_143 : decode cX12_known 143 = .ok (.iaload, 1) := by decide +kernel
theorem dX12_known_144 : decode cX12_known 144 = .ok (.iconst 1, 1) := by decide +kernel
theorem dX12_known_145 : decode cX12_known 145 = .ok (.iadd, 1) := by decide +kernel
theorem dX12_known_146 : decode cX12_known 146 = .ok (.istore 4, 2) := by decide +kernel
theorem dX12_known_148 : decode cX12_known 148 = .ok (.iinc 6 1, 3) := by decide +kernel
theorem dX12_known_151 : decode cX12_known 151 = .ok (.goto (-101), 3) := by decide +kernel
theorem dX12_known_154 : decode cX12_known 154 = .ok (.iload_n 3, 1) := by decide +kernel
theorem dX12_known_155 : decode cX12_known 155 = .ok (.ifCond .ne 6, 3) := by decide +kernel
theorem dX12_known_158 : decode cX12_known 158 = .ok (.iload 4, 2) := by decide +kernel
theorem dX12_known_160 : decode cX12_known 160 = .ok (.ireturn, 1) := by decide +kernel
theorem dX12_known_161 : decode cX12_known 161 = .ok (.iload_n 3, 1) := by decide +kernel
theorem dX12_known_162 : decode cX12_known 162 = .ok (.iconst 1, 1) := by decide +kernel
theorem dX12_known_163 : decode cX12_known 163 = .ok (.if_icmp .ne 6, 3) := by decide +kernel
theorem dX12_known_166 : decode cX12_known 166 = .ok (.iload 5, 2) := by decide +kernel
theorem dX12_known_168 : decode cX12_known 168 = .ok (.ireturn, 1) := by decide +kernel
theorem dX12_known_169 : decode cX12_known 169 = .ok (.iload_n 3, 1) := by decide +kernel
theorem dX12_known_170 : decode cX12_known 170 = .ok (.iconst 2, 1) := by decide +kernel
theorem dX12_known_171 : decode cX12_known 171 = .ok (.if_icmp .ne 16, 3) := by decide +kernel
theorem dX12_known_174 : decode cX12_known 174 = .ok (.iload 4, 2) := by decide +kernel
theorem dX12_known_176 : decode cX12_known 176 = .ok (.iload 5, 2) := by decide +kernel
theorem dX12_known_178 : decode cX12_known 178 = .ok (.if_icmp .le 7, 3) := by decide +kernel
theorem dX12_known_181 : decode cX12_known 181 = .ok (.iconst 1, 1) := by decide +kernel
theorem dX12_known_182 : decode cX12_known 182 = .ok (.goto 4, 3) := by decide +kernel
theorem dX12_known_185 : decode cX12_known 185 = .ok (.iconst 0, 1) := by decide +kernel
theorem dX12_known_186 : decode cX12_known 186 = .ok (.ireturn, 1) := by decide +kernel
theorem dX12_known_187 : decode cX12_known 187 = .ok (.iload 4, 2) := by decide +kernel
theorem dX12_known_189 : decode cX12_known 189 = .ok (.iload 5, 2) := by decide +kernel
theorem dX12_known_191 : decode cX12_known 191 = .ok (.if_icmp .ge 13, 3) := by decide +kernel
theorem dX12_known_194 : decode cX12_known 194 = .ok (.iload 4, 2) := by decide +kernel
theorem dX12_known_196 : decode cX12_known 196 = .ok (.iload 5, 2) := by decide +kernel
theorem dX12_known_198 : decode cX12_known 198 = .ok (.iadd, 1) := by decide +kernel
theorem dX12_known_199 : decode cX12_known 199 = .ok (.iconst 2, 1) := by decide +kernel
theorem dX12_known_200 : decode cX12_known 200 = .ok (.idiv, 1) := by decide +kernel
theorem dX12_known_201 : decode cX12_known 201 = .ok (.goto 4, 3) := by decide +kernel
theorem dX12_known_204 : decode cX12_known 204 = .ok (.iconst (-1), 1) := by decide +kernel
theorem dX12_known_205 : decode cX12_known 205 = .ok (.ireturn, 1) := by decide +kernel
theorem dX12_sparks_0 : decode cX12_sparks 0 = .ok (.aload_n 0, 1) := by decide +kernel
theorem dX12_sparks_1 : decode cX12_sparks 1 = .ok (.iconst 0, 1) := by decide +kernel
theorem dX12_sparks_2 : decode cX12_sparks 2 = .ok (.putfield 167, 3) := by decide +kernel
theorem dX12_sparks_5 : decode cX12_sparks 5 = .ok (.iconst 0, 1) := by decide +kernel
theorem dX12_sparks_6 : decode cX12_sparks 6 = .ok (.istore_n 1, 1) := by decide +kernel
theorem dX12_sparks_7 : decode cX12_sparks 7 = .ok (.iload_n 1, 1) := by decide +kernel
theorem dX12_sparks_8 : decode cX12_sparks 8 = .ok (.aload_n 0, 1) := by decide +kernel
theorem dX12_sparks_9 : decode cX12_sparks 9 = .ok (.getfield 239, 3) := by decide +kernel
theorem dX12_sparks_12 : decode cX12_sparks 12 = .ok (.if_icmp .ge 21, 3) := by decide +kernel
theorem dX12_sparks_15 : decode cX12_sparks 15 = .ok (.aload_n 0, 1) := by decide +kernel
theorem dX12_sparks_16 : decode cX12_sparks 16 = .ok (.getfield 164, 3) := by decide +kernel
theorem dX12_sparks_19 : decode cX12_sparks 19 = .ok (.iload_n 1, 1) := by decide +kernel
theorem dX12_sparks_20 : decode cX12_sparks 20 = .ok (.aload_n 0, 1) := by decide +kernel
theorem dX12_sparks_21 : decode cX12_sparks 21 = .ok (.getfield 95, 3) := by decide +kernel
theorem dX12_sparks_24 : decode cX12_sparks 24 = .ok (.iload_n 1, 1) := by decide +kernel
theorem dX12_sparks_25 : decode cX12_sparks 25 = .ok (.iaload, 1) := by decide +kernel
theorem dX12_sparks_26 : decode cX12_sparks 26 = .ok (.iastore, 1) := by decide +kernel
theorem dX12_sparks_27 : decode cX12_sparks 27 = .ok (.iinc 1 1, 3) := by decide +kernel
theorem dX12_sparks_30 : decode cX12_sparks 30 = .ok (.goto (-23), 3) := by decide +kernel
theorem dX12_sparks_33 : decode cX12_sparks 33 = .ok (.aload_n 0, 1) := by decide +kernel
theorem dX12_sparks_34 : decode cX12_sparks 34 = .ok (.aload_n 0, 1) := by decide +kernel
theorem dX12_sparks_35 : decode cX12_sparks 35 = .ok (.getfield 239, 3) := by decide +kernel
theorem dX12_sparks_38 : decode cX12_sparks 38 = .ok (.putfield 404, 3) := by decide +kernel
theorem dX12_sparks_41 : decode cX12_sparks 41 = .ok (.aload_n 0, 1) := by decide +kernel
theorem dX12_sparks_42 : decode cX12_sparks 42 = .ok (.iconst 0, 1) := by decide +kernel
theorem dX12_sparks_43 : decode cX12_sparks 43 = .ok (.putfield 239, 3) := by decide +kernel
theorem dX12_sparks_46 : decode cX12_sparks 46 = .ok (.aload_n 0, 1) := by decide +kernel
theorem dX12_sparks_47 : decode cX12_sparks 47 = .ok (.getfield 404, 3) := by decide +kernel
theorem dX12_sparks_50 : decode cX12_sparks 50 = .ok (.ireturn, 1) := by decide +kernel
theorem dX12_lost_0 : decode cX12_lost 0 = .ok (.aload_n 0, 1) := by decide +kernel
theorem dX12_lost_1 : decode cX12_lost 1 = .ok (.iconst 0, 1) := by decide +kernel
theorem dX12_lost_2 : decode cX12_lost 2 = .ok (.putfield 167, 3) := by decide +kernel
theorem dX12_lost_5 : decode cX12_lost 5 = .ok (.aload_n 0, 1) := by decide +kernel
theorem dX12_lost_6 : decode cX12_lost 6 = .ok (.iload_n 1, 1) := by decide +kernel
theorem dX12_lost_7 : decode cX12_lost 7 = .ok (.iconst 0, 1) := by decide +kernel
theorem dX12_lost_8 : decode cX12_lost 8 = .ok (.sipush 256, 3) := by decide +kernel
theorem dX12_lost_11 : decode cX12_lost 11 = .ok (.invokevirtual 170, 3) := by decide +kernel
theorem dX12_lost_14 : decode cX12_lost 14 = .ok (.ifCond .eq 14, 3) := by decide +kernel
theorem dX12_lost_17 : decode cX12_lost 17 = .ok (.aload_n 0, 1) := by decide +kernel
theorem dX12_lost_18 : decode cX12_lost 18 = .ok (.iload_n 2, 1) := by decide +kernel
theorem dX12_lost_19 : decode cX12_lost 19 = .ok (.iconst 1, 1) := by decide +kernel
theorem dX12_lost_20 : decode cX12_lost 20 = .ok (.bipush 99, 2) := by decide +kernel
theorem dX12_lost_22 : decode cX12_lost 22 = .ok (.invokevirtual 170, 3) := by decide +kernel
theorem dX12_lost_25 : decode cX12_lost 25 = .ok (.ifCond .ne 5, 3) := by decide +kernel
theorem dX12_lost_28 : decode cX12_lost 28 = .ok (.iconst (-1), 1) := by decide +kernel
theorem dX12_lost_29 : decode cX12_lost 29 = .ok (.ireturn, 1) := by decide +kernel
theorem dX12_lost_30 : decode cX12_lost 30 = .ok (.iconst 0, 1) := by decide +kernel
theorem dX12_lost_31 : decode cX12_lost 31 = .ok (.istore_n 3, 1) := by decide +kernel
theorem dX12_lost_32 : decode cX12_lost 32 = .ok (.iconst 0, 1) := by decide +kernel
theorem dX12_lost_33 : decode cX12_lost 33 = .ok (.istore 4, 2) := by decide +kernel
theorem dX12_lost_35 : decode cX12_lost 35 = .ok (.iload 4, 2) := by decide +kernel
theorem dX12_lost_37 : decode cX12_lost 37 = .ok (.aload_n 0, 1) := by decide +kernel
theorem dX12_lost_38 : decode cX12_lost 38 = .ok (.getfield 404, 3) := by decide +kernel
theorem dX12_lost_41 : decode cX12_lost 41 = .ok (.if_icmp .ge 40, 3) := by decide +kernel
theorem dX12_lost_44 : decode cX12_lost 44 = .ok (.aload_n 0, 1) := by decide +kernel
theorem dX12_lost_45 : decode cX12_lost 45 = .ok (.getfield 164, 3) := by decide +kernel
theorem dX12_lost_48 : decode cX12_lost 48 = .ok (.iload 4, 2) := by decide +kernel
theorem dX12_lost_50 : decode cX12_lost 50 = .ok (.iaload, 1) := by decide +kernel
theorem dX12_lost_51 : decode cX12_lost 51 = .ok (.iload_n 1, 1) := by decide +kernel
theorem dX12_lost_52 : decode cX12_lost 52 = .ok (.if_icmp .ge 9, 3) := by decide +kernel
theorem dX12_lost_55 : decode cX12_lost 55 = .ok (.iload_n 3, 1) := by decide +kernel
theorem dX12_lost_56 : decode cX12_lost 56 = .ok (.iconst 1, 1) := by decide +kernel
theorem dX12_lost_57 : decode cX12_lost 57 = .ok (.iadd, 1) := by decide +kernel
theorem dX12_lost_58 : decode cX12_lost 58 = .ok (.goto 4, 3) := by decide +kernel
theorem dX12_lost_61 : decode cX12_lost 61 = .ok (.iconst 0, 1) := by decide +kernel
theorem dX12_lost_62 : decode cX12_lost 62 = .ok (.istore_n 3, 1) := by decide +kernel
theorem dX12_lost_63 : decode cX12_lost 63 = .ok (.iload_n 3, 1) := by decide +kernel
theorem dX12_lost_64 : decode cX12_lost 64 = .ok (.iload_n 2, 1) := by decide +kernel
theorem dX12_lost_65 : decode cX12_lost 65 = .ok (.if_icmp .ne 10, 3) := by decide +kernel
theorem dX12_lost_68 : decode cX12_lost 68 = .ok (.iload 4, 2) := by decide +kernel
theorem dX12_lost_70 : decode cX12_lost 70 = .ok (.iload_n 2, 1) := by decide +kernel
theorem dX12_lost_71 : decode cX12_lost 71 = .ok (.isub, 1) := by decide +kernel
theorem dX12_lost_72 : decode cX12_lost 72 = .ok (.iconst 1, 1) := by decide +kernel
theorem dX12_lost_73 : decode cX12_lost 73 = .ok (.iadd, 1) := by decide +kernel
theorem dX12_lost_74 : decode cX12_lost 74 = .ok (.ireturn, 1) := by decide +kernel
theorem dX12_lost_75 : decode cX12_lost 75 = .ok (.iinc 4 1, 3) := by decide +kernel
theorem dX12_lost_78 : decode cX12_lost 78 = .ok (.goto (-43), 3) := by decide +kernel
theorem dX12_lost_81 : decode cX12_lost 81 = .ok (.iconst (-1), 1) := by decide +kernel
theorem dX12_lost_82 : decode cX12_lost 82 = .ok (.ireturn, 1) := by decide +kernel
theorem dJ6_bitCount_0f7a4_0 : decode cJ6_bitCount_0f7a4 0 = .ok (.iload_n 0, 1) := by decide +kernel
theorem dJ6_bitCount_0f7a4_1 : decode cJ6_bitCount_0f7a4 1 = .ok (.iload_n 0, 1) := by decide +kernel
theorem dJ6_bitCount_0f7a4_2 : decode cJ6_bitCount_0f7a4 2 = .ok (.iconst 1, 1) := by decide +kernel
theorem dJ6_bitCount_0f7a4_3 : decode cJ6_bitCount_0f7a4 3 = .ok (.iushr, 1) := by decide +kernel
theorem dJ6_bitCount_0f7a4_4 : decode cJ6_bitCount_0f7a4 4 = .ok (.ldc_w 265, 3) := by decide +kernel
theorem dJ6_bitCount_0f7a4_7 : decode cJ6_bitCount_0f7a4 7 = .ok (.iand, 1) := by decide +kernel
theorem dJ6_bitCount_0f7a4_8 : decode cJ6_bitCount_0f7a4 8 = .ok (.isub, 1) := by decide +kernel
theorem dJ6_bitCount_0f7a4_9 : decode cJ6_bitCount_0f7a4 9 = .ok (.istore_n 0, 1) := by decide +kernel
theorem dJ6_bitCount_0f7a4_10 : decode cJ6_bitCount_0f7a4 10 = .ok (.iload_n 0, 1) := by decide +kernel
theorem dJ6_bitCount_0f7a4_11 : decode cJ6_bitCount_0f7a4 11 = .ok (.ldc_w 266, 3) := by decide +kernel
theorem dJ6_bitCount_0f7a4_14 : decode cJ6_bitCount_0f7a4 14 = .ok (.iand, 1) := by decide +kernel
theorem dJ6_bitCount_0f7a4_15 : decode cJ6_bitCount_0f7a4 15 = .ok (.iload_n 0, 1) := by decide +kernel
theorem dJ6_bitCount_0f7a4_16 : decode cJ6_bitCount_0f7a4 16 = .ok (.iconst 2, 1) := by decide +kernel
theorem dJ6_bitCount_0f7a4_17 : decode cJ6_bitCount_0f7a4 17 = .ok (.iushr, 1) := by decide +kernel
theorem dJ6_bitCount_0f7a4_18 : decode cJ6_bitCount_0f7a4 18 = .ok (.ldc_w 266, 3) := by decide +kernel
theorem dJ6_bitCount_0f7a4_21 : decode cJ6_bitCount_0f7a4 21 = .ok (.iand, 1) := by decide +kernel
theorem dJ6_bitCount_0f7a4_22 : decode cJ6_bitCount_0f7a4 22 = .ok (.iadd, 1) := by decide +kernel
theorem dJ6_bitCount_0f7a4_23 : decode cJ6_bitCount_0f7a4 23 = .ok (.istore_n 0, 1) := by decide +kernel
theorem dJ6_bitCount_0f7a4_24 : decode cJ6_bitCount_0f7a4 24 = .ok (.iload_n 0, 1) := by decide +kernel
theorem dJ6_bitCount_0f7a4_25 : decode cJ6_bitCount_0f7a4 25 = .ok (.iload_n 0, 1) := by decide +kernel
theorem dJ6_bitCount_0f7a4_26 : decode cJ6_bitCount_0f7a4 26 = .ok (.iconst 4, 1) := by decide +kernel
theorem dJ6_bitCount_0f7a4_27 : decode cJ6_bitCount_0f7a4 27 = .ok (.iushr, 1) := by decide +kernel
theorem dJ6_bitCount_0f7a4_28 : decode cJ6_bitCount_0f7a4 28 = .ok (.iadd, 1) := by decide +kernel
theorem dJ6_bitCount_0f7a4_29 : decode cJ6_bitCount_0f7a4 29 = .ok (.ldc_w 267, 3) := by decide +kernel
theorem dJ6_bitCount_0f7a4_32 : decode cJ6_bitCount_0f7a4 32 = .ok (.iand, 1) := by decide +kernel
theorem dJ6_bitCount_0f7a4_33 : decode cJ6_bitCount_0f7a4 33 = .ok (.istore_n 0, 1) := by decide +kernel
theorem dJ6_bitCount_0f7a4_34 : decode cJ6_bitCount_0f7a4 34 = .ok (.iload_n 0, 1) := by decide +kernel
theorem dJ6_bitCount_0f7a4_35 : decode cJ6_bitCount_0f7a4 35 = .ok (.iload_n 0, 1) := by decide +kernel
theorem dJ6_bitCount_0f7a4_36 : decode cJ6_bitCount_0f7a4 36 = .ok (.bipush 8, 2) := by decide +kernel
theorem dJ6_bitCount_0f7a4_38 : decode cJ6_bitCount_0f7a4 38 = .ok (.iushr, 1) := by decide +kernel
theorem dJ6_bitCount_0f7a4_39 : decode cJ6_bitCount_0f7a4 39 = .ok (.iadd, 1) := by decide +kernel
theorem dJ6_bitCount_0f7a4_40 : decode cJ6_bitCount_0f7a4 40 = .ok (.istore_n 0, 1) := by decide +kernel
theorem dJ6_bitCount_0f7a4_41 : decode cJ6_bitCount_0f7a4 41 = .ok (.iload_n 0, 1) := by decide +kernel
theorem dJ6_bitCount_0f7a4_42 : decode cJ6_bitCount_0f7a4 42 = .ok (.iload_n 0, 1) := by decide +kernel
theorem dJ6_bitCount_0f7a4_43 : decode cJ6_bitCount_0f7a4 43 = .ok (.bipush 16, 2) := by decide +kernel
theorem dJ6_bitCount_0f7a4_45 : decode cJ6_bitCount_0f7a4 45 = .ok (.iushr, 1) := by decide +kernel
theorem dJ6_bitCount_0f7a4_46 : decode cJ6_bitCount_0f7a4 46 = .ok (.iadd, 1) := by decide +kernel
theorem dJ6_bitCount_0f7a4_47 : decode cJ6_bitCount_0f7a4 47 = .ok (.istore_n 0, 1) := by decide +kernel
theorem dJ6_bitCount_0f7a4_48 : decode cJ6_bitCount_0f7a4 48 = .ok (.iload_n 0, 1) := by decide +kernel
theorem dJ6_bitCount_0f7a4_49 : decode cJ6_bitCount_0f7a4 49 = .ok (.bipush 63, 2) := by decide +kernel
theorem dJ6_bitCount_0f7a4_51 : decode cJ6_bitCount_0f7a4 51 = .ok (.iand, 1) := by decide +kernel
theorem dJ6_bitCount_0f7a4_52 : decode cJ6_bitCount_0f7a4 52 = .ok (.ireturn, 1) := by decide +kernel
theorem dJ7_fill_53178_0 : decode cJ7_fill_53178 0 = .ok (.iconst 0, 1) := by decide +kernel
theorem dJ7_fill_53178_1 : decode cJ7_fill_53178 1 = .ok (.istore_n 2, 1) := by decide +kernel
theorem dJ7_fill_53178_2 : decode cJ7_fill_53178 2 = .ok (.aload_n 0, 1) := by decide +kernel
theorem dJ7_fill_53178_3 : decode cJ7_fill_53178 3 = .ok (.arraylength, 1) := by decide +kernel
theorem dJ7_fill_53178_4 : decode cJ7_fill_53178 4 = .ok (.istore_n 3, 1) := by decide +kernel
theorem dJ7_fill_53178_5 : decode cJ7_fill_53178 5 = .ok (.iload_n 2, 1) := by decide +kernel
theorem dJ7_fill_53178_6 : decode cJ7_fill_53178 6 = .ok (.iload_n 3, 1) := by decide +kernel
theorem dJ7_fill_53178_7 : decode cJ7_fill_53178 7 = .ok (.if_icmp .ge 13, 3) := by decide +kernel
theorem dJ7_fill_53178_10 : decode cJ7_fill_53178 10 = .ok (.aload_n 0, 1) := by decide +kernel
theorem dJ7_fill_53178_11 : decode cJ7_fill_53178 11 = .ok (.iload_n 2, 1) := by decide +kernel
theorem dJ7_fill_53178_12 : decode cJ7_fill_53178 12 = .ok (.iload_n 1, 1) := by decide +kernel
theorem dJ7_fill_53178_13 : decode cJ7_fill_53178 13 = .ok (.iastore, 1) := by decide +kernel
theorem dJ7_fill_53178_14 : decode cJ7_fill_53178 14 = .ok (.iinc 2 1, 3) := by decide +kernel
theorem dJ7_fill_53178_17 : decode cJ7_fill_53178 17 = .ok (.goto (-12), 3) := by decide +kernel
theorem dJ7_fill_53178_20 : decode cJ7_fill_53178 20 = .ok (.return_, 1) := by decide +kernel
theorem dL_law_0 : decode cL_law 0 = .ok (.new 7, 3) := by decide +kernel
theorem dL_law_3 : decode cL_law 3 = .ok (.dup, 1) := by decide +kernel
theorem dL_law_4 : decode cL_law 4 = .ok (.invokespecial 9, 3) := by decide +kernel
theorem dL_law_7 : decode cL_law 7 = .ok (.astore_n 1, 1) := by decide +kernel
theorem dL_law_8 : decode cL_law 8 = .ok (.new 10, 3) := by decide +kernel
theorem dL_law_11 : decode cL_law 11 = .ok (.dup, 1) := by decide +kernel
theorem dL_law_12 : decode cL_law 12 = .ok (.invokespecial 12, 3) := by decide +kernel
theorem dL_law_15 : decode cL_law 15 = .ok (.astore_n 2, 1) := by decide +kernel
theorem dL_law_16 : decode cL_law 16 = .ok (.iconst 0, 1) := by decide +kernel
theorem dL_law_17 : decode cL_law 17 = .ok (.istore_n 3, 1) := by decide +kernel
theorem dL_law_18 : decode cL_law 18 = .ok (.iload_n 3, 1) := by decide +kernel
theorem dL_law_19 : decode cL_law 19 = .ok (.aload_n 0, 1) := by decide +kernel
theorem dL_law_20 : decode cL_law 20 = .ok (.arraylength, 1) := by decide +kernel
theorem dL_law_21 : decode cL_law 21 = .ok (.bipush 6, 2) := by decide +kernel
theorem dL_law_23 : decode cL_law 23 = .ok (.isub, 1) := by decide +kernel
theorem dL_law_24 : decode cL_law 24 = .ok (.if_icmp .gt 843, 3) := by decide +kernel
theorem dL_law_27 : decode cL_law 27 = .ok (.aload_n 0, 1) := by decide +kernel
theorem dL_law_28 : decode cL_law 28 = .ok (.iload_n 3, 1) := by decide +kernel
theorem dL_law_29 : decode cL_law 29 = .ok (.iaload, 1) := by decide +kernel
theorem dL_law_30 : decode cL_law 30 = .ok (.bipush 31, 2) := by decide +kernel
theorem dL_law_32 : decode cL_law 32 = .ok (.iand, 1) := by decide +kernel
theorem dL_law_33 : decode cL_law 33 = .ok (.tableswitch 828 0 19 #[95, 158, 211, 260, 283, 346, 369, 392, 415, 438, 481, 504, 528, 561, 594, 637, 670, 739, 782, 795], 95) := by decide +kernel
theorem dL_law_128 : decode cL_law 128 = .ok (.aload_n 1, 1) := by decide +kernel
theorem dL_law_129 : decode cL_law 129 = .ok (.aload_n 0, 1) := by decide +kernel
theorem dL_law_130 : decode cL_law 130 = .ok (.iload_n 3, 1) := by decide +kernel
theorem dL_law_131 : decode cL_law 131 = .ok (.iconst 1, 1) := by decide +kernel
theorem dL_law_132 : decode cL_law 132 = .ok (.iadd, 1) := by decide +kernel
theorem dL_law_133 : decode cL_law 133 = .ok (.iaload, 1) := by decide +kernel
theorem dL_law_134 : decode cL_law 134 = .ok (.aload_n 0, 1) := by decide +kernel
theorem dL_law_135 : decode cL_law 135 = .ok (.iload_n 3, 1) := by decide +kernel
theorem dL_law_136 : decode cL_law 136 = .ok (.iconst 2, 1) := by decide +kernel
theorem dL_law_137 : decode cL_law 137 = .ok (.iadd, 1) := by decide +kernel
theorem dL_law_138 : decode cL_law 138 = .ok (.iaload, 1) := by decide +kernel
theorem dL_law_139 : decode cL_law 139 = .ok (.aload_n 0, 1) := by decide +kernel
theorem dL_law_140 : decode cL_law 140 = .ok (.iload_n 3, 1) := by decide +kernel
theorem dL_law_141 : decode cL_law 141 = .ok (.iconst 3, 1) := by decide +kernel
theorem dL_law_142 : decode cL_law 142 = .ok (.iadd, 1) := by decide +kernel
theorem dL_law_143 : decode cL_law 143 = .ok (.iaload, 1) := by decide +kernel
theorem dL_law_144 : decode cL_law 144 = .ok (.aload_n 0, 1) := by decide +kernel
theorem dL_law_145 : decode cL_law 145 = .ok (.iload_n 3, 1) := by decide +kernel
theorem dL_law_146 : decode cL_law 146 = .ok (.iconst 4, 1) := by decide +kernel
theorem dL_law_147 : decode cL_law 147 = .ok (.iadd, 1) := by decide +kernel
theorem dL_law_148 : decode cL_law 148 = .ok (.iaload, 1) := by decide +kernel
theorem dL_law_149 : decode cL_law 149 = .ok (.aload_n 0, 1) := by decide +kernel
theorem dL_law_150 : decode cL_law 150 = .ok (.iload_n 3, 1) := by decide +kernel
theorem dL_law_151 : decode cL_law 151 = .ok (.iconst 5, 1) := by decide +kernel
theorem dL_law_152 : decode cL_law 152 = .ok (.iadd, 1) := by decide +kernel
theorem dL_law_153 : decode cL_law 153 = .ok (.iaload, 1) := by decide +kernel
theorem dL_law_154 : decode cL_law 154 = .ok (.invokevirtual 13, 3) := by decide +kernel
theorem dL_law_157 : decode cL_law 157 = .ok (.aload_n 2, 1) := by decide +kernel
theorem dL_law_158 : decode cL_law 158 = .ok (.aload_n 0, 1) := by decide +kernel
theorem dL_law_159 : decode cL_law 159 = .ok (.iload_n 3, 1) := by decide +kernel
theorem dL_law_160 : decode cL_law 160 = .ok (.iconst 1, 1) := by decide +kernel
theorem dL_law_161 : decode cL_law 161 = .ok (.iadd, 1) := by decide +kernel
theorem dL_law_162 : decode cL_law 162 = .ok (.iaload, 1) := by decide +kernel
theorem dL_law_163 : decode cL_law 163 = .ok (.aload_n 0, 1) := by decide +kernel
theorem dL_law_164 : decode cL_law 164 = .ok (.iload_n 3, 1) := by decide +kernel
theorem dL_law_165 : decode cL_law 165 = .ok (.iconst 2, 1) := by decide +kernel
theorem dL_law_166 : decode cL_law 166 = .ok (.iadd, 1) := by decide +kernel
theorem dL_law_167 : decode cL_law 167 = .ok (.iaload, 1) := by decide +kernel
theorem dL_law_168 : decode cL_law 168 = .ok (.aload_n 0, 1) := by decide +kernel
theorem dL_law_169 : decode cL_law 169 = .ok (.iload_n 3, 1) := by decide +kernel
theorem dL_law_170 : decode cL_law 170 = .ok (.iconst 3, 1) := by decide +kernel
theorem dL_law_171 : decode cL_law 171 = .ok (.iadd, 1) := by decide +kernel
theorem dL_law_172 : decode cL_law 172 = .ok (.iaload, 1) := by decide +kernel
theorem dL_law_173 : decode cL_law 173 = .ok (.aload_n 0, 1) := by decide +kernel
theorem dL_law_174 : decode cL_law 174 = .ok (.iload_n 3, 1) := by decide +kernel
theorem dL_law_175 : decode cL_law 175 = .ok (.iconst 4, 1) := by decide +kernel
theorem dL_law_176 : decode cL_law 176 = .ok (.iadd, 1) := by decide +kernel
theorem dL_law_177 : decode cL_law 177 = .ok (.iaload, 1) := by decide +kernel
theorem dL_law_178 : decode cL_law 178 = .ok (.aload_n 0, 1) := by decide +kernel
theorem dL_law_179 : decode cL_law 179 = .ok (.iload_n 3, 1) := by decide +kernel
theorem dL_law_180 : decode cL_law 180 = .ok (.iconst 5, 1) := by decide +kernel
theorem dL_law_181 : decode cL_law 181 = .ok (.iadd, 1) := by decide +kernel
theorem dL_law_182 : decode cL_law 182 = .ok (.iaload, 1) := by decide +kernel
theorem dL_law_183 : decode cL_law 183 = .ok (.invokevirtual 17, 3) := by decide +kernel
theorem dL_law_186 : decode cL_law 186 = .ok (.if_icmp .eq 675, 3) := by decide +kernel
theorem dL_law_189 : decode cL_law 189 = .ok (.iconst 0, 1) := by decide +kernel
theorem dL_law_190 : decode cL_law 190 = .ok (.ireturn, 1) := by decide +kernel
theorem dL_law_191 : decode cL_law 191 = .ok (.aload_n 1, 1) := by decide +kernel
theorem dL_law_192 : decode cL_law 192 = .ok (.aload_n 0, 1) := by decide +kernel
theorem dL_law_193 : decode cL_law 193 = .ok (.iload_n 3, 1) := by decide +kernel
theorem dL_law_194 : decode cL_law 194 = .ok (.iconst 1, 1) := by decide +kernel
theorem dL_law_195 : decode cL_law 195 = .ok (.iadd, 1) := by decide +kernel
theorem dL_law_196 : decode cL_law 196 = .ok (.iaload, 1) := by decide +kernel
theorem dL_law_197 : decode cL_law 197 = .ok (.aload_n 0, 1) := by decide +kernel
theorem dL_law_198 : decode cL_law 198 = .ok (.iload_n 3, 1) := by decide +kernel
theorem dL_law_199 : decode cL_law 199 = .ok (.iconst 2, 1) := by decide +kernel
theorem dL_law_200 : decode cL_law 200 = .ok (.iadd, 1) := by decide +kernel
theorem dL_law_201 : decode cL_law 201 = .ok (.iaload, 1) := by decide +kernel
theorem dL_law_202 : decode cL_law 202 = .ok (.aload_n 0, 1) := by decide +kernel
theorem dL_law_203 : decode cL_law 203 = .ok (.iload_n 3, 1) := by decide +kernel
theorem dL_law_204 : decode cL_law 204 = .ok (.iconst 3, 1) := by decide +kernel
theorem dL_law_205 : decode cL_law 205 = .ok (.iadd, 1) := by decide +kernel
theorem dL_law_206 : decode cL_law 206 = .ok (.iaload, 1) := by decide +kernel
theorem dL_law_207 : decode cL_law 207 = .ok (.aload_n 0, 1) := by decide +kernel
theorem dL_law_208 : decode cL_law 208 = .ok (.iload_n 3, 1) := by decide +kernel
theorem dL_law_209 : decode cL_law 209 = .ok (.iconst 4, 1) := by decide +kernel
theorem dL_law_210 : decode cL_law 210 = .ok (.iadd, 1) := by decide +kernel
theorem dL_law_211 : decode cL_law 211 = .ok (.iaload, 1) := by decide +kernel
theorem dL_law_212 : decode cL_law 212 = .ok (.invokevirtual 18, 3) := by decide +kernel
theorem dL_law_215 : decode cL_law 215 = .ok (.aload_n 2, 1) := by decide +kernel
theorem dL_law_216 : decode cL_law 216 = .ok (.aload_n 0, 1) := by decide +kernel
theorem dL_law_217 : decode cL_law 217 = .ok (.iload_n 3, 1) := by decide +kernel
theorem dL_law_218 : decode cL_law 218 = .ok (.iconst 1, 1) := by decide +kernel
theorem dL_law_219 : decode cL_law 219 = .ok (.iadd, 1) := by decide +kernel
theorem dL_law_220 : decode cL_law 220 = .ok (.iaload, 1) := by decide +kernel
theorem dL_law_221 : decode cL_law 221 = .ok (.aload_n 0, 1) := by decide +kernel
theorem dL_law_222 : decode cL_law 222 = .ok (.iload_n 3, 1) := by decide +kernel
theorem dL_law_223 : decode cL_law 223 = .ok (.iconst 2, 1) := by decide +kernel
theorem dL_law_224 : decode cL_law 224 = .ok (.iadd, 1) := by decide +kernel
theorem dL_law_225 : decode cL_law 225 = .ok (.iaload, 1) := by decide +kernel
theorem dL_law_226 : decode cL_law 226 = .ok (.aload_n 0, 1) := by decide +kernel
theorem dL_law_227 : decode cL_law 227 = .ok (.iload_n 3, 1) := by decide +kernel
theorem dL_law_228 : decode cL_law 228 = .ok (.iconst 3, 1) := by decide +kernel
theorem dL_law_229 : decode cL_law 229 = .ok (.iadd, 1) := by decide +kernel
theorem dL_law_230 : decode cL_law 230 = .ok (.iaload, 1) := by decide +kernel
theorem dL_law_231 : decode cL_law 231 = .ok (.aload_n 0, 1) := by decide +kernel
theorem dL_law_232 : decode cL_law 232 = .ok (.iload_n 3, 1) := by decide +kernel
theorem dL_law_233 : decode cL_law 233 = .ok (.iconst 4, 1) := by decide +kernel
theorem dL_law_234 : decode cL_law 234 = .ok (.iadd, 1) := by decide +kernel
theorem dL_law_235 : decode cL_law 235 = .ok (.iaload, 1) := by decide +kernel
theorem dL_law_236 : decode cL_law 236 = .ok (.invokevirtual 22, 3) := by decide +kernel
theorem dL_law_239 : decode cL_law 239 = .ok (.if_icmp .eq 622, 3) := by decide +kernel
theorem dL_law_242 : decode cL_law 242 = .ok (.iconst 0, 1) := by decide +kernel
theorem dL_law_243 : decode cL_law 243 = .ok (.ireturn, 1) := by decide +kernel
theorem dL_law_244 : decode cL_law 244 = .ok (.aload_n 1, 1) := by decide +kernel
theorem dL_law_245 : decode cL_law 245 = .ok (.aload_n 0, 1) := by decide +kernel
theorem dL_law_246 : decode cL_law 246 = .ok (.iload_n 3, 1) := by decide +kernel
theorem dL_law_247 : decode cL_law 247 = .ok (.iconst 1, 1) := by decide +kernel
theorem dL_law_248 : decode cL_law 248 = .ok (.iadd, 1) := by decide +kernel
theorem dL_law_249 : decode cL_law 249 = .ok (.iaload, 1) := by decide +kernel
theorem dL_law_250 : decode cL_law 250 = .ok (.aload_n 0, 1) := by decide +kernel
theorem dL_law_251 : decode cL_law 251 = .ok (.iload_n 3, 1) := by decide +kernel
theorem dL_law_252 : decode cL_law 252 = .ok (.iconst 2, 1) := by decide +kernel
theorem dL_law_253 : decode cL_law 253 = .ok (.iadd, 1) := by decide +kernel
theorem dL_law_254 : decode cL_law 254 = .ok (.iaload, 1) := by decide +kernel
theorem dL_law_255 : decode cL_law 255 = .ok (.ifCond .eq 7, 3) := by decide +kernel
theorem dL_law_258 : decode cL_law 258 = .ok (.iconst 1, 1) := by decide +kernel
theorem dL_law_259 : decode cL_law 259 = .ok (.goto 4, 3) := by decide +kernel
theorem dL_law_262 : decode cL_law 262 = .ok (.iconst 0, 1) := by decide +kernel
theorem dL_law_263 : decode cL_law 263 = .ok (.invokevirtual 23, 3) := by decide +kernel
theorem dL_law_266 : decode cL_law 266 = .ok (.aload_n 2, 1) := by decide +kernel
theorem dL_law_267 : decode cL_law 267 = .ok (.aload_n 0, 1) := by decide +kernel
theorem dL_law_268 : decode cL_law 268 = .ok (.iload_n 3, 1) := by decide +kernel
theorem dL_law_269 : decode cL_law 269 = .ok (.iconst 1, 1) := by decide +kernel
theorem dL_law_270 : decode cL_law 270 = .ok (.iadd, 1) := by decide +kernel
theorem dL_law_271 : decode cL_law 271 = .ok (.iaload, 1) := by decide +kernel
theorem dL_law_272 : decode cL_law 272 = .ok (.aload_n 0, 1) := by decide +kernel
theorem dL_law_273 : decode cL_law 273 = .ok (.iload_n 3, 1) := by decide +kernel
theorem dL_law_274 : decode cL_law 274 = .ok (.iconst 2, 1) := by decide +kernel
theorem dL_law_275 : decode cL_law 275 = .ok (.iadd, 1) := by decide +kernel
theorem dL_law_276 : decode cL_law 276 = .ok (.iaload, 1) := by decide +kernel
theorem dL_law_277 : decode cL_law 277 = .ok (.ifCond .eq 7, 3) := by decide +kernel
theorem dL_law_280 : decode cL_law 280 = .ok (.iconst 1, 1) := by decide +kernel
theorem dL_law_281 : decode cL_law 281 = .ok (.goto 4, 3) := by decide +kernel
theorem dL_law_284 : decode cL_law 284 = .ok (.iconst 0, 1) := by decide +kernel
theorem dL_law_285 : decode cL_law 285 = .ok (.invokevirtual 27, 3) := by decide +kernel
theorem dL_law_288 : decode cL_law 288 = .ok (.if_icmp .eq 573, 3) := by decide +kernel
theorem dL_law_291 : decode cL_law 291 = .ok (.iconst 0, 1) := by decide +kernel
theorem dL_law_292 : decode cL_law 292 = .ok (.ireturn, 1) := by decide +kernel
theorem dL_law_293 : decode cL_law 293 = .ok (.aload_n 1, 1) := by decide +kernel
theorem dL_law_294 : decode cL_law 294 = .ok (.aload_n 0, 1) := by decide +kernel
theorem dL_law_295 : decode cL_law 295 = .ok (.iload_n 3, 1) := by decide +kernel
theorem dL_law_296 : decode cL_law 296 = .ok (.iconst 1, 1) := by decide +kernel
theorem dL_law_297 : decode cL_law 297 = .ok (.iadd, 1) := by decide +kernel
theorem dL_law_298 : decode cL_law 298 = .ok (.iaload, 1) := by decide +kernel
theorem dL_law_299 : decode cL_law 299 = .ok (.invokevirtual 28, 3) := by decide +kernel
theorem dL_law_302 : decode cL_law 302 = .ok (.aload_n 2, 1) := by decide +kernel
theorem dL_law_303 : decode cL_law 303 = .ok (.aload_n 0, 1) := by decide +kernel
theorem dL_law_304 : decode cL_law 304 = .ok (.iload_n 3, 1) := by decide +kernel
theorem dL_law_305 : decode cL_law 305 = .ok (.iconst 1, 1) := by decide +kernel
theorem dL_law_306 : decode cL_law 306 = .ok (.iadd, 1) := by decide +kernel
theorem dL_law_307 : decode cL_law 307 = .ok (.iaload, 1) := by decide +kernel
theorem dL_law_308 : decode cL_law 308 = .ok (.invokevirtual 32, 3) := by decide +kernel
theorem dL_law_311 : decode cL_law 311 = .ok (.if_icmp .eq 550, 3) := by decide +kernel
theorem dL_law_314 : decode cL_law 314 = .ok (.iconst 0, 1) := by decide +kernel
theorem dL_law_315 : decode cL_law 315 = .ok (.ireturn, 1) := by decide +kernel
theorem dL_law_316 : decode cL_law 316 = .ok (.aload_n 1, 1) := by decide +kernel
theorem dL_law_317 : decode cL_law 317 = .ok (.aload_n 0, 1) := by decide +kernel
theorem dL_law_318 : decode cL_law 318 = .ok (.iload_n 3, 1) := by decide +kernel
theorem dL_law_319 : decode cL_law 319 = .ok (.iconst 1, 1) := by decide +kernel
theorem dL_law_320 : decode cL_law 320 = .ok (.iadd, 1) := by decide +kernel
theorem dL_law_321 : decode cL_law 321 = .ok (.iaload, 1) := by decide +kernel
theorem dL_law_322 : decode cL_law 322 = .ok (.aload_n 0, 1) := by decide +kernel
theorem dL_law_323 : decode cL_law 323 = .ok (.iload_n 3, 1) := by decide +kernel
theorem dL_law_324 : decode cL_law 324 = .ok (.iconst 2, 1) := by decide +kernel
theorem dL_law_325 : decode cL_law 325 = .ok (.iadd, 1) := by decide +kernel
theorem dL_law_326 : decode cL_law 326 = .ok (.iaload, 1) := by decide +kernel
theorem dL_law_327 : decode cL_law 327 = .ok (.aload_n 0, 1) := by decide +kernel
theorem dL_law_328 : decode cL_law 328 = .ok (.iload_n 3, 1) := by decide +kernel
theorem dL_law_329 : decode cL_law 329 = .ok (.iconst 3, 1) := by decide +kernel
theorem dL_law_330 : decode cL_law 330 = .ok (.iadd, 1) := by decide +kernel
theorem dL_law_331 : decode cL_law 331 = .ok (.iaload, 1) := by decide +kernel
theorem dL_law_332 : decode cL_law 332 = .ok (.aload_n 0, 1) := by decide +kernel
theorem dL_law_333 : decode cL_law 333 = .ok (.iload_n 3, 1) := by decide +kernel
theorem dL_law_334 : decode cL_law 334 = .ok (.iconst 4, 1) := by decide +kernel
theorem dL_law_335 : decode cL_law 335 = .ok (.iadd, 1) := by decide +kernel
theorem dL_law_336 : decode cL_law 336 = .ok (.iaload, 1) := by decide +kernel
theorem dL_law_337 : decode cL_law 337 = .ok (.aload_n 0, 1) := by decide +kernel
theorem dL_law_338 : decode cL_law 338 = .ok (.iload_n 3, 1) := by decide +kernel
theorem dL_law_339 : decode cL_law 339 = .ok (.iconst 5, 1) := by decide +kernel
theorem dL_law_340 : decode cL_law 340 = .ok (.iadd, 1) := by decide +kernel
theorem dL_law_341 : decode cL_law 341 = .ok (.iaload, 1) := by decide +kernel
theorem dL_law_342 : decode cL_law 342 = .ok (.invokevirtual 33, 3) := by decide +kernel
theorem dL_law_345 : decode cL_law 345 = .ok (.aload_n 2, 1) := by decide +kernel
theorem dL_law_346 : decode cL_law 346 = .ok (.aload_n 0, 1) := by decide +kernel
theorem dL_law_347 : decode cL_law 347 = .ok (.iload_n 3, 1) := by decide +kernel
theorem dL_law_348 : decode cL_law 348 = .ok (.iconst 1, 1) := by decide +kernel
theorem dL_law_349 : decode cL_law 349 = .ok (.iadd, 1) := by decide +kernel
theorem dL_law_350 : decode cL_law 350 = .ok (.iaload, 1) := by decide +kernel
theorem dL_law_351 : decode cL_law 351 = .ok (.aload_n 0, 1) := by decide +kernel
theorem dL_law_352 : decode cL_law 352 = .ok (.iload_n 3, 1) := by decide +kernel
theorem dL_law_353 : decode cL_law 353 = .ok (.iconst 2, 1) := by decide +kernel
theorem dL_law_354 : decode cL_law 354 = .ok (.iadd, 1) := by decide +kernel
theorem dL_law_355 : decode cL_law 355 = .ok (.iaload, 1) := by decide +kernel
theorem dL_law_356 : decode cL_law 356 = .ok (.aload_n 0, 1) := by decide +kernel
theorem dL_law_357 : decode cL_law 357 = .ok (.iload_n 3, 1) := by decide +kernel
theorem dL_law_358 : decode cL_law 358 = .ok (.iconst 3, 1) := by decide +kernel
theorem dL_law_359 : decode cL_law 359 = .ok (.iadd, 1) := by decide +kernel
theorem dL_law_360 : decode cL_law 360 = .ok (.iaload, 1) := by decide +kernel
theorem dL_law_361 : decode cL_law 361 = .ok (.aload_n 0, 1) := by decide +kernel
theorem dL_law_362 : decode cL_law 362 = .ok (.iload_n 3, 1) := by decide +kernel
theorem dL_law_363 : decode cL_law 363 = .ok (.iconst 4, 1) := by decide +kernel
theorem dL_law_364 : decode cL_law 364 = .ok (.iadd, 1) := by decide +kernel
theorem dL_law_365 : decode cL_law 365 = .ok (.iaload, 1) := by decide +kernel
theorem dL_law_366 : decode cL_law 366 = .ok (.aload_n 0, 1) := by decide +kernel
theorem dL_law_367 : decode cL_law 367 = .ok (.iload_n 3, 1) := by decide +kernel
theorem dL_law_368 : decode cL_law 368 = .ok (.iconst 5, 1) := by decide +kernel
theorem dL_law_369 : decode cL_law 369 = .ok (.iadd, 1) := by decide +kernel
theorem dL_law_370 : decode cL_law 370 = .ok (.iaload, 1) := by decide +kernel
theorem dL_law_371 : decode cL_law 371 = .ok (.invokevirtual 37, 3) := by decide +kernel
theorem dL_law_374 : decode cL_law 374 = .ok (.if_icmp .eq 487, 3) := by decide +kernel
theorem dL_law_377 : decode cL_law 377 = .ok (.iconst 0, 1) := by decide +kernel
theorem dL_law_378 : decode cL_law 378 = .ok (.ireturn, 1) := by decide +kernel
theorem dL_law_379 : decode cL_law 379 = .ok (.aload_n 1, 1) := by decide +kernel
theorem dL_law_380 : decode cL_law 380 = .ok (.aload_n 0, 1) := by decide +kernel
theorem dL_law_381 : decode cL_law 381 = .ok (.iload_n 3, 1) := by decide +kernel
theorem dL_law_382 : decode cL_law 382 = .ok (.iconst 1, 1) := by decide +kernel
theorem dL_law_383 : decode cL_law 383 = .ok (.iadd, 1) := by decide +kernel
theorem dL_law_384 : decode cL_law 384 = .ok (.iaload, 1) := by decide +kernel
theorem dL_law_385 : decode cL_law 385 = .ok (.invokevirtual 38, 3) := by decide +kernel
theorem dL_law_388 : decode cL_law 388 = .ok (.aload_n 2, 1) := by decide +kernel
theorem dL_law_389 : decode cL_law 389 = .ok (.aload_n 0, 1) := by decide +kernel
theorem dL_law_390 : decode cL_law 390 = .ok (.iload_n 3, 1) := by decide +kernel
theorem dL_law_391 : decode cL_law 391 = .ok (.iconst 1, 1) := by decide +kernel
theorem dL_law_392 : decode cL_law 392 = .ok (.iadd, 1) := by decide +kernel
theorem dL_law_393 : decode cL_law 393 = .ok (.iaload, 1) := by decide +kernel
theorem dL_law_394 : decode cL_law 394 = .ok (.invokevirtual 41, 3) := by decide +kernel
theorem dL_law_397 : decode cL_law 397 = .ok (.if_icmp .eq 464, 3) := by decide +kernel
theorem dL_law_400 : decode cL_law 400 = .ok (.iconst 0, 1) := by decide +kernel
theorem dL_law_401 : decode cL_law 401 = .ok (.ireturn, 1) := by decide +kernel
theorem dL_law_402 : decode cL_law 402 = .ok (.aload_n 1, 1) := by decide +kernel
theorem dL_law_403 : decode cL_law 403 = .ok (.aload_n 0, 1) := by decide +kernel
theorem dL_law_404 : decode cL_law 404 = .ok (.iload_n 3, 1) := by decide +kernel
theorem dL_law_405 : decode cL_law 405 = .ok (.iconst 1, 1) := by decide +kernel
theorem dL_law_406 : decode cL_law 406 = .ok (.iadd, 1) := by decide +kernel
theorem dL_law_407 : decode cL_law 407 = .ok (.iaload, 1) := by decide +kernel
theorem dL_law_408 : decode cL_law 408 = .ok (.invokevirtual 42, 3) := by decide +kernel
theorem dL_law_411 : decode cL_law 411 = .ok (.aload_n 2, 1) := by decide +kernel
theorem dL_law_412 : decode cL_law 412 = .ok (.aload_n 0, 1) := by decide +kernel
theorem dL_law_413 : decode cL_law 413 = .ok (.iload_n 3, 1) := by decide +kernel
theorem dL_law_414 : decode cL_law 414 = .ok (.iconst 1, 1) := by decide +kernel
theorem dL_law_415 : decode cL_law 415 = .ok (.iadd, 1) := by decide +kernel
theorem dL_law_416 : decode cL_law 416 = .ok (.iaload, 1) := by decide +kernel
theorem dL_law_417 : decode cL_law 417 = .ok (.invokevirtual 45, 3) := by decide +kernel
theorem dL_law_420 : decode cL_law 420 = .ok (.if_icmp .eq 441, 3) := by decide +kernel
theorem dL_law_423 : decode cL_law 423 = .ok (.iconst 0, 1) := by decide +kernel
theorem dL_law_424 : decode cL_law 424 = .ok (.ireturn, 1) := by decide +kernel
theorem dL_law_425 : decode cL_law 425 = .ok (.aload_n 1, 1) := by decide +kernel
theorem dL_law_426 : decode cL_law 426 = .ok (.aload_n 0, 1) := by decide +kernel
theorem dL_law_427 : decode cL_law 427 = .ok (.iload_n 3, 1) := by decide +kernel
theorem dL_law_428 : decode cL_law 428 = .ok (.iconst 1, 1) := by decide +kernel
theorem dL_law_429 : decode cL_law 429 = .ok (.iadd, 1) := by decide +kernel
theorem dL_law_430 : decode cL_law 430 = .ok (.iaload, 1) := by decide +kernel
theorem dL_law_431 : decode cL_law 431 = .ok (.invokevirtual 46, 3) := by decide +kernel
theorem dL_law_434 : decode cL_law 434 = .ok (.aload_n 2, 1) := by decide +kernel
theorem dL_law_435 : decode cL_law 435 = .ok (.aload_n 0, 1) := by decide +kernel
theorem dL_law_436 : decode cL_law 436 = .ok (.iload_n 3, 1) := by decide +kernel
theorem dL_law_437 : decode cL_law 437 = .ok (.iconst 1, 1) := by decide +kernel
theorem dL_law_438 : decode cL_law 438 = .ok (.iadd, 1) := by decide +kernel
theorem dL_law_439 : decode cL_law 439 = .ok (.iaload, 1) := by decide +kernel
theorem dL_law_440 : decode cL_law 440 = .ok (.invokevirtual 50, 3) := by decide +kernel
theorem dL_law_443 : decode cL_law 443 = .ok (.if_icmp .eq 418, 3) := by decide +kernel
theorem dL_law_446 : decode cL_law 446 = .ok (.iconst 0, 1) := by decide +kernel
theorem dL_law_447 : decode cL_law 447 = .ok (.ireturn, 1) := by decide +kernel
theorem dL_law_448 : decode cL_law 448 = .ok (.aload_n 1, 1) := by decide +kernel
theorem dL_law_449 : decode cL_law 449 = .ok (.aload_n 0, 1) := by decide +kernel
theorem dL_law_450 : decode cL_law 450 = .ok (.iload_n 3, 1) := by decide +kernel
theorem dL_law_451 : decode cL_law 451 = .ok (.iconst 1, 1) := by decide +kernel
theorem dL_law_452 : decode cL_law 452 = .ok (.iadd, 1) := by decide +kernel
theorem dL_law_453 : decode cL_law 453 = .ok (.iaload, 1) := by decide +kernel
theorem dL_law_454 : decode cL_law 454 = .ok (.invokevirtual 51, 3) := by decide +kernel
theorem dL_law_457 : decode cL_law 457 = .ok (.aload_n 2, 1) := by decide +kernel
theorem dL_law_458 : decode cL_law 458 = .ok (.aload_n 0, 1) := by decide +kernel
theorem dL_law_459 : decode cL_law 459 = .ok (.iload_n 3, 1) := by decide +kernel
theorem dL_law_460 : decode cL_law 460 = .ok (.iconst 1, 1) := by decide +kernel
theorem dL_law_461 : decode cL_law 461 = .ok (.iadd, 1) := by decide +kernel
theorem dL_law_462 : decode cL_law 462 = .ok (.iaload, 1) := by decide +kernel
theorem dL_law_463 : decode cL_law 463 = .ok (.invokevirtual 54, 3) := by decide +kernel
theorem dL_law_466 : decode cL_law 466 = .ok (.if_icmp .eq 395, 3) := by decide +kernel
theorem dL_law_469 : decode cL_law 469 = .ok (.iconst 0, 1) := by decide +kernel
theorem dL_law_470 : decode cL_law 470 = .ok (.ireturn, 1) := by decide +kernel
theorem dL_law_471 : decode cL_law 471 = .ok (.aload_n 1, 1) := by decide +kernel
theorem dL_law_472 : decode cL_law 472 = .ok (.aload_n 0, 1) := by decide +kernel
theorem dL_law_473 : decode cL_law 473 = .ok (.iload_n 3, 1) := by decide +kernel
theorem dL_law_474 : decode cL_law 474 = .ok (.iconst 1, 1) := by decide +kernel
theorem dL_law_475 : decode cL_law 475 = .ok (.iadd, 1) := by decide +kernel
theorem dL_law_476 : decode cL_law 476 = .ok (.iaload, 1) := by decide +kernel
theorem dL_law_477 : decode cL_law 477 = .ok (.aload_n 0, 1) := by decide +kernel
theorem dL_law_478 : decode cL_law 478 = .ok (.iload_n 3, 1) := by decide +kernel
theorem dL_law_479 : decode cL_law 479 = .ok (.iconst 2, 1) := by decide +kernel
theorem dL_law_480 : decode cL_law 480 = .ok (.iadd, 1) := by decide +kernel
theorem dL_law_481 : decode cL_law 481 = .ok (.iaload, 1) := by decide +kernel
theorem dL_law_482 : decode cL_law 482 = .ok (.aload_n 0, 1) := by decide +kernel
theorem dL_law_483 : decode cL_law 483 = .ok (.iload_n 3, 1) := by decide +kernel
theorem dL_law_484 : decode cL_law 484 = .ok (.iconst 3, 1) := by decide +kernel
theorem dL_law_485 : decode cL_law 485 = .ok (.iadd, 1) := by decide +kernel
theorem dL_law_486 : decode cL_law 486 = .ok (.iaload, 1) := by decide +kernel
theorem dL_law_487 : decode cL_law 487 = .ok (.invokevirtual 55, 3) := by decide +kernel
theorem dL_law_490 : decode cL_law 490 = .ok (.aload_n 2, 1) := by decide +kernel
theorem dL_law_491 : decode cL_law 491 = .ok (.aload_n 0, 1) := by decide +kernel
theorem dL_law_492 : decode cL_law 492 = .ok (.iload_n 3, 1) := by decide +kernel
theorem dL_law_493 : decode cL_law 493 = .ok (.iconst 1, 1) := by decide +kernel
theorem dL_law_494 : decode cL_law 494 = .ok (.iadd, 1) := by decide +kernel
theorem dL_law_495 : decode cL_law 495 = .ok (.iaload, 1) := by decide +kernel
theorem dL_law_496 : decode cL_law 496 = .ok (.aload_n 0, 1) := by decide +kernel
theorem dL_law_497 : decode cL_law 497 = .ok (.iload_n 3, 1) := by decide +kernel
theorem dL_law_498 : decode cL_law 498 = .ok (.iconst 2, 1) := by decide +kernel
theorem dL_law_499 : decode cL_law 499 = .ok (.iadd, 1) := by decide +kernel
theorem dL_law_500 : decode cL_law 500 = .ok (.iaload, 1) := by decide +kernel
theorem dL_law_501 : decode cL_law 501 = .ok (.aload_n 0, 1) := by decide +kernel
theorem dL_law_502 : decode cL_law 502 = .ok (.iload_n 3, 1) := by decide +kernel
theorem dL_law_503 : decode cL_law 503 = .ok (.iconst 3, 1) := by decide +kernel
theorem dL_law_504 : decode cL_law 504 = .ok (.iadd, 1) := by decide +kernel
theorem dL_law_505 : decode cL_law 505 = .ok (.iaload, 1) := by decide +kernel
theorem dL_law_506 : decode cL_law 506 = .ok (.invokevirtual 59, 3) := by decide +kernel
theorem dL_law_509 : decode cL_law 509 = .ok (.if_icmp .eq 352, 3) := by decide +kernel
theorem dL_law_512 : decode cL_law 512 = .ok (.iconst 0, 1) := by decide +kernel
theorem dL_law_513 : decode cL_law 513 = .ok (.ireturn, 1) := by decide +kernel
theorem dL_law_514 : decode cL_law 514 = .ok (.aload_n 1, 1) := by decide +kernel
theorem dL_law_515 : decode cL_law 515 = .ok (.aload_n 0, 1) := by decide +kernel
theorem dL_law_516 : decode cL_law 516 = .ok (.iload_n 3, 1) := by decide +kernel
theorem dL_law_517 : decode cL_law 517 = .ok (.iconst 1, 1) := by decide +kernel
theorem dL_law_518 : decode cL_law 518 = .ok (.iadd, 1) := by decide +kernel
theorem dL_law_519 : decode cL_law 519 = .ok (.iaload, 1) := by decide +kernel
theorem dL_law_520 : decode cL_law 520 = .ok (.invokevirtual 60, 3) := by decide +kernel
theorem dL_law_523 : decode cL_law 523 = .ok (.aload_n 2, 1) := by decide +kernel
theorem dL_law_524 : decode cL_law 524 = .ok (.aload_n 0, 1) := by decide +kernel
theorem dL_law_525 : decode cL_law 525 = .ok (.iload_n 3, 1) := by decide +kernel
theorem dL_law_526 : decode cL_law 526 = .ok (.iconst 1, 1) := by decide +kernel
theorem dL_law_527 : decode cL_law 527 = .ok (.iadd, 1) := by decide +kernel
theorem dL_law_528 : decode cL_law 528 = .ok (.iaload, 1) := by decide +kernel
theorem dL_law_529 : decode cL_law 529 = .ok (.invokevirtual 63, 3) := by decide +kernel
theorem dL_law_532 : decode cL_law 532 = .ok (.if_icmp .eq 329, 3) := by decide +kernel
theorem dL_law_535 : decode cL_law 535 = .ok (.iconst 0, 1) := by decide +kernel
theorem dL_law_536 : decode cL_law 536 = .ok (.ireturn, 1) := by decide +kernel
theorem dL_law_537 : decode cL_law 537 = .ok (.aload_n 1, 1) := by decide +kernel
theorem dL_law_538 : decode cL_law 538 = .ok (.aload_n 0, 1) := by decide +kernel
theorem dL_law_539 : decode cL_law 539 = .ok (.iload_n 3, 1) := by decide +kernel
theorem dL_law_540 : decode cL_law 540 = .ok (.iconst 1, 1) := by decide +kernel
theorem dL_law_541 : decode cL_law 541 = .ok (.iadd, 1) := by decide +kernel
theorem dL_law_542 : decode cL_law 542 = .ok (.iaload, 1) := by decide +kernel
theorem dL_law_543 : decode cL_law 543 = .ok (.invokevirtual 64, 3) := by decide +kernel
theorem dL_law_546 : decode cL_law 546 = .ok (.aload_n 2, 1) := by decide +kernel
theorem dL_law_547 : decode cL_law 547 = .ok (.aload_n 0, 1) := by decide +kernel
theorem dL_law_548 : decode cL_law 548 = .ok (.iload_n 3, 1) := by decide +kernel
theorem dL_law_549 : decode cL_law 549 = .ok (.iconst 1, 1) := by decide +kernel
theorem dL_law_550 : decode cL_law 550 = .ok (.iadd, 1) := by decide +kernel
theorem dL_law_551 : decode cL_law 551 = .ok (.iaload, 1) := by decide +kernel
theorem dL_law_552 : decode cL_law 552 = .ok (.invokevirtual 68, 3) := by decide +kernel
theorem dL_law_555 : decode cL_law 555 = .ok (.lcmp, 1) := by decide +kernel
theorem dL_law_556 : decode cL_law 556 = .ok (.ifCond .eq 305, 3) := by decide +kernel
theorem dL_law_559 : decode cL_law 559 = .ok (.iconst 0, 1) := by decide +kernel
theorem dL_law_560 : decode cL_law 560 = .ok (.ireturn, 1) := by decide +kernel
theorem dL_law_561 : decode cL_law 561 = .ok (.aload_n 1, 1) := by decide +kernel
theorem dL_law_562 : decode cL_law 562 = .ok (.aload_n 0, 1) := by decide +kernel
theorem dL_law_563 : decode cL_law 563 = .ok (.iload_n 3, 1) := by decide +kernel
theorem dL_law_564 : decode cL_law 564 = .ok (.iconst 1, 1) := by decide +kernel
theorem dL_law_565 : decode cL_law 565 = .ok (.iadd, 1) := by decide +kernel
theorem dL_law_566 : decode cL_law 566 = .ok (.iaload, 1) := by decide +kernel
theorem dL_law_567 : decode cL_law 567 = .ok (.aload_n 0, 1) := by decide +kernel
theorem dL_law_568 : decode cL_law 568 = .ok (.iload_n 3, 1) := by decide +kernel
theorem dL_law_569 : decode cL_law 569 = .ok (.iconst 2, 1) := by decide +kernel
theorem dL_law_570 : decode cL_law 570 = .ok (.iadd, 1) := by decide +kernel
theorem dL_law_571 : decode cL_law 571 = .ok (.iaload, 1) := by decide +kernel
theorem dL_law_572 : decode cL_law 572 = .ok (.invokevirtual 69, 3) := by decide +kernel
theorem dL_law_575 : decode cL_law 575 = .ok (.aload_n 2, 1) := by decide +kernel
theorem dL_law_576 : decode cL_law 576 = .ok (.aload_n 0, 1) := by decide +kernel
theorem dL_law_577 : decode cL_law 577 = .ok (.iload_n 3, 1) := by decide +kernel
theorem dL_law_578 : decode cL_law 578 = .ok (.iconst 1, 1) := by decide +kernel
theorem dL_law_579 : decode cL_law 579 = .ok (.iadd, 1) := by decide +kernel
theorem dL_law_580 : decode cL_law 580 = .ok (.iaload, 1) := by decide +kernel
theorem dL_law_581 : decode cL_law 581 = .ok (.aload_n 0, 1) := by decide +kernel
theorem dL_law_582 : decode cL_law 582 = .ok (.iload_n 3, 1) := by decide +kernel
theorem dL_law_583 : decode cL_law 583 = .ok (.iconst 2, 1) := by decide +kernel
theorem dL_law_584 : decode cL_law 584 = .ok (.iadd, 1) := by decide +kernel
theorem dL_law_585 : decode cL_law 585 = .ok (.iaload, 1) := by decide +kernel
theorem dL_law_586 : decode cL_law 586 = .ok (.invokevirtual 73, 3) := by decide +kernel
theorem dL_law_589 : decode cL_law 589 = .ok (.if_icmp .eq 272, 3) := by decide +kernel
theorem dL_law_592 : decode cL_law 592 = .ok (.iconst 0, 1) := by decide +kernel
theorem dL_law_593 : decode cL_law 593 = .ok (.ireturn, 1) := by decide +kernel
theorem dL_law_594 : decode cL_law 594 = .ok (.aload_n 1, 1) := by decide +kernel
theorem dL_law_595 : decode cL_law 595 = .ok (.aload_n 0, 1) := by decide +kernel
theorem dL_law_596 : decode cL_law 596 = .ok (.iload_n 3, 1) := by decide +kernel
theorem dL_law_597 : decode cL_law 597 = .ok (.iconst 1, 1) := by decide +kernel
theorem dL_law_598 : decode cL_law 598 = .ok (.iadd, 1) := by decide +kernel
theorem dL_law_599 : decode cL_law 599 = .ok (.iaload, 1) := by decide +kernel
theorem dL_law_600 : decode cL_law 600 = .ok (.aload_n 0, 1) := by decide +kernel
theorem dL_law_601 : decode cL_law 601 = .ok (.iload_n 3, 1) := by decide +kernel
theorem dL_law_602 : decode cL_law 602 = .ok (.iconst 2, 1) := by decide +kernel
theorem dL_law_603 : decode cL_law 603 = .ok (.iadd, 1) := by decide +kernel
theorem dL_law_604 : decode cL_law 604 = .ok (.iaload, 1) := by decide +kernel
theorem dL_law_605 : decode cL_law 605 = .ok (.invokevirtual 74, 3) := by decide +kernel
theorem dL_law_608 : decode cL_law 608 = .ok (.aload_n 2, 1) := by decide +kernel
theorem dL_law_609 : decode cL_law 609 = .ok (.aload_n 0, 1) := by decide +kernel
theorem dL_law_610 : decode cL_law 610 = .ok (.iload_n 3, 1) := by decide +kernel
theorem dL_law_611 : decode cL_law 611 = .ok (.iconst 1, 1) := by decide +kernel
theorem dL_law_612 : decode cL_law 612 = .ok (.iadd, 1) := by decide +kernel
theorem dL_law_613 : decode cL_law 613 = .ok (.iaload, 1) := by decide +kernel
theorem dL_law_614 : decode cL_law 614 = .ok (.aload_n 0, 1) := by decide +kernel
theorem dL_law_615 : decode cL_law 615 = .ok (.iload_n 3, 1) := by decide +kernel
theorem dL_law_616 : decode cL_law 616 = .ok (.iconst 2, 1) := by decide +kernel
theorem dL_law_617 : decode cL_law 617 = .ok (.iadd, 1) := by decide +kernel
theorem dL_law_618 : decode cL_law 618 = .ok (.iaload, 1) := by decide +kernel
theorem dL_law_619 : decode cL_law 619 = .ok (.invokevirtual 77, 3) := by decide +kernel
theorem dL_law_622 : decode cL_law 622 = .ok (.if_icmp .eq 239, 3) := by decide +kernel
theorem dL_law_625 : decode cL_law 625 = .ok (.iconst 0, 1) := by decide +kernel
theorem dL_law_626 : decode cL_law 626 = .ok (.ireturn, 1) := by decide +kernel
theorem dL_law_627 : decode cL_law 627 = .ok (.aload_n 1, 1) := by decide +kernel
theorem dL_law_628 : decode cL_law 628 = .ok (.aload_n 0, 1) := by decide +kernel
theorem dL_law_629 : decode cL_law 629 = .ok (.iload_n 3, 1) := by decide +kernel
theorem dL_law_630 : decode cL_law 630 = .ok (.iconst 1, 1) := by decide +kernel
theorem dL_law_631 : decode cL_law 631 = .ok (.iadd, 1) := by decide +kernel
theorem dL_law_632 : decode cL_law 632 = .ok (.iaload, 1) := by decide +kernel
theorem dL_law_633 : decode cL_law 633 = .ok (.aload_n 0, 1) := by decide +kernel
theorem dL_law_634 : decode cL_law 634 = .ok (.iload_n 3, 1) := by decide +kernel
theorem dL_law_635 : decode cL_law 635 = .ok (.iconst 2, 1) := by decide +kernel
theorem dL_law_636 : decode cL_law 636 = .ok (.iadd, 1) := by decide +kernel
theorem dL_law_637 : decode cL_law 637 = .ok (.iaload, 1) := by decide +kernel
theorem dL_law_638 : decode cL_law 638 = .ok (.aload_n 0, 1) := by decide +kernel
theorem dL_law_639 : decode cL_law 639 = .ok (.iload_n 3, 1) := by decide +kernel
theorem dL_law_640 : decode cL_law 640 = .ok (.iconst 3, 1) := by decide +kernel
theorem dL_law_641 : decode cL_law 641 = .ok (.iadd, 1) := by decide +kernel
theorem dL_law_642 : decode cL_law 642 = .ok (.iaload, 1) := by decide +kernel
theorem dL_law_643 : decode cL_law 643 = .ok (.invokevirtual 78, 3) := by decide +kernel
theorem dL_law_646 : decode cL_law 646 = .ok (.aload_n 2, 1) := by decide +kernel
theorem dL_law_647 : decode cL_law 647 = .ok (.aload_n 0, 1) := by decide +kernel
theorem dL_law_648 : decode cL_law 648 = .ok (.iload_n 3, 1) := by decide +kernel
theorem dL_law_649 : decode cL_law 649 = .ok (.iconst 1, 1) := by decide +kernel
theorem dL_law_650 : decode cL_law 650 = .ok (.iadd, 1) := by decide +kernel
theorem dL_law_651 : decode cL_law 651 = .ok (.iaload, 1) := by decide +kernel
theorem dL_law_652 : decode cL_law 652 = .ok (.aload_n 0, 1) := by decide +kernel
theorem dL_law_653 : decode cL_law 653 = .ok (.iload_n 3, 1) := by decide +kernel
theorem dL_law_654 : decode cL_law 654 = .ok (.iconst 2, 1) := by decide +kernel
theorem dL_law_655 : decode cL_law 655 = .ok (.iadd, 1) := by decide +kernel
theorem dL_law_656 : decode cL_law 656 = .ok (.iaload, 1) := by decide +kernel
theorem dL_law_657 : decode cL_law 657 = .ok (.aload_n 0, 1) := by decide +kernel
theorem dL_law_658 : decode cL_law 658 = .ok (.iload_n 3, 1) := by decide +kernel
theorem dL_law_659 : decode cL_law 659 = .ok (.iconst 3, 1) := by decide +kernel
theorem dL_law_660 : decode cL_law 660 = .ok (.iadd, 1) := by decide +kernel
theorem dL_law_661 : decode cL_law 661 = .ok (.iaload, 1) := by decide +kernel
theorem dL_law_662 : decode cL_law 662 = .ok (.invokevirtual 81, 3) := by decide +kernel
theorem dL_law_665 : decode cL_law 665 = .ok (.if_icmp .eq 196, 3) := by decide +kernel
theorem dL_law_668 : decode cL_law 668 = .ok (.iconst 0, 1) := by decide +kernel
theorem dL_law_669 : decode cL_law 669 = .ok (.ireturn, 1) := by decide +kernel
theorem dL_law_670 : decode cL_law 670 = .ok (.aload_n 1, 1) := by decide +kernel
theorem dL_law_671 : decode cL_law 671 = .ok (.aload_n 0, 1) := by decide +kernel
theorem dL_law_672 : decode cL_law 672 = .ok (.iload_n 3, 1) := by decide +kernel
theorem dL_law_673 : decode cL_law 673 = .ok (.iconst 1, 1) := by decide +kernel
theorem dL_law_674 : decode cL_law 674 = .ok (.iadd, 1) := by decide +kernel
theorem dL_law_675 : decode cL_law 675 = .ok (.iaload, 1) := by decide +kernel
theorem dL_law_676 : decode cL_law 676 = .ok (.aload_n 0, 1) := by decide +kernel
theorem dL_law_677 : decode cL_law 677 = .ok (.iload_n 3, 1) := by decide +kernel
theorem dL_law_678 : decode cL_law 678 = .ok (.iconst 2, 1) := by decide +kernel
theorem dL_law_679 : decode cL_law 679 = .ok (.iadd, 1) := by decide +kernel
theorem dL_law_680 : decode cL_law 680 = .ok (.iaload, 1) := by decide +kernel
theorem dL_law_681 : decode cL_law 681 = .ok (.invokevirtual 82, 3) := by decide +kernel
theorem dL_law_684 : decode cL_law 684 = .ok (.aload_n 2, 1) := by decide +kernel
theorem dL_law_685 : decode cL_law 685 = .ok (.aload_n 0, 1) := by decide +kernel
theorem dL_law_686 : decode cL_law 686 = .ok (.iload_n 3, 1) := by decide +kernel
theorem dL_law_687 : decode cL_law 687 = .ok (.iconst 1, 1) := by decide +kernel
theorem dL_law_688 : decode cL_law 688 = .ok (.iadd, 1) := by decide +kernel
theorem dL_law_689 : decode cL_law 689 = .ok (.iaload, 1) := by decide +kernel
theorem dL_law_690 : decode cL_law 690 = .ok (.aload_n 0, 1) := by decide +kernel
theorem dL_law_691 : decode cL_law 691 = .ok (.iload_n 3, 1) := by decide +kernel
theorem dL_law_692 : decode cL_law 692 = .ok (.iconst 2, 1) := by decide +kernel
theorem dL_law_693 : decode cL_law 693 = .ok (.iadd, 1) := by decide +kernel
theorem dL_law_694 : decode cL_law 694 = .ok (.iaload, 1) := by decide +kernel
theorem dL_law_695 : decode cL_law 695 = .ok (.invokevirtual 85, 3) := by decide +kernel
theorem dL_law_698 : decode cL_law 698 = .ok (.if_icmp .eq 163, 3) := by decide +kernel
theorem dL_law_701 : decode cL_law 701 = .ok (.iconst 0, 1) := by decide +kernel
theorem dL_law_702 : decode cL_law 702 = .ok (.ireturn, 1) := by decide +kernel
theorem dL_law_703 : decode cL_law 703 = .ok (.aload_n 1, 1) := by decide +kernel
theorem dL_law_704 : decode cL_law 704 = .ok (.aload_n 0, 1) := by decide +kernel
theorem dL_law_705 : decode cL_law 705 = .ok (.iload_n 3, 1) := by decide +kernel
theorem dL_law_706 : decode cL_law 706 = .ok (.iconst 1, 1) := by decide +kernel
theorem dL_law_707 : decode cL_law 707 = .ok (.iadd, 1) := by decide +kernel
theorem dL_law_708 : decode cL_law 708 = .ok (.iaload, 1) := by decide +kernel
theorem dL_law_709 : decode cL_law 709 = .ok (.aload_n 0, 1) := by decide +kernel
theorem dL_law_710 : decode cL_law 710 = .ok (.iload_n 3, 1) := by decide +kernel
theorem dL_law_711 : decode cL_law 711 = .ok (.iconst 2, 1) := by decide +kernel
theorem dL_law_712 : decode cL_law 712 = .ok (.iadd, 1) := by decide +kernel
theorem dL_law_713 : decode cL_law 713 = .ok (.iaload, 1) := by decide +kernel
theorem dL_law_714 : decode cL_law 714 = .ok (.aload_n 0, 1) := by decide +kernel
theorem dL_law_715 : decode cL_law 715 = .ok (.iload_n 3, 1) := by decide +kernel
theorem dL_law_716 : decode cL_law 716 = .ok (.iconst 3, 1) := by decide +kernel
theorem dL_law_717 : decode cL_law 717 = .ok (.iadd, 1) := by decide +kernel
theorem dL_law_718 : decode cL_law 718 = .ok (.iaload, 1) := by decide +kernel
theorem dL_law_719 : decode cL_law 719 = .ok (.ifCond .eq 7, 3) := by decide +kernel
theorem dL_law_722 : decode cL_law 722 = .ok (.iconst 1, 1) := by decide +kernel
theorem dL_law_723 : decode cL_law 723 = .ok (.goto 4, 3) := by decide +kernel
theorem dL_law_726 : decode cL_law 726 = .ok (.iconst 0, 1) := by decide +kernel
theorem dL_law_727 : decode cL_law 727 = .ok (.aload_n 0, 1) := by decide +kernel
theorem dL_law_728 : decode cL_law 728 = .ok (.iload_n 3, 1) := by decide +kernel
theorem dL_law_729 : decode cL_law 729 = .ok (.iconst 4, 1) := by decide +kernel
theorem dL_law_730 : decode cL_law 730 = .ok (.iadd, 1) := by decide +kernel
theorem dL_law_731 : decode cL_law 731 = .ok (.iaload, 1) := by decide +kernel
theorem dL_law_732 : decode cL_law 732 = .ok (.invokevirtual 86, 3) := by decide +kernel
theorem dL_law_735 : decode cL_law 735 = .ok (.aload_n 2, 1) := by decide +kernel
theorem dL_law_736 : decode cL_law 736 = .ok (.aload_n 0, 1) := by decide +kernel
theorem dL_law_737 : decode cL_law 737 = .ok (.iload_n 3, 1) := by decide +kernel
theorem dL_law_738 : decode cL_law 738 = .ok (.iconst 1, 1) := by decide +kernel
theorem dL_law_739 : decode cL_law 739 = .ok (.iadd, 1) := by decide +kernel
theorem dL_law_740 : decode cL_law 740 = .ok (.iaload, 1) := by decide +kernel
theorem dL_law_741 : decode cL_law 741 = .ok (.aload_n 0, 1) := by decide +kernel
theorem dL_law_742 : decode cL_law 742 = .ok (.iload_n 3, 1) := by decide +kernel
theorem dL_law_743 : decode cL_law 743 = .ok (.iconst 2, 1) := by decide +kernel
theorem dL_law_744 : decode cL_law 744 = .ok (.iadd, 1) := by decide +kernel
theorem dL_law_745 : decode cL_law 745 = .ok (.iaload, 1) := by decide +kernel
theorem dL_law_746 : decode cL_law 746 = .ok (.aload_n 0, 1) := by decide +kernel
theorem dL_law_747 : decode cL_law 747 = .ok (.iload_n 3, 1) := by decide +kernel
theorem dL_law_748 : decode cL_law 748 = .ok (.iconst 3, 1) := by decide +kernel
theorem dL_law_749 : decode cL_law 749 = .ok (.iadd, 1) := by decide +kernel
theorem dL_law_750 : decode cL_law 750 = .ok (.iaload, 1) := by decide +kernel
theorem dL_law_751 : decode cL_law 751 = .ok (.ifCond .eq 7, 3) := by decide +kernel
theorem dL_law_754 : decode cL_law 754 = .ok (.iconst 1, 1) := by decide +kernel
theorem dL_law_755 : decode cL_law 755 = .ok (.goto 4, 3) := by decide +kernel
theorem dL_law_758 : decode cL_law 758 = .ok (.iconst 0, 1) := by decide +kernel
theorem dL_law_759 : decode cL_law 759 = .ok (.aload_n 0, 1) := by decide +kernel
theorem dL_law_760 : decode cL_law 760 = .ok (.iload_n 3, 1) := by decide +kernel
theorem dL_law_761 : decode cL_law 761 = .ok (.iconst 4, 1) := by decide +kernel
theorem dL_law_762 : decode cL_law 762 = .ok (.iadd, 1) := by decide +kernel
theorem dL_law_763 : decode cL_law 763 = .ok (.iaload, 1) := by decide +kernel
theorem dL_law_764 : decode cL_law 764 = .ok (.invokevirtual 90, 3) := by decide +kernel
theorem dL_law_767 : decode cL_law 767 = .ok (.if_icmp .eq 94, 3) := by decide +kernel
theorem dL_law_770 : decode cL_law 770 = .ok (.iconst 0, 1) := by decide +kernel
theorem dL_law_771 : decode cL_law 771 = .ok (.ireturn, 1) := by decide +kernel
theorem dL_law_772 : decode cL_law 772 = .ok (.aload_n 1, 1) := by decide +kernel
theorem dL_law_773 : decode cL_law 773 = .ok (.aload_n 0, 1) := by decide +kernel
theorem dL_law_774 : decode cL_law 774 = .ok (.iload_n 3, 1) := by decide +kernel
theorem dL_law_775 : decode cL_law 775 = .ok (.iconst 1, 1) := by decide +kernel
theorem dL_law_776 : decode cL_law 776 = .ok (.iadd, 1) := by decide +kernel
theorem dL_law_777 : decode cL_law 777 = .ok (.iaload, 1) := by decide +kernel
theorem dL_law_778 : decode cL_law 778 = .ok (.aload_n 0, 1) := by decide +kernel
theorem dL_law_779 : decode cL_law 779 = .ok (.iload_n 3, 1) := by decide +kernel
theorem dL_law_780 : decode cL_law 780 = .ok (.iconst 2, 1) := by decide +kernel
theorem dL_law_781 : decode cL_law 781 = .ok (.iadd, 1) := by decide +kernel
theorem dL_law_782 : decode cL_law 782 = .ok (.iaload, 1) := by decide +kernel
theorem dL_law_783 : decode cL_law 783 = .ok (.aload_n 0, 1) := by decide +kernel
theorem dL_law_784 : decode cL_law 784 = .ok (.iload_n 3, 1) := by decide +kernel
theorem dL_law_785 : decode cL_law 785 = .ok (.iconst 3, 1) := by decide +kernel
theorem dL_law_786 : decode cL_law 786 = .ok (.iadd, 1) := by decide +kernel
theorem dL_law_787 : decode cL_law 787 = .ok (.iaload, 1) := by decide +kernel
theorem dL_law_788 : decode cL_law 788 = .ok (.invokevirtual 91, 3) := by decide +kernel
theorem dL_law_791 : decode cL_law 791 = .ok (.aload_n 2, 1) := by decide +kernel
theorem dL_law_792 : decode cL_law 792 = .ok (.aload_n 0, 1) := by decide +kernel
theorem dL_law_793 : decode cL_law 793 = .ok (.iload_n 3, 1) := by decide +kernel
theorem dL_law_794 : decode cL_law 794 = .ok (.iconst 1, 1) := by decide +kernel
theorem dL_law_795 : decode cL_law 795 = .ok (.iadd, 1) := by decide +kernel
theorem dL_law_796 : decode cL_law 796 = .ok (.iaload, 1) := by decide +kernel
theorem dL_law_797 : decode cL_law 797 = .ok (.aload_n 0, 1) := by decide +kernel
theorem dL_law_798 : decode cL_law 798 = .ok (.iload_n 3, 1) := by decide +kernel
theorem dL_law_799 : decode cL_law 799 = .ok (.iconst 2, 1) := by decide +kernel
theorem dL_law_800 : decode cL_law 800 = .ok (.iadd, 1) := by decide +kernel
theorem dL_law_801 : decode cL_law 801 = .ok (.iaload, 1) := by decide +kernel
theorem dL_law_802 : decode cL_law 802 = .ok (.aload_n 0, 1) := by decide +kernel
theorem dL_law_803 : decode cL_law 803 = .ok (.iload_n 3, 1) := by decide +kernel
theorem dL_law_804 : decode cL_law 804 = .ok (.iconst 3, 1) := by decide +kernel
theorem dL_law_805 : decode cL_law 805 = .ok (.iadd, 1) := by decide +kernel
theorem dL_law_806 : decode cL_law 806 = .ok (.iaload, 1) := by decide +kernel
theorem dL_law_807 : decode cL_law 807 = .ok (.invokevirtual 94, 3) := by decide +kernel
theorem dL_law_810 : decode cL_law 810 = .ok (.if_icmp .eq 51, 3) := by decide +kernel
theorem dL_law_813 : decode cL_law 813 = .ok (.iconst 0, 1) := by decide +kernel
theorem dL_law_814 : decode cL_law 814 = .ok (.ireturn, 1) := by decide +kernel
theorem dL_law_815 : decode cL_law 815 = .ok (.aload_n 1, 1) := by decide +kernel
theorem dL_law_816 : decode cL_law 816 = .ok (.invokevirtual 95, 3) := by decide +kernel
theorem dL_law_819 : decode cL_law 819 = .ok (.aload_n 2, 1) := by decide +kernel
theorem dL_law_820 : decode cL_law 820 = .ok (.invokevirtual 99, 3) := by decide +kernel
theorem dL_law_823 : decode cL_law 823 = .ok (.if_icmp .eq 38, 3) := by decide +kernel
theorem dL_law_826 : decode cL_law 826 = .ok (.iconst 0, 1) := by decide +kernel
theorem dL_law_827 : decode cL_law 827 = .ok (.ireturn, 1) := by decide +kernel
theorem dL_law_828 : decode cL_law 828 = .ok (.aload_n 1, 1) := by decide +kernel
theorem dL_law_829 : decode cL_law 829 = .ok (.aload_n 0, 1) := by decide +kernel
theorem dL_law_830 : decode cL_law 830 = .ok (.iload_n 3, 1) := by decide +kernel
theorem dL_law_831 : decode cL_law 831 = .ok (.iconst 1, 1) := by decide +kernel
theorem dL_law_832 : decode cL_law 832 = .ok (.iadd, 1) := by decide +kernel
theorem dL_law_833 : decode cL_law 833 = .ok (.iaload, 1) := by decide +kernel
theorem dL_law_834 : decode cL_law 834 = .ok (.aload_n 0, 1) := by decide +kernel
theorem dL_law_835 : decode cL_law 835 = .ok (.iload_n 3, 1) := by decide +kernel
theorem dL_law_836 : decode cL_law 836 = .ok (.iconst 2, 1) := by decide +kernel
theorem dL_law_837 : decode cL_law 837 = .ok (.iadd, 1) := by decide +kernel
theorem dL_law_838 : decode cL_law 838 = .ok (.iaload, 1) := by decide +kernel
theorem dL_law_839 : decode cL_law 839 = .ok (.invokevirtual 100, 3) := by decide +kernel
theorem dL_law_842 : decode cL_law 842 = .ok (.aload_n 2, 1) := by decide +kernel
theorem dL_law_843 : decode cL_law 843 = .ok (.aload_n 0, 1) := by decide +kernel
theorem dL_law_844 : decode cL_law 844 = .ok (.iload_n 3, 1) := by decide +kernel
theorem dL_law_845 : decode cL_law 845 = .ok (.iconst 1, 1) := by decide +kernel
theorem dL_law_846 : decode cL_law 846 = .ok (.iadd, 1) := by decide +kernel
theorem dL_law_847 : decode cL_law 847 = .ok (.iaload, 1) := by decide +kernel
theorem dL_law_848 : decode cL_law 848 = .ok (.aload_n 0, 1) := by decide +kernel
theorem dL_law_849 : decode cL_law 849 = .ok (.iload_n 3, 1) := by decide +kernel
theorem dL_law_850 : decode cL_law 850 = .ok (.iconst 2, 1) := by decide +kernel
theorem dL_law_851 : decode cL_law 851 = .ok (.iadd, 1) := by decide +kernel
theorem dL_law_852 : decode cL_law 852 = .ok (.iaload, 1) := by decide +kernel
theorem dL_law_853 : decode cL_law 853 = .ok (.invokevirtual 103, 3) := by decide +kernel
theorem dL_law_856 : decode cL_law 856 = .ok (.if_icmp .eq 5, 3) := by decide +kernel
theorem dL_law_859 : decode cL_law 859 = .ok (.iconst 0, 1) := by decide +kernel
theorem dL_law_860 : decode cL_law 860 = .ok (.ireturn, 1) := by decide +kernel
theorem dL_law_861 : decode cL_law 861 = .ok (.iinc 3 6, 3) := by decide +kernel
theorem dL_law_864 : decode cL_law 864 = .ok (.goto (-846), 3) := by decide +kernel
theorem dL_law_867 : decode cL_law 867 = .ok (.iconst 1, 1) := by decide +kernel
theorem dL_law_868 : decode cL_law 868 = .ok (.ireturn, 1) := by decide +kernel
end
section
theorem ko_i : Cond.instanceMethod objectInit ∈ TB := tb1 28 rfl rfl
theorem ko_c : Cond.code objectInit ⟨#[0xb1]⟩ 1 none ∈ TB := tb1 29 rfl rfl
theorem kM_n : Cond.initialized "java/lang/Math" ∈ TB := tb1 4 rfl rfl
theorem kM_max_s : Cond.static Lib.Math.max.name ∈ TB := tb1 44 rfl rfl
theorem kM_max_c : Cond.code Lib.Math.max.name Lib.Math.max.code 2 (some .int) ∈ TB := tb1 45 rfl rfl
theorem kM_min_s : Cond.static Lib.Math.min.name ∈ TB := tb2 213 rfl rfl
theorem kM_min_c : Cond.code Lib.Math.min.name Lib.Math.min.code 2 (some .int) ∈ TB := tb2 214 rfl rfl
theorem kM_abs_s : Cond.static Lib.Math.abs.name ∈ TB := tb4 71 rfl rfl
theorem kM_abs_c : Cond.code Lib.Math.abs.name Lib.Math.abs.code 1 (some .int) ∈ TB := tb4 72 rfl rfl
theorem kS_n : Cond.initialized "java/lang/System" ∈ TB := tb1 20 rfl rfl
theorem kS_s : Cond.static arraycopyName ∈ TB := tb3 174 rfl rfl
theorem kS_t : Cond.native arraycopyName ∈ TB := tb3 175 rfl rfl
section MR2
variable {p : Program} {l : Launch} {e : Env} {R : Room} {s : State} {m : MethodId} {args : Array Value} {below : List Frame} {meth : Method} {c : Code} {H : Heap} {locs : List Loc} {cells slots : Nat} {Q : State → Prop}
variable {cc : ByteArray} {pc : Nat} {ls : Array Slot} {rest : List Value} {D : va_G} {cy : Nat → ClassId} {b : Nat} {lay : List mL} {μ : mM}
theorem m_geti (hx : p.tables.exec = Jvm.exec) (hb : c.code = cc) {own C : String} {T : u_T} {N ci index : Nat} (hts : ∀ w ∈ TB, w.before args s = true) (hown : s.vm.findClass own = some m.cls) (hW : m_W D cy s b lay μ H locs) (k j : Nat) {fs : List Nat} (hk : lay[k]? = some (.inl (ci, fs))) (hf : fs[j]? = some 0) (hin : ∀ w ∈ u_ws C T N, w ∈ TB) (hc : vwCl[ci]? = some (C, T, N)) (hj : j < N) (hlink : Cond.fieldLink own index (T j).1 (T j).2.1 (T j).2.2.1 ∈ TB) (hdg : decode cc pc = .ok (.getfield index, 3))
    (kk : W p l e R s m args below meth c H locs cells slots Q (F0 m (pc + 3) ls (.int (μ.1 k j) :: rest))) : W p l e R s m args below meth c H locs cells slots Q (F0 m pc ls (.ref (b + k) :: rest)) := m_get hx hb hts hown hW k j hk hf hin hc hj hlink hdg kk
theorem m_getl (hx : p.tables.exec = Jvm.exec) (hb : c.code = cc) {own C : String} {T : u_T} {N ci index : Nat} (hts : ∀ w ∈ TB, w.before args s = true) (hown : s.vm.findClass own = some m.cls) (hW : m_W D cy s b lay μ H locs) (k j : Nat) {fs : List Nat} (hk : lay[k]? = some (.inl (ci, fs))) (hf : fs[j]? = some 1) (hin : ∀ w ∈ u_ws C T N, w ∈ TB) (hc : vwCl[ci]? = some (C, T, N)) (hj : j < N) (hlink : Cond.fieldLink own index (T j).1 (T j).2.1 (T j).2.2.1 ∈ TB) (hdg : decode cc pc = .ok (.getfield index, 3))
    (kk : W p l e R s m args below meth c H locs cells slots Q (F0 m (pc + 3) ls (.long (μ.2 k j) :: rest))) : W p l e R s m args below meth c H locs cells slots Q (F0 m pc ls (.ref (b + k) :: rest)) := m_get hx hb hts hown hW k j hk hf hin hc hj hlink hdg kk
theorem m_getr (hx : p.tables.exec = Jvm.exec) (hb : c.code = cc) {own C : String} {T : u_T} {N ci index : Nat} (hts : ∀ w ∈ TB, w.before args s = true) (hown : s.vm.findClass own = some m.cls) (hW : m_W D cy s b lay μ H locs) (k j n : Nat) {fs : List Nat} (hk : lay[k]? = some (.inl (ci, fs))) (hf : fs[j]? = some (n + 3)) (hin : ∀ w ∈ u_ws C T N, w ∈ TB) (hc : vwCl[ci]? = some (C, T, N)) (hj : j < N) (hlink : Cond.fieldLink own index (T j).1 (T j).2.1 (T j).2.2.1 ∈ TB) (hdg : decode cc pc = .ok (.getfield index, 3))
    (kk : W p l e R s m args below meth c H locs cells slots Q (F0 m (pc + 3) ls (.ref (b + n) :: rest))) : W p l e R s m args below meth c H locs cells slots Q (F0 m pc ls (.ref (b + k) :: rest)) := m_get hx hb hts hown hW k j hk hf hin hc hj hlink hdg kk
end MR2
theorem m_si_same {μ : mM} {k j : Nat} {v : Int32} (h : μ.1 k j = v) : m_si μ k j v = μ := by
  refine Prod.ext ?_ rfl
  funext a i
  show (if a = k ∧ i = j then v else μ.1 a i) = μ.1 a i
  by_cases q : a = k ∧ i = j
  · rw [if_pos q, q.1, q.2, h]
  · rw [if_neg q]
theorem m_sl_same {μ : mM} {k j : Nat} {v : Int64} (h : μ.2 k j = v) : m_sl μ k j v = μ := by
  refine Prod.ext rfl ?_
  funext a i
  show (if a = k ∧ i = j then v else μ.2 a i) = μ.2 a i
  by_cases q : a = k ∧ i = j
  · rw [if_pos q, q.1, q.2, h]
  · rw [if_neg q]
theorem m_z_same {μ : mM} {k : Nat} (h1 : ∀ j, μ.1 k j = 0) (h2 : ∀ j, μ.2 k j = 0) : m_z μ k = μ := by
  refine Prod.ext ?_ ?_
  · funext a i
    show (if a = k then 0 else μ.1 a i) = μ.1 a i
    by_cases q : a = k
    · rw [if_pos q, q, h1]
    · rw [if_neg q]
  · funext a i
    show (if a = k then 0 else μ.2 a i) = μ.2 a i
    by_cases q : a = k
    · rw [if_pos q, q, h2]
    · rw [if_neg q]
-- a constructor's memory: the places from P on were 0; what was written since
def m_us (P : Nat) (μ : mM) (L : List (Nat × Nat × Int32)) : mM := L.foldl (fun μ u => m_si μ (P + u.1) u.2.1 u.2.2) μ
abbrev m_Zr (P : Nat) (μ : mM) : Prop := ∀ k, P ≤ k → (∀ j, μ.1 k j = 0) ∧ ∀ j, μ.2 k j = 0
theorem m_us_2 (P : Nat) : ∀ (L : List (Nat × Nat × Int32)) (μ : mM), (m_us P μ L).2 = μ.2
  | [], _ => rfl
  | u :: L, μ => by
    show (m_us P (m_si μ (P + u.1) u.2.1 u.2.2) L).2 = μ.2
    rw [m_us_2 P L]
    rfl
theorem m_us_1 (P i j : Nat) : ∀ (L : List (Nat × Nat × Int32)) (μ : mM), L.all (fun u => !(u.1 == i && u.2.1 == j)) = true → (m_us P μ L).1 (P + i) j = μ.1 (P + i) j
  | [], _, _ => rfl
  | u :: L, μ, h => by
    simp only [List.all_cons, Bool.and_eq_true] at h
    show (m_us P (m_si μ (P + u.1) u.2.1 u.2.2) L).1 (P + i) j = μ.1 (P + i) j
    rw [m_us_1 P i j L _ h.2]
    show (if P + i = P + u.1 ∧ j = u.2.1 then u.2.2 else μ.1 (P + i) j) = μ.1 (P + i) j
    have h1 := h.1
    simp only [Bool.not_eq_true', Bool.and_eq_false_iff, beq_eq_false_iff_ne, ne_eq] at h1
    rw [if_neg]
    rintro ⟨q1, q2⟩
    rcases h1 with h1 | h1
    · exact h1 (by omega)
    · exact h1 q2.symm
theorem m_us_0 {P : Nat} {μ : mM} (hμ : m_Zr P μ) (L : List (Nat × Nat × Int32)) (i j : Nat) (h : L.all (fun u => !(u.1 == i && u.2.1 == j)) = true) : (m_us P μ L).1 (P + i) j = 0 := by
  rw [m_us_1 P i j L μ h]
  exact (hμ (P + i) (Nat.le_add_right P i)).1 j
theorem m_us_0l {P : Nat} {μ : mM} (hμ : m_Zr P μ) (L : List (Nat × Nat × Int32)) (i j : Nat) : (m_us P μ L).2 (P + i) j = 0 := by
  rw [m_us_2 P L μ]
  exact (hμ (P + i) (Nat.le_add_right P i)).2 j
theorem m_us_z {P : Nat} {μ : mM} (hμ : m_Zr P μ) (L : List (Nat × Nat × Int32)) (i : Nat) (h : L.all (fun u => !(u.1 == i)) = true) : m_z (m_us P μ L) (P + i) = m_us P μ L := by
  refine m_z_same (fun j => m_us_0 hμ L i j ?_) (fun j => m_us_0l hμ L i j)
  rw [List.all_eq_true] at h ⊢
  intro u hu
  have := h u hu
  simp only [Bool.not_eq_true', beq_eq_false_iff_ne, ne_eq] at this
  simp [this]
theorem m_us_zr {P : Nat} {μ : mM} (hμ : m_Zr P μ) (L : List (Nat × Nat × Int32)) (n : Nat) (h : L.all (fun u => decide (u.1 < n)) = true) : m_Zr (P + n) (m_us P μ L) := by
  intro k hk
  obtain ⟨i, rfl⟩ : ∃ i, k = P + i := ⟨k - P, by omega⟩
  refine ⟨fun j => m_us_0 hμ L i j ?_, fun j => m_us_0l hμ L i j⟩
  rw [List.all_eq_true] at h ⊢
  intro u hu
  have := h u hu
  simp only [decide_eq_true_eq] at this
  have : u.1 ≠ i := by omega
  simp [this]
theorem m_suf {pre suf : List mL} {P i : Nat} {x : mL} (hP : pre.length = P) (h : suf[i]? = some x) : (pre ++ suf)[P + i]? = some x := by
  rw [List.getElem?_append_right (by omega), show P + i - pre.length = i by omega]
  exact h
theorem m_sufset {pre suf suf' : List mL} {P i : Nat} {x : mL} (hP : pre.length = P) (h : suf.set i x = suf') : (pre ++ suf).set (P + i) x = pre ++ suf' := by
  rw [← h, List.set_append_right _ _ (by omega), show P + i - pre.length = i by omega]
theorem m_suflen {pre suf : List mL} {P n : Nat} (hP : pre.length = P) (h : suf.length = n) : (pre ++ suf).length = P + n := by
  rw [List.length_append, hP, h]
section MR3
variable {p : Program} {l : Launch} {e : Env} {R : Room} {s : State} {m : MethodId} {args : Array Value} {below : List Frame} {meth : Method} {c : Code} {H : Heap} {locs : List Loc} {cells slots : Nat} {Q : State → Prop}
variable {cc : ByteArray} {pc : Nat} {ls : Array Slot} {rest : List Value} {D : va_G} {cy : Nat → ClassId} {b : Nat} {lay : List mL} {μ : mM}
theorem m_newa' (hx : p.tables.exec = Jvm.exec) (hb : c.code = cc) (hts : ∀ w ∈ TB, w.before args s = true) (hW : m_W D cy s b lay μ H locs) {N0 : Nat} (hN0 : lay.length = N0) (hz : H.size = b + N0) (a : Nat) {atype : ArrayType} (harr : Cond.arrayClass (newarray.typeOf atype) ∈ TB) (hty : (a = 0 ∧ atype = .int) ∨ (a = 1 ∧ atype = .boolean) ∨ (a = 2 ∧ atype = .long)) {n : Int32} {N : Nat} {lay' : List mL} (hlay : lay ++ [.inr (a, N, [])] = lay') (hn : ¬ n < 0) (hN : n.toNatClampNeg = N) (hbytes : N * 8 ≤ 536870912) (hcells : cells + 1 ≤ R.cells) (hslots : slots + N ≤ R.slots) (hdg : decode cc pc = .ok (.newarray atype, 2))
    (kk : ∀ (H1 : Heap), m_W D cy s b lay' (m_z μ N0) H1 locs → H1.size = b + (N0 + 1) → W p l e R s m args below meth c H1 locs (cells + 1) (slots + N) Q (F0 m (pc + 2) ls (.ref (b + N0) :: rest))) : W p l e R s m args below meth c H locs cells slots Q (F0 m pc ls (.int n :: rest)) := by
  subst hN0
  subst hlay
  exact m_newa hx hb hts hW hz a harr hty hn hN hbytes hcells hslots hdg (fun H1 h1 h2 => kk H1 h1 (by rw [h2]; simp))
theorem m_newq' (hx : p.tables.exec = Jvm.exec) (hb : c.code = cc) (hts : ∀ w ∈ TB, w.before args s = true) {own : String} {index : Nat} (hown : s.vm.findClass own = some m.cls) (hW : m_W D cy s b lay μ H locs) {N0 : Nat} (hN0 : lay.length = N0) (hz : H.size = b + N0) (hcl : Cond.classLink own index "BeamPlate$Row" ∈ TB) {n : Int32} {N : Nat} {lay' : List mL} (hlay : lay ++ [.inr (3, N, [])] = lay') (hn : ¬ n < 0) (hN : n.toNatClampNeg = N) (hbytes : N * 4 ≤ 536870912) (hcells : cells + 1 ≤ R.cells) (hslots : slots + N ≤ R.slots) (hdg : decode cc pc = .ok (.anewarray index, 3))
    (kk : ∀ (H1 : Heap), m_W D cy s b lay' (m_z μ N0) H1 locs → H1.size = b + (N0 + 1) → W p l e R s m args below meth c H1 locs (cells + 1) (slots + N) Q (F0 m (pc + 3) ls (.ref (b + N0) :: rest))) : W p l e R s m args below meth c H locs cells slots Q (F0 m pc ls (.int n :: rest)) := by
  subst hN0
  subst hlay
  exact m_newq hx hb hts hown hW hz hcl hn hN hbytes hcells hslots hdg (fun H1 h1 h2 => kk H1 h1 (by rw [h2]; simp))
theorem m_new' (hx : p.tables.exec = Jvm.exec) (hb : c.code = cc) (hts : ∀ w ∈ TB, w.before args s = true) {own C : String} {T : u_T} {N ci index : Nat} (hown : s.vm.findClass own = some m.cls) (hW : m_W D cy s b lay μ H locs) {N0 : Nat} (hN0 : lay.length = N0) (hz : H.size = b + N0) (hin : ∀ w ∈ u_ws C T N, w ∈ TB) {ty0 : Nat → FieldType} (hty : ∀ k, k < N → parseFieldDescriptor (T k).2.2.1 = some (ty0 k)) (hcl : Cond.classLink own index C ∈ TB) (hinst : Cond.instantiable C N ∈ TB) (hini : Cond.initialized C ∈ TB) (hc : vwCl[ci]? = some (C, T, N)) (fs : List Nat) {lay' : List mL} (hlay : lay ++ [.inl (ci, fs)] = lay') (hfs : ∀ j, j < N → ∃ f, fs[j]? = some f ∧ f < 3 ∧ defaultValue (ty0 j) = m_v 0 (fun _ _ => 0, fun _ _ => 0) 0 j f) (hcells : cells + 1 ≤ R.cells) (hslots : slots + N ≤ R.slots) (hdg : decode cc pc = .ok (.new index, 3))
    (kk : ∀ (H1 : Heap), m_W D cy s b lay' (m_z μ N0) H1 locs → H1.size = b + (N0 + 1) → W p l e R s m args below meth c H1 locs (cells + 1) (slots + N) Q (F0 m (pc + 3) ls (.ref (b + N0) :: rest))) : W p l e R s m args below meth c H locs cells slots Q (F0 m pc ls rest) := by
  subst hN0
  subst hlay
  refine m_new hx hb hts hown hW hz hin hty hcl hinst hini hc fs (fun j hj => ?_) hcells hslots hdg (fun H1 h1 h2 => kk H1 h1 (by rw [h2]; simp))
  obtain ⟨f, h1, h2, h3⟩ := hfs j hj
  rw [h3]
  have : vp_V (fs.mapIdx (fun j f => m_v b (m_z μ lay.length) lay.length j f)) j = m_v b (m_z μ lay.length) lay.length j f := by
    simp [vp_V, List.getD_eq_getElem?_getD, List.getElem?_mapIdx, h1]
  rw [this]
  match f, h2 with
  | 0, _ => simp [m_v, m_z]
  | 1, _ => simp [m_v, m_z]
  | 2, _ => rfl
end MR3
-- the fresh fields of each class
def f0_0 : List Nat := [2, 2, 2, 2, 0]
theorem f0_0_ok : ∀ j, j < 5 → ∃ f, f0_0[j]? = some f ∧ f < 3 ∧ defaultValue (tyX0 j) = m_v 0 (fun _ _ => 0, fun _ _ => 0) 0 j f := by
  intro j hj
  match j, hj with
  | 0, _ => exact ⟨2, rfl, by decide, rfl⟩
  | 1, _ => exact ⟨2, rfl, by decide, rfl⟩
  | 2, _ => exact ⟨2, rfl, by decide, rfl⟩
  | 3, _ => exact ⟨2, rfl, by decide, rfl⟩
  | 4, _ => exact ⟨0, rfl, by decide, rfl⟩
  | k + 5, h => exact absurd h (by omega)
def f0_1 : List Nat := [0, 0, 0, 0, 0]
theorem f0_1_ok : ∀ j, j < 5 → ∃ f, f0_1[j]? = some f ∧ f < 3 ∧ defaultValue (tyX1 j) = m_v 0 (fun _ _ => 0, fun _ _ => 0) 0 j f := by
  intro j hj
  match j, hj with
  | 0, _ => exact ⟨0, rfl, by decide, rfl⟩
  | 1, _ => exact ⟨0, rfl, by decide, rfl⟩
  | 2, _ => exact ⟨0, rfl, by decide, rfl⟩
  | 3, _ => exact ⟨0, rfl, by decide, rfl⟩
  | 4, _ => exact ⟨0, rfl, by decide, rfl⟩
  | k + 5, h => exact absurd h (by omega)
def f0_2 : List Nat := [2, 2, 0, 0, 0]
theorem f0_2_ok : ∀ j, j < 5 → ∃ f, f0_2[j]? = some f ∧ f < 3 ∧ defaultValue (tyX2 j) = m_v 0 (fun _ _ => 0, fun _ _ => 0) 0 j f := by
  intro j hj
  match j, hj with
  | 0, _ => exact ⟨2, rfl, by decide, rfl⟩
  | 1, _ => exact ⟨2, rfl, by decide, rfl⟩
  | 2, _ => exact ⟨0, rfl, by decide, rfl⟩
  | 3, _ => exact ⟨0, rfl, by decide, rfl⟩
  | 4, _ => exact ⟨0, rfl, by decide, rfl⟩
  | k + 5, h => exact absurd h (by omega)
def f0_3 : List Nat := [0, 0, 0, 0, 0, 0, 0, 1, 1, 1, 2, 2, 2, 2, 2, 2, 2, 2]
theorem f0_3_ok : ∀ j, j < 18 → ∃ f, f0_3[j]? = some f ∧ f < 3 ∧ defaultValue (tyX3 j) = m_v 0 (fun _ _ => 0, fun _ _ => 0) 0 j f := by
  intro j hj
  match j, hj with
  | 0, _ => exact ⟨0, rfl, by decide, rfl⟩
  | 1, _ => exact ⟨0, rfl, by decide, rfl⟩
  | 2, _ => exact ⟨0, rfl, by decide, rfl⟩
  | 3, _ => exact ⟨0, rfl, by decide, rfl⟩
  | 4, _ => exact ⟨0, rfl, by decide, rfl⟩
  | 5, _ => exact ⟨0, rfl, by decide, rfl⟩
  | 6, _ => exact ⟨0, rfl, by decide, rfl⟩
  | 7, _ => exact ⟨1, rfl, by decide, rfl⟩
  | 8, _ => exact ⟨1, rfl, by decide, rfl⟩
  | 9, _ => exact ⟨1, rfl, by decide, rfl⟩
  | 10, _ => exact ⟨2, rfl, by decide, rfl⟩
  | 11, _ => exact ⟨2, rfl, by decide, rfl⟩
  | 12, _ => exact ⟨2, rfl, by decide, rfl⟩
  | 13, _ => exact ⟨2, rfl, by decide, rfl⟩
  | 14, _ => exact ⟨2, rfl, by decide, rfl⟩
  | 15, _ => exact ⟨2, rfl, by decide, rfl⟩
  | 16, _ => exact ⟨2, rfl, by decide, rfl⟩
  | 17, _ => exact ⟨2, rfl, by decide, rfl⟩
  | k + 18, h => exact absurd h (by omega)
def f0_4 : List Nat := [2, 0, 0, 2, 0, 0, 2, 2]
theorem f0_4_ok : ∀ j, j < 8 → ∃ f, f0_4[j]? = some f ∧ f < 3 ∧ defaultValue (tyX4 j) = m_v 0 (fun _ _ => 0, fun _ _ => 0) 0 j f := by
  intro j hj
  match j, hj with
  | 0, _ => exact ⟨2, rfl, by decide, rfl⟩
  | 1, _ => exact ⟨0, rfl, by decide, rfl⟩
  | 2, _ => exact ⟨0, rfl, by decide, rfl⟩
  | 3, _ => exact ⟨2, rfl, by decide, rfl⟩
  | 4, _ => exact ⟨0, rfl, by decide, rfl⟩
  | 5, _ => exact ⟨0, rfl, by decide, rfl⟩
  | 6, _ => exact ⟨2, rfl, by decide, rfl⟩
  | 7, _ => exact ⟨2, rfl, by decide, rfl⟩
  | k + 8, h => exact absurd h (by omega)
def f0_5 : List Nat := [2, 0]
theorem f0_5_ok : ∀ j, j < 2 → ∃ f, f0_5[j]? = some f ∧ f < 3 ∧ defaultValue (tyX5 j) = m_v 0 (fun _ _ => 0, fun _ _ => 0) 0 j f := by
  intro j hj
  match j, hj with
  | 0, _ => exact ⟨2, rfl, by decide, rfl⟩
  | 1, _ => exact ⟨0, rfl, by decide, rfl⟩
  | k + 2, h => exact absurd h (by omega)
def f0_6 : List Nat := [2, 0, 0]
theorem f0_6_ok : ∀ j, j < 3 → ∃ f, f0_6[j]? = some f ∧ f < 3 ∧ defaultValue (tyX6 j) = m_v 0 (fun _ _ => 0, fun _ _ => 0) 0 j f := by
  intro j hj
  match j, hj with
  | 0, _ => exact ⟨2, rfl, by decide, rfl⟩
  | 1, _ => exact ⟨0, rfl, by decide, rfl⟩
  | 2, _ => exact ⟨0, rfl, by decide, rfl⟩
  | k + 3, h => exact absurd h (by omega)
def f0_7 : List Nat := [2, 2, 2, 2, 0, 0]
theorem f0_7_ok : ∀ j, j < 6 → ∃ f, f0_7[j]? = some f ∧ f < 3 ∧ defaultValue (tyX7 j) = m_v 0 (fun _ _ => 0, fun _ _ => 0) 0 j f := by
  intro j hj
  match j, hj with
  | 0, _ => exact ⟨2, rfl, by decide, rfl⟩
  | 1, _ => exact ⟨2, rfl, by decide, rfl⟩
  | 2, _ => exact ⟨2, rfl, by decide, rfl⟩
  | 3, _ => exact ⟨2, rfl, by decide, rfl⟩
  | 4, _ => exact ⟨0, rfl, by decide, rfl⟩
  | 5, _ => exact ⟨0, rfl, by decide, rfl⟩
  | k + 6, h => exact absurd h (by omega)
def f0_8 : List Nat := [2, 2, 2]
theorem f0_8_ok : ∀ j, j < 3 → ∃ f, f0_8[j]? = some f ∧ f < 3 ∧ defaultValue (tyX8 j) = m_v 0 (fun _ _ => 0, fun _ _ => 0) 0 j f := by
  intro j hj
  match j, hj with
  | 0, _ => exact ⟨2, rfl, by decide, rfl⟩
  | 1, _ => exact ⟨2, rfl, by decide, rfl⟩
  | 2, _ => exact ⟨2, rfl, by decide, rfl⟩
  | k + 3, h => exact absurd h (by omega)
def f0_9 : List Nat := [0, 0, 0, 2, 2, 2, 2]
theorem f0_9_ok : ∀ j, j < 7 → ∃ f, f0_9[j]? = some f ∧ f < 3 ∧ defaultValue (tyX9 j) = m_v 0 (fun _ _ => 0, fun _ _ => 0) 0 j f := by
  intro j hj
  match j, hj with
  | 0, _ => exact ⟨0, rfl, by decide, rfl⟩
  | 1, _ => exact ⟨0, rfl, by decide, rfl⟩
  | 2, _ => exact ⟨0, rfl, by decide, rfl⟩
  | 3, _ => exact ⟨2, rfl, by decide, rfl⟩
  | 4, _ => exact ⟨2, rfl, by decide, rfl⟩
  | 5, _ => exact ⟨2, rfl, by decide, rfl⟩
  | 6, _ => exact ⟨2, rfl, by decide, rfl⟩
  | k + 7, h => exact absurd h (by omega)
def f0_10 : List Nat := [2, 2, 2, 2, 0, 0, 0, 2]
theorem f0_10_ok : ∀ j, j < 8 → ∃ f, f0_10[j]? = some f ∧ f < 3 ∧ defaultValue (tyX10 j) = m_v 0 (fun _ _ => 0, fun _ _ => 0) 0 j f := by
  intro j hj
  match j, hj with
  | 0, _ => exact ⟨2, rfl, by decide, rfl⟩
  | 1, _ => exact ⟨2, rfl, by decide, rfl⟩
  | 2, _ => exact ⟨2, rfl, by decide, rfl⟩
  | 3, _ => exact ⟨2, rfl, by decide, rfl⟩
  | 4, _ => exact ⟨0, rfl, by decide, rfl⟩
  | 5, _ => exact ⟨0, rfl, by decide, rfl⟩
  | 6, _ => exact ⟨0, rfl, by decide, rfl⟩
  | 7, _ => exact ⟨2, rfl, by decide, rfl⟩
  | k + 8, h => exact absurd h (by omega)
def f0_11 : List Nat := [2, 2, 2, 2, 2, 2, 2, 2, 2, 0, 0]
theorem f0_11_ok : ∀ j, j < 11 → ∃ f, f0_11[j]? = some f ∧ f < 3 ∧ defaultValue (tyX11 j) = m_v 0 (fun _ _ => 0, fun _ _ => 0) 0 j f := by
  intro j hj
  match j, hj with
  | 0, _ => exact ⟨2, rfl, by decide, rfl⟩
  | 1, _ => exact ⟨2, rfl, by decide, rfl⟩
  | 2, _ => exact ⟨2, rfl, by decide, rfl⟩
  | 3, _ => exact ⟨2, rfl, by decide, rfl⟩
  | 4, _ => exact ⟨2, rfl, by decide, rfl⟩
  | 5, _ => exact ⟨2, rfl, by decide, rfl⟩
  | 6, _ => exact ⟨2, rfl, by decide, rfl⟩
  | 7, _ => exact ⟨2, rfl, by decide, rfl⟩
  | 8, _ => exact ⟨2, rfl, by decide, rfl⟩
  | 9, _ => exact ⟨0, rfl, by decide, rfl⟩
  | 10, _ => exact ⟨0, rfl, by decide, rfl⟩
  | k + 11, h => exact absurd h (by omega)
def f0_12 : List Nat := [0, 2, 2, 2, 2, 0, 0, 0, 0, 0, 0, 0, 0, 2, 2, 2, 2, 2, 2, 2, 2, 2, 2, 2, 2, 2, 2, 2, 2, 2, 0, 2, 2, 2, 2, 0, 0, 0, 0, 0, 2, 2, 2, 2, 2, 2, 2, 2, 2, 2, 2, 0, 2, 0, 0, 0, 0, 0, 0, 0, 0, 2, 0, 2, 2, 2, 2, 0, 2, 2, 2, 2, 2, 0]
theorem f0_12_ok : ∀ j, j < 74 → ∃ f, f0_12[j]? = some f ∧ f < 3 ∧ defaultValue (tyX12 j) = m_v 0 (fun _ _ => 0, fun _ _ => 0) 0 j f := by
  intro j hj
  match j, hj with
  | 0, _ => exact ⟨0, rfl, by decide, rfl⟩
  | 1, _ => exact ⟨2, rfl, by decide, rfl⟩
  | 2, _ => exact ⟨2, rfl, by decide, rfl⟩
  | 3, _ => exact ⟨2, rfl, by decide, rfl⟩
  | 4, _ => exact ⟨2, rfl, by decide, rfl⟩
  | 5, _ => exact ⟨0, rfl, by decide, rfl⟩
  | 6, _ => exact ⟨0, rfl, by decide, rfl⟩
  | 7, _ => exact ⟨0, rfl, by decide, rfl⟩
  | 8, _ => exact ⟨0, rfl, by decide, rfl⟩
  | 9, _ => exact ⟨0, rfl, by decide, rfl⟩
  | 10, _ => exact ⟨0, rfl, by decide, rfl⟩
  | 11, _ => exact ⟨0, rfl, by decide, rfl⟩
  | 12, _ => exact ⟨0, rfl, by decide, rfl⟩
  | 13, _ => exact ⟨2, rfl, by decide, rfl⟩
  | 14, _ => exact ⟨2, rfl, by decide, rfl⟩
  | 15, _ => exact ⟨2, rfl, by decide, rfl⟩
  | 16, _ => exact ⟨2, rfl, by decide, rfl⟩
  | 17, _ => exact ⟨2, rfl, by decide, rfl⟩
  | 18, _ => exact ⟨2, rfl, by decide, rfl⟩
  | 19, _ => exact ⟨2, rfl, by decide, rfl⟩
  | 20, _ => exact ⟨2, rfl, by decide, rfl⟩
  | 21, _ => exact ⟨2, rfl, by decide, rfl⟩
  | 22, _ => exact ⟨2, rfl, by decide, rfl⟩
  | 23, _ => exact ⟨2, rfl, by decide, rfl⟩
  | 24, _ => exact ⟨2, rfl, by decide, rfl⟩
  | 25, _ => exact ⟨2, rfl, by decide, rfl⟩
  | 26, _ => exact ⟨2, rfl, by decide, rfl⟩
  | 27, _ => exact ⟨2, rfl, by decide, rfl⟩
  | 28, _ => exact ⟨2, rfl, by decide, rfl⟩
  | 29, _ => exact ⟨2, rfl, by decide, rfl⟩
  | 30, _ => exact ⟨0, rfl, by decide, rfl⟩
  | 31, _ => exact ⟨2, rfl, by decide, rfl⟩
  | 32, _ => exact ⟨2, rfl, by decide, rfl⟩
  | 33, _ => exact ⟨2, rfl, by decide, rfl⟩
  | 34, _ => exact ⟨2, rfl, by decide, rfl⟩
  | 35, _ => exact ⟨0, rfl, by decide, rfl⟩
  | 36, _ => exact ⟨0, rfl, by decide, rfl⟩
  | 37, _ => exact ⟨0, rfl, by decide, rfl⟩
  | 38, _ => exact ⟨0, rfl, by decide, rfl⟩
  | 39, _ => exact ⟨0, rfl, by decide, rfl⟩
  | 40, _ => exact ⟨2, rfl, by decide, rfl⟩
  | 41, _ => exact ⟨2, rfl, by decide, rfl⟩
  | 42, _ => exact ⟨2, rfl, by decide, rfl⟩
  | 43, _ => exact ⟨2, rfl, by decide, rfl⟩
  | 44, _ => exact ⟨2, rfl, by decide, rfl⟩
  | 45, _ => exact ⟨2, rfl, by decide, rfl⟩
  | 46, _ => exact ⟨2, rfl, by decide, rfl⟩
  | 47, _ => exact ⟨2, rfl, by decide, rfl⟩
  | 48, _ => exact ⟨2, rfl, by decide, rfl⟩
  | 49, _ => exact ⟨2, rfl, by decide, rfl⟩
  | 50, _ => exact ⟨2, rfl, by decide, rfl⟩
  | 51, _ => exact ⟨0, rfl, by decide, rfl⟩
  | 52, _ => exact ⟨2, rfl, by decide, rfl⟩
  | 53, _ => exact ⟨0, rfl, by decide, rfl⟩
  | 54, _ => exact ⟨0, rfl, by decide, rfl⟩
  | 55, _ => exact ⟨0, rfl, by decide, rfl⟩
  | 56, _ => exact ⟨0, rfl, by decide, rfl⟩
  | 57, _ => exact ⟨0, rfl, by decide, rfl⟩
  | 58, _ => exact ⟨0, rfl, by decide, rfl⟩
  | 59, _ => exact ⟨0, rfl, by decide, rfl⟩
  | 60, _ => exact ⟨0, rfl, by decide, rfl⟩
  | 61, _ => exact ⟨2, rfl, by decide, rfl⟩
  | 62, _ => exact ⟨0, rfl, by decide, rfl⟩
  | 63, _ => exact ⟨2, rfl, by decide, rfl⟩
  | 64, _ => exact ⟨2, rfl, by decide, rfl⟩
  | 65, _ => exact ⟨2, rfl, by decide, rfl⟩
  | 66, _ => exact ⟨2, rfl, by decide, rfl⟩
  | 67, _ => exact ⟨0, rfl, by decide, rfl⟩
  | 68, _ => exact ⟨2, rfl, by decide, rfl⟩
  | 69, _ => exact ⟨2, rfl, by decide, rfl⟩
  | 70, _ => exact ⟨2, rfl, by decide, rfl⟩
  | 71, _ => exact ⟨2, rfl, by decide, rfl⟩
  | 72, _ => exact ⟨2, rfl, by decide, rfl⟩
  | 73, _ => exact ⟨0, rfl, by decide, rfl⟩
  | k + 74, h => exact absurd h (by omega)
theorem m_us_snoc {P : Nat} {μ : mM} {L : List (Nat × Nat × Int32)} {i j : Nat} {v : Int32} : m_si (m_us P μ L) (P + i) j v = m_us P μ (L ++ [(i, j, v)]) := by
  simp [m_us, List.foldl_append]
def m_sh (i : Nat) (L : List (Nat × Nat × Int32)) : List (Nat × Nat × Int32) := L.map (fun u => (i + u.1, u.2.1, u.2.2))
theorem m_us_sh (P i : Nat) : ∀ (L : List (Nat × Nat × Int32)) (μ : mM), m_us (P + i) μ L = m_us P μ (m_sh i L)
  | [], _ => rfl
  | u :: L, μ => by
    show m_us (P + i) (m_si μ (P + i + u.1) u.2.1 u.2.2) L = m_us P (m_si μ (P + (i + u.1)) u.2.1 u.2.2) (m_sh i L)
    rw [m_us_sh P i L, Nat.add_assoc]
theorem m_us_join {P i : Nat} {μ : mM} {L L' : List (Nat × Nat × Int32)} : m_us (P + i) (m_us P μ L) L' = m_us P μ (L ++ m_sh i L') := by
  rw [m_us_sh]
  simp [m_us, List.foldl_append]
end
section
theorem m_max0 {a : Int32} (h : ¬ a < 0) : ¬ (if (0 : Int32) < a then a else 0) < 0 := by
  by_cases q : (0 : Int32) < a
  · rw [if_pos q]; exact h
  · rw [if_neg q]; decide
theorem m_max1 {a : Int32} {n : Nat} (h : ¬ a < 0) (ha : a.toNatClampNeg = n) : (if (0 : Int32) < a then a else 0).toNatClampNeg = n := by
  by_cases q : (0 : Int32) < a
  · rw [if_pos q]; exact ha
  · rw [if_neg q]
    have e : a = 0 := by
      have h1 := Int32.not_lt.mp h
      have h2 := Int32.not_lt.mp q
      exact Int32.le_antisymm h2 h1
    rw [e] at ha
    exact ha
set_option maxHeartbeats 4000000 in
set_option maxRecDepth 100000 in
theorem c_X5_init (l : Launch) (D : va_G) (cy : Nat → ClassId) (b : Nat) (pre : List mL) (P : Nat) (hP : pre.length = P) (lay0 lay1 : List mL) (h0 : lay0 = pre ++ [.inl (5, f0_5)]) (μ : mM) (hμ : m_Zr P μ) (a : Int32) (n : Nat) (ha : a.toNatClampNeg = n) (ha2 : ¬ a < 0 ∧ n ≤ 3600) (h1 : lay1 = pre ++ [.inl (5, [P + 1 + 3, 0]), .inr (0, n, [])]) : m_Cz l yX5_init cX5_init 2 1 1 n D cy b lay0 lay1 μ [.ref (b + P), .int a] (fun ν => ν = m_us P μ []) := by
  subst h0
  refine m_ofz (cc := cX5_init) (n := 2) (d := 1) (by decide) (Nat.le_of_ble_eq_true rfl) ?_
  intro p e s m below meth c hx hb hr hml hown hts hlocks hnm hW hz ls hl
  have hown : s.vm.findClass RX5 = some m.cls := hown
  have hl : lv_has ls 2 [(0, .ref (b + (P + 0))), (1, .int a)] := hl
  have hW : m_W D cy s b (pre ++ [.inl (5, [2, 0])]) (m_us P μ []) s.heap [] := hW
  have hz : s.heap.size = b + (P + 1) := hz.trans (congrArg (fun z => b + z) (m_suflen (n := 1) hP rfl))
  refine lv_aload_n hx hb dX5_init_0 rfl (lv_at hl 0 rfl) ?_
  refine W.objInit hx hb hown (hts _ k_X5_3) (hts _ ko_i) (hts _ ko_c) rfl (by rw [hml]; exact hl.1) rfl dX5_init_1 (Nat.le_of_ble_eq_true rfl) (Nat.le_of_ble_eq_true rfl) ?_
  refine W.eq (g2 := F0 m 4 ls []) rfl ?_
  refine lv_aload_n hx hb dX5_init_4 rfl (lv_at hl 0 rfl) ?_
  refine lv_iconst (v := 0) hx hb dX5_init_5 (by decide) ?_
  refine m_puti hx hb hts hown hW (P + 0) 1 (m_suf hP rfl) rfl cw_5 tyX5_ok nmX5 rfl (by decide) k_X5_9 rfl rfl rfl dX5_init_6 (fun H locs hW hz1 => ?_)
  have hz := hz1.trans hz
  rw [m_si_same (m_us_0 hμ [] 0 1 rfl)] at hW
  refine lv_aload_n hx hb dX5_init_9 rfl (lv_at hl 0 rfl) ?_
  refine lv_iconst (v := 0) hx hb dX5_init_10 (by decide) ?_
  refine lv_iload_n hx hb dX5_init_11 rfl (lv_at hl 1 rfl) ?_
  refine va_mmax hx hb (hml.trans hl.1.symm) hown (hts _ k_X5_15) (hts _ kM_max_s) (hts _ kM_n) (hts _ kM_max_c) (Nat.le_of_ble_eq_true rfl) (Nat.le_of_ble_eq_true rfl) (Nat.le_of_ble_eq_true rfl) (Nat.le_of_ble_eq_true rfl) dX5_init_12 ?_
  refine lv_topi (fun x1 ex1 => ?_)
  refine m_newa' (N0 := P + 1) (atype := .int) hx hb hts hW (m_suflen (n := 1) hP rfl) hz 0 ka_int (Or.inl ⟨rfl, rfl⟩) (N := n) (lay' := pre ++ [.inl (5, [2, 0]), .inr (0, n, [])]) (List.append_assoc _ _ _) (by rw [ex1]; exact m_max0 ha2.1) (by rw [ex1]; exact m_max1 ha2.1 ha) (by omega) (Nat.le_of_ble_eq_true rfl) (by show 0 + n ≤ n; omega) dX5_init_15 (fun H hW hz => ?_)
  rw [m_us_z hμ [] 1 rfl] at hW
  have hW : m_W D cy s b (pre ++ [.inl (5, [2, 0]), .inr (0, n, [])]) (m_us P μ []) H _ := hW
  have hz : H.size = b + (P + 2) := hz
  refine m_putr hx hb hts hown hW (P + 0) 0 (P + 1) (m_suf hP rfl) rfl cw_5 tyX5_ok nmX5 rfl (by decide) k_X5_21 ⟨rfl, hnm, rfl⟩ rfl rfl (lay' := pre ++ [.inl (5, [P + 1 + 3, 0]), .inr (0, n, [])]) (m_sufset hP rfl) dX5_init_17 (fun H locs hW hz1 => ?_)
  have hz := hz1.trans hz
  have hW : m_W D cy s b (pre ++ [.inl (5, [P + 1 + 3, 0]), .inr (0, n, [])]) (m_us P μ []) H _ := hW
  refine W.widen (k := 1) (n := n) (Nat.le_of_ble_eq_true rfl) (by show 0 + n ≤ n; omega) ?_
  subst h1
  exact m_zret hx hb hr hlocks hW (hz.trans (congrArg (fun z => b + z) (m_suflen (n := 2) hP rfl).symm)) rfl dX5_init_20
def U_0 : List (Nat × Nat × Int32) := [] ++ [(0, 3, 5)]
def S_0 (P : Nat) : List mL := [.inl (1, [0, 0, 0, 0, 0])]
set_option maxHeartbeats 4000000 in
set_option maxRecDepth 100000 in
theorem c_X1_init (l : Launch) (D : va_G) (cy : Nat → ClassId) (b : Nat) (pre : List mL) (P : Nat) (hP : pre.length = P) (lay0 lay1 : List mL) (h0 : lay0 = pre ++ [.inl (1, f0_1)]) (μ : mM) (hμ : m_Zr P μ) (h1 : lay1 = pre ++ (S_0 P)) : m_Cz l yX1_init cX1_init 1 1 0 0 D cy b lay0 lay1 μ [.ref (b + P)] (fun ν => ν = m_us P μ U_0) := by
  subst h0
  refine m_ofz (cc := cX1_init) (n := 1) (d := 1) (by decide) (Nat.le_of_ble_eq_true rfl) ?_
  intro p e s m below meth c hx hb hr hml hown hts hlocks hnm hW hz ls hl
  have hown : s.vm.findClass RX1 = some m.cls := hown
  have hl : lv_has ls 1 [(0, .ref (b + (P + 0)))] := hl
  have hW : m_W D cy s b (pre ++ (S_0 P)) (m_us P μ []) s.heap [] := hW
  have hz : s.heap.size = b + (P + 1) := hz.trans (congrArg (fun z => b + z) (m_suflen (n := 1) hP rfl))
  refine lv_aload_n hx hb dX1_init_0 rfl (lv_at hl 0 rfl) ?_
  refine W.objInit hx hb hown (hts _ k_X1_1) (hts _ ko_i) (hts _ ko_c) rfl (by rw [hml]; exact hl.1) rfl dX1_init_1 (Nat.le_of_ble_eq_true rfl) (Nat.le_of_ble_eq_true rfl) ?_
  refine W.eq (g2 := F0 m 4 ls []) rfl ?_
  refine lv_aload_n hx hb dX1_init_4 rfl (lv_at hl 0 rfl) ?_
  refine lv_iconst (v := 0) hx hb dX1_init_5 (by decide) ?_
  refine m_puti hx hb hts hown hW (P + 0) 0 (m_suf hP rfl) rfl cw_1 tyX1_ok nmX1 rfl (by decide) k_X1_7 rfl rfl rfl dX1_init_6 (fun H locs hW hz1 => ?_)
  have hz := hz1.trans hz
  rw [m_si_same (m_us_0 hμ [] 0 0 rfl)] at hW
  refine lv_aload_n hx hb dX1_init_9 rfl (lv_at hl 0 rfl) ?_
  refine lv_iconst (v := 0) hx hb dX1_init_10 (by decide) ?_
  refine m_puti hx hb hts hown hW (P + 0) 1 (m_suf hP rfl) rfl cw_1 tyX1_ok nmX1 rfl (by decide) k_X1_13 rfl rfl rfl dX1_init_11 (fun H locs hW hz1 => ?_)
  have hz := hz1.trans hz
  rw [m_si_same (m_us_0 hμ [] 0 1 rfl)] at hW
  refine lv_aload_n hx hb dX1_init_14 rfl (lv_at hl 0 rfl) ?_
  refine lv_iconst (v := 0) hx hb dX1_init_15 (by decide) ?_
  refine m_puti hx hb hts hown hW (P + 0) 2 (m_suf hP rfl) rfl cw_1 tyX1_ok nmX1 rfl (by decide) k_X1_16 rfl (by decide) rfl dX1_init_16 (fun H locs hW hz1 => ?_)
  have hz := hz1.trans hz
  rw [m_si_same (m_us_0 hμ [] 0 2 rfl)] at hW
  refine lv_aload_n hx hb dX1_init_19 rfl (lv_at hl 0 rfl) ?_
  refine lv_iconst (v := 5) hx hb dX1_init_20 (by decide) ?_
  refine m_puti hx hb hts hown hW (P + 0) 3 (m_suf hP rfl) rfl cw_1 tyX1_ok nmX1 rfl (by decide) k_X1_20 rfl rfl rfl dX1_init_21 (fun H locs hW hz1 => ?_)
  have hz := hz1.trans hz
  rw [m_us_snoc] at hW
  have hW : m_W D cy s b (pre ++ (S_0 P)) (m_us P μ U_0) H _ := hW
  refine lv_aload_n hx hb dX1_init_24 rfl (lv_at hl 0 rfl) ?_
  refine lv_iconst (v := 0) hx hb dX1_init_25 (by decide) ?_
  refine m_puti hx hb hts hown hW (P + 0) 4 (m_suf hP rfl) rfl cw_1 tyX1_ok nmX1 rfl (by decide) k_X1_23 rfl rfl rfl dX1_init_26 (fun H locs hW hz1 => ?_)
  have hz := hz1.trans hz
  rw [m_si_same (m_us_0 hμ U_0 0 4 rfl)] at hW
  refine W.widen (k := 0) (n := 0) (Nat.le_of_ble_eq_true rfl) (Nat.le_of_ble_eq_true rfl) ?_
  subst h1
  exact m_zret hx hb hr hlocks hW (hz.trans (congrArg (fun z => b + z) (m_suflen (n := 1) hP rfl).symm)) rfl dX1_init_29
def S_1 (P : Nat) : List mL := [.inl (2, [2, 2, 0, 0, 0]), .inr (0, 192, [])]
def S_2 (P : Nat) : List mL := [.inl (2, [P + 1 + 3, 2, 0, 0, 0]), .inr (0, 192, [])]
def S_3 (P : Nat) : List mL := [.inl (2, [P + 1 + 3, 2, 0, 0, 0]), .inr (0, 192, []), .inr (0, 192, [])]
def S_4 (P : Nat) : List mL := [.inl (2, [P + 1 + 3, P + 2 + 3, 0, 0, 0]), .inr (0, 192, []), .inr (0, 192, [])]
def S_5 (P : Nat) : List mL := [.inl (2, [2, 2, 0, 0, 0])]
set_option maxHeartbeats 4000000 in
set_option maxRecDepth 100000 in
theorem c_X2_init (l : Launch) (D : va_G) (cy : Nat → ClassId) (b : Nat) (pre : List mL) (P : Nat) (hP : pre.length = P) (lay0 lay1 : List mL) (h0 : lay0 = pre ++ [.inl (2, f0_2)]) (μ : mM) (hμ : m_Zr P μ) (h1 : lay1 = pre ++ (S_4 P)) : m_Cz l yX2_init cX2_init 1 1 2 384 D cy b lay0 lay1 μ [.ref (b + P)] (fun ν => ν = m_us P μ []) := by
  subst h0
  refine m_ofz (cc := cX2_init) (n := 1) (d := 1) (by decide) (Nat.le_of_ble_eq_true rfl) ?_
  intro p e s m below meth c hx hb hr hml hown hts hlocks hnm hW hz ls hl
  have hown : s.vm.findClass RX2 = some m.cls := hown
  have hl : lv_has ls 1 [(0, .ref (b + (P + 0)))] := hl
  have hW : m_W D cy s b (pre ++ (S_5 P)) (m_us P μ []) s.heap [] := hW
  have hz : s.heap.size = b + (P + 1) := hz.trans (congrArg (fun z => b + z) (m_suflen (n := 1) hP rfl))
  refine lv_aload_n hx hb dX2_init_0 rfl (lv_at hl 0 rfl) ?_
  refine W.objInit hx hb hown (hts _ k_X2_1) (hts _ ko_i) (hts _ ko_c) rfl (by rw [hml]; exact hl.1) rfl dX2_init_1 (Nat.le_of_ble_eq_true rfl) (Nat.le_of_ble_eq_true rfl) ?_
  refine W.eq (g2 := F0 m 4 ls []) rfl ?_
  refine lv_aload_n hx hb dX2_init_4 rfl (lv_at hl 0 rfl) ?_
  refine lv_sipush (v := 192) hx hb dX2_init_5 (by decide) ?_
  refine m_newa' (N0 := P + 1) (atype := .int) hx hb hts hW (m_suflen (n := 1) hP rfl) hz 0 ka_int (Or.inl ⟨rfl, rfl⟩) (N := 192) (lay' := pre ++ (S_1 P)) (List.append_assoc _ _ _) (by decide) (by decide) (by decide) (Nat.le_of_ble_eq_true rfl) (Nat.le_of_ble_eq_true rfl) dX2_init_8 (fun H hW hz => ?_)
  rw [m_us_z hμ [] 1 rfl] at hW
  have hW : m_W D cy s b (pre ++ (S_1 P)) (m_us P μ []) H _ := hW
  have hz : H.size = b + (P + 2) := hz
  refine m_putr hx hb hts hown hW (P + 0) 0 (P + 1) (m_suf hP rfl) rfl cw_2 tyX2_ok nmX2 rfl (by decide) k_X2_9 ⟨rfl, hnm, rfl⟩ rfl rfl (lay' := pre ++ (S_2 P)) (m_sufset hP rfl) dX2_init_10 (fun H locs hW hz1 => ?_)
  have hz := hz1.trans hz
  have hW : m_W D cy s b (pre ++ (S_2 P)) (m_us P μ []) H _ := hW
  refine lv_aload_n hx hb dX2_init_13 rfl (lv_at hl 0 rfl) ?_
  refine lv_sipush (v := 192) hx hb dX2_init_14 (by decide) ?_
  refine m_newa' (N0 := P + 2) (atype := .int) hx hb hts hW (m_suflen (n := 2) hP rfl) hz 0 ka_int (Or.inl ⟨rfl, rfl⟩) (N := 192) (lay' := pre ++ (S_3 P)) (List.append_assoc _ _ _) (by decide) (by decide) (by decide) (Nat.le_of_ble_eq_true rfl) (Nat.le_of_ble_eq_true rfl) dX2_init_17 (fun H hW hz => ?_)
  rw [m_us_z hμ [] 2 rfl] at hW
  have hW : m_W D cy s b (pre ++ (S_3 P)) (m_us P μ []) H _ := hW
  have hz : H.size = b + (P + 3) := hz
  refine m_putr hx hb hts hown hW (P + 0) 1 (P + 2) (m_suf hP rfl) rfl cw_2 tyX2_ok nmX2 rfl (by decide) k_X2_15 ⟨rfl, hnm, rfl⟩ rfl rfl (lay' := pre ++ (S_4 P)) (m_sufset hP rfl) dX2_init_19 (fun H locs hW hz1 => ?_)
  have hz := hz1.trans hz
  have hW : m_W D cy s b (pre ++ (S_4 P)) (m_us P μ []) H _ := hW
  refine lv_aload_n hx hb dX2_init_22 rfl (lv_at hl 0 rfl) ?_
  refine lv_iconst (v := 0) hx hb dX2_init_23 (by decide) ?_
  refine m_puti hx hb hts hown hW (P + 0) 2 (m_suf hP rfl) rfl cw_2 tyX2_ok nmX2 rfl (by decide) k_X2_18 rfl rfl rfl dX2_init_24 (fun H locs hW hz1 => ?_)
  have hz := hz1.trans hz
  rw [m_si_same (m_us_0 hμ [] 0 2 rfl)] at hW
  refine lv_aload_n hx hb dX2_init_27 rfl (lv_at hl 0 rfl) ?_
  refine lv_iconst (v := 0) hx hb dX2_init_28 (by decide) ?_
  refine m_puti hx hb hts hown hW (P + 0) 3 (m_suf hP rfl) rfl cw_2 tyX2_ok nmX2 rfl (by decide) k_X2_22 rfl rfl rfl dX2_init_29 (fun H locs hW hz1 => ?_)
  have hz := hz1.trans hz
  rw [m_si_same (m_us_0 hμ [] 0 3 rfl)] at hW
  refine lv_aload_n hx hb dX2_init_32 rfl (lv_at hl 0 rfl) ?_
  refine lv_iconst (v := 0) hx hb dX2_init_33 (by decide) ?_
  refine m_puti hx hb hts hown hW (P + 0) 4 (m_suf hP rfl) rfl cw_2 tyX2_ok nmX2 rfl (by decide) k_X2_25 rfl (by decide) rfl dX2_init_34 (fun H locs hW hz1 => ?_)
  have hz := hz1.trans hz
  rw [m_si_same (m_us_0 hμ [] 0 4 rfl)] at hW
  refine W.widen (k := 2) (n := 384) (Nat.le_of_ble_eq_true rfl) (Nat.le_of_ble_eq_true rfl) ?_
  subst h1
  exact m_zret hx hb hr hlocks hW (hz.trans (congrArg (fun z => b + z) (m_suflen (n := 3) hP rfl).symm)) rfl dX2_init_37
def S_6 (P : Nat) : List mL := [.inl (6, [2, 0, 0]), .inr (0, 5, [])]
def S_7 (P : Nat) : List mL := [.inl (6, [P + 1 + 3, 0, 0]), .inr (0, 5, [])]
def S_8 (P : Nat) : List mL := [.inl (6, [2, 0, 0])]
set_option maxHeartbeats 4000000 in
set_option maxRecDepth 100000 in
theorem c_X6_init (l : Launch) (D : va_G) (cy : Nat → ClassId) (b : Nat) (pre : List mL) (P : Nat) (hP : pre.length = P) (lay0 lay1 : List mL) (h0 : lay0 = pre ++ [.inl (6, f0_6)]) (μ : mM) (hμ : m_Zr P μ) (h1 : lay1 = pre ++ (S_7 P)) : m_Cz l yX6_init cX6_init 1 1 1 5 D cy b lay0 lay1 μ [.ref (b + P)] (fun ν => ν = m_us P μ []) := by
  subst h0
  refine m_ofz (cc := cX6_init) (n := 1) (d := 1) (by decide) (Nat.le_of_ble_eq_true rfl) ?_
  intro p e s m below meth c hx hb hr hml hown hts hlocks hnm hW hz ls hl
  have hown : s.vm.findClass RX6 = some m.cls := hown
  have hl : lv_has ls 1 [(0, .ref (b + (P + 0)))] := hl
  have hW : m_W D cy s b (pre ++ (S_8 P)) (m_us P μ []) s.heap [] := hW
  have hz : s.heap.size = b + (P + 1) := hz.trans (congrArg (fun z => b + z) (m_suflen (n := 1) hP rfl))
  refine lv_aload_n hx hb dX6_init_0 rfl (lv_at hl 0 rfl) ?_
  refine W.objInit hx hb hown (hts _ k_X6_3) (hts _ ko_i) (hts _ ko_c) rfl (by rw [hml]; exact hl.1) rfl dX6_init_1 (Nat.le_of_ble_eq_true rfl) (Nat.le_of_ble_eq_true rfl) ?_
  refine W.eq (g2 := F0 m 4 ls []) rfl ?_
  refine lv_aload_n hx hb dX6_init_4 rfl (lv_at hl 0 rfl) ?_
  refine lv_iconst (v := 5) hx hb dX6_init_5 (by decide) ?_
  refine m_newa' (N0 := P + 1) (atype := .int) hx hb hts hW (m_suflen (n := 1) hP rfl) hz 0 ka_int (Or.inl ⟨rfl, rfl⟩) (N := 5) (lay' := pre ++ (S_6 P)) (List.append_assoc _ _ _) (by decide) (by decide) (by decide) (Nat.le_of_ble_eq_true rfl) (Nat.le_of_ble_eq_true rfl) dX6_init_6 (fun H hW hz => ?_)
  rw [m_us_z hμ [] 1 rfl] at hW
  have hW : m_W D cy s b (pre ++ (S_6 P)) (m_us P μ []) H _ := hW
  have hz : H.size = b + (P + 2) := hz
  refine m_putr hx hb hts hown hW (P + 0) 0 (P + 1) (m_suf hP rfl) rfl cw_6 tyX6_ok nmX6 rfl (by decide) k_X6_11 ⟨rfl, hnm, rfl⟩ rfl rfl (lay' := pre ++ (S_7 P)) (m_sufset hP rfl) dX6_init_8 (fun H locs hW hz1 => ?_)
  have hz := hz1.trans hz
  have hW : m_W D cy s b (pre ++ (S_7 P)) (m_us P μ []) H _ := hW
  refine lv_aload_n hx hb dX6_init_11 rfl (lv_at hl 0 rfl) ?_
  refine lv_iconst (v := 0) hx hb dX6_init_12 (by decide) ?_
  refine m_puti hx hb hts hown hW (P + 0) 1 (m_suf hP rfl) rfl cw_6 tyX6_ok nmX6 rfl (by decide) k_X6_15 rfl rfl rfl dX6_init_13 (fun H locs hW hz1 => ?_)
  have hz := hz1.trans hz
  rw [m_si_same (m_us_0 hμ [] 0 1 rfl)] at hW
  refine lv_aload_n hx hb dX6_init_16 rfl (lv_at hl 0 rfl) ?_
  refine lv_iconst (v := 0) hx hb dX6_init_17 (by decide) ?_
  refine m_puti hx hb hts hown hW (P + 0) 2 (m_suf hP rfl) rfl cw_6 tyX6_ok nmX6 rfl (by decide) k_X6_19 rfl rfl rfl dX6_init_18 (fun H locs hW hz1 => ?_)
  have hz := hz1.trans hz
  rw [m_si_same (m_us_0 hμ [] 0 2 rfl)] at hW
  refine W.widen (k := 1) (n := 5) (Nat.le_of_ble_eq_true rfl) (Nat.le_of_ble_eq_true rfl) ?_
  subst h1
  exact m_zret hx hb hr hlocks hW (hz.trans (congrArg (fun z => b + z) (m_suflen (n := 2) hP rfl).symm)) rfl dX6_init_21
def U_1 : List (Nat × Nat × Int32) := [] ++ [(0, 4, 1)]
def S_9 (P : Nat) : List mL := [.inl (3, [0, 0, 0, 0, 0, 0, 0, 1, 1, 1, 2, 2, 2, 2, 2, 2, 2, 2])]
def S_10 (P : Nat) : List mL := [.inl (3, [0, 0, 0, 0, 0, 0, 0, 1, 1, 1, 2, 2, 2, 2, 2, 2, 2, 2]), .inl (1, [0, 0, 0, 0, 0])]
def U_2 : List (Nat × Nat × Int32) := U_1 ++ m_sh 1 U_0
def S_11 (P : Nat) : List mL := [.inl (3, [0, 0, 0, 0, 0, 0, 0, 1, 1, 1, P + 1 + 3, 2, 2, 2, 2, 2, 2, 2]), .inl (1, [0, 0, 0, 0, 0])]
def S_12 (P : Nat) : List mL := [.inl (3, [0, 0, 0, 0, 0, 0, 0, 1, 1, 1, P + 1 + 3, 2, 2, 2, 2, 2, 2, 2]), .inl (1, [0, 0, 0, 0, 0]), .inr (0, 192, [])]
def S_13 (P : Nat) : List mL := [.inl (3, [0, 0, 0, 0, 0, 0, 0, 1, 1, 1, P + 1 + 3, P + 2 + 3, 2, 2, 2, 2, 2, 2]), .inl (1, [0, 0, 0, 0, 0]), .inr (0, 192, [])]
def S_14 (P : Nat) : List mL := [.inl (3, [0, 0, 0, 0, 0, 0, 0, 1, 1, 1, P + 1 + 3, P + 2 + 3, 2, 2, 2, 2, 2, 2]), .inl (1, [0, 0, 0, 0, 0]), .inr (0, 192, []), .inr (0, 192, [])]
def S_15 (P : Nat) : List mL := [.inl (3, [0, 0, 0, 0, 0, 0, 0, 1, 1, 1, P + 1 + 3, P + 2 + 3, P + 3 + 3, 2, 2, 2, 2, 2]), .inl (1, [0, 0, 0, 0, 0]), .inr (0, 192, []), .inr (0, 192, [])]
def S_16 (P : Nat) : List mL := [.inl (3, [0, 0, 0, 0, 0, 0, 0, 1, 1, 1, P + 1 + 3, P + 2 + 3, P + 3 + 3, 2, 2, 2, 2, 2]), .inl (1, [0, 0, 0, 0, 0]), .inr (0, 192, []), .inr (0, 192, []), .inr (0, 192, [])]
def S_17 (P : Nat) : List mL := [.inl (3, [0, 0, 0, 0, 0, 0, 0, 1, 1, 1, P + 1 + 3, P + 2 + 3, P + 3 + 3, P + 4 + 3, 2, 2, 2, 2]), .inl (1, [0, 0, 0, 0, 0]), .inr (0, 192, []), .inr (0, 192, []), .inr (0, 192, [])]
def S_18 (P : Nat) : List mL := [.inl (3, [0, 0, 0, 0, 0, 0, 0, 1, 1, 1, P + 1 + 3, P + 2 + 3, P + 3 + 3, P + 4 + 3, 2, 2, 2, 2]), .inl (1, [0, 0, 0, 0, 0]), .inr (0, 192, []), .inr (0, 192, []), .inr (0, 192, []), .inr (0, 192, [])]
def S_19 (P : Nat) : List mL := [.inl (3, [0, 0, 0, 0, 0, 0, 0, 1, 1, 1, P + 1 + 3, P + 2 + 3, P + 3 + 3, P + 4 + 3, P + 5 + 3, 2, 2, 2]), .inl (1, [0, 0, 0, 0, 0]), .inr (0, 192, []), .inr (0, 192, []), .inr (0, 192, []), .inr (0, 192, [])]
def S_20 (P : Nat) : List mL := [.inl (3, [0, 0, 0, 0, 0, 0, 0, 1, 1, 1, P + 1 + 3, P + 2 + 3, P + 3 + 3, P + 4 + 3, P + 5 + 3, 2, 2, 2]), .inl (1, [0, 0, 0, 0, 0]), .inr (0, 192, []), .inr (0, 192, []), .inr (0, 192, []), .inr (0, 192, []), .inr (0, 192, [])]
def S_21 (P : Nat) : List mL := [.inl (3, [0, 0, 0, 0, 0, 0, 0, 1, 1, 1, P + 1 + 3, P + 2 + 3, P + 3 + 3, P + 4 + 3, P + 5 + 3, P + 6 + 3, 2, 2]), .inl (1, [0, 0, 0, 0, 0]), .inr (0, 192, []), .inr (0, 192, []), .inr (0, 192, []), .inr (0, 192, []), .inr (0, 192, [])]
def S_22 (P : Nat) : List mL := [.inl (3, [0, 0, 0, 0, 0, 0, 0, 1, 1, 1, P + 1 + 3, P + 2 + 3, P + 3 + 3, P + 4 + 3, P + 5 + 3, P + 6 + 3, 2, 2]), .inl (1, [0, 0, 0, 0, 0]), .inr (0, 192, []), .inr (0, 192, []), .inr (0, 192, []), .inr (0, 192, []), .inr (0, 192, []), .inr (0, 192, [])]
def S_23 (P : Nat) : List mL := [.inl (3, [0, 0, 0, 0, 0, 0, 0, 1, 1, 1, P + 1 + 3, P + 2 + 3, P + 3 + 3, P + 4 + 3, P + 5 + 3, P + 6 + 3, P + 7 + 3, 2]), .inl (1, [0, 0, 0, 0, 0]), .inr (0, 192, []), .inr (0, 192, []), .inr (0, 192, []), .inr (0, 192, []), .inr (0, 192, []), .inr (0, 192, [])]
def S_24 (P : Nat) : List mL := [.inl (3, [0, 0, 0, 0, 0, 0, 0, 1, 1, 1, P + 1 + 3, P + 2 + 3, P + 3 + 3, P + 4 + 3, P + 5 + 3, P + 6 + 3, P + 7 + 3, 2]), .inl (1, [0, 0, 0, 0, 0]), .inr (0, 192, []), .inr (0, 192, []), .inr (0, 192, []), .inr (0, 192, []), .inr (0, 192, []), .inr (0, 192, []), .inl (2, [2, 2, 0, 0, 0])]
def S_25 (P : Nat) : List mL := [.inl (3, [0, 0, 0, 0, 0, 0, 0, 1, 1, 1, P + 1 + 3, P + 2 + 3, P + 3 + 3, P + 4 + 3, P + 5 + 3, P + 6 + 3, P + 7 + 3, 2]), .inl (1, [0, 0, 0, 0, 0]), .inr (0, 192, []), .inr (0, 192, []), .inr (0, 192, []), .inr (0, 192, []), .inr (0, 192, []), .inr (0, 192, []), .inl (2, [P + 9 + 3, P + 10 + 3, 0, 0, 0]), .inr (0, 192, []), .inr (0, 192, [])]
def S_26 (P : Nat) : List mL := [.inl (3, [0, 0, 0, 0, 0, 0, 0, 1, 1, 1, P + 1 + 3, P + 2 + 3, P + 3 + 3, P + 4 + 3, P + 5 + 3, P + 6 + 3, P + 7 + 3, P + 8 + 3]), .inl (1, [0, 0, 0, 0, 0]), .inr (0, 192, []), .inr (0, 192, []), .inr (0, 192, []), .inr (0, 192, []), .inr (0, 192, []), .inr (0, 192, []), .inl (2, [P + 9 + 3, P + 10 + 3, 0, 0, 0]), .inr (0, 192, []), .inr (0, 192, [])]
set_option maxHeartbeats 4000000 in
set_option maxRecDepth 100000 in
theorem c_X3_init (l : Launch) (D : va_G) (cy : Nat → ClassId) (b : Nat) (pre : List mL) (P : Nat) (hP : pre.length = P) (lay0 lay1 : List mL) (h0 : lay0 = pre ++ [.inl (3, f0_3)]) (μ : mM) (hμ : m_Zr P μ) (h1 : lay1 = pre ++ (S_26 P)) : m_Cz l yX3_init cX3_init 1 2 10 1546 D cy b lay0 lay1 μ [.ref (b + P)] (fun ν => ν = m_us P μ U_2) := by
  subst h0
  refine m_ofz (cc := cX3_init) (n := 1) (d := 2) (by decide) (Nat.le_of_ble_eq_true rfl) ?_
  intro p e s m below meth c hx hb hr hml hown hts hlocks hnm hW hz ls hl
  have hown : s.vm.findClass RX3 = some m.cls := hown
  have hl : lv_has ls 1 [(0, .ref (b + (P + 0)))] := hl
  have hW : m_W D cy s b (pre ++ (S_9 P)) (m_us P μ []) s.heap [] := hW
  have hz : s.heap.size = b + (P + 1) := hz.trans (congrArg (fun z => b + z) (m_suflen (n := 1) hP rfl))
  refine lv_aload_n hx hb dX3_init_0 rfl (lv_at hl 0 rfl) ?_
  refine W.objInit hx hb hown (hts _ k_X3_5) (hts _ ko_i) (hts _ ko_c) rfl (by rw [hml]; exact hl.1) rfl dX3_init_1 (Nat.le_of_ble_eq_true rfl) (Nat.le_of_ble_eq_true rfl) ?_
  refine W.eq (g2 := F0 m 4 ls []) rfl ?_
  refine lv_aload_n hx hb dX3_init_4 rfl (lv_at hl 0 rfl) ?_
  refine lv_iconst (v := 0) hx hb dX3_init_5 (by decide) ?_
  refine m_puti hx hb hts hown hW (P + 0) 0 (m_suf hP rfl) rfl cw_3 tyX3_ok nmX3 rfl (by decide) k_X3_11 rfl rfl rfl dX3_init_6 (fun H locs hW hz1 => ?_)
  have hz := hz1.trans hz
  rw [m_si_same (m_us_0 hμ [] 0 0 rfl)] at hW
  refine lv_aload_n hx hb dX3_init_9 rfl (lv_at hl 0 rfl) ?_
  refine lv_iconst (v := 0) hx hb dX3_init_10 (by decide) ?_
  refine m_puti hx hb hts hown hW (P + 0) 1 (m_suf hP rfl) rfl cw_3 tyX3_ok nmX3 rfl (by decide) k_X3_15 rfl rfl rfl dX3_init_11 (fun H locs hW hz1 => ?_)
  have hz := hz1.trans hz
  rw [m_si_same (m_us_0 hμ [] 0 1 rfl)] at hW
  refine lv_aload_n hx hb dX3_init_14 rfl (lv_at hl 0 rfl) ?_
  refine lv_iconst (v := 0) hx hb dX3_init_15 (by decide) ?_
  refine m_puti hx hb hts hown hW (P + 0) 2 (m_suf hP rfl) rfl cw_3 tyX3_ok nmX3 rfl (by decide) k_X3_18 rfl rfl rfl dX3_init_16 (fun H locs hW hz1 => ?_)
  have hz := hz1.trans hz
  rw [m_si_same (m_us_0 hμ [] 0 2 rfl)] at hW
  refine lv_aload_n hx hb dX3_init_19 rfl (lv_at hl 0 rfl) ?_
  refine lv_iconst (v := 0) hx hb dX3_init_20 (by decide) ?_
  refine m_puti hx hb hts hown hW (P + 0) 3 (m_suf hP rfl) rfl cw_3 tyX3_ok nmX3 rfl (by decide) k_X3_21 rfl rfl rfl dX3_init_21 (fun H locs hW hz1 => ?_)
  have hz := hz1.trans hz
  rw [m_si_same (m_us_0 hμ [] 0 3 rfl)] at hW
  refine lv_aload_n hx hb dX3_init_24 rfl (lv_at hl 0 rfl) ?_
  refine lv_iconst (v := 1) hx hb dX3_init_25 (by decide) ?_
  refine m_puti hx hb hts hown hW (P + 0) 4 (m_suf hP rfl) rfl cw_3 tyX3_ok nmX3 rfl (by decide) k_X3_24 rfl rfl rfl dX3_init_26 (fun H locs hW hz1 => ?_)
  have hz := hz1.trans hz
  rw [m_us_snoc] at hW
  have hW : m_W D cy s b (pre ++ (S_9 P)) (m_us P μ U_1) H _ := hW
  refine lv_aload_n hx hb dX3_init_29 rfl (lv_at hl 0 rfl) ?_
  refine lv_iconst (v := 0) hx hb dX3_init_30 (by decide) ?_
  refine m_puti hx hb hts hown hW (P + 0) 5 (m_suf hP rfl) rfl cw_3 tyX3_ok nmX3 rfl (by decide) k_X3_27 rfl rfl rfl dX3_init_31 (fun H locs hW hz1 => ?_)
  have hz := hz1.trans hz
  rw [m_si_same (m_us_0 hμ U_1 0 5 rfl)] at hW
  refine lv_aload_n hx hb dX3_init_34 rfl (lv_at hl 0 rfl) ?_
  refine lv_iconst (v := 0) hx hb dX3_init_35 (by decide) ?_
  refine m_puti hx hb hts hown hW (P + 0) 6 (m_suf hP rfl) rfl cw_3 tyX3_ok nmX3 rfl (by decide) k_X3_30 rfl rfl rfl dX3_init_36 (fun H locs hW hz1 => ?_)
  have hz := hz1.trans hz
  rw [m_si_same (m_us_0 hμ U_1 0 6 rfl)] at hW
  refine lv_aload_n hx hb dX3_init_39 rfl (lv_at hl 0 rfl) ?_
  refine lv_lconst (v := 0) hx hb dX3_init_40 (by decide) ?_
  refine m_putl hx hb hts hown hW (P + 0) 7 (m_suf hP rfl) rfl cw_3 tyX3_ok nmX3 rfl (by decide) k_X3_33 rfl rfl rfl dX3_init_41 (fun H locs hW hz1 => ?_)
  have hz := hz1.trans hz
  rw [m_sl_same (m_us_0l hμ U_1 0 7)] at hW
  refine lv_aload_n hx hb dX3_init_44 rfl (lv_at hl 0 rfl) ?_
  refine lv_lconst (v := 0) hx hb dX3_init_45 (by decide) ?_
  refine m_putl hx hb hts hown hW (P + 0) 8 (m_suf hP rfl) rfl cw_3 tyX3_ok nmX3 rfl (by decide) k_X3_37 rfl rfl rfl dX3_init_46 (fun H locs hW hz1 => ?_)
  have hz := hz1.trans hz
  rw [m_sl_same (m_us_0l hμ U_1 0 8)] at hW
  refine lv_aload_n hx hb dX3_init_49 rfl (lv_at hl 0 rfl) ?_
  refine lv_lconst (v := 0) hx hb dX3_init_50 (by decide) ?_
  refine m_putl hx hb hts hown hW (P + 0) 9 (m_suf hP rfl) rfl cw_3 tyX3_ok nmX3 rfl (by decide) k_X3_40 rfl rfl rfl dX3_init_51 (fun H locs hW hz1 => ?_)
  have hz := hz1.trans hz
  rw [m_sl_same (m_us_0l hμ U_1 0 9)] at hW
  refine lv_aload_n hx hb dX3_init_54 rfl (lv_at hl 0 rfl) ?_
  refine m_new' (N0 := P + 1) hx hb hts hown hW (m_suflen (n := 1) hP rfl) hz cw_1 tyX1_ok k_X3_43 ki_X1 kn_X1 rfl f0_1 (lay' := pre ++ (S_10 P)) (List.append_assoc _ _ _) f0_1_ok (Nat.le_of_ble_eq_true rfl) (Nat.le_of_ble_eq_true rfl) dX3_init_55 (fun H hW hz => ?_)
  rw [m_us_z hμ U_1 1 rfl] at hW
  have hW : m_W D cy s b (pre ++ (S_10 P)) (m_us P μ U_1) H _ := hW
  have hz : H.size = b + (P + 2) := hz
  refine lv_dup hx hb dX3_init_58 rfl ?_
  refine m_aZ hW (m_runIN (As := []) (rest := [.ref (b + (P + 1)), .ref (b + (P + 0))]) hx hb hml hown hts hW (hz.trans (congrArg (fun z => b + z) (m_suflen (n := 2) hP rfl).symm)) (P + 1) (c_X1_init l D cy b (pre ++ (S_9 P)) (P + 1) (m_suflen (n := 1) hP rfl) _ (pre ++ (S_10 P)) ((List.append_assoc _ _ _).symm) (m_us P μ U_1) (m_us_zr hμ U_1 1 rfl) (List.append_assoc pre (S_9 P) [.inl (1, [0, 0, 0, 0, 0])]).symm) mc_X1_init n_X3_45 rfl hl.1 rfl (Nat.le_of_ble_eq_true rfl) dX3_init_59 ⟨Nat.le_of_ble_eq_true rfl, Nat.le_of_ble_eq_true rfl⟩ ⟨Nat.le_of_ble_eq_true rfl, Nat.le_of_ble_eq_true rfl⟩) (fun ν H locs hν hW hz => ?_)
  rw [hν, m_us_join] at hW
  have hW : m_W D cy s b (pre ++ (S_10 P)) (m_us P μ U_2) H _ := hW
  have hz : H.size = b + (P + 2) := hz.trans (congrArg (fun z => b + z) (m_suflen (n := 2) hP rfl))
  refine m_putr hx hb hts hown hW (P + 0) 10 (P + 1) (m_suf hP rfl) rfl cw_3 tyX3_ok nmX3 rfl (by decide) k_X3_46 ⟨rfl, hnm, rfl⟩ rfl rfl (lay' := pre ++ (S_11 P)) (m_sufset hP rfl) dX3_init_62 (fun H locs hW hz1 => ?_)
  have hz := hz1.trans hz
  have hW : m_W D cy s b (pre ++ (S_11 P)) (m_us P μ U_2) H _ := hW
  refine lv_aload_n hx hb dX3_init_65 rfl (lv_at hl 0 rfl) ?_
  refine lv_sipush (v := 192) hx hb dX3_init_66 (by decide) ?_
  refine m_newa' (N0 := P + 2) (atype := .int) hx hb hts hW (m_suflen (n := 2) hP rfl) hz 0 ka_int (Or.inl ⟨rfl, rfl⟩) (N := 192) (lay' := pre ++ (S_12 P)) (List.append_assoc _ _ _) (by decide) (by decide) (by decide) (Nat.le_of_ble_eq_true rfl) (Nat.le_of_ble_eq_true rfl) dX3_init_69 (fun H hW hz => ?_)
  rw [m_us_z hμ U_2 2 rfl] at hW
  have hW : m_W D cy s b (pre ++ (S_12 P)) (m_us P μ U_2) H _ := hW
  have hz : H.size = b + (P + 3) := hz
  refine m_putr hx hb hts hown hW (P + 0) 11 (P + 2) (m_suf hP rfl) rfl cw_3 tyX3_ok nmX3 rfl (by decide) k_X3_50 ⟨rfl, hnm, rfl⟩ rfl rfl (lay' := pre ++ (S_13 P)) (m_sufset hP rfl) dX3_init_71 (fun H locs hW hz1 => ?_)
  have hz := hz1.trans hz
  have hW : m_W D cy s b (pre ++ (S_13 P)) (m_us P μ U_2) H _ := hW
  refine lv_aload_n hx hb dX3_init_74 rfl (lv_at hl 0 rfl) ?_
  refine lv_sipush (v := 192) hx hb dX3_init_75 (by decide) ?_
  refine m_newa' (N0 := P + 3) (atype := .int) hx hb hts hW (m_suflen (n := 3) hP rfl) hz 0 ka_int (Or.inl ⟨rfl, rfl⟩) (N := 192) (lay' := pre ++ (S_14 P)) (List.append_assoc _ _ _) (by decide) (by decide) (by decide) (Nat.le_of_ble_eq_true rfl) (Nat.le_of_ble_eq_true rfl) dX3_init_78 (fun H hW hz => ?_)
  rw [m_us_z hμ U_2 3 rfl] at hW
  have hW : m_W D cy s b (pre ++ (S_14 P)) (m_us P μ U_2) H _ := hW
  have hz : H.size = b + (P + 4) := hz
  refine m_putr hx hb hts hown hW (P + 0) 12 (P + 3) (m_suf hP rfl) rfl cw_3 tyX3_ok nmX3 rfl (by decide) k_X3_54 ⟨rfl, hnm, rfl⟩ rfl rfl (lay' := pre ++ (S_15 P)) (m_sufset hP rfl) dX3_init_80 (fun H locs hW hz1 => ?_)
  have hz := hz1.trans hz
  have hW : m_W D cy s b (pre ++ (S_15 P)) (m_us P μ U_2) H _ := hW
  refine lv_aload_n hx hb dX3_init_83 rfl (lv_at hl 0 rfl) ?_
  refine lv_sipush (v := 192) hx hb dX3_init_84 (by decide) ?_
  refine m_newa' (N0 := P + 4) (atype := .int) hx hb hts hW (m_suflen (n := 4) hP rfl) hz 0 ka_int (Or.inl ⟨rfl, rfl⟩) (N := 192) (lay' := pre ++ (S_16 P)) (List.append_assoc _ _ _) (by decide) (by decide) (by decide) (Nat.le_of_ble_eq_true rfl) (Nat.le_of_ble_eq_true rfl) dX3_init_87 (fun H hW hz => ?_)
  rw [m_us_z hμ U_2 4 rfl] at hW
  have hW : m_W D cy s b (pre ++ (S_16 P)) (m_us P μ U_2) H _ := hW
  have hz : H.size = b + (P + 5) := hz
  refine m_putr hx hb hts hown hW (P + 0) 13 (P + 4) (m_suf hP rfl) rfl cw_3 tyX3_ok nmX3 rfl (by decide) k_X3_57 ⟨rfl, hnm, rfl⟩ rfl rfl (lay' := pre ++ (S_17 P)) (m_sufset hP rfl) dX3_init_89 (fun H locs hW hz1 => ?_)
  have hz := hz1.trans hz
  have hW : m_W D cy s b (pre ++ (S_17 P)) (m_us P μ U_2) H _ := hW
  refine lv_aload_n hx hb dX3_init_92 rfl (lv_at hl 0 rfl) ?_
  refine lv_sipush (v := 192) hx hb dX3_init_93 (by decide) ?_
  refine m_newa' (N0 := P + 5) (atype := .int) hx hb hts hW (m_suflen (n := 5) hP rfl) hz 0 ka_int (Or.inl ⟨rfl, rfl⟩) (N := 192) (lay' := pre ++ (S_18 P)) (List.append_assoc _ _ _) (by decide) (by decide) (by decide) (Nat.le_of_ble_eq_true rfl) (Nat.le_of_ble_eq_true rfl) dX3_init_96 (fun H hW hz => ?_)
  rw [m_us_z hμ U_2 5 rfl] at hW
  have hW : m_W D cy s b (pre ++ (S_18 P)) (m_us P μ U_2) H _ := hW
  have hz : H.size = b + (P + 6) := hz
  refine m_putr hx hb hts hown hW (P + 0) 14 (P + 5) (m_suf hP rfl) rfl cw_3 tyX3_ok nmX3 rfl (by decide) k_X3_60 ⟨rfl, hnm, rfl⟩ rfl rfl (lay' := pre ++ (S_19 P)) (m_sufset hP rfl) dX3_init_98 (fun H locs hW hz1 => ?_)
  have hz := hz1.trans hz
  have hW : m_W D cy s b (pre ++ (S_19 P)) (m_us P μ U_2) H _ := hW
  refine lv_aload_n hx hb dX3_init_101 rfl (lv_at hl 0 rfl) ?_
  refine lv_sipush (v := 192) hx hb dX3_init_102 (by decide) ?_
  refine m_newa' (N0 := P + 6) (atype := .int) hx hb hts hW (m_suflen (n := 6) hP rfl) hz 0 ka_int (Or.inl ⟨rfl, rfl⟩) (N := 192) (lay' := pre ++ (S_20 P)) (List.append_assoc _ _ _) (by decide) (by decide) (by decide) (Nat.le_of_ble_eq_true rfl) (Nat.le_of_ble_eq_true rfl) dX3_init_105 (fun H hW hz => ?_)
  rw [m_us_z hμ U_2 6 rfl] at hW
  have hW : m_W D cy s b (pre ++ (S_20 P)) (m_us P μ U_2) H _ := hW
  have hz : H.size = b + (P + 7) := hz
  refine m_putr hx hb hts hown hW (P + 0) 15 (P + 6) (m_suf hP rfl) rfl cw_3 tyX3_ok nmX3 rfl (by decide) k_X3_63 ⟨rfl, hnm, rfl⟩ rfl rfl (lay' := pre ++ (S_21 P)) (m_sufset hP rfl) dX3_init_107 (fun H locs hW hz1 => ?_)
  have hz := hz1.trans hz
  have hW : m_W D cy s b (pre ++ (S_21 P)) (m_us P μ U_2) H _ := hW
  refine lv_aload_n hx hb dX3_init_110 rfl (lv_at hl 0 rfl) ?_
  refine lv_sipush (v := 192) hx hb dX3_init_111 (by decide) ?_
  refine m_newa' (N0 := P + 7) (atype := .int) hx hb hts hW (m_suflen (n := 7) hP rfl) hz 0 ka_int (Or.inl ⟨rfl, rfl⟩) (N := 192) (lay' := pre ++ (S_22 P)) (List.append_assoc _ _ _) (by decide) (by decide) (by decide) (Nat.le_of_ble_eq_true rfl) (Nat.le_of_ble_eq_true rfl) dX3_init_114 (fun H hW hz => ?_)
  rw [m_us_z hμ U_2 7 rfl] at hW
  have hW : m_W D cy s b (pre ++ (S_22 P)) (m_us P μ U_2) H _ := hW
  have hz : H.size = b + (P + 8) := hz
  refine m_putr hx hb hts hown hW (P + 0) 16 (P + 7) (m_suf hP rfl) rfl cw_3 tyX3_ok nmX3 rfl (by decide) k_X3_66 ⟨rfl, hnm, rfl⟩ rfl rfl (lay' := pre ++ (S_23 P)) (m_sufset hP rfl) dX3_init_116 (fun H locs hW hz1 => ?_)
  have hz := hz1.trans hz
  have hW : m_W D cy s b (pre ++ (S_23 P)) (m_us P μ U_2) H _ := hW
  refine lv_aload_n hx hb dX3_init_119 rfl (lv_at hl 0 rfl) ?_
  refine m_new' (N0 := P + 8) hx hb hts hown hW (m_suflen (n := 8) hP rfl) hz cw_2 tyX2_ok k_X3_69 ki_X2 kn_X2 rfl f0_2 (lay' := pre ++ (S_24 P)) (List.append_assoc _ _ _) f0_2_ok (Nat.le_of_ble_eq_true rfl) (Nat.le_of_ble_eq_true rfl) dX3_init_120 (fun H hW hz => ?_)
  rw [m_us_z hμ U_2 8 rfl] at hW
  have hW : m_W D cy s b (pre ++ (S_24 P)) (m_us P μ U_2) H _ := hW
  have hz : H.size = b + (P + 9) := hz
  refine lv_dup hx hb dX3_init_123 rfl ?_
  refine m_aZ hW (m_runIN (As := []) (rest := [.ref (b + (P + 8)), .ref (b + (P + 0))]) hx hb hml hown hts hW (hz.trans (congrArg (fun z => b + z) (m_suflen (n := 9) hP rfl).symm)) (P + 8) (c_X2_init l D cy b (pre ++ (S_23 P)) (P + 8) (m_suflen (n := 8) hP rfl) _ (pre ++ (S_25 P)) ((List.append_assoc _ _ _).symm) (m_us P μ U_2) (m_us_zr hμ U_2 8 rfl) (List.append_assoc pre (S_23 P) [.inl (2, [P + 9 + 3, P + 10 + 3, 0, 0, 0]), .inr (0, 192, []), .inr (0, 192, [])]).symm) mc_X2_init n_X3_71 rfl hl.1 rfl (Nat.le_of_ble_eq_true rfl) dX3_init_124 ⟨Nat.le_of_ble_eq_true rfl, Nat.le_of_ble_eq_true rfl⟩ ⟨Nat.le_of_ble_eq_true rfl, Nat.le_of_ble_eq_true rfl⟩) (fun ν H locs hν hW hz => ?_)
  rw [hν] at hW
  have hW : m_W D cy s b (pre ++ (S_25 P)) (m_us P μ U_2) H _ := hW
  have hz : H.size = b + (P + 11) := hz.trans (congrArg (fun z => b + z) (m_suflen (n := 11) hP rfl))
  refine m_putr hx hb hts hown hW (P + 0) 17 (P + 8) (m_suf hP rfl) rfl cw_3 tyX3_ok nmX3 rfl (by decide) k_X3_72 ⟨rfl, hnm, rfl⟩ rfl rfl (lay' := pre ++ (S_26 P)) (m_sufset hP rfl) dX3_init_127 (fun H locs hW hz1 => ?_)
  have hz := hz1.trans hz
  have hW : m_W D cy s b (pre ++ (S_26 P)) (m_us P μ U_2) H _ := hW
  refine W.widen (k := 10) (n := 1546) (Nat.le_of_ble_eq_true rfl) (Nat.le_of_ble_eq_true rfl) ?_
  subst h1
  exact m_zret hx hb hr hlocks hW (hz.trans (congrArg (fun z => b + z) (m_suflen (n := 11) hP rfl).symm)) rfl dX3_init_130
def S_27 (P : Nat) : List mL := [.inl (8, [2, 2, 2]), .inl (5, [2, 0])]
def S_28 (P : Nat) : List mL := [.inl (8, [2, 2, 2])]
def S_29 (P : Nat) : List mL := [.inl (8, [2, 2, 2]), .inl (5, [P + 2 + 3, 0]), .inr (0, 401, [])]
def S_30 (P : Nat) : List mL := [.inl (8, [P + 1 + 3, 2, 2]), .inl (5, [P + 2 + 3, 0]), .inr (0, 401, [])]
def S_31 (P : Nat) : List mL := [.inl (8, [P + 1 + 3, 2, 2]), .inl (5, [P + 2 + 3, 0]), .inr (0, 401, []), .inl (5, [2, 0])]
def S_32 (P : Nat) : List mL := [.inl (8, [P + 1 + 3, 2, 2]), .inl (5, [P + 2 + 3, 0]), .inr (0, 401, []), .inl (5, [P + 4 + 3, 0]), .inr (0, 401, [])]
def S_33 (P : Nat) : List mL := [.inl (8, [P + 1 + 3, P + 3 + 3, 2]), .inl (5, [P + 2 + 3, 0]), .inr (0, 401, []), .inl (5, [P + 4 + 3, 0]), .inr (0, 401, [])]
def S_34 (P : Nat) : List mL := [.inl (8, [P + 1 + 3, P + 3 + 3, 2]), .inl (5, [P + 2 + 3, 0]), .inr (0, 401, []), .inl (5, [P + 4 + 3, 0]), .inr (0, 401, []), .inl (5, [2, 0])]
def S_35 (P : Nat) : List mL := [.inl (8, [P + 1 + 3, P + 3 + 3, 2]), .inl (5, [P + 2 + 3, 0]), .inr (0, 401, []), .inl (5, [P + 4 + 3, 0]), .inr (0, 401, []), .inl (5, [P + 6 + 3, 0]), .inr (0, 401, [])]
def S_36 (P : Nat) : List mL := [.inl (8, [P + 1 + 3, P + 3 + 3, P + 5 + 3]), .inl (5, [P + 2 + 3, 0]), .inr (0, 401, []), .inl (5, [P + 4 + 3, 0]), .inr (0, 401, []), .inl (5, [P + 6 + 3, 0]), .inr (0, 401, [])]
set_option maxHeartbeats 4000000 in
set_option maxRecDepth 100000 in
theorem c_X8_init (l : Launch) (D : va_G) (cy : Nat → ClassId) (b : Nat) (pre : List mL) (P : Nat) (hP : pre.length = P) (lay0 lay1 : List mL) (h0 : lay0 = pre ++ [.inl (8, f0_8)]) (μ : mM) (hμ : m_Zr P μ) (h1 : lay1 = pre ++ (S_36 P)) : m_Cz l yX8_init cX8_init 1 2 6 1209 D cy b lay0 lay1 μ [.ref (b + P)] (fun ν => ν = m_us P μ []) := by
  subst h0
  refine m_ofz (cc := cX8_init) (n := 1) (d := 2) (by decide) (Nat.le_of_ble_eq_true rfl) ?_
  intro p e s m below meth c hx hb hr hml hown hts hlocks hnm hW hz ls hl
  have hown : s.vm.findClass RX8 = some m.cls := hown
  have hl : lv_has ls 1 [(0, .ref (b + (P + 0)))] := hl
  have hW : m_W D cy s b (pre ++ (S_28 P)) (m_us P μ []) s.heap [] := hW
  have hz : s.heap.size = b + (P + 1) := hz.trans (congrArg (fun z => b + z) (m_suflen (n := 1) hP rfl))
  refine lv_aload_n hx hb dX8_init_0 rfl (lv_at hl 0 rfl) ?_
  refine W.objInit hx hb hown (hts _ k_X8_3) (hts _ ko_i) (hts _ ko_c) rfl (by rw [hml]; exact hl.1) rfl dX8_init_1 (Nat.le_of_ble_eq_true rfl) (Nat.le_of_ble_eq_true rfl) ?_
  refine W.eq (g2 := F0 m 4 ls []) rfl ?_
  refine lv_aload_n hx hb dX8_init_4 rfl (lv_at hl 0 rfl) ?_
  refine m_new' (N0 := P + 1) hx hb hts hown hW (m_suflen (n := 1) hP rfl) hz cw_5 tyX5_ok k_X8_9 ki_X5 kn_X5 rfl f0_5 (lay' := pre ++ (S_27 P)) (List.append_assoc _ _ _) f0_5_ok (Nat.le_of_ble_eq_true rfl) (Nat.le_of_ble_eq_true rfl) dX8_init_5 (fun H hW hz => ?_)
  rw [m_us_z hμ [] 1 rfl] at hW
  have hW : m_W D cy s b (pre ++ (S_27 P)) (m_us P μ []) H _ := hW
  have hz : H.size = b + (P + 2) := hz
  refine lv_dup hx hb dX8_init_8 rfl ?_
  refine lv_sipush (v := 401) hx hb dX8_init_9 (by decide) ?_
  refine m_aZ hW (m_runI (As := [.int 401]) (rest := [.ref (b + (P + 1)), .ref (b + (P + 0))]) hx hb hml hown hts hW (hz.trans (congrArg (fun z => b + z) (m_suflen (n := 2) hP rfl).symm)) (P + 1) (c_X5_init l D cy b (pre ++ (S_28 P)) (P + 1) (m_suflen (n := 1) hP rfl) _ (pre ++ (S_29 P)) ((List.append_assoc _ _ _).symm) (m_us P μ []) (m_us_zr hμ [] 1 rfl) 401 401 (by decide) (by decide) (List.append_assoc pre (S_28 P) [.inl (5, [P + 2 + 3, 0]), .inr (0, 401, [])]).symm) mc_X5_init k_X8_11 rfl hl.1 rfl (Nat.le_of_ble_eq_true rfl) dX8_init_12 ⟨Nat.le_of_ble_eq_true rfl, Nat.le_of_ble_eq_true rfl⟩ ⟨Nat.le_of_ble_eq_true rfl, Nat.le_of_ble_eq_true rfl⟩) (fun ν H locs hν hW hz => ?_)
  rw [hν] at hW
  have hW : m_W D cy s b (pre ++ (S_29 P)) (m_us P μ []) H _ := hW
  have hz : H.size = b + (P + 3) := hz.trans (congrArg (fun z => b + z) (m_suflen (n := 3) hP rfl))
  refine m_putr hx hb hts hown hW (P + 0) 0 (P + 1) (m_suf hP rfl) rfl cw_8 tyX8_ok nmX8 rfl (by decide) k_X8_14 ⟨rfl, hnm, rfl⟩ rfl rfl (lay' := pre ++ (S_30 P)) (m_sufset hP rfl) dX8_init_15 (fun H locs hW hz1 => ?_)
  have hz := hz1.trans hz
  have hW : m_W D cy s b (pre ++ (S_30 P)) (m_us P μ []) H _ := hW
  refine lv_aload_n hx hb dX8_init_18 rfl (lv_at hl 0 rfl) ?_
  refine m_new' (N0 := P + 3) hx hb hts hown hW (m_suflen (n := 3) hP rfl) hz cw_5 tyX5_ok k_X8_9 ki_X5 kn_X5 rfl f0_5 (lay' := pre ++ (S_31 P)) (List.append_assoc _ _ _) f0_5_ok (Nat.le_of_ble_eq_true rfl) (Nat.le_of_ble_eq_true rfl) dX8_init_19 (fun H hW hz => ?_)
  rw [m_us_z hμ [] 3 rfl] at hW
  have hW : m_W D cy s b (pre ++ (S_31 P)) (m_us P μ []) H _ := hW
  have hz : H.size = b + (P + 4) := hz
  refine lv_dup hx hb dX8_init_22 rfl ?_
  refine lv_sipush (v := 401) hx hb dX8_init_23 (by decide) ?_
  refine m_aZ hW (m_runI (As := [.int 401]) (rest := [.ref (b + (P + 3)), .ref (b + (P + 0))]) hx hb hml hown hts hW (hz.trans (congrArg (fun z => b + z) (m_suflen (n := 4) hP rfl).symm)) (P + 3) (c_X5_init l D cy b (pre ++ (S_30 P)) (P + 3) (m_suflen (n := 3) hP rfl) _ (pre ++ (S_32 P)) ((List.append_assoc _ _ _).symm) (m_us P μ []) (m_us_zr hμ [] 3 rfl) 401 401 (by decide) (by decide) (List.append_assoc pre (S_30 P) [.inl (5, [P + 4 + 3, 0]), .inr (0, 401, [])]).symm) mc_X5_init k_X8_11 rfl hl.1 rfl (Nat.le_of_ble_eq_true rfl) dX8_init_26 ⟨Nat.le_of_ble_eq_true rfl, Nat.le_of_ble_eq_true rfl⟩ ⟨Nat.le_of_ble_eq_true rfl, Nat.le_of_ble_eq_true rfl⟩) (fun ν H locs hν hW hz => ?_)
  rw [hν] at hW
  have hW : m_W D cy s b (pre ++ (S_32 P)) (m_us P μ []) H _ := hW
  have hz : H.size = b + (P + 5) := hz.trans (congrArg (fun z => b + z) (m_suflen (n := 5) hP rfl))
  refine m_putr hx hb hts hown hW (P + 0) 1 (P + 3) (m_suf hP rfl) rfl cw_8 tyX8_ok nmX8 rfl (by decide) k_X8_20 ⟨rfl, hnm, rfl⟩ rfl rfl (lay' := pre ++ (S_33 P)) (m_sufset hP rfl) dX8_init_29 (fun H locs hW hz1 => ?_)
  have hz := hz1.trans hz
  have hW : m_W D cy s b (pre ++ (S_33 P)) (m_us P μ []) H _ := hW
  refine lv_aload_n hx hb dX8_init_32 rfl (lv_at hl 0 rfl) ?_
  refine m_new' (N0 := P + 5) hx hb hts hown hW (m_suflen (n := 5) hP rfl) hz cw_5 tyX5_ok k_X8_9 ki_X5 kn_X5 rfl f0_5 (lay' := pre ++ (S_34 P)) (List.append_assoc _ _ _) f0_5_ok (Nat.le_of_ble_eq_true rfl) (Nat.le_of_ble_eq_true rfl) dX8_init_33 (fun H hW hz => ?_)
  rw [m_us_z hμ [] 5 rfl] at hW
  have hW : m_W D cy s b (pre ++ (S_34 P)) (m_us P μ []) H _ := hW
  have hz : H.size = b + (P + 6) := hz
  refine lv_dup hx hb dX8_init_36 rfl ?_
  refine lv_sipush (v := 401) hx hb dX8_init_37 (by decide) ?_
  refine m_aZ hW (m_runI (As := [.int 401]) (rest := [.ref (b + (P + 5)), .ref (b + (P + 0))]) hx hb hml hown hts hW (hz.trans (congrArg (fun z => b + z) (m_suflen (n := 6) hP rfl).symm)) (P + 5) (c_X5_init l D cy b (pre ++ (S_33 P)) (P + 5) (m_suflen (n := 5) hP rfl) _ (pre ++ (S_35 P)) ((List.append_assoc _ _ _).symm) (m_us P μ []) (m_us_zr hμ [] 5 rfl) 401 401 (by decide) (by decide) (List.append_assoc pre (S_33 P) [.inl (5, [P + 6 + 3, 0]), .inr (0, 401, [])]).symm) mc_X5_init k_X8_11 rfl hl.1 rfl (Nat.le_of_ble_eq_true rfl) dX8_init_40 ⟨Nat.le_of_ble_eq_true rfl, Nat.le_of_ble_eq_true rfl⟩ ⟨Nat.le_of_ble_eq_true rfl, Nat.le_of_ble_eq_true rfl⟩) (fun ν H locs hν hW hz => ?_)
  rw [hν] at hW
  have hW : m_W D cy s b (pre ++ (S_35 P)) (m_us P μ []) H _ := hW
  have hz : H.size = b + (P + 7) := hz.trans (congrArg (fun z => b + z) (m_suflen (n := 7) hP rfl))
  refine m_putr hx hb hts hown hW (P + 0) 2 (P + 5) (m_suf hP rfl) rfl cw_8 tyX8_ok nmX8 rfl (by decide) k_X8_23 ⟨rfl, hnm, rfl⟩ rfl rfl (lay' := pre ++ (S_36 P)) (m_sufset hP rfl) dX8_init_43 (fun H locs hW hz1 => ?_)
  have hz := hz1.trans hz
  have hW : m_W D cy s b (pre ++ (S_36 P)) (m_us P μ []) H _ := hW
  refine W.widen (k := 6) (n := 1209) (Nat.le_of_ble_eq_true rfl) (Nat.le_of_ble_eq_true rfl) ?_
  subst h1
  exact m_zret hx hb hr hlocks hW (hz.trans (congrArg (fun z => b + z) (m_suflen (n := 7) hP rfl).symm)) rfl dX8_init_46
def S_37 (P : Nat) : List mL := [.inl (4, [2, 0, 0, 2, 0, 0, 2, 2]), .inl (5, [2, 0])]
def S_38 (P : Nat) : List mL := [.inl (4, [2, 0, 0, 2, 0, 0, 2, 2])]
def S_39 (P : Nat) : List mL := [.inl (4, [2, 0, 0, 2, 0, 0, 2, 2]), .inl (5, [P + 2 + 3, 0]), .inr (0, 800, [])]
def S_40 (P : Nat) : List mL := [.inl (4, [P + 1 + 3, 0, 0, 2, 0, 0, 2, 2]), .inl (5, [P + 2 + 3, 0]), .inr (0, 800, [])]
def U_3 : List (Nat × Nat × Int32) := [] ++ [(0, 2, (-1))]
def S_41 (P : Nat) : List mL := [.inl (4, [P + 1 + 3, 0, 0, 2, 0, 0, 2, 2]), .inl (5, [P + 2 + 3, 0]), .inr (0, 800, []), .inl (8, [2, 2, 2])]
def S_42 (P : Nat) : List mL := [.inl (4, [P + 1 + 3, 0, 0, 2, 0, 0, 2, 2]), .inl (5, [P + 2 + 3, 0]), .inr (0, 800, []), .inl (8, [P + 4 + 3, P + 6 + 3, P + 8 + 3]), .inl (5, [P + 5 + 3, 0]), .inr (0, 401, []), .inl (5, [P + 7 + 3, 0]), .inr (0, 401, []), .inl (5, [P + 9 + 3, 0]), .inr (0, 401, [])]
def S_43 (P : Nat) : List mL := [.inl (4, [P + 1 + 3, 0, 0, P + 3 + 3, 0, 0, 2, 2]), .inl (5, [P + 2 + 3, 0]), .inr (0, 800, []), .inl (8, [P + 4 + 3, P + 6 + 3, P + 8 + 3]), .inl (5, [P + 5 + 3, 0]), .inr (0, 401, []), .inl (5, [P + 7 + 3, 0]), .inr (0, 401, []), .inl (5, [P + 9 + 3, 0]), .inr (0, 401, [])]
def S_44 (P : Nat) : List mL := [.inl (4, [P + 1 + 3, 0, 0, P + 3 + 3, 0, 0, 2, 2]), .inl (5, [P + 2 + 3, 0]), .inr (0, 800, []), .inl (8, [P + 4 + 3, P + 6 + 3, P + 8 + 3]), .inl (5, [P + 5 + 3, 0]), .inr (0, 401, []), .inl (5, [P + 7 + 3, 0]), .inr (0, 401, []), .inl (5, [P + 9 + 3, 0]), .inr (0, 401, []), .inl (5, [2, 0])]
def S_45 (P : Nat) : List mL := [.inl (4, [P + 1 + 3, 0, 0, P + 3 + 3, 0, 0, 2, 2]), .inl (5, [P + 2 + 3, 0]), .inr (0, 800, []), .inl (8, [P + 4 + 3, P + 6 + 3, P + 8 + 3]), .inl (5, [P + 5 + 3, 0]), .inr (0, 401, []), .inl (5, [P + 7 + 3, 0]), .inr (0, 401, []), .inl (5, [P + 9 + 3, 0]), .inr (0, 401, []), .inl (5, [P + 11 + 3, 0]), .inr (0, 4, [])]
def S_46 (P : Nat) : List mL := [.inl (4, [P + 1 + 3, 0, 0, P + 3 + 3, 0, 0, P + 10 + 3, 2]), .inl (5, [P + 2 + 3, 0]), .inr (0, 800, []), .inl (8, [P + 4 + 3, P + 6 + 3, P + 8 + 3]), .inl (5, [P + 5 + 3, 0]), .inr (0, 401, []), .inl (5, [P + 7 + 3, 0]), .inr (0, 401, []), .inl (5, [P + 9 + 3, 0]), .inr (0, 401, []), .inl (5, [P + 11 + 3, 0]), .inr (0, 4, [])]
def S_47 (P : Nat) : List mL := [.inl (4, [P + 1 + 3, 0, 0, P + 3 + 3, 0, 0, P + 10 + 3, 2]), .inl (5, [P + 2 + 3, 0]), .inr (0, 800, []), .inl (8, [P + 4 + 3, P + 6 + 3, P + 8 + 3]), .inl (5, [P + 5 + 3, 0]), .inr (0, 401, []), .inl (5, [P + 7 + 3, 0]), .inr (0, 401, []), .inl (5, [P + 9 + 3, 0]), .inr (0, 401, []), .inl (5, [P + 11 + 3, 0]), .inr (0, 4, []), .inl (5, [2, 0])]
def S_48 (P : Nat) : List mL := [.inl (4, [P + 1 + 3, 0, 0, P + 3 + 3, 0, 0, P + 10 + 3, 2]), .inl (5, [P + 2 + 3, 0]), .inr (0, 800, []), .inl (8, [P + 4 + 3, P + 6 + 3, P + 8 + 3]), .inl (5, [P + 5 + 3, 0]), .inr (0, 401, []), .inl (5, [P + 7 + 3, 0]), .inr (0, 401, []), .inl (5, [P + 9 + 3, 0]), .inr (0, 401, []), .inl (5, [P + 11 + 3, 0]), .inr (0, 4, []), .inl (5, [P + 13 + 3, 0]), .inr (0, 4, [])]
def S_49 (P : Nat) : List mL := [.inl (4, [P + 1 + 3, 0, 0, P + 3 + 3, 0, 0, P + 10 + 3, P + 12 + 3]), .inl (5, [P + 2 + 3, 0]), .inr (0, 800, []), .inl (8, [P + 4 + 3, P + 6 + 3, P + 8 + 3]), .inl (5, [P + 5 + 3, 0]), .inr (0, 401, []), .inl (5, [P + 7 + 3, 0]), .inr (0, 401, []), .inl (5, [P + 9 + 3, 0]), .inr (0, 401, []), .inl (5, [P + 11 + 3, 0]), .inr (0, 4, []), .inl (5, [P + 13 + 3, 0]), .inr (0, 4, [])]
set_option maxHeartbeats 4000000 in
set_option maxRecDepth 100000 in
theorem c_X4_init (l : Launch) (D : va_G) (cy : Nat → ClassId) (b : Nat) (pre : List mL) (P : Nat) (hP : pre.length = P) (lay0 lay1 : List mL) (h0 : lay0 = pre ++ [.inl (4, f0_4)]) (μ : mM) (hμ : m_Zr P μ) (h1 : lay1 = pre ++ (S_49 P)) : m_Cz l yX4_init cX4_init 1 3 13 2026 D cy b lay0 lay1 μ [.ref (b + P)] (fun ν => ν = m_us P μ U_3) := by
  subst h0
  refine m_ofz (cc := cX4_init) (n := 1) (d := 3) (by decide) (Nat.le_of_ble_eq_true rfl) ?_
  intro p e s m below meth c hx hb hr hml hown hts hlocks hnm hW hz ls hl
  have hown : s.vm.findClass RX4 = some m.cls := hown
  have hl : lv_has ls 1 [(0, .ref (b + (P + 0)))] := hl
  have hW : m_W D cy s b (pre ++ (S_38 P)) (m_us P μ []) s.heap [] := hW
  have hz : s.heap.size = b + (P + 1) := hz.trans (congrArg (fun z => b + z) (m_suflen (n := 1) hP rfl))
  refine lv_aload_n hx hb dX4_init_0 rfl (lv_at hl 0 rfl) ?_
  refine W.objInit hx hb hown (hts _ k_X4_3) (hts _ ko_i) (hts _ ko_c) rfl (by rw [hml]; exact hl.1) rfl dX4_init_1 (Nat.le_of_ble_eq_true rfl) (Nat.le_of_ble_eq_true rfl) ?_
  refine W.eq (g2 := F0 m 4 ls []) rfl ?_
  refine lv_aload_n hx hb dX4_init_4 rfl (lv_at hl 0 rfl) ?_
  refine m_new' (N0 := P + 1) hx hb hts hown hW (m_suflen (n := 1) hP rfl) hz cw_5 tyX5_ok k_X4_9 ki_X5 kn_X5 rfl f0_5 (lay' := pre ++ (S_37 P)) (List.append_assoc _ _ _) f0_5_ok (Nat.le_of_ble_eq_true rfl) (Nat.le_of_ble_eq_true rfl) dX4_init_5 (fun H hW hz => ?_)
  rw [m_us_z hμ [] 1 rfl] at hW
  have hW : m_W D cy s b (pre ++ (S_37 P)) (m_us P μ []) H _ := hW
  have hz : H.size = b + (P + 2) := hz
  refine lv_dup hx hb dX4_init_8 rfl ?_
  refine lv_sipush (v := 800) hx hb dX4_init_9 (by decide) ?_
  refine m_aZ hW (m_runI (As := [.int 800]) (rest := [.ref (b + (P + 1)), .ref (b + (P + 0))]) hx hb hml hown hts hW (hz.trans (congrArg (fun z => b + z) (m_suflen (n := 2) hP rfl).symm)) (P + 1) (c_X5_init l D cy b (pre ++ (S_38 P)) (P + 1) (m_suflen (n := 1) hP rfl) _ (pre ++ (S_39 P)) ((List.append_assoc _ _ _).symm) (m_us P μ []) (m_us_zr hμ [] 1 rfl) 800 800 (by decide) (by decide) (List.append_assoc pre (S_38 P) [.inl (5, [P + 2 + 3, 0]), .inr (0, 800, [])]).symm) mc_X5_init k_X4_13 rfl hl.1 rfl (Nat.le_of_ble_eq_true rfl) dX4_init_12 ⟨Nat.le_of_ble_eq_true rfl, Nat.le_of_ble_eq_true rfl⟩ ⟨Nat.le_of_ble_eq_true rfl, Nat.le_of_ble_eq_true rfl⟩) (fun ν H locs hν hW hz => ?_)
  rw [hν] at hW
  have hW : m_W D cy s b (pre ++ (S_39 P)) (m_us P μ []) H _ := hW
  have hz : H.size = b + (P + 3) := hz.trans (congrArg (fun z => b + z) (m_suflen (n := 3) hP rfl))
  refine m_putr hx hb hts hown hW (P + 0) 0 (P + 1) (m_suf hP rfl) rfl cw_4 tyX4_ok nmX4 rfl (by decide) k_X4_16 ⟨rfl, hnm, rfl⟩ rfl rfl (lay' := pre ++ (S_40 P)) (m_sufset hP rfl) dX4_init_15 (fun H locs hW hz1 => ?_)
  have hz := hz1.trans hz
  have hW : m_W D cy s b (pre ++ (S_40 P)) (m_us P μ []) H _ := hW
  refine lv_aload_n hx hb dX4_init_18 rfl (lv_at hl 0 rfl) ?_
  refine lv_iconst (v := 0) hx hb dX4_init_19 (by decide) ?_
  refine m_puti hx hb hts hown hW (P + 0) 1 (m_suf hP rfl) rfl cw_4 tyX4_ok nmX4 rfl (by decide) k_X4_20 rfl rfl rfl dX4_init_20 (fun H locs hW hz1 => ?_)
  have hz := hz1.trans hz
  rw [m_si_same (m_us_0 hμ [] 0 1 rfl)] at hW
  refine lv_aload_n hx hb dX4_init_23 rfl (lv_at hl 0 rfl) ?_
  refine lv_iconst (v := (-1)) hx hb dX4_init_24 (by decide) ?_
  refine m_puti hx hb hts hown hW (P + 0) 2 (m_suf hP rfl) rfl cw_4 tyX4_ok nmX4 rfl (by decide) k_X4_24 rfl rfl rfl dX4_init_25 (fun H locs hW hz1 => ?_)
  have hz := hz1.trans hz
  rw [m_us_snoc] at hW
  have hW : m_W D cy s b (pre ++ (S_40 P)) (m_us P μ U_3) H _ := hW
  refine lv_aload_n hx hb dX4_init_28 rfl (lv_at hl 0 rfl) ?_
  refine m_new' (N0 := P + 3) hx hb hts hown hW (m_suflen (n := 3) hP rfl) hz cw_8 tyX8_ok k_X4_27 ki_X8 kn_X8 rfl f0_8 (lay' := pre ++ (S_41 P)) (List.append_assoc _ _ _) f0_8_ok (Nat.le_of_ble_eq_true rfl) (Nat.le_of_ble_eq_true rfl) dX4_init_29 (fun H hW hz => ?_)
  rw [m_us_z hμ U_3 3 rfl] at hW
  have hW : m_W D cy s b (pre ++ (S_41 P)) (m_us P μ U_3) H _ := hW
  have hz : H.size = b + (P + 4) := hz
  refine lv_dup hx hb dX4_init_32 rfl ?_
  refine m_aZ hW (m_runIN (As := []) (rest := [.ref (b + (P + 3)), .ref (b + (P + 0))]) hx hb hml hown hts hW (hz.trans (congrArg (fun z => b + z) (m_suflen (n := 4) hP rfl).symm)) (P + 3) (c_X8_init l D cy b (pre ++ (S_40 P)) (P + 3) (m_suflen (n := 3) hP rfl) _ (pre ++ (S_42 P)) ((List.append_assoc _ _ _).symm) (m_us P μ U_3) (m_us_zr hμ U_3 3 rfl) (List.append_assoc pre (S_40 P) [.inl (8, [P + 4 + 3, P + 6 + 3, P + 8 + 3]), .inl (5, [P + 5 + 3, 0]), .inr (0, 401, []), .inl (5, [P + 7 + 3, 0]), .inr (0, 401, []), .inl (5, [P + 9 + 3, 0]), .inr (0, 401, [])]).symm) mc_X8_init n_X4_29 rfl hl.1 rfl (Nat.le_of_ble_eq_true rfl) dX4_init_33 ⟨Nat.le_of_ble_eq_true rfl, Nat.le_of_ble_eq_true rfl⟩ ⟨Nat.le_of_ble_eq_true rfl, Nat.le_of_ble_eq_true rfl⟩) (fun ν H locs hν hW hz => ?_)
  rw [hν] at hW
  have hW : m_W D cy s b (pre ++ (S_42 P)) (m_us P μ U_3) H _ := hW
  have hz : H.size = b + (P + 10) := hz.trans (congrArg (fun z => b + z) (m_suflen (n := 10) hP rfl))
  refine m_putr hx hb hts hown hW (P + 0) 3 (P + 3) (m_suf hP rfl) rfl cw_4 tyX4_ok nmX4 rfl (by decide) k_X4_30 ⟨rfl, hnm, rfl⟩ rfl rfl (lay' := pre ++ (S_43 P)) (m_sufset hP rfl) dX4_init_36 (fun H locs hW hz1 => ?_)
  have hz := hz1.trans hz
  have hW : m_W D cy s b (pre ++ (S_43 P)) (m_us P μ U_3) H _ := hW
  refine lv_aload_n hx hb dX4_init_39 rfl (lv_at hl 0 rfl) ?_
  refine lv_iconst (v := 0) hx hb dX4_init_40 (by decide) ?_
  refine m_puti hx hb hts hown hW (P + 0) 4 (m_suf hP rfl) rfl cw_4 tyX4_ok nmX4 rfl (by decide) k_X4_34 rfl rfl rfl dX4_init_41 (fun H locs hW hz1 => ?_)
  have hz := hz1.trans hz
  rw [m_si_same (m_us_0 hμ U_3 0 4 rfl)] at hW
  refine lv_aload_n hx hb dX4_init_44 rfl (lv_at hl 0 rfl) ?_
  refine lv_iconst (v := 0) hx hb dX4_init_45 (by decide) ?_
  refine m_puti hx hb hts hown hW (P + 0) 5 (m_suf hP rfl) rfl cw_4 tyX4_ok nmX4 rfl (by decide) k_X4_37 rfl rfl rfl dX4_init_46 (fun H locs hW hz1 => ?_)
  have hz := hz1.trans hz
  rw [m_si_same (m_us_0 hμ U_3 0 5 rfl)] at hW
  refine lv_aload_n hx hb dX4_init_49 rfl (lv_at hl 0 rfl) ?_
  refine m_new' (N0 := P + 10) hx hb hts hown hW (m_suflen (n := 10) hP rfl) hz cw_5 tyX5_ok k_X4_9 ki_X5 kn_X5 rfl f0_5 (lay' := pre ++ (S_44 P)) (List.append_assoc _ _ _) f0_5_ok (Nat.le_of_ble_eq_true rfl) (Nat.le_of_ble_eq_true rfl) dX4_init_50 (fun H hW hz => ?_)
  rw [m_us_z hμ U_3 10 rfl] at hW
  have hW : m_W D cy s b (pre ++ (S_44 P)) (m_us P μ U_3) H _ := hW
  have hz : H.size = b + (P + 11) := hz
  refine lv_dup hx hb dX4_init_53 rfl ?_
  refine lv_iconst (v := 4) hx hb dX4_init_54 (by decide) ?_
  refine m_aZ hW (m_runI (As := [.int 4]) (rest := [.ref (b + (P + 10)), .ref (b + (P + 0))]) hx hb hml hown hts hW (hz.trans (congrArg (fun z => b + z) (m_suflen (n := 11) hP rfl).symm)) (P + 10) (c_X5_init l D cy b (pre ++ (S_43 P)) (P + 10) (m_suflen (n := 10) hP rfl) _ (pre ++ (S_45 P)) ((List.append_assoc _ _ _).symm) (m_us P μ U_3) (m_us_zr hμ U_3 10 rfl) 4 4 (by decide) (by decide) (List.append_assoc pre (S_43 P) [.inl (5, [P + 11 + 3, 0]), .inr (0, 4, [])]).symm) mc_X5_init k_X4_13 rfl hl.1 rfl (Nat.le_of_ble_eq_true rfl) dX4_init_55 ⟨Nat.le_of_ble_eq_true rfl, Nat.le_of_ble_eq_true rfl⟩ ⟨Nat.le_of_ble_eq_true rfl, Nat.le_of_ble_eq_true rfl⟩) (fun ν H locs hν hW hz => ?_)
  rw [hν] at hW
  have hW : m_W D cy s b (pre ++ (S_45 P)) (m_us P μ U_3) H _ := hW
  have hz : H.size = b + (P + 12) := hz.trans (congrArg (fun z => b + z) (m_suflen (n := 12) hP rfl))
  refine m_putr hx hb hts hown hW (P + 0) 6 (P + 10) (m_suf hP rfl) rfl cw_4 tyX4_ok nmX4 rfl (by decide) k_X4_40 ⟨rfl, hnm, rfl⟩ rfl rfl (lay' := pre ++ (S_46 P)) (m_sufset hP rfl) dX4_init_58 (fun H locs hW hz1 => ?_)
  have hz := hz1.trans hz
  have hW : m_W D cy s b (pre ++ (S_46 P)) (m_us P μ U_3) H _ := hW
  refine lv_aload_n hx hb dX4_init_61 rfl (lv_at hl 0 rfl) ?_
  refine m_new' (N0 := P + 12) hx hb hts hown hW (m_suflen (n := 12) hP rfl) hz cw_5 tyX5_ok k_X4_9 ki_X5 kn_X5 rfl f0_5 (lay' := pre ++ (S_47 P)) (List.append_assoc _ _ _) f0_5_ok (Nat.le_of_ble_eq_true rfl) (Nat.le_of_ble_eq_true rfl) dX4_init_62 (fun H hW hz => ?_)
  rw [m_us_z hμ U_3 12 rfl] at hW
  have hW : m_W D cy s b (pre ++ (S_47 P)) (m_us P μ U_3) H _ := hW
  have hz : H.size = b + (P + 13) := hz
  refine lv_dup hx hb dX4_init_65 rfl ?_
  refine lv_iconst (v := 4) hx hb dX4_init_66 (by decide) ?_
  refine m_aZ hW (m_runI (As := [.int 4]) (rest := [.ref (b + (P + 12)), .ref (b + (P + 0))]) hx hb hml hown hts hW (hz.trans (congrArg (fun z => b + z) (m_suflen (n := 13) hP rfl).symm)) (P + 12) (c_X5_init l D cy b (pre ++ (S_46 P)) (P + 12) (m_suflen (n := 12) hP rfl) _ (pre ++ (S_48 P)) ((List.append_assoc _ _ _).symm) (m_us P μ U_3) (m_us_zr hμ U_3 12 rfl) 4 4 (by decide) (by decide) (List.append_assoc pre (S_46 P) [.inl (5, [P + 13 + 3, 0]), .inr (0, 4, [])]).symm) mc_X5_init k_X4_13 rfl hl.1 rfl (Nat.le_of_ble_eq_true rfl) dX4_init_67 ⟨Nat.le_of_ble_eq_true rfl, Nat.le_of_ble_eq_true rfl⟩ ⟨Nat.le_of_ble_eq_true rfl, Nat.le_of_ble_eq_true rfl⟩) (fun ν H locs hν hW hz => ?_)
  rw [hν] at hW
  have hW : m_W D cy s b (pre ++ (S_48 P)) (m_us P μ U_3) H _ := hW
  have hz : H.size = b + (P + 14) := hz.trans (congrArg (fun z => b + z) (m_suflen (n := 14) hP rfl))
  refine m_putr hx hb hts hown hW (P + 0) 7 (P + 12) (m_suf hP rfl) rfl cw_4 tyX4_ok nmX4 rfl (by decide) k_X4_43 ⟨rfl, hnm, rfl⟩ rfl rfl (lay' := pre ++ (S_49 P)) (m_sufset hP rfl) dX4_init_70 (fun H locs hW hz1 => ?_)
  have hz := hz1.trans hz
  have hW : m_W D cy s b (pre ++ (S_49 P)) (m_us P μ U_3) H _ := hW
  refine W.widen (k := 13) (n := 2026) (Nat.le_of_ble_eq_true rfl) (Nat.le_of_ble_eq_true rfl) ?_
  subst h1
  exact m_zret hx hb hr hlocks hW (hz.trans (congrArg (fun z => b + z) (m_suflen (n := 14) hP rfl).symm)) rfl dX4_init_73
def S_50 (P : Nat) : List mL := [.inl (10, [2, 2, 2, 2, 0, 0, 0, 2]), .inr (0, 4, [])]
def U_4 : List (Nat × Nat × Int32) := [] ++ [(1, 0, 100)]
def U_5 : List (Nat × Nat × Int32) := U_4 ++ [(1, 1, 100)]
def U_6 : List (Nat × Nat × Int32) := U_5 ++ [(1, 2, 100)]
def U_7 : List (Nat × Nat × Int32) := U_6 ++ [(1, 3, 100)]
def S_51 (P : Nat) : List mL := [.inl (10, [P + 1 + 3, 2, 2, 2, 0, 0, 0, 2]), .inr (0, 4, [])]
def S_52 (P : Nat) : List mL := [.inl (10, [P + 1 + 3, 2, 2, 2, 0, 0, 0, 2]), .inr (0, 4, []), .inr (0, 4, [])]
def U_8 : List (Nat × Nat × Int32) := U_7 ++ [(2, 0, 10)]
def U_9 : List (Nat × Nat × Int32) := U_8 ++ [(2, 1, 10)]
def U_10 : List (Nat × Nat × Int32) := U_9 ++ [(2, 2, 10)]
def U_11 : List (Nat × Nat × Int32) := U_10 ++ [(2, 3, 10)]
def S_53 (P : Nat) : List mL := [.inl (10, [P + 1 + 3, P + 2 + 3, 2, 2, 0, 0, 0, 2]), .inr (0, 4, []), .inr (0, 4, [])]
def S_54 (P : Nat) : List mL := [.inl (10, [P + 1 + 3, P + 2 + 3, 2, 2, 0, 0, 0, 2]), .inr (0, 4, []), .inr (0, 4, []), .inr (0, 4, [])]
def U_12 : List (Nat × Nat × Int32) := U_11 ++ [(3, 0, 2)]
def U_13 : List (Nat × Nat × Int32) := U_12 ++ [(3, 1, 2)]
def U_14 : List (Nat × Nat × Int32) := U_13 ++ [(3, 2, 2)]
def U_15 : List (Nat × Nat × Int32) := U_14 ++ [(3, 3, 2)]
def S_55 (P : Nat) : List mL := [.inl (10, [P + 1 + 3, P + 2 + 3, P + 3 + 3, 2, 0, 0, 0, 2]), .inr (0, 4, []), .inr (0, 4, []), .inr (0, 4, [])]
def S_56 (P : Nat) : List mL := [.inl (10, [P + 1 + 3, P + 2 + 3, P + 3 + 3, 2, 0, 0, 0, 2]), .inr (0, 4, []), .inr (0, 4, []), .inr (0, 4, []), .inr (0, 4, [])]
def U_16 : List (Nat × Nat × Int32) := U_15 ++ [(4, 0, 60)]
def U_17 : List (Nat × Nat × Int32) := U_16 ++ [(4, 1, 60)]
def U_18 : List (Nat × Nat × Int32) := U_17 ++ [(4, 2, 60)]
def U_19 : List (Nat × Nat × Int32) := U_18 ++ [(4, 3, 60)]
def S_57 (P : Nat) : List mL := [.inl (10, [P + 1 + 3, P + 2 + 3, P + 3 + 3, P + 4 + 3, 0, 0, 0, 2]), .inr (0, 4, []), .inr (0, 4, []), .inr (0, 4, []), .inr (0, 4, [])]
def U_20 : List (Nat × Nat × Int32) := U_19 ++ [(0, 4, 100)]
def U_21 : List (Nat × Nat × Int32) := U_20 ++ [(0, 5, 1)]
def U_22 : List (Nat × Nat × Int32) := U_21 ++ [(0, 6, 4)]
def S_58 (P : Nat) : List mL := [.inl (10, [P + 1 + 3, P + 2 + 3, P + 3 + 3, P + 4 + 3, 0, 0, 0, 2]), .inr (0, 4, []), .inr (0, 4, []), .inr (0, 4, []), .inr (0, 4, []), .inr (3, 8, [])]
def S_59 (P : Nat) : List mL := [.inl (10, [P + 1 + 3, P + 2 + 3, P + 3 + 3, P + 4 + 3, 0, 0, 0, P + 5 + 3]), .inr (0, 4, []), .inr (0, 4, []), .inr (0, 4, []), .inr (0, 4, []), .inr (3, 8, [])]
def S_60 (P : Nat) : List mL := [.inl (10, [P + 1 + 3, P + 2 + 3, P + 3 + 3, P + 4 + 3, 0, 0, 0, P + 5 + 3]), .inr (0, 4, []), .inr (0, 4, []), .inr (0, 4, []), .inr (0, 4, []), .inr (3, 8, []), .inl (5, [2, 0])]
def S_61 (P : Nat) : List mL := [.inl (10, [P + 1 + 3, P + 2 + 3, P + 3 + 3, P + 4 + 3, 0, 0, 0, P + 5 + 3]), .inr (0, 4, []), .inr (0, 4, []), .inr (0, 4, []), .inr (0, 4, []), .inr (3, 8, []), .inl (5, [P + 7 + 3, 0]), .inr (0, 800, [])]
def S_62 (P : Nat) : List mL := [.inl (10, [P + 1 + 3, P + 2 + 3, P + 3 + 3, P + 4 + 3, 0, 0, 0, P + 5 + 3]), .inr (0, 4, []), .inr (0, 4, []), .inr (0, 4, []), .inr (0, 4, []), .inr (3, 8, [P + 6]), .inl (5, [P + 7 + 3, 0]), .inr (0, 800, [])]
def S_63 (P : Nat) : List mL := [.inl (10, [P + 1 + 3, P + 2 + 3, P + 3 + 3, P + 4 + 3, 0, 0, 0, P + 5 + 3]), .inr (0, 4, []), .inr (0, 4, []), .inr (0, 4, []), .inr (0, 4, []), .inr (3, 8, [P + 6]), .inl (5, [P + 7 + 3, 0]), .inr (0, 800, []), .inl (5, [2, 0])]
def S_64 (P : Nat) : List mL := [.inl (10, [P + 1 + 3, P + 2 + 3, P + 3 + 3, P + 4 + 3, 0, 0, 0, P + 5 + 3]), .inr (0, 4, []), .inr (0, 4, []), .inr (0, 4, []), .inr (0, 4, []), .inr (3, 8, [P + 6]), .inl (5, [P + 7 + 3, 0]), .inr (0, 800, []), .inl (5, [P + 9 + 3, 0]), .inr (0, 800, [])]
def S_65 (P : Nat) : List mL := [.inl (10, [P + 1 + 3, P + 2 + 3, P + 3 + 3, P + 4 + 3, 0, 0, 0, P + 5 + 3]), .inr (0, 4, []), .inr (0, 4, []), .inr (0, 4, []), .inr (0, 4, []), .inr (3, 8, [P + 6, P + 8]), .inl (5, [P + 7 + 3, 0]), .inr (0, 800, []), .inl (5, [P + 9 + 3, 0]), .inr (0, 800, [])]
def S_66 (P : Nat) : List mL := [.inl (10, [P + 1 + 3, P + 2 + 3, P + 3 + 3, P + 4 + 3, 0, 0, 0, P + 5 + 3]), .inr (0, 4, []), .inr (0, 4, []), .inr (0, 4, []), .inr (0, 4, []), .inr (3, 8, [P + 6, P + 8]), .inl (5, [P + 7 + 3, 0]), .inr (0, 800, []), .inl (5, [P + 9 + 3, 0]), .inr (0, 800, []), .inl (5, [2, 0])]
def S_67 (P : Nat) : List mL := [.inl (10, [P + 1 + 3, P + 2 + 3, P + 3 + 3, P + 4 + 3, 0, 0, 0, P + 5 + 3]), .inr (0, 4, []), .inr (0, 4, []), .inr (0, 4, []), .inr (0, 4, []), .inr (3, 8, [P + 6, P + 8]), .inl (5, [P + 7 + 3, 0]), .inr (0, 800, []), .inl (5, [P + 9 + 3, 0]), .inr (0, 800, []), .inl (5, [P + 11 + 3, 0]), .inr (0, 800, [])]
def S_68 (P : Nat) : List mL := [.inl (10, [P + 1 + 3, P + 2 + 3, P + 3 + 3, P + 4 + 3, 0, 0, 0, P + 5 + 3]), .inr (0, 4, []), .inr (0, 4, []), .inr (0, 4, []), .inr (0, 4, []), .inr (3, 8, [P + 6, P + 8, P + 10]), .inl (5, [P + 7 + 3, 0]), .inr (0, 800, []), .inl (5, [P + 9 + 3, 0]), .inr (0, 800, []), .inl (5, [P + 11 + 3, 0]), .inr (0, 800, [])]
def S_69 (P : Nat) : List mL := [.inl (10, [P + 1 + 3, P + 2 + 3, P + 3 + 3, P + 4 + 3, 0, 0, 0, P + 5 + 3]), .inr (0, 4, []), .inr (0, 4, []), .inr (0, 4, []), .inr (0, 4, []), .inr (3, 8, [P + 6, P + 8, P + 10]), .inl (5, [P + 7 + 3, 0]), .inr (0, 800, []), .inl (5, [P + 9 + 3, 0]), .inr (0, 800, []), .inl (5, [P + 11 + 3, 0]), .inr (0, 800, []), .inl (5, [2, 0])]
def S_70 (P : Nat) : List mL := [.inl (10, [P + 1 + 3, P + 2 + 3, P + 3 + 3, P + 4 + 3, 0, 0, 0, P + 5 + 3]), .inr (0, 4, []), .inr (0, 4, []), .inr (0, 4, []), .inr (0, 4, []), .inr (3, 8, [P + 6, P + 8, P + 10]), .inl (5, [P + 7 + 3, 0]), .inr (0, 800, []), .inl (5, [P + 9 + 3, 0]), .inr (0, 800, []), .inl (5, [P + 11 + 3, 0]), .inr (0, 800, []), .inl (5, [P + 13 + 3, 0]), .inr (0, 800, [])]
def S_71 (P : Nat) : List mL := [.inl (10, [P + 1 + 3, P + 2 + 3, P + 3 + 3, P + 4 + 3, 0, 0, 0, P + 5 + 3]), .inr (0, 4, []), .inr (0, 4, []), .inr (0, 4, []), .inr (0, 4, []), .inr (3, 8, [P + 6, P + 8, P + 10, P + 12]), .inl (5, [P + 7 + 3, 0]), .inr (0, 800, []), .inl (5, [P + 9 + 3, 0]), .inr (0, 800, []), .inl (5, [P + 11 + 3, 0]), .inr (0, 800, []), .inl (5, [P + 13 + 3, 0]), .inr (0, 800, [])]
def S_72 (P : Nat) : List mL := [.inl (10, [P + 1 + 3, P + 2 + 3, P + 3 + 3, P + 4 + 3, 0, 0, 0, P + 5 + 3]), .inr (0, 4, []), .inr (0, 4, []), .inr (0, 4, []), .inr (0, 4, []), .inr (3, 8, [P + 6, P + 8, P + 10, P + 12]), .inl (5, [P + 7 + 3, 0]), .inr (0, 800, []), .inl (5, [P + 9 + 3, 0]), .inr (0, 800, []), .inl (5, [P + 11 + 3, 0]), .inr (0, 800, []), .inl (5, [P + 13 + 3, 0]), .inr (0, 800, []), .inl (5, [2, 0])]
def S_73 (P : Nat) : List mL := [.inl (10, [P + 1 + 3, P + 2 + 3, P + 3 + 3, P + 4 + 3, 0, 0, 0, P + 5 + 3]), .inr (0, 4, []), .inr (0, 4, []), .inr (0, 4, []), .inr (0, 4, []), .inr (3, 8, [P + 6, P + 8, P + 10, P + 12]), .inl (5, [P + 7 + 3, 0]), .inr (0, 800, []), .inl (5, [P + 9 + 3, 0]), .inr (0, 800, []), .inl (5, [P + 11 + 3, 0]), .inr (0, 800, []), .inl (5, [P + 13 + 3, 0]), .inr (0, 800, []), .inl (5, [P + 15 + 3, 0]), .inr (0, 800, [])]
def S_74 (P : Nat) : List mL := [.inl (10, [P + 1 + 3, P + 2 + 3, P + 3 + 3, P + 4 + 3, 0, 0, 0, P + 5 + 3]), .inr (0, 4, []), .inr (0, 4, []), .inr (0, 4, []), .inr (0, 4, []), .inr (3, 8, [P + 6, P + 8, P + 10, P + 12, P + 14]), .inl (5, [P + 7 + 3, 0]), .inr (0, 800, []), .inl (5, [P + 9 + 3, 0]), .inr (0, 800, []), .inl (5, [P + 11 + 3, 0]), .inr (0, 800, []), .inl (5, [P + 13 + 3, 0]), .inr (0, 800, []), .inl (5, [P + 15 + 3, 0]), .inr (0, 800, [])]
def S_75 (P : Nat) : List mL := [.inl (10, [P + 1 + 3, P + 2 + 3, P + 3 + 3, P + 4 + 3, 0, 0, 0, P + 5 + 3]), .inr (0, 4, []), .inr (0, 4, []), .inr (0, 4, []), .inr (0, 4, []), .inr (3, 8, [P + 6, P + 8, P + 10, P + 12, P + 14]), .inl (5, [P + 7 + 3, 0]), .inr (0, 800, []), .inl (5, [P + 9 + 3, 0]), .inr (0, 800, []), .inl (5, [P + 11 + 3, 0]), .inr (0, 800, []), .inl (5, [P + 13 + 3, 0]), .inr (0, 800, []), .inl (5, [P + 15 + 3, 0]), .inr (0, 800, []), .inl (5, [2, 0])]
def S_76 (P : Nat) : List mL := [.inl (10, [P + 1 + 3, P + 2 + 3, P + 3 + 3, P + 4 + 3, 0, 0, 0, P + 5 + 3]), .inr (0, 4, []), .inr (0, 4, []), .inr (0, 4, []), .inr (0, 4, []), .inr (3, 8, [P + 6, P + 8, P + 10, P + 12, P + 14]), .inl (5, [P + 7 + 3, 0]), .inr (0, 800, []), .inl (5, [P + 9 + 3, 0]), .inr (0, 800, []), .inl (5, [P + 11 + 3, 0]), .inr (0, 800, []), .inl (5, [P + 13 + 3, 0]), .inr (0, 800, []), .inl (5, [P + 15 + 3, 0]), .inr (0, 800, []), .inl (5, [P + 17 + 3, 0]), .inr (0, 800, [])]
def S_77 (P : Nat) : List mL := [.inl (10, [P + 1 + 3, P + 2 + 3, P + 3 + 3, P + 4 + 3, 0, 0, 0, P + 5 + 3]), .inr (0, 4, []), .inr (0, 4, []), .inr (0, 4, []), .inr (0, 4, []), .inr (3, 8, [P + 6, P + 8, P + 10, P + 12, P + 14, P + 16]), .inl (5, [P + 7 + 3, 0]), .inr (0, 800, []), .inl (5, [P + 9 + 3, 0]), .inr (0, 800, []), .inl (5, [P + 11 + 3, 0]), .inr (0, 800, []), .inl (5, [P + 13 + 3, 0]), .inr (0, 800, []), .inl (5, [P + 15 + 3, 0]), .inr (0, 800, []), .inl (5, [P + 17 + 3, 0]), .inr (0, 800, [])]
def S_78 (P : Nat) : List mL := [.inl (10, [P + 1 + 3, P + 2 + 3, P + 3 + 3, P + 4 + 3, 0, 0, 0, P + 5 + 3]), .inr (0, 4, []), .inr (0, 4, []), .inr (0, 4, []), .inr (0, 4, []), .inr (3, 8, [P + 6, P + 8, P + 10, P + 12, P + 14, P + 16]), .inl (5, [P + 7 + 3, 0]), .inr (0, 800, []), .inl (5, [P + 9 + 3, 0]), .inr (0, 800, []), .inl (5, [P + 11 + 3, 0]), .inr (0, 800, []), .inl (5, [P + 13 + 3, 0]), .inr (0, 800, []), .inl (5, [P + 15 + 3, 0]), .inr (0, 800, []), .inl (5, [P + 17 + 3, 0]), .inr (0, 800, []), .inl (5, [2, 0])]
def S_79 (P : Nat) : List mL := [.inl (10, [P + 1 + 3, P + 2 + 3, P + 3 + 3, P + 4 + 3, 0, 0, 0, P + 5 + 3]), .inr (0, 4, []), .inr (0, 4, []), .inr (0, 4, []), .inr (0, 4, []), .inr (3, 8, [P + 6, P + 8, P + 10, P + 12, P + 14, P + 16]), .inl (5, [P + 7 + 3, 0]), .inr (0, 800, []), .inl (5, [P + 9 + 3, 0]), .inr (0, 800, []), .inl (5, [P + 11 + 3, 0]), .inr (0, 800, []), .inl (5, [P + 13 + 3, 0]), .inr (0, 800, []), .inl (5, [P + 15 + 3, 0]), .inr (0, 800, []), .inl (5, [P + 17 + 3, 0]), .inr (0, 800, []), .inl (5, [P + 19 + 3, 0]), .inr (0, 800, [])]
def S_80 (P : Nat) : List mL := [.inl (10, [P + 1 + 3, P + 2 + 3, P + 3 + 3, P + 4 + 3, 0, 0, 0, P + 5 + 3]), .inr (0, 4, []), .inr (0, 4, []), .inr (0, 4, []), .inr (0, 4, []), .inr (3, 8, [P + 6, P + 8, P + 10, P + 12, P + 14, P + 16, P + 18]), .inl (5, [P + 7 + 3, 0]), .inr (0, 800, []), .inl (5, [P + 9 + 3, 0]), .inr (0, 800, []), .inl (5, [P + 11 + 3, 0]), .inr (0, 800, []), .inl (5, [P + 13 + 3, 0]), .inr (0, 800, []), .inl (5, [P + 15 + 3, 0]), .inr (0, 800, []), .inl (5, [P + 17 + 3, 0]), .inr (0, 800, []), .inl (5, [P + 19 + 3, 0]), .inr (0, 800, [])]
def S_81 (P : Nat) : List mL := [.inl (10, [P + 1 + 3, P + 2 + 3, P + 3 + 3, P + 4 + 3, 0, 0, 0, P + 5 + 3]), .inr (0, 4, []), .inr (0, 4, []), .inr (0, 4, []), .inr (0, 4, []), .inr (3, 8, [P + 6, P + 8, P + 10, P + 12, P + 14, P + 16, P + 18]), .inl (5, [P + 7 + 3, 0]), .inr (0, 800, []), .inl (5, [P + 9 + 3, 0]), .inr (0, 800, []), .inl (5, [P + 11 + 3, 0]), .inr (0, 800, []), .inl (5, [P + 13 + 3, 0]), .inr (0, 800, []), .inl (5, [P + 15 + 3, 0]), .inr (0, 800, []), .inl (5, [P + 17 + 3, 0]), .inr (0, 800, []), .inl (5, [P + 19 + 3, 0]), .inr (0, 800, []), .inl (5, [2, 0])]
def S_82 (P : Nat) : List mL := [.inl (10, [P + 1 + 3, P + 2 + 3, P + 3 + 3, P + 4 + 3, 0, 0, 0, P + 5 + 3]), .inr (0, 4, []), .inr (0, 4, []), .inr (0, 4, []), .inr (0, 4, []), .inr (3, 8, [P + 6, P + 8, P + 10, P + 12, P + 14, P + 16, P + 18]), .inl (5, [P + 7 + 3, 0]), .inr (0, 800, []), .inl (5, [P + 9 + 3, 0]), .inr (0, 800, []), .inl (5, [P + 11 + 3, 0]), .inr (0, 800, []), .inl (5, [P + 13 + 3, 0]), .inr (0, 800, []), .inl (5, [P + 15 + 3, 0]), .inr (0, 800, []), .inl (5, [P + 17 + 3, 0]), .inr (0, 800, []), .inl (5, [P + 19 + 3, 0]), .inr (0, 800, []), .inl (5, [P + 21 + 3, 0]), .inr (0, 800, [])]
def S_83 (P : Nat) : List mL := [.inl (10, [P + 1 + 3, P + 2 + 3, P + 3 + 3, P + 4 + 3, 0, 0, 0, P + 5 + 3]), .inr (0, 4, []), .inr (0, 4, []), .inr (0, 4, []), .inr (0, 4, []), .inr (3, 8, [P + 6, P + 8, P + 10, P + 12, P + 14, P + 16, P + 18, P + 20]), .inl (5, [P + 7 + 3, 0]), .inr (0, 800, []), .inl (5, [P + 9 + 3, 0]), .inr (0, 800, []), .inl (5, [P + 11 + 3, 0]), .inr (0, 800, []), .inl (5, [P + 13 + 3, 0]), .inr (0, 800, []), .inl (5, [P + 15 + 3, 0]), .inr (0, 800, []), .inl (5, [P + 17 + 3, 0]), .inr (0, 800, []), .inl (5, [P + 19 + 3, 0]), .inr (0, 800, []), .inl (5, [P + 21 + 3, 0]), .inr (0, 800, [])]
def S_84 (P : Nat) : List mL := [.inl (10, [2, 2, 2, 2, 0, 0, 0, 2])]
set_option maxHeartbeats 4000000 in
set_option maxRecDepth 100000 in
theorem c_X10_init (l : Launch) (D : va_G) (cy : Nat → ClassId) (b : Nat) (pre : List mL) (P : Nat) (hP : pre.length = P) (lay0 lay1 : List mL) (h0 : lay0 = pre ++ [.inl (10, f0_10)]) (μ : mM) (hμ : m_Zr P μ) (h1 : lay1 = pre ++ (S_83 P)) : m_Cz l yX10_init cX10_init 2 2 21 6440 D cy b lay0 lay1 μ [.ref (b + P)] (fun ν => ν = m_us P μ U_22) := by
  subst h0
  refine m_ofz (cc := cX10_init) (n := 2) (d := 2) (by decide) (Nat.le_of_ble_eq_true rfl) ?_
  intro p e s m below meth c hx hb hr hml hown hts hlocks hnm hW hz ls hl
  have hown : s.vm.findClass RX10 = some m.cls := hown
  have hl : lv_has ls 2 [(0, .ref (b + (P + 0)))] := hl
  have hW : m_W D cy s b (pre ++ (S_84 P)) (m_us P μ []) s.heap [] := hW
  have hz : s.heap.size = b + (P + 1) := hz.trans (congrArg (fun z => b + z) (m_suflen (n := 1) hP rfl))
  refine lv_aload_n hx hb dX10_init_0 rfl (lv_at hl 0 rfl) ?_
  refine W.objInit hx hb hown (hts _ k_X10_3) (hts _ ko_i) (hts _ ko_c) rfl (by rw [hml]; exact hl.1) rfl dX10_init_1 (Nat.le_of_ble_eq_true rfl) (Nat.le_of_ble_eq_true rfl) ?_
  refine W.eq (g2 := F0 m 4 ls []) rfl ?_
  refine lv_aload_n hx hb dX10_init_4 rfl (lv_at hl 0 rfl) ?_
  refine lv_iconst (v := 4) hx hb dX10_init_5 (by decide) ?_
  refine m_newa' (N0 := P + 1) (atype := .int) hx hb hts hW (m_suflen (n := 1) hP rfl) hz 0 ka_int (Or.inl ⟨rfl, rfl⟩) (N := 4) (lay' := pre ++ (S_50 P)) (List.append_assoc _ _ _) (by decide) (by decide) (by decide) (Nat.le_of_ble_eq_true rfl) (Nat.le_of_ble_eq_true rfl) dX10_init_6 (fun H hW hz => ?_)
  rw [m_us_z hμ [] 1 rfl] at hW
  have hW : m_W D cy s b (pre ++ (S_50 P)) (m_us P μ []) H _ := hW
  have hz : H.size = b + (P + 2) := hz
  refine lv_dup hx hb dX10_init_8 rfl ?_
  refine lv_iconst (v := 0) hx hb dX10_init_9 (by decide) ?_
  refine lv_bipush (v := 100) hx hb dX10_init_10 (by decide) ?_
  refine m_iast hx hb hW (P + 1) (m_suf hP rfl) (vp_in_iff.mpr ⟨by decide, by decide⟩) dX10_init_12 (fun H locs hW hz1 => ?_)
  have hz := hz1.trans hz
  rw [show (0 : Int32).toNatClampNeg = 0 from by decide, m_us_snoc] at hW
  have hW : m_W D cy s b (pre ++ (S_50 P)) (m_us P μ U_4) H _ := hW
  refine lv_dup hx hb dX10_init_13 rfl ?_
  refine lv_iconst (v := 1) hx hb dX10_init_14 (by decide) ?_
  refine lv_bipush (v := 100) hx hb dX10_init_15 (by decide) ?_
  refine m_iast hx hb hW (P + 1) (m_suf hP rfl) (vp_in_iff.mpr ⟨by decide, by decide⟩) dX10_init_17 (fun H locs hW hz1 => ?_)
  have hz := hz1.trans hz
  rw [show (1 : Int32).toNatClampNeg = 1 from by decide, m_us_snoc] at hW
  have hW : m_W D cy s b (pre ++ (S_50 P)) (m_us P μ U_5) H _ := hW
  refine lv_dup hx hb dX10_init_18 rfl ?_
  refine lv_iconst (v := 2) hx hb dX10_init_19 (by decide) ?_
  refine lv_bipush (v := 100) hx hb dX10_init_20 (by decide) ?_
  refine m_iast hx hb hW (P + 1) (m_suf hP rfl) (vp_in_iff.mpr ⟨by decide, by decide⟩) dX10_init_22 (fun H locs hW hz1 => ?_)
  have hz := hz1.trans hz
  rw [show (2 : Int32).toNatClampNeg = 2 from by decide, m_us_snoc] at hW
  have hW : m_W D cy s b (pre ++ (S_50 P)) (m_us P μ U_6) H _ := hW
  refine lv_dup hx hb dX10_init_23 rfl ?_
  refine lv_iconst (v := 3) hx hb dX10_init_24 (by decide) ?_
  refine lv_bipush (v := 100) hx hb dX10_init_25 (by decide) ?_
  refine m_iast hx hb hW (P + 1) (m_suf hP rfl) (vp_in_iff.mpr ⟨by decide, by decide⟩) dX10_init_27 (fun H locs hW hz1 => ?_)
  have hz := hz1.trans hz
  rw [show (3 : Int32).toNatClampNeg = 3 from by decide, m_us_snoc] at hW
  have hW : m_W D cy s b (pre ++ (S_50 P)) (m_us P μ U_7) H _ := hW
  refine m_putr hx hb hts hown hW (P + 0) 0 (P + 1) (m_suf hP rfl) rfl cw_10 tyX10_ok nmX10 rfl (by decide) k_X10_9 ⟨rfl, hnm, rfl⟩ rfl rfl (lay' := pre ++ (S_51 P)) (m_sufset hP rfl) dX10_init_28 (fun H locs hW hz1 => ?_)
  have hz := hz1.trans hz
  have hW : m_W D cy s b (pre ++ (S_51 P)) (m_us P μ U_7) H _ := hW
  refine lv_aload_n hx hb dX10_init_31 rfl (lv_at hl 0 rfl) ?_
  refine lv_iconst (v := 4) hx hb dX10_init_32 (by decide) ?_
  refine m_newa' (N0 := P + 2) (atype := .int) hx hb hts hW (m_suflen (n := 2) hP rfl) hz 0 ka_int (Or.inl ⟨rfl, rfl⟩) (N := 4) (lay' := pre ++ (S_52 P)) (List.append_assoc _ _ _) (by decide) (by decide) (by decide) (Nat.le_of_ble_eq_true rfl) (Nat.le_of_ble_eq_true rfl) dX10_init_33 (fun H hW hz => ?_)
  rw [m_us_z hμ U_7 2 rfl] at hW
  have hW : m_W D cy s b (pre ++ (S_52 P)) (m_us P μ U_7) H _ := hW
  have hz : H.size = b + (P + 3) := hz
  refine lv_dup hx hb dX10_init_35 rfl ?_
  refine lv_iconst (v := 0) hx hb dX10_init_36 (by decide) ?_
  refine lv_bipush (v := 10) hx hb dX10_init_37 (by decide) ?_
  refine m_iast hx hb hW (P + 2) (m_suf hP rfl) (vp_in_iff.mpr ⟨by decide, by decide⟩) dX10_init_39 (fun H locs hW hz1 => ?_)
  have hz := hz1.trans hz
  rw [show (0 : Int32).toNatClampNeg = 0 from by decide, m_us_snoc] at hW
  have hW : m_W D cy s b (pre ++ (S_52 P)) (m_us P μ U_8) H _ := hW
  refine lv_dup hx hb dX10_init_40 rfl ?_
  refine lv_iconst (v := 1) hx hb dX10_init_41 (by decide) ?_
  refine lv_bipush (v := 10) hx hb dX10_init_42 (by decide) ?_
  refine m_iast hx hb hW (P + 2) (m_suf hP rfl) (vp_in_iff.mpr ⟨by decide, by decide⟩) dX10_init_44 (fun H locs hW hz1 => ?_)
  have hz := hz1.trans hz
  rw [show (1 : Int32).toNatClampNeg = 1 from by decide, m_us_snoc] at hW
  have hW : m_W D cy s b (pre ++ (S_52 P)) (m_us P μ U_9) H _ := hW
  refine lv_dup hx hb dX10_init_45 rfl ?_
  refine lv_iconst (v := 2) hx hb dX10_init_46 (by decide) ?_
  refine lv_bipush (v := 10) hx hb dX10_init_47 (by decide) ?_
  refine m_iast hx hb hW (P + 2) (m_suf hP rfl) (vp_in_iff.mpr ⟨by decide, by decide⟩) dX10_init_49 (fun H locs hW hz1 => ?_)
  have hz := hz1.trans hz
  rw [show (2 : Int32).toNatClampNeg = 2 from by decide, m_us_snoc] at hW
  have hW : m_W D cy s b (pre ++ (S_52 P)) (m_us P μ U_10) H _ := hW
  refine lv_dup hx hb dX10_init_50 rfl ?_
  refine lv_iconst (v := 3) hx hb dX10_init_51 (by decide) ?_
  refine lv_bipush (v := 10) hx hb dX10_init_52 (by decide) ?_
  refine m_iast hx hb hW (P + 2) (m_suf hP rfl) (vp_in_iff.mpr ⟨by decide, by decide⟩) dX10_init_54 (fun H locs hW hz1 => ?_)
  have hz := hz1.trans hz
  rw [show (3 : Int32).toNatClampNeg = 3 from by decide, m_us_snoc] at hW
  have hW : m_W D cy s b (pre ++ (S_52 P)) (m_us P μ U_11) H _ := hW
  refine m_putr hx hb hts hown hW (P + 0) 1 (P + 2) (m_suf hP rfl) rfl cw_10 tyX10_ok nmX10 rfl (by decide) k_X10_15 ⟨rfl, hnm, rfl⟩ rfl rfl (lay' := pre ++ (S_53 P)) (m_sufset hP rfl) dX10_init_55 (fun H locs hW hz1 => ?_)
  have hz := hz1.trans hz
  have hW : m_W D cy s b (pre ++ (S_53 P)) (m_us P μ U_11) H _ := hW
  refine lv_aload_n hx hb dX10_init_58 rfl (lv_at hl 0 rfl) ?_
  refine lv_iconst (v := 4) hx hb dX10_init_59 (by decide) ?_
  refine m_newa' (N0 := P + 3) (atype := .int) hx hb hts hW (m_suflen (n := 3) hP rfl) hz 0 ka_int (Or.inl ⟨rfl, rfl⟩) (N := 4) (lay' := pre ++ (S_54 P)) (List.append_assoc _ _ _) (by decide) (by decide) (by decide) (Nat.le_of_ble_eq_true rfl) (Nat.le_of_ble_eq_true rfl) dX10_init_60 (fun H hW hz => ?_)
  rw [m_us_z hμ U_11 3 rfl] at hW
  have hW : m_W D cy s b (pre ++ (S_54 P)) (m_us P μ U_11) H _ := hW
  have hz : H.size = b + (P + 4) := hz
  refine lv_dup hx hb dX10_init_62 rfl ?_
  refine lv_iconst (v := 0) hx hb dX10_init_63 (by decide) ?_
  refine lv_iconst (v := 2) hx hb dX10_init_64 (by decide) ?_
  refine m_iast hx hb hW (P + 3) (m_suf hP rfl) (vp_in_iff.mpr ⟨by decide, by decide⟩) dX10_init_65 (fun H locs hW hz1 => ?_)
  have hz := hz1.trans hz
  rw [show (0 : Int32).toNatClampNeg = 0 from by decide, m_us_snoc] at hW
  have hW : m_W D cy s b (pre ++ (S_54 P)) (m_us P μ U_12) H _ := hW
  refine lv_dup hx hb dX10_init_66 rfl ?_
  refine lv_iconst (v := 1) hx hb dX10_init_67 (by decide) ?_
  refine lv_iconst (v := 2) hx hb dX10_init_68 (by decide) ?_
  refine m_iast hx hb hW (P + 3) (m_suf hP rfl) (vp_in_iff.mpr ⟨by decide, by decide⟩) dX10_init_69 (fun H locs hW hz1 => ?_)
  have hz := hz1.trans hz
  rw [show (1 : Int32).toNatClampNeg = 1 from by decide, m_us_snoc] at hW
  have hW : m_W D cy s b (pre ++ (S_54 P)) (m_us P μ U_13) H _ := hW
  refine lv_dup hx hb dX10_init_70 rfl ?_
  refine lv_iconst (v := 2) hx hb dX10_init_71 (by decide) ?_
  refine lv_iconst (v := 2) hx hb dX10_init_72 (by decide) ?_
  refine m_iast hx hb hW (P + 3) (m_suf hP rfl) (vp_in_iff.mpr ⟨by decide, by decide⟩) dX10_init_73 (fun H locs hW hz1 => ?_)
  have hz := hz1.trans hz
  rw [show (2 : Int32).toNatClampNeg = 2 from by decide, m_us_snoc] at hW
  have hW : m_W D cy s b (pre ++ (S_54 P)) (m_us P μ U_14) H _ := hW
  refine lv_dup hx hb dX10_init_74 rfl ?_
  refine lv_iconst (v := 3) hx hb dX10_init_75 (by decide) ?_
  refine lv_iconst (v := 2) hx hb dX10_init_76 (by decide) ?_
  refine m_iast hx hb hW (P + 3) (m_suf hP rfl) (vp_in_iff.mpr ⟨by decide, by decide⟩) dX10_init_77 (fun H locs hW hz1 => ?_)
  have hz := hz1.trans hz
  rw [show (3 : Int32).toNatClampNeg = 3 from by decide, m_us_snoc] at hW
  have hW : m_W D cy s b (pre ++ (S_54 P)) (m_us P μ U_15) H _ := hW
  refine m_putr hx hb hts hown hW (P + 0) 2 (P + 3) (m_suf hP rfl) rfl cw_10 tyX10_ok nmX10 rfl (by decide) k_X10_18 ⟨rfl, hnm, rfl⟩ rfl rfl (lay' := pre ++ (S_55 P)) (m_sufset hP rfl) dX10_init_78 (fun H locs hW hz1 => ?_)
  have hz := hz1.trans hz
  have hW : m_W D cy s b (pre ++ (S_55 P)) (m_us P μ U_15) H _ := hW
  refine lv_aload_n hx hb dX10_init_81 rfl (lv_at hl 0 rfl) ?_
  refine lv_iconst (v := 4) hx hb dX10_init_82 (by decide) ?_
  refine m_newa' (N0 := P + 4) (atype := .int) hx hb hts hW (m_suflen (n := 4) hP rfl) hz 0 ka_int (Or.inl ⟨rfl, rfl⟩) (N := 4) (lay' := pre ++ (S_56 P)) (List.append_assoc _ _ _) (by decide) (by decide) (by decide) (Nat.le_of_ble_eq_true rfl) (Nat.le_of_ble_eq_true rfl) dX10_init_83 (fun H hW hz => ?_)
  rw [m_us_z hμ U_15 4 rfl] at hW
  have hW : m_W D cy s b (pre ++ (S_56 P)) (m_us P μ U_15) H _ := hW
  have hz : H.size = b + (P + 5) := hz
  refine lv_dup hx hb dX10_init_85 rfl ?_
  refine lv_iconst (v := 0) hx hb dX10_init_86 (by decide) ?_
  refine lv_bipush (v := 60) hx hb dX10_init_87 (by decide) ?_
  refine m_iast hx hb hW (P + 4) (m_suf hP rfl) (vp_in_iff.mpr ⟨by decide, by decide⟩) dX10_init_89 (fun H locs hW hz1 => ?_)
  have hz := hz1.trans hz
  rw [show (0 : Int32).toNatClampNeg = 0 from by decide, m_us_snoc] at hW
  have hW : m_W D cy s b (pre ++ (S_56 P)) (m_us P μ U_16) H _ := hW
  refine lv_dup hx hb dX10_init_90 rfl ?_
  refine lv_iconst (v := 1) hx hb dX10_init_91 (by decide) ?_
  refine lv_bipush (v := 60) hx hb dX10_init_92 (by decide) ?_
  refine m_iast hx hb hW (P + 4) (m_suf hP rfl) (vp_in_iff.mpr ⟨by decide, by decide⟩) dX10_init_94 (fun H locs hW hz1 => ?_)
  have hz := hz1.trans hz
  rw [show (1 : Int32).toNatClampNeg = 1 from by decide, m_us_snoc] at hW
  have hW : m_W D cy s b (pre ++ (S_56 P)) (m_us P μ U_17) H _ := hW
  refine lv_dup hx hb dX10_init_95 rfl ?_
  refine lv_iconst (v := 2) hx hb dX10_init_96 (by decide) ?_
  refine lv_bipush (v := 60) hx hb dX10_init_97 (by decide) ?_
  refine m_iast hx hb hW (P + 4) (m_suf hP rfl) (vp_in_iff.mpr ⟨by decide, by decide⟩) dX10_init_99 (fun H locs hW hz1 => ?_)
  have hz := hz1.trans hz
  rw [show (2 : Int32).toNatClampNeg = 2 from by decide, m_us_snoc] at hW
  have hW : m_W D cy s b (pre ++ (S_56 P)) (m_us P μ U_18) H _ := hW
  refine lv_dup hx hb dX10_init_100 rfl ?_
  refine lv_iconst (v := 3) hx hb dX10_init_101 (by decide) ?_
  refine lv_bipush (v := 60) hx hb dX10_init_102 (by decide) ?_
  refine m_iast hx hb hW (P + 4) (m_suf hP rfl) (vp_in_iff.mpr ⟨by decide, by decide⟩) dX10_init_104 (fun H locs hW hz1 => ?_)
  have hz := hz1.trans hz
  rw [show (3 : Int32).toNatClampNeg = 3 from by decide, m_us_snoc] at hW
  have hW : m_W D cy s b (pre ++ (S_56 P)) (m_us P μ U_19) H _ := hW
  refine m_putr hx hb hts hown hW (P + 0) 3 (P + 4) (m_suf hP rfl) rfl cw_10 tyX10_ok nmX10 rfl (by decide) k_X10_21 ⟨rfl, hnm, rfl⟩ rfl rfl (lay' := pre ++ (S_57 P)) (m_sufset hP rfl) dX10_init_105 (fun H locs hW hz1 => ?_)
  have hz := hz1.trans hz
  have hW : m_W D cy s b (pre ++ (S_57 P)) (m_us P μ U_19) H _ := hW
  refine lv_aload_n hx hb dX10_init_108 rfl (lv_at hl 0 rfl) ?_
  refine lv_bipush (v := 100) hx hb dX10_init_109 (by decide) ?_
  refine m_puti hx hb hts hown hW (P + 0) 4 (m_suf hP rfl) rfl cw_10 tyX10_ok nmX10 rfl (by decide) k_X10_24 rfl rfl rfl dX10_init_111 (fun H locs hW hz1 => ?_)
  have hz := hz1.trans hz
  rw [m_us_snoc] at hW
  have hW : m_W D cy s b (pre ++ (S_57 P)) (m_us P μ U_20) H _ := hW
  refine lv_aload_n hx hb dX10_init_114 rfl (lv_at hl 0 rfl) ?_
  refine lv_iconst (v := 1) hx hb dX10_init_115 (by decide) ?_
  refine m_puti hx hb hts hown hW (P + 0) 5 (m_suf hP rfl) rfl cw_10 tyX10_ok nmX10 rfl (by decide) k_X10_28 rfl (by decide) rfl dX10_init_116 (fun H locs hW hz1 => ?_)
  have hz := hz1.trans hz
  rw [m_us_snoc] at hW
  have hW : m_W D cy s b (pre ++ (S_57 P)) (m_us P μ U_21) H _ := hW
  refine lv_aload_n hx hb dX10_init_119 rfl (lv_at hl 0 rfl) ?_
  refine lv_iconst (v := 4) hx hb dX10_init_120 (by decide) ?_
  refine m_puti hx hb hts hown hW (P + 0) 6 (m_suf hP rfl) rfl cw_10 tyX10_ok nmX10 rfl (by decide) k_X10_32 rfl rfl rfl dX10_init_121 (fun H locs hW hz1 => ?_)
  have hz := hz1.trans hz
  rw [m_us_snoc] at hW
  have hW : m_W D cy s b (pre ++ (S_57 P)) (m_us P μ U_22) H _ := hW
  refine lv_aload_n hx hb dX10_init_124 rfl (lv_at hl 0 rfl) ?_
  refine lv_bipush (v := 8) hx hb dX10_init_125 (by decide) ?_
  refine m_newq' (N0 := P + 5) hx hb hts hown hW (m_suflen (n := 5) hP rfl) hz k_X10_35 (N := 8) (lay' := pre ++ (S_58 P)) (List.append_assoc _ _ _) (by decide) (by decide) (by decide) (Nat.le_of_ble_eq_true rfl) (Nat.le_of_ble_eq_true rfl) dX10_init_127 (fun H hW hz => ?_)
  rw [m_us_z hμ U_22 5 rfl] at hW
  have hW : m_W D cy s b (pre ++ (S_58 P)) (m_us P μ U_22) H _ := hW
  have hz : H.size = b + (P + 6) := hz
  refine m_putr hx hb hts hown hW (P + 0) 7 (P + 5) (m_suf hP rfl) rfl cw_10 tyX10_ok nmX10 rfl (by decide) k_X10_37 ⟨rfl, hnm, rfl⟩ rfl rfl (lay' := pre ++ (S_59 P)) (m_sufset hP rfl) dX10_init_130 (fun H locs hW hz1 => ?_)
  have hz := hz1.trans hz
  have hW : m_W D cy s b (pre ++ (S_59 P)) (m_us P μ U_22) H _ := hW
  refine lv_iconst (v := 0) hx hb dX10_init_133 (by decide) ?_
  refine lv_istore_n (lv' := [(1, .int 0), (0, .ref (b + (P + 0)))]) hx hb dX10_init_134 rfl hl (by decide) rfl (fun ls hl => ?_)
  refine lv_iload_n hx hb dX10_init_135 rfl (lv_at hl 0 rfl) ?_
  refine lv_bipush (v := 8) hx hb dX10_init_136 (by decide) ?_
  refine lv_icmp_ge (tgt := 163) hx hb dX10_init_138 (by decide) (fun c => absurd c (by decide)) (fun _ => ?_)
  refine lv_aload_n hx hb dX10_init_141 rfl (lv_at hl 1 rfl) ?_
  refine m_getr hx hb hts hown hW (P + 0) 7 (P + 5) (m_suf hP rfl) rfl cw_10 rfl (by decide) k_X10_37 dX10_init_142 ?_
  refine lv_iload_n hx hb dX10_init_145 rfl (lv_at hl 0 rfl) ?_
  refine m_new' (N0 := P + 6) hx hb hts hown hW (m_suflen (n := 6) hP rfl) hz cw_5 tyX5_ok k_X10_35 ki_X5 kn_X5 rfl f0_5 (lay' := pre ++ (S_60 P)) (List.append_assoc _ _ _) f0_5_ok (Nat.le_of_ble_eq_true rfl) (Nat.le_of_ble_eq_true rfl) dX10_init_146 (fun H hW hz => ?_)
  rw [m_us_z hμ U_22 6 rfl] at hW
  have hW : m_W D cy s b (pre ++ (S_60 P)) (m_us P μ U_22) H _ := hW
  have hz : H.size = b + (P + 7) := hz
  refine lv_dup hx hb dX10_init_149 rfl ?_
  refine lv_sipush (v := 800) hx hb dX10_init_150 (by decide) ?_
  refine m_aZ hW (m_runI (As := [.int 800]) (rest := [.ref (b + (P + 6)), .int 0, .ref (b + (P + 5))]) hx hb hml hown hts hW (hz.trans (congrArg (fun z => b + z) (m_suflen (n := 7) hP rfl).symm)) (P + 6) (c_X5_init l D cy b (pre ++ (S_59 P)) (P + 6) (m_suflen (n := 6) hP rfl) _ (pre ++ (S_61 P)) ((List.append_assoc _ _ _).symm) (m_us P μ U_22) (m_us_zr hμ U_22 6 rfl) 800 800 (by decide) (by decide) (List.append_assoc pre (S_59 P) [.inl (5, [P + 7 + 3, 0]), .inr (0, 800, [])]).symm) mc_X5_init k_X10_43 rfl hl.1 rfl (Nat.le_of_ble_eq_true rfl) dX10_init_153 ⟨Nat.le_of_ble_eq_true rfl, Nat.le_of_ble_eq_true rfl⟩ ⟨Nat.le_of_ble_eq_true rfl, Nat.le_of_ble_eq_true rfl⟩) (fun ν H locs hν hW hz => ?_)
  rw [hν] at hW
  have hW : m_W D cy s b (pre ++ (S_61 P)) (m_us P μ U_22) H _ := hW
  have hz : H.size = b + (P + 8) := hz.trans (congrArg (fun z => b + z) (m_suflen (n := 8) hP rfl))
  refine m_aast hx hb hW (P + 5) (P + 6) (m_suf hP rfl) (m_suf hP rfl) (vp_in_iff.mpr ⟨by decide, by decide⟩) rfl (lay' := pre ++ (S_62 P)) (m_sufset hP rfl) dX10_init_156 (fun H locs hW hz1 => ?_)
  have hz := hz1.trans hz
  have hW : m_W D cy s b (pre ++ (S_62 P)) (m_us P μ U_22) H _ := hW
  refine lv_iinc (v := 1) (lv' := [(1, .int 1), (0, .ref (b + (P + 0)))]) hx hb dX10_init_157 hl (k := 0) rfl (by decide) (by decide) rfl (fun ls hl => ?_)
  refine lv_goto (tgt := 135) hx hb dX10_init_160 (by decide) ?_
  refine lv_iload_n hx hb dX10_init_135 rfl (lv_at hl 0 rfl) ?_
  refine lv_bipush (v := 8) hx hb dX10_init_136 (by decide) ?_
  refine lv_icmp_ge (tgt := 163) hx hb dX10_init_138 (by decide) (fun c => absurd c (by decide)) (fun _ => ?_)
  refine lv_aload_n hx hb dX10_init_141 rfl (lv_at hl 1 rfl) ?_
  refine m_getr hx hb hts hown hW (P + 0) 7 (P + 5) (m_suf hP rfl) rfl cw_10 rfl (by decide) k_X10_37 dX10_init_142 ?_
  refine lv_iload_n hx hb dX10_init_145 rfl (lv_at hl 0 rfl) ?_
  refine m_new' (N0 := P + 8) hx hb hts hown hW (m_suflen (n := 8) hP rfl) hz cw_5 tyX5_ok k_X10_35 ki_X5 kn_X5 rfl f0_5 (lay' := pre ++ (S_63 P)) (List.append_assoc _ _ _) f0_5_ok (Nat.le_of_ble_eq_true rfl) (Nat.le_of_ble_eq_true rfl) dX10_init_146 (fun H hW hz => ?_)
  rw [m_us_z hμ U_22 8 rfl] at hW
  have hW : m_W D cy s b (pre ++ (S_63 P)) (m_us P μ U_22) H _ := hW
  have hz : H.size = b + (P + 9) := hz
  refine lv_dup hx hb dX10_init_149 rfl ?_
  refine lv_sipush (v := 800) hx hb dX10_init_150 (by decide) ?_
  refine m_aZ hW (m_runI (As := [.int 800]) (rest := [.ref (b + (P + 8)), .int 1, .ref (b + (P + 5))]) hx hb hml hown hts hW (hz.trans (congrArg (fun z => b + z) (m_suflen (n := 9) hP rfl).symm)) (P + 8) (c_X5_init l D cy b (pre ++ (S_62 P)) (P + 8) (m_suflen (n := 8) hP rfl) _ (pre ++ (S_64 P)) ((List.append_assoc _ _ _).symm) (m_us P μ U_22) (m_us_zr hμ U_22 8 rfl) 800 800 (by decide) (by decide) (List.append_assoc pre (S_62 P) [.inl (5, [P + 9 + 3, 0]), .inr (0, 800, [])]).symm) mc_X5_init k_X10_43 rfl hl.1 rfl (Nat.le_of_ble_eq_true rfl) dX10_init_153 ⟨Nat.le_of_ble_eq_true rfl, Nat.le_of_ble_eq_true rfl⟩ ⟨Nat.le_of_ble_eq_true rfl, Nat.le_of_ble_eq_true rfl⟩) (fun ν H locs hν hW hz => ?_)
  rw [hν] at hW
  have hW : m_W D cy s b (pre ++ (S_64 P)) (m_us P μ U_22) H _ := hW
  have hz : H.size = b + (P + 10) := hz.trans (congrArg (fun z => b + z) (m_suflen (n := 10) hP rfl))
  refine m_aast hx hb hW (P + 5) (P + 8) (m_suf hP rfl) (m_suf hP rfl) (vp_in_iff.mpr ⟨by decide, by decide⟩) rfl (lay' := pre ++ (S_65 P)) (m_sufset hP rfl) dX10_init_156 (fun H locs hW hz1 => ?_)
  have hz := hz1.trans hz
  have hW : m_W D cy s b (pre ++ (S_65 P)) (m_us P μ U_22) H _ := hW
  refine lv_iinc (v := 2) (lv' := [(1, .int 2), (0, .ref (b + (P + 0)))]) hx hb dX10_init_157 hl (k := 0) rfl (by decide) (by decide) rfl (fun ls hl => ?_)
  refine lv_goto (tgt := 135) hx hb dX10_init_160 (by decide) ?_
  refine lv_iload_n hx hb dX10_init_135 rfl (lv_at hl 0 rfl) ?_
  refine lv_bipush (v := 8) hx hb dX10_init_136 (by decide) ?_
  refine lv_icmp_ge (tgt := 163) hx hb dX10_init_138 (by decide) (fun c => absurd c (by decide)) (fun _ => ?_)
  refine lv_aload_n hx hb dX10_init_141 rfl (lv_at hl 1 rfl) ?_
  refine m_getr hx hb hts hown hW (P + 0) 7 (P + 5) (m_suf hP rfl) rfl cw_10 rfl (by decide) k_X10_37 dX10_init_142 ?_
  refine lv_iload_n hx hb dX10_init_145 rfl (lv_at hl 0 rfl) ?_
  refine m_new' (N0 := P + 10) hx hb hts hown hW (m_suflen (n := 10) hP rfl) hz cw_5 tyX5_ok k_X10_35 ki_X5 kn_X5 rfl f0_5 (lay' := pre ++ (S_66 P)) (List.append_assoc _ _ _) f0_5_ok (Nat.le_of_ble_eq_true rfl) (Nat.le_of_ble_eq_true rfl) dX10_init_146 (fun H hW hz => ?_)
  rw [m_us_z hμ U_22 10 rfl] at hW
  have hW : m_W D cy s b (pre ++ (S_66 P)) (m_us P μ U_22) H _ := hW
  have hz : H.size = b + (P + 11) := hz
  refine lv_dup hx hb dX10_init_149 rfl ?_
  refine lv_sipush (v := 800) hx hb dX10_init_150 (by decide) ?_
  refine m_aZ hW (m_runI (As := [.int 800]) (rest := [.ref (b + (P + 10)), .int 2, .ref (b + (P + 5))]) hx hb hml hown hts hW (hz.trans (congrArg (fun z => b + z) (m_suflen (n := 11) hP rfl).symm)) (P + 10) (c_X5_init l D cy b (pre ++ (S_65 P)) (P + 10) (m_suflen (n := 10) hP rfl) _ (pre ++ (S_67 P)) ((List.append_assoc _ _ _).symm) (m_us P μ U_22) (m_us_zr hμ U_22 10 rfl) 800 800 (by decide) (by decide) (List.append_assoc pre (S_65 P) [.inl (5, [P + 11 + 3, 0]), .inr (0, 800, [])]).symm) mc_X5_init k_X10_43 rfl hl.1 rfl (Nat.le_of_ble_eq_true rfl) dX10_init_153 ⟨Nat.le_of_ble_eq_true rfl, Nat.le_of_ble_eq_true rfl⟩ ⟨Nat.le_of_ble_eq_true rfl, Nat.le_of_ble_eq_true rfl⟩) (fun ν H locs hν hW hz => ?_)
  rw [hν] at hW
  have hW : m_W D cy s b (pre ++ (S_67 P)) (m_us P μ U_22) H _ := hW
  have hz : H.size = b + (P + 12) := hz.trans (congrArg (fun z => b + z) (m_suflen (n := 12) hP rfl))
  refine m_aast hx hb hW (P + 5) (P + 10) (m_suf hP rfl) (m_suf hP rfl) (vp_in_iff.mpr ⟨by decide, by decide⟩) rfl (lay' := pre ++ (S_68 P)) (m_sufset hP rfl) dX10_init_156 (fun H locs hW hz1 => ?_)
  have hz := hz1.trans hz
  have hW : m_W D cy s b (pre ++ (S_68 P)) (m_us P μ U_22) H _ := hW
  refine lv_iinc (v := 3) (lv' := [(1, .int 3), (0, .ref (b + (P + 0)))]) hx hb dX10_init_157 hl (k := 0) rfl (by decide) (by decide) rfl (fun ls hl => ?_)
  refine lv_goto (tgt := 135) hx hb dX10_init_160 (by decide) ?_
  refine lv_iload_n hx hb dX10_init_135 rfl (lv_at hl 0 rfl) ?_
  refine lv_bipush (v := 8) hx hb dX10_init_136 (by decide) ?_
  refine lv_icmp_ge (tgt := 163) hx hb dX10_init_138 (by decide) (fun c => absurd c (by decide)) (fun _ => ?_)
  refine lv_aload_n hx hb dX10_init_141 rfl (lv_at hl 1 rfl) ?_
  refine m_getr hx hb hts hown hW (P + 0) 7 (P + 5) (m_suf hP rfl) rfl cw_10 rfl (by decide) k_X10_37 dX10_init_142 ?_
  refine lv_iload_n hx hb dX10_init_145 rfl (lv_at hl 0 rfl) ?_
  refine m_new' (N0 := P + 12) hx hb hts hown hW (m_suflen (n := 12) hP rfl) hz cw_5 tyX5_ok k_X10_35 ki_X5 kn_X5 rfl f0_5 (lay' := pre ++ (S_69 P)) (List.append_assoc _ _ _) f0_5_ok (Nat.le_of_ble_eq_true rfl) (Nat.le_of_ble_eq_true rfl) dX10_init_146 (fun H hW hz => ?_)
  rw [m_us_z hμ U_22 12 rfl] at hW
  have hW : m_W D cy s b (pre ++ (S_69 P)) (m_us P μ U_22) H _ := hW
  have hz : H.size = b + (P + 13) := hz
  refine lv_dup hx hb dX10_init_149 rfl ?_
  refine lv_sipush (v := 800) hx hb dX10_init_150 (by decide) ?_
  refine m_aZ hW (m_runI (As := [.int 800]) (rest := [.ref (b + (P + 12)), .int 3, .ref (b + (P + 5))]) hx hb hml hown hts hW (hz.trans (congrArg (fun z => b + z) (m_suflen (n := 13) hP rfl).symm)) (P + 12) (c_X5_init l D cy b (pre ++ (S_68 P)) (P + 12) (m_suflen (n := 12) hP rfl) _ (pre ++ (S_70 P)) ((List.append_assoc _ _ _).symm) (m_us P μ U_22) (m_us_zr hμ U_22 12 rfl) 800 800 (by decide) (by decide) (List.append_assoc pre (S_68 P) [.inl (5, [P + 13 + 3, 0]), .inr (0, 800, [])]).symm) mc_X5_init k_X10_43 rfl hl.1 rfl (Nat.le_of_ble_eq_true rfl) dX10_init_153 ⟨Nat.le_of_ble_eq_true rfl, Nat.le_of_ble_eq_true rfl⟩ ⟨Nat.le_of_ble_eq_true rfl, Nat.le_of_ble_eq_true rfl⟩) (fun ν H locs hν hW hz => ?_)
  rw [hν] at hW
  have hW : m_W D cy s b (pre ++ (S_70 P)) (m_us P μ U_22) H _ := hW
  have hz : H.size = b + (P + 14) := hz.trans (congrArg (fun z => b + z) (m_suflen (n := 14) hP rfl))
  refine m_aast hx hb hW (P + 5) (P + 12) (m_suf hP rfl) (m_suf hP rfl) (vp_in_iff.mpr ⟨by decide, by decide⟩) rfl (lay' := pre ++ (S_71 P)) (m_sufset hP rfl) dX10_init_156 (fun H locs hW hz1 => ?_)
  have hz := hz1.trans hz
  have hW : m_W D cy s b (pre ++ (S_71 P)) (m_us P μ U_22) H _ := hW
  refine lv_iinc (v := 4) (lv' := [(1, .int 4), (0, .ref (b + (P + 0)))]) hx hb dX10_init_157 hl (k := 0) rfl (by decide) (by decide) rfl (fun ls hl => ?_)
  refine lv_goto (tgt := 135) hx hb dX10_init_160 (by decide) ?_
  refine lv_iload_n hx hb dX10_init_135 rfl (lv_at hl 0 rfl) ?_
  refine lv_bipush (v := 8) hx hb dX10_init_136 (by decide) ?_
  refine lv_icmp_ge (tgt := 163) hx hb dX10_init_138 (by decide) (fun c => absurd c (by decide)) (fun _ => ?_)
  refine lv_aload_n hx hb dX10_init_141 rfl (lv_at hl 1 rfl) ?_
  refine m_getr hx hb hts hown hW (P + 0) 7 (P + 5) (m_suf hP rfl) rfl cw_10 rfl (by decide) k_X10_37 dX10_init_142 ?_
  refine lv_iload_n hx hb dX10_init_145 rfl (lv_at hl 0 rfl) ?_
  refine m_new' (N0 := P + 14) hx hb hts hown hW (m_suflen (n := 14) hP rfl) hz cw_5 tyX5_ok k_X10_35 ki_X5 kn_X5 rfl f0_5 (lay' := pre ++ (S_72 P)) (List.append_assoc _ _ _) f0_5_ok (Nat.le_of_ble_eq_true rfl) (Nat.le_of_ble_eq_true rfl) dX10_init_146 (fun H hW hz => ?_)
  rw [m_us_z hμ U_22 14 rfl] at hW
  have hW : m_W D cy s b (pre ++ (S_72 P)) (m_us P μ U_22) H _ := hW
  have hz : H.size = b + (P + 15) := hz
  refine lv_dup hx hb dX10_init_149 rfl ?_
  refine lv_sipush (v := 800) hx hb dX10_init_150 (by decide) ?_
  refine m_aZ hW (m_runI (As := [.int 800]) (rest := [.ref (b + (P + 14)), .int 4, .ref (b + (P + 5))]) hx hb hml hown hts hW (hz.trans (congrArg (fun z => b + z) (m_suflen (n := 15) hP rfl).symm)) (P + 14) (c_X5_init l D cy b (pre ++ (S_71 P)) (P + 14) (m_suflen (n := 14) hP rfl) _ (pre ++ (S_73 P)) ((List.append_assoc _ _ _).symm) (m_us P μ U_22) (m_us_zr hμ U_22 14 rfl) 800 800 (by decide) (by decide) (List.append_assoc pre (S_71 P) [.inl (5, [P + 15 + 3, 0]), .inr (0, 800, [])]).symm) mc_X5_init k_X10_43 rfl hl.1 rfl (Nat.le_of_ble_eq_true rfl) dX10_init_153 ⟨Nat.le_of_ble_eq_true rfl, Nat.le_of_ble_eq_true rfl⟩ ⟨Nat.le_of_ble_eq_true rfl, Nat.le_of_ble_eq_true rfl⟩) (fun ν H locs hν hW hz => ?_)
  rw [hν] at hW
  have hW : m_W D cy s b (pre ++ (S_73 P)) (m_us P μ U_22) H _ := hW
  have hz : H.size = b + (P + 16) := hz.trans (congrArg (fun z => b + z) (m_suflen (n := 16) hP rfl))
  refine m_aast hx hb hW (P + 5) (P + 14) (m_suf hP rfl) (m_suf hP rfl) (vp_in_iff.mpr ⟨by decide, by decide⟩) rfl (lay' := pre ++ (S_74 P)) (m_sufset hP rfl) dX10_init_156 (fun H locs hW hz1 => ?_)
  have hz := hz1.trans hz
  have hW : m_W D cy s b (pre ++ (S_74 P)) (m_us P μ U_22) H _ := hW
  refine lv_iinc (v := 5) (lv' := [(1, .int 5), (0, .ref (b + (P + 0)))]) hx hb dX10_init_157 hl (k := 0) rfl (by decide) (by decide) rfl (fun ls hl => ?_)
  refine lv_goto (tgt := 135) hx hb dX10_init_160 (by decide) ?_
  refine lv_iload_n hx hb dX10_init_135 rfl (lv_at hl 0 rfl) ?_
  refine lv_bipush (v := 8) hx hb dX10_init_136 (by decide) ?_
  refine lv_icmp_ge (tgt := 163) hx hb dX10_init_138 (by decide) (fun c => absurd c (by decide)) (fun _ => ?_)
  refine lv_aload_n hx hb dX10_init_141 rfl (lv_at hl 1 rfl) ?_
  refine m_getr hx hb hts hown hW (P + 0) 7 (P + 5) (m_suf hP rfl) rfl cw_10 rfl (by decide) k_X10_37 dX10_init_142 ?_
  refine lv_iload_n hx hb dX10_init_145 rfl (lv_at hl 0 rfl) ?_
  refine m_new' (N0 := P + 16) hx hb hts hown hW (m_suflen (n := 16) hP rfl) hz cw_5 tyX5_ok k_X10_35 ki_X5 kn_X5 rfl f0_5 (lay' := pre ++ (S_75 P)) (List.append_assoc _ _ _) f0_5_ok (Nat.le_of_ble_eq_true rfl) (Nat.le_of_ble_eq_true rfl) dX10_init_146 (fun H hW hz => ?_)
  rw [m_us_z hμ U_22 16 rfl] at hW
  have hW : m_W D cy s b (pre ++ (S_75 P)) (m_us P μ U_22) H _ := hW
  have hz : H.size = b + (P + 17) := hz
  refine lv_dup hx hb dX10_init_149 rfl ?_
  refine lv_sipush (v := 800) hx hb dX10_init_150 (by decide) ?_
  refine m_aZ hW (m_runI (As := [.int 800]) (rest := [.ref (b + (P + 16)), .int 5, .ref (b + (P + 5))]) hx hb hml hown hts hW (hz.trans (congrArg (fun z => b + z) (m_suflen (n := 17) hP rfl).symm)) (P + 16) (c_X5_init l D cy b (pre ++ (S_74 P)) (P + 16) (m_suflen (n := 16) hP rfl) _ (pre ++ (S_76 P)) ((List.append_assoc _ _ _).symm) (m_us P μ U_22) (m_us_zr hμ U_22 16 rfl) 800 800 (by decide) (by decide) (List.append_assoc pre (S_74 P) [.inl (5, [P + 17 + 3, 0]), .inr (0, 800, [])]).symm) mc_X5_init k_X10_43 rfl hl.1 rfl (Nat.le_of_ble_eq_true rfl) dX10_init_153 ⟨Nat.le_of_ble_eq_true rfl, Nat.le_of_ble_eq_true rfl⟩ ⟨Nat.le_of_ble_eq_true rfl, Nat.le_of_ble_eq_true rfl⟩) (fun ν H locs hν hW hz => ?_)
  rw [hν] at hW
  have hW : m_W D cy s b (pre ++ (S_76 P)) (m_us P μ U_22) H _ := hW
  have hz : H.size = b + (P + 18) := hz.trans (congrArg (fun z => b + z) (m_suflen (n := 18) hP rfl))
  refine m_aast hx hb hW (P + 5) (P + 16) (m_suf hP rfl) (m_suf hP rfl) (vp_in_iff.mpr ⟨by decide, by decide⟩) rfl (lay' := pre ++ (S_77 P)) (m_sufset hP rfl) dX10_init_156 (fun H locs hW hz1 => ?_)
  have hz := hz1.trans hz
  have hW : m_W D cy s b (pre ++ (S_77 P)) (m_us P μ U_22) H _ := hW
  refine lv_iinc (v := 6) (lv' := [(1, .int 6), (0, .ref (b + (P + 0)))]) hx hb dX10_init_157 hl (k := 0) rfl (by decide) (by decide) rfl (fun ls hl => ?_)
  refine lv_goto (tgt := 135) hx hb dX10_init_160 (by decide) ?_
  refine lv_iload_n hx hb dX10_init_135 rfl (lv_at hl 0 rfl) ?_
  refine lv_bipush (v := 8) hx hb dX10_init_136 (by decide) ?_
  refine lv_icmp_ge (tgt := 163) hx hb dX10_init_138 (by decide) (fun c => absurd c (by decide)) (fun _ => ?_)
  refine lv_aload_n hx hb dX10_init_141 rfl (lv_at hl 1 rfl) ?_
  refine m_getr hx hb hts hown hW (P + 0) 7 (P + 5) (m_suf hP rfl) rfl cw_10 rfl (by decide) k_X10_37 dX10_init_142 ?_
  refine lv_iload_n hx hb dX10_init_145 rfl (lv_at hl 0 rfl) ?_
  refine m_new' (N0 := P + 18) hx hb hts hown hW (m_suflen (n := 18) hP rfl) hz cw_5 tyX5_ok k_X10_35 ki_X5 kn_X5 rfl f0_5 (lay' := pre ++ (S_78 P)) (List.append_assoc _ _ _) f0_5_ok (Nat.le_of_ble_eq_true rfl) (Nat.le_of_ble_eq_true rfl) dX10_init_146 (fun H hW hz => ?_)
  rw [m_us_z hμ U_22 18 rfl] at hW
  have hW : m_W D cy s b (pre ++ (S_78 P)) (m_us P μ U_22) H _ := hW
  have hz : H.size = b + (P + 19) := hz
  refine lv_dup hx hb dX10_init_149 rfl ?_
  refine lv_sipush (v := 800) hx hb dX10_init_150 (by decide) ?_
  refine m_aZ hW (m_runI (As := [.int 800]) (rest := [.ref (b + (P + 18)), .int 6, .ref (b + (P + 5))]) hx hb hml hown hts hW (hz.trans (congrArg (fun z => b + z) (m_suflen (n := 19) hP rfl).symm)) (P + 18) (c_X5_init l D cy b (pre ++ (S_77 P)) (P + 18) (m_suflen (n := 18) hP rfl) _ (pre ++ (S_79 P)) ((List.append_assoc _ _ _).symm) (m_us P μ U_22) (m_us_zr hμ U_22 18 rfl) 800 800 (by decide) (by decide) (List.append_assoc pre (S_77 P) [.inl (5, [P + 19 + 3, 0]), .inr (0, 800, [])]).symm) mc_X5_init k_X10_43 rfl hl.1 rfl (Nat.le_of_ble_eq_true rfl) dX10_init_153 ⟨Nat.le_of_ble_eq_true rfl, Nat.le_of_ble_eq_true rfl⟩ ⟨Nat.le_of_ble_eq_true rfl, Nat.le_of_ble_eq_true rfl⟩) (fun ν H locs hν hW hz => ?_)
  rw [hν] at hW
  have hW : m_W D cy s b (pre ++ (S_79 P)) (m_us P μ U_22) H _ := hW
  have hz : H.size = b + (P + 20) := hz.trans (congrArg (fun z => b + z) (m_suflen (n := 20) hP rfl))
  refine m_aast hx hb hW (P + 5) (P + 18) (m_suf hP rfl) (m_suf hP rfl) (vp_in_iff.mpr ⟨by decide, by decide⟩) rfl (lay' := pre ++ (S_80 P)) (m_sufset hP rfl) dX10_init_156 (fun H locs hW hz1 => ?_)
  have hz := hz1.trans hz
  have hW : m_W D cy s b (pre ++ (S_80 P)) (m_us P μ U_22) H _ := hW
  refine lv_iinc (v := 7) (lv' := [(1, .int 7), (0, .ref (b + (P + 0)))]) hx hb dX10_init_157 hl (k := 0) rfl (by decide) (by decide) rfl (fun ls hl => ?_)
  refine lv_goto (tgt := 135) hx hb dX10_init_160 (by decide) ?_
  refine lv_iload_n hx hb dX10_init_135 rfl (lv_at hl 0 rfl) ?_
  refine lv_bipush (v := 8) hx hb dX10_init_136 (by decide) ?_
  refine lv_icmp_ge (tgt := 163) hx hb dX10_init_138 (by decide) (fun c => absurd c (by decide)) (fun _ => ?_)
  refine lv_aload_n hx hb dX10_init_141 rfl (lv_at hl 1 rfl) ?_
  refine m_getr hx hb hts hown hW (P + 0) 7 (P + 5) (m_suf hP rfl) rfl cw_10 rfl (by decide) k_X10_37 dX10_init_142 ?_
  refine lv_iload_n hx hb dX10_init_145 rfl (lv_at hl 0 rfl) ?_
  refine m_new' (N0 := P + 20) hx hb hts hown hW (m_suflen (n := 20) hP rfl) hz cw_5 tyX5_ok k_X10_35 ki_X5 kn_X5 rfl f0_5 (lay' := pre ++ (S_81 P)) (List.append_assoc _ _ _) f0_5_ok (Nat.le_of_ble_eq_true rfl) (Nat.le_of_ble_eq_true rfl) dX10_init_146 (fun H hW hz => ?_)
  rw [m_us_z hμ U_22 20 rfl] at hW
  have hW : m_W D cy s b (pre ++ (S_81 P)) (m_us P μ U_22) H _ := hW
  have hz : H.size = b + (P + 21) := hz
  refine lv_dup hx hb dX10_init_149 rfl ?_
  refine lv_sipush (v := 800) hx hb dX10_init_150 (by decide) ?_
  refine m_aZ hW (m_runI (As := [.int 800]) (rest := [.ref (b + (P + 20)), .int 7, .ref (b + (P + 5))]) hx hb hml hown hts hW (hz.trans (congrArg (fun z => b + z) (m_suflen (n := 21) hP rfl).symm)) (P + 20) (c_X5_init l D cy b (pre ++ (S_80 P)) (P + 20) (m_suflen (n := 20) hP rfl) _ (pre ++ (S_82 P)) ((List.append_assoc _ _ _).symm) (m_us P μ U_22) (m_us_zr hμ U_22 20 rfl) 800 800 (by decide) (by decide) (List.append_assoc pre (S_80 P) [.inl (5, [P + 21 + 3, 0]), .inr (0, 800, [])]).symm) mc_X5_init k_X10_43 rfl hl.1 rfl (Nat.le_of_ble_eq_true rfl) dX10_init_153 ⟨Nat.le_of_ble_eq_true rfl, Nat.le_of_ble_eq_true rfl⟩ ⟨Nat.le_of_ble_eq_true rfl, Nat.le_of_ble_eq_true rfl⟩) (fun ν H locs hν hW hz => ?_)
  rw [hν] at hW
  have hW : m_W D cy s b (pre ++ (S_82 P)) (m_us P μ U_22) H _ := hW
  have hz : H.size = b + (P + 22) := hz.trans (congrArg (fun z => b + z) (m_suflen (n := 22) hP rfl))
  refine m_aast hx hb hW (P + 5) (P + 20) (m_suf hP rfl) (m_suf hP rfl) (vp_in_iff.mpr ⟨by decide, by decide⟩) rfl (lay' := pre ++ (S_83 P)) (m_sufset hP rfl) dX10_init_156 (fun H locs hW hz1 => ?_)
  have hz := hz1.trans hz
  have hW : m_W D cy s b (pre ++ (S_83 P)) (m_us P μ U_22) H _ := hW
  refine lv_iinc (v := 8) (lv' := [(1, .int 8), (0, .ref (b + (P + 0)))]) hx hb dX10_init_157 hl (k := 0) rfl (by decide) (by decide) rfl (fun ls hl => ?_)
  refine lv_goto (tgt := 135) hx hb dX10_init_160 (by decide) ?_
  refine lv_iload_n hx hb dX10_init_135 rfl (lv_at hl 0 rfl) ?_
  refine lv_bipush (v := 8) hx hb dX10_init_136 (by decide) ?_
  refine lv_icmp_ge (tgt := 163) hx hb dX10_init_138 (by decide) (fun _ => ?_) (fun c => absurd (by decide) c)
  refine W.widen (k := 21) (n := 6440) (Nat.le_of_ble_eq_true rfl) (Nat.le_of_ble_eq_true rfl) ?_
  subst h1
  exact m_zret hx hb hr hlocks hW (hz.trans (congrArg (fun z => b + z) (m_suflen (n := 22) hP rfl).symm)) rfl dX10_init_163
def U_23 : List (Nat × Nat × Int32) := [] ++ [(0, 2, (-1))]
def S_85 (P : Nat) : List mL := [.inl (9, [0, 0, 0, 2, 2, 2, 2])]
def S_86 (P : Nat) : List mL := [.inl (9, [0, 0, 0, 2, 2, 2, 2]), .inl (6, [2, 0, 0])]
def S_87 (P : Nat) : List mL := [.inl (9, [0, 0, 0, 2, 2, 2, 2]), .inl (6, [P + 2 + 3, 0, 0]), .inr (0, 5, [])]
def S_88 (P : Nat) : List mL := [.inl (9, [0, 0, 0, P + 1 + 3, 2, 2, 2]), .inl (6, [P + 2 + 3, 0, 0]), .inr (0, 5, [])]
def S_89 (P : Nat) : List mL := [.inl (9, [0, 0, 0, P + 1 + 3, 2, 2, 2]), .inl (6, [P + 2 + 3, 0, 0]), .inr (0, 5, []), .inl (5, [2, 0])]
def S_90 (P : Nat) : List mL := [.inl (9, [0, 0, 0, P + 1 + 3, 2, 2, 2]), .inl (6, [P + 2 + 3, 0, 0]), .inr (0, 5, []), .inl (5, [P + 4 + 3, 0]), .inr (0, 4, [])]
def S_91 (P : Nat) : List mL := [.inl (9, [0, 0, 0, P + 1 + 3, P + 3 + 3, 2, 2]), .inl (6, [P + 2 + 3, 0, 0]), .inr (0, 5, []), .inl (5, [P + 4 + 3, 0]), .inr (0, 4, [])]
def S_92 (P : Nat) : List mL := [.inl (9, [0, 0, 0, P + 1 + 3, P + 3 + 3, 2, 2]), .inl (6, [P + 2 + 3, 0, 0]), .inr (0, 5, []), .inl (5, [P + 4 + 3, 0]), .inr (0, 4, []), .inl (3, [0, 0, 0, 0, 0, 0, 0, 1, 1, 1, 2, 2, 2, 2, 2, 2, 2, 2])]
def S_93 (P : Nat) : List mL := [.inl (9, [0, 0, 0, P + 1 + 3, P + 3 + 3, 2, 2]), .inl (6, [P + 2 + 3, 0, 0]), .inr (0, 5, []), .inl (5, [P + 4 + 3, 0]), .inr (0, 4, []), .inl (3, [0, 0, 0, 0, 0, 0, 0, 1, 1, 1, P + 6 + 3, P + 7 + 3, P + 8 + 3, P + 9 + 3, P + 10 + 3, P + 11 + 3, P + 12 + 3, P + 13 + 3]), .inl (1, [0, 0, 0, 0, 0]), .inr (0, 192, []), .inr (0, 192, []), .inr (0, 192, []), .inr (0, 192, []), .inr (0, 192, []), .inr (0, 192, []), .inl (2, [P + 14 + 3, P + 15 + 3, 0, 0, 0]), .inr (0, 192, []), .inr (0, 192, [])]
def U_24 : List (Nat × Nat × Int32) := U_23 ++ m_sh 5 U_2
def S_94 (P : Nat) : List mL := [.inl (9, [0, 0, 0, P + 1 + 3, P + 3 + 3, P + 5 + 3, 2]), .inl (6, [P + 2 + 3, 0, 0]), .inr (0, 5, []), .inl (5, [P + 4 + 3, 0]), .inr (0, 4, []), .inl (3, [0, 0, 0, 0, 0, 0, 0, 1, 1, 1, P + 6 + 3, P + 7 + 3, P + 8 + 3, P + 9 + 3, P + 10 + 3, P + 11 + 3, P + 12 + 3, P + 13 + 3]), .inl (1, [0, 0, 0, 0, 0]), .inr (0, 192, []), .inr (0, 192, []), .inr (0, 192, []), .inr (0, 192, []), .inr (0, 192, []), .inr (0, 192, []), .inl (2, [P + 14 + 3, P + 15 + 3, 0, 0, 0]), .inr (0, 192, []), .inr (0, 192, [])]
def S_95 (P : Nat) : List mL := [.inl (9, [0, 0, 0, P + 1 + 3, P + 3 + 3, P + 5 + 3, 2]), .inl (6, [P + 2 + 3, 0, 0]), .inr (0, 5, []), .inl (5, [P + 4 + 3, 0]), .inr (0, 4, []), .inl (3, [0, 0, 0, 0, 0, 0, 0, 1, 1, 1, P + 6 + 3, P + 7 + 3, P + 8 + 3, P + 9 + 3, P + 10 + 3, P + 11 + 3, P + 12 + 3, P + 13 + 3]), .inl (1, [0, 0, 0, 0, 0]), .inr (0, 192, []), .inr (0, 192, []), .inr (0, 192, []), .inr (0, 192, []), .inr (0, 192, []), .inr (0, 192, []), .inl (2, [P + 14 + 3, P + 15 + 3, 0, 0, 0]), .inr (0, 192, []), .inr (0, 192, []), .inr (0, 3, [])]
def S_96 (P : Nat) : List mL := [.inl (9, [0, 0, 0, P + 1 + 3, P + 3 + 3, P + 5 + 3, P + 16 + 3]), .inl (6, [P + 2 + 3, 0, 0]), .inr (0, 5, []), .inl (5, [P + 4 + 3, 0]), .inr (0, 4, []), .inl (3, [0, 0, 0, 0, 0, 0, 0, 1, 1, 1, P + 6 + 3, P + 7 + 3, P + 8 + 3, P + 9 + 3, P + 10 + 3, P + 11 + 3, P + 12 + 3, P + 13 + 3]), .inl (1, [0, 0, 0, 0, 0]), .inr (0, 192, []), .inr (0, 192, []), .inr (0, 192, []), .inr (0, 192, []), .inr (0, 192, []), .inr (0, 192, []), .inl (2, [P + 14 + 3, P + 15 + 3, 0, 0, 0]), .inr (0, 192, []), .inr (0, 192, []), .inr (0, 3, [])]
set_option maxHeartbeats 4000000 in
set_option maxRecDepth 100000 in
theorem c_X9_init (l : Launch) (D : va_G) (cy : Nat → ClassId) (b : Nat) (pre : List mL) (P : Nat) (hP : pre.length = P) (lay0 lay1 : List mL) (h0 : lay0 = pre ++ [.inl (9, f0_9)]) (μ : mM) (hμ : m_Zr P μ) (h1 : lay1 = pre ++ (S_96 P)) : m_Cz l yX9_init cX9_init 1 3 16 1581 D cy b lay0 lay1 μ [.ref (b + P)] (fun ν => ν = m_us P μ U_24) := by
  subst h0
  refine m_ofz (cc := cX9_init) (n := 1) (d := 3) (by decide) (Nat.le_of_ble_eq_true rfl) ?_
  intro p e s m below meth c hx hb hr hml hown hts hlocks hnm hW hz ls hl
  have hown : s.vm.findClass RX9 = some m.cls := hown
  have hl : lv_has ls 1 [(0, .ref (b + (P + 0)))] := hl
  have hW : m_W D cy s b (pre ++ (S_85 P)) (m_us P μ []) s.heap [] := hW
  have hz : s.heap.size = b + (P + 1) := hz.trans (congrArg (fun z => b + z) (m_suflen (n := 1) hP rfl))
  refine lv_aload_n hx hb dX9_init_0 rfl (lv_at hl 0 rfl) ?_
  refine W.objInit hx hb hown (hts _ k_X9_3) (hts _ ko_i) (hts _ ko_c) rfl (by rw [hml]; exact hl.1) rfl dX9_init_1 (Nat.le_of_ble_eq_true rfl) (Nat.le_of_ble_eq_true rfl) ?_
  refine W.eq (g2 := F0 m 4 ls []) rfl ?_
  refine lv_aload_n hx hb dX9_init_4 rfl (lv_at hl 0 rfl) ?_
  refine lv_iconst (v := 0) hx hb dX9_init_5 (by decide) ?_
  refine m_puti hx hb hts hown hW (P + 0) 0 (m_suf hP rfl) rfl cw_9 tyX9_ok nmX9 rfl (by decide) k_X9_9 rfl rfl rfl dX9_init_6 (fun H locs hW hz1 => ?_)
  have hz := hz1.trans hz
  rw [m_si_same (m_us_0 hμ [] 0 0 rfl)] at hW
  refine lv_aload_n hx hb dX9_init_9 rfl (lv_at hl 0 rfl) ?_
  refine lv_iconst (v := 0) hx hb dX9_init_10 (by decide) ?_
  refine m_puti hx hb hts hown hW (P + 0) 1 (m_suf hP rfl) rfl cw_9 tyX9_ok nmX9 rfl (by decide) k_X9_15 rfl rfl rfl dX9_init_11 (fun H locs hW hz1 => ?_)
  have hz := hz1.trans hz
  rw [m_si_same (m_us_0 hμ [] 0 1 rfl)] at hW
  refine lv_aload_n hx hb dX9_init_14 rfl (lv_at hl 0 rfl) ?_
  refine lv_iconst (v := (-1)) hx hb dX9_init_15 (by decide) ?_
  refine m_puti hx hb hts hown hW (P + 0) 2 (m_suf hP rfl) rfl cw_9 tyX9_ok nmX9 rfl (by decide) k_X9_18 rfl rfl rfl dX9_init_16 (fun H locs hW hz1 => ?_)
  have hz := hz1.trans hz
  rw [m_us_snoc] at hW
  have hW : m_W D cy s b (pre ++ (S_85 P)) (m_us P μ U_23) H _ := hW
  refine lv_aload_n hx hb dX9_init_19 rfl (lv_at hl 0 rfl) ?_
  refine m_new' (N0 := P + 1) hx hb hts hown hW (m_suflen (n := 1) hP rfl) hz cw_6 tyX6_ok k_X9_21 ki_X6 kn_X6 rfl f0_6 (lay' := pre ++ (S_86 P)) (List.append_assoc _ _ _) f0_6_ok (Nat.le_of_ble_eq_true rfl) (Nat.le_of_ble_eq_true rfl) dX9_init_20 (fun H hW hz => ?_)
  rw [m_us_z hμ U_23 1 rfl] at hW
  have hW : m_W D cy s b (pre ++ (S_86 P)) (m_us P μ U_23) H _ := hW
  have hz : H.size = b + (P + 2) := hz
  refine lv_dup hx hb dX9_init_23 rfl ?_
  refine m_aZ hW (m_runIN (As := []) (rest := [.ref (b + (P + 1)), .ref (b + (P + 0))]) hx hb hml hown hts hW (hz.trans (congrArg (fun z => b + z) (m_suflen (n := 2) hP rfl).symm)) (P + 1) (c_X6_init l D cy b (pre ++ (S_85 P)) (P + 1) (m_suflen (n := 1) hP rfl) _ (pre ++ (S_87 P)) ((List.append_assoc _ _ _).symm) (m_us P μ U_23) (m_us_zr hμ U_23 1 rfl) (List.append_assoc pre (S_85 P) [.inl (6, [P + 2 + 3, 0, 0]), .inr (0, 5, [])]).symm) mc_X6_init n_X9_23 rfl hl.1 rfl (Nat.le_of_ble_eq_true rfl) dX9_init_24 ⟨Nat.le_of_ble_eq_true rfl, Nat.le_of_ble_eq_true rfl⟩ ⟨Nat.le_of_ble_eq_true rfl, Nat.le_of_ble_eq_true rfl⟩) (fun ν H locs hν hW hz => ?_)
  rw [hν] at hW
  have hW : m_W D cy s b (pre ++ (S_87 P)) (m_us P μ U_23) H _ := hW
  have hz : H.size = b + (P + 3) := hz.trans (congrArg (fun z => b + z) (m_suflen (n := 3) hP rfl))
  refine m_putr hx hb hts hown hW (P + 0) 3 (P + 1) (m_suf hP rfl) rfl cw_9 tyX9_ok nmX9 rfl (by decide) k_X9_24 ⟨rfl, hnm, rfl⟩ rfl rfl (lay' := pre ++ (S_88 P)) (m_sufset hP rfl) dX9_init_27 (fun H locs hW hz1 => ?_)
  have hz := hz1.trans hz
  have hW : m_W D cy s b (pre ++ (S_88 P)) (m_us P μ U_23) H _ := hW
  refine lv_aload_n hx hb dX9_init_30 rfl (lv_at hl 0 rfl) ?_
  refine m_new' (N0 := P + 3) hx hb hts hown hW (m_suflen (n := 3) hP rfl) hz cw_5 tyX5_ok k_X9_28 ki_X5 kn_X5 rfl f0_5 (lay' := pre ++ (S_89 P)) (List.append_assoc _ _ _) f0_5_ok (Nat.le_of_ble_eq_true rfl) (Nat.le_of_ble_eq_true rfl) dX9_init_31 (fun H hW hz => ?_)
  rw [m_us_z hμ U_23 3 rfl] at hW
  have hW : m_W D cy s b (pre ++ (S_89 P)) (m_us P μ U_23) H _ := hW
  have hz : H.size = b + (P + 4) := hz
  refine lv_dup hx hb dX9_init_34 rfl ?_
  refine lv_iconst (v := 4) hx hb dX9_init_35 (by decide) ?_
  refine m_aZ hW (m_runI (As := [.int 4]) (rest := [.ref (b + (P + 3)), .ref (b + (P + 0))]) hx hb hml hown hts hW (hz.trans (congrArg (fun z => b + z) (m_suflen (n := 4) hP rfl).symm)) (P + 3) (c_X5_init l D cy b (pre ++ (S_88 P)) (P + 3) (m_suflen (n := 3) hP rfl) _ (pre ++ (S_90 P)) ((List.append_assoc _ _ _).symm) (m_us P μ U_23) (m_us_zr hμ U_23 3 rfl) 4 4 (by decide) (by decide) (List.append_assoc pre (S_88 P) [.inl (5, [P + 4 + 3, 0]), .inr (0, 4, [])]).symm) mc_X5_init k_X9_30 rfl hl.1 rfl (Nat.le_of_ble_eq_true rfl) dX9_init_36 ⟨Nat.le_of_ble_eq_true rfl, Nat.le_of_ble_eq_true rfl⟩ ⟨Nat.le_of_ble_eq_true rfl, Nat.le_of_ble_eq_true rfl⟩) (fun ν H locs hν hW hz => ?_)
  rw [hν] at hW
  have hW : m_W D cy s b (pre ++ (S_90 P)) (m_us P μ U_23) H _ := hW
  have hz : H.size = b + (P + 5) := hz.trans (congrArg (fun z => b + z) (m_suflen (n := 5) hP rfl))
  refine m_putr hx hb hts hown hW (P + 0) 4 (P + 3) (m_suf hP rfl) rfl cw_9 tyX9_ok nmX9 rfl (by decide) k_X9_33 ⟨rfl, hnm, rfl⟩ rfl rfl (lay' := pre ++ (S_91 P)) (m_sufset hP rfl) dX9_init_39 (fun H locs hW hz1 => ?_)
  have hz := hz1.trans hz
  have hW : m_W D cy s b (pre ++ (S_91 P)) (m_us P μ U_23) H _ := hW
  refine lv_aload_n hx hb dX9_init_42 rfl (lv_at hl 0 rfl) ?_
  refine m_new' (N0 := P + 5) hx hb hts hown hW (m_suflen (n := 5) hP rfl) hz cw_3 tyX3_ok k_X9_37 ki_X3 kn_X3 rfl f0_3 (lay' := pre ++ (S_92 P)) (List.append_assoc _ _ _) f0_3_ok (Nat.le_of_ble_eq_true rfl) (Nat.le_of_ble_eq_true rfl) dX9_init_43 (fun H hW hz => ?_)
  rw [m_us_z hμ U_23 5 rfl] at hW
  have hW : m_W D cy s b (pre ++ (S_92 P)) (m_us P μ U_23) H _ := hW
  have hz : H.size = b + (P + 6) := hz
  refine lv_dup hx hb dX9_init_46 rfl ?_
  refine m_aZ hW (m_runIN (As := []) (rest := [.ref (b + (P + 5)), .ref (b + (P + 0))]) hx hb hml hown hts hW (hz.trans (congrArg (fun z => b + z) (m_suflen (n := 6) hP rfl).symm)) (P + 5) (c_X3_init l D cy b (pre ++ (S_91 P)) (P + 5) (m_suflen (n := 5) hP rfl) _ (pre ++ (S_93 P)) ((List.append_assoc _ _ _).symm) (m_us P μ U_23) (m_us_zr hμ U_23 5 rfl) (List.append_assoc pre (S_91 P) [.inl (3, [0, 0, 0, 0, 0, 0, 0, 1, 1, 1, P + 6 + 3, P + 7 + 3, P + 8 + 3, P + 9 + 3, P + 10 + 3, P + 11 + 3, P + 12 + 3, P + 13 + 3]), .inl (1, [0, 0, 0, 0, 0]), .inr (0, 192, []), .inr (0, 192, []), .inr (0, 192, []), .inr (0, 192, []), .inr (0, 192, []), .inr (0, 192, []), .inl (2, [P + 14 + 3, P + 15 + 3, 0, 0, 0]), .inr (0, 192, []), .inr (0, 192, [])]).symm) mc_X3_init n_X9_39 rfl hl.1 rfl (Nat.le_of_ble_eq_true rfl) dX9_init_47 ⟨Nat.le_of_ble_eq_true rfl, Nat.le_of_ble_eq_true rfl⟩ ⟨Nat.le_of_ble_eq_true rfl, Nat.le_of_ble_eq_true rfl⟩) (fun ν H locs hν hW hz => ?_)
  rw [hν, m_us_join] at hW
  have hW : m_W D cy s b (pre ++ (S_93 P)) (m_us P μ U_24) H _ := hW
  have hz : H.size = b + (P + 16) := hz.trans (congrArg (fun z => b + z) (m_suflen (n := 16) hP rfl))
  refine m_putr hx hb hts hown hW (P + 0) 5 (P + 5) (m_suf hP rfl) rfl cw_9 tyX9_ok nmX9 rfl (by decide) k_X9_40 ⟨rfl, hnm, rfl⟩ rfl rfl (lay' := pre ++ (S_94 P)) (m_sufset hP rfl) dX9_init_50 (fun H locs hW hz1 => ?_)
  have hz := hz1.trans hz
  have hW : m_W D cy s b (pre ++ (S_94 P)) (m_us P μ U_24) H _ := hW
  refine lv_aload_n hx hb dX9_init_53 rfl (lv_at hl 0 rfl) ?_
  refine lv_iconst (v := 3) hx hb dX9_init_54 (by decide) ?_
  refine m_newa' (N0 := P + 16) (atype := .int) hx hb hts hW (m_suflen (n := 16) hP rfl) hz 0 ka_int (Or.inl ⟨rfl, rfl⟩) (N := 3) (lay' := pre ++ (S_95 P)) (List.append_assoc _ _ _) (by decide) (by decide) (by decide) (Nat.le_of_ble_eq_true rfl) (Nat.le_of_ble_eq_true rfl) dX9_init_55 (fun H hW hz => ?_)
  rw [m_us_z hμ U_24 16 rfl] at hW
  have hW : m_W D cy s b (pre ++ (S_95 P)) (m_us P μ U_24) H _ := hW
  have hz : H.size = b + (P + 17) := hz
  refine m_putr hx hb hts hown hW (P + 0) 6 (P + 16) (m_suf hP rfl) rfl cw_9 tyX9_ok nmX9 rfl (by decide) k_X9_44 ⟨rfl, hnm, rfl⟩ rfl rfl (lay' := pre ++ (S_96 P)) (m_sufset hP rfl) dX9_init_57 (fun H locs hW hz1 => ?_)
  have hz := hz1.trans hz
  have hW : m_W D cy s b (pre ++ (S_96 P)) (m_us P μ U_24) H _ := hW
  refine W.widen (k := 16) (n := 1581) (Nat.le_of_ble_eq_true rfl) (Nat.le_of_ble_eq_true rfl) ?_
  subst h1
  exact m_zret hx hb hr hlocks hW (hz.trans (congrArg (fun z => b + z) (m_suflen (n := 17) hP rfl).symm)) rfl dX9_init_60
def S_97 (P : Nat) : List mL := [.inl (0, [2, 2, 2, 2, 0]), .inr (0, 6, [])]
def S_98 (P : Nat) : List mL := [.inl (0, [P + 1 + 3, 2, 2, 2, 0]), .inr (0, 6, [])]
def S_99 (P : Nat) : List mL := [.inl (0, [P + 1 + 3, 2, 2, 2, 0]), .inr (0, 6, []), .inr (0, 6, [])]
def S_100 (P : Nat) : List mL := [.inl (0, [P + 1 + 3, P + 2 + 3, 2, 2, 0]), .inr (0, 6, []), .inr (0, 6, [])]
def S_101 (P : Nat) : List mL := [.inl (0, [P + 1 + 3, P + 2 + 3, 2, 2, 0]), .inr (0, 6, []), .inr (0, 6, []), .inr (0, 6, [])]
def S_102 (P : Nat) : List mL := [.inl (0, [P + 1 + 3, P + 2 + 3, P + 3 + 3, 2, 0]), .inr (0, 6, []), .inr (0, 6, []), .inr (0, 6, [])]
def S_103 (P : Nat) : List mL := [.inl (0, [P + 1 + 3, P + 2 + 3, P + 3 + 3, 2, 0]), .inr (0, 6, []), .inr (0, 6, []), .inr (0, 6, []), .inr (0, 1681, [])]
def S_104 (P : Nat) : List mL := [.inl (0, [P + 1 + 3, P + 2 + 3, P + 3 + 3, P + 4 + 3, 0]), .inr (0, 6, []), .inr (0, 6, []), .inr (0, 6, []), .inr (0, 1681, [])]
def S_105 (P : Nat) : List mL := [.inl (0, [2, 2, 2, 2, 0])]
set_option maxHeartbeats 4000000 in
set_option maxRecDepth 100000 in
theorem c_X0_init (l : Launch) (D : va_G) (cy : Nat → ClassId) (b : Nat) (pre : List mL) (P : Nat) (hP : pre.length = P) (lay0 lay1 : List mL) (h0 : lay0 = pre ++ [.inl (0, f0_0)]) (μ : mM) (hμ : m_Zr P μ) (h1 : lay1 = pre ++ (S_104 P)) : m_Cz l yX0_init cX0_init 1 1 4 1699 D cy b lay0 lay1 μ [.ref (b + P)] (fun ν => ν = m_us P μ []) := by
  subst h0
  refine m_ofz (cc := cX0_init) (n := 1) (d := 1) (by decide) (Nat.le_of_ble_eq_true rfl) ?_
  intro p e s m below meth c hx hb hr hml hown hts hlocks hnm hW hz ls hl
  have hown : s.vm.findClass RX0 = some m.cls := hown
  have hl : lv_has ls 1 [(0, .ref (b + (P + 0)))] := hl
  have hW : m_W D cy s b (pre ++ (S_105 P)) (m_us P μ []) s.heap [] := hW
  have hz : s.heap.size = b + (P + 1) := hz.trans (congrArg (fun z => b + z) (m_suflen (n := 1) hP rfl))
  refine lv_aload_n hx hb dX0_init_0 rfl (lv_at hl 0 rfl) ?_
  refine W.objInit hx hb hown (hts _ k_X0_5) (hts _ ko_i) (hts _ ko_c) rfl (by rw [hml]; exact hl.1) rfl dX0_init_1 (Nat.le_of_ble_eq_true rfl) (Nat.le_of_ble_eq_true rfl) ?_
  refine W.eq (g2 := F0 m 4 ls []) rfl ?_
  refine lv_aload_n hx hb dX0_init_4 rfl (lv_at hl 0 rfl) ?_
  refine lv_bipush (v := 6) hx hb dX0_init_5 (by decide) ?_
  refine m_newa' (N0 := P + 1) (atype := .int) hx hb hts hW (m_suflen (n := 1) hP rfl) hz 0 ka_int (Or.inl ⟨rfl, rfl⟩) (N := 6) (lay' := pre ++ (S_97 P)) (List.append_assoc _ _ _) (by decide) (by decide) (by decide) (Nat.le_of_ble_eq_true rfl) (Nat.le_of_ble_eq_true rfl) dX0_init_7 (fun H hW hz => ?_)
  rw [m_us_z hμ [] 1 rfl] at hW
  have hW : m_W D cy s b (pre ++ (S_97 P)) (m_us P μ []) H _ := hW
  have hz : H.size = b + (P + 2) := hz
  refine m_putr hx hb hts hown hW (P + 0) 0 (P + 1) (m_suf hP rfl) rfl cw_0 tyX0_ok nmX0 rfl (by decide) k_X0_11 ⟨rfl, hnm, rfl⟩ rfl rfl (lay' := pre ++ (S_98 P)) (m_sufset hP rfl) dX0_init_9 (fun H locs hW hz1 => ?_)
  have hz := hz1.trans hz
  have hW : m_W D cy s b (pre ++ (S_98 P)) (m_us P μ []) H _ := hW
  refine lv_aload_n hx hb dX0_init_12 rfl (lv_at hl 0 rfl) ?_
  refine lv_bipush (v := 6) hx hb dX0_init_13 (by decide) ?_
  refine m_newa' (N0 := P + 2) (atype := .int) hx hb hts hW (m_suflen (n := 2) hP rfl) hz 0 ka_int (Or.inl ⟨rfl, rfl⟩) (N := 6) (lay' := pre ++ (S_99 P)) (List.append_assoc _ _ _) (by decide) (by decide) (by decide) (Nat.le_of_ble_eq_true rfl) (Nat.le_of_ble_eq_true rfl) dX0_init_15 (fun H hW hz => ?_)
  rw [m_us_z hμ [] 2 rfl] at hW
  have hW : m_W D cy s b (pre ++ (S_99 P)) (m_us P μ []) H _ := hW
  have hz : H.size = b + (P + 3) := hz
  refine m_putr hx hb hts hown hW (P + 0) 1 (P + 2) (m_suf hP rfl) rfl cw_0 tyX0_ok nmX0 rfl (by decide) k_X0_15 ⟨rfl, hnm, rfl⟩ rfl rfl (lay' := pre ++ (S_100 P)) (m_sufset hP rfl) dX0_init_17 (fun H locs hW hz1 => ?_)
  have hz := hz1.trans hz
  have hW : m_W D cy s b (pre ++ (S_100 P)) (m_us P μ []) H _ := hW
  refine lv_aload_n hx hb dX0_init_20 rfl (lv_at hl 0 rfl) ?_
  refine lv_bipush (v := 6) hx hb dX0_init_21 (by decide) ?_
  refine m_newa' (N0 := P + 3) (atype := .int) hx hb hts hW (m_suflen (n := 3) hP rfl) hz 0 ka_int (Or.inl ⟨rfl, rfl⟩) (N := 6) (lay' := pre ++ (S_101 P)) (List.append_assoc _ _ _) (by decide) (by decide) (by decide) (Nat.le_of_ble_eq_true rfl) (Nat.le_of_ble_eq_true rfl) dX0_init_23 (fun H hW hz => ?_)
  rw [m_us_z hμ [] 3 rfl] at hW
  have hW : m_W D cy s b (pre ++ (S_101 P)) (m_us P μ []) H _ := hW
  have hz : H.size = b + (P + 4) := hz
  refine m_putr hx hb hts hown hW (P + 0) 2 (P + 3) (m_suf hP rfl) rfl cw_0 tyX0_ok nmX0 rfl (by decide) k_X0_18 ⟨rfl, hnm, rfl⟩ rfl rfl (lay' := pre ++ (S_102 P)) (m_sufset hP rfl) dX0_init_25 (fun H locs hW hz1 => ?_)
  have hz := hz1.trans hz
  have hW : m_W D cy s b (pre ++ (S_102 P)) (m_us P μ []) H _ := hW
  refine lv_aload_n hx hb dX0_init_28 rfl (lv_at hl 0 rfl) ?_
  refine lv_sipush (v := 1681) hx hb dX0_init_29 (by decide) ?_
  refine m_newa' (N0 := P + 4) (atype := .int) hx hb hts hW (m_suflen (n := 4) hP rfl) hz 0 ka_int (Or.inl ⟨rfl, rfl⟩) (N := 1681) (lay' := pre ++ (S_103 P)) (List.append_assoc _ _ _) (by decide) (by decide) (by decide) (Nat.le_of_ble_eq_true rfl) (Nat.le_of_ble_eq_true rfl) dX0_init_32 (fun H hW hz => ?_)
  rw [m_us_z hμ [] 4 rfl] at hW
  have hW : m_W D cy s b (pre ++ (S_103 P)) (m_us P μ []) H _ := hW
  have hz : H.size = b + (P + 5) := hz
  refine m_putr hx hb hts hown hW (P + 0) 3 (P + 4) (m_suf hP rfl) rfl cw_0 tyX0_ok nmX0 rfl (by decide) k_X0_21 ⟨rfl, hnm, rfl⟩ rfl rfl (lay' := pre ++ (S_104 P)) (m_sufset hP rfl) dX0_init_34 (fun H locs hW hz1 => ?_)
  have hz := hz1.trans hz
  have hW : m_W D cy s b (pre ++ (S_104 P)) (m_us P μ []) H _ := hW
  refine lv_aload_n hx hb dX0_init_37 rfl (lv_at hl 0 rfl) ?_
  refine lv_iconst (v := 0) hx hb dX0_init_38 (by decide) ?_
  refine m_puti hx hb hts hown hW (P + 0) 4 (m_suf hP rfl) rfl cw_0 tyX0_ok nmX0 rfl (by decide) k_X0_24 rfl rfl rfl dX0_init_39 (fun H locs hW hz1 => ?_)
  have hz := hz1.trans hz
  rw [m_si_same (m_us_0 hμ [] 0 4 rfl)] at hW
  refine W.widen (k := 4) (n := 1699) (Nat.le_of_ble_eq_true rfl) (Nat.le_of_ble_eq_true rfl) ?_
  subst h1
  exact m_zret hx hb hr hlocks hW (hz.trans (congrArg (fun z => b + z) (m_suflen (n := 5) hP rfl).symm)) rfl dX0_init_42
def S_106 (P : Nat) : List mL := [.inl (7, [2, 2, 2, 2, 0, 0]), .inr (0, 200, [])]
def S_107 (P : Nat) : List mL := [.inl (7, [P + 1 + 3, 2, 2, 2, 0, 0]), .inr (0, 200, [])]
def S_108 (P : Nat) : List mL := [.inl (7, [P + 1 + 3, 2, 2, 2, 0, 0]), .inr (0, 200, []), .inr (0, 200, [])]
def S_109 (P : Nat) : List mL := [.inl (7, [P + 1 + 3, P + 2 + 3, 2, 2, 0, 0]), .inr (0, 200, []), .inr (0, 200, [])]
def S_110 (P : Nat) : List mL := [.inl (7, [P + 1 + 3, P + 2 + 3, 2, 2, 0, 0]), .inr (0, 200, []), .inr (0, 200, []), .inr (0, 200, [])]
def S_111 (P : Nat) : List mL := [.inl (7, [P + 1 + 3, P + 2 + 3, P + 3 + 3, 2, 0, 0]), .inr (0, 200, []), .inr (0, 200, []), .inr (0, 200, [])]
def S_112 (P : Nat) : List mL := [.inl (7, [P + 1 + 3, P + 2 + 3, P + 3 + 3, 2, 0, 0]), .inr (0, 200, []), .inr (0, 200, []), .inr (0, 200, []), .inr (1, 200, [])]
def S_113 (P : Nat) : List mL := [.inl (7, [P + 1 + 3, P + 2 + 3, P + 3 + 3, P + 4 + 3, 0, 0]), .inr (0, 200, []), .inr (0, 200, []), .inr (0, 200, []), .inr (1, 200, [])]
def S_114 (P : Nat) : List mL := [.inl (7, [2, 2, 2, 2, 0, 0])]
set_option maxHeartbeats 4000000 in
set_option maxRecDepth 100000 in
theorem c_X7_init (l : Launch) (D : va_G) (cy : Nat → ClassId) (b : Nat) (pre : List mL) (P : Nat) (hP : pre.length = P) (lay0 lay1 : List mL) (h0 : lay0 = pre ++ [.inl (7, f0_7)]) (μ : mM) (hμ : m_Zr P μ) (h1 : lay1 = pre ++ (S_113 P)) : m_Cz l yX7_init cX7_init 1 1 4 800 D cy b lay0 lay1 μ [.ref (b + P)] (fun ν => ν = m_us P μ []) := by
  subst h0
  refine m_ofz (cc := cX7_init) (n := 1) (d := 1) (by decide) (Nat.le_of_ble_eq_true rfl) ?_
  intro p e s m below meth c hx hb hr hml hown hts hlocks hnm hW hz ls hl
  have hown : s.vm.findClass RX7 = some m.cls := hown
  have hl : lv_has ls 1 [(0, .ref (b + (P + 0)))] := hl
  have hW : m_W D cy s b (pre ++ (S_114 P)) (m_us P μ []) s.heap [] := hW
  have hz : s.heap.size = b + (P + 1) := hz.trans (congrArg (fun z => b + z) (m_suflen (n := 1) hP rfl))
  refine lv_aload_n hx hb dX7_init_0 rfl (lv_at hl 0 rfl) ?_
  refine W.objInit hx hb hown (hts _ k_X7_3) (hts _ ko_i) (hts _ ko_c) rfl (by rw [hml]; exact hl.1) rfl dX7_init_1 (Nat.le_of_ble_eq_true rfl) (Nat.le_of_ble_eq_true rfl) ?_
  refine W.eq (g2 := F0 m 4 ls []) rfl ?_
  refine lv_aload_n hx hb dX7_init_4 rfl (lv_at hl 0 rfl) ?_
  refine lv_sipush (v := 200) hx hb dX7_init_5 (by decide) ?_
  refine m_newa' (N0 := P + 1) (atype := .int) hx hb hts hW (m_suflen (n := 1) hP rfl) hz 0 ka_int (Or.inl ⟨rfl, rfl⟩) (N := 200) (lay' := pre ++ (S_106 P)) (List.append_assoc _ _ _) (by decide) (by decide) (by decide) (Nat.le_of_ble_eq_true rfl) (Nat.le_of_ble_eq_true rfl) dX7_init_8 (fun H hW hz => ?_)
  rw [m_us_z hμ [] 1 rfl] at hW
  have hW : m_W D cy s b (pre ++ (S_106 P)) (m_us P μ []) H _ := hW
  have hz : H.size = b + (P + 2) := hz
  refine m_putr hx hb hts hown hW (P + 0) 0 (P + 1) (m_suf hP rfl) rfl cw_7 tyX7_ok nmX7 rfl (by decide) k_X7_11 ⟨rfl, hnm, rfl⟩ rfl rfl (lay' := pre ++ (S_107 P)) (m_sufset hP rfl) dX7_init_10 (fun H locs hW hz1 => ?_)
  have hz := hz1.trans hz
  have hW : m_W D cy s b (pre ++ (S_107 P)) (m_us P μ []) H _ := hW
  refine lv_aload_n hx hb dX7_init_13 rfl (lv_at hl 0 rfl) ?_
  refine lv_sipush (v := 200) hx hb dX7_init_14 (by decide) ?_
  refine m_newa' (N0 := P + 2) (atype := .int) hx hb hts hW (m_suflen (n := 2) hP rfl) hz 0 ka_int (Or.inl ⟨rfl, rfl⟩) (N := 200) (lay' := pre ++ (S_108 P)) (List.append_assoc _ _ _) (by decide) (by decide) (by decide) (Nat.le_of_ble_eq_true rfl) (Nat.le_of_ble_eq_true rfl) dX7_init_17 (fun H hW hz => ?_)
  rw [m_us_z hμ [] 2 rfl] at hW
  have hW : m_W D cy s b (pre ++ (S_108 P)) (m_us P μ []) H _ := hW
  have hz : H.size = b + (P + 3) := hz
  refine m_putr hx hb hts hown hW (P + 0) 1 (P + 2) (m_suf hP rfl) rfl cw_7 tyX7_ok nmX7 rfl (by decide) k_X7_15 ⟨rfl, hnm, rfl⟩ rfl rfl (lay' := pre ++ (S_109 P)) (m_sufset hP rfl) dX7_init_19 (fun H locs hW hz1 => ?_)
  have hz := hz1.trans hz
  have hW : m_W D cy s b (pre ++ (S_109 P)) (m_us P μ []) H _ := hW
  refine lv_aload_n hx hb dX7_init_22 rfl (lv_at hl 0 rfl) ?_
  refine lv_sipush (v := 200) hx hb dX7_init_23 (by decide) ?_
  refine m_newa' (N0 := P + 3) (atype := .int) hx hb hts hW (m_suflen (n := 3) hP rfl) hz 0 ka_int (Or.inl ⟨rfl, rfl⟩) (N := 200) (lay' := pre ++ (S_110 P)) (List.append_assoc _ _ _) (by decide) (by decide) (by decide) (Nat.le_of_ble_eq_true rfl) (Nat.le_of_ble_eq_true rfl) dX7_init_26 (fun H hW hz => ?_)
  rw [m_us_z hμ [] 3 rfl] at hW
  have hW : m_W D cy s b (pre ++ (S_110 P)) (m_us P μ []) H _ := hW
  have hz : H.size = b + (P + 4) := hz
  refine m_putr hx hb hts hown hW (P + 0) 2 (P + 3) (m_suf hP rfl) rfl cw_7 tyX7_ok nmX7 rfl (by decide) k_X7_18 ⟨rfl, hnm, rfl⟩ rfl rfl (lay' := pre ++ (S_111 P)) (m_sufset hP rfl) dX7_init_28 (fun H locs hW hz1 => ?_)
  have hz := hz1.trans hz
  have hW : m_W D cy s b (pre ++ (S_111 P)) (m_us P μ []) H _ := hW
  refine lv_aload_n hx hb dX7_init_31 rfl (lv_at hl 0 rfl) ?_
  refine lv_sipush (v := 200) hx hb dX7_init_32 (by decide) ?_
  refine m_newa' (N0 := P + 4) (atype := .boolean) hx hb hts hW (m_suflen (n := 4) hP rfl) hz 1 ka_boolean (Or.inr (Or.inl ⟨rfl, rfl⟩)) (N := 200) (lay' := pre ++ (S_112 P)) (List.append_assoc _ _ _) (by decide) (by decide) (by decide) (Nat.le_of_ble_eq_true rfl) (Nat.le_of_ble_eq_true rfl) dX7_init_35 (fun H hW hz => ?_)
  rw [m_us_z hμ [] 4 rfl] at hW
  have hW : m_W D cy s b (pre ++ (S_112 P)) (m_us P μ []) H _ := hW
  have hz : H.size = b + (P + 5) := hz
  refine m_putr hx hb hts hown hW (P + 0) 3 (P + 4) (m_suf hP rfl) rfl cw_7 tyX7_ok nmX7 rfl (by decide) k_X7_21 ⟨rfl, hnm, rfl⟩ rfl rfl (lay' := pre ++ (S_113 P)) (m_sufset hP rfl) dX7_init_37 (fun H locs hW hz1 => ?_)
  have hz := hz1.trans hz
  have hW : m_W D cy s b (pre ++ (S_113 P)) (m_us P μ []) H _ := hW
  refine lv_aload_n hx hb dX7_init_40 rfl (lv_at hl 0 rfl) ?_
  refine lv_iconst (v := 0) hx hb dX7_init_41 (by decide) ?_
  refine m_puti hx hb hts hown hW (P + 0) 4 (m_suf hP rfl) rfl cw_7 tyX7_ok nmX7 rfl (by decide) k_X7_25 rfl rfl rfl dX7_init_42 (fun H locs hW hz1 => ?_)
  have hz := hz1.trans hz
  rw [m_si_same (m_us_0 hμ [] 0 4 rfl)] at hW
  refine lv_aload_n hx hb dX7_init_45 rfl (lv_at hl 0 rfl) ?_
  refine lv_iconst (v := 0) hx hb dX7_init_46 (by decide) ?_
  refine m_puti hx hb hts hown hW (P + 0) 5 (m_suf hP rfl) rfl cw_7 tyX7_ok nmX7 rfl (by decide) k_X7_29 rfl rfl rfl dX7_init_47 (fun H locs hW hz1 => ?_)
  have hz := hz1.trans hz
  rw [m_si_same (m_us_0 hμ [] 0 5 rfl)] at hW
  refine W.widen (k := 4) (n := 800) (Nat.le_of_ble_eq_true rfl) (Nat.le_of_ble_eq_true rfl) ?_
  subst h1
  exact m_zret hx hb hr hlocks hW (hz.trans (congrArg (fun z => b + z) (m_suflen (n := 5) hP rfl).symm)) rfl dX7_init_50
end
section
def S_115 (P : Nat) : List mL := [.inl (11, [2, 2, 2, 2, 2, 2, 2, 2, 2, 0, 0]), .inl (10, [2, 2, 2, 2, 0, 0, 0, 2])]
def S_116 (P : Nat) : List mL := [.inl (11, [2, 2, 2, 2, 2, 2, 2, 2, 2, 0, 0])]
def S_117 (P : Nat) : List mL := [.inl (11, [2, 2, 2, 2, 2, 2, 2, 2, 2, 0, 0]), .inl (10, [P + 2 + 3, P + 3 + 3, P + 4 + 3, P + 5 + 3, 0, 0, 0, P + 6 + 3]), .inr (0, 4, []), .inr (0, 4, []), .inr (0, 4, []), .inr (0, 4, []), .inr (3, 8, [P + 7, P + 9, P + 11, P + 13, P + 15, P + 17, P + 19, P + 21]), .inl (5, [P + 8 + 3, 0]), .inr (0, 800, []), .inl (5, [P + 10 + 3, 0]), .inr (0, 800, []), .inl (5, [P + 12 + 3, 0]), .inr (0, 800, []), .inl (5, [P + 14 + 3, 0]), .inr (0, 800, []), .inl (5, [P + 16 + 3, 0]), .inr (0, 800, []), .inl (5, [P + 18 + 3, 0]), .inr (0, 800, []), .inl (5, [P + 20 + 3, 0]), .inr (0, 800, []), .inl (5, [P + 22 + 3, 0]), .inr (0, 800, [])]
def U_25 : List (Nat × Nat × Int32) := [] ++ m_sh 1 U_22
def S_118 (P : Nat) : List mL := [.inl (11, [P + 1 + 3, 2, 2, 2, 2, 2, 2, 2, 2, 0, 0]), .inl (10, [P + 2 + 3, P + 3 + 3, P + 4 + 3, P + 5 + 3, 0, 0, 0, P + 6 + 3]), .inr (0, 4, []), .inr (0, 4, []), .inr (0, 4, []), .inr (0, 4, []), .inr (3, 8, [P + 7, P + 9, P + 11, P + 13, P + 15, P + 17, P + 19, P + 21]), .inl (5, [P + 8 + 3, 0]), .inr (0, 800, []), .inl (5, [P + 10 + 3, 0]), .inr (0, 800, []), .inl (5, [P + 12 + 3, 0]), .inr (0, 800, []), .inl (5, [P + 14 + 3, 0]), .inr (0, 800, []), .inl (5, [P + 16 + 3, 0]), .inr (0, 800, []), .inl (5, [P + 18 + 3, 0]), .inr (0, 800, []), .inl (5, [P + 20 + 3, 0]), .inr (0, 800, []), .inl (5, [P + 22 + 3, 0]), .inr (0, 800, [])]
def S_119 (P : Nat) : List mL := [.inl (11, [P + 1 + 3, 2, 2, 2, 2, 2, 2, 2, 2, 0, 0]), .inl (10, [P + 2 + 3, P + 3 + 3, P + 4 + 3, P + 5 + 3, 0, 0, 0, P + 6 + 3]), .inr (0, 4, []), .inr (0, 4, []), .inr (0, 4, []), .inr (0, 4, []), .inr (3, 8, [P + 7, P + 9, P + 11, P + 13, P + 15, P + 17, P + 19, P + 21]), .inl (5, [P + 8 + 3, 0]), .inr (0, 800, []), .inl (5, [P + 10 + 3, 0]), .inr (0, 800, []), .inl (5, [P + 12 + 3, 0]), .inr (0, 800, []), .inl (5, [P + 14 + 3, 0]), .inr (0, 800, []), .inl (5, [P + 16 + 3, 0]), .inr (0, 800, []), .inl (5, [P + 18 + 3, 0]), .inr (0, 800, []), .inl (5, [P + 20 + 3, 0]), .inr (0, 800, []), .inl (5, [P + 22 + 3, 0]), .inr (0, 800, []), .inl (5, [2, 0])]
def S_120 (P : Nat) : List mL := [.inl (11, [P + 1 + 3, 2, 2, 2, 2, 2, 2, 2, 2, 0, 0]), .inl (10, [P + 2 + 3, P + 3 + 3, P + 4 + 3, P + 5 + 3, 0, 0, 0, P + 6 + 3]), .inr (0, 4, []), .inr (0, 4, []), .inr (0, 4, []), .inr (0, 4, []), .inr (3, 8, [P + 7, P + 9, P + 11, P + 13, P + 15, P + 17, P + 19, P + 21]), .inl (5, [P + 8 + 3, 0]), .inr (0, 800, []), .inl (5, [P + 10 + 3, 0]), .inr (0, 800, []), .inl (5, [P + 12 + 3, 0]), .inr (0, 800, []), .inl (5, [P + 14 + 3, 0]), .inr (0, 800, []), .inl (5, [P + 16 + 3, 0]), .inr (0, 800, []), .inl (5, [P + 18 + 3, 0]), .inr (0, 800, []), .inl (5, [P + 20 + 3, 0]), .inr (0, 800, []), .inl (5, [P + 22 + 3, 0]), .inr (0, 800, []), .inl (5, [P + 24 + 3, 0]), .inr (0, 400, [])]
def S_121 (P : Nat) : List mL := [.inl (11, [P + 1 + 3, P + 23 + 3, 2, 2, 2, 2, 2, 2, 2, 0, 0]), .inl (10, [P + 2 + 3, P + 3 + 3, P + 4 + 3, P + 5 + 3, 0, 0, 0, P + 6 + 3]), .inr (0, 4, []), .inr (0, 4, []), .inr (0, 4, []), .inr (0, 4, []), .inr (3, 8, [P + 7, P + 9, P + 11, P + 13, P + 15, P + 17, P + 19, P + 21]), .inl (5, [P + 8 + 3, 0]), .inr (0, 800, []), .inl (5, [P + 10 + 3, 0]), .inr (0, 800, []), .inl (5, [P + 12 + 3, 0]), .inr (0, 800, []), .inl (5, [P + 14 + 3, 0]), .inr (0, 800, []), .inl (5, [P + 16 + 3, 0]), .inr (0, 800, []), .inl (5, [P + 18 + 3, 0]), .inr (0, 800, []), .inl (5, [P + 20 + 3, 0]), .inr (0, 800, []), .inl (5, [P + 22 + 3, 0]), .inr (0, 800, []), .inl (5, [P + 24 + 3, 0]), .inr (0, 400, [])]
def S_122 (P : Nat) : List mL := [.inl (11, [P + 1 + 3, P + 23 + 3, 2, 2, 2, 2, 2, 2, 2, 0, 0]), .inl (10, [P + 2 + 3, P + 3 + 3, P + 4 + 3, P + 5 + 3, 0, 0, 0, P + 6 + 3]), .inr (0, 4, []), .inr (0, 4, []), .inr (0, 4, []), .inr (0, 4, []), .inr (3, 8, [P + 7, P + 9, P + 11, P + 13, P + 15, P + 17, P + 19, P + 21]), .inl (5, [P + 8 + 3, 0]), .inr (0, 800, []), .inl (5, [P + 10 + 3, 0]), .inr (0, 800, []), .inl (5, [P + 12 + 3, 0]), .inr (0, 800, []), .inl (5, [P + 14 + 3, 0]), .inr (0, 800, []), .inl (5, [P + 16 + 3, 0]), .inr (0, 800, []), .inl (5, [P + 18 + 3, 0]), .inr (0, 800, []), .inl (5, [P + 20 + 3, 0]), .inr (0, 800, []), .inl (5, [P + 22 + 3, 0]), .inr (0, 800, []), .inl (5, [P + 24 + 3, 0]), .inr (0, 400, []), .inl (5, [2, 0])]
def S_123 (P : Nat) : List mL := [.inl (11, [P + 1 + 3, P + 23 + 3, 2, 2, 2, 2, 2, 2, 2, 0, 0]), .inl (10, [P + 2 + 3, P + 3 + 3, P + 4 + 3, P + 5 + 3, 0, 0, 0, P + 6 + 3]), .inr (0, 4, []), .inr (0, 4, []), .inr (0, 4, []), .inr (0, 4, []), .inr (3, 8, [P + 7, P + 9, P + 11, P + 13, P + 15, P + 17, P + 19, P + 21]), .inl (5, [P + 8 + 3, 0]), .inr (0, 800, []), .inl (5, [P + 10 + 3, 0]), .inr (0, 800, []), .inl (5, [P + 12 + 3, 0]), .inr (0, 800, []), .inl (5, [P + 14 + 3, 0]), .inr (0, 800, []), .inl (5, [P + 16 + 3, 0]), .inr (0, 800, []), .inl (5, [P + 18 + 3, 0]), .inr (0, 800, []), .inl (5, [P + 20 + 3, 0]), .inr (0, 800, []), .inl (5, [P + 22 + 3, 0]), .inr (0, 800, []), .inl (5, [P + 24 + 3, 0]), .inr (0, 400, []), .inl (5, [P + 26 + 3, 0]), .inr (0, 400, [])]
def S_124 (P : Nat) : List mL := [.inl (11, [P + 1 + 3, P + 23 + 3, P + 25 + 3, 2, 2, 2, 2, 2, 2, 0, 0]), .inl (10, [P + 2 + 3, P + 3 + 3, P + 4 + 3, P + 5 + 3, 0, 0, 0, P + 6 + 3]), .inr (0, 4, []), .inr (0, 4, []), .inr (0, 4, []), .inr (0, 4, []), .inr (3, 8, [P + 7, P + 9, P + 11, P + 13, P + 15, P + 17, P + 19, P + 21]), .inl (5, [P + 8 + 3, 0]), .inr (0, 800, []), .inl (5, [P + 10 + 3, 0]), .inr (0, 800, []), .inl (5, [P + 12 + 3, 0]), .inr (0, 800, []), .inl (5, [P + 14 + 3, 0]), .inr (0, 800, []), .inl (5, [P + 16 + 3, 0]), .inr (0, 800, []), .inl (5, [P + 18 + 3, 0]), .inr (0, 800, []), .inl (5, [P + 20 + 3, 0]), .inr (0, 800, []), .inl (5, [P + 22 + 3, 0]), .inr (0, 800, []), .inl (5, [P + 24 + 3, 0]), .inr (0, 400, []), .inl (5, [P + 26 + 3, 0]), .inr (0, 400, [])]
def S_125 (P : Nat) : List mL := [.inl (11, [P + 1 + 3, P + 23 + 3, P + 25 + 3, 2, 2, 2, 2, 2, 2, 0, 0]), .inl (10, [P + 2 + 3, P + 3 + 3, P + 4 + 3, P + 5 + 3, 0, 0, 0, P + 6 + 3]), .inr (0, 4, []), .inr (0, 4, []), .inr (0, 4, []), .inr (0, 4, []), .inr (3, 8, [P + 7, P + 9, P + 11, P + 13, P + 15, P + 17, P + 19, P + 21]), .inl (5, [P + 8 + 3, 0]), .inr (0, 800, []), .inl (5, [P + 10 + 3, 0]), .inr (0, 800, []), .inl (5, [P + 12 + 3, 0]), .inr (0, 800, []), .inl (5, [P + 14 + 3, 0]), .inr (0, 800, []), .inl (5, [P + 16 + 3, 0]), .inr (0, 800, []), .inl (5, [P + 18 + 3, 0]), .inr (0, 800, []), .inl (5, [P + 20 + 3, 0]), .inr (0, 800, []), .inl (5, [P + 22 + 3, 0]), .inr (0, 800, []), .inl (5, [P + 24 + 3, 0]), .inr (0, 400, []), .inl (5, [P + 26 + 3, 0]), .inr (0, 400, []), .inl (4, [2, 0, 0, 2, 0, 0, 2, 2])]
def S_126 (P : Nat) : List mL := [.inl (11, [P + 1 + 3, P + 23 + 3, P + 25 + 3, 2, 2, 2, 2, 2, 2, 0, 0]), .inl (10, [P + 2 + 3, P + 3 + 3, P + 4 + 3, P + 5 + 3, 0, 0, 0, P + 6 + 3]), .inr (0, 4, []), .inr (0, 4, []), .inr (0, 4, []), .inr (0, 4, []), .inr (3, 8, [P + 7, P + 9, P + 11, P + 13, P + 15, P + 17, P + 19, P + 21]), .inl (5, [P + 8 + 3, 0]), .inr (0, 800, []), .inl (5, [P + 10 + 3, 0]), .inr (0, 800, []), .inl (5, [P + 12 + 3, 0]), .inr (0, 800, []), .inl (5, [P + 14 + 3, 0]), .inr (0, 800, []), .inl (5, [P + 16 + 3, 0]), .inr (0, 800, []), .inl (5, [P + 18 + 3, 0]), .inr (0, 800, []), .inl (5, [P + 20 + 3, 0]), .inr (0, 800, []), .inl (5, [P + 22 + 3, 0]), .inr (0, 800, []), .inl (5, [P + 24 + 3, 0]), .inr (0, 400, []), .inl (5, [P + 26 + 3, 0]), .inr (0, 400, []), .inl (4, [P + 28 + 3, 0, 0, P + 30 + 3, 0, 0, P + 37 + 3, P + 39 + 3]), .inl (5, [P + 29 + 3, 0]), .inr (0, 800, []), .inl (8, [P + 31 + 3, P + 33 + 3, P + 35 + 3]), .inl (5, [P + 32 + 3, 0]), .inr (0, 401, []), .inl (5, [P + 34 + 3, 0]), .inr (0, 401, []), .inl (5, [P + 36 + 3, 0]), .inr (0, 401, []), .inl (5, [P + 38 + 3, 0]), .inr (0, 4, []), .inl (5, [P + 40 + 3, 0]), .inr (0, 4, [])]
def U_26 : List (Nat × Nat × Int32) := U_25 ++ m_sh 27 U_3
def S_127 (P : Nat) : List mL := [.inl (11, [P + 1 + 3, P + 23 + 3, P + 25 + 3, P + 27 + 3, 2, 2, 2, 2, 2, 0, 0]), .inl (10, [P + 2 + 3, P + 3 + 3, P + 4 + 3, P + 5 + 3, 0, 0, 0, P + 6 + 3]), .inr (0, 4, []), .inr (0, 4, []), .inr (0, 4, []), .inr (0, 4, []), .inr (3, 8, [P + 7, P + 9, P + 11, P + 13, P + 15, P + 17, P + 19, P + 21]), .inl (5, [P + 8 + 3, 0]), .inr (0, 800, []), .inl (5, [P + 10 + 3, 0]), .inr (0, 800, []), .inl (5, [P + 12 + 3, 0]), .inr (0, 800, []), .inl (5, [P + 14 + 3, 0]), .inr (0, 800, []), .inl (5, [P + 16 + 3, 0]), .inr (0, 800, []), .inl (5, [P + 18 + 3, 0]), .inr (0, 800, []), .inl (5, [P + 20 + 3, 0]), .inr (0, 800, []), .inl (5, [P + 22 + 3, 0]), .inr (0, 800, []), .inl (5, [P + 24 + 3, 0]), .inr (0, 400, []), .inl (5, [P + 26 + 3, 0]), .inr (0, 400, []), .inl (4, [P + 28 + 3, 0, 0, P + 30 + 3, 0, 0, P + 37 + 3, P + 39 + 3]), .inl (5, [P + 29 + 3, 0]), .inr (0, 800, []), .inl (8, [P + 31 + 3, P + 33 + 3, P + 35 + 3]), .inl (5, [P + 32 + 3, 0]), .inr (0, 401, []), .inl (5, [P + 34 + 3, 0]), .inr (0, 401, []), .inl (5, [P + 36 + 3, 0]), .inr (0, 401, []), .inl (5, [P + 38 + 3, 0]), .inr (0, 4, []), .inl (5, [P + 40 + 3, 0]), .inr (0, 4, [])]
def S_128 (P : Nat) : List mL := [.inl (11, [P + 1 + 3, P + 23 + 3, P + 25 + 3, P + 27 + 3, 2, 2, 2, 2, 2, 0, 0]), .inl (10, [P + 2 + 3, P + 3 + 3, P + 4 + 3, P + 5 + 3, 0, 0, 0, P + 6 + 3]), .inr (0, 4, []), .inr (0, 4, []), .inr (0, 4, []), .inr (0, 4, []), .inr (3, 8, [P + 7, P + 9, P + 11, P + 13, P + 15, P + 17, P + 19, P + 21]), .inl (5, [P + 8 + 3, 0]), .inr (0, 800, []), .inl (5, [P + 10 + 3, 0]), .inr (0, 800, []), .inl (5, [P + 12 + 3, 0]), .inr (0, 800, []), .inl (5, [P + 14 + 3, 0]), .inr (0, 800, []), .inl (5, [P + 16 + 3, 0]), .inr (0, 800, []), .inl (5, [P + 18 + 3, 0]), .inr (0, 800, []), .inl (5, [P + 20 + 3, 0]), .inr (0, 800, []), .inl (5, [P + 22 + 3, 0]), .inr (0, 800, []), .inl (5, [P + 24 + 3, 0]), .inr (0, 400, []), .inl (5, [P + 26 + 3, 0]), .inr (0, 400, []), .inl (4, [P + 28 + 3, 0, 0, P + 30 + 3, 0, 0, P + 37 + 3, P + 39 + 3]), .inl (5, [P + 29 + 3, 0]), .inr (0, 800, []), .inl (8, [P + 31 + 3, P + 33 + 3, P + 35 + 3]), .inl (5, [P + 32 + 3, 0]), .inr (0, 401, []), .inl (5, [P + 34 + 3, 0]), .inr (0, 401, []), .inl (5, [P + 36 + 3, 0]), .inr (0, 401, []), .inl (5, [P + 38 + 3, 0]), .inr (0, 4, []), .inl (5, [P + 40 + 3, 0]), .inr (0, 4, []), .inl (3, [0, 0, 0, 0, 0, 0, 0, 1, 1, 1, 2, 2, 2, 2, 2, 2, 2, 2])]
def S_129 (P : Nat) : List mL := [.inl (11, [P + 1 + 3, P + 23 + 3, P + 25 + 3, P + 27 + 3, 2, 2, 2, 2, 2, 0, 0]), .inl (10, [P + 2 + 3, P + 3 + 3, P + 4 + 3, P + 5 + 3, 0, 0, 0, P + 6 + 3]), .inr (0, 4, []), .inr (0, 4, []), .inr (0, 4, []), .inr (0, 4, []), .inr (3, 8, [P + 7, P + 9, P + 11, P + 13, P + 15, P + 17, P + 19, P + 21]), .inl (5, [P + 8 + 3, 0]), .inr (0, 800, []), .inl (5, [P + 10 + 3, 0]), .inr (0, 800, []), .inl (5, [P + 12 + 3, 0]), .inr (0, 800, []), .inl (5, [P + 14 + 3, 0]), .inr (0, 800, []), .inl (5, [P + 16 + 3, 0]), .inr (0, 800, []), .inl (5, [P + 18 + 3, 0]), .inr (0, 800, []), .inl (5, [P + 20 + 3, 0]), .inr (0, 800, []), .inl (5, [P + 22 + 3, 0]), .inr (0, 800, []), .inl (5, [P + 24 + 3, 0]), .inr (0, 400, []), .inl (5, [P + 26 + 3, 0]), .inr (0, 400, []), .inl (4, [P + 28 + 3, 0, 0, P + 30 + 3, 0, 0, P + 37 + 3, P + 39 + 3]), .inl (5, [P + 29 + 3, 0]), .inr (0, 800, []), .inl (8, [P + 31 + 3, P + 33 + 3, P + 35 + 3]), .inl (5, [P + 32 + 3, 0]), .inr (0, 401, []), .inl (5, [P + 34 + 3, 0]), .inr (0, 401, []), .inl (5, [P + 36 + 3, 0]), .inr (0, 401, []), .inl (5, [P + 38 + 3, 0]), .inr (0, 4, []), .inl (5, [P + 40 + 3, 0]), .inr (0, 4, []), .inl (3, [0, 0, 0, 0, 0, 0, 0, 1, 1, 1, P + 42 + 3, P + 43 + 3, P + 44 + 3, P + 45 + 3, P + 46 + 3, P + 47 + 3, P + 48 + 3, P + 49 + 3]), .inl (1, [0, 0, 0, 0, 0]), .inr (0, 192, []), .inr (0, 192, []), .inr (0, 192, []), .inr (0, 192, []), .inr (0, 192, []), .inr (0, 192, []), .inl (2, [P + 50 + 3, P + 51 + 3, 0, 0, 0]), .inr (0, 192, []), .inr (0, 192, [])]
def U_27 : List (Nat × Nat × Int32) := U_26 ++ m_sh 41 U_2
def S_130 (P : Nat) : List mL := [.inl (11, [P + 1 + 3, P + 23 + 3, P + 25 + 3, P + 27 + 3, P + 41 + 3, 2, 2, 2, 2, 0, 0]), .inl (10, [P + 2 + 3, P + 3 + 3, P + 4 + 3, P + 5 + 3, 0, 0, 0, P + 6 + 3]), .inr (0, 4, []), .inr (0, 4, []), .inr (0, 4, []), .inr (0, 4, []), .inr (3, 8, [P + 7, P + 9, P + 11, P + 13, P + 15, P + 17, P + 19, P + 21]), .inl (5, [P + 8 + 3, 0]), .inr (0, 800, []), .inl (5, [P + 10 + 3, 0]), .inr (0, 800, []), .inl (5, [P + 12 + 3, 0]), .inr (0, 800, []), .inl (5, [P + 14 + 3, 0]), .inr (0, 800, []), .inl (5, [P + 16 + 3, 0]), .inr (0, 800, []), .inl (5, [P + 18 + 3, 0]), .inr (0, 800, []), .inl (5, [P + 20 + 3, 0]), .inr (0, 800, []), .inl (5, [P + 22 + 3, 0]), .inr (0, 800, []), .inl (5, [P + 24 + 3, 0]), .inr (0, 400, []), .inl (5, [P + 26 + 3, 0]), .inr (0, 400, []), .inl (4, [P + 28 + 3, 0, 0, P + 30 + 3, 0, 0, P + 37 + 3, P + 39 + 3]), .inl (5, [P + 29 + 3, 0]), .inr (0, 800, []), .inl (8, [P + 31 + 3, P + 33 + 3, P + 35 + 3]), .inl (5, [P + 32 + 3, 0]), .inr (0, 401, []), .inl (5, [P + 34 + 3, 0]), .inr (0, 401, []), .inl (5, [P + 36 + 3, 0]), .inr (0, 401, []), .inl (5, [P + 38 + 3, 0]), .inr (0, 4, []), .inl (5, [P + 40 + 3, 0]), .inr (0, 4, []), .inl (3, [0, 0, 0, 0, 0, 0, 0, 1, 1, 1, P + 42 + 3, P + 43 + 3, P + 44 + 3, P + 45 + 3, P + 46 + 3, P + 47 + 3, P + 48 + 3, P + 49 + 3]), .inl (1, [0, 0, 0, 0, 0]), .inr (0, 192, []), .inr (0, 192, []), .inr (0, 192, []), .inr (0, 192, []), .inr (0, 192, []), .inr (0, 192, []), .inl (2, [P + 50 + 3, P + 51 + 3, 0, 0, 0]), .inr (0, 192, []), .inr (0, 192, [])]
def S_131 (P : Nat) : List mL := [.inl (11, [P + 1 + 3, P + 23 + 3, P + 25 + 3, P + 27 + 3, P + 41 + 3, 2, 2, 2, 2, 0, 0]), .inl (10, [P + 2 + 3, P + 3 + 3, P + 4 + 3, P + 5 + 3, 0, 0, 0, P + 6 + 3]), .inr (0, 4, []), .inr (0, 4, []), .inr (0, 4, []), .inr (0, 4, []), .inr (3, 8, [P + 7, P + 9, P + 11, P + 13, P + 15, P + 17, P + 19, P + 21]), .inl (5, [P + 8 + 3, 0]), .inr (0, 800, []), .inl (5, [P + 10 + 3, 0]), .inr (0, 800, []), .inl (5, [P + 12 + 3, 0]), .inr (0, 800, []), .inl (5, [P + 14 + 3, 0]), .inr (0, 800, []), .inl (5, [P + 16 + 3, 0]), .inr (0, 800, []), .inl (5, [P + 18 + 3, 0]), .inr (0, 800, []), .inl (5, [P + 20 + 3, 0]), .inr (0, 800, []), .inl (5, [P + 22 + 3, 0]), .inr (0, 800, []), .inl (5, [P + 24 + 3, 0]), .inr (0, 400, []), .inl (5, [P + 26 + 3, 0]), .inr (0, 400, []), .inl (4, [P + 28 + 3, 0, 0, P + 30 + 3, 0, 0, P + 37 + 3, P + 39 + 3]), .inl (5, [P + 29 + 3, 0]), .inr (0, 800, []), .inl (8, [P + 31 + 3, P + 33 + 3, P + 35 + 3]), .inl (5, [P + 32 + 3, 0]), .inr (0, 401, []), .inl (5, [P + 34 + 3, 0]), .inr (0, 401, []), .inl (5, [P + 36 + 3, 0]), .inr (0, 401, []), .inl (5, [P + 38 + 3, 0]), .inr (0, 4, []), .inl (5, [P + 40 + 3, 0]), .inr (0, 4, []), .inl (3, [0, 0, 0, 0, 0, 0, 0, 1, 1, 1, P + 42 + 3, P + 43 + 3, P + 44 + 3, P + 45 + 3, P + 46 + 3, P + 47 + 3, P + 48 + 3, P + 49 + 3]), .inl (1, [0, 0, 0, 0, 0]), .inr (0, 192, []), .inr (0, 192, []), .inr (0, 192, []), .inr (0, 192, []), .inr (0, 192, []), .inr (0, 192, []), .inl (2, [P + 50 + 3, P + 51 + 3, 0, 0, 0]), .inr (0, 192, []), .inr (0, 192, []), .inl (6, [2, 0, 0])]
def S_132 (P : Nat) : List mL := [.inl (11, [P + 1 + 3, P + 23 + 3, P + 25 + 3, P + 27 + 3, P + 41 + 3, 2, 2, 2, 2, 0, 0]), .inl (10, [P + 2 + 3, P + 3 + 3, P + 4 + 3, P + 5 + 3, 0, 0, 0, P + 6 + 3]), .inr (0, 4, []), .inr (0, 4, []), .inr (0, 4, []), .inr (0, 4, []), .inr (3, 8, [P + 7, P + 9, P + 11, P + 13, P + 15, P + 17, P + 19, P + 21]), .inl (5, [P + 8 + 3, 0]), .inr (0, 800, []), .inl (5, [P + 10 + 3, 0]), .inr (0, 800, []), .inl (5, [P + 12 + 3, 0]), .inr (0, 800, []), .inl (5, [P + 14 + 3, 0]), .inr (0, 800, []), .inl (5, [P + 16 + 3, 0]), .inr (0, 800, []), .inl (5, [P + 18 + 3, 0]), .inr (0, 800, []), .inl (5, [P + 20 + 3, 0]), .inr (0, 800, []), .inl (5, [P + 22 + 3, 0]), .inr (0, 800, []), .inl (5, [P + 24 + 3, 0]), .inr (0, 400, []), .inl (5, [P + 26 + 3, 0]), .inr (0, 400, []), .inl (4, [P + 28 + 3, 0, 0, P + 30 + 3, 0, 0, P + 37 + 3, P + 39 + 3]), .inl (5, [P + 29 + 3, 0]), .inr (0, 800, []), .inl (8, [P + 31 + 3, P + 33 + 3, P + 35 + 3]), .inl (5, [P + 32 + 3, 0]), .inr (0, 401, []), .inl (5, [P + 34 + 3, 0]), .inr (0, 401, []), .inl (5, [P + 36 + 3, 0]), .inr (0, 401, []), .inl (5, [P + 38 + 3, 0]), .inr (0, 4, []), .inl (5, [P + 40 + 3, 0]), .inr (0, 4, []), .inl (3, [0, 0, 0, 0, 0, 0, 0, 1, 1, 1, P + 42 + 3, P + 43 + 3, P + 44 + 3, P + 45 + 3, P + 46 + 3, P + 47 + 3, P + 48 + 3, P + 49 + 3]), .inl (1, [0, 0, 0, 0, 0]), .inr (0, 192, []), .inr (0, 192, []), .inr (0, 192, []), .inr (0, 192, []), .inr (0, 192, []), .inr (0, 192, []), .inl (2, [P + 50 + 3, P + 51 + 3, 0, 0, 0]), .inr (0, 192, []), .inr (0, 192, []), .inl (6, [P + 53 + 3, 0, 0]), .inr (0, 5, [])]
def S_133 (P : Nat) : List mL := [.inl (11, [P + 1 + 3, P + 23 + 3, P + 25 + 3, P + 27 + 3, P + 41 + 3, P + 52 + 3, 2, 2, 2, 0, 0]), .inl (10, [P + 2 + 3, P + 3 + 3, P + 4 + 3, P + 5 + 3, 0, 0, 0, P + 6 + 3]), .inr (0, 4, []), .inr (0, 4, []), .inr (0, 4, []), .inr (0, 4, []), .inr (3, 8, [P + 7, P + 9, P + 11, P + 13, P + 15, P + 17, P + 19, P + 21]), .inl (5, [P + 8 + 3, 0]), .inr (0, 800, []), .inl (5, [P + 10 + 3, 0]), .inr (0, 800, []), .inl (5, [P + 12 + 3, 0]), .inr (0, 800, []), .inl (5, [P + 14 + 3, 0]), .inr (0, 800, []), .inl (5, [P + 16 + 3, 0]), .inr (0, 800, []), .inl (5, [P + 18 + 3, 0]), .inr (0, 800, []), .inl (5, [P + 20 + 3, 0]), .inr (0, 800, []), .inl (5, [P + 22 + 3, 0]), .inr (0, 800, []), .inl (5, [P + 24 + 3, 0]), .inr (0, 400, []), .inl (5, [P + 26 + 3, 0]), .inr (0, 400, []), .inl (4, [P + 28 + 3, 0, 0, P + 30 + 3, 0, 0, P + 37 + 3, P + 39 + 3]), .inl (5, [P + 29 + 3, 0]), .inr (0, 800, []), .inl (8, [P + 31 + 3, P + 33 + 3, P + 35 + 3]), .inl (5, [P + 32 + 3, 0]), .inr (0, 401, []), .inl (5, [P + 34 + 3, 0]), .inr (0, 401, []), .inl (5, [P + 36 + 3, 0]), .inr (0, 401, []), .inl (5, [P + 38 + 3, 0]), .inr (0, 4, []), .inl (5, [P + 40 + 3, 0]), .inr (0, 4, []), .inl (3, [0, 0, 0, 0, 0, 0, 0, 1, 1, 1, P + 42 + 3, P + 43 + 3, P + 44 + 3, P + 45 + 3, P + 46 + 3, P + 47 + 3, P + 48 + 3, P + 49 + 3]), .inl (1, [0, 0, 0, 0, 0]), .inr (0, 192, []), .inr (0, 192, []), .inr (0, 192, []), .inr (0, 192, []), .inr (0, 192, []), .inr (0, 192, []), .inl (2, [P + 50 + 3, P + 51 + 3, 0, 0, 0]), .inr (0, 192, []), .inr (0, 192, []), .inl (6, [P + 53 + 3, 0, 0]), .inr (0, 5, [])]
def S_134 (P : Nat) : List mL := [.inl (11, [P + 1 + 3, P + 23 + 3, P + 25 + 3, P + 27 + 3, P + 41 + 3, P + 52 + 3, 2, 2, 2, 0, 0]), .inl (10, [P + 2 + 3, P + 3 + 3, P + 4 + 3, P + 5 + 3, 0, 0, 0, P + 6 + 3]), .inr (0, 4, []), .inr (0, 4, []), .inr (0, 4, []), .inr (0, 4, []), .inr (3, 8, [P + 7, P + 9, P + 11, P + 13, P + 15, P + 17, P + 19, P + 21]), .inl (5, [P + 8 + 3, 0]), .inr (0, 800, []), .inl (5, [P + 10 + 3, 0]), .inr (0, 800, []), .inl (5, [P + 12 + 3, 0]), .inr (0, 800, []), .inl (5, [P + 14 + 3, 0]), .inr (0, 800, []), .inl (5, [P + 16 + 3, 0]), .inr (0, 800, []), .inl (5, [P + 18 + 3, 0]), .inr (0, 800, []), .inl (5, [P + 20 + 3, 0]), .inr (0, 800, []), .inl (5, [P + 22 + 3, 0]), .inr (0, 800, []), .inl (5, [P + 24 + 3, 0]), .inr (0, 400, []), .inl (5, [P + 26 + 3, 0]), .inr (0, 400, []), .inl (4, [P + 28 + 3, 0, 0, P + 30 + 3, 0, 0, P + 37 + 3, P + 39 + 3]), .inl (5, [P + 29 + 3, 0]), .inr (0, 800, []), .inl (8, [P + 31 + 3, P + 33 + 3, P + 35 + 3]), .inl (5, [P + 32 + 3, 0]), .inr (0, 401, []), .inl (5, [P + 34 + 3, 0]), .inr (0, 401, []), .inl (5, [P + 36 + 3, 0]), .inr (0, 401, []), .inl (5, [P + 38 + 3, 0]), .inr (0, 4, []), .inl (5, [P + 40 + 3, 0]), .inr (0, 4, []), .inl (3, [0, 0, 0, 0, 0, 0, 0, 1, 1, 1, P + 42 + 3, P + 43 + 3, P + 44 + 3, P + 45 + 3, P + 46 + 3, P + 47 + 3, P + 48 + 3, P + 49 + 3]), .inl (1, [0, 0, 0, 0, 0]), .inr (0, 192, []), .inr (0, 192, []), .inr (0, 192, []), .inr (0, 192, []), .inr (0, 192, []), .inr (0, 192, []), .inl (2, [P + 50 + 3, P + 51 + 3, 0, 0, 0]), .inr (0, 192, []), .inr (0, 192, []), .inl (6, [P + 53 + 3, 0, 0]), .inr (0, 5, []), .inl (9, [0, 0, 0, 2, 2, 2, 2])]
def S_135 (P : Nat) : List mL := [.inl (11, [P + 1 + 3, P + 23 + 3, P + 25 + 3, P + 27 + 3, P + 41 + 3, P + 52 + 3, 2, 2, 2, 0, 0]), .inl (10, [P + 2 + 3, P + 3 + 3, P + 4 + 3, P + 5 + 3, 0, 0, 0, P + 6 + 3]), .inr (0, 4, []), .inr (0, 4, []), .inr (0, 4, []), .inr (0, 4, []), .inr (3, 8, [P + 7, P + 9, P + 11, P + 13, P + 15, P + 17, P + 19, P + 21]), .inl (5, [P + 8 + 3, 0]), .inr (0, 800, []), .inl (5, [P + 10 + 3, 0]), .inr (0, 800, []), .inl (5, [P + 12 + 3, 0]), .inr (0, 800, []), .inl (5, [P + 14 + 3, 0]), .inr (0, 800, []), .inl (5, [P + 16 + 3, 0]), .inr (0, 800, []), .inl (5, [P + 18 + 3, 0]), .inr (0, 800, []), .inl (5, [P + 20 + 3, 0]), .inr (0, 800, []), .inl (5, [P + 22 + 3, 0]), .inr (0, 800, []), .inl (5, [P + 24 + 3, 0]), .inr (0, 400, []), .inl (5, [P + 26 + 3, 0]), .inr (0, 400, []), .inl (4, [P + 28 + 3, 0, 0, P + 30 + 3, 0, 0, P + 37 + 3, P + 39 + 3]), .inl (5, [P + 29 + 3, 0]), .inr (0, 800, []), .inl (8, [P + 31 + 3, P + 33 + 3, P + 35 + 3]), .inl (5, [P + 32 + 3, 0]), .inr (0, 401, []), .inl (5, [P + 34 + 3, 0]), .inr (0, 401, []), .inl (5, [P + 36 + 3, 0]), .inr (0, 401, []), .inl (5, [P + 38 + 3, 0]), .inr (0, 4, []), .inl (5, [P + 40 + 3, 0]), .inr (0, 4, []), .inl (3, [0, 0, 0, 0, 0, 0, 0, 1, 1, 1, P + 42 + 3, P + 43 + 3, P + 44 + 3, P + 45 + 3, P + 46 + 3, P + 47 + 3, P + 48 + 3, P + 49 + 3]), .inl (1, [0, 0, 0, 0, 0]), .inr (0, 192, []), .inr (0, 192, []), .inr (0, 192, []), .inr (0, 192, []), .inr (0, 192, []), .inr (0, 192, []), .inl (2, [P + 50 + 3, P + 51 + 3, 0, 0, 0]), .inr (0, 192, []), .inr (0, 192, []), .inl (6, [P + 53 + 3, 0, 0]), .inr (0, 5, []), .inl (9, [0, 0, 0, P + 55 + 3, P + 57 + 3, P + 59 + 3, P + 70 + 3]), .inl (6, [P + 56 + 3, 0, 0]), .inr (0, 5, []), .inl (5, [P + 58 + 3, 0]), .inr (0, 4, []), .inl (3, [0, 0, 0, 0, 0, 0, 0, 1, 1, 1, P + 60 + 3, P + 61 + 3, P + 62 + 3, P + 63 + 3, P + 64 + 3, P + 65 + 3, P + 66 + 3, P + 67 + 3]), .inl (1, [0, 0, 0, 0, 0]), .inr (0, 192, []), .inr (0, 192, []), .inr (0, 192, []), .inr (0, 192, []), .inr (0, 192, []), .inr (0, 192, []), .inl (2, [P + 68 + 3, P + 69 + 3, 0, 0, 0]), .inr (0, 192, []), .inr (0, 192, []), .inr (0, 3, [])]
def U_28 : List (Nat × Nat × Int32) := U_27 ++ m_sh 54 U_24
def S_136 (P : Nat) : List mL := [.inl (11, [P + 1 + 3, P + 23 + 3, P + 25 + 3, P + 27 + 3, P + 41 + 3, P + 52 + 3, P + 54 + 3, 2, 2, 0, 0]), .inl (10, [P + 2 + 3, P + 3 + 3, P + 4 + 3, P + 5 + 3, 0, 0, 0, P + 6 + 3]), .inr (0, 4, []), .inr (0, 4, []), .inr (0, 4, []), .inr (0, 4, []), .inr (3, 8, [P + 7, P + 9, P + 11, P + 13, P + 15, P + 17, P + 19, P + 21]), .inl (5, [P + 8 + 3, 0]), .inr (0, 800, []), .inl (5, [P + 10 + 3, 0]), .inr (0, 800, []), .inl (5, [P + 12 + 3, 0]), .inr (0, 800, []), .inl (5, [P + 14 + 3, 0]), .inr (0, 800, []), .inl (5, [P + 16 + 3, 0]), .inr (0, 800, []), .inl (5, [P + 18 + 3, 0]), .inr (0, 800, []), .inl (5, [P + 20 + 3, 0]), .inr (0, 800, []), .inl (5, [P + 22 + 3, 0]), .inr (0, 800, []), .inl (5, [P + 24 + 3, 0]), .inr (0, 400, []), .inl (5, [P + 26 + 3, 0]), .inr (0, 400, []), .inl (4, [P + 28 + 3, 0, 0, P + 30 + 3, 0, 0, P + 37 + 3, P + 39 + 3]), .inl (5, [P + 29 + 3, 0]), .inr (0, 800, []), .inl (8, [P + 31 + 3, P + 33 + 3, P + 35 + 3]), .inl (5, [P + 32 + 3, 0]), .inr (0, 401, []), .inl (5, [P + 34 + 3, 0]), .inr (0, 401, []), .inl (5, [P + 36 + 3, 0]), .inr (0, 401, []), .inl (5, [P + 38 + 3, 0]), .inr (0, 4, []), .inl (5, [P + 40 + 3, 0]), .inr (0, 4, []), .inl (3, [0, 0, 0, 0, 0, 0, 0, 1, 1, 1, P + 42 + 3, P + 43 + 3, P + 44 + 3, P + 45 + 3, P + 46 + 3, P + 47 + 3, P + 48 + 3, P + 49 + 3]), .inl (1, [0, 0, 0, 0, 0]), .inr (0, 192, []), .inr (0, 192, []), .inr (0, 192, []), .inr (0, 192, []), .inr (0, 192, []), .inr (0, 192, []), .inl (2, [P + 50 + 3, P + 51 + 3, 0, 0, 0]), .inr (0, 192, []), .inr (0, 192, []), .inl (6, [P + 53 + 3, 0, 0]), .inr (0, 5, []), .inl (9, [0, 0, 0, P + 55 + 3, P + 57 + 3, P + 59 + 3, P + 70 + 3]), .inl (6, [P + 56 + 3, 0, 0]), .inr (0, 5, []), .inl (5, [P + 58 + 3, 0]), .inr (0, 4, []), .inl (3, [0, 0, 0, 0, 0, 0, 0, 1, 1, 1, P + 60 + 3, P + 61 + 3, P + 62 + 3, P + 63 + 3, P + 64 + 3, P + 65 + 3, P + 66 + 3, P + 67 + 3]), .inl (1, [0, 0, 0, 0, 0]), .inr (0, 192, []), .inr (0, 192, []), .inr (0, 192, []), .inr (0, 192, []), .inr (0, 192, []), .inr (0, 192, []), .inl (2, [P + 68 + 3, P + 69 + 3, 0, 0, 0]), .inr (0, 192, []), .inr (0, 192, []), .inr (0, 3, [])]
def S_137 (P : Nat) : List mL := [.inl (11, [P + 1 + 3, P + 23 + 3, P + 25 + 3, P + 27 + 3, P + 41 + 3, P + 52 + 3, P + 54 + 3, 2, 2, 0, 0]), .inl (10, [P + 2 + 3, P + 3 + 3, P + 4 + 3, P + 5 + 3, 0, 0, 0, P + 6 + 3]), .inr (0, 4, []), .inr (0, 4, []), .inr (0, 4, []), .inr (0, 4, []), .inr (3, 8, [P + 7, P + 9, P + 11, P + 13, P + 15, P + 17, P + 19, P + 21]), .inl (5, [P + 8 + 3, 0]), .inr (0, 800, []), .inl (5, [P + 10 + 3, 0]), .inr (0, 800, []), .inl (5, [P + 12 + 3, 0]), .inr (0, 800, []), .inl (5, [P + 14 + 3, 0]), .inr (0, 800, []), .inl (5, [P + 16 + 3, 0]), .inr (0, 800, []), .inl (5, [P + 18 + 3, 0]), .inr (0, 800, []), .inl (5, [P + 20 + 3, 0]), .inr (0, 800, []), .inl (5, [P + 22 + 3, 0]), .inr (0, 800, []), .inl (5, [P + 24 + 3, 0]), .inr (0, 400, []), .inl (5, [P + 26 + 3, 0]), .inr (0, 400, []), .inl (4, [P + 28 + 3, 0, 0, P + 30 + 3, 0, 0, P + 37 + 3, P + 39 + 3]), .inl (5, [P + 29 + 3, 0]), .inr (0, 800, []), .inl (8, [P + 31 + 3, P + 33 + 3, P + 35 + 3]), .inl (5, [P + 32 + 3, 0]), .inr (0, 401, []), .inl (5, [P + 34 + 3, 0]), .inr (0, 401, []), .inl (5, [P + 36 + 3, 0]), .inr (0, 401, []), .inl (5, [P + 38 + 3, 0]), .inr (0, 4, []), .inl (5, [P + 40 + 3, 0]), .inr (0, 4, []), .inl (3, [0, 0, 0, 0, 0, 0, 0, 1, 1, 1, P + 42 + 3, P + 43 + 3, P + 44 + 3, P + 45 + 3, P + 46 + 3, P + 47 + 3, P + 48 + 3, P + 49 + 3]), .inl (1, [0, 0, 0, 0, 0]), .inr (0, 192, []), .inr (0, 192, []), .inr (0, 192, []), .inr (0, 192, []), .inr (0, 192, []), .inr (0, 192, []), .inl (2, [P + 50 + 3, P + 51 + 3, 0, 0, 0]), .inr (0, 192, []), .inr (0, 192, []), .inl (6, [P + 53 + 3, 0, 0]), .inr (0, 5, []), .inl (9, [0, 0, 0, P + 55 + 3, P + 57 + 3, P + 59 + 3, P + 70 + 3]), .inl (6, [P + 56 + 3, 0, 0]), .inr (0, 5, []), .inl (5, [P + 58 + 3, 0]), .inr (0, 4, []), .inl (3, [0, 0, 0, 0, 0, 0, 0, 1, 1, 1, P + 60 + 3, P + 61 + 3, P + 62 + 3, P + 63 + 3, P + 64 + 3, P + 65 + 3, P + 66 + 3, P + 67 + 3]), .inl (1, [0, 0, 0, 0, 0]), .inr (0, 192, []), .inr (0, 192, []), .inr (0, 192, []), .inr (0, 192, []), .inr (0, 192, []), .inr (0, 192, []), .inl (2, [P + 68 + 3, P + 69 + 3, 0, 0, 0]), .inr (0, 192, []), .inr (0, 192, []), .inr (0, 3, []), .inl (0, [2, 2, 2, 2, 0])]
def S_138 (P : Nat) : List mL := [.inl (11, [P + 1 + 3, P + 23 + 3, P + 25 + 3, P + 27 + 3, P + 41 + 3, P + 52 + 3, P + 54 + 3, 2, 2, 0, 0]), .inl (10, [P + 2 + 3, P + 3 + 3, P + 4 + 3, P + 5 + 3, 0, 0, 0, P + 6 + 3]), .inr (0, 4, []), .inr (0, 4, []), .inr (0, 4, []), .inr (0, 4, []), .inr (3, 8, [P + 7, P + 9, P + 11, P + 13, P + 15, P + 17, P + 19, P + 21]), .inl (5, [P + 8 + 3, 0]), .inr (0, 800, []), .inl (5, [P + 10 + 3, 0]), .inr (0, 800, []), .inl (5, [P + 12 + 3, 0]), .inr (0, 800, []), .inl (5, [P + 14 + 3, 0]), .inr (0, 800, []), .inl (5, [P + 16 + 3, 0]), .inr (0, 800, []), .inl (5, [P + 18 + 3, 0]), .inr (0, 800, []), .inl (5, [P + 20 + 3, 0]), .inr (0, 800, []), .inl (5, [P + 22 + 3, 0]), .inr (0, 800, []), .inl (5, [P + 24 + 3, 0]), .inr (0, 400, []), .inl (5, [P + 26 + 3, 0]), .inr (0, 400, []), .inl (4, [P + 28 + 3, 0, 0, P + 30 + 3, 0, 0, P + 37 + 3, P + 39 + 3]), .inl (5, [P + 29 + 3, 0]), .inr (0, 800, []), .inl (8, [P + 31 + 3, P + 33 + 3, P + 35 + 3]), .inl (5, [P + 32 + 3, 0]), .inr (0, 401, []), .inl (5, [P + 34 + 3, 0]), .inr (0, 401, []), .inl (5, [P + 36 + 3, 0]), .inr (0, 401, []), .inl (5, [P + 38 + 3, 0]), .inr (0, 4, []), .inl (5, [P + 40 + 3, 0]), .inr (0, 4, []), .inl (3, [0, 0, 0, 0, 0, 0, 0, 1, 1, 1, P + 42 + 3, P + 43 + 3, P + 44 + 3, P + 45 + 3, P + 46 + 3, P + 47 + 3, P + 48 + 3, P + 49 + 3]), .inl (1, [0, 0, 0, 0, 0]), .inr (0, 192, []), .inr (0, 192, []), .inr (0, 192, []), .inr (0, 192, []), .inr (0, 192, []), .inr (0, 192, []), .inl (2, [P + 50 + 3, P + 51 + 3, 0, 0, 0]), .inr (0, 192, []), .inr (0, 192, []), .inl (6, [P + 53 + 3, 0, 0]), .inr (0, 5, []), .inl (9, [0, 0, 0, P + 55 + 3, P + 57 + 3, P + 59 + 3, P + 70 + 3]), .inl (6, [P + 56 + 3, 0, 0]), .inr (0, 5, []), .inl (5, [P + 58 + 3, 0]), .inr (0, 4, []), .inl (3, [0, 0, 0, 0, 0, 0, 0, 1, 1, 1, P + 60 + 3, P + 61 + 3, P + 62 + 3, P + 63 + 3, P + 64 + 3, P + 65 + 3, P + 66 + 3, P + 67 + 3]), .inl (1, [0, 0, 0, 0, 0]), .inr (0, 192, []), .inr (0, 192, []), .inr (0, 192, []), .inr (0, 192, []), .inr (0, 192, []), .inr (0, 192, []), .inl (2, [P + 68 + 3, P + 69 + 3, 0, 0, 0]), .inr (0, 192, []), .inr (0, 192, []), .inr (0, 3, []), .inl (0, [P + 72 + 3, P + 73 + 3, P + 74 + 3, P + 75 + 3, 0]), .inr (0, 6, []), .inr (0, 6, []), .inr (0, 6, []), .inr (0, 1681, [])]
def S_139 (P : Nat) : List mL := [.inl (11, [P + 1 + 3, P + 23 + 3, P + 25 + 3, P + 27 + 3, P + 41 + 3, P + 52 + 3, P + 54 + 3, P + 71 + 3, 2, 0, 0]), .inl (10, [P + 2 + 3, P + 3 + 3, P + 4 + 3, P + 5 + 3, 0, 0, 0, P + 6 + 3]), .inr (0, 4, []), .inr (0, 4, []), .inr (0, 4, []), .inr (0, 4, []), .inr (3, 8, [P + 7, P + 9, P + 11, P + 13, P + 15, P + 17, P + 19, P + 21]), .inl (5, [P + 8 + 3, 0]), .inr (0, 800, []), .inl (5, [P + 10 + 3, 0]), .inr (0, 800, []), .inl (5, [P + 12 + 3, 0]), .inr (0, 800, []), .inl (5, [P + 14 + 3, 0]), .inr (0, 800, []), .inl (5, [P + 16 + 3, 0]), .inr (0, 800, []), .inl (5, [P + 18 + 3, 0]), .inr (0, 800, []), .inl (5, [P + 20 + 3, 0]), .inr (0, 800, []), .inl (5, [P + 22 + 3, 0]), .inr (0, 800, []), .inl (5, [P + 24 + 3, 0]), .inr (0, 400, []), .inl (5, [P + 26 + 3, 0]), .inr (0, 400, []), .inl (4, [P + 28 + 3, 0, 0, P + 30 + 3, 0, 0, P + 37 + 3, P + 39 + 3]), .inl (5, [P + 29 + 3, 0]), .inr (0, 800, []), .inl (8, [P + 31 + 3, P + 33 + 3, P + 35 + 3]), .inl (5, [P + 32 + 3, 0]), .inr (0, 401, []), .inl (5, [P + 34 + 3, 0]), .inr (0, 401, []), .inl (5, [P + 36 + 3, 0]), .inr (0, 401, []), .inl (5, [P + 38 + 3, 0]), .inr (0, 4, []), .inl (5, [P + 40 + 3, 0]), .inr (0, 4, []), .inl (3, [0, 0, 0, 0, 0, 0, 0, 1, 1, 1, P + 42 + 3, P + 43 + 3, P + 44 + 3, P + 45 + 3, P + 46 + 3, P + 47 + 3, P + 48 + 3, P + 49 + 3]), .inl (1, [0, 0, 0, 0, 0]), .inr (0, 192, []), .inr (0, 192, []), .inr (0, 192, []), .inr (0, 192, []), .inr (0, 192, []), .inr (0, 192, []), .inl (2, [P + 50 + 3, P + 51 + 3, 0, 0, 0]), .inr (0, 192, []), .inr (0, 192, []), .inl (6, [P + 53 + 3, 0, 0]), .inr (0, 5, []), .inl (9, [0, 0, 0, P + 55 + 3, P + 57 + 3, P + 59 + 3, P + 70 + 3]), .inl (6, [P + 56 + 3, 0, 0]), .inr (0, 5, []), .inl (5, [P + 58 + 3, 0]), .inr (0, 4, []), .inl (3, [0, 0, 0, 0, 0, 0, 0, 1, 1, 1, P + 60 + 3, P + 61 + 3, P + 62 + 3, P + 63 + 3, P + 64 + 3, P + 65 + 3, P + 66 + 3, P + 67 + 3]), .inl (1, [0, 0, 0, 0, 0]), .inr (0, 192, []), .inr (0, 192, []), .inr (0, 192, []), .inr (0, 192, []), .inr (0, 192, []), .inr (0, 192, []), .inl (2, [P + 68 + 3, P + 69 + 3, 0, 0, 0]), .inr (0, 192, []), .inr (0, 192, []), .inr (0, 3, []), .inl (0, [P + 72 + 3, P + 73 + 3, P + 74 + 3, P + 75 + 3, 0]), .inr (0, 6, []), .inr (0, 6, []), .inr (0, 6, []), .inr (0, 1681, [])]
def S_140 (P : Nat) : List mL := [.inl (11, [P + 1 + 3, P + 23 + 3, P + 25 + 3, P + 27 + 3, P + 41 + 3, P + 52 + 3, P + 54 + 3, P + 71 + 3, 2, 0, 0]), .inl (10, [P + 2 + 3, P + 3 + 3, P + 4 + 3, P + 5 + 3, 0, 0, 0, P + 6 + 3]), .inr (0, 4, []), .inr (0, 4, []), .inr (0, 4, []), .inr (0, 4, []), .inr (3, 8, [P + 7, P + 9, P + 11, P + 13, P + 15, P + 17, P + 19, P + 21]), .inl (5, [P + 8 + 3, 0]), .inr (0, 800, []), .inl (5, [P + 10 + 3, 0]), .inr (0, 800, []), .inl (5, [P + 12 + 3, 0]), .inr (0, 800, []), .inl (5, [P + 14 + 3, 0]), .inr (0, 800, []), .inl (5, [P + 16 + 3, 0]), .inr (0, 800, []), .inl (5, [P + 18 + 3, 0]), .inr (0, 800, []), .inl (5, [P + 20 + 3, 0]), .inr (0, 800, []), .inl (5, [P + 22 + 3, 0]), .inr (0, 800, []), .inl (5, [P + 24 + 3, 0]), .inr (0, 400, []), .inl (5, [P + 26 + 3, 0]), .inr (0, 400, []), .inl (4, [P + 28 + 3, 0, 0, P + 30 + 3, 0, 0, P + 37 + 3, P + 39 + 3]), .inl (5, [P + 29 + 3, 0]), .inr (0, 800, []), .inl (8, [P + 31 + 3, P + 33 + 3, P + 35 + 3]), .inl (5, [P + 32 + 3, 0]), .inr (0, 401, []), .inl (5, [P + 34 + 3, 0]), .inr (0, 401, []), .inl (5, [P + 36 + 3, 0]), .inr (0, 401, []), .inl (5, [P + 38 + 3, 0]), .inr (0, 4, []), .inl (5, [P + 40 + 3, 0]), .inr (0, 4, []), .inl (3, [0, 0, 0, 0, 0, 0, 0, 1, 1, 1, P + 42 + 3, P + 43 + 3, P + 44 + 3, P + 45 + 3, P + 46 + 3, P + 47 + 3, P + 48 + 3, P + 49 + 3]), .inl (1, [0, 0, 0, 0, 0]), .inr (0, 192, []), .inr (0, 192, []), .inr (0, 192, []), .inr (0, 192, []), .inr (0, 192, []), .inr (0, 192, []), .inl (2, [P + 50 + 3, P + 51 + 3, 0, 0, 0]), .inr (0, 192, []), .inr (0, 192, []), .inl (6, [P + 53 + 3, 0, 0]), .inr (0, 5, []), .inl (9, [0, 0, 0, P + 55 + 3, P + 57 + 3, P + 59 + 3, P + 70 + 3]), .inl (6, [P + 56 + 3, 0, 0]), .inr (0, 5, []), .inl (5, [P + 58 + 3, 0]), .inr (0, 4, []), .inl (3, [0, 0, 0, 0, 0, 0, 0, 1, 1, 1, P + 60 + 3, P + 61 + 3, P + 62 + 3, P + 63 + 3, P + 64 + 3, P + 65 + 3, P + 66 + 3, P + 67 + 3]), .inl (1, [0, 0, 0, 0, 0]), .inr (0, 192, []), .inr (0, 192, []), .inr (0, 192, []), .inr (0, 192, []), .inr (0, 192, []), .inr (0, 192, []), .inl (2, [P + 68 + 3, P + 69 + 3, 0, 0, 0]), .inr (0, 192, []), .inr (0, 192, []), .inr (0, 3, []), .inl (0, [P + 72 + 3, P + 73 + 3, P + 74 + 3, P + 75 + 3, 0]), .inr (0, 6, []), .inr (0, 6, []), .inr (0, 6, []), .inr (0, 1681, []), .inl (7, [2, 2, 2, 2, 0, 0])]
def S_141 (P : Nat) : List mL := [.inl (11, [P + 1 + 3, P + 23 + 3, P + 25 + 3, P + 27 + 3, P + 41 + 3, P + 52 + 3, P + 54 + 3, P + 71 + 3, 2, 0, 0]), .inl (10, [P + 2 + 3, P + 3 + 3, P + 4 + 3, P + 5 + 3, 0, 0, 0, P + 6 + 3]), .inr (0, 4, []), .inr (0, 4, []), .inr (0, 4, []), .inr (0, 4, []), .inr (3, 8, [P + 7, P + 9, P + 11, P + 13, P + 15, P + 17, P + 19, P + 21]), .inl (5, [P + 8 + 3, 0]), .inr (0, 800, []), .inl (5, [P + 10 + 3, 0]), .inr (0, 800, []), .inl (5, [P + 12 + 3, 0]), .inr (0, 800, []), .inl (5, [P + 14 + 3, 0]), .inr (0, 800, []), .inl (5, [P + 16 + 3, 0]), .inr (0, 800, []), .inl (5, [P + 18 + 3, 0]), .inr (0, 800, []), .inl (5, [P + 20 + 3, 0]), .inr (0, 800, []), .inl (5, [P + 22 + 3, 0]), .inr (0, 800, []), .inl (5, [P + 24 + 3, 0]), .inr (0, 400, []), .inl (5, [P + 26 + 3, 0]), .inr (0, 400, []), .inl (4, [P + 28 + 3, 0, 0, P + 30 + 3, 0, 0, P + 37 + 3, P + 39 + 3]), .inl (5, [P + 29 + 3, 0]), .inr (0, 800, []), .inl (8, [P + 31 + 3, P + 33 + 3, P + 35 + 3]), .inl (5, [P + 32 + 3, 0]), .inr (0, 401, []), .inl (5, [P + 34 + 3, 0]), .inr (0, 401, []), .inl (5, [P + 36 + 3, 0]), .inr (0, 401, []), .inl (5, [P + 38 + 3, 0]), .inr (0, 4, []), .inl (5, [P + 40 + 3, 0]), .inr (0, 4, []), .inl (3, [0, 0, 0, 0, 0, 0, 0, 1, 1, 1, P + 42 + 3, P + 43 + 3, P + 44 + 3, P + 45 + 3, P + 46 + 3, P + 47 + 3, P + 48 + 3, P + 49 + 3]), .inl (1, [0, 0, 0, 0, 0]), .inr (0, 192, []), .inr (0, 192, []), .inr (0, 192, []), .inr (0, 192, []), .inr (0, 192, []), .inr (0, 192, []), .inl (2, [P + 50 + 3, P + 51 + 3, 0, 0, 0]), .inr (0, 192, []), .inr (0, 192, []), .inl (6, [P + 53 + 3, 0, 0]), .inr (0, 5, []), .inl (9, [0, 0, 0, P + 55 + 3, P + 57 + 3, P + 59 + 3, P + 70 + 3]), .inl (6, [P + 56 + 3, 0, 0]), .inr (0, 5, []), .inl (5, [P + 58 + 3, 0]), .inr (0, 4, []), .inl (3, [0, 0, 0, 0, 0, 0, 0, 1, 1, 1, P + 60 + 3, P + 61 + 3, P + 62 + 3, P + 63 + 3, P + 64 + 3, P + 65 + 3, P + 66 + 3, P + 67 + 3]), .inl (1, [0, 0, 0, 0, 0]), .inr (0, 192, []), .inr (0, 192, []), .inr (0, 192, []), .inr (0, 192, []), .inr (0, 192, []), .inr (0, 192, []), .inl (2, [P + 68 + 3, P + 69 + 3, 0, 0, 0]), .inr (0, 192, []), .inr (0, 192, []), .inr (0, 3, []), .inl (0, [P + 72 + 3, P + 73 + 3, P + 74 + 3, P + 75 + 3, 0]), .inr (0, 6, []), .inr (0, 6, []), .inr (0, 6, []), .inr (0, 1681, []), .inl (7, [P + 77 + 3, P + 78 + 3, P + 79 + 3, P + 80 + 3, 0, 0]), .inr (0, 200, []), .inr (0, 200, []), .inr (0, 200, []), .inr (1, 200, [])]
def S_142 (P : Nat) : List mL := [.inl (11, [P + 1 + 3, P + 23 + 3, P + 25 + 3, P + 27 + 3, P + 41 + 3, P + 52 + 3, P + 54 + 3, P + 71 + 3, P + 76 + 3, 0, 0]), .inl (10, [P + 2 + 3, P + 3 + 3, P + 4 + 3, P + 5 + 3, 0, 0, 0, P + 6 + 3]), .inr (0, 4, []), .inr (0, 4, []), .inr (0, 4, []), .inr (0, 4, []), .inr (3, 8, [P + 7, P + 9, P + 11, P + 13, P + 15, P + 17, P + 19, P + 21]), .inl (5, [P + 8 + 3, 0]), .inr (0, 800, []), .inl (5, [P + 10 + 3, 0]), .inr (0, 800, []), .inl (5, [P + 12 + 3, 0]), .inr (0, 800, []), .inl (5, [P + 14 + 3, 0]), .inr (0, 800, []), .inl (5, [P + 16 + 3, 0]), .inr (0, 800, []), .inl (5, [P + 18 + 3, 0]), .inr (0, 800, []), .inl (5, [P + 20 + 3, 0]), .inr (0, 800, []), .inl (5, [P + 22 + 3, 0]), .inr (0, 800, []), .inl (5, [P + 24 + 3, 0]), .inr (0, 400, []), .inl (5, [P + 26 + 3, 0]), .inr (0, 400, []), .inl (4, [P + 28 + 3, 0, 0, P + 30 + 3, 0, 0, P + 37 + 3, P + 39 + 3]), .inl (5, [P + 29 + 3, 0]), .inr (0, 800, []), .inl (8, [P + 31 + 3, P + 33 + 3, P + 35 + 3]), .inl (5, [P + 32 + 3, 0]), .inr (0, 401, []), .inl (5, [P + 34 + 3, 0]), .inr (0, 401, []), .inl (5, [P + 36 + 3, 0]), .inr (0, 401, []), .inl (5, [P + 38 + 3, 0]), .inr (0, 4, []), .inl (5, [P + 40 + 3, 0]), .inr (0, 4, []), .inl (3, [0, 0, 0, 0, 0, 0, 0, 1, 1, 1, P + 42 + 3, P + 43 + 3, P + 44 + 3, P + 45 + 3, P + 46 + 3, P + 47 + 3, P + 48 + 3, P + 49 + 3]), .inl (1, [0, 0, 0, 0, 0]), .inr (0, 192, []), .inr (0, 192, []), .inr (0, 192, []), .inr (0, 192, []), .inr (0, 192, []), .inr (0, 192, []), .inl (2, [P + 50 + 3, P + 51 + 3, 0, 0, 0]), .inr (0, 192, []), .inr (0, 192, []), .inl (6, [P + 53 + 3, 0, 0]), .inr (0, 5, []), .inl (9, [0, 0, 0, P + 55 + 3, P + 57 + 3, P + 59 + 3, P + 70 + 3]), .inl (6, [P + 56 + 3, 0, 0]), .inr (0, 5, []), .inl (5, [P + 58 + 3, 0]), .inr (0, 4, []), .inl (3, [0, 0, 0, 0, 0, 0, 0, 1, 1, 1, P + 60 + 3, P + 61 + 3, P + 62 + 3, P + 63 + 3, P + 64 + 3, P + 65 + 3, P + 66 + 3, P + 67 + 3]), .inl (1, [0, 0, 0, 0, 0]), .inr (0, 192, []), .inr (0, 192, []), .inr (0, 192, []), .inr (0, 192, []), .inr (0, 192, []), .inr (0, 192, []), .inl (2, [P + 68 + 3, P + 69 + 3, 0, 0, 0]), .inr (0, 192, []), .inr (0, 192, []), .inr (0, 3, []), .inl (0, [P + 72 + 3, P + 73 + 3, P + 74 + 3, P + 75 + 3, 0]), .inr (0, 6, []), .inr (0, 6, []), .inr (0, 6, []), .inr (0, 1681, []), .inl (7, [P + 77 + 3, P + 78 + 3, P + 79 + 3, P + 80 + 3, 0, 0]), .inr (0, 200, []), .inr (0, 200, []), .inr (0, 200, []), .inr (1, 200, [])]
def U_29 : List (Nat × Nat × Int32) := U_28 ++ [(0, 10, (-1))]
set_option maxHeartbeats 4000000 in
set_option maxRecDepth 100000 in
theorem c_X11_init (l : Launch) (D : va_G) (cy : Nat → ClassId) (b : Nat) (pre : List mL) (P : Nat) (hP : pre.length = P) (lay0 lay1 : List mL) (h0 : lay0 = pre ++ [.inl (11, f0_11)]) (μ : mM) (hμ : m_Zr P μ) (h1 : lay1 = pre ++ (S_142 P)) : m_Cz l yX11_init cX11_init 1 4 80 14956 D cy b lay0 lay1 μ [.ref (b + P)] (fun ν => ν = m_us P μ U_29) := by
  subst h0
  refine m_ofz (cc := cX11_init) (n := 1) (d := 4) (by decide) (Nat.le_of_ble_eq_true rfl) ?_
  intro p e s m below meth c hx hb hr hml hown hts hlocks hnm hW hz ls hl
  have hown : s.vm.findClass RX11 = some m.cls := hown
  have hl : lv_has ls 1 [(0, .ref (b + (P + 0)))] := hl
  have hW : m_W D cy s b (pre ++ (S_116 P)) (m_us P μ []) s.heap [] := hW
  have hz : s.heap.size = b + (P + 1) := hz.trans (congrArg (fun z => b + z) (m_suflen (n := 1) hP rfl))
  refine lv_aload_n hx hb dX11_init_0 rfl (lv_at hl 0 rfl) ?_
  refine W.objInit hx hb hown (hts _ k_X11_1) (hts _ ko_i) (hts _ ko_c) rfl (by rw [hml]; exact hl.1) rfl dX11_init_1 (Nat.le_of_ble_eq_true rfl) (Nat.le_of_ble_eq_true rfl) ?_
  refine W.eq (g2 := F0 m 4 ls []) rfl ?_
  refine lv_aload_n hx hb dX11_init_4 rfl (lv_at hl 0 rfl) ?_
  refine m_new' (N0 := P + 1) hx hb hts hown hW (m_suflen (n := 1) hP rfl) hz cw_10 tyX10_ok k_X11_7 ki_X10 kn_X10 rfl f0_10 (lay' := pre ++ (S_115 P)) (List.append_assoc _ _ _) f0_10_ok (Nat.le_of_ble_eq_true rfl) (Nat.le_of_ble_eq_true rfl) dX11_init_5 (fun H hW hz => ?_)
  rw [m_us_z hμ [] 1 rfl] at hW
  have hW : m_W D cy s b (pre ++ (S_115 P)) (m_us P μ []) H _ := hW
  have hz : H.size = b + (P + 2) := hz
  refine lv_dup hx hb dX11_init_8 rfl ?_
  refine m_aZ hW (m_runI (As := []) (rest := [.ref (b + (P + 1)), .ref (b + (P + 0))]) hx hb hml hown hts hW (hz.trans (congrArg (fun z => b + z) (m_suflen (n := 2) hP rfl).symm)) (P + 1) (c_X10_init l D cy b (pre ++ (S_116 P)) (P + 1) (m_suflen (n := 1) hP rfl) _ (pre ++ (S_117 P)) ((List.append_assoc _ _ _).symm) (m_us P μ []) (m_us_zr hμ [] 1 rfl) (List.append_assoc pre (S_116 P) [.inl (10, [P + 2 + 3, P + 3 + 3, P + 4 + 3, P + 5 + 3, 0, 0, 0, P + 6 + 3]), .inr (0, 4, []), .inr (0, 4, []), .inr (0, 4, []), .inr (0, 4, []), .inr (3, 8, [P + 7, P + 9, P + 11, P + 13, P + 15, P + 17, P + 19, P + 21]), .inl (5, [P + 8 + 3, 0]), .inr (0, 800, []), .inl (5, [P + 10 + 3, 0]), .inr (0, 800, []), .inl (5, [P + 12 + 3, 0]), .inr (0, 800, []), .inl (5, [P + 14 + 3, 0]), .inr (0, 800, []), .inl (5, [P + 16 + 3, 0]), .inr (0, 800, []), .inl (5, [P + 18 + 3, 0]), .inr (0, 800, []), .inl (5, [P + 20 + 3, 0]), .inr (0, 800, []), .inl (5, [P + 22 + 3, 0]), .inr (0, 800, [])]).symm) mc_X10_init k_X11_9 rfl hl.1 rfl (Nat.le_of_ble_eq_true rfl) dX11_init_9 ⟨Nat.le_of_ble_eq_true rfl, Nat.le_of_ble_eq_true rfl⟩ ⟨Nat.le_of_ble_eq_true rfl, Nat.le_of_ble_eq_true rfl⟩) (fun ν H locs hν hW hz => ?_)
  rw [hν, m_us_join] at hW
  have hW : m_W D cy s b (pre ++ (S_117 P)) (m_us P μ U_25) H _ := hW
  have hz : H.size = b + (P + 23) := hz.trans (congrArg (fun z => b + z) (m_suflen (n := 23) hP rfl))
  refine m_putr hx hb hts hown hW (P + 0) 0 (P + 1) (m_suf hP rfl) rfl cw_11 tyX11_ok nmX11 rfl (by decide) k_X11_10 ⟨rfl, hnm, rfl⟩ rfl rfl (lay' := pre ++ (S_118 P)) (m_sufset hP rfl) dX11_init_12 (fun H locs hW hz1 => ?_)
  have hz := hz1.trans hz
  have hW : m_W D cy s b (pre ++ (S_118 P)) (m_us P μ U_25) H _ := hW
  refine lv_aload_n hx hb dX11_init_15 rfl (lv_at hl 0 rfl) ?_
  refine m_new' (N0 := P + 23) hx hb hts hown hW (m_suflen (n := 23) hP rfl) hz cw_5 tyX5_ok k_X11_16 ki_X5 kn_X5 rfl f0_5 (lay' := pre ++ (S_119 P)) (List.append_assoc _ _ _) f0_5_ok (Nat.le_of_ble_eq_true rfl) (Nat.le_of_ble_eq_true rfl) dX11_init_16 (fun H hW hz => ?_)
  rw [m_us_z hμ U_25 23 rfl] at hW
  have hW : m_W D cy s b (pre ++ (S_119 P)) (m_us P μ U_25) H _ := hW
  have hz : H.size = b + (P + 24) := hz
  refine lv_dup hx hb dX11_init_19 rfl ?_
  refine lv_sipush (v := 400) hx hb dX11_init_20 (by decide) ?_
  refine m_aZ hW (m_runI (As := [.int 400]) (rest := [.ref (b + (P + 23)), .ref (b + (P + 0))]) hx hb hml hown hts hW (hz.trans (congrArg (fun z => b + z) (m_suflen (n := 24) hP rfl).symm)) (P + 23) (c_X5_init l D cy b (pre ++ (S_118 P)) (P + 23) (m_suflen (n := 23) hP rfl) _ (pre ++ (S_120 P)) ((List.append_assoc _ _ _).symm) (m_us P μ U_25) (m_us_zr hμ U_25 23 rfl) 400 400 (by decide) (by decide) (List.append_assoc pre (S_118 P) [.inl (5, [P + 24 + 3, 0]), .inr (0, 400, [])]).symm) mc_X5_init k_X11_18 rfl hl.1 rfl (Nat.le_of_ble_eq_true rfl) dX11_init_23 ⟨Nat.le_of_ble_eq_true rfl, Nat.le_of_ble_eq_true rfl⟩ ⟨Nat.le_of_ble_eq_true rfl, Nat.le_of_ble_eq_true rfl⟩) (fun ν H locs hν hW hz => ?_)
  rw [hν] at hW
  have hW : m_W D cy s b (pre ++ (S_120 P)) (m_us P μ U_25) H _ := hW
  have hz : H.size = b + (P + 25) := hz.trans (congrArg (fun z => b + z) (m_suflen (n := 25) hP rfl))
  refine m_putr hx hb hts hown hW (P + 0) 1 (P + 23) (m_suf hP rfl) rfl cw_11 tyX11_ok nmX11 rfl (by decide) k_X11_21 ⟨rfl, hnm, rfl⟩ rfl rfl (lay' := pre ++ (S_121 P)) (m_sufset hP rfl) dX11_init_26 (fun H locs hW hz1 => ?_)
  have hz := hz1.trans hz
  have hW : m_W D cy s b (pre ++ (S_121 P)) (m_us P μ U_25) H _ := hW
  refine lv_aload_n hx hb dX11_init_29 rfl (lv_at hl 0 rfl) ?_
  refine m_new' (N0 := P + 25) hx hb hts hown hW (m_suflen (n := 25) hP rfl) hz cw_5 tyX5_ok k_X11_16 ki_X5 kn_X5 rfl f0_5 (lay' := pre ++ (S_122 P)) (List.append_assoc _ _ _) f0_5_ok (Nat.le_of_ble_eq_true rfl) (Nat.le_of_ble_eq_true rfl) dX11_init_30 (fun H hW hz => ?_)
  rw [m_us_z hμ U_25 25 rfl] at hW
  have hW : m_W D cy s b (pre ++ (S_122 P)) (m_us P μ U_25) H _ := hW
  have hz : H.size = b + (P + 26) := hz
  refine lv_dup hx hb dX11_init_33 rfl ?_
  refine lv_sipush (v := 400) hx hb dX11_init_34 (by decide) ?_
  refine m_aZ hW (m_runI (As := [.int 400]) (rest := [.ref (b + (P + 25)), .ref (b + (P + 0))]) hx hb hml hown hts hW (hz.trans (congrArg (fun z => b + z) (m_suflen (n := 26) hP rfl).symm)) (P + 25) (c_X5_init l D cy b (pre ++ (S_121 P)) (P + 25) (m_suflen (n := 25) hP rfl) _ (pre ++ (S_123 P)) ((List.append_assoc _ _ _).symm) (m_us P μ U_25) (m_us_zr hμ U_25 25 rfl) 400 400 (by decide) (by decide) (List.append_assoc pre (S_121 P) [.inl (5, [P + 26 + 3, 0]), .inr (0, 400, [])]).symm) mc_X5_init k_X11_18 rfl hl.1 rfl (Nat.le_of_ble_eq_true rfl) dX11_init_37 ⟨Nat.le_of_ble_eq_true rfl, Nat.le_of_ble_eq_true rfl⟩ ⟨Nat.le_of_ble_eq_true rfl, Nat.le_of_ble_eq_true rfl⟩) (fun ν H locs hν hW hz => ?_)
  rw [hν] at hW
  have hW : m_W D cy s b (pre ++ (S_123 P)) (m_us P μ U_25) H _ := hW
  have hz : H.size = b + (P + 27) := hz.trans (congrArg (fun z => b + z) (m_suflen (n := 27) hP rfl))
  refine m_putr hx hb hts hown hW (P + 0) 2 (P + 25) (m_suf hP rfl) rfl cw_11 tyX11_ok nmX11 rfl (by decide) k_X11_25 ⟨rfl, hnm, rfl⟩ rfl rfl (lay' := pre ++ (S_124 P)) (m_sufset hP rfl) dX11_init_40 (fun H locs hW hz1 => ?_)
  have hz := hz1.trans hz
  have hW : m_W D cy s b (pre ++ (S_124 P)) (m_us P μ U_25) H _ := hW
  refine lv_aload_n hx hb dX11_init_43 rfl (lv_at hl 0 rfl) ?_
  refine m_new' (N0 := P + 27) hx hb hts hown hW (m_suflen (n := 27) hP rfl) hz cw_4 tyX4_ok k_X11_28 ki_X4 kn_X4 rfl f0_4 (lay' := pre ++ (S_125 P)) (List.append_assoc _ _ _) f0_4_ok (Nat.le_of_ble_eq_true rfl) (Nat.le_of_ble_eq_true rfl) dX11_init_44 (fun H hW hz => ?_)
  rw [m_us_z hμ U_25 27 rfl] at hW
  have hW : m_W D cy s b (pre ++ (S_125 P)) (m_us P μ U_25) H _ := hW
  have hz : H.size = b + (P + 28) := hz
  refine lv_dup hx hb dX11_init_47 rfl ?_
  refine m_aZ hW (m_runIN (As := []) (rest := [.ref (b + (P + 27)), .ref (b + (P + 0))]) hx hb hml hown hts hW (hz.trans (congrArg (fun z => b + z) (m_suflen (n := 28) hP rfl).symm)) (P + 27) (c_X4_init l D cy b (pre ++ (S_124 P)) (P + 27) (m_suflen (n := 27) hP rfl) _ (pre ++ (S_126 P)) ((List.append_assoc _ _ _).symm) (m_us P μ U_25) (m_us_zr hμ U_25 27 rfl) (List.append_assoc pre (S_124 P) [.inl (4, [P + 28 + 3, 0, 0, P + 30 + 3, 0, 0, P + 37 + 3, P + 39 + 3]), .inl (5, [P + 29 + 3, 0]), .inr (0, 800, []), .inl (8, [P + 31 + 3, P + 33 + 3, P + 35 + 3]), .inl (5, [P + 32 + 3, 0]), .inr (0, 401, []), .inl (5, [P + 34 + 3, 0]), .inr (0, 401, []), .inl (5, [P + 36 + 3, 0]), .inr (0, 401, []), .inl (5, [P + 38 + 3, 0]), .inr (0, 4, []), .inl (5, [P + 40 + 3, 0]), .inr (0, 4, [])]).symm) mc_X4_init n_X11_30 rfl hl.1 rfl (Nat.le_of_ble_eq_true rfl) dX11_init_48 ⟨Nat.le_of_ble_eq_true rfl, Nat.le_of_ble_eq_true rfl⟩ ⟨Nat.le_of_ble_eq_true rfl, Nat.le_of_ble_eq_true rfl⟩) (fun ν H locs hν hW hz => ?_)
  rw [hν, m_us_join] at hW
  have hW : m_W D cy s b (pre ++ (S_126 P)) (m_us P μ U_26) H _ := hW
  have hz : H.size = b + (P + 41) := hz.trans (congrArg (fun z => b + z) (m_suflen (n := 41) hP rfl))
  refine m_putr hx hb hts hown hW (P + 0) 3 (P + 27) (m_suf hP rfl) rfl cw_11 tyX11_ok nmX11 rfl (by decide) k_X11_31 ⟨rfl, hnm, rfl⟩ rfl rfl (lay' := pre ++ (S_127 P)) (m_sufset hP rfl) dX11_init_51 (fun H locs hW hz1 => ?_)
  have hz := hz1.trans hz
  have hW : m_W D cy s b (pre ++ (S_127 P)) (m_us P μ U_26) H _ := hW
  refine lv_aload_n hx hb dX11_init_54 rfl (lv_at hl 0 rfl) ?_
  refine m_new' (N0 := P + 41) hx hb hts hown hW (m_suflen (n := 41) hP rfl) hz cw_3 tyX3_ok k_X11_35 ki_X3 kn_X3 rfl f0_3 (lay' := pre ++ (S_128 P)) (List.append_assoc _ _ _) f0_3_ok (Nat.le_of_ble_eq_true rfl) (Nat.le_of_ble_eq_true rfl) dX11_init_55 (fun H hW hz => ?_)
  rw [m_us_z hμ U_26 41 rfl] at hW
  have hW : m_W D cy s b (pre ++ (S_128 P)) (m_us P μ U_26) H _ := hW
  have hz : H.size = b + (P + 42) := hz
  refine lv_dup hx hb dX11_init_58 rfl ?_
  refine m_aZ hW (m_runIN (As := []) (rest := [.ref (b + (P + 41)), .ref (b + (P + 0))]) hx hb hml hown hts hW (hz.trans (congrArg (fun z => b + z) (m_suflen (n := 42) hP rfl).symm)) (P + 41) (c_X3_init l D cy b (pre ++ (S_127 P)) (P + 41) (m_suflen (n := 41) hP rfl) _ (pre ++ (S_129 P)) ((List.append_assoc _ _ _).symm) (m_us P μ U_26) (m_us_zr hμ U_26 41 rfl) (List.append_assoc pre (S_127 P) [.inl (3, [0, 0, 0, 0, 0, 0, 0, 1, 1, 1, P + 42 + 3, P + 43 + 3, P + 44 + 3, P + 45 + 3, P + 46 + 3, P + 47 + 3, P + 48 + 3, P + 49 + 3]), .inl (1, [0, 0, 0, 0, 0]), .inr (0, 192, []), .inr (0, 192, []), .inr (0, 192, []), .inr (0, 192, []), .inr (0, 192, []), .inr (0, 192, []), .inl (2, [P + 50 + 3, P + 51 + 3, 0, 0, 0]), .inr (0, 192, []), .inr (0, 192, [])]).symm) mc_X3_init n_X11_37 rfl hl.1 rfl (Nat.le_of_ble_eq_true rfl) dX11_init_59 ⟨Nat.le_of_ble_eq_true rfl, Nat.le_of_ble_eq_true rfl⟩ ⟨Nat.le_of_ble_eq_true rfl, Nat.le_of_ble_eq_true rfl⟩) (fun ν H locs hν hW hz => ?_)
  rw [hν, m_us_join] at hW
  have hW : m_W D cy s b (pre ++ (S_129 P)) (m_us P μ U_27) H _ := hW
  have hz : H.size = b + (P + 52) := hz.trans (congrArg (fun z => b + z) (m_suflen (n := 52) hP rfl))
  refine m_putr hx hb hts hown hW (P + 0) 4 (P + 41) (m_suf hP rfl) rfl cw_11 tyX11_ok nmX11 rfl (by decide) k_X11_38 ⟨rfl, hnm, rfl⟩ rfl rfl (lay' := pre ++ (S_130 P)) (m_sufset hP rfl) dX11_init_62 (fun H locs hW hz1 => ?_)
  have hz := hz1.trans hz
  have hW : m_W D cy s b (pre ++ (S_130 P)) (m_us P μ U_27) H _ := hW
  refine lv_aload_n hx hb dX11_init_65 rfl (lv_at hl 0 rfl) ?_
  refine m_new' (N0 := P + 52) hx hb hts hown hW (m_suflen (n := 52) hP rfl) hz cw_6 tyX6_ok k_X11_42 ki_X6 kn_X6 rfl f0_6 (lay' := pre ++ (S_131 P)) (List.append_assoc _ _ _) f0_6_ok (Nat.le_of_ble_eq_true rfl) (Nat.le_of_ble_eq_true rfl) dX11_init_66 (fun H hW hz => ?_)
  rw [m_us_z hμ U_27 52 rfl] at hW
  have hW : m_W D cy s b (pre ++ (S_131 P)) (m_us P μ U_27) H _ := hW
  have hz : H.size = b + (P + 53) := hz
  refine lv_dup hx hb dX11_init_69 rfl ?_
  refine m_aZ hW (m_runIN (As := []) (rest := [.ref (b + (P + 52)), .ref (b + (P + 0))]) hx hb hml hown hts hW (hz.trans (congrArg (fun z => b + z) (m_suflen (n := 53) hP rfl).symm)) (P + 52) (c_X6_init l D cy b (pre ++ (S_130 P)) (P + 52) (m_suflen (n := 52) hP rfl) _ (pre ++ (S_132 P)) ((List.append_assoc _ _ _).symm) (m_us P μ U_27) (m_us_zr hμ U_27 52 rfl) (List.append_assoc pre (S_130 P) [.inl (6, [P + 53 + 3, 0, 0]), .inr (0, 5, [])]).symm) mc_X6_init n_X11_44 rfl hl.1 rfl (Nat.le_of_ble_eq_true rfl) dX11_init_70 ⟨Nat.le_of_ble_eq_true rfl, Nat.le_of_ble_eq_true rfl⟩ ⟨Nat.le_of_ble_eq_true rfl, Nat.le_of_ble_eq_true rfl⟩) (fun ν H locs hν hW hz => ?_)
  rw [hν] at hW
  have hW : m_W D cy s b (pre ++ (S_132 P)) (m_us P μ U_27) H _ := hW
  have hz : H.size = b + (P + 54) := hz.trans (congrArg (fun z => b + z) (m_suflen (n := 54) hP rfl))
  refine m_putr hx hb hts hown hW (P + 0) 5 (P + 52) (m_suf hP rfl) rfl cw_11 tyX11_ok nmX11 rfl (by decide) k_X11_45 ⟨rfl, hnm, rfl⟩ rfl rfl (lay' := pre ++ (S_133 P)) (m_sufset hP rfl) dX11_init_73 (fun H locs hW hz1 => ?_)
  have hz := hz1.trans hz
  have hW : m_W D cy s b (pre ++ (S_133 P)) (m_us P μ U_27) H _ := hW
  refine lv_aload_n hx hb dX11_init_76 rfl (lv_at hl 0 rfl) ?_
  refine m_new' (N0 := P + 54) hx hb hts hown hW (m_suflen (n := 54) hP rfl) hz cw_9 tyX9_ok k_X11_49 ki_X9 kn_X9 rfl f0_9 (lay' := pre ++ (S_134 P)) (List.append_assoc _ _ _) f0_9_ok (Nat.le_of_ble_eq_true rfl) (Nat.le_of_ble_eq_true rfl) dX11_init_77 (fun H hW hz => ?_)
  rw [m_us_z hμ U_27 54 rfl] at hW
  have hW : m_W D cy s b (pre ++ (S_134 P)) (m_us P μ U_27) H _ := hW
  have hz : H.size = b + (P + 55) := hz
  refine lv_dup hx hb dX11_init_80 rfl ?_
  refine m_aZ hW (m_runIN (As := []) (rest := [.ref (b + (P + 54)), .ref (b + (P + 0))]) hx hb hml hown hts hW (hz.trans (congrArg (fun z => b + z) (m_suflen (n := 55) hP rfl).symm)) (P + 54) (c_X9_init l D cy b (pre ++ (S_133 P)) (P + 54) (m_suflen (n := 54) hP rfl) _ (pre ++ (S_135 P)) ((List.append_assoc _ _ _).symm) (m_us P μ U_27) (m_us_zr hμ U_27 54 rfl) (List.append_assoc pre (S_133 P) [.inl (9, [0, 0, 0, P + 55 + 3, P + 57 + 3, P + 59 + 3, P + 70 + 3]), .inl (6, [P + 56 + 3, 0, 0]), .inr (0, 5, []), .inl (5, [P + 58 + 3, 0]), .inr (0, 4, []), .inl (3, [0, 0, 0, 0, 0, 0, 0, 1, 1, 1, P + 60 + 3, P + 61 + 3, P + 62 + 3, P + 63 + 3, P + 64 + 3, P + 65 + 3, P + 66 + 3, P + 67 + 3]), .inl (1, [0, 0, 0, 0, 0]), .inr (0, 192, []), .inr (0, 192, []), .inr (0, 192, []), .inr (0, 192, []), .inr (0, 192, []), .inr (0, 192, []), .inl (2, [P + 68 + 3, P + 69 + 3, 0, 0, 0]), .inr (0, 192, []), .inr (0, 192, []), .inr (0, 3, [])]).symm) mc_X9_init n_X11_51 rfl hl.1 rfl (Nat.le_of_ble_eq_true rfl) dX11_init_81 ⟨Nat.le_of_ble_eq_true rfl, Nat.le_of_ble_eq_true rfl⟩ ⟨Nat.le_of_ble_eq_true rfl, Nat.le_of_ble_eq_true rfl⟩) (fun ν H locs hν hW hz => ?_)
  rw [hν, m_us_join] at hW
  have hW : m_W D cy s b (pre ++ (S_135 P)) (m_us P μ U_28) H _ := hW
  have hz : H.size = b + (P + 71) := hz.trans (congrArg (fun z => b + z) (m_suflen (n := 71) hP rfl))
  refine m_putr hx hb hts hown hW (P + 0) 6 (P + 54) (m_suf hP rfl) rfl cw_11 tyX11_ok nmX11 rfl (by decide) k_X11_52 ⟨rfl, hnm, rfl⟩ rfl rfl (lay' := pre ++ (S_136 P)) (m_sufset hP rfl) dX11_init_84 (fun H locs hW hz1 => ?_)
  have hz := hz1.trans hz
  have hW : m_W D cy s b (pre ++ (S_136 P)) (m_us P μ U_28) H _ := hW
  refine lv_aload_n hx hb dX11_init_87 rfl (lv_at hl 0 rfl) ?_
  refine m_new' (N0 := P + 71) hx hb hts hown hW (m_suflen (n := 71) hP rfl) hz cw_0 tyX0_ok k_X11_56 ki_X0 kn_X0 rfl f0_0 (lay' := pre ++ (S_137 P)) (List.append_assoc _ _ _) f0_0_ok (Nat.le_of_ble_eq_true rfl) (Nat.le_of_ble_eq_true rfl) dX11_init_88 (fun H hW hz => ?_)
  rw [m_us_z hμ U_28 71 rfl] at hW
  have hW : m_W D cy s b (pre ++ (S_137 P)) (m_us P μ U_28) H _ := hW
  have hz : H.size = b + (P + 72) := hz
  refine lv_dup hx hb dX11_init_91 rfl ?_
  refine m_aZ hW (m_runIN (As := []) (rest := [.ref (b + (P + 71)), .ref (b + (P + 0))]) hx hb hml hown hts hW (hz.trans (congrArg (fun z => b + z) (m_suflen (n := 72) hP rfl).symm)) (P + 71) (c_X0_init l D cy b (pre ++ (S_136 P)) (P + 71) (m_suflen (n := 71) hP rfl) _ (pre ++ (S_138 P)) ((List.append_assoc _ _ _).symm) (m_us P μ U_28) (m_us_zr hμ U_28 71 rfl) (List.append_assoc pre (S_136 P) [.inl (0, [P + 72 + 3, P + 73 + 3, P + 74 + 3, P + 75 + 3, 0]), .inr (0, 6, []), .inr (0, 6, []), .inr (0, 6, []), .inr (0, 1681, [])]).symm) mc_X0_init n_X11_58 rfl hl.1 rfl (Nat.le_of_ble_eq_true rfl) dX11_init_92 ⟨Nat.le_of_ble_eq_true rfl, Nat.le_of_ble_eq_true rfl⟩ ⟨Nat.le_of_ble_eq_true rfl, Nat.le_of_ble_eq_true rfl⟩) (fun ν H locs hν hW hz => ?_)
  rw [hν] at hW
  have hW : m_W D cy s b (pre ++ (S_138 P)) (m_us P μ U_28) H _ := hW
  have hz : H.size = b + (P + 76) := hz.trans (congrArg (fun z => b + z) (m_suflen (n := 76) hP rfl))
  refine m_putr hx hb hts hown hW (P + 0) 7 (P + 71) (m_suf hP rfl) rfl cw_11 tyX11_ok nmX11 rfl (by decide) k_X11_59 ⟨rfl, hnm, rfl⟩ rfl rfl (lay' := pre ++ (S_139 P)) (m_sufset hP rfl) dX11_init_95 (fun H locs hW hz1 => ?_)
  have hz := hz1.trans hz
  have hW : m_W D cy s b (pre ++ (S_139 P)) (m_us P μ U_28) H _ := hW
  refine lv_aload_n hx hb dX11_init_98 rfl (lv_at hl 0 rfl) ?_
  refine m_new' (N0 := P + 76) hx hb hts hown hW (m_suflen (n := 76) hP rfl) hz cw_7 tyX7_ok k_X11_63 ki_X7 kn_X7 rfl f0_7 (lay' := pre ++ (S_140 P)) (List.append_assoc _ _ _) f0_7_ok (Nat.le_of_ble_eq_true rfl) (Nat.le_of_ble_eq_true rfl) dX11_init_99 (fun H hW hz => ?_)
  rw [m_us_z hμ U_28 76 rfl] at hW
  have hW : m_W D cy s b (pre ++ (S_140 P)) (m_us P μ U_28) H _ := hW
  have hz : H.size = b + (P + 77) := hz
  refine lv_dup hx hb dX11_init_102 rfl ?_
  refine m_aZ hW (m_runIN (As := []) (rest := [.ref (b + (P + 76)), .ref (b + (P + 0))]) hx hb hml hown hts hW (hz.trans (congrArg (fun z => b + z) (m_suflen (n := 77) hP rfl).symm)) (P + 76) (c_X7_init l D cy b (pre ++ (S_139 P)) (P + 76) (m_suflen (n := 76) hP rfl) _ (pre ++ (S_141 P)) ((List.append_assoc _ _ _).symm) (m_us P μ U_28) (m_us_zr hμ U_28 76 rfl) (List.append_assoc pre (S_139 P) [.inl (7, [P + 77 + 3, P + 78 + 3, P + 79 + 3, P + 80 + 3, 0, 0]), .inr (0, 200, []), .inr (0, 200, []), .inr (0, 200, []), .inr (1, 200, [])]).symm) mc_X7_init n_X11_65 rfl hl.1 rfl (Nat.le_of_ble_eq_true rfl) dX11_init_103 ⟨Nat.le_of_ble_eq_true rfl, Nat.le_of_ble_eq_true rfl⟩ ⟨Nat.le_of_ble_eq_true rfl, Nat.le_of_ble_eq_true rfl⟩) (fun ν H locs hν hW hz => ?_)
  rw [hν] at hW
  have hW : m_W D cy s b (pre ++ (S_141 P)) (m_us P μ U_28) H _ := hW
  have hz : H.size = b + (P + 81) := hz.trans (congrArg (fun z => b + z) (m_suflen (n := 81) hP rfl))
  refine m_putr hx hb hts hown hW (P + 0) 8 (P + 76) (m_suf hP rfl) rfl cw_11 tyX11_ok nmX11 rfl (by decide) k_X11_66 ⟨rfl, hnm, rfl⟩ rfl rfl (lay' := pre ++ (S_142 P)) (m_sufset hP rfl) dX11_init_106 (fun H locs hW hz1 => ?_)
  have hz := hz1.trans hz
  have hW : m_W D cy s b (pre ++ (S_142 P)) (m_us P μ U_28) H _ := hW
  refine lv_aload_n hx hb dX11_init_109 rfl (lv_at hl 0 rfl) ?_
  refine lv_iconst (v := 0) hx hb dX11_init_110 (by decide) ?_
  refine m_puti hx hb hts hown hW (P + 0) 9 (m_suf hP rfl) rfl cw_11 tyX11_ok nmX11 rfl (by decide) k_X11_70 rfl rfl rfl dX11_init_111 (fun H locs hW hz1 => ?_)
  have hz := hz1.trans hz
  rw [m_si_same (m_us_0 hμ U_28 0 9 rfl)] at hW
  refine lv_aload_n hx hb dX11_init_114 rfl (lv_at hl 0 rfl) ?_
  refine lv_iconst (v := (-1)) hx hb dX11_init_115 (by decide) ?_
  refine m_puti hx hb hts hown hW (P + 0) 10 (m_suf hP rfl) rfl cw_11 tyX11_ok nmX11 rfl (by decide) k_X11_74 rfl rfl rfl dX11_init_116 (fun H locs hW hz1 => ?_)
  have hz := hz1.trans hz
  rw [m_us_snoc] at hW
  have hW : m_W D cy s b (pre ++ (S_142 P)) (m_us P μ U_29) H _ := hW
  refine W.widen (k := 80) (n := 14956) (Nat.le_of_ble_eq_true rfl) (Nat.le_of_ble_eq_true rfl) ?_
  subst h1
  exact m_zret hx hb hr hlocks hW (hz.trans (congrArg (fun z => b + z) (m_suflen (n := 81) hP rfl).symm)) rfl dX11_init_119
end
