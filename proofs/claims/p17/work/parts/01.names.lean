-- ===== PART A: goes FIRST, ahead of the names: the tables' words, and 'selects' of the private methods out of them =====
/-- a private method of a class that the tables say can be made, by its rows of tables_1 -/
def lw_okq (q : MethodName × Nat) : Prop := (q.1.cls ≠ "java/lang/invoke/MethodHandle" ∧ q.1.cls ≠ "java/lang/invoke/VarHandle") ∧ Cond.instantiable q.1.cls q.2 ∈ tables_1 ∧ Cond.privateMethod q.1 ∈ tables_1 ∧ Cond.instanceMethod q.1 ∈ tables_1
theorem lw_p0 : lw_okq (⟨"BeamPlate$Tokens", "takeWord", "(LBeamPlate$Row;I)I"⟩, 3) := ⟨⟨by decide +kernel, by decide +kernel⟩, List.mem_of_getElem? (i := 105) (by decide +kernel), List.mem_of_getElem? (i := 507) (by decide +kernel), List.mem_of_getElem? (i := 508) (by decide +kernel)⟩
theorem lw_p1 : lw_okq (⟨"BeamPlate$Tokens", "keep", "(III)V"⟩, 3) := ⟨⟨by decide +kernel, by decide +kernel⟩, List.mem_of_getElem? (i := 105) (by decide +kernel), List.mem_of_getElem? (i := 567) (by decide +kernel), List.mem_of_getElem? (i := 568) (by decide +kernel)⟩
theorem lw_p2 : lw_okq (⟨"BeamPlate$Tokens", "takeNumber", "(LBeamPlate$Row;I)I"⟩, 3) := ⟨⟨by decide +kernel, by decide +kernel⟩, List.mem_of_getElem? (i := 105) (by decide +kernel), List.mem_of_getElem? (i := 575) (by decide +kernel), List.mem_of_getElem? (i := 576) (by decide +kernel)⟩
theorem lw_p3 : lw_okq (⟨"BeamPlate$Reader", "readStep", "()V"⟩, 8) := ⟨⟨by decide +kernel, by decide +kernel⟩, List.mem_of_getElem? (i := 97) (by decide +kernel), List.mem_of_getElem? (i := 587) (by decide +kernel), List.mem_of_getElem? (i := 588) (by decide +kernel)⟩
theorem lw_p4 : lw_okq (⟨"BeamPlate$Reader", "fail", "(I)V"⟩, 8) := ⟨⟨by decide +kernel, by decide +kernel⟩, List.mem_of_getElem? (i := 97) (by decide +kernel), List.mem_of_getElem? (i := 591) (by decide +kernel), List.mem_of_getElem? (i := 592) (by decide +kernel)⟩
theorem lw_p5 : lw_okq (⟨"BeamPlate$Reader", "advance", "()V"⟩, 8) := ⟨⟨by decide +kernel, by decide +kernel⟩, List.mem_of_getElem? (i := 97) (by decide +kernel), List.mem_of_getElem? (i := 596) (by decide +kernel), List.mem_of_getElem? (i := 597) (by decide +kernel)⟩
theorem lw_p6 : lw_okq (⟨"BeamPlate$Reader", "readNumber", "(II)V"⟩, 8) := ⟨⟨by decide +kernel, by decide +kernel⟩, List.mem_of_getElem? (i := 97) (by decide +kernel), List.mem_of_getElem? (i := 600) (by decide +kernel), List.mem_of_getElem? (i := 601) (by decide +kernel)⟩
theorem lw_p7 : lw_okq (⟨"BeamPlate$Reader", "readSide", "()V"⟩, 8) := ⟨⟨by decide +kernel, by decide +kernel⟩, List.mem_of_getElem? (i := 97) (by decide +kernel), List.mem_of_getElem? (i := 604) (by decide +kernel), List.mem_of_getElem? (i := 605) (by decide +kernel)⟩
theorem lw_p8 : lw_okq (⟨"BeamPlate$Reader", "openAgain", "()V"⟩, 8) := ⟨⟨by decide +kernel, by decide +kernel⟩, List.mem_of_getElem? (i := 97) (by decide +kernel), List.mem_of_getElem? (i := 608) (by decide +kernel), List.mem_of_getElem? (i := 609) (by decide +kernel)⟩
theorem lw_p9 : lw_okq (⟨"BeamPlate$Reader", "expect", "(I)V"⟩, 8) := ⟨⟨by decide +kernel, by decide +kernel⟩, List.mem_of_getElem? (i := 97) (by decide +kernel), List.mem_of_getElem? (i := 612) (by decide +kernel), List.mem_of_getElem? (i := 613) (by decide +kernel)⟩
theorem lw_p10 : lw_okq (⟨"BeamPlate$Reader", "openIf", "()V"⟩, 8) := ⟨⟨by decide +kernel, by decide +kernel⟩, List.mem_of_getElem? (i := 97) (by decide +kernel), List.mem_of_getElem? (i := 616) (by decide +kernel), List.mem_of_getElem? (i := 617) (by decide +kernel)⟩
theorem lw_p11 : lw_okq (⟨"BeamPlate$Reader", "readSum", "()I"⟩, 8) := ⟨⟨by decide +kernel, by decide +kernel⟩, List.mem_of_getElem? (i := 97) (by decide +kernel), List.mem_of_getElem? (i := 620) (by decide +kernel), List.mem_of_getElem? (i := 621) (by decide +kernel)⟩
theorem lw_p12 : lw_okq (⟨"BeamPlate$Reader", "readTerm", "(Z)V"⟩, 8) := ⟨⟨by decide +kernel, by decide +kernel⟩, List.mem_of_getElem? (i := 97) (by decide +kernel), List.mem_of_getElem? (i := 624) (by decide +kernel), List.mem_of_getElem? (i := 625) (by decide +kernel)⟩
theorem lw_p13 : lw_okq (⟨"BeamPlate$Reader", "closeStep", "()V"⟩, 8) := ⟨⟨by decide +kernel, by decide +kernel⟩, List.mem_of_getElem? (i := 97) (by decide +kernel), List.mem_of_getElem? (i := 632) (by decide +kernel), List.mem_of_getElem? (i := 633) (by decide +kernel)⟩
theorem lw_p14 : lw_okq (⟨"BeamPlate$Reader", "innermost", "()I"⟩, 8) := ⟨⟨by decide +kernel, by decide +kernel⟩, List.mem_of_getElem? (i := 97) (by decide +kernel), List.mem_of_getElem? (i := 636) (by decide +kernel), List.mem_of_getElem? (i := 637) (by decide +kernel)⟩
theorem lw_p15 : lw_okq (⟨"BeamPlate$Reader", "dropInnermost", "()V"⟩, 8) := ⟨⟨by decide +kernel, by decide +kernel⟩, List.mem_of_getElem? (i := 97) (by decide +kernel), List.mem_of_getElem? (i := 640) (by decide +kernel), List.mem_of_getElem? (i := 641) (by decide +kernel)⟩
def lw_privs_1 : List (MethodName × Nat) := [(⟨"BeamPlate$Tokens", "takeWord", "(LBeamPlate$Row;I)I"⟩, 3), (⟨"BeamPlate$Tokens", "keep", "(III)V"⟩, 3), (⟨"BeamPlate$Tokens", "takeNumber", "(LBeamPlate$Row;I)I"⟩, 3), (⟨"BeamPlate$Reader", "readStep", "()V"⟩, 8), (⟨"BeamPlate$Reader", "fail", "(I)V"⟩, 8), (⟨"BeamPlate$Reader", "advance", "()V"⟩, 8), (⟨"BeamPlate$Reader", "readNumber", "(II)V"⟩, 8), (⟨"BeamPlate$Reader", "readSide", "()V"⟩, 8), (⟨"BeamPlate$Reader", "openAgain", "()V"⟩, 8), (⟨"BeamPlate$Reader", "expect", "(I)V"⟩, 8), (⟨"BeamPlate$Reader", "openIf", "()V"⟩, 8), (⟨"BeamPlate$Reader", "readSum", "()I"⟩, 8), (⟨"BeamPlate$Reader", "readTerm", "(Z)V"⟩, 8), (⟨"BeamPlate$Reader", "closeStep", "()V"⟩, 8), (⟨"BeamPlate$Reader", "innermost", "()I"⟩, 8), (⟨"BeamPlate$Reader", "dropInnermost", "()V"⟩, 8)]
theorem lw_r1 : ∀ q ∈ lw_privs_1, lw_okq q := List.forall_mem_cons.mpr ⟨lw_p0, List.forall_mem_cons.mpr ⟨lw_p1, List.forall_mem_cons.mpr ⟨lw_p2, List.forall_mem_cons.mpr ⟨lw_p3, List.forall_mem_cons.mpr ⟨lw_p4, List.forall_mem_cons.mpr ⟨lw_p5, List.forall_mem_cons.mpr ⟨lw_p6, List.forall_mem_cons.mpr ⟨lw_p7, List.forall_mem_cons.mpr ⟨lw_p8, List.forall_mem_cons.mpr ⟨lw_p9, List.forall_mem_cons.mpr ⟨lw_p10, List.forall_mem_cons.mpr ⟨lw_p11, List.forall_mem_cons.mpr ⟨lw_p12, List.forall_mem_cons.mpr ⟨lw_p13, List.forall_mem_cons.mpr ⟨lw_p14, List.forall_mem_cons.mpr ⟨lw_p15, fun _ h => absurd h List.not_mem_nil⟩⟩⟩⟩⟩⟩⟩⟩⟩⟩⟩⟩⟩⟩⟩⟩
theorem lw_p16 : lw_okq (⟨"BeamPlate$Reader", "closeAgain", "()V"⟩, 8) := ⟨⟨by decide +kernel, by decide +kernel⟩, List.mem_of_getElem? (i := 97) (by decide +kernel), List.mem_of_getElem? (i := 645) (by decide +kernel), List.mem_of_getElem? (i := 646) (by decide +kernel)⟩
theorem lw_p17 : lw_okq (⟨"BeamPlate$Runner", "travel", "(LBeamPlate$Plate;LBeamPlate$Works;II)V"⟩, 3) := ⟨⟨by decide +kernel, by decide +kernel⟩, List.mem_of_getElem? (i := 298) (by decide +kernel), List.mem_of_getElem? (i := 692) (by decide +kernel), List.mem_of_getElem? (i := 693) (by decide +kernel)⟩
theorem lw_p18 : lw_okq (⟨"BeamPlate$Plate", "giveHeat", "(I)V"⟩, 18) := ⟨⟨by decide +kernel, by decide +kernel⟩, List.mem_of_getElem? (i := 154) (by decide +kernel), List.mem_of_getElem? (i := 707) (by decide +kernel), List.mem_of_getElem? (i := 708) (by decide +kernel)⟩
theorem lw_p19 : lw_okq (⟨"BeamPlate$Plate", "leadHeat", "(I)V"⟩, 18) := ⟨⟨by decide +kernel, by decide +kernel⟩, List.mem_of_getElem? (i := 154) (by decide +kernel), List.mem_of_getElem? (i := 717) (by decide +kernel), List.mem_of_getElem? (i := 718) (by decide +kernel)⟩
theorem lw_p20 : lw_okq (⟨"BeamPlate$Plate", "leadBetween", "(III)V"⟩, 18) := ⟨⟨by decide +kernel, by decide +kernel⟩, List.mem_of_getElem? (i := 154) (by decide +kernel), List.mem_of_getElem? (i := 721) (by decide +kernel), List.mem_of_getElem? (i := 722) (by decide +kernel)⟩
theorem lw_p21 : lw_okq (⟨"BeamPlate$Plate", "loseHeat", "(I)V"⟩, 18) := ⟨⟨by decide +kernel, by decide +kernel⟩, List.mem_of_getElem? (i := 154) (by decide +kernel), List.mem_of_getElem? (i := 725) (by decide +kernel), List.mem_of_getElem? (i := 726) (by decide +kernel)⟩
theorem lw_p22 : lw_okq (⟨"BeamPlate$Plate", "cutMolten", "(I)Z"⟩, 18) := ⟨⟨by decide +kernel, by decide +kernel⟩, List.mem_of_getElem? (i := 154) (by decide +kernel), List.mem_of_getElem? (i := 729) (by decide +kernel), List.mem_of_getElem? (i := 730) (by decide +kernel)⟩
theorem lw_p23 : lw_okq (⟨"BeamPlate$Plate", "takeAway", "(II)V"⟩, 18) := ⟨⟨by decide +kernel, by decide +kernel⟩, List.mem_of_getElem? (i := 154) (by decide +kernel), List.mem_of_getElem? (i := 733) (by decide +kernel), List.mem_of_getElem? (i := 734) (by decide +kernel)⟩
theorem lw_p24 : lw_okq (⟨"BeamPlate$Plate", "burnHot", "(I)V"⟩, 18) := ⟨⟨by decide +kernel, by decide +kernel⟩, List.mem_of_getElem? (i := 154) (by decide +kernel), List.mem_of_getElem? (i := 737) (by decide +kernel), List.mem_of_getElem? (i := 738) (by decide +kernel)⟩
theorem lw_p25 : lw_okq (⟨"BeamPlate$Plate", "loosenParts", "(LBeamPlate$Works;)V"⟩, 18) := ⟨⟨by decide +kernel, by decide +kernel⟩, List.mem_of_getElem? (i := 154) (by decide +kernel), List.mem_of_getElem? (i := 741) (by decide +kernel), List.mem_of_getElem? (i := 742) (by decide +kernel)⟩
theorem lw_p26 : lw_okq (⟨"BeamPlate$Part", "take", "(LBeamPlate$Plate;I)V"⟩, 5) := ⟨⟨by decide +kernel, by decide +kernel⟩, List.mem_of_getElem? (i := 198) (by decide +kernel), List.mem_of_getElem? (i := 754) (by decide +kernel), List.mem_of_getElem? (i := 755) (by decide +kernel)⟩
theorem lw_p27 : lw_okq (⟨"BeamPlate$Plate", "settlePart", "(LBeamPlate$Works;)V"⟩, 18) := ⟨⟨by decide +kernel, by decide +kernel⟩, List.mem_of_getElem? (i := 154) (by decide +kernel), List.mem_of_getElem? (i := 762) (by decide +kernel), List.mem_of_getElem? (i := 763) (by decide +kernel)⟩
theorem lw_p28 : lw_okq (⟨"BeamPlate$Runner", "stay", "(LBeamPlate$Plate;LBeamPlate$Works;I)V"⟩, 3) := ⟨⟨by decide +kernel, by decide +kernel⟩, List.mem_of_getElem? (i := 298) (by decide +kernel), List.mem_of_getElem? (i := 770) (by decide +kernel), List.mem_of_getElem? (i := 771) (by decide +kernel)⟩
theorem lw_p29 : lw_okq (⟨"BeamPlate$Runner", "setTurns", "(II)V"⟩, 3) := ⟨⟨by decide +kernel, by decide +kernel⟩, List.mem_of_getElem? (i := 298) (by decide +kernel), List.mem_of_getElem? (i := 774) (by decide +kernel), List.mem_of_getElem? (i := 775) (by decide +kernel)⟩
theorem lw_p30 : lw_okq (⟨"BeamPlate$Runner", "turns", "(I)I"⟩, 3) := ⟨⟨by decide +kernel, by decide +kernel⟩, List.mem_of_getElem? (i := 298) (by decide +kernel), List.mem_of_getElem? (i := 779) (by decide +kernel), List.mem_of_getElem? (i := 780) (by decide +kernel)⟩
theorem lw_p31 : lw_okq (⟨"BeamPlate$Runner", "isSo", "(LBeamPlate$Row;ILBeamPlate$Plate;)Z"⟩, 3) := ⟨⟨by decide +kernel, by decide +kernel⟩, List.mem_of_getElem? (i := 298) (by decide +kernel), List.mem_of_getElem? (i := 783) (by decide +kernel), List.mem_of_getElem? (i := 784) (by decide +kernel)⟩
def lw_privs_2 : List (MethodName × Nat) := [(⟨"BeamPlate$Reader", "closeAgain", "()V"⟩, 8), (⟨"BeamPlate$Runner", "travel", "(LBeamPlate$Plate;LBeamPlate$Works;II)V"⟩, 3), (⟨"BeamPlate$Plate", "giveHeat", "(I)V"⟩, 18), (⟨"BeamPlate$Plate", "leadHeat", "(I)V"⟩, 18), (⟨"BeamPlate$Plate", "leadBetween", "(III)V"⟩, 18), (⟨"BeamPlate$Plate", "loseHeat", "(I)V"⟩, 18), (⟨"BeamPlate$Plate", "cutMolten", "(I)Z"⟩, 18), (⟨"BeamPlate$Plate", "takeAway", "(II)V"⟩, 18), (⟨"BeamPlate$Plate", "burnHot", "(I)V"⟩, 18), (⟨"BeamPlate$Plate", "loosenParts", "(LBeamPlate$Works;)V"⟩, 18), (⟨"BeamPlate$Part", "take", "(LBeamPlate$Plate;I)V"⟩, 5), (⟨"BeamPlate$Plate", "settlePart", "(LBeamPlate$Works;)V"⟩, 18), (⟨"BeamPlate$Runner", "stay", "(LBeamPlate$Plate;LBeamPlate$Works;I)V"⟩, 3), (⟨"BeamPlate$Runner", "setTurns", "(II)V"⟩, 3), (⟨"BeamPlate$Runner", "turns", "(I)I"⟩, 3), (⟨"BeamPlate$Runner", "isSo", "(LBeamPlate$Row;ILBeamPlate$Plate;)Z"⟩, 3)]
theorem lw_r2 : ∀ q ∈ lw_privs_2, lw_okq q := List.forall_mem_cons.mpr ⟨lw_p16, List.forall_mem_cons.mpr ⟨lw_p17, List.forall_mem_cons.mpr ⟨lw_p18, List.forall_mem_cons.mpr ⟨lw_p19, List.forall_mem_cons.mpr ⟨lw_p20, List.forall_mem_cons.mpr ⟨lw_p21, List.forall_mem_cons.mpr ⟨lw_p22, List.forall_mem_cons.mpr ⟨lw_p23, List.forall_mem_cons.mpr ⟨lw_p24, List.forall_mem_cons.mpr ⟨lw_p25, List.forall_mem_cons.mpr ⟨lw_p26, List.forall_mem_cons.mpr ⟨lw_p27, List.forall_mem_cons.mpr ⟨lw_p28, List.forall_mem_cons.mpr ⟨lw_p29, List.forall_mem_cons.mpr ⟨lw_p30, List.forall_mem_cons.mpr ⟨lw_p31, fun _ h => absurd h List.not_mem_nil⟩⟩⟩⟩⟩⟩⟩⟩⟩⟩⟩⟩⟩⟩⟩⟩
theorem lw_p32 : lw_okq (⟨"BeamPlate$Runner", "sum", "(LBeamPlate$Row;IILBeamPlate$Plate;)J"⟩, 3) := ⟨⟨by decide +kernel, by decide +kernel⟩, List.mem_of_getElem? (i := 298) (by decide +kernel), List.mem_of_getElem? (i := 787) (by decide +kernel), List.mem_of_getElem? (i := 788) (by decide +kernel)⟩
theorem lw_p33 : lw_okq (⟨"BeamPlate$Runner", "valueOf", "(IILBeamPlate$Plate;)I"⟩, 3) := ⟨⟨by decide +kernel, by decide +kernel⟩, List.mem_of_getElem? (i := 298) (by decide +kernel), List.mem_of_getElem? (i := 794) (by decide +kernel), List.mem_of_getElem? (i := 795) (by decide +kernel)⟩
theorem lw_p34 : lw_okq (⟨"BeamPlate$Plate", "spreadCosts", "()Z"⟩, 18) := ⟨⟨by decide +kernel, by decide +kernel⟩, List.mem_of_getElem? (i := 154) (by decide +kernel), List.mem_of_getElem? (i := 823) (by decide +kernel), List.mem_of_getElem? (i := 824) (by decide +kernel)⟩
theorem lw_p35 : lw_okq (⟨"BeamPlate$Plate", "costAt", "(II)I"⟩, 18) := ⟨⟨by decide +kernel, by decide +kernel⟩, List.mem_of_getElem? (i := 154) (by decide +kernel), List.mem_of_getElem? (i := 829) (by decide +kernel), List.mem_of_getElem? (i := 830) (by decide +kernel)⟩
theorem lw_p36 : lw_okq (⟨"BeamPlate$Trials", "choose", "(I)I"⟩, 7) := ⟨⟨by decide +kernel, by decide +kernel⟩, List.mem_of_getElem? (i := 314) (by decide +kernel), List.mem_of_getElem? (i := 877) (by decide +kernel), List.mem_of_getElem? (i := 878) (by decide +kernel)⟩
theorem lw_p37 : lw_okq (⟨"BeamPlate$Trials", "keepIfBetter", "(III)V"⟩, 7) := ⟨⟨by decide +kernel, by decide +kernel⟩, List.mem_of_getElem? (i := 314) (by decide +kernel), List.mem_of_getElem? (i := 898) (by decide +kernel), List.mem_of_getElem? (i := 899) (by decide +kernel)⟩
theorem lw_p38 : lw_okq (⟨"BeamPlate$Trials", "noneIsThereBehind", "(II)Z"⟩, 7) := ⟨⟨by decide +kernel, by decide +kernel⟩, List.mem_of_getElem? (i := 314) (by decide +kernel), List.mem_of_getElem? (i := 914) (by decide +kernel), List.mem_of_getElem? (i := 915) (by decide +kernel)⟩
theorem lw_p39 : lw_okq (⟨"BeamPlate$Filling", "fillAll", "()V"⟩, 5) := ⟨⟨by decide +kernel, by decide +kernel⟩, List.mem_of_getElem? (i := 351) (by decide +kernel), List.mem_of_getElem? (i := 929) (by decide +kernel), List.mem_of_getElem? (i := 930) (by decide +kernel)⟩
theorem lw_p40 : lw_okq (⟨"BeamPlate$Filling", "bestKind", "(II)I"⟩, 5) := ⟨⟨by decide +kernel, by decide +kernel⟩, List.mem_of_getElem? (i := 351) (by decide +kernel), List.mem_of_getElem? (i := 933) (by decide +kernel), List.mem_of_getElem? (i := 934) (by decide +kernel)⟩
theorem lw_p41 : lw_okq (⟨"BeamPlate$Filling", "bestCut", "(II)I"⟩, 5) := ⟨⟨by decide +kernel, by decide +kernel⟩, List.mem_of_getElem? (i := 351) (by decide +kernel), List.mem_of_getElem? (i := 938) (by decide +kernel), List.mem_of_getElem? (i := 939) (by decide +kernel)⟩
theorem lw_p42 : lw_okq (⟨"BeamPlateModel", "isIn", "(III)Z"⟩, 74) := ⟨⟨by decide +kernel, by decide +kernel⟩, List.mem_of_getElem? (i := 985) (by decide +kernel), List.mem_of_getElem? (i := 1219) (by decide +kernel), List.mem_of_getElem? (i := 1220) (by decide +kernel)⟩
theorem lw_p43 : lw_okq (⟨"BeamPlateModel", "puts", "(I)V"⟩, 74) := ⟨⟨by decide +kernel, by decide +kernel⟩, List.mem_of_getElem? (i := 985) (by decide +kernel), List.mem_of_getElem? (i := 1239) (by decide +kernel), List.mem_of_getElem? (i := 1240) (by decide +kernel)⟩
theorem lw_p44 : lw_okq (⟨"BeamPlateModel", "readAll", "()I"⟩, 74) := ⟨⟨by decide +kernel, by decide +kernel⟩, List.mem_of_getElem? (i := 985) (by decide +kernel), List.mem_of_getElem? (i := 1251) (by decide +kernel), List.mem_of_getElem? (i := 1252) (by decide +kernel)⟩
theorem lw_p45 : lw_okq (⟨"BeamPlateModel", "reads", "()V"⟩, 74) := ⟨⟨by decide +kernel, by decide +kernel⟩, List.mem_of_getElem? (i := 985) (by decide +kernel), List.mem_of_getElem? (i := 1255) (by decide +kernel), List.mem_of_getElem? (i := 1256) (by decide +kernel)⟩
theorem lw_p46 : lw_okq (⟨"BeamPlateModel", "raw", "(I)I"⟩, 74) := ⟨⟨by decide +kernel, by decide +kernel⟩, List.mem_of_getElem? (i := 985) (by decide +kernel), List.mem_of_getElem? (i := 1259) (by decide +kernel), List.mem_of_getElem? (i := 1260) (by decide +kernel)⟩
theorem lw_p47 : lw_okq (⟨"BeamPlateModel", "isLetter", "(I)Z"⟩, 74) := ⟨⟨by decide +kernel, by decide +kernel⟩, List.mem_of_getElem? (i := 985) (by decide +kernel), List.mem_of_getElem? (i := 1263) (by decide +kernel), List.mem_of_getElem? (i := 1264) (by decide +kernel)⟩
def lw_privs_3 : List (MethodName × Nat) := [(⟨"BeamPlate$Runner", "sum", "(LBeamPlate$Row;IILBeamPlate$Plate;)J"⟩, 3), (⟨"BeamPlate$Runner", "valueOf", "(IILBeamPlate$Plate;)I"⟩, 3), (⟨"BeamPlate$Plate", "spreadCosts", "()Z"⟩, 18), (⟨"BeamPlate$Plate", "costAt", "(II)I"⟩, 18), (⟨"BeamPlate$Trials", "choose", "(I)I"⟩, 7), (⟨"BeamPlate$Trials", "keepIfBetter", "(III)V"⟩, 7), (⟨"BeamPlate$Trials", "noneIsThereBehind", "(II)Z"⟩, 7), (⟨"BeamPlate$Filling", "fillAll", "()V"⟩, 5), (⟨"BeamPlate$Filling", "bestKind", "(II)I"⟩, 5), (⟨"BeamPlate$Filling", "bestCut", "(II)I"⟩, 5), (⟨"BeamPlateModel", "isIn", "(III)Z"⟩, 74), (⟨"BeamPlateModel", "puts", "(I)V"⟩, 74), (⟨"BeamPlateModel", "readAll", "()I"⟩, 74), (⟨"BeamPlateModel", "reads", "()V"⟩, 74), (⟨"BeamPlateModel", "raw", "(I)I"⟩, 74), (⟨"BeamPlateModel", "isLetter", "(I)Z"⟩, 74)]
theorem lw_r3 : ∀ q ∈ lw_privs_3, lw_okq q := List.forall_mem_cons.mpr ⟨lw_p32, List.forall_mem_cons.mpr ⟨lw_p33, List.forall_mem_cons.mpr ⟨lw_p34, List.forall_mem_cons.mpr ⟨lw_p35, List.forall_mem_cons.mpr ⟨lw_p36, List.forall_mem_cons.mpr ⟨lw_p37, List.forall_mem_cons.mpr ⟨lw_p38, List.forall_mem_cons.mpr ⟨lw_p39, List.forall_mem_cons.mpr ⟨lw_p40, List.forall_mem_cons.mpr ⟨lw_p41, List.forall_mem_cons.mpr ⟨lw_p42, List.forall_mem_cons.mpr ⟨lw_p43, List.forall_mem_cons.mpr ⟨lw_p44, List.forall_mem_cons.mpr ⟨lw_p45, List.forall_mem_cons.mpr ⟨lw_p46, List.forall_mem_cons.mpr ⟨lw_p47, fun _ h => absurd h List.not_mem_nil⟩⟩⟩⟩⟩⟩⟩⟩⟩⟩⟩⟩⟩⟩⟩⟩
theorem lw_p48 : lw_okq (⟨"BeamPlateModel", "wordAt", "(II)I"⟩, 74) := ⟨⟨by decide +kernel, by decide +kernel⟩, List.mem_of_getElem? (i := 985) (by decide +kernel), List.mem_of_getElem? (i := 1267) (by decide +kernel), List.mem_of_getElem? (i := 1268) (by decide +kernel)⟩
theorem lw_p49 : lw_okq (⟨"BeamPlateModel", "isDigit", "(I)Z"⟩, 74) := ⟨⟨by decide +kernel, by decide +kernel⟩, List.mem_of_getElem? (i := 985) (by decide +kernel), List.mem_of_getElem? (i := 1271) (by decide +kernel), List.mem_of_getElem? (i := 1272) (by decide +kernel)⟩
theorem lw_p50 : lw_okq (⟨"BeamPlateModel", "isMarkSign", "(I)Z"⟩, 74) := ⟨⟨by decide +kernel, by decide +kernel⟩, List.mem_of_getElem? (i := 985) (by decide +kernel), List.mem_of_getElem? (i := 1275) (by decide +kernel), List.mem_of_getElem? (i := 1276) (by decide +kernel)⟩
theorem lw_p51 : lw_okq (⟨"BeamPlateModel", "isWord", "(I)Z"⟩, 74) := ⟨⟨by decide +kernel, by decide +kernel⟩, List.mem_of_getElem? (i := 985) (by decide +kernel), List.mem_of_getElem? (i := 1279) (by decide +kernel), List.mem_of_getElem? (i := 1280) (by decide +kernel)⟩
theorem lw_p52 : lw_okq (⟨"BeamPlateModel", "isInAgain", "()Z"⟩, 74) := ⟨⟨by decide +kernel, by decide +kernel⟩, List.mem_of_getElem? (i := 985) (by decide +kernel), List.mem_of_getElem? (i := 1283) (by decide +kernel), List.mem_of_getElem? (i := 1284) (by decide +kernel)⟩
theorem lw_p53 : lw_okq (⟨"BeamPlateModel", "closes", "()V"⟩, 74) := ⟨⟨by decide +kernel, by decide +kernel⟩, List.mem_of_getElem? (i := 985) (by decide +kernel), List.mem_of_getElem? (i := 1287) (by decide +kernel), List.mem_of_getElem? (i := 1288) (by decide +kernel)⟩
theorem lw_p54 : lw_okq (⟨"BeamPlateModel", "emits", "(III)V"⟩, 74) := ⟨⟨by decide +kernel, by decide +kernel⟩, List.mem_of_getElem? (i := 985) (by decide +kernel), List.mem_of_getElem? (i := 1291) (by decide +kernel), List.mem_of_getElem? (i := 1292) (by decide +kernel)⟩
theorem lw_p55 : lw_okq (⟨"BeamPlateModel", "ends", "()I"⟩, 74) := ⟨⟨by decide +kernel, by decide +kernel⟩, List.mem_of_getElem? (i := 985) (by decide +kernel), List.mem_of_getElem? (i := 1295) (by decide +kernel), List.mem_of_getElem? (i := 1296) (by decide +kernel)⟩
theorem lw_p56 : lw_okq (⟨"BeamPlateModel", "isSign", "(I)Z"⟩, 74) := ⟨⟨by decide +kernel, by decide +kernel⟩, List.mem_of_getElem? (i := 985) (by decide +kernel), List.mem_of_getElem? (i := 1299) (by decide +kernel), List.mem_of_getElem? (i := 1300) (by decide +kernel)⟩
theorem lw_p57 : lw_okq (⟨"BeamPlateModel", "fails", "(I)I"⟩, 74) := ⟨⟨by decide +kernel, by decide +kernel⟩, List.mem_of_getElem? (i := 985) (by decide +kernel), List.mem_of_getElem? (i := 1303) (by decide +kernel), List.mem_of_getElem? (i := 1304) (by decide +kernel)⟩
theorem lw_p58 : lw_okq (⟨"BeamPlateModel", "readIf", "()I"⟩, 74) := ⟨⟨by decide +kernel, by decide +kernel⟩, List.mem_of_getElem? (i := 985) (by decide +kernel), List.mem_of_getElem? (i := 1307) (by decide +kernel), List.mem_of_getElem? (i := 1308) (by decide +kernel)⟩
theorem lw_p59 : lw_okq (⟨"BeamPlateModel", "readSum", "()I"⟩, 74) := ⟨⟨by decide +kernel, by decide +kernel⟩, List.mem_of_getElem? (i := 985) (by decide +kernel), List.mem_of_getElem? (i := 1311) (by decide +kernel), List.mem_of_getElem? (i := 1312) (by decide +kernel)⟩
theorem lw_p60 : lw_okq (⟨"BeamPlateModel", "readUnit", "(I)I"⟩, 74) := ⟨⟨by decide +kernel, by decide +kernel⟩, List.mem_of_getElem? (i := 985) (by decide +kernel), List.mem_of_getElem? (i := 1315) (by decide +kernel), List.mem_of_getElem? (i := 1316) (by decide +kernel)⟩
theorem lw_p61 : lw_okq (⟨"BeamPlateModel", "readAgain", "()I"⟩, 74) := ⟨⟨by decide +kernel, by decide +kernel⟩, List.mem_of_getElem? (i := 985) (by decide +kernel), List.mem_of_getElem? (i := 1319) (by decide +kernel), List.mem_of_getElem? (i := 1320) (by decide +kernel)⟩
theorem lw_p62 : lw_okq (⟨"BeamPlateModel", "readNumber", "()I"⟩, 74) := ⟨⟨by decide +kernel, by decide +kernel⟩, List.mem_of_getElem? (i := 985) (by decide +kernel), List.mem_of_getElem? (i := 1323) (by decide +kernel), List.mem_of_getElem? (i := 1324) (by decide +kernel)⟩
theorem lw_p63 : lw_okq (⟨"BeamPlateModel", "readPlain", "()I"⟩, 74) := ⟨⟨by decide +kernel, by decide +kernel⟩, List.mem_of_getElem? (i := 985) (by decide +kernel), List.mem_of_getElem? (i := 1327) (by decide +kernel), List.mem_of_getElem? (i := 1328) (by decide +kernel)⟩
def lw_privs_4 : List (MethodName × Nat) := [(⟨"BeamPlateModel", "wordAt", "(II)I"⟩, 74), (⟨"BeamPlateModel", "isDigit", "(I)Z"⟩, 74), (⟨"BeamPlateModel", "isMarkSign", "(I)Z"⟩, 74), (⟨"BeamPlateModel", "isWord", "(I)Z"⟩, 74), (⟨"BeamPlateModel", "isInAgain", "()Z"⟩, 74), (⟨"BeamPlateModel", "closes", "()V"⟩, 74), (⟨"BeamPlateModel", "emits", "(III)V"⟩, 74), (⟨"BeamPlateModel", "ends", "()I"⟩, 74), (⟨"BeamPlateModel", "isSign", "(I)Z"⟩, 74), (⟨"BeamPlateModel", "fails", "(I)I"⟩, 74), (⟨"BeamPlateModel", "readIf", "()I"⟩, 74), (⟨"BeamPlateModel", "readSum", "()I"⟩, 74), (⟨"BeamPlateModel", "readUnit", "(I)I"⟩, 74), (⟨"BeamPlateModel", "readAgain", "()I"⟩, 74), (⟨"BeamPlateModel", "readNumber", "()I"⟩, 74), (⟨"BeamPlateModel", "readPlain", "()I"⟩, 74)]
theorem lw_r4 : ∀ q ∈ lw_privs_4, lw_okq q := List.forall_mem_cons.mpr ⟨lw_p48, List.forall_mem_cons.mpr ⟨lw_p49, List.forall_mem_cons.mpr ⟨lw_p50, List.forall_mem_cons.mpr ⟨lw_p51, List.forall_mem_cons.mpr ⟨lw_p52, List.forall_mem_cons.mpr ⟨lw_p53, List.forall_mem_cons.mpr ⟨lw_p54, List.forall_mem_cons.mpr ⟨lw_p55, List.forall_mem_cons.mpr ⟨lw_p56, List.forall_mem_cons.mpr ⟨lw_p57, List.forall_mem_cons.mpr ⟨lw_p58, List.forall_mem_cons.mpr ⟨lw_p59, List.forall_mem_cons.mpr ⟨lw_p60, List.forall_mem_cons.mpr ⟨lw_p61, List.forall_mem_cons.mpr ⟨lw_p62, List.forall_mem_cons.mpr ⟨lw_p63, fun _ h => absurd h List.not_mem_nil⟩⟩⟩⟩⟩⟩⟩⟩⟩⟩⟩⟩⟩⟩⟩⟩
theorem lw_p64 : lw_okq (⟨"BeamPlateModel", "runs", "(II)V"⟩, 74) := ⟨⟨by decide +kernel, by decide +kernel⟩, List.mem_of_getElem? (i := 985) (by decide +kernel), List.mem_of_getElem? (i := 1339) (by decide +kernel), List.mem_of_getElem? (i := 1340) (by decide +kernel)⟩
theorem lw_p65 : lw_okq (⟨"BeamPlateModel", "pays", "()Z"⟩, 74) := ⟨⟨by decide +kernel, by decide +kernel⟩, List.mem_of_getElem? (i := 985) (by decide +kernel), List.mem_of_getElem? (i := 1343) (by decide +kernel), List.mem_of_getElem? (i := 1344) (by decide +kernel)⟩
theorem lw_p66 : lw_okq (⟨"BeamPlateModel", "isSo", "(III)Z"⟩, 74) := ⟨⟨by decide +kernel, by decide +kernel⟩, List.mem_of_getElem? (i := 985) (by decide +kernel), List.mem_of_getElem? (i := 1347) (by decide +kernel), List.mem_of_getElem? (i := 1348) (by decide +kernel)⟩
theorem lw_p67 : lw_okq (⟨"BeamPlateModel", "sumOf", "(IIII)I"⟩, 74) := ⟨⟨by decide +kernel, by decide +kernel⟩, List.mem_of_getElem? (i := 985) (by decide +kernel), List.mem_of_getElem? (i := 1351) (by decide +kernel), List.mem_of_getElem? (i := 1352) (by decide +kernel)⟩
theorem lw_p68 : lw_okq (⟨"BeamPlateModel", "askedOf", "(II)I"⟩, 74) := ⟨⟨by decide +kernel, by decide +kernel⟩, List.mem_of_getElem? (i := 985) (by decide +kernel), List.mem_of_getElem? (i := 1355) (by decide +kernel), List.mem_of_getElem? (i := 1356) (by decide +kernel)⟩
theorem lw_p69 : lw_okq (⟨"BeamPlateModel", "isThere", "(III)Z"⟩, 74) := ⟨⟨by decide +kernel, by decide +kernel⟩, List.mem_of_getElem? (i := 985) (by decide +kernel), List.mem_of_getElem? (i := 1359) (by decide +kernel), List.mem_of_getElem? (i := 1360) (by decide +kernel)⟩
theorem lw_p70 : lw_okq (⟨"BeamPlateModel", "isOnPlate", "(II)Z"⟩, 74) := ⟨⟨by decide +kernel, by decide +kernel⟩, List.mem_of_getElem? (i := 985) (by decide +kernel), List.mem_of_getElem? (i := 1363) (by decide +kernel), List.mem_of_getElem? (i := 1364) (by decide +kernel)⟩
theorem lw_p71 : lw_okq (⟨"BeamPlateModel", "doesPlain", "(IIII)V"⟩, 74) := ⟨⟨by decide +kernel, by decide +kernel⟩, List.mem_of_getElem? (i := 985) (by decide +kernel), List.mem_of_getElem? (i := 1367) (by decide +kernel), List.mem_of_getElem? (i := 1368) (by decide +kernel)⟩
theorem lw_p72 : lw_okq (⟨"BeamPlateModel", "comes", "(III)V"⟩, 74) := ⟨⟨by decide +kernel, by decide +kernel⟩, List.mem_of_getElem? (i := 985) (by decide +kernel), List.mem_of_getElem? (i := 1371) (by decide +kernel), List.mem_of_getElem? (i := 1372) (by decide +kernel)⟩
theorem lw_p73 : lw_okq (⟨"BeamPlateModel", "goes", "(III)V"⟩, 74) := ⟨⟨by decide +kernel, by decide +kernel⟩, List.mem_of_getElem? (i := 985) (by decide +kernel), List.mem_of_getElem? (i := 1375) (by decide +kernel), List.mem_of_getElem? (i := 1376) (by decide +kernel)⟩
theorem lw_p74 : lw_okq (⟨"BeamPlateModel", "stepX", "(I)I"⟩, 74) := ⟨⟨by decide +kernel, by decide +kernel⟩, List.mem_of_getElem? (i := 985) (by decide +kernel), List.mem_of_getElem? (i := 1379) (by decide +kernel), List.mem_of_getElem? (i := 1380) (by decide +kernel)⟩
theorem lw_p75 : lw_okq (⟨"BeamPlateModel", "stepY", "(I)I"⟩, 74) := ⟨⟨by decide +kernel, by decide +kernel⟩, List.mem_of_getElem? (i := 985) (by decide +kernel), List.mem_of_getElem? (i := 1383) (by decide +kernel), List.mem_of_getElem? (i := 1384) (by decide +kernel)⟩
theorem lw_p76 : lw_okq (⟨"BeamPlateModel", "waits", "(II)V"⟩, 74) := ⟨⟨by decide +kernel, by decide +kernel⟩, List.mem_of_getElem? (i := 985) (by decide +kernel), List.mem_of_getElem? (i := 1387) (by decide +kernel), List.mem_of_getElem? (i := 1388) (by decide +kernel)⟩
theorem lw_p77 : lw_okq (⟨"BeamPlateModel", "ticksOnce", "(I)V"⟩, 74) := ⟨⟨by decide +kernel, by decide +kernel⟩, List.mem_of_getElem? (i := 985) (by decide +kernel), List.mem_of_getElem? (i := 1391) (by decide +kernel), List.mem_of_getElem? (i := 1392) (by decide +kernel)⟩
theorem lw_p78 : lw_okq (⟨"BeamPlateModel", "gives", "(I)V"⟩, 74) := ⟨⟨by decide +kernel, by decide +kernel⟩, List.mem_of_getElem? (i := 985) (by decide +kernel), List.mem_of_getElem? (i := 1395) (by decide +kernel), List.mem_of_getElem? (i := 1396) (by decide +kernel)⟩
theorem lw_p79 : lw_okq (⟨"BeamPlateModel", "leads", "(I)V"⟩, 74) := ⟨⟨by decide +kernel, by decide +kernel⟩, List.mem_of_getElem? (i := 985) (by decide +kernel), List.mem_of_getElem? (i := 1400) (by decide +kernel), List.mem_of_getElem? (i := 1401) (by decide +kernel)⟩
def lw_privs_5 : List (MethodName × Nat) := [(⟨"BeamPlateModel", "runs", "(II)V"⟩, 74), (⟨"BeamPlateModel", "pays", "()Z"⟩, 74), (⟨"BeamPlateModel", "isSo", "(III)Z"⟩, 74), (⟨"BeamPlateModel", "sumOf", "(IIII)I"⟩, 74), (⟨"BeamPlateModel", "askedOf", "(II)I"⟩, 74), (⟨"BeamPlateModel", "isThere", "(III)Z"⟩, 74), (⟨"BeamPlateModel", "isOnPlate", "(II)Z"⟩, 74), (⟨"BeamPlateModel", "doesPlain", "(IIII)V"⟩, 74), (⟨"BeamPlateModel", "comes", "(III)V"⟩, 74), (⟨"BeamPlateModel", "goes", "(III)V"⟩, 74), (⟨"BeamPlateModel", "stepX", "(I)I"⟩, 74), (⟨"BeamPlateModel", "stepY", "(I)I"⟩, 74), (⟨"BeamPlateModel", "waits", "(II)V"⟩, 74), (⟨"BeamPlateModel", "ticksOnce", "(I)V"⟩, 74), (⟨"BeamPlateModel", "gives", "(I)V"⟩, 74), (⟨"BeamPlateModel", "leads", "(I)V"⟩, 74)]
theorem lw_r5 : ∀ q ∈ lw_privs_5, lw_okq q := List.forall_mem_cons.mpr ⟨lw_p64, List.forall_mem_cons.mpr ⟨lw_p65, List.forall_mem_cons.mpr ⟨lw_p66, List.forall_mem_cons.mpr ⟨lw_p67, List.forall_mem_cons.mpr ⟨lw_p68, List.forall_mem_cons.mpr ⟨lw_p69, List.forall_mem_cons.mpr ⟨lw_p70, List.forall_mem_cons.mpr ⟨lw_p71, List.forall_mem_cons.mpr ⟨lw_p72, List.forall_mem_cons.mpr ⟨lw_p73, List.forall_mem_cons.mpr ⟨lw_p74, List.forall_mem_cons.mpr ⟨lw_p75, List.forall_mem_cons.mpr ⟨lw_p76, List.forall_mem_cons.mpr ⟨lw_p77, List.forall_mem_cons.mpr ⟨lw_p78, List.forall_mem_cons.mpr ⟨lw_p79, fun _ h => absurd h List.not_mem_nil⟩⟩⟩⟩⟩⟩⟩⟩⟩⟩⟩⟩⟩⟩⟩⟩
theorem lw_p80 : lw_okq (⟨"BeamPlateModel", "flowFrom", "(IIII)I"⟩, 74) := ⟨⟨by decide +kernel, by decide +kernel⟩, List.mem_of_getElem? (i := 985) (by decide +kernel), List.mem_of_getElem? (i := 1404) (by decide +kernel), List.mem_of_getElem? (i := 1405) (by decide +kernel)⟩
theorem lw_p81 : lw_okq (⟨"BeamPlateModel", "cuts", "(I)Z"⟩, 74) := ⟨⟨by decide +kernel, by decide +kernel⟩, List.mem_of_getElem? (i := 985) (by decide +kernel), List.mem_of_getElem? (i := 1408) (by decide +kernel), List.mem_of_getElem? (i := 1409) (by decide +kernel)⟩
theorem lw_p82 : lw_okq (⟨"BeamPlateModel", "goesAway", "(III)V"⟩, 74) := ⟨⟨by decide +kernel, by decide +kernel⟩, List.mem_of_getElem? (i := 985) (by decide +kernel), List.mem_of_getElem? (i := 1412) (by decide +kernel), List.mem_of_getElem? (i := 1413) (by decide +kernel)⟩
theorem lw_p83 : lw_okq (⟨"BeamPlateModel", "loosens", "(I)V"⟩, 74) := ⟨⟨by decide +kernel, by decide +kernel⟩, List.mem_of_getElem? (i := 985) (by decide +kernel), List.mem_of_getElem? (i := 1416) (by decide +kernel), List.mem_of_getElem? (i := 1417) (by decide +kernel)⟩
theorem lw_p84 : lw_okq (⟨"BeamPlateModel", "findsParts", "(I)V"⟩, 74) := ⟨⟨by decide +kernel, by decide +kernel⟩, List.mem_of_getElem? (i := 985) (by decide +kernel), List.mem_of_getElem? (i := 1420) (by decide +kernel), List.mem_of_getElem? (i := 1421) (by decide +kernel)⟩
theorem lw_p85 : lw_okq (⟨"BeamPlateModel", "spreads", "(II)V"⟩, 74) := ⟨⟨by decide +kernel, by decide +kernel⟩, List.mem_of_getElem? (i := 985) (by decide +kernel), List.mem_of_getElem? (i := 1424) (by decide +kernel), List.mem_of_getElem? (i := 1425) (by decide +kernel)⟩
theorem lw_p86 : lw_okq (⟨"BeamPlateModel", "lying", "(I)I"⟩, 74) := ⟨⟨by decide +kernel, by decide +kernel⟩, List.mem_of_getElem? (i := 985) (by decide +kernel), List.mem_of_getElem? (i := 1428) (by decide +kernel), List.mem_of_getElem? (i := 1429) (by decide +kernel)⟩
theorem lw_p87 : lw_okq (⟨"BeamPlateModel", "bridgeOf", "(II)I"⟩, 74) := ⟨⟨by decide +kernel, by decide +kernel⟩, List.mem_of_getElem? (i := 985) (by decide +kernel), List.mem_of_getElem? (i := 1436) (by decide +kernel), List.mem_of_getElem? (i := 1437) (by decide +kernel)⟩
theorem lw_p88 : lw_okq (⟨"BeamPlateModel", "cellsAs", "(II)I"⟩, 74) := ⟨⟨by decide +kernel, by decide +kernel⟩, List.mem_of_getElem? (i := 985) (by decide +kernel), List.mem_of_getElem? (i := 1444) (by decide +kernel), List.mem_of_getElem? (i := 1445) (by decide +kernel)⟩
theorem lw_p89 : lw_okq (⟨"BeamPlateModel", "ones", "(I)I"⟩, 74) := ⟨⟨by decide +kernel, by decide +kernel⟩, List.mem_of_getElem? (i := 985) (by decide +kernel), List.mem_of_getElem? (i := 1457) (by decide +kernel), List.mem_of_getElem? (i := 1458) (by decide +kernel)⟩
theorem lw_p90 : lw_okq (⟨"BeamPlateModel", "isOrder", "(III)Z"⟩, 74) := ⟨⟨by decide +kernel, by decide +kernel⟩, List.mem_of_getElem? (i := 985) (by decide +kernel), List.mem_of_getElem? (i := 1461) (by decide +kernel), List.mem_of_getElem? (i := 1462) (by decide +kernel)⟩
theorem lw_p91 : lw_okq (⟨"BeamPlateModel", "copies", "()V"⟩, 74) := ⟨⟨by decide +kernel, by decide +kernel⟩, List.mem_of_getElem? (i := 985) (by decide +kernel), List.mem_of_getElem? (i := 1465) (by decide +kernel), List.mem_of_getElem? (i := 1466) (by decide +kernel)⟩
theorem lw_p92 : lw_okq (⟨"BeamPlateModel", "cutsThrough", "(III)Z"⟩, 74) := ⟨⟨by decide +kernel, by decide +kernel⟩, List.mem_of_getElem? (i := 985) (by decide +kernel), List.mem_of_getElem? (i := 1473) (by decide +kernel), List.mem_of_getElem? (i := 1474) (by decide +kernel)⟩
theorem lw_p93 : lw_okq (⟨"BeamPlateModel", "mostOf", "(II)I"⟩, 74) := ⟨⟨by decide +kernel, by decide +kernel⟩, List.mem_of_getElem? (i := 985) (by decide +kernel), List.mem_of_getElem? (i := 1485) (by decide +kernel), List.mem_of_getElem? (i := 1486) (by decide +kernel)⟩
def lw_privs_6 : List (MethodName × Nat) := [(⟨"BeamPlateModel", "flowFrom", "(IIII)I"⟩, 74), (⟨"BeamPlateModel", "cuts", "(I)Z"⟩, 74), (⟨"BeamPlateModel", "goesAway", "(III)V"⟩, 74), (⟨"BeamPlateModel", "loosens", "(I)V"⟩, 74), (⟨"BeamPlateModel", "findsParts", "(I)V"⟩, 74), (⟨"BeamPlateModel", "spreads", "(II)V"⟩, 74), (⟨"BeamPlateModel", "lying", "(I)I"⟩, 74), (⟨"BeamPlateModel", "bridgeOf", "(II)I"⟩, 74), (⟨"BeamPlateModel", "cellsAs", "(II)I"⟩, 74), (⟨"BeamPlateModel", "ones", "(I)I"⟩, 74), (⟨"BeamPlateModel", "isOrder", "(III)Z"⟩, 74), (⟨"BeamPlateModel", "copies", "()V"⟩, 74), (⟨"BeamPlateModel", "cutsThrough", "(III)Z"⟩, 74), (⟨"BeamPlateModel", "mostOf", "(II)I"⟩, 74)]
theorem lw_r6 : ∀ q ∈ lw_privs_6, lw_okq q := List.forall_mem_cons.mpr ⟨lw_p80, List.forall_mem_cons.mpr ⟨lw_p81, List.forall_mem_cons.mpr ⟨lw_p82, List.forall_mem_cons.mpr ⟨lw_p83, List.forall_mem_cons.mpr ⟨lw_p84, List.forall_mem_cons.mpr ⟨lw_p85, List.forall_mem_cons.mpr ⟨lw_p86, List.forall_mem_cons.mpr ⟨lw_p87, List.forall_mem_cons.mpr ⟨lw_p88, List.forall_mem_cons.mpr ⟨lw_p89, List.forall_mem_cons.mpr ⟨lw_p90, List.forall_mem_cons.mpr ⟨lw_p91, List.forall_mem_cons.mpr ⟨lw_p92, List.forall_mem_cons.mpr ⟨lw_p93, fun _ h => absurd h List.not_mem_nil⟩⟩⟩⟩⟩⟩⟩⟩⟩⟩⟩⟩⟩⟩
def lw_privs : List (MethodName × Nat) := lw_privs_1 ++ (lw_privs_2 ++ (lw_privs_3 ++ (lw_privs_4 ++ (lw_privs_5 ++ (lw_privs_6)))))
def lw_tbl : List Cond := k2_sels lw_privs ++ tables_1
theorem lw_privs_ok : ∀ q ∈ lw_privs, lw_okq q := by
  show ∀ q ∈ lw_privs_1 ++ (lw_privs_2 ++ (lw_privs_3 ++ (lw_privs_4 ++ (lw_privs_5 ++ (lw_privs_6))))), lw_okq q
  exact List.forall_mem_append.mpr ⟨lw_r1, List.forall_mem_append.mpr ⟨lw_r2, List.forall_mem_append.mpr ⟨lw_r3, List.forall_mem_append.mpr ⟨lw_r4, List.forall_mem_append.mpr ⟨lw_r5, lw_r6⟩⟩⟩⟩⟩
/-! ===== BEGIN words of one list among another's, by their places ===== -/
theorem goodIn_r {big : List Cond} (ws : List Cond) (ps : List Nat) (hp : ws = ps.filterMap (fun i => big[i]?)) (h : ws.all goodWord = true) : GoodIn big ws := by
  intro w hw
  have h1 := List.all_eq_true.mp h w hw
  rw [hp] at hw
  obtain ⟨i, -, hi⟩ := List.mem_filterMap.mp hw
  have hm : w ∈ big := by first | exact List.mem_of_getElem? hi | exact List.getElem?_mem hi
  exact ⟨hm, good_of_word h1⟩
theorem goodIn_app {big a b : List Cond} (ha : GoodIn big a) (hb : GoodIn big b) : GoodIn big (a ++ b) := fun w h => (List.mem_append.mp h).elim (ha w) (hb w)
theorem goodIn_ca {big a b : List Cond} {c : Cond} (ha : GoodIn big (c :: a)) (hb : GoodIn big b) : GoodIn big (c :: (a ++ b)) := fun w h => (List.mem_cons.mp h).elim (fun e => ha w (List.mem_cons.mpr (Or.inl e))) (fun h => (List.mem_append.mp h).elim (fun h => ha w (List.mem_cons.mpr (Or.inr h))) (hb w))
theorem goodIn_sub {big ws : List Cond} (hm : ∀ w ∈ ws, w ∈ big) (h : ws.all goodWord = true) : GoodIn big ws := fun w hw => ⟨hm w hw, good_of_word (List.all_eq_true.mp h w hw)⟩
/-! ===== END ===== -/

/-! ===== BEGIN printed: names, fields, word lists, decode rows ===== -/
def RX0 : String := "BeamPlate$Filling"
def TX0 : u_T := fun k => match k with
  | 0 => ("BeamPlate$Filling", "wides", "[I", true)
  | 1 => ("BeamPlate$Filling", "highs", "[I", true)
  | 2 => ("BeamPlate$Filling", "worths", "[I", true)
  | 3 => ("BeamPlate$Filling", "best", "[I", true)
  | _ => ("BeamPlate$Filling", "kinds", "I", false)
def tyX0 : Nat → FieldType := fun k => match k with
  | 0 => .array .int
  | 1 => .array .int
  | 2 => .array .int
  | 3 => .array .int
  | _ => .int
abbrev wsX00 : List Cond := u_ws RX0 TX0 5
theorem nmX0 : ∀ a, a < 5 → ∀ b, b < 5 → a ≠ b → (TX0 a).2.1 ≠ (TX0 b).2.1 := by decide +kernel
theorem tyX0_ok : ∀ k, k < 5 → parseFieldDescriptor (TX0 k).2.2.1 = some (tyX0 k) := by decide +kernel
abbrev cX0_init : ByteArray := prog_2_method_1_code
def yX0_init : MethodName := ⟨RX0, "<init>", "()V"⟩
abbrev cX0_addKind : ByteArray := prog_2_method_2_code
def yX0_addKind : MethodName := ⟨RX0, "addKind", "(III)I"⟩
abbrev cX0_greatestWorth : ByteArray := prog_2_method_3_code
def yX0_greatestWorth : MethodName := ⟨RX0, "greatestWorth", "(II)I"⟩
abbrev cX0_fillAll : ByteArray := prog_2_method_4_code
def yX0_fillAll : MethodName := ⟨RX0, "fillAll", "()V"⟩
abbrev cX0_bestKind : ByteArray := prog_2_method_5_code
def yX0_bestKind : MethodName := ⟨RX0, "bestKind", "(II)I"⟩
abbrev cX0_bestCut : ByteArray := prog_2_method_6_code
def yX0_bestCut : MethodName := ⟨RX0, "bestCut", "(II)I"⟩
def RX1 : String := "BeamPlate$Head"
def TX1 : u_T := fun k => match k with
  | 0 => ("BeamPlate$Head", "x", "I", false)
  | 1 => ("BeamPlate$Head", "y", "I", false)
  | 2 => ("BeamPlate$Head", "on", "Z", false)
  | 3 => ("BeamPlate$Head", "speed", "I", false)
  | _ => ("BeamPlate$Head", "hits", "I", false)
def tyX1 : Nat → FieldType := fun k => match k with
  | 0 => .int
  | 1 => .int
  | 2 => .boolean
  | 3 => .int
  | _ => .int
abbrev wsX10 : List Cond := u_ws RX1 TX1 5
theorem nmX1 : ∀ a, a < 5 → ∀ b, b < 5 → a ≠ b → (TX1 a).2.1 ≠ (TX1 b).2.1 := by decide +kernel
theorem tyX1_ok : ∀ k, k < 5 → parseFieldDescriptor (TX1 k).2.2.1 = some (tyX1 k) := by decide +kernel
abbrev cX1_init : ByteArray := prog_3_method_1_code
def yX1_init : MethodName := ⟨RX1, "<init>", "()V"⟩
abbrev cX1_renew : ByteArray := prog_3_method_2_code
def yX1_renew : MethodName := ⟨RX1, "renew", "()V"⟩
abbrev cX1_copyFrom : ByteArray := prog_3_method_3_code
def yX1_copyFrom : MethodName := ⟨RX1, "copyFrom", "(LBeamPlate$Head;)V"⟩
def RX2 : String := "BeamPlate$Part"
def TX2 : u_T := fun k => match k with
  | 0 => ("BeamPlate$Part", "cells", "[I", true)
  | 1 => ("BeamPlate$Part", "seen", "[I", true)
  | 2 => ("BeamPlate$Part", "size", "I", false)
  | 3 => ("BeamPlate$Part", "sumX", "I", false)
  | _ => ("BeamPlate$Part", "held", "Z", false)
def tyX2 : Nat → FieldType := fun k => match k with
  | 0 => .array .int
  | 1 => .array .int
  | 2 => .int
  | 3 => .int
  | _ => .boolean
abbrev wsX20 : List Cond := u_ws RX2 TX2 5
theorem nmX2 : ∀ a, a < 5 → ∀ b, b < 5 → a ≠ b → (TX2 a).2.1 ≠ (TX2 b).2.1 := by decide +kernel
theorem tyX2_ok : ∀ k, k < 5 → parseFieldDescriptor (TX2 k).2.2.1 = some (tyX2 k) := by decide +kernel
abbrev cX2_init : ByteArray := prog_4_method_1_code
def yX2_init : MethodName := ⟨RX2, "<init>", "()V"⟩
abbrev cX2_forgetSeen : ByteArray := prog_4_method_2_code
def yX2_forgetSeen : MethodName := ⟨RX2, "forgetSeen", "()V"⟩
abbrev cX2_gather : ByteArray := prog_4_method_3_code
def yX2_gather : MethodName := ⟨RX2, "gather", "(LBeamPlate$Plate;I)V"⟩
abbrev cX2_take : ByteArray := prog_4_method_4_code
def yX2_take : MethodName := ⟨RX2, "take", "(LBeamPlate$Plate;I)V"⟩
def RX3 : String := "BeamPlate$Plate"
def TX3 : u_T := fun k => match k with
  | 0 => ("BeamPlate$Plate", "wide", "I", false)
  | 1 => ("BeamPlate$Plate", "high", "I", false)
  | 2 => ("BeamPlate$Plate", "area", "I", false)
  | 3 => ("BeamPlate$Plate", "stuff", "I", false)
  | 4 => ("BeamPlate$Plate", "thick", "I", false)
  | 5 => ("BeamPlate$Plate", "ticks", "I", false)
  | 6 => ("BeamPlate$Plate", "spentRuns", "I", false)
  | 7 => ("BeamPlate$Plate", "given", "J", false)
  | 8 => ("BeamPlate$Plate", "lostHeat", "J", false)
  | 9 => ("BeamPlate$Plate", "carried", "J", false)
  | 10 => ("BeamPlate$Plate", "head", "LBeamPlate$Head;", true)
  | 11 => ("BeamPlate$Plate", "heat", "[I", true)
  | 12 => ("BeamPlate$Plate", "state", "[I", true)
  | 13 => ("BeamPlate$Plate", "burnt", "[I", true)
  | 14 => ("BeamPlate$Plate", "tipped", "[I", true)
  | 15 => ("BeamPlate$Plate", "inflow", "[I", true)
  | 16 => ("BeamPlate$Plate", "costs", "[I", true)
  | _ => ("BeamPlate$Plate", "part", "LBeamPlate$Part;", true)
def tyX3 : Nat → FieldType := fun k => match k with
  | 0 => .int
  | 1 => .int
  | 2 => .int
  | 3 => .int
  | 4 => .int
  | 5 => .int
  | 6 => .int
  | 7 => .long
  | 8 => .long
  | 9 => .long
  | 10 => .object "BeamPlate$Head"
  | 11 => .array .int
  | 12 => .array .int
  | 13 => .array .int
  | 14 => .array .int
  | 15 => .array .int
  | 16 => .array .int
  | _ => .object "BeamPlate$Part"
abbrev wsX30 : List Cond := u_ws RX3 TX3 18
theorem nmX3 : ∀ a, a < 18 → ∀ b, b < 18 → a ≠ b → (TX3 a).2.1 ≠ (TX3 b).2.1 := by decide +kernel
theorem tyX3_ok : ∀ k, k < 18 → parseFieldDescriptor (TX3 k).2.2.1 = some (tyX3 k) := by decide +kernel
abbrev cX3_init : ByteArray := prog_5_method_1_code
def yX3_init : MethodName := ⟨RX3, "<init>", "()V"⟩
abbrev cX3_renew : ByteArray := prog_5_method_2_code
def yX3_renew : MethodName := ⟨RX3, "renew", "(IIII)V"⟩
abbrev cX3_copyFrom : ByteArray := prog_5_method_3_code
def yX3_copyFrom : MethodName := ⟨RX3, "copyFrom", "(LBeamPlate$Plate;)V"⟩
abbrev cX3_isLaid : ByteArray := prog_5_method_4_code
def yX3_isLaid : MethodName := ⟨RX3, "isLaid", "()Z"⟩
abbrev cX3_has : ByteArray := prog_5_method_5_code
def yX3_has : MethodName := ⟨RX3, "has", "(II)Z"⟩
abbrev cX3_isBorder : ByteArray := prog_5_method_6_code
def yX3_isBorder : MethodName := ⟨RX3, "isBorder", "(II)Z"⟩
abbrev cX3_index : ByteArray := prog_5_method_7_code
def yX3_index : MethodName := ⟨RX3, "index", "(II)I"⟩
abbrev cX3_headPlace : ByteArray := prog_5_method_8_code
def yX3_headPlace : MethodName := ⟨RX3, "headPlace", "()I"⟩
abbrev cX3_isThere : ByteArray := prog_5_method_9_code
def yX3_isThere : MethodName := ⟨RX3, "isThere", "(I)Z"⟩
abbrev cX3_moveHead : ByteArray := prog_5_method_10_code
def yX3_moveHead : MethodName := ⟨RX3, "moveHead", "(II)Z"⟩
abbrev cX3_tick : ByteArray := prog_5_method_11_code
def yX3_tick : MethodName := ⟨RX3, "tick", "(LBeamPlate$Works;)V"⟩
abbrev cX3_giveHeat : ByteArray := prog_5_method_12_code
def yX3_giveHeat : MethodName := ⟨RX3, "giveHeat", "(I)V"⟩
abbrev cX3_leadHeat : ByteArray := prog_5_method_13_code
def yX3_leadHeat : MethodName := ⟨RX3, "leadHeat", "(I)V"⟩
abbrev cX3_leadBetween : ByteArray := prog_5_method_14_code
def yX3_leadBetween : MethodName := ⟨RX3, "leadBetween", "(III)V"⟩
abbrev cX3_loseHeat : ByteArray := prog_5_method_15_code
def yX3_loseHeat : MethodName := ⟨RX3, "loseHeat", "(I)V"⟩
abbrev cX3_cutMolten : ByteArray := prog_5_method_16_code
def yX3_cutMolten : MethodName := ⟨RX3, "cutMolten", "(I)Z"⟩
abbrev cX3_takeAway : ByteArray := prog_5_method_17_code
def yX3_takeAway : MethodName := ⟨RX3, "takeAway", "(II)V"⟩
abbrev cX3_burnHot : ByteArray := prog_5_method_18_code
def yX3_burnHot : MethodName := ⟨RX3, "burnHot", "(I)V"⟩
abbrev cX3_loosenParts : ByteArray := prog_5_method_19_code
def yX3_loosenParts : MethodName := ⟨RX3, "loosenParts", "(LBeamPlate$Works;)V"⟩
abbrev cX3_settlePart : ByteArray := prog_5_method_20_code
def yX3_settlePart : MethodName := ⟨RX3, "settlePart", "(LBeamPlate$Works;)V"⟩
abbrev cX3_condition : ByteArray := prog_5_method_21_code
def yX3_condition : MethodName := ⟨RX3, "condition", "(I)I"⟩
abbrev cX3_countState : ByteArray := prog_5_method_22_code
def yX3_countState : MethodName := ⟨RX3, "countState", "(I)I"⟩
abbrev cX3_countTipped : ByteArray := prog_5_method_23_code
def yX3_countTipped : MethodName := ⟨RX3, "countTipped", "()I"⟩
abbrev cX3_countBurntThere : ByteArray := prog_5_method_24_code
def yX3_countBurntThere : MethodName := ⟨RX3, "countBurntThere", "()I"⟩
abbrev cX3_countParts : ByteArray := prog_5_method_25_code
def yX3_countParts : MethodName := ⟨RX3, "countParts", "(Z)I"⟩
abbrev cX3_partAt : ByteArray := prog_5_method_26_code
def yX3_partAt : MethodName := ⟨RX3, "partAt", "(I)LBeamPlate$Part;"⟩
abbrev cX3_bridge : ByteArray := prog_5_method_27_code
def yX3_bridge : MethodName := ⟨RX3, "bridge", "(I)I"⟩
abbrev cX3_spreadCosts : ByteArray := prog_5_method_28_code
def yX3_spreadCosts : MethodName := ⟨RX3, "spreadCosts", "()Z"⟩
abbrev cX3_costAt : ByteArray := prog_5_method_29_code
def yX3_costAt : MethodName := ⟨RX3, "costAt", "(II)I"⟩
abbrev cX3_heatInAll : ByteArray := prog_5_method_30_code
def yX3_heatInAll : MethodName := ⟨RX3, "heatInAll", "()J"⟩
def RX4 : String := "BeamPlate$Reader"
def TX4 : u_T := fun k => match k with
  | 0 => ("BeamPlate$Reader", "program", "LBeamPlate$Row;", true)
  | 1 => ("BeamPlate$Reader", "fault", "I", false)
  | 2 => ("BeamPlate$Reader", "faultPlace", "I", false)
  | 3 => ("BeamPlate$Reader", "tokens", "LBeamPlate$Tokens;", true)
  | 4 => ("BeamPlate$Reader", "current", "I", false)
  | 5 => ("BeamPlate$Reader", "token", "I", false)
  | 6 => ("BeamPlate$Reader", "openWords", "LBeamPlate$Row;", true)
  | _ => ("BeamPlate$Reader", "openStarts", "LBeamPlate$Row;", true)
def tyX4 : Nat → FieldType := fun k => match k with
  | 0 => .object "BeamPlate$Row"
  | 1 => .int
  | 2 => .int
  | 3 => .object "BeamPlate$Tokens"
  | 4 => .int
  | 5 => .int
  | 6 => .object "BeamPlate$Row"
  | _ => .object "BeamPlate$Row"
abbrev wsX40 : List Cond := u_ws RX4 TX4 8
theorem nmX4 : ∀ a, a < 8 → ∀ b, b < 8 → a ≠ b → (TX4 a).2.1 ≠ (TX4 b).2.1 := by decide +kernel
theorem tyX4_ok : ∀ k, k < 8 → parseFieldDescriptor (TX4 k).2.2.1 = some (tyX4 k) := by decide +kernel
abbrev cX4_init : ByteArray := prog_6_method_1_code
def yX4_init : MethodName := ⟨RX4, "<init>", "()V"⟩
abbrev cX4_read : ByteArray := prog_6_method_2_code
def yX4_read : MethodName := ⟨RX4, "read", "(LBeamPlate$Row;)Z"⟩
abbrev cX4_fail : ByteArray := prog_6_method_3_code
def yX4_fail : MethodName := ⟨RX4, "fail", "(I)V"⟩
abbrev cX4_advance : ByteArray := prog_6_method_4_code
def yX4_advance : MethodName := ⟨RX4, "advance", "()V"⟩
abbrev cX4_expect : ByteArray := prog_6_method_5_code
def yX4_expect : MethodName := ⟨RX4, "expect", "(I)V"⟩
abbrev cX4_innermost : ByteArray := prog_6_method_6_code
def yX4_innermost : MethodName := ⟨RX4, "innermost", "()I"⟩
abbrev cX4_readStep : ByteArray := prog_6_method_7_code
def yX4_readStep : MethodName := ⟨RX4, "readStep", "()V"⟩
abbrev cX4_closeStep : ByteArray := prog_6_method_8_code
def yX4_closeStep : MethodName := ⟨RX4, "closeStep", "()V"⟩
abbrev cX4_dropInnermost : ByteArray := prog_6_method_9_code
def yX4_dropInnermost : MethodName := ⟨RX4, "dropInnermost", "()V"⟩
abbrev cX4_openAgain : ByteArray := prog_6_method_10_code
def yX4_openAgain : MethodName := ⟨RX4, "openAgain", "()V"⟩
abbrev cX4_closeAgain : ByteArray := prog_6_method_11_code
def yX4_closeAgain : MethodName := ⟨RX4, "closeAgain", "()V"⟩
abbrev cX4_openIf : ByteArray := prog_6_method_12_code
def yX4_openIf : MethodName := ⟨RX4, "openIf", "()V"⟩
abbrev cX4_readSum : ByteArray := prog_6_method_13_code
def yX4_readSum : MethodName := ⟨RX4, "readSum", "()I"⟩
abbrev cX4_readTerm : ByteArray := prog_6_method_14_code
def yX4_readTerm : MethodName := ⟨RX4, "readTerm", "(Z)V"⟩
abbrev cX4_readNumber : ByteArray := prog_6_method_15_code
def yX4_readNumber : MethodName := ⟨RX4, "readNumber", "(II)V"⟩
abbrev cX4_readSide : ByteArray := prog_6_method_16_code
def yX4_readSide : MethodName := ⟨RX4, "readSide", "()V"⟩
def RX5 : String := "BeamPlate$Row"
def TX5 : u_T := fun k => match k with
  | 0 => ("BeamPlate$Row", "items", "[I", true)
  | _ => ("BeamPlate$Row", "size", "I", false)
def tyX5 : Nat → FieldType := fun k => match k with
  | 0 => .array .int
  | _ => .int
abbrev wsX50 : List Cond := u_ws RX5 TX5 2
theorem nmX5 : ∀ a, a < 2 → ∀ b, b < 2 → a ≠ b → (TX5 a).2.1 ≠ (TX5 b).2.1 := by decide +kernel
theorem tyX5_ok : ∀ k, k < 2 → parseFieldDescriptor (TX5 k).2.2.1 = some (tyX5 k) := by decide +kernel
abbrev cX5_init : ByteArray := prog_7_method_1_code
def yX5_init : MethodName := ⟨RX5, "<init>", "(I)V"⟩
abbrev cX5_add : ByteArray := prog_7_method_2_code
def yX5_add : MethodName := ⟨RX5, "add", "(I)V"⟩
abbrev cX5_addBytes : ByteArray := prog_7_method_3_code
def yX5_addBytes : MethodName := ⟨RX5, "addBytes", "(I)V"⟩
abbrev cX5_put : ByteArray := prog_7_method_4_code
def yX5_put : MethodName := ⟨RX5, "put", "(II)V"⟩
abbrev cX5_at : ByteArray := prog_7_method_5_code
def yX5_at : MethodName := ⟨RX5, "at", "(I)I"⟩
abbrev cX5_copyFrom : ByteArray := prog_7_method_6_code
def yX5_copyFrom : MethodName := ⟨RX5, "copyFrom", "(LBeamPlate$Row;)V"⟩
abbrev cX5_firstRunBelow : ByteArray := prog_7_method_7_code
def yX5_firstRunBelow : MethodName := ⟨RX5, "firstRunBelow", "(II)I"⟩
def RX6 : String := "BeamPlate$Runner"
def TX6 : u_T := fun k => match k with
  | 0 => ("BeamPlate$Runner", "turnsLeft", "[I", true)
  | 1 => ("BeamPlate$Runner", "costLeft", "I", false)
  | _ => ("BeamPlate$Runner", "ticksAhead", "I", false)
def tyX6 : Nat → FieldType := fun k => match k with
  | 0 => .array .int
  | 1 => .int
  | _ => .int
abbrev wsX60 : List Cond := u_ws RX6 TX6 3
theorem nmX6 : ∀ a, a < 3 → ∀ b, b < 3 → a ≠ b → (TX6 a).2.1 ≠ (TX6 b).2.1 := by decide +kernel
theorem tyX6_ok : ∀ k, k < 3 → parseFieldDescriptor (TX6 k).2.2.1 = some (tyX6 k) := by decide +kernel
abbrev cX6_init : ByteArray := prog_8_method_1_code
def yX6_init : MethodName := ⟨RX6, "<init>", "()V"⟩
abbrev cX6_perform : ByteArray := prog_8_method_2_code
def yX6_perform : MethodName := ⟨RX6, "perform", "(LBeamPlate$Row;LBeamPlate$Plate;LBeamPlate$Works;)I"⟩
abbrev cX6_turns : ByteArray := prog_8_method_3_code
def yX6_turns : MethodName := ⟨RX6, "turns", "(I)I"⟩
abbrev cX6_setTurns : ByteArray := prog_8_method_4_code
def yX6_setTurns : MethodName := ⟨RX6, "setTurns", "(II)V"⟩
abbrev cX6_travel : ByteArray := prog_8_method_5_code
def yX6_travel : MethodName := ⟨RX6, "travel", "(LBeamPlate$Plate;LBeamPlate$Works;II)V"⟩
abbrev cX6_stay : ByteArray := prog_8_method_6_code
def yX6_stay : MethodName := ⟨RX6, "stay", "(LBeamPlate$Plate;LBeamPlate$Works;I)V"⟩
abbrev cX6_stepOfIf : ByteArray := prog_8_method_7_code
def yX6_stepOfIf : MethodName := ⟨RX6, "stepOfIf", "(LBeamPlate$Row;I)I"⟩
abbrev cX6_isSo : ByteArray := prog_8_method_8_code
def yX6_isSo : MethodName := ⟨RX6, "isSo", "(LBeamPlate$Row;ILBeamPlate$Plate;)Z"⟩
abbrev cX6_sum : ByteArray := prog_8_method_9_code
def yX6_sum : MethodName := ⟨RX6, "sum", "(LBeamPlate$Row;IILBeamPlate$Plate;)J"⟩
abbrev cX6_valueOf : ByteArray := prog_8_method_10_code
def yX6_valueOf : MethodName := ⟨RX6, "valueOf", "(IILBeamPlate$Plate;)I"⟩
def RX7 : String := "BeamPlate$TestBook"
def TX7 : u_T := fun k => match k with
  | 0 => ("BeamPlate$TestBook", "stuffs", "[I", true)
  | 1 => ("BeamPlate$TestBook", "heats", "[I", true)
  | 2 => ("BeamPlate$TestBook", "days", "[I", true)
  | 3 => ("BeamPlate$TestBook", "cuts", "[Z", true)
  | 4 => ("BeamPlate$TestBook", "count", "I", false)
  | _ => ("BeamPlate$TestBook", "latestDay", "I", false)
def tyX7 : Nat → FieldType := fun k => match k with
  | 0 => .array .int
  | 1 => .array .int
  | 2 => .array .int
  | 3 => .array .boolean
  | 4 => .int
  | _ => .int
abbrev wsX70 : List Cond := u_ws RX7 TX7 6
theorem nmX7 : ∀ a, a < 6 → ∀ b, b < 6 → a ≠ b → (TX7 a).2.1 ≠ (TX7 b).2.1 := by decide +kernel
theorem tyX7_ok : ∀ k, k < 6 → parseFieldDescriptor (TX7 k).2.2.1 = some (tyX7 k) := by decide +kernel
abbrev cX7_init : ByteArray := prog_9_method_1_code
def yX7_init : MethodName := ⟨RX7, "<init>", "()V"⟩
abbrev cX7_tell : ByteArray := prog_9_method_2_code
def yX7_tell : MethodName := ⟨RX7, "tell", "(IIZI)Z"⟩
abbrev cX7_leastMelt : ByteArray := prog_9_method_3_code
def yX7_leastMelt : MethodName := ⟨RX7, "leastMelt", "(II)I"⟩
abbrev cX7_greatestMelt : ByteArray := prog_9_method_4_code
def yX7_greatestMelt : MethodName := ⟨RX7, "greatestMelt", "(II)I"⟩
def RX8 : String := "BeamPlate$Tokens"
def TX8 : u_T := fun k => match k with
  | 0 => ("BeamPlate$Tokens", "kinds", "LBeamPlate$Row;", true)
  | 1 => ("BeamPlate$Tokens", "places", "LBeamPlate$Row;", true)
  | _ => ("BeamPlate$Tokens", "values", "LBeamPlate$Row;", true)
def tyX8 : Nat → FieldType := fun k => match k with
  | 0 => .object "BeamPlate$Row"
  | 1 => .object "BeamPlate$Row"
  | _ => .object "BeamPlate$Row"
abbrev wsX80 : List Cond := u_ws RX8 TX8 3
theorem nmX8 : ∀ a, a < 3 → ∀ b, b < 3 → a ≠ b → (TX8 a).2.1 ≠ (TX8 b).2.1 := by decide +kernel
theorem tyX8_ok : ∀ k, k < 3 → parseFieldDescriptor (TX8 k).2.2.1 = some (tyX8 k) := by decide +kernel
abbrev cX8_init : ByteArray := prog_10_method_1_code
def yX8_init : MethodName := ⟨RX8, "<init>", "()V"⟩
abbrev cX8_takeApart : ByteArray := prog_10_method_2_code
def yX8_takeApart : MethodName := ⟨RX8, "takeApart", "(LBeamPlate$Row;)V"⟩
abbrev cX8_keep : ByteArray := prog_10_method_3_code
def yX8_keep : MethodName := ⟨RX8, "keep", "(III)V"⟩
abbrev cX8_takeWord : ByteArray := prog_10_method_4_code
def yX8_takeWord : MethodName := ⟨RX8, "takeWord", "(LBeamPlate$Row;I)I"⟩
abbrev cX8_takeNumber : ByteArray := prog_10_method_5_code
def yX8_takeNumber : MethodName := ⟨RX8, "takeNumber", "(LBeamPlate$Row;I)I"⟩
abbrev cX8_kindOfSign : ByteArray := prog_10_method_6_code
def yX8_kindOfSign : MethodName := ⟨RX8, "kindOfSign", "(I)I"⟩
abbrev cX8_kindOfWord : ByteArray := prog_10_method_7_code
def yX8_kindOfWord : MethodName := ⟨RX8, "kindOfWord", "(LBeamPlate$Row;II)I"⟩
abbrev cX8_isLetter : ByteArray := prog_10_method_8_code
def yX8_isLetter : MethodName := ⟨RX8, "isLetter", "(I)Z"⟩
abbrev cX8_isDigit : ByteArray := prog_10_method_9_code
def yX8_isDigit : MethodName := ⟨RX8, "isDigit", "(I)Z"⟩
abbrev cX8_isBlank : ByteArray := prog_10_method_10_code
def yX8_isBlank : MethodName := ⟨RX8, "isBlank", "(I)Z"⟩
def RX9 : String := "BeamPlate$Trials"
def TX9 : u_T := fun k => match k with
  | 0 => ("BeamPlate$Trials", "bestBurnt", "I", false)
  | 1 => ("BeamPlate$Trials", "bestTicks", "I", false)
  | 2 => ("BeamPlate$Trials", "bestOrder", "I", false)
  | 3 => ("BeamPlate$Trials", "runner", "LBeamPlate$Runner;", true)
  | 4 => ("BeamPlate$Trials", "sweep", "LBeamPlate$Row;", true)
  | 5 => ("BeamPlate$Trials", "like", "LBeamPlate$Plate;", true)
  | _ => ("BeamPlate$Trials", "chosen", "[I", true)
def tyX9 : Nat → FieldType := fun k => match k with
  | 0 => .int
  | 1 => .int
  | 2 => .int
  | 3 => .object "BeamPlate$Runner"
  | 4 => .object "BeamPlate$Row"
  | 5 => .object "BeamPlate$Plate"
  | _ => .array .int
abbrev wsX90 : List Cond := u_ws RX9 TX9 7
theorem nmX9 : ∀ a, a < 7 → ∀ b, b < 7 → a ≠ b → (TX9 a).2.1 ≠ (TX9 b).2.1 := by decide +kernel
theorem tyX9_ok : ∀ k, k < 7 → parseFieldDescriptor (TX9 k).2.2.1 = some (tyX9 k) := by decide +kernel
abbrev cX9_init : ByteArray := prog_11_method_1_code
def yX9_init : MethodName := ⟨RX9, "<init>", "()V"⟩
abbrev cX9_seekOrder : ByteArray := prog_11_method_2_code
def yX9_seekOrder : MethodName := ⟨RX9, "seekOrder", "(LBeamPlate$Works;LBeamPlate$Plate;I)V"⟩
abbrev cX9_choose : ByteArray := prog_11_method_3_code
def yX9_choose : MethodName := ⟨RX9, "choose", "(I)I"⟩
abbrev cX9_ordersJust : ByteArray := prog_11_method_4_code
def yX9_ordersJust : MethodName := ⟨RX9, "ordersJust", "(II)Z"⟩
abbrev cX9_keepIfBetter : ByteArray := prog_11_method_5_code
def yX9_keepIfBetter : MethodName := ⟨RX9, "keepIfBetter", "(III)V"⟩
abbrev cX9_leastSpeed : ByteArray := prog_11_method_6_code
def yX9_leastSpeed : MethodName := ⟨RX9, "leastSpeed", "(LBeamPlate$Works;LBeamPlate$Plate;II)I"⟩
abbrev cX9_noneIsThereBehind : ByteArray := prog_11_method_7_code
def yX9_noneIsThereBehind : MethodName := ⟨RX9, "noneIsThereBehind", "(II)Z"⟩
def RX10 : String := "BeamPlate$Works"
def TX10 : u_T := fun k => match k with
  | 0 => ("BeamPlate$Works", "melts", "[I", true)
  | 1 => ("BeamPlate$Works", "leads", "[I", true)
  | 2 => ("BeamPlate$Works", "losses", "[I", true)
  | 3 => ("BeamPlate$Works", "burns", "[I", true)
  | 4 => ("BeamPlate$Works", "strength", "I", false)
  | 5 => ("BeamPlate$Works", "gas", "Z", false)
  | 6 => ("BeamPlate$Works", "slatPitch", "I", false)
  | _ => ("BeamPlate$Works", "programs", "[LBeamPlate$Row;", true)
def tyX10 : Nat → FieldType := fun k => match k with
  | 0 => .array .int
  | 1 => .array .int
  | 2 => .array .int
  | 3 => .array .int
  | 4 => .int
  | 5 => .boolean
  | 6 => .int
  | _ => .array (.object "BeamPlate$Row")
abbrev wsX100 : List Cond := u_ws RX10 TX10 8
theorem nmX10 : ∀ a, a < 8 → ∀ b, b < 8 → a ≠ b → (TX10 a).2.1 ≠ (TX10 b).2.1 := by decide +kernel
theorem tyX10_ok : ∀ k, k < 8 → parseFieldDescriptor (TX10 k).2.2.1 = some (tyX10 k) := by decide +kernel
abbrev cX10_init : ByteArray := prog_12_method_1_code
def yX10_init : MethodName := ⟨RX10, "<init>", "()V"⟩
abbrev cX10_setStuff : ByteArray := prog_12_method_2_code
def yX10_setStuff : MethodName := ⟨RX10, "setStuff", "(IIIII)Z"⟩
abbrev cX10_programOf : ByteArray := prog_12_method_3_code
def yX10_programOf : MethodName := ⟨RX10, "programOf", "(I)LBeamPlate$Row;"⟩
abbrev cX10_hasSlatAt : ByteArray := prog_12_method_4_code
def yX10_hasSlatAt : MethodName := ⟨RX10, "hasSlatAt", "(I)Z"⟩
def RX11 : String := "BeamPlate"
def TX11 : u_T := fun k => match k with
  | 0 => ("BeamPlate", "works", "LBeamPlate$Works;", true)
  | 1 => ("BeamPlate", "tape", "LBeamPlate$Row;", true)
  | 2 => ("BeamPlate", "sparkRow", "LBeamPlate$Row;", true)
  | 3 => ("BeamPlate", "reader", "LBeamPlate$Reader;", true)
  | 4 => ("BeamPlate", "plate", "LBeamPlate$Plate;", true)
  | 5 => ("BeamPlate", "runner", "LBeamPlate$Runner;", true)
  | 6 => ("BeamPlate", "trials", "LBeamPlate$Trials;", true)
  | 7 => ("BeamPlate", "filling", "LBeamPlate$Filling;", true)
  | 8 => ("BeamPlate", "testBook", "LBeamPlate$TestBook;", true)
  | 9 => ("BeamPlate", "faultKind", "I", false)
  | _ => ("BeamPlate", "faultPlace", "I", false)
def tyX11 : Nat → FieldType := fun k => match k with
  | 0 => .object "BeamPlate$Works"
  | 1 => .object "BeamPlate$Row"
  | 2 => .object "BeamPlate$Row"
  | 3 => .object "BeamPlate$Reader"
  | 4 => .object "BeamPlate$Plate"
  | 5 => .object "BeamPlate$Runner"
  | 6 => .object "BeamPlate$Trials"
  | 7 => .object "BeamPlate$Filling"
  | 8 => .object "BeamPlate$TestBook"
  | 9 => .int
  | _ => .int
abbrev wsX110 : List Cond := u_ws RX11 TX11 11
theorem nmX11 : ∀ a, a < 11 → ∀ b, b < 11 → a ≠ b → (TX11 a).2.1 ≠ (TX11 b).2.1 := by decide +kernel
theorem tyX11_ok : ∀ k, k < 11 → parseFieldDescriptor (TX11 k).2.2.1 = some (tyX11 k) := by decide +kernel
abbrev cX11_init : ByteArray := prog_1_method_1_code
def yX11_init : MethodName := ⟨RX11, "<init>", "()V"⟩
abbrev cX11_stuff : ByteArray := prog_1_method_2_code
def yX11_stuff : MethodName := ⟨RX11, "stuff", "(IIIII)Z"⟩
abbrev cX11_plate : ByteArray := prog_1_method_3_code
def yX11_plate : MethodName := ⟨RX11, "plate", "(IIII)Z"⟩
abbrev cX11_beam : ByteArray := prog_1_method_4_code
def yX11_beam : MethodName := ⟨RX11, "beam", "(IZ)Z"⟩
abbrev cX11_pitch : ByteArray := prog_1_method_5_code
def yX11_pitch : MethodName := ⟨RX11, "pitch", "(I)Z"⟩
abbrev cX11_feed : ByteArray := prog_1_method_6_code
def yX11_feed : MethodName := ⟨RX11, "feed", "(IIIII)I"⟩
abbrev cX11_end : ByteArray := prog_1_method_7_code
def yX11_end : MethodName := ⟨RX11, "end", "(I)Z"⟩
abbrev cX11_way : ByteArray := prog_1_method_8_code
def yX11_way : MethodName := ⟨RX11, "way", "(I)Z"⟩
abbrev cX11_fault : ByteArray := prog_1_method_9_code
def yX11_fault : MethodName := ⟨RX11, "fault", "(I)I"⟩
abbrev cX11_run : ByteArray := prog_1_method_10_code
def yX11_run : MethodName := ⟨RX11, "run", "(I)I"⟩
abbrev cX11_cell : ByteArray := prog_1_method_11_code
def yX11_cell : MethodName := ⟨RX11, "cell", "(III)I"⟩
abbrev cX11_look : ByteArray := prog_1_method_12_code
def yX11_look : MethodName := ⟨RX11, "look", "(I)I"⟩
abbrev cX11_heat : ByteArray := prog_1_method_13_code
def yX11_heat : MethodName := ⟨RX11, "heat", "(I)J"⟩
abbrev cX11_order : ByteArray := prog_1_method_14_code
def yX11_order : MethodName := ⟨RX11, "order", "(II)I"⟩
abbrev cX11_speed : ByteArray := prog_1_method_15_code
def yX11_speed : MethodName := ⟨RX11, "speed", "(II)I"⟩
abbrev cX11_kind : ByteArray := prog_1_method_16_code
def yX11_kind : MethodName := ⟨RX11, "kind", "(III)I"⟩
abbrev cX11_fill : ByteArray := prog_1_method_17_code
def yX11_fill : MethodName := ⟨RX11, "fill", "(II)I"⟩
abbrev cX11_test : ByteArray := prog_1_method_18_code
def yX11_test : MethodName := ⟨RX11, "test", "(IIZI)Z"⟩
abbrev cX11_known : ByteArray := prog_1_method_19_code
def yX11_known : MethodName := ⟨RX11, "known", "(III)I"⟩
abbrev cX11_sparks : ByteArray := prog_1_method_20_code
def yX11_sparks : MethodName := ⟨RX11, "sparks", "()I"⟩
abbrev cX11_lost : ByteArray := prog_1_method_21_code
def yX11_lost : MethodName := ⟨RX11, "lost", "(II)I"⟩
abbrev cX11_within : ByteArray := prog_1_method_22_code
def yX11_within : MethodName := ⟨RX11, "within", "(III)Z"⟩
abbrev cX11_stepX : ByteArray := prog_1_method_23_code
def yX11_stepX : MethodName := ⟨RX11, "stepX", "(I)I"⟩
abbrev cX11_stepY : ByteArray := prog_1_method_24_code
def yX11_stepY : MethodName := ⟨RX11, "stepY", "(I)I"⟩
def RX12 : String := "BeamPlateModel"
def TX12 : u_T := fun k => match k with
  | 0 => ("BeamPlateModel", "told", "I", false)
  | 1 => ("BeamPlateModel", "meltOf", "[I", true)
  | 2 => ("BeamPlateModel", "leadOf", "[I", true)
  | 3 => ("BeamPlateModel", "lossOf", "[I", true)
  | 4 => ("BeamPlateModel", "burnOf", "[I", true)
  | 5 => ("BeamPlateModel", "hasPlate", "Z", false)
  | 6 => ("BeamPlateModel", "wide", "I", false)
  | 7 => ("BeamPlateModel", "high", "I", false)
  | 8 => ("BeamPlateModel", "stuffOf", "I", false)
  | 9 => ("BeamPlateModel", "thick", "I", false)
  | 10 => ("BeamPlateModel", "strength", "I", false)
  | 11 => ("BeamPlateModel", "hasGas", "Z", false)
  | 12 => ("BeamPlateModel", "slats", "I", false)
  | 13 => ("BeamPlateModel", "heat", "[I", true)
  | 14 => ("BeamPlateModel", "next", "[I", true)
  | 15 => ("BeamPlateModel", "state", "[I", true)
  | 16 => ("BeamPlateModel", "isBurnt", "[Z", true)
  | 17 => ("BeamPlateModel", "isTipped", "[Z", true)
  | 18 => ("BeamPlateModel", "headX", "[I", true)
  | 19 => ("BeamPlateModel", "headY", "[I", true)
  | 20 => ("BeamPlateModel", "isOn", "[Z", true)
  | 21 => ("BeamPlateModel", "speedOf", "[I", true)
  | 22 => ("BeamPlateModel", "ticks", "[I", true)
  | 23 => ("BeamPlateModel", "hits", "[I", true)
  | 24 => ("BeamPlateModel", "spent", "[I", true)
  | 25 => ("BeamPlateModel", "given", "[J", true)
  | 26 => ("BeamPlateModel", "lostHeat", "[J", true)
  | 27 => ("BeamPlateModel", "carried", "[J", true)
  | 28 => ("BeamPlateModel", "partOf", "[I", true)
  | 29 => ("BeamPlateModel", "pile", "[I", true)
  | 30 => ("BeamPlateModel", "parts", "I", false)
  | 31 => ("BeamPlateModel", "partCells", "[I", true)
  | 32 => ("BeamPlateModel", "partX", "[I", true)
  | 33 => ("BeamPlateModel", "isHeld", "[Z", true)
  | 34 => ("BeamPlateModel", "tape", "[I", true)
  | 35 => ("BeamPlateModel", "taped", "I", false)
  | 36 => ("BeamPlateModel", "at", "I", false)
  | 37 => ("BeamPlateModel", "from", "I", false)
  | 38 => ("BeamPlateModel", "token", "I", false)
  | 39 => ("BeamPlateModel", "value", "I", false)
  | 40 => ("BeamPlateModel", "words", "[I", true)
  | 41 => ("BeamPlateModel", "op", "[I", true)
  | 42 => ("BeamPlateModel", "argA", "[I", true)
  | 43 => ("BeamPlateModel", "argB", "[I", true)
  | 44 => ("BeamPlateModel", "opMany", "[I", true)
  | 45 => ("BeamPlateModel", "askFrom", "[I", true)
  | 46 => ("BeamPlateModel", "askMid", "[I", true)
  | 47 => ("BeamPlateModel", "askTo", "[I", true)
  | 48 => ("BeamPlateModel", "unitSign", "[I", true)
  | 49 => ("BeamPlateModel", "unitKind", "[I", true)
  | 50 => ("BeamPlateModel", "unitValue", "[I", true)
  | 51 => ("BeamPlateModel", "units", "I", false)
  | 52 => ("BeamPlateModel", "frames", "[I", true)
  | 53 => ("BeamPlateModel", "frameMany", "I", false)
  | 54 => ("BeamPlateModel", "readFault", "I", false)
  | 55 => ("BeamPlateModel", "readPlace", "I", false)
  | 56 => ("BeamPlateModel", "faultKind", "I", false)
  | 57 => ("BeamPlateModel", "faultPlace", "I", false)
  | 58 => ("BeamPlateModel", "cost", "I", false)
  | 59 => ("BeamPlateModel", "isOut", "Z", false)
  | 60 => ("BeamPlateModel", "runTicks", "I", false)
  | 61 => ("BeamPlateModel", "rounds", "[I", true)
  | 62 => ("BeamPlateModel", "kinds", "I", false)
  | 63 => ("BeamPlateModel", "kindWide", "[I", true)
  | 64 => ("BeamPlateModel", "kindHigh", "[I", true)
  | 65 => ("BeamPlateModel", "kindWorth", "[I", true)
  | 66 => ("BeamPlateModel", "mostWorth", "[I", true)
  | 67 => ("BeamPlateModel", "tests", "I", false)
  | 68 => ("BeamPlateModel", "testStuff", "[I", true)
  | 69 => ("BeamPlateModel", "testHeat", "[I", true)
  | 70 => ("BeamPlateModel", "testCut", "[Z", true)
  | 71 => ("BeamPlateModel", "testDay", "[I", true)
  | 72 => ("BeamPlateModel", "spark", "[I", true)
  | _ => ("BeamPlateModel", "sparkMany", "I", false)
def tyX12 : Nat → FieldType := fun k => match k with
  | 0 => .int
  | 1 => .array .int
  | 2 => .array .int
  | 3 => .array .int
  | 4 => .array .int
  | 5 => .boolean
  | 6 => .int
  | 7 => .int
  | 8 => .int
  | 9 => .int
  | 10 => .int
  | 11 => .boolean
  | 12 => .int
  | 13 => .array .int
  | 14 => .array .int
  | 15 => .array .int
  | 16 => .array .boolean
  | 17 => .array .boolean
  | 18 => .array .int
  | 19 => .array .int
  | 20 => .array .boolean
  | 21 => .array .int
  | 22 => .array .int
  | 23 => .array .int
  | 24 => .array .int
  | 25 => .array .long
  | 26 => .array .long
  | 27 => .array .long
  | 28 => .array .int
  | 29 => .array .int
  | 30 => .int
  | 31 => .array .int
  | 32 => .array .int
  | 33 => .array .boolean
  | 34 => .array .int
  | 35 => .int
  | 36 => .int
  | 37 => .int
  | 38 => .int
  | 39 => .int
  | 40 => .array .int
  | 41 => .array .int
  | 42 => .array .int
  | 43 => .array .int
  | 44 => .array .int
  | 45 => .array .int
  | 46 => .array .int
  | 47 => .array .int
  | 48 => .array .int
  | 49 => .array .int
  | 50 => .array .int
  | 51 => .int
  | 52 => .array .int
  | 53 => .int
  | 54 => .int
  | 55 => .int
  | 56 => .int
  | 57 => .int
  | 58 => .int
  | 59 => .boolean
  | 60 => .int
  | 61 => .array .int
  | 62 => .int
  | 63 => .array .int
  | 64 => .array .int
  | 65 => .array .int
  | 66 => .array .int
  | 67 => .int
  | 68 => .array .int
  | 69 => .array .int
  | 70 => .array .boolean
  | 71 => .array .int
  | 72 => .array .int
  | _ => .int
abbrev wsX120 : List Cond := u_ws RX12 TX12 74
theorem nmX12 : ∀ a, a < 74 → ∀ b, b < 74 → a ≠ b → (TX12 a).2.1 ≠ (TX12 b).2.1 := by decide +kernel
theorem tyX12_ok : ∀ k, k < 74 → parseFieldDescriptor (TX12 k).2.2.1 = some (tyX12 k) := by decide +kernel
abbrev cX12_init : ByteArray := prog_14_method_1_code
def yX12_init : MethodName := ⟨RX12, "<init>", "()V"⟩
abbrev cX12_isIn : ByteArray := prog_14_method_3_code
def yX12_isIn : MethodName := ⟨RX12, "isIn", "(III)Z"⟩
abbrev cX12_stuff : ByteArray := prog_14_method_4_code
def yX12_stuff : MethodName := ⟨RX12, "stuff", "(IIIII)Z"⟩
abbrev cX12_plate : ByteArray := prog_14_method_5_code
def yX12_plate : MethodName := ⟨RX12, "plate", "(IIII)Z"⟩
abbrev cX12_beam : ByteArray := prog_14_method_6_code
def yX12_beam : MethodName := ⟨RX12, "beam", "(IZ)Z"⟩
abbrev cX12_pitch : ByteArray := prog_14_method_7_code
def yX12_pitch : MethodName := ⟨RX12, "pitch", "(I)Z"⟩
abbrev cX12_isOnPlate : ByteArray := prog_14_method_8_code
def yX12_isOnPlate : MethodName := ⟨RX12, "isOnPlate", "(II)Z"⟩
abbrev cX12_isThere : ByteArray := prog_14_method_9_code
def yX12_isThere : MethodName := ⟨RX12, "isThere", "(III)Z"⟩
abbrev cX12_copies : ByteArray := prog_14_method_10_code
def yX12_copies : MethodName := ⟨RX12, "copies", "()V"⟩
abbrev cX12_stepX : ByteArray := prog_14_method_11_code
def yX12_stepX : MethodName := ⟨RX12, "stepX", "(I)I"⟩
abbrev cX12_stepY : ByteArray := prog_14_method_12_code
def yX12_stepY : MethodName := ⟨RX12, "stepY", "(I)I"⟩
abbrev cX12_flowFrom : ByteArray := prog_14_method_13_code
def yX12_flowFrom : MethodName := ⟨RX12, "flowFrom", "(IIII)I"⟩
abbrev cX12_gives : ByteArray := prog_14_method_14_code
def yX12_gives : MethodName := ⟨RX12, "gives", "(I)V"⟩
abbrev cX12_leads : ByteArray := prog_14_method_15_code
def yX12_leads : MethodName := ⟨RX12, "leads", "(I)V"⟩
abbrev cX12_goesAway : ByteArray := prog_14_method_16_code
def yX12_goesAway : MethodName := ⟨RX12, "goesAway", "(III)V"⟩
abbrev cX12_cuts : ByteArray := prog_14_method_17_code
def yX12_cuts : MethodName := ⟨RX12, "cuts", "(I)Z"⟩
abbrev cX12_ticksOnce : ByteArray := prog_14_method_18_code
def yX12_ticksOnce : MethodName := ⟨RX12, "ticksOnce", "(I)V"⟩
abbrev cX12_findsParts : ByteArray := prog_14_method_19_code
def yX12_findsParts : MethodName := ⟨RX12, "findsParts", "(I)V"⟩
abbrev cX12_spreads : ByteArray := prog_14_method_20_code
def yX12_spreads : MethodName := ⟨RX12, "spreads", "(II)V"⟩
abbrev cX12_lying : ByteArray := prog_14_method_21_code
def yX12_lying : MethodName := ⟨RX12, "lying", "(I)I"⟩
abbrev cX12_loosens : ByteArray := prog_14_method_22_code
def yX12_loosens : MethodName := ⟨RX12, "loosens", "(I)V"⟩
abbrev cX12_puts : ByteArray := prog_14_method_23_code
def yX12_puts : MethodName := ⟨RX12, "puts", "(I)V"⟩
abbrev cX12_feed : ByteArray := prog_14_method_24_code
def yX12_feed : MethodName := ⟨RX12, "feed", "(IIIII)I"⟩
abbrev cX12_end : ByteArray := prog_14_method_25_code
def yX12_end : MethodName := ⟨RX12, "end", "(I)Z"⟩
abbrev cX12_raw : ByteArray := prog_14_method_26_code
def yX12_raw : MethodName := ⟨RX12, "raw", "(I)I"⟩
abbrev cX12_isLetter : ByteArray := prog_14_method_27_code
def yX12_isLetter : MethodName := ⟨RX12, "isLetter", "(I)Z"⟩
abbrev cX12_isDigit : ByteArray := prog_14_method_28_code
def yX12_isDigit : MethodName := ⟨RX12, "isDigit", "(I)Z"⟩
abbrev cX12_isMarkSign : ByteArray := prog_14_method_29_code
def yX12_isMarkSign : MethodName := ⟨RX12, "isMarkSign", "(I)Z"⟩
abbrev cX12_wordAt : ByteArray := prog_14_method_30_code
def yX12_wordAt : MethodName := ⟨RX12, "wordAt", "(II)I"⟩
abbrev cX12_reads : ByteArray := prog_14_method_31_code
def yX12_reads : MethodName := ⟨RX12, "reads", "()V"⟩
abbrev cX12_fails : ByteArray := prog_14_method_32_code
def yX12_fails : MethodName := ⟨RX12, "fails", "(I)I"⟩
abbrev cX12_isWord : ByteArray := prog_14_method_33_code
def yX12_isWord : MethodName := ⟨RX12, "isWord", "(I)Z"⟩
abbrev cX12_isSign : ByteArray := prog_14_method_34_code
def yX12_isSign : MethodName := ⟨RX12, "isSign", "(I)Z"⟩
abbrev cX12_emits : ByteArray := prog_14_method_35_code
def yX12_emits : MethodName := ⟨RX12, "emits", "(III)V"⟩
abbrev cX12_readNumber : ByteArray := prog_14_method_36_code
def yX12_readNumber : MethodName := ⟨RX12, "readNumber", "()I"⟩
abbrev cX12_readUnit : ByteArray := prog_14_method_37_code
def yX12_readUnit : MethodName := ⟨RX12, "readUnit", "(I)I"⟩
abbrev cX12_readSum : ByteArray := prog_14_method_38_code
def yX12_readSum : MethodName := ⟨RX12, "readSum", "()I"⟩
abbrev cX12_readIf : ByteArray := prog_14_method_39_code
def yX12_readIf : MethodName := ⟨RX12, "readIf", "()I"⟩
abbrev cX12_readAgain : ByteArray := prog_14_method_40_code
def yX12_readAgain : MethodName := ⟨RX12, "readAgain", "()I"⟩
abbrev cX12_readPlain : ByteArray := prog_14_method_41_code
def yX12_readPlain : MethodName := ⟨RX12, "readPlain", "()I"⟩
abbrev cX12_isInAgain : ByteArray := prog_14_method_42_code
def yX12_isInAgain : MethodName := ⟨RX12, "isInAgain", "()Z"⟩
abbrev cX12_closes : ByteArray := prog_14_method_43_code
def yX12_closes : MethodName := ⟨RX12, "closes", "()V"⟩
abbrev cX12_ends : ByteArray := prog_14_method_44_code
def yX12_ends : MethodName := ⟨RX12, "ends", "()I"⟩
abbrev cX12_readAll : ByteArray := prog_14_method_45_code
def yX12_readAll : MethodName := ⟨RX12, "readAll", "()I"⟩
abbrev cX12_way : ByteArray := prog_14_method_46_code
def yX12_way : MethodName := ⟨RX12, "way", "(I)Z"⟩
abbrev cX12_fault : ByteArray := prog_14_method_47_code
def yX12_fault : MethodName := ⟨RX12, "fault", "(I)I"⟩
abbrev cX12_pays : ByteArray := prog_14_method_48_code
def yX12_pays : MethodName := ⟨RX12, "pays", "()Z"⟩
abbrev cX12_waits : ByteArray := prog_14_method_49_code
def yX12_waits : MethodName := ⟨RX12, "waits", "(II)V"⟩
abbrev cX12_comes : ByteArray := prog_14_method_50_code
def yX12_comes : MethodName := ⟨RX12, "comes", "(III)V"⟩
abbrev cX12_goes : ByteArray := prog_14_method_51_code
def yX12_goes : MethodName := ⟨RX12, "goes", "(III)V"⟩
abbrev cX12_askedOf : ByteArray := prog_14_method_52_code
def yX12_askedOf : MethodName := ⟨RX12, "askedOf", "(II)I"⟩
abbrev cX12_sumOf : ByteArray := prog_14_method_53_code
def yX12_sumOf : MethodName := ⟨RX12, "sumOf", "(IIII)I"⟩
abbrev cX12_isSo : ByteArray := prog_14_method_54_code
def yX12_isSo : MethodName := ⟨RX12, "isSo", "(III)Z"⟩
abbrev cX12_doesPlain : ByteArray := prog_14_method_55_code
def yX12_doesPlain : MethodName := ⟨RX12, "doesPlain", "(IIII)V"⟩
abbrev cX12_runs : ByteArray := prog_14_method_56_code
def yX12_runs : MethodName := ⟨RX12, "runs", "(II)V"⟩
abbrev cX12_run : ByteArray := prog_14_method_57_code
def yX12_run : MethodName := ⟨RX12, "run", "(I)I"⟩
abbrev cX12_bridgeOf : ByteArray := prog_14_method_58_code
def yX12_bridgeOf : MethodName := ⟨RX12, "bridgeOf", "(II)I"⟩
abbrev cX12_cell : ByteArray := prog_14_method_59_code
def yX12_cell : MethodName := ⟨RX12, "cell", "(III)I"⟩
abbrev cX12_cellsAs : ByteArray := prog_14_method_60_code
def yX12_cellsAs : MethodName := ⟨RX12, "cellsAs", "(II)I"⟩
abbrev cX12_look : ByteArray := prog_14_method_61_code
def yX12_look : MethodName := ⟨RX12, "look", "(I)I"⟩
abbrev cX12_heat : ByteArray := prog_14_method_62_code
def yX12_heat : MethodName := ⟨RX12, "heat", "(I)J"⟩
abbrev cX12_ones : ByteArray := prog_14_method_63_code
def yX12_ones : MethodName := ⟨RX12, "ones", "(I)I"⟩
abbrev cX12_isOrder : ByteArray := prog_14_method_64_code
def yX12_isOrder : MethodName := ⟨RX12, "isOrder", "(III)Z"⟩
abbrev cX12_order : ByteArray := prog_14_method_65_code
def yX12_order : MethodName := ⟨RX12, "order", "(II)I"⟩
abbrev cX12_cutsThrough : ByteArray := prog_14_method_66_code
def yX12_cutsThrough : MethodName := ⟨RX12, "cutsThrough", "(III)Z"⟩
abbrev cX12_speed : ByteArray := prog_14_method_67_code
def yX12_speed : MethodName := ⟨RX12, "speed", "(II)I"⟩
abbrev cX12_kind : ByteArray := prog_14_method_68_code
def yX12_kind : MethodName := ⟨RX12, "kind", "(III)I"⟩
abbrev cX12_mostOf : ByteArray := prog_14_method_69_code
def yX12_mostOf : MethodName := ⟨RX12, "mostOf", "(II)I"⟩
abbrev cX12_fill : ByteArray := prog_14_method_70_code
def yX12_fill : MethodName := ⟨RX12, "fill", "(II)I"⟩
abbrev cX12_test : ByteArray := prog_14_method_71_code
def yX12_test : MethodName := ⟨RX12, "test", "(IIZI)Z"⟩
abbrev cX12_known : ByteArray := prog_14_method_72_code
def yX12_known : MethodName := ⟨RX12, "known", "(III)I"⟩
abbrev cX12_sparks : ByteArray := prog_14_method_73_code
def yX12_sparks : MethodName := ⟨RX12, "sparks", "()I"⟩
abbrev cX12_lost : ByteArray := prog_14_method_74_code
def yX12_lost : MethodName := ⟨RX12, "lost", "(II)I"⟩
def RJ6 : String := "java/lang/Integer"
def TJ6 : u_T := fun k => match k with
  | _ => ("", "", "", false)
def tyJ6 : Nat → FieldType := fun k => match k with
  | _ => .int
abbrev wsJ60 : List Cond := u_ws RJ6 TJ6 0
theorem nmJ6 : ∀ a, a < 0 → ∀ b, b < 0 → a ≠ b → (TJ6 a).2.1 ≠ (TJ6 b).2.1 := by decide +kernel
theorem tyJ6_ok : ∀ k, k < 0 → parseFieldDescriptor (TJ6 k).2.2.1 = some (tyJ6 k) := by decide +kernel
abbrev cJ6_bitCount_0f7a4 : ByteArray := prog_15_method_49_code
def yJ6_bitCount_0f7a4 : MethodName := ⟨RJ6, "bitCount", "(I)I"⟩
def RJ9 : String := "java/lang/Math"
def TJ9 : u_T := fun k => match k with
  | _ => ("", "", "", false)
def tyJ9 : Nat → FieldType := fun k => match k with
  | _ => .int
abbrev wsJ90 : List Cond := u_ws RJ9 TJ9 0
theorem nmJ9 : ∀ a, a < 0 → ∀ b, b < 0 → a ≠ b → (TJ9 a).2.1 ≠ (TJ9 b).2.1 := by decide +kernel
theorem tyJ9_ok : ∀ k, k < 0 → parseFieldDescriptor (TJ9 k).2.2.1 = some (tyJ9 k) := by decide +kernel
abbrev cJ9_abs_0f7a4 : ByteArray := prog_16_method_59_code
def yJ9_abs_0f7a4 : MethodName := ⟨RJ9, "abs", "(I)I"⟩
abbrev cJ9_max_7cf53 : ByteArray := prog_16_method_65_code
def yJ9_max_7cf53 : MethodName := ⟨RJ9, "max", "(II)I"⟩
abbrev cJ9_min_7cf53 : ByteArray := prog_16_method_69_code
def yJ9_min_7cf53 : MethodName := ⟨RJ9, "min", "(II)I"⟩
def RJ0 : String := "java/lang/String"
def TJ0 : u_T := fun k => match k with
  | _ => ("", "", "", false)
def tyJ0 : Nat → FieldType := fun k => match k with
  | _ => .int
abbrev wsJ00 : List Cond := u_ws RJ0 TJ0 0
theorem nmJ0 : ∀ a, a < 0 → ∀ b, b < 0 → a ≠ b → (TJ0 a).2.1 ≠ (TJ0 b).2.1 := by decide +kernel
theorem tyJ0_ok : ∀ k, k < 0 → parseFieldDescriptor (TJ0 k).2.2.1 = some (tyJ0 k) := by decide +kernel
abbrev cJ0_length_8abf5 : ByteArray := prog_17_method_54_code
def yJ0_length_8abf5 : MethodName := ⟨RJ0, "length", "()I"⟩
abbrev cJ0_charAt_5068e : ByteArray := prog_17_method_56_code
def yJ0_charAt_5068e : MethodName := ⟨RJ0, "charAt", "(I)C"⟩
abbrev cJ0_coder_7d493 : ByteArray := prog_17_method_152_code
def yJ0_coder_7d493 : MethodName := ⟨RJ0, "coder", "()B"⟩
abbrev cJ0_isLatin1_aae02 : ByteArray := prog_17_method_154_code
def yJ0_isLatin1_aae02 : MethodName := ⟨RJ0, "isLatin1", "()Z"⟩
abbrev cJ0_checkIndex_df160 : ByteArray := prog_17_method_155_code
def yJ0_checkIndex_df160 : MethodName := ⟨RJ0, "checkIndex", "(II)V"⟩
def RJ1 : String := "java/lang/StringLatin1"
def TJ1 : u_T := fun k => match k with
  | _ => ("", "", "", false)
def tyJ1 : Nat → FieldType := fun k => match k with
  | _ => .int
abbrev wsJ10 : List Cond := u_ws RJ1 TJ1 0
theorem nmJ1 : ∀ a, a < 0 → ∀ b, b < 0 → a ≠ b → (TJ1 a).2.1 ≠ (TJ1 b).2.1 := by decide +kernel
theorem tyJ1_ok : ∀ k, k < 0 → parseFieldDescriptor (TJ1 k).2.2.1 = some (tyJ1 k) := by decide +kernel
abbrev cJ1_charAt_3b067 : ByteArray := prog_18_method_2_code
def yJ1_charAt_3b067 : MethodName := ⟨RJ1, "charAt", "([BI)C"⟩
def RJ2 : String := "java/lang/StringUTF16"
def TJ2 : u_T := fun k => match k with
  | _ => ("", "", "", false)
def tyJ2 : Nat → FieldType := fun k => match k with
  | _ => .int
abbrev wsJ20 : List Cond := u_ws RJ2 TJ2 0
theorem nmJ2 : ∀ a, a < 0 → ∀ b, b < 0 → a ≠ b → (TJ2 a).2.1 ≠ (TJ2 b).2.1 := by decide +kernel
theorem tyJ2_ok : ∀ k, k < 0 → parseFieldDescriptor (TJ2 k).2.2.1 = some (tyJ2 k) := by decide +kernel
abbrev cJ2_getChar_3b067 : ByteArray := prog_19_method_5_code
def yJ2_getChar_3b067 : MethodName := ⟨RJ2, "getChar", "([BI)C"⟩
abbrev cJ2_length_9d52b : ByteArray := prog_19_method_6_code
def yJ2_length_9d52b : MethodName := ⟨RJ2, "length", "([B)I"⟩
abbrev cJ2_charAt_3b067 : ByteArray := prog_19_method_83_code
def yJ2_charAt_3b067 : MethodName := ⟨RJ2, "charAt", "([BI)C"⟩
abbrev cJ2_checkIndex_2214a : ByteArray := prog_19_method_91_code
def yJ2_checkIndex_2214a : MethodName := ⟨RJ2, "checkIndex", "(I[B)V"⟩
def RJ10 : String := "java/lang/System"
def TJ10 : u_T := fun k => match k with
  | _ => ("", "", "", false)
def tyJ10 : Nat → FieldType := fun k => match k with
  | _ => .int
abbrev wsJ100 : List Cond := u_ws RJ10 TJ10 0
theorem nmJ10 : ∀ a, a < 0 → ∀ b, b < 0 → a ≠ b → (TJ10 a).2.1 ≠ (TJ10 b).2.1 := by decide +kernel
theorem tyJ10_ok : ∀ k, k < 0 → parseFieldDescriptor (TJ10 k).2.2.1 = some (tyJ10 k) := by decide +kernel
def RJ7 : String := "java/util/Arrays"
def TJ7 : u_T := fun k => match k with
  | _ => ("", "", "", false)
def tyJ7 : Nat → FieldType := fun k => match k with
  | _ => .int
abbrev wsJ70 : List Cond := u_ws RJ7 TJ7 0
theorem nmJ7 : ∀ a, a < 0 → ∀ b, b < 0 → a ≠ b → (TJ7 a).2.1 ≠ (TJ7 b).2.1 := by decide +kernel
theorem tyJ7_ok : ∀ k, k < 0 → parseFieldDescriptor (TJ7 k).2.2.1 = some (tyJ7 k) := by decide +kernel
abbrev cJ7_fill_53178 : ByteArray := prog_21_method_103_code
def yJ7_fill_53178 : MethodName := ⟨RJ7, "fill", "([II)V"⟩
def RJ3 : String := "jdk/internal/util/Preconditions"
def TJ3 : u_T := fun k => match k with
  | _ => ("", "", "", false)
def tyJ3 : Nat → FieldType := fun k => match k with
  | _ => .int
abbrev wsJ30 : List Cond := u_ws RJ3 TJ3 0
theorem nmJ3 : ∀ a, a < 0 → ∀ b, b < 0 → a ≠ b → (TJ3 a).2.1 ≠ (TJ3 b).2.1 := by decide +kernel
theorem tyJ3_ok : ∀ k, k < 0 → parseFieldDescriptor (TJ3 k).2.2.1 = some (tyJ3 k) := by decide +kernel
abbrev cJ3_checkIndex_8e157 : ByteArray := prog_22_method_11_code
def yJ3_checkIndex_8e157 : MethodName := ⟨RJ3, "checkIndex", "(IILjava/util/function/BiFunction;)I"⟩
def RL : String := "BeamPlateLaw"
abbrev cL_law : ByteArray := code
def yL_law : MethodName := ⟨RL, "law", "([I)Z"⟩
abbrev vwCl : List vw_C := [(RX0, TX0, 5), (RX1, TX1, 5), (RX2, TX2, 5), (RX3, TX3, 18), (RX4, TX4, 8), (RX5, TX5, 2), (RX6, TX6, 3), (RX7, TX7, 6), (RX8, TX8, 3), (RX9, TX9, 7), (RX10, TX10, 8), (RX11, TX11, 11), (RX12, TX12, 74)]
