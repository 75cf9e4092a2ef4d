section
-- ===== PART A: goes FIRST, ahead of the names: the tables' words, and 'selects' of the private methods out of them =====
/-- a private method of a class that the tables say can be made, by its rows of tables_1 -/
def lw_okq (q : MethodName × Nat) : Prop := (q.1.cls ≠ "java/lang/invoke/MethodHandle" ∧ q.1.cls ≠ "java/lang/invoke/VarHandle") ∧ Cond.instantiable q.1.cls q.2 ∈ tables_1 ∧ Cond.privateMethod q.1 ∈ tables_1 ∧ Cond.instanceMethod q.1 ∈ tables_1
theorem lw_p0 : lw_okq (⟨"BeamPlate$Tokens", "takeWord", "(LBeamPlate$Row;I)I"⟩, 3) := ⟨⟨by decide +kernel, by decide +kernel⟩, List.mem_of_getElem? (i := 105) (by decide +kernel), List.mem_of_getElem? (i := 507) (by decide +kernel), List.mem_of_getElem? (i := 508) (by decide +kernel)⟩
theorem lw_p1 : lw_okq (⟨"BeamPlate$Tokens", "keep", "(III)V"⟩, 3) := ⟨⟨by decide +kernel, by decide +kernel⟩, List.mem_of_getElem? (i := 105) (by decide +kernel), List.mem_of_getElem? (i := 567) (by decide +kernel), List.mem_of_getElem? (i := 568) (by decide +kernel)⟩
theorem lw_p2 : lw_okq (⟨"BeamPlate$Tokens", "takeNumber", "(LBeamPlate$Row;I)I"⟩, 3) := ⟨⟨by decide +kernel, by decide +kernel⟩, List.mem_of_getElem? (i := 105) (by decide +kernel), List.mem_of_getElem? (i := 575) (by decide +kernel), List.mem_of_getElem? (i := 576) (by decide +kernel)⟩
theorem lw_p3 : lw_okq (⟨"BeamPlate$Reader", "readStep", "()V"⟩, 8) := ⟨⟨by decide +kernel, by decide +kernel⟩, List.mem_of_getElem? (i := 97) (by decide +kernel), List.mem_of_getElem? (i := 587) (by decide +kernel), List.mem_of_getElem? (i := 588) (by decide +kernel)⟩
theorem lw_p4 : lw_okq (⟨"BeamPlate$Reader", "fail", "(I)V"⟩, 8) := ⟨⟨by decide +kernel, by decide +kernel⟩, List.mem_of_getElem? (i := 97) (by decide +kernel), List.mem_of_getElem? (i := 591) (by decide +kernel), List.mem_of_getElem? (i := 592) (by decide +kernel)⟩
theorem lw_p5 : lw_okq (⟨"BeamPlate$Reader", "advance", "()V"⟩, 8) := ⟨⟨by decide +kernel, by decide +kernel⟩, List.mem_of_getElem? (i := 97) (by decide +kernel), List.mem_of_getElem? (i := 596) (by decide +kernel), List.mem_of_getElem? (i := 597) (by decide +kernel)⟩
theorem lw_p6 : lw_okq (⟨"BeamPlate$Reader", "readNumber", "(II)V"⟩, 8) := ⟨⟨by decide +kernel, by decide +kernel⟩, List.mem_of_getElem? (i := 97) (by decide +kernel), List.mem_of_getElem? (i := 600) (by decide +kernel), List.mem_of_getElem? (i := 601) (by decide +kernel)⟩
theorem lw_p7 : lw_okq (⟨"BeamPlate$Reader", "readSide", "()V"⟩, 8) := ⟨⟨by decide +kernel, by decide +kernel⟩, List.mem_of_getElem? (i := 97) (by decide +kernel), List.mem_of_getElem? (i := 604) (by decide +kernel), List.mem_of_getElem? (i := 605) (by decide +kernel)⟩
theorem lw_p8 : lw_okq (⟨"BeamPlate$Reader", "openAgain", "()V"⟩, 8) := ⟨⟨by decide +kernel, by decide +kernel⟩, List.mem_of_getElem? (i := 97) (by decide +kernel), List.mem_of_getElem? (i := 608) (by decide +kernel), List.mem_of_getElem? (i := 609) (by decide +kernel)⟩
theorem lw_p9 : lw_okq (⟨"BeamPlate$Reader", "expect", "(I)V"⟩, 8) := ⟨⟨by decide +kernel, by decide +kernel⟩, List.mem_of_getElem? (i := 97) (by decide +kernel), List.mem_of_getElem? (i := 612) (by decide +kernel), List.mem_of_getElem? (i := 613) (by decide +kernel)⟩
theorem lw_p10 : lw_okq (⟨"BeamPlate$Reader", "openIf", "()V"⟩, 8) := ⟨⟨by decide +kernel, by decide +kernel⟩, List.mem_of_getElem? (i := 97) (by decide +kernel), List.mem_of_getElem? (i := 616) (by decide +kernel), List.mem_of_getElem? (i := 617) (by decide +kernel)⟩
theorem lw_p11 : lw_okq (⟨"BeamPlate$Reader", "readSum", "()I"⟩, 8) := ⟨⟨by decide +kernel, by decide +kernel⟩, List.mem_of_getElem? (i := 97) (by decide +kernel), List.mem_of_getElem? (i := 620) (by decide +kernel), List.mem_of_getElem? (i := 621) (by decide +kernel)⟩
theorem lw_p12 : lw_okq (⟨"BeamPlate$Reader", "readTerm", "(Z)V"⟩, 8) := ⟨⟨by decide +kernel, by decide +kernel⟩, List.mem_of_getElem? (i := 97) (by decide +kernel), List.mem_of_getElem? (i := 624) (by decide +kernel), List.mem_of_getElem? (i := 625) (by decide +kernel)⟩
theorem lw_p13 : lw_okq (⟨"BeamPlate$Reader", "closeStep", "()V"⟩, 8) := ⟨⟨by decide +kernel, by decide +kernel⟩, List.mem_of_getElem? (i := 97) (by decide +kernel), List.mem_of_getElem? (i := 632) (by decide +kernel), List.mem_of_getElem? (i := 633) (by decide +kernel)⟩
theorem lw_p14 : lw_okq (⟨"BeamPlate$Reader", "innermost", "()I"⟩, 8) := ⟨⟨by decide +kernel, by decide +kernel⟩, List.mem_of_getElem? (i := 97) (by decide +kernel), List.mem_of_getElem? (i := 636) (by decide +kernel), List.mem_of_getElem? (i := 637) (by decide +kernel)⟩
theorem lw_p15 : lw_okq (⟨"BeamPlate$Reader", "dropInnermost", "()V"⟩, 8) := ⟨⟨by decide +kernel, by decide +kernel⟩, List.mem_of_getElem? (i := 97) (by decide +kernel), List.mem_of_getElem? (i := 640) (by decide +kernel), List.mem_of_getElem? (i := 641) (by decide +kernel)⟩
def lw_privs_1 : List (MethodName × Nat) := [(⟨"BeamPlate$Tokens", "takeWord", "(LBeamPlate$Row;I)I"⟩, 3), (⟨"BeamPlate$Tokens", "keep", "(III)V"⟩, 3), (⟨"BeamPlate$Tokens", "takeNumber", "(LBeamPlate$Row;I)I"⟩, 3), (⟨"BeamPlate$Reader", "readStep", "()V"⟩, 8), (⟨"BeamPlate$Reader", "fail", "(I)V"⟩, 8), (⟨"BeamPlate$Reader", "advance", "()V"⟩, 8), (⟨"BeamPlate$Reader", "readNumber", "(II)V"⟩, 8), (⟨"BeamPlate$Reader", "readSide", "()V"⟩, 8), (⟨"BeamPlate$Reader", "openAgain", "()V"⟩, 8), (⟨"BeamPlate$Reader", "expect", "(I)V"⟩, 8), (⟨"BeamPlate$Reader", "openIf", "()V"⟩, 8), (⟨"BeamPlate$Reader", "readSum", "()I"⟩, 8), (⟨"BeamPlate$Reader", "readTerm", "(Z)V"⟩, 8), (⟨"BeamPlate$Reader", "closeStep", "()V"⟩, 8), (⟨"BeamPlate$Reader", "innermost", "()I"⟩, 8), (⟨"BeamPlate$Reader", "dropInnermost", "()V"⟩, 8)]
theorem lw_r1 : ∀ q ∈ lw_privs_1, lw_okq q := List.forall_mem_cons.mpr ⟨lw_p0, List.forall_mem_cons.mpr ⟨lw_p1, List.forall_mem_cons.mpr ⟨lw_p2, List.forall_mem_cons.mpr ⟨lw_p3, List.forall_mem_cons.mpr ⟨lw_p4, List.forall_mem_cons.mpr ⟨lw_p5, List.forall_mem_cons.mpr ⟨lw_p6, List.forall_mem_cons.mpr ⟨lw_p7, List.forall_mem_cons.mpr ⟨lw_p8, List.forall_mem_cons.mpr ⟨lw_p9, List.forall_mem_cons.mpr ⟨lw_p10, List.forall_mem_cons.mpr ⟨lw_p11, List.forall_mem_cons.mpr ⟨lw_p12, List.forall_mem_cons.mpr ⟨lw_p13, List.forall_mem_cons.mpr ⟨lw_p14, List.forall_mem_cons.mpr ⟨lw_p15, fun _ h => absurd h List.not_mem_nil⟩⟩⟩⟩⟩⟩⟩⟩⟩⟩⟩⟩⟩⟩⟩⟩
theorem lw_p16 : lw_okq (⟨"BeamPlate$Reader", "closeAgain", "()V"⟩, 8) := ⟨⟨by decide +kernel, by decide +kernel⟩, List.mem_of_getElem? (i := 97) (by decide +kernel), List.mem_of_getElem? (i := 645) (by decide +kernel), List.mem_of_getElem? (i := 646) (by decide +kernel)⟩
theorem lw_p17 : lw_okq (⟨"BeamPlate$Runner", "travel", "(LBeamPlate$Plate;LBeamPlate$Works;II)V"⟩, 3) := ⟨⟨by decide +kernel, by decide +kernel⟩, List.mem_of_getElem? (i := 298) (by decide +kernel), List.mem_of_getElem? (i := 692) (by decide +kernel), List.mem_of_getElem? (i := 693) (by decide +kernel)⟩
theorem lw_p18 : lw_okq (⟨"BeamPlate$Plate", "giveHeat", "(I)V"⟩, 18) := ⟨⟨by decide +kernel, by decide +kernel⟩, List.mem_of_getElem? (i := 154) (by decide +kernel), List.mem_of_getElem? (i := 707) (by decide +kernel), List.mem_of_getElem? (i := 708) (by decide +kernel)⟩
theorem lw_p19 : lw_okq (⟨"BeamPlate$Plate", "leadHeat", "(I)V"⟩, 18) := ⟨⟨by decide +kernel, by decide +kernel⟩, List.mem_of_getElem? (i := 154) (by decide +kernel), List.mem_of_getElem? (i := 717) (by decide +kernel), List.mem_of_getElem? (i := 718) (by decide +kernel)⟩
theorem lw_p20 : lw_okq (⟨"BeamPlate$Plate", "leadBetween", "(III)V"⟩, 18) := ⟨⟨by decide +kernel, by decide +kernel⟩, List.mem_of_getElem? (i := 154) (by decide +kernel), List.mem_of_getElem? (i := 721) (by decide +kernel), List.mem_of_getElem? (i := 722) (by decide +kernel)⟩
theorem lw_p21 : lw_okq (⟨"BeamPlate$Plate", "loseHeat", "(I)V"⟩, 18) := ⟨⟨by decide +kernel, by decide +kernel⟩, List.mem_of_getElem? (i := 154) (by decide +kernel), List.mem_of_getElem? (i := 725) (by decide +kernel), List.mem_of_getElem? (i := 726) (by decide +kernel)⟩
theorem lw_p22 : lw_okq (⟨"BeamPlate$Plate", "cutMolten", "(I)Z"⟩, 18) := ⟨⟨by decide +kernel, by decide +kernel⟩, List.mem_of_getElem? (i := 154) (by decide +kernel), List.mem_of_getElem? (i := 729) (by decide +kernel), List.mem_of_getElem? (i := 730) (by decide +kernel)⟩
theorem lw_p23 : lw_okq (⟨"BeamPlate$Plate", "takeAway", "(II)V"⟩, 18) := ⟨⟨by decide +kernel, by decide +kernel⟩, List.mem_of_getElem? (i := 154) (by decide +kernel), List.mem_of_getElem? (i := 733) (by decide +kernel), List.mem_of_getElem? (i := 734) (by decide +kernel)⟩
theorem lw_p24 : lw_okq (⟨"BeamPlate$Plate", "burnHot", "(I)V"⟩, 18) := ⟨⟨by decide +kernel, by decide +kernel⟩, List.mem_of_getElem? (i := 154) (by decide +kernel), List.mem_of_getElem? (i := 737) (by decide +kernel), List.mem_of_getElem? (i := 738) (by decide +kernel)⟩
theorem lw_p25 : lw_okq (⟨"BeamPlate$Plate", "loosenParts", "(LBeamPlate$Works;)V"⟩, 18) := ⟨⟨by decide +kernel, by decide +kernel⟩, List.mem_of_getElem? (i := 154) (by decide +kernel), List.mem_of_getElem? (i := 741) (by decide +kernel), List.mem_of_getElem? (i := 742) (by decide +kernel)⟩
theorem lw_p26 : lw_okq (⟨"BeamPlate$Part", "take", "(LBeamPlate$Plate;I)V"⟩, 5) := ⟨⟨by decide +kernel, by decide +kernel⟩, List.mem_of_getElem? (i := 198) (by decide +kernel), List.mem_of_getElem? (i := 754) (by decide +kernel), List.mem_of_getElem? (i := 755) (by decide +kernel)⟩
theorem lw_p27 : lw_okq (⟨"BeamPlate$Plate", "settlePart", "(LBeamPlate$Works;)V"⟩, 18) := ⟨⟨by decide +kernel, by decide +kernel⟩, List.mem_of_getElem? (i := 154) (by decide +kernel), List.mem_of_getElem? (i := 762) (by decide +kernel), List.mem_of_getElem? (i := 763) (by decide +kernel)⟩
theorem lw_p28 : lw_okq (⟨"BeamPlate$Runner", "stay", "(LBeamPlate$Plate;LBeamPlate$Works;I)V"⟩, 3) := ⟨⟨by decide +kernel, by decide +kernel⟩, List.mem_of_getElem? (i := 298) (by decide +kernel), List.mem_of_getElem? (i := 770) (by decide +kernel), List.mem_of_getElem? (i := 771) (by decide +kernel)⟩
theorem lw_p29 : lw_okq (⟨"BeamPlate$Runner", "setTurns", "(II)V"⟩, 3) := ⟨⟨by decide +kernel, by decide +kernel⟩, List.mem_of_getElem? (i := 298) (by decide +kernel), List.mem_of_getElem? (i := 774) (by decide +kernel), List.mem_of_getElem? (i := 775) (by decide +kernel)⟩
theorem lw_p30 : lw_okq (⟨"BeamPlate$Runner", "turns", "(I)I"⟩, 3) := ⟨⟨by decide +kernel, by decide +kernel⟩, List.mem_of_getElem? (i := 298) (by decide +kernel), List.mem_of_getElem? (i := 779) (by decide +kernel), List.mem_of_getElem? (i := 780) (by decide +kernel)⟩
theorem lw_p31 : lw_okq (⟨"BeamPlate$Runner", "isSo", "(LBeamPlate$Row;ILBeamPlate$Plate;)Z"⟩, 3) := ⟨⟨by decide +kernel, by decide +kernel⟩, List.mem_of_getElem? (i := 298) (by decide +kernel), List.mem_of_getElem? (i := 783) (by decide +kernel), List.mem_of_getElem? (i := 784) (by decide +kernel)⟩
def lw_privs_2 : List (MethodName × Nat) := [(⟨"BeamPlate$Reader", "closeAgain", "()V"⟩, 8), (⟨"BeamPlate$Runner", "travel", "(LBeamPlate$Plate;LBeamPlate$Works;II)V"⟩, 3), (⟨"BeamPlate$Plate", "giveHeat", "(I)V"⟩, 18), (⟨"BeamPlate$Plate", "leadHeat", "(I)V"⟩, 18), (⟨"BeamPlate$Plate", "leadBetween", "(III)V"⟩, 18), (⟨"BeamPlate$Plate", "loseHeat", "(I)V"⟩, 18), (⟨"BeamPlate$Plate", "cutMolten", "(I)Z"⟩, 18), (⟨"BeamPlate$Plate", "takeAway", "(II)V"⟩, 18), (⟨"BeamPlate$Plate", "burnHot", "(I)V"⟩, 18), (⟨"BeamPlate$Plate", "loosenParts", "(LBeamPlate$Works;)V"⟩, 18), (⟨"BeamPlate$Part", "take", "(LBeamPlate$Plate;I)V"⟩, 5), (⟨"BeamPlate$Plate", "settlePart", "(LBeamPlate$Works;)V"⟩, 18), (⟨"BeamPlate$Runner", "stay", "(LBeamPlate$Plate;LBeamPlate$Works;I)V"⟩, 3), (⟨"BeamPlate$Runner", "setTurns", "(II)V"⟩, 3), (⟨"BeamPlate$Runner", "turns", "(I)I"⟩, 3), (⟨"BeamPlate$Runner", "isSo", "(LBeamPlate$Row;ILBeamPlate$Plate;)Z"⟩, 3)]
theorem lw_r2 : ∀ q ∈ lw_privs_2, lw_okq q := List.forall_mem_cons.mpr ⟨lw_p16, List.forall_mem_cons.mpr ⟨lw_p17, List.forall_mem_cons.mpr ⟨lw_p18, List.forall_mem_cons.mpr ⟨lw_p19, List.forall_mem_cons.mpr ⟨lw_p20, List.forall_mem_cons.mpr ⟨lw_p21, List.forall_mem_cons.mpr ⟨lw_p22, List.forall_mem_cons.mpr ⟨lw_p23, List.forall_mem_cons.mpr ⟨lw_p24, List.forall_mem_cons.mpr ⟨lw_p25, List.forall_mem_cons.mpr ⟨lw_p26, List.forall_mem_cons.mpr ⟨lw_p27, List.forall_mem_cons.mpr ⟨lw_p28, List.forall_mem_cons.mpr ⟨lw_p29, List.forall_mem_cons.mpr ⟨lw_p30, List.forall_mem_cons.mpr ⟨lw_p31, fun _ h => absurd h List.not_mem_nil⟩⟩⟩⟩⟩⟩⟩⟩⟩⟩⟩⟩⟩⟩⟩⟩
theorem lw_p32 : lw_okq (⟨"BeamPlate$Runner", "sum", "(LBeamPlate$Row;IILBeamPlate$Plate;)J"⟩, 3) := ⟨⟨by decide +kernel, by decide +kernel⟩, List.mem_of_getElem? (i := 298) (by decide +kernel), List.mem_of_getElem? (i := 787) (by decide +kernel), List.mem_of_getElem? (i := 788) (by decide +kernel)⟩
theorem lw_p33 : lw_okq (⟨"BeamPlate$Runner", "valueOf", "(IILBeamPlate$Plate;)I"⟩, 3) := ⟨⟨by decide +kernel, by decide +kernel⟩, List.mem_of_getElem? (i := 298) (by decide +kernel), List.mem_of_getElem? (i := 794) (by decide +kernel), List.mem_of_getElem? (i := 795) (by decide +kernel)⟩
theorem lw_p34 : lw_okq (⟨"BeamPlate$Plate", "spreadCosts", "()Z"⟩, 18) := ⟨⟨by decide +kernel, by decide +kernel⟩, List.mem_of_getElem? (i := 154) (by decide +kernel), List.mem_of_getElem? (i := 823) (by decide +kernel), List.mem_of_getElem? (i := 824) (by decide +kernel)⟩
theorem lw_p35 : lw_okq (⟨"BeamPlate$Plate", "costAt", "(II)I"⟩, 18) := ⟨⟨by decide +kernel, by decide +kernel⟩, List.mem_of_getElem? (i := 154) (by decide +kernel), List.mem_of_getElem? (i := 829) (by decide +kernel), List.mem_of_getElem? (i := 830) (by decide +kernel)⟩
theorem lw_p36 : lw_okq (⟨"BeamPlate$Trials", "choose", "(I)I"⟩, 7) := ⟨⟨by decide +kernel, by decide +kernel⟩, List.mem_of_getElem? (i := 314) (by decide +kernel), List.mem_of_getElem? (i := 877) (by decide +kernel), List.mem_of_getElem? (i := 878) (by decide +kernel)⟩
theorem lw_p37 : lw_okq (⟨"BeamPlate$Trials", "keepIfBetter", "(III)V"⟩, 7) := ⟨⟨by decide +kernel, by decide +kernel⟩, List.mem_of_getElem? (i := 314) (by decide +kernel), List.mem_of_getElem? (i := 898) (by decide +kernel), List.mem_of_getElem? (i := 899) (by decide +kernel)⟩
theorem lw_p38 : lw_okq (⟨"BeamPlate$Trials", "noneIsThereBehind", "(II)Z"⟩, 7) := ⟨⟨by decide +kernel, by decide +kernel⟩, List.mem_of_getElem? (i := 314) (by decide +kernel), List.mem_of_getElem? (i := 914) (by decide +kernel), List.mem_of_getElem? (i := 915) (by decide +kernel)⟩
theorem lw_p39 : lw_okq (⟨"BeamPlate$Filling", "fillAll", "()V"⟩, 5) := ⟨⟨by decide +kernel, by decide +kernel⟩, List.mem_of_getElem? (i := 351) (by decide +kernel), List.mem_of_getElem? (i := 929) (by decide +kernel), List.mem_of_getElem? (i := 930) (by decide +kernel)⟩
theorem lw_p40 : lw_okq (⟨"BeamPlate$Filling", "bestKind", "(II)I"⟩, 5) := ⟨⟨by decide +kernel, by decide +kernel⟩, List.mem_of_getElem? (i := 351) (by decide +kernel), List.mem_of_getElem? (i := 933) (by decide +kernel), List.mem_of_getElem? (i := 934) (by decide +kernel)⟩
theorem lw_p41 : lw_okq (⟨"BeamPlate$Filling", "bestCut", "(II)I"⟩, 5) := ⟨⟨by decide +kernel, by decide +kernel⟩, List.mem_of_getElem? (i := 351) (by decide +kernel), List.mem_of_getElem? (i := 938) (by decide +kernel), List.mem_of_getElem? (i := 939) (by decide +kernel)⟩
theorem lw_p42 : lw_okq (⟨"BeamPlateModel", "isIn", "(III)Z"⟩, 74) := ⟨⟨by decide +kernel, by decide +kernel⟩, List.mem_of_getElem? (i := 985) (by decide +kernel), List.mem_of_getElem? (i := 1219) (by decide +kernel), List.mem_of_getElem? (i := 1220) (by decide +kernel)⟩
theorem lw_p43 : lw_okq (⟨"BeamPlateModel", "puts", "(I)V"⟩, 74) := ⟨⟨by decide +kernel, by decide +kernel⟩, List.mem_of_getElem? (i := 985) (by decide +kernel), List.mem_of_getElem? (i := 1239) (by decide +kernel), List.mem_of_getElem? (i := 1240) (by decide +kernel)⟩
theorem lw_p44 : lw_okq (⟨"BeamPlateModel", "readAll", "()I"⟩, 74) := ⟨⟨by decide +kernel, by decide +kernel⟩, List.mem_of_getElem? (i := 985) (by decide +kernel), List.mem_of_getElem? (i := 1251) (by decide +kernel), List.mem_of_getElem? (i := 1252) (by decide +kernel)⟩
theorem lw_p45 : lw_okq (⟨"BeamPlateModel", "reads", "()V"⟩, 74) := ⟨⟨by decide +kernel, by decide +kernel⟩, List.mem_of_getElem? (i := 985) (by decide +kernel), List.mem_of_getElem? (i := 1255) (by decide +kernel), List.mem_of_getElem? (i := 1256) (by decide +kernel)⟩
theorem lw_p46 : lw_okq (⟨"BeamPlateModel", "raw", "(I)I"⟩, 74) := ⟨⟨by decide +kernel, by decide +kernel⟩, List.mem_of_getElem? (i := 985) (by decide +kernel), List.mem_of_getElem? (i := 1259) (by decide +kernel), List.mem_of_getElem? (i := 1260) (by decide +kernel)⟩
theorem lw_p47 : lw_okq (⟨"BeamPlateModel", "isLetter", "(I)Z"⟩, 74) := ⟨⟨by decide +kernel, by decide +kernel⟩, List.mem_of_getElem? (i := 985) (by decide +kernel), List.mem_of_getElem? (i := 1263) (by decide +kernel), List.mem_of_getElem? (i := 1264) (by decide +kernel)⟩
def lw_privs_3 : List (MethodName × Nat) := [(⟨"BeamPlate$Runner", "sum", "(LBeamPlate$Row;IILBeamPlate$Plate;)J"⟩, 3), (⟨"BeamPlate$Runner", "valueOf", "(IILBeamPlate$Plate;)I"⟩, 3), (⟨"BeamPlate$Plate", "spreadCosts", "()Z"⟩, 18), (⟨"BeamPlate$Plate", "costAt", "(II)I"⟩, 18), (⟨"BeamPlate$Trials", "choose", "(I)I"⟩, 7), (⟨"BeamPlate$Trials", "keepIfBetter", "(III)V"⟩, 7), (⟨"BeamPlate$Trials", "noneIsThereBehind", "(II)Z"⟩, 7), (⟨"BeamPlate$Filling", "fillAll", "()V"⟩, 5), (⟨"BeamPlate$Filling", "bestKind", "(II)I"⟩, 5), (⟨"BeamPlate$Filling", "bestCut", "(II)I"⟩, 5), (⟨"BeamPlateModel", "isIn", "(III)Z"⟩, 74), (⟨"BeamPlateModel", "puts", "(I)V"⟩, 74), (⟨"BeamPlateModel", "readAll", "()I"⟩, 74), (⟨"BeamPlateModel", "reads", "()V"⟩, 74), (⟨"BeamPlateModel", "raw", "(I)I"⟩, 74), (⟨"BeamPlateModel", "isLetter", "(I)Z"⟩, 74)]
theorem lw_r3 : ∀ q ∈ lw_privs_3, lw_okq q := List.forall_mem_cons.mpr ⟨lw_p32, List.forall_mem_cons.mpr ⟨lw_p33, List.forall_mem_cons.mpr ⟨lw_p34, List.forall_mem_cons.mpr ⟨lw_p35, List.forall_mem_cons.mpr ⟨lw_p36, List.forall_mem_cons.mpr ⟨lw_p37, List.forall_mem_cons.mpr ⟨lw_p38, List.forall_mem_cons.mpr ⟨lw_p39, List.forall_mem_cons.mpr ⟨lw_p40, List.forall_mem_cons.mpr ⟨lw_p41, List.forall_mem_cons.mpr ⟨lw_p42, List.forall_mem_cons.mpr ⟨lw_p43, List.forall_mem_cons.mpr ⟨lw_p44, List.forall_mem_cons.mpr ⟨lw_p45, List.forall_mem_cons.mpr ⟨lw_p46, List.forall_mem_cons.mpr ⟨lw_p47, fun _ h => absurd h List.not_mem_nil⟩⟩⟩⟩⟩⟩⟩⟩⟩⟩⟩⟩⟩⟩⟩⟩
theorem lw_p48 : lw_okq (⟨"BeamPlateModel", "wordAt", "(II)I"⟩, 74) := ⟨⟨by decide +kernel, by decide +kernel⟩, List.mem_of_getElem? (i := 985) (by decide +kernel), List.mem_of_getElem? (i := 1267) (by decide +kernel), List.mem_of_getElem? (i := 1268) (by decide +kernel)⟩
theorem lw_p49 : lw_okq (⟨"BeamPlateModel", "isDigit", "(I)Z"⟩, 74) := ⟨⟨by decide +kernel, by decide +kernel⟩, List.mem_of_getElem? (i := 985) (by decide +kernel), List.mem_of_getElem? (i := 1271) (by decide +kernel), List.mem_of_getElem? (i := 1272) (by decide +kernel)⟩
theorem lw_p50 : lw_okq (⟨"BeamPlateModel", "isMarkSign", "(I)Z"⟩, 74) := ⟨⟨by decide +kernel, by decide +kernel⟩, List.mem_of_getElem? (i := 985) (by decide +kernel), List.mem_of_getElem? (i := 1275) (by decide +kernel), List.mem_of_getElem? (i := 1276) (by decide +kernel)⟩
theorem lw_p51 : lw_okq (⟨"BeamPlateModel", "isWord", "(I)Z"⟩, 74) := ⟨⟨by decide +kernel, by decide +kernel⟩, List.mem_of_getElem? (i := 985) (by decide +kernel), List.mem_of_getElem? (i := 1279) (by decide +kernel), List.mem_of_getElem? (i := 1280) (by decide +kernel)⟩
theorem lw_p52 : lw_okq (⟨"BeamPlateModel", "isInAgain", "()Z"⟩, 74) := ⟨⟨by decide +kernel, by decide +kernel⟩, List.mem_of_getElem? (i := 985) (by decide +kernel), List.mem_of_getElem? (i := 1283) (by decide +kernel), List.mem_of_getElem? (i := 1284) (by decide +kernel)⟩
theorem lw_p53 : lw_okq (⟨"BeamPlateModel", "closes", "()V"⟩, 74) := ⟨⟨by decide +kernel, by decide +kernel⟩, List.mem_of_getElem? (i := 985) (by decide +kernel), List.mem_of_getElem? (i := 1287) (by decide +kernel), List.mem_of_getElem? (i := 1288) (by decide +kernel)⟩
theorem lw_p54 : lw_okq (⟨"BeamPlateModel", "emits", "(III)V"⟩, 74) := ⟨⟨by decide +kernel, by decide +kernel⟩, List.mem_of_getElem? (i := 985) (by decide +kernel), List.mem_of_getElem? (i := 1291) (by decide +kernel), List.mem_of_getElem? (i := 1292) (by decide +kernel)⟩
theorem lw_p55 : lw_okq (⟨"BeamPlateModel", "ends", "()I"⟩, 74) := ⟨⟨by decide +kernel, by decide +kernel⟩, List.mem_of_getElem? (i := 985) (by decide +kernel), List.mem_of_getElem? (i := 1295) (by decide +kernel), List.mem_of_getElem? (i := 1296) (by decide +kernel)⟩
theorem lw_p56 : lw_okq (⟨"BeamPlateModel", "isSign", "(I)Z"⟩, 74) := ⟨⟨by decide +kernel, by decide +kernel⟩, List.mem_of_getElem? (i := 985) (by decide +kernel), List.mem_of_getElem? (i := 1299) (by decide +kernel), List.mem_of_getElem? (i := 1300) (by decide +kernel)⟩
theorem lw_p57 : lw_okq (⟨"BeamPlateModel", "fails", "(I)I"⟩, 74) := ⟨⟨by decide +kernel, by decide +kernel⟩, List.mem_of_getElem? (i := 985) (by decide +kernel), List.mem_of_getElem? (i := 1303) (by decide +kernel), List.mem_of_getElem? (i := 1304) (by decide +kernel)⟩
theorem lw_p58 : lw_okq (⟨"BeamPlateModel", "readIf", "()I"⟩, 74) := ⟨⟨by decide +kernel, by decide +kernel⟩, List.mem_of_getElem? (i := 985) (by decide +kernel), List.mem_of_getElem? (i := 1307) (by decide +kernel), List.mem_of_getElem? (i := 1308) (by decide +kernel)⟩
theorem lw_p59 : lw_okq (⟨"BeamPlateModel", "readSum", "()I"⟩, 74) := ⟨⟨by decide +kernel, by decide +kernel⟩, List.mem_of_getElem? (i := 985) (by decide +kernel), List.mem_of_getElem? (i := 1311) (by decide +kernel), List.mem_of_getElem? (i := 1312) (by decide +kernel)⟩
theorem lw_p60 : lw_okq (⟨"BeamPlateModel", "readUnit", "(I)I"⟩, 74) := ⟨⟨by decide +kernel, by decide +kernel⟩, List.mem_of_getElem? (i := 985) (by decide +kernel), List.mem_of_getElem? (i := 1315) (by decide +kernel), List.mem_of_getElem? (i := 1316) (by decide +kernel)⟩
theorem lw_p61 : lw_okq (⟨"BeamPlateModel", "readAgain", "()I"⟩, 74) := ⟨⟨by decide +kernel, by decide +kernel⟩, List.mem_of_getElem? (i := 985) (by decide +kernel), List.mem_of_getElem? (i := 1319) (by decide +kernel), List.mem_of_getElem? (i := 1320) (by decide +kernel)⟩
theorem lw_p62 : lw_okq (⟨"BeamPlateModel", "readNumber", "()I"⟩, 74) := ⟨⟨by decide +kernel, by decide +kernel⟩, List.mem_of_getElem? (i := 985) (by decide +kernel), List.mem_of_getElem? (i := 1323) (by decide +kernel), List.mem_of_getElem? (i := 1324) (by decide +kernel)⟩
theorem lw_p63 : lw_okq (⟨"BeamPlateModel", "readPlain", "()I"⟩, 74) := ⟨⟨by decide +kernel, by decide +kernel⟩, List.mem_of_getElem? (i := 985) (by decide +kernel), List.mem_of_getElem? (i := 1327) (by decide +kernel), List.mem_of_getElem? (i := 1328) (by decide +kernel)⟩
def lw_privs_4 : List (MethodName × Nat) := [(⟨"BeamPlateModel", "wordAt", "(II)I"⟩, 74), (⟨"BeamPlateModel", "isDigit", "(I)Z"⟩, 74), (⟨"BeamPlateModel", "isMarkSign", "(I)Z"⟩, 74), (⟨"BeamPlateModel", "isWord", "(I)Z"⟩, 74), (⟨"BeamPlateModel", "isInAgain", "()Z"⟩, 74), (⟨"BeamPlateModel", "closes", "()V"⟩, 74), (⟨"BeamPlateModel", "emits", "(III)V"⟩, 74), (⟨"BeamPlateModel", "ends", "()I"⟩, 74), (⟨"BeamPlateModel", "isSign", "(I)Z"⟩, 74), (⟨"BeamPlateModel", "fails", "(I)I"⟩, 74), (⟨"BeamPlateModel", "readIf", "()I"⟩, 74), (⟨"BeamPlateModel", "readSum", "()I"⟩, 74), (⟨"BeamPlateModel", "readUnit", "(I)I"⟩, 74), (⟨"BeamPlateModel", "readAgain", "()I"⟩, 74), (⟨"BeamPlateModel", "readNumber", "()I"⟩, 74), (⟨"BeamPlateModel", "readPlain", "()I"⟩, 74)]
theorem lw_r4 : ∀ q ∈ lw_privs_4, lw_okq q := List.forall_mem_cons.mpr ⟨lw_p48, List.forall_mem_cons.mpr ⟨lw_p49, List.forall_mem_cons.mpr ⟨lw_p50, List.forall_mem_cons.mpr ⟨lw_p51, List.forall_mem_cons.mpr ⟨lw_p52, List.forall_mem_cons.mpr ⟨lw_p53, List.forall_mem_cons.mpr ⟨lw_p54, List.forall_mem_cons.mpr ⟨lw_p55, List.forall_mem_cons.mpr ⟨lw_p56, List.forall_mem_cons.mpr ⟨lw_p57, List.forall_mem_cons.mpr ⟨lw_p58, List.forall_mem_cons.mpr ⟨lw_p59, List.forall_mem_cons.mpr ⟨lw_p60, List.forall_mem_cons.mpr ⟨lw_p61, List.forall_mem_cons.mpr ⟨lw_p62, List.forall_mem_cons.mpr ⟨lw_p63, fun _ h => absurd h List.not_mem_nil⟩⟩⟩⟩⟩⟩⟩⟩⟩⟩⟩⟩⟩⟩⟩⟩
theorem lw_p64 : lw_okq (⟨"BeamPlateModel", "runs", "(II)V"⟩, 74) := ⟨⟨by decide +kernel, by decide +kernel⟩, List.mem_of_getElem? (i := 985) (by decide +kernel), List.mem_of_getElem? (i := 1339) (by decide +kernel), List.mem_of_getElem? (i := 1340) (by decide +kernel)⟩
theorem lw_p65 : lw_okq (⟨"BeamPlateModel", "pays", "()Z"⟩, 74) := ⟨⟨by decide +kernel, by decide +kernel⟩, List.mem_of_getElem? (i := 985) (by decide +kernel), List.mem_of_getElem? (i := 1343) (by decide +kernel), List.mem_of_getElem? (i := 1344) (by decide +kernel)⟩
theorem lw_p66 : lw_okq (⟨"BeamPlateModel", "isSo", "(III)Z"⟩, 74) := ⟨⟨by decide +kernel, by decide +kernel⟩, List.mem_of_getElem? (i := 985) (by decide +kernel), List.mem_of_getElem? (i := 1347) (by decide +kernel), List.mem_of_getElem? (i := 1348) (by decide +kernel)⟩
theorem lw_p67 : lw_okq (⟨"BeamPlateModel", "sumOf", "(IIII)I"⟩, 74) := ⟨⟨by decide +kernel, by decide +kernel⟩, List.mem_of_getElem? (i := 985) (by decide +kernel), List.mem_of_getElem? (i := 1351) (by decide +kernel), List.mem_of_getElem? (i := 1352) (by decide +kernel)⟩
theorem lw_p68 : lw_okq (⟨"BeamPlateModel", "askedOf", "(II)I"⟩, 74) := ⟨⟨by decide +kernel, by decide +kernel⟩, List.mem_of_getElem? (i := 985) (by decide +kernel), List.mem_of_getElem? (i := 1355) (by decide +kernel), List.mem_of_getElem? (i := 1356) (by decide +kernel)⟩
theorem lw_p69 : lw_okq (⟨"BeamPlateModel", "isThere", "(III)Z"⟩, 74) := ⟨⟨by decide +kernel, by decide +kernel⟩, List.mem_of_getElem? (i := 985) (by decide +kernel), List.mem_of_getElem? (i := 1359) (by decide +kernel), List.mem_of_getElem? (i := 1360) (by decide +kernel)⟩
theorem lw_p70 : lw_okq (⟨"BeamPlateModel", "isOnPlate", "(II)Z"⟩, 74) := ⟨⟨by decide +kernel, by decide +kernel⟩, List.mem_of_getElem? (i := 985) (by decide +kernel), List.mem_of_getElem? (i := 1363) (by decide +kernel), List.mem_of_getElem? (i := 1364) (by decide +kernel)⟩
theorem lw_p71 : lw_okq (⟨"BeamPlateModel", "doesPlain", "(IIII)V"⟩, 74) := ⟨⟨by decide +kernel, by decide +kernel⟩, List.mem_of_getElem? (i := 985) (by decide +kernel), List.mem_of_getElem? (i := 1367) (by decide +kernel), List.mem_of_getElem? (i := 1368) (by decide +kernel)⟩
theorem lw_p72 : lw_okq (⟨"BeamPlateModel", "comes", "(III)V"⟩, 74) := ⟨⟨by decide +kernel, by decide +kernel⟩, List.mem_of_getElem? (i := 985) (by decide +kernel), List.mem_of_getElem? (i := 1371) (by decide +kernel), List.mem_of_getElem? (i := 1372) (by decide +kernel)⟩
theorem lw_p73 : lw_okq (⟨"BeamPlateModel", "goes", "(III)V"⟩, 74) := ⟨⟨by decide +kernel, by decide +kernel⟩, List.mem_of_getElem? (i := 985) (by decide +kernel), List.mem_of_getElem? (i := 1375) (by decide +kernel), List.mem_of_getElem? (i := 1376) (by decide +kernel)⟩
theorem lw_p74 : lw_okq (⟨"BeamPlateModel", "stepX", "(I)I"⟩, 74) := ⟨⟨by decide +kernel, by decide +kernel⟩, List.mem_of_getElem? (i := 985) (by decide +kernel), List.mem_of_getElem? (i := 1379) (by decide +kernel), List.mem_of_getElem? (i := 1380) (by decide +kernel)⟩
theorem lw_p75 : lw_okq (⟨"BeamPlateModel", "stepY", "(I)I"⟩, 74) := ⟨⟨by decide +kernel, by decide +kernel⟩, List.mem_of_getElem? (i := 985) (by decide +kernel), List.mem_of_getElem? (i := 1383) (by decide +kernel), List.mem_of_getElem? (i := 1384) (by decide +kernel)⟩
theorem lw_p76 : lw_okq (⟨"BeamPlateModel", "waits", "(II)V"⟩, 74) := ⟨⟨by decide +kernel, by decide +kernel⟩, List.mem_of_getElem? (i := 985) (by decide +kernel), List.mem_of_getElem? (i := 1387) (by decide +kernel), List.mem_of_getElem? (i := 1388) (by decide +kernel)⟩
theorem lw_p77 : lw_okq (⟨"BeamPlateModel", "ticksOnce", "(I)V"⟩, 74) := ⟨⟨by decide +kernel, by decide +kernel⟩, List.mem_of_getElem? (i := 985) (by decide +kernel), List.mem_of_getElem? (i := 1391) (by decide +kernel), List.mem_of_getElem? (i := 1392) (by decide +kernel)⟩
theorem lw_p78 : lw_okq (⟨"BeamPlateModel", "gives", "(I)V"⟩, 74) := ⟨⟨by decide +kernel, by decide +kernel⟩, List.mem_of_getElem? (i := 985) (by decide +kernel), List.mem_of_getElem? (i := 1395) (by decide +kernel), List.mem_of_getElem? (i := 1396) (by decide +kernel)⟩
theorem lw_p79 : lw_okq (⟨"BeamPlateModel", "leads", "(I)V"⟩, 74) := ⟨⟨by decide +kernel, by decide +kernel⟩, List.mem_of_getElem? (i := 985) (by decide +kernel), List.mem_of_getElem? (i := 1400) (by decide +kernel), List.mem_of_getElem? (i := 1401) (by decide +kernel)⟩
def lw_privs_5 : List (MethodName × Nat) := [(⟨"BeamPlateModel", "runs", "(II)V"⟩, 74), (⟨"BeamPlateModel", "pays", "()Z"⟩, 74), (⟨"BeamPlateModel", "isSo", "(III)Z"⟩, 74), (⟨"BeamPlateModel", "sumOf", "(IIII)I"⟩, 74), (⟨"BeamPlateModel", "askedOf", "(II)I"⟩, 74), (⟨"BeamPlateModel", "isThere", "(III)Z"⟩, 74), (⟨"BeamPlateModel", "isOnPlate", "(II)Z"⟩, 74), (⟨"BeamPlateModel", "doesPlain", "(IIII)V"⟩, 74), (⟨"BeamPlateModel", "comes", "(III)V"⟩, 74), (⟨"BeamPlateModel", "goes", "(III)V"⟩, 74), (⟨"BeamPlateModel", "stepX", "(I)I"⟩, 74), (⟨"BeamPlateModel", "stepY", "(I)I"⟩, 74), (⟨"BeamPlateModel", "waits", "(II)V"⟩, 74), (⟨"BeamPlateModel", "ticksOnce", "(I)V"⟩, 74), (⟨"BeamPlateModel", "gives", "(I)V"⟩, 74), (⟨"BeamPlateModel", "leads", "(I)V"⟩, 74)]
theorem lw_r5 : ∀ q ∈ lw_privs_5, lw_okq q := List.forall_mem_cons.mpr ⟨lw_p64, List.forall_mem_cons.mpr ⟨lw_p65, List.forall_mem_cons.mpr ⟨lw_p66, List.forall_mem_cons.mpr ⟨lw_p67, List.forall_mem_cons.mpr ⟨lw_p68, List.forall_mem_cons.mpr ⟨lw_p69, List.forall_mem_cons.mpr ⟨lw_p70, List.forall_mem_cons.mpr ⟨lw_p71, List.forall_mem_cons.mpr ⟨lw_p72, List.forall_mem_cons.mpr ⟨lw_p73, List.forall_mem_cons.mpr ⟨lw_p74, List.forall_mem_cons.mpr ⟨lw_p75, List.forall_mem_cons.mpr ⟨lw_p76, List.forall_mem_cons.mpr ⟨lw_p77, List.forall_mem_cons.mpr ⟨lw_p78, List.forall_mem_cons.mpr ⟨lw_p79, fun _ h => absurd h List.not_mem_nil⟩⟩⟩⟩⟩⟩⟩⟩⟩⟩⟩⟩⟩⟩⟩⟩
theorem lw_p80 : lw_okq (⟨"BeamPlateModel", "flowFrom", "(IIII)I"⟩, 74) := ⟨⟨by decide +kernel, by decide +kernel⟩, List.mem_of_getElem? (i := 985) (by decide +kernel), List.mem_of_getElem? (i := 1404) (by decide +kernel), List.mem_of_getElem? (i := 1405) (by decide +kernel)⟩
theorem lw_p81 : lw_okq (⟨"BeamPlateModel", "cuts", "(I)Z"⟩, 74) := ⟨⟨by decide +kernel, by decide +kernel⟩, List.mem_of_getElem? (i := 985) (by decide +kernel), List.mem_of_getElem? (i := 1408) (by decide +kernel), List.mem_of_getElem? (i := 1409) (by decide +kernel)⟩
theorem lw_p82 : lw_okq (⟨"BeamPlateModel", "goesAway", "(III)V"⟩, 74) := ⟨⟨by decide +kernel, by decide +kernel⟩, List.mem_of_getElem? (i := 985) (by decide +kernel), List.mem_of_getElem? (i := 1412) (by decide +kernel), List.mem_of_getElem? (i := 1413) (by decide +kernel)⟩
theorem lw_p83 : lw_okq (⟨"BeamPlateModel", "loosens", "(I)V"⟩, 74) := ⟨⟨by decide +kernel, by decide +kernel⟩, List.mem_of_getElem? (i := 985) (by decide +kernel), List.mem_of_getElem? (i := 1416) (by decide +kernel), List.mem_of_getElem? (i := 1417) (by decide +kernel)⟩
theorem lw_p84 : lw_okq (⟨"BeamPlateModel", "findsParts", "(I)V"⟩, 74) := ⟨⟨by decide +kernel, by decide +kernel⟩, List.mem_of_getElem? (i := 985) (by decide +kernel), List.mem_of_getElem? (i := 1420) (by decide +kernel), List.mem_of_getElem? (i := 1421) (by decide +kernel)⟩
theorem lw_p85 : lw_okq (⟨"BeamPlateModel", "spreads", "(II)V"⟩, 74) := ⟨⟨by decide +kernel, by decide +kernel⟩, List.mem_of_getElem? (i := 985) (by decide +kernel), List.mem_of_getElem? (i := 1424) (by decide +kernel), List.mem_of_getElem? (i := 1425) (by decide +kernel)⟩
theorem lw_p86 : lw_okq (⟨"BeamPlateModel", "lying", "(I)I"⟩, 74) := ⟨⟨by decide +kernel, by decide +kernel⟩, List.mem_of_getElem? (i := 985) (by decide +kernel), List.mem_of_getElem? (i := 1428) (by decide +kernel), List.mem_of_getElem? (i := 1429) (by decide +kernel)⟩
theorem lw_p87 : lw_okq (⟨"BeamPlateModel", "bridgeOf", "(II)I"⟩, 74) := ⟨⟨by decide +kernel, by decide +kernel⟩, List.mem_of_getElem? (i := 985) (by decide +kernel), List.mem_of_getElem? (i := 1436) (by decide +kernel), List.mem_of_getElem? (i := 1437) (by decide +kernel)⟩
theorem lw_p88 : lw_okq (⟨"BeamPlateModel", "cellsAs", "(II)I"⟩, 74) := ⟨⟨by decide +kernel, by decide +kernel⟩, List.mem_of_getElem? (i := 985) (by decide +kernel), List.mem_of_getElem? (i := 1444) (by decide +kernel), List.mem_of_getElem? (i := 1445) (by decide +kernel)⟩
theorem lw_p89 : lw_okq (⟨"BeamPlateModel", "ones", "(I)I"⟩, 74) := ⟨⟨by decide +kernel, by decide +kernel⟩, List.mem_of_getElem? (i := 985) (by decide +kernel), List.mem_of_getElem? (i := 1457) (by decide +kernel), List.mem_of_getElem? (i := 1458) (by decide +kernel)⟩
theorem lw_p90 : lw_okq (⟨"BeamPlateModel", "isOrder", "(III)Z"⟩, 74) := ⟨⟨by decide +kernel, by decide +kernel⟩, List.mem_of_getElem? (i := 985) (by decide +kernel), List.mem_of_getElem? (i := 1461) (by decide +kernel), List.mem_of_getElem? (i := 1462) (by decide +kernel)⟩
theorem lw_p91 : lw_okq (⟨"BeamPlateModel", "copies", "()V"⟩, 74) := ⟨⟨by decide +kernel, by decide +kernel⟩, List.mem_of_getElem? (i := 985) (by decide +kernel), List.mem_of_getElem? (i := 1465) (by decide +kernel), List.mem_of_getElem? (i := 1466) (by decide +kernel)⟩
theorem lw_p92 : lw_okq (⟨"BeamPlateModel", "cutsThrough", "(III)Z"⟩, 74) := ⟨⟨by decide +kernel, by decide +kernel⟩, List.mem_of_getElem? (i := 985) (by decide +kernel), List.mem_of_getElem? (i := 1473) (by decide +kernel), List.mem_of_getElem? (i := 1474) (by decide +kernel)⟩
theorem lw_p93 : lw_okq (⟨"BeamPlateModel", "mostOf", "(II)I"⟩, 74) := ⟨⟨by decide +kernel, by decide +kernel⟩, List.mem_of_getElem? (i := 985) (by decide +kernel), List.mem_of_getElem? (i := 1485) (by decide +kernel), List.mem_of_getElem? (i := 1486) (by decide +kernel)⟩
def lw_privs_6 : List (MethodName × Nat) := [(⟨"BeamPlateModel", "flowFrom", "(IIII)I"⟩, 74), (⟨"BeamPlateModel", "cuts", "(I)Z"⟩, 74), (⟨"BeamPlateModel", "goesAway", "(III)V"⟩, 74), (⟨"BeamPlateModel", "loosens", "(I)V"⟩, 74), (⟨"BeamPlateModel", "findsParts", "(I)V"⟩, 74), (⟨"BeamPlateModel", "spreads", "(II)V"⟩, 74), (⟨"BeamPlateModel", "lying", "(I)I"⟩, 74), (⟨"BeamPlateModel", "bridgeOf", "(II)I"⟩, 74), (⟨"BeamPlateModel", "cellsAs", "(II)I"⟩, 74), (⟨"BeamPlateModel", "ones", "(I)I"⟩, 74), (⟨"BeamPlateModel", "isOrder", "(III)Z"⟩, 74), (⟨"BeamPlateModel", "copies", "()V"⟩, 74), (⟨"BeamPlateModel", "cutsThrough", "(III)Z"⟩, 74), (⟨"BeamPlateModel", "mostOf", "(II)I"⟩, 74)]
theorem lw_r6 : ∀ q ∈ lw_privs_6, lw_okq q := List.forall_mem_cons.mpr ⟨lw_p80, List.forall_mem_cons.mpr ⟨lw_p81, List.forall_mem_cons.mpr ⟨lw_p82, List.forall_mem_cons.mpr ⟨lw_p83, List.forall_mem_cons.mpr ⟨lw_p84, List.forall_mem_cons.mpr ⟨lw_p85, List.forall_mem_cons.mpr ⟨lw_p86, List.forall_mem_cons.mpr ⟨lw_p87, List.forall_mem_cons.mpr ⟨lw_p88, List.forall_mem_cons.mpr ⟨lw_p89, List.forall_mem_cons.mpr ⟨lw_p90, List.forall_mem_cons.mpr ⟨lw_p91, List.forall_mem_cons.mpr ⟨lw_p92, List.forall_mem_cons.mpr ⟨lw_p93, fun _ h => absurd h List.not_mem_nil⟩⟩⟩⟩⟩⟩⟩⟩⟩⟩⟩⟩⟩⟩
def lw_privs : List (MethodName × Nat) := lw_privs_1 ++ (lw_privs_2 ++ (lw_privs_3 ++ (lw_privs_4 ++ (lw_privs_5 ++ (lw_privs_6)))))
def lw_tbl : List Cond := k2_sels lw_privs ++ tables_1
theorem lw_privs_ok : ∀ q ∈ lw_privs, lw_okq q := by
  show ∀ q ∈ lw_privs_1 ++ (lw_privs_2 ++ (lw_privs_3 ++ (lw_privs_4 ++ (lw_privs_5 ++ (lw_privs_6))))), lw_okq q
  exact List.forall_mem_append.mpr ⟨lw_r1, List.forall_mem_append.mpr ⟨lw_r2, List.forall_mem_append.mpr ⟨lw_r3, List.forall_mem_append.mpr ⟨lw_r4, List.forall_mem_append.mpr ⟨lw_r5, lw_r6⟩⟩⟩⟩⟩
/-! ===== BEGIN words of one list among another's, by their places ===== -/
theorem goodIn_r {big : List Cond} (ws : List Cond) (ps : List Nat) (hp : ws = ps.filterMap (fun i => big[i]?)) (h : ws.all goodWord = true) : GoodIn big ws := by
  intro w hw
  have h1 := List.all_eq_true.mp h w hw
  rw [hp] at hw
  obtain ⟨i, -, hi⟩ := List.mem_filterMap.mp hw
  have hm : w ∈ big := by first | exact List.mem_of_getElem? hi | exact List.getElem?_mem hi
  exact ⟨hm, good_of_word h1⟩
theorem goodIn_app {big a b : List Cond} (ha : GoodIn big a) (hb : GoodIn big b) : GoodIn big (a ++ b) := fun w h => (List.mem_append.mp h).elim (ha w) (hb w)
theorem goodIn_ca {big a b : List Cond} {c : Cond} (ha : GoodIn big (c :: a)) (hb : GoodIn big b) : GoodIn big (c :: (a ++ b)) := fun w h => (List.mem_cons.mp h).elim (fun e => ha w (List.mem_cons.mpr (Or.inl e))) (fun h => (List.mem_append.mp h).elim (fun h => ha w (List.mem_cons.mpr (Or.inr h))) (hb w))
theorem goodIn_sub {big ws : List Cond} (hm : ∀ w ∈ ws, w ∈ big) (h : ws.all goodWord = true) : GoodIn big ws := fun w hw => ⟨hm w hw, good_of_word (List.all_eq_true.mp h w hw)⟩
/-! ===== END ===== -/

/-! ===== BEGIN printed: names, fields, word lists, decode rows ===== -/
def RX0 : String := "BeamPlate$Filling"
def TX0 : u_T := fun k => match k with
  | 0 => ("BeamPlate$Filling", "wides", "[I", true)
  | 1 => ("BeamPlate$Filling", "highs", "[I", true)
  | 2 => ("BeamPlate$Filling", "worths", "[I", true)
  | 3 => ("BeamPlate$Filling", "best", "[I", true)
  | _ => ("BeamPlate$Filling", "kinds", "I", false)
def tyX0 : Nat → FieldType := fun k => match k with
  | 0 => .array .int
  | 1 => .array .int
  | 2 => .array .int
  | 3 => .array .int
  | _ => .int
abbrev wsX00 : List Cond := u_ws RX0 TX0 5
theorem nmX0 : ∀ a, a < 5 → ∀ b, b < 5 → a ≠ b → (TX0 a).2.1 ≠ (TX0 b).2.1 := by decide +kernel
theorem tyX0_ok : ∀ k, k < 5 → parseFieldDescriptor (TX0 k).2.2.1 = some (tyX0 k) := by decide +kernel
abbrev cX0_init : ByteArray := prog_2_method_1_code
def yX0_init : MethodName := ⟨RX0, "<init>", "()V"⟩
abbrev cX0_addKind : ByteArray := prog_2_method_2_code
def yX0_addKind : MethodName := ⟨RX0, "addKind", "(III)I"⟩
abbrev cX0_greatestWorth : ByteArray := prog_2_method_3_code
def yX0_greatestWorth : MethodName := ⟨RX0, "greatestWorth", "(II)I"⟩
abbrev cX0_fillAll : ByteArray := prog_2_method_4_code
def yX0_fillAll : MethodName := ⟨RX0, "fillAll", "()V"⟩
abbrev cX0_bestKind : ByteArray := prog_2_method_5_code
def yX0_bestKind : MethodName := ⟨RX0, "bestKind", "(II)I"⟩
abbrev cX0_bestCut : ByteArray := prog_2_method_6_code
def yX0_bestCut : MethodName := ⟨RX0, "bestCut", "(II)I"⟩
def RX1 : String := "BeamPlate$Head"
def TX1 : u_T := fun k => match k with
  | 0 => ("BeamPlate$Head", "x", "I", false)
  | 1 => ("BeamPlate$Head", "y", "I", false)
  | 2 => ("BeamPlate$Head", "on", "Z", false)
  | 3 => ("BeamPlate$Head", "speed", "I", false)
  | _ => ("BeamPlate$Head", "hits", "I", false)
def tyX1 : Nat → FieldType := fun k => match k with
  | 0 => .int
  | 1 => .int
  | 2 => .boolean
  | 3 => .int
  | _ => .int
abbrev wsX10 : List Cond := u_ws RX1 TX1 5
theorem nmX1 : ∀ a, a < 5 → ∀ b, b < 5 → a ≠ b → (TX1 a).2.1 ≠ (TX1 b).2.1 := by decide +kernel
theorem tyX1_ok : ∀ k, k < 5 → parseFieldDescriptor (TX1 k).2.2.1 = some (tyX1 k) := by decide +kernel
abbrev cX1_init : ByteArray := prog_3_method_1_code
def yX1_init : MethodName := ⟨RX1, "<init>", "()V"⟩
abbrev cX1_renew : ByteArray := prog_3_method_2_code
def yX1_renew : MethodName := ⟨RX1, "renew", "()V"⟩
abbrev cX1_copyFrom : ByteArray := prog_3_method_3_code
def yX1_copyFrom : MethodName := ⟨RX1, "copyFrom", "(LBeamPlate$Head;)V"⟩
def RX2 : String := "BeamPlate$Part"
def TX2 : u_T := fun k => match k with
  | 0 => ("BeamPlate$Part", "cells", "[I", true)
  | 1 => ("BeamPlate$Part", "seen", "[I", true)
  | 2 => ("BeamPlate$Part", "size", "I", false)
  | 3 => ("BeamPlate$Part", "sumX", "I", false)
  | _ => ("BeamPlate$Part", "held", "Z", false)
def tyX2 : Nat → FieldType := fun k => match k with
  | 0 => .array .int
  | 1 => .array .int
  | 2 => .int
  | 3 => .int
  | _ => .boolean
abbrev wsX20 : List Cond := u_ws RX2 TX2 5
theorem nmX2 : ∀ a, a < 5 → ∀ b, b < 5 → a ≠ b → (TX2 a).2.1 ≠ (TX2 b).2.1 := by decide +kernel
theorem tyX2_ok : ∀ k, k < 5 → parseFieldDescriptor (TX2 k).2.2.1 = some (tyX2 k) := by decide +kernel
abbrev cX2_init : ByteArray := prog_4_method_1_code
def yX2_init : MethodName := ⟨RX2, "<init>", "()V"⟩
abbrev cX2_forgetSeen : ByteArray := prog_4_method_2_code
def yX2_forgetSeen : MethodName := ⟨RX2, "forgetSeen", "()V"⟩
abbrev cX2_gather : ByteArray := prog_4_method_3_code
def yX2_gather : MethodName := ⟨RX2, "gather", "(LBeamPlate$Plate;I)V"⟩
abbrev cX2_take : ByteArray := prog_4_method_4_code
def yX2_take : MethodName := ⟨RX2, "take", "(LBeamPlate$Plate;I)V"⟩
def RX3 : String := "BeamPlate$Plate"
def TX3 : u_T := fun k => match k with
  | 0 => ("BeamPlate$Plate", "wide", "I", false)
  | 1 => ("BeamPlate$Plate", "high", "I", false)
  | 2 => ("BeamPlate$Plate", "area", "I", false)
  | 3 => ("BeamPlate$Plate", "stuff", "I", false)
  | 4 => ("BeamPlate$Plate", "thick", "I", false)
  | 5 => ("BeamPlate$Plate", "ticks", "I", false)
  | 6 => ("BeamPlate$Plate", "spentRuns", "I", false)
  | 7 => ("BeamPlate$Plate", "given", "J", false)
  | 8 => ("BeamPlate$Plate", "lostHeat", "J", false)
  | 9 => ("BeamPlate$Plate", "carried", "J", false)
  | 10 => ("BeamPlate$Plate", "head", "LBeamPlate$Head;", true)
  | 11 => ("BeamPlate$Plate", "heat", "[I", true)
  | 12 => ("BeamPlate$Plate", "state", "[I", true)
  | 13 => ("BeamPlate$Plate", "burnt", "[I", true)
  | 14 => ("BeamPlate$Plate", "tipped", "[I", true)
  | 15 => ("BeamPlate$Plate", "inflow", "[I", true)
  | 16 => ("BeamPlate$Plate", "costs", "[I", true)
  | _ => ("BeamPlate$Plate", "part", "LBeamPlate$Part;", true)
def tyX3 : Nat → FieldType := fun k => match k with
  | 0 => .int
  | 1 => .int
  | 2 => .int
  | 3 => .int
  | 4 => .int
  | 5 => .int
  | 6 => .int
  | 7 => .long
  | 8 => .long
  | 9 => .long
  | 10 => .object "BeamPlate$Head"
  | 11 => .array .int
  | 12 => .array .int
  | 13 => .array .int
  | 14 => .array .int
  | 15 => .array .int
  | 16 => .array .int
  | _ => .object "BeamPlate$Part"
abbrev wsX30 : List Cond := u_ws RX3 TX3 18
theorem nmX3 : ∀ a, a < 18 → ∀ b, b < 18 → a ≠ b → (TX3 a).2.1 ≠ (TX3 b).2.1 := by decide +kernel
theorem tyX3_ok : ∀ k, k < 18 → parseFieldDescriptor (TX3 k).2.2.1 = some (tyX3 k) := by decide +kernel
abbrev cX3_init : ByteArray := prog_5_method_1_code
def yX3_init : MethodName := ⟨RX3, "<init>", "()V"⟩
abbrev cX3_renew : ByteArray := prog_5_method_2_code
def yX3_renew : MethodName := ⟨RX3, "renew", "(IIII)V"⟩
abbrev cX3_copyFrom : ByteArray := prog_5_method_3_code
def yX3_copyFrom : MethodName := ⟨RX3, "copyFrom", "(LBeamPlate$Plate;)V"⟩
abbrev cX3_isLaid : ByteArray := prog_5_method_4_code
def yX3_isLaid : MethodName := ⟨RX3, "isLaid", "()Z"⟩
abbrev cX3_has : ByteArray := prog_5_method_5_code
def yX3_has : MethodName := ⟨RX3, "has", "(II)Z"⟩
abbrev cX3_isBorder : ByteArray := prog_5_method_6_code
def yX3_isBorder : MethodName := ⟨RX3, "isBorder", "(II)Z"⟩
abbrev cX3_index : ByteArray := prog_5_method_7_code
def yX3_index : MethodName := ⟨RX3, "index", "(II)I"⟩
abbrev cX3_headPlace : ByteArray := prog_5_method_8_code
def yX3_headPlace : MethodName := ⟨RX3, "headPlace", "()I"⟩
abbrev cX3_isThere : ByteArray := prog_5_method_9_code
def yX3_isThere : MethodName := ⟨RX3, "isThere", "(I)Z"⟩
abbrev cX3_moveHead : ByteArray := prog_5_method_10_code
def yX3_moveHead : MethodName := ⟨RX3, "moveHead", "(II)Z"⟩
abbrev cX3_tick : ByteArray := prog_5_method_11_code
def yX3_tick : MethodName := ⟨RX3, "tick", "(LBeamPlate$Works;)V"⟩
abbrev cX3_giveHeat : ByteArray := prog_5_method_12_code
def yX3_giveHeat : MethodName := ⟨RX3, "giveHeat", "(I)V"⟩
abbrev cX3_leadHeat : ByteArray := prog_5_method_13_code
def yX3_leadHeat : MethodName := ⟨RX3, "leadHeat", "(I)V"⟩
abbrev cX3_leadBetween : ByteArray := prog_5_method_14_code
def yX3_leadBetween : MethodName := ⟨RX3, "leadBetween", "(III)V"⟩
abbrev cX3_loseHeat : ByteArray := prog_5_method_15_code
def yX3_loseHeat : MethodName := ⟨RX3, "loseHeat", "(I)V"⟩
abbrev cX3_cutMolten : ByteArray := prog_5_method_16_code
def yX3_cutMolten : MethodName := ⟨RX3, "cutMolten", "(I)Z"⟩
abbrev cX3_takeAway : ByteArray := prog_5_method_17_code
def yX3_takeAway : MethodName := ⟨RX3, "takeAway", "(II)V"⟩
abbrev cX3_burnHot : ByteArray := prog_5_method_18_code
def yX3_burnHot : MethodName := ⟨RX3, "burnHot", "(I)V"⟩
abbrev cX3_loosenParts : ByteArray := prog_5_method_19_code
def yX3_loosenParts : MethodName := ⟨RX3, "loosenParts", "(LBeamPlate$Works;)V"⟩
abbrev cX3_settlePart : ByteArray := prog_5_method_20_code
def yX3_settlePart : MethodName := ⟨RX3, "settlePart", "(LBeamPlate$Works;)V"⟩
abbrev cX3_condition : ByteArray := prog_5_method_21_code
def yX3_condition : MethodName := ⟨RX3, "condition", "(I)I"⟩
abbrev cX3_countState : ByteArray := prog_5_method_22_code
def yX3_countState : MethodName := ⟨RX3, "countState", "(I)I"⟩
abbrev cX3_countTipped : ByteArray := prog_5_method_23_code
def yX3_countTipped : MethodName := ⟨RX3, "countTipped", "()I"⟩
abbrev cX3_countBurntThere : ByteArray := prog_5_method_24_code
def yX3_countBurntThere : MethodName := ⟨RX3, "countBurntThere", "()I"⟩
abbrev cX3_countParts : ByteArray := prog_5_method_25_code
def yX3_countParts : MethodName := ⟨RX3, "countParts", "(Z)I"⟩
abbrev cX3_partAt : ByteArray := prog_5_method_26_code
def yX3_partAt : MethodName := ⟨RX3, "partAt", "(I)LBeamPlate$Part;"⟩
abbrev cX3_bridge : ByteArray := prog_5_method_27_code
def yX3_bridge : MethodName := ⟨RX3, "bridge", "(I)I"⟩
abbrev cX3_spreadCosts : ByteArray := prog_5_method_28_code
def yX3_spreadCosts : MethodName := ⟨RX3, "spreadCosts", "()Z"⟩
abbrev cX3_costAt : ByteArray := prog_5_method_29_code
def yX3_costAt : MethodName := ⟨RX3, "costAt", "(II)I"⟩
abbrev cX3_heatInAll : ByteArray := prog_5_method_30_code
def yX3_heatInAll : MethodName := ⟨RX3, "heatInAll", "()J"⟩
def RX4 : String := "BeamPlate$Reader"
def TX4 : u_T := fun k => match k with
  | 0 => ("BeamPlate$Reader", "program", "LBeamPlate$Row;", true)
  | 1 => ("BeamPlate$Reader", "fault", "I", false)
  | 2 => ("BeamPlate$Reader", "faultPlace", "I", false)
  | 3 => ("BeamPlate$Reader", "tokens", "LBeamPlate$Tokens;", true)
  | 4 => ("BeamPlate$Reader", "current", "I", false)
  | 5 => ("BeamPlate$Reader", "token", "I", false)
  | 6 => ("BeamPlate$Reader", "openWords", "LBeamPlate$Row;", true)
  | _ => ("BeamPlate$Reader", "openStarts", "LBeamPlate$Row;", true)
def tyX4 : Nat → FieldType := fun k => match k with
  | 0 => .object "BeamPlate$Row"
  | 1 => .int
  | 2 => .int
  | 3 => .object "BeamPlate$Tokens"
  | 4 => .int
  | 5 => .int
  | 6 => .object "BeamPlate$Row"
  | _ => .object "BeamPlate$Row"
abbrev wsX40 : List Cond := u_ws RX4 TX4 8
theorem nmX4 : ∀ a, a < 8 → ∀ b, b < 8 → a ≠ b → (TX4 a).2.1 ≠ (TX4 b).2.1 := by decide +kernel
theorem tyX4_ok : ∀ k, k < 8 → parseFieldDescriptor (TX4 k).2.2.1 = some (tyX4 k) := by decide +kernel
abbrev cX4_init : ByteArray := prog_6_method_1_code
def yX4_init : MethodName := ⟨RX4, "<init>", "()V"⟩
abbrev cX4_read : ByteArray := prog_6_method_2_code
def yX4_read : MethodName := ⟨RX4, "read", "(LBeamPlate$Row;)Z"⟩
abbrev cX4_fail : ByteArray := prog_6_method_3_code
def yX4_fail : MethodName := ⟨RX4, "fail", "(I)V"⟩
abbrev cX4_advance : ByteArray := prog_6_method_4_code
def yX4_advance : MethodName := ⟨RX4, "advance", "()V"⟩
abbrev cX4_expect : ByteArray := prog_6_method_5_code
def yX4_expect : MethodName := ⟨RX4, "expect", "(I)V"⟩
abbrev cX4_innermost : ByteArray := prog_6_method_6_code
def yX4_innermost : MethodName := ⟨RX4, "innermost", "()I"⟩
abbrev cX4_readStep : ByteArray := prog_6_method_7_code
def yX4_readStep : MethodName := ⟨RX4, "readStep", "()V"⟩
abbrev cX4_closeStep : ByteArray := prog_6_method_8_code
def yX4_closeStep : MethodName := ⟨RX4, "closeStep", "()V"⟩
abbrev cX4_dropInnermost : ByteArray := prog_6_method_9_code
def yX4_dropInnermost : MethodName := ⟨RX4, "dropInnermost", "()V"⟩
abbrev cX4_openAgain : ByteArray := prog_6_method_10_code
def yX4_openAgain : MethodName := ⟨RX4, "openAgain", "()V"⟩
abbrev cX4_closeAgain : ByteArray := prog_6_method_11_code
def yX4_closeAgain : MethodName := ⟨RX4, "closeAgain", "()V"⟩
abbrev cX4_openIf : ByteArray := prog_6_method_12_code
def yX4_openIf : MethodName := ⟨RX4, "openIf", "()V"⟩
abbrev cX4_readSum : ByteArray := prog_6_method_13_code
def yX4_readSum : MethodName := ⟨RX4, "readSum", "()I"⟩
abbrev cX4_readTerm : ByteArray := prog_6_method_14_code
def yX4_readTerm : MethodName := ⟨RX4, "readTerm", "(Z)V"⟩
abbrev cX4_readNumber : ByteArray := prog_6_method_15_code
def yX4_readNumber : MethodName := ⟨RX4, "readNumber", "(II)V"⟩
abbrev cX4_readSide : ByteArray := prog_6_method_16_code
def yX4_readSide : MethodName := ⟨RX4, "readSide", "()V"⟩
def RX5 : String := "BeamPlate$Row"
def TX5 : u_T := fun k => match k with
  | 0 => ("BeamPlate$Row", "items", "[I", true)
  | _ => ("BeamPlate$Row", "size", "I", false)
def tyX5 : Nat → FieldType := fun k => match k with
  | 0 => .array .int
  | _ => .int
abbrev wsX50 : List Cond := u_ws RX5 TX5 2
theorem nmX5 : ∀ a, a < 2 → ∀ b, b < 2 → a ≠ b → (TX5 a).2.1 ≠ (TX5 b).2.1 := by decide +kernel
theorem tyX5_ok : ∀ k, k < 2 → parseFieldDescriptor (TX5 k).2.2.1 = some (tyX5 k) := by decide +kernel
abbrev cX5_init : ByteArray := prog_7_method_1_code
def yX5_init : MethodName := ⟨RX5, "<init>", "(I)V"⟩
abbrev cX5_add : ByteArray := prog_7_method_2_code
def yX5_add : MethodName := ⟨RX5, "add", "(I)V"⟩
abbrev cX5_addBytes : ByteArray := prog_7_method_3_code
def yX5_addBytes : MethodName := ⟨RX5, "addBytes", "(I)V"⟩
abbrev cX5_put : ByteArray := prog_7_method_4_code
def yX5_put : MethodName := ⟨RX5, "put", "(II)V"⟩
abbrev cX5_at : ByteArray := prog_7_method_5_code
def yX5_at : MethodName := ⟨RX5, "at", "(I)I"⟩
abbrev cX5_copyFrom : ByteArray := prog_7_method_6_code
def yX5_copyFrom : MethodName := ⟨RX5, "copyFrom", "(LBeamPlate$Row;)V"⟩
abbrev cX5_firstRunBelow : ByteArray := prog_7_method_7_code
def yX5_firstRunBelow : MethodName := ⟨RX5, "firstRunBelow", "(II)I"⟩
def RX6 : String := "BeamPlate$Runner"
def TX6 : u_T := fun k => match k with
  | 0 => ("BeamPlate$Runner", "turnsLeft", "[I", true)
  | 1 => ("BeamPlate$Runner", "costLeft", "I", false)
  | _ => ("BeamPlate$Runner", "ticksAhead", "I", false)
def tyX6 : Nat → FieldType := fun k => match k with
  | 0 => .array .int
  | 1 => .int
  | _ => .int
abbrev wsX60 : List Cond := u_ws RX6 TX6 3
theorem nmX6 : ∀ a, a < 3 → ∀ b, b < 3 → a ≠ b → (TX6 a).2.1 ≠ (TX6 b).2.1 := by decide +kernel
theorem tyX6_ok : ∀ k, k < 3 → parseFieldDescriptor (TX6 k).2.2.1 = some (tyX6 k) := by decide +kernel
abbrev cX6_init : ByteArray := prog_8_method_1_code
def yX6_init : MethodName := ⟨RX6, "<init>", "()V"⟩
abbrev cX6_perform : ByteArray := prog_8_method_2_code
def yX6_perform : MethodName := ⟨RX6, "perform", "(LBeamPlate$Row;LBeamPlate$Plate;LBeamPlate$Works;)I"⟩
abbrev cX6_turns : ByteArray := prog_8_method_3_code
def yX6_turns : MethodName := ⟨RX6, "turns", "(I)I"⟩
abbrev cX6_setTurns : ByteArray := prog_8_method_4_code
def yX6_setTurns : MethodName := ⟨RX6, "setTurns", "(II)V"⟩
abbrev cX6_travel : ByteArray := prog_8_method_5_code
def yX6_travel : MethodName := ⟨RX6, "travel", "(LBeamPlate$Plate;LBeamPlate$Works;II)V"⟩
abbrev cX6_stay : ByteArray := prog_8_method_6_code
def yX6_stay : MethodName := ⟨RX6, "stay", "(LBeamPlate$Plate;LBeamPlate$Works;I)V"⟩
abbrev cX6_stepOfIf : ByteArray := prog_8_method_7_code
def yX6_stepOfIf : MethodName := ⟨RX6, "stepOfIf", "(LBeamPlate$Row;I)I"⟩
abbrev cX6_isSo : ByteArray := prog_8_method_8_code
def yX6_isSo : MethodName := ⟨RX6, "isSo", "(LBeamPlate$Row;ILBeamPlate$Plate;)Z"⟩
abbrev cX6_sum : ByteArray := prog_8_method_9_code
def yX6_sum : MethodName := ⟨RX6, "sum", "(LBeamPlate$Row;IILBeamPlate$Plate;)J"⟩
abbrev cX6_valueOf : ByteArray := prog_8_method_10_code
def yX6_valueOf : MethodName := ⟨RX6, "valueOf", "(IILBeamPlate$Plate;)I"⟩
def RX7 : String := "BeamPlate$TestBook"
def TX7 : u_T := fun k => match k with
  | 0 => ("BeamPlate$TestBook", "stuffs", "[I", true)
  | 1 => ("BeamPlate$TestBook", "heats", "[I", true)
  | 2 => ("BeamPlate$TestBook", "days", "[I", true)
  | 3 => ("BeamPlate$TestBook", "cuts", "[Z", true)
  | 4 => ("BeamPlate$TestBook", "count", "I", false)
  | _ => ("BeamPlate$TestBook", "latestDay", "I", false)
def tyX7 : Nat → FieldType := fun k => match k with
  | 0 => .array .int
  | 1 => .array .int
  | 2 => .array .int
  | 3 => .array .boolean
  | 4 => .int
  | _ => .int
abbrev wsX70 : List Cond := u_ws RX7 TX7 6
theorem nmX7 : ∀ a, a < 6 → ∀ b, b < 6 → a ≠ b → (TX7 a).2.1 ≠ (TX7 b).2.1 := by decide +kernel
theorem tyX7_ok : ∀ k, k < 6 → parseFieldDescriptor (TX7 k).2.2.1 = some (tyX7 k) := by decide +kernel
abbrev cX7_init : ByteArray := prog_9_method_1_code
def yX7_init : MethodName := ⟨RX7, "<init>", "()V"⟩
abbrev cX7_tell : ByteArray := prog_9_method_2_code
def yX7_tell : MethodName := ⟨RX7, "tell", "(IIZI)Z"⟩
abbrev cX7_leastMelt : ByteArray := prog_9_method_3_code
def yX7_leastMelt : MethodName := ⟨RX7, "leastMelt", "(II)I"⟩
abbrev cX7_greatestMelt : ByteArray := prog_9_method_4_code
def yX7_greatestMelt : MethodName := ⟨RX7, "greatestMelt", "(II)I"⟩
def RX8 : String := "BeamPlate$Tokens"
def TX8 : u_T := fun k => match k with
  | 0 => ("BeamPlate$Tokens", "kinds", "LBeamPlate$Row;", true)
  | 1 => ("BeamPlate$Tokens", "places", "LBeamPlate$Row;", true)
  | _ => ("BeamPlate$Tokens", "values", "LBeamPlate$Row;", true)
def tyX8 : Nat → FieldType := fun k => match k with
  | 0 => .object "BeamPlate$Row"
  | 1 => .object "BeamPlate$Row"
  | _ => .object "BeamPlate$Row"
abbrev wsX80 : List Cond := u_ws RX8 TX8 3
theorem nmX8 : ∀ a, a < 3 → ∀ b, b < 3 → a ≠ b → (TX8 a).2.1 ≠ (TX8 b).2.1 := by decide +kernel
theorem tyX8_ok : ∀ k, k < 3 → parseFieldDescriptor (TX8 k).2.2.1 = some (tyX8 k) := by decide +kernel
abbrev cX8_init : ByteArray := prog_10_method_1_code
def yX8_init : MethodName := ⟨RX8, "<init>", "()V"⟩
abbrev cX8_takeApart : ByteArray := prog_10_method_2_code
def yX8_takeApart : MethodName := ⟨RX8, "takeApart", "(LBeamPlate$Row;)V"⟩
abbrev cX8_keep : ByteArray := prog_10_method_3_code
def yX8_keep : MethodName := ⟨RX8, "keep", "(III)V"⟩
abbrev cX8_takeWord : ByteArray := prog_10_method_4_code
def yX8_takeWord : MethodName := ⟨RX8, "takeWord", "(LBeamPlate$Row;I)I"⟩
abbrev cX8_takeNumber : ByteArray := prog_10_method_5_code
def yX8_takeNumber : MethodName := ⟨RX8, "takeNumber", "(LBeamPlate$Row;I)I"⟩
abbrev cX8_kindOfSign : ByteArray := prog_10_method_6_code
def yX8_kindOfSign : MethodName := ⟨RX8, "kindOfSign", "(I)I"⟩
abbrev cX8_kindOfWord : ByteArray := prog_10_method_7_code
def yX8_kindOfWord : MethodName := ⟨RX8, "kindOfWord", "(LBeamPlate$Row;II)I"⟩
abbrev cX8_isLetter : ByteArray := prog_10_method_8_code
def yX8_isLetter : MethodName := ⟨RX8, "isLetter", "(I)Z"⟩
abbrev cX8_isDigit : ByteArray := prog_10_method_9_code
def yX8_isDigit : MethodName := ⟨RX8, "isDigit", "(I)Z"⟩
abbrev cX8_isBlank : ByteArray := prog_10_method_10_code
def yX8_isBlank : MethodName := ⟨RX8, "isBlank", "(I)Z"⟩
def RX9 : String := "BeamPlate$Trials"
def TX9 : u_T := fun k => match k with
  | 0 => ("BeamPlate$Trials", "bestBurnt", "I", false)
  | 1 => ("BeamPlate$Trials", "bestTicks", "I", false)
  | 2 => ("BeamPlate$Trials", "bestOrder", "I", false)
  | 3 => ("BeamPlate$Trials", "runner", "LBeamPlate$Runner;", true)
  | 4 => ("BeamPlate$Trials", "sweep", "LBeamPlate$Row;", true)
  | 5 => ("BeamPlate$Trials", "like", "LBeamPlate$Plate;", true)
  | _ => ("BeamPlate$Trials", "chosen", "[I", true)
def tyX9 : Nat → FieldType := fun k => match k with
  | 0 => .int
  | 1 => .int
  | 2 => .int
  | 3 => .object "BeamPlate$Runner"
  | 4 => .object "BeamPlate$Row"
  | 5 => .object "BeamPlate$Plate"
  | _ => .array .int
abbrev wsX90 : List Cond := u_ws RX9 TX9 7
theorem nmX9 : ∀ a, a < 7 → ∀ b, b < 7 → a ≠ b → (TX9 a).2.1 ≠ (TX9 b).2.1 := by decide +kernel
theorem tyX9_ok : ∀ k, k < 7 → parseFieldDescriptor (TX9 k).2.2.1 = some (tyX9 k) := by decide +kernel
abbrev cX9_init : ByteArray := prog_11_method_1_code
def yX9_init : MethodName := ⟨RX9, "<init>", "()V"⟩
abbrev cX9_seekOrder : ByteArray := prog_11_method_2_code
def yX9_seekOrder : MethodName := ⟨RX9, "seekOrder", "(LBeamPlate$Works;LBeamPlate$Plate;I)V"⟩
abbrev cX9_choose : ByteArray := prog_11_method_3_code
def yX9_choose : MethodName := ⟨RX9, "choose", "(I)I"⟩
abbrev cX9_ordersJust : ByteArray := prog_11_method_4_code
def yX9_ordersJust : MethodName := ⟨RX9, "ordersJust", "(II)Z"⟩
abbrev cX9_keepIfBetter : ByteArray := prog_11_method_5_code
def yX9_keepIfBetter : MethodName := ⟨RX9, "keepIfBetter", "(III)V"⟩
abbrev cX9_leastSpeed : ByteArray := prog_11_method_6_code
def yX9_leastSpeed : MethodName := ⟨RX9, "leastSpeed", "(LBeamPlate$Works;LBeamPlate$Plate;II)I"⟩
abbrev cX9_noneIsThereBehind : ByteArray := prog_11_method_7_code
def yX9_noneIsThereBehind : MethodName := ⟨RX9, "noneIsThereBehind", "(II)Z"⟩
def RX10 : String := "BeamPlate$Works"
def TX10 : u_T := fun k => match k with
  | 0 => ("BeamPlate$Works", "melts", "[I", true)
  | 1 => ("BeamPlate$Works", "leads", "[I", true)
  | 2 => ("BeamPlate$Works", "losses", "[I", true)
  | 3 => ("BeamPlate$Works", "burns", "[I", true)
  | 4 => ("BeamPlate$Works", "strength", "I", false)
  | 5 => ("BeamPlate$Works", "gas", "Z", false)
  | 6 => ("BeamPlate$Works", "slatPitch", "I", false)
  | _ => ("BeamPlate$Works", "programs", "[LBeamPlate$Row;", true)
def tyX10 : Nat → FieldType := fun k => match k with
  | 0 => .array .int
  | 1 => .array .int
  | 2 => .array .int
  | 3 => .array .int
  | 4 => .int
  | 5 => .boolean
  | 6 => .int
  | _ => .array (.object "BeamPlate$Row")
abbrev wsX100 : List Cond := u_ws RX10 TX10 8
theorem nmX10 : ∀ a, a < 8 → ∀ b, b < 8 → a ≠ b → (TX10 a).2.1 ≠ (TX10 b).2.1 := by decide +kernel
theorem tyX10_ok : ∀ k, k < 8 → parseFieldDescriptor (TX10 k).2.2.1 = some (tyX10 k) := by decide +kernel
abbrev cX10_init : ByteArray := prog_12_method_1_code
def yX10_init : MethodName := ⟨RX10, "<init>", "()V"⟩
abbrev cX10_setStuff : ByteArray := prog_12_method_2_code
def yX10_setStuff : MethodName := ⟨RX10, "setStuff", "(IIIII)Z"⟩
abbrev cX10_programOf : ByteArray := prog_12_method_3_code
def yX10_programOf : MethodName := ⟨RX10, "programOf", "(I)LBeamPlate$Row;"⟩
abbrev cX10_hasSlatAt : ByteArray := prog_12_method_4_code
def yX10_hasSlatAt : MethodName := ⟨RX10, "hasSlatAt", "(I)Z"⟩
def RX11 : String := "BeamPlate"
def TX11 : u_T := fun k => match k with
  | 0 => ("BeamPlate", "works", "LBeamPlate$Works;", true)
  | 1 => ("BeamPlate", "tape", "LBeamPlate$Row;", true)
  | 2 => ("BeamPlate", "sparkRow", "LBeamPlate$Row;", true)
  | 3 => ("BeamPlate", "reader", "LBeamPlate$Reader;", true)
  | 4 => ("BeamPlate", "plate", "LBeamPlate$Plate;", true)
  | 5 => ("BeamPlate", "runner", "LBeamPlate$Runner;", true)
  | 6 => ("BeamPlate", "trials", "LBeamPlate$Trials;", true)
  | 7 => ("BeamPlate", "filling", "LBeamPlate$Filling;", true)
  | 8 => ("BeamPlate", "testBook", "LBeamPlate$TestBook;", true)
  | 9 => ("BeamPlate", "faultKind", "I", false)
  | _ => ("BeamPlate", "faultPlace", "I", false)
def tyX11 : Nat → FieldType := fun k => match k with
  | 0 => .object "BeamPlate$Works"
  | 1 => .object "BeamPlate$Row"
  | 2 => .object "BeamPlate$Row"
  | 3 => .object "BeamPlate$Reader"
  | 4 => .object "BeamPlate$Plate"
  | 5 => .object "BeamPlate$Runner"
  | 6 => .object "BeamPlate$Trials"
  | 7 => .object "BeamPlate$Filling"
  | 8 => .object "BeamPlate$TestBook"
  | 9 => .int
  | _ => .int
abbrev wsX110 : List Cond := u_ws RX11 TX11 11
theorem nmX11 : ∀ a, a < 11 → ∀ b, b < 11 → a ≠ b → (TX11 a).2.1 ≠ (TX11 b).2.1 := by decide +kernel
theorem tyX11_ok : ∀ k, k < 11 → parseFieldDescriptor (TX11 k).2.2.1 = some (tyX11 k) := by decide +kernel
abbrev cX11_init : ByteArray := prog_1_method_1_code
def yX11_init : MethodName := ⟨RX11, "<init>", "()V"⟩
abbrev cX11_stuff : ByteArray := prog_1_method_2_code
def yX11_stuff : MethodName := ⟨RX11, "stuff", "(IIIII)Z"⟩
abbrev cX11_plate : ByteArray := prog_1_method_3_code
def yX11_plate : MethodName := ⟨RX11, "plate", "(IIII)Z"⟩
abbrev cX11_beam : ByteArray := prog_1_method_4_code
def yX11_beam : MethodName := ⟨RX11, "beam", "(IZ)Z"⟩
abbrev cX11_pitch : ByteArray := prog_1_method_5_code
def yX11_pitch : MethodName := ⟨RX11, "pitch", "(I)Z"⟩
abbrev cX11_feed : ByteArray := prog_1_method_6_code
def yX11_feed : MethodName := ⟨RX11, "feed", "(IIIII)I"⟩
abbrev cX11_end : ByteArray := prog_1_method_7_code
def yX11_end : MethodName := ⟨RX11, "end", "(I)Z"⟩
abbrev cX11_way : ByteArray := prog_1_method_8_code
def yX11_way : MethodName := ⟨RX11, "way", "(I)Z"⟩
abbrev cX11_fault : ByteArray := prog_1_method_9_code
def yX11_fault : MethodName := ⟨RX11, "fault", "(I)I"⟩
abbrev cX11_run : ByteArray := prog_1_method_10_code
def yX11_run : MethodName := ⟨RX11, "run", "(I)I"⟩
abbrev cX11_cell : ByteArray := prog_1_method_11_code
def yX11_cell : MethodName := ⟨RX11, "cell", "(III)I"⟩
abbrev cX11_look : ByteArray := prog_1_method_12_code
def yX11_look : MethodName := ⟨RX11, "look", "(I)I"⟩
abbrev cX11_heat : ByteArray := prog_1_method_13_code
def yX11_heat : MethodName := ⟨RX11, "heat", "(I)J"⟩
abbrev cX11_order : ByteArray := prog_1_method_14_code
def yX11_order : MethodName := ⟨RX11, "order", "(II)I"⟩
abbrev cX11_speed : ByteArray := prog_1_method_15_code
def yX11_speed : MethodName := ⟨RX11, "speed", "(II)I"⟩
abbrev cX11_kind : ByteArray := prog_1_method_16_code
def yX11_kind : MethodName := ⟨RX11, "kind", "(III)I"⟩
abbrev cX11_fill : ByteArray := prog_1_method_17_code
def yX11_fill : MethodName := ⟨RX11, "fill", "(II)I"⟩
abbrev cX11_test : ByteArray := prog_1_method_18_code
def yX11_test : MethodName := ⟨RX11, "test", "(IIZI)Z"⟩
abbrev cX11_known : ByteArray := prog_1_method_19_code
def yX11_known : MethodName := ⟨RX11, "known", "(III)I"⟩
abbrev cX11_sparks : ByteArray := prog_1_method_20_code
def yX11_sparks : MethodName := ⟨RX11, "sparks", "()I"⟩
abbrev cX11_lost : ByteArray := prog_1_method_21_code
def yX11_lost : MethodName := ⟨RX11, "lost", "(II)I"⟩
abbrev cX11_within : ByteArray := prog_1_method_22_code
def yX11_within : MethodName := ⟨RX11, "within", "(III)Z"⟩
abbrev cX11_stepX : ByteArray := prog_1_method_23_code
def yX11_stepX : MethodName := ⟨RX11, "stepX", "(I)I"⟩
abbrev cX11_stepY : ByteArray := prog_1_method_24_code
def yX11_stepY : MethodName := ⟨RX11, "stepY", "(I)I"⟩
def RX12 : String := "BeamPlateModel"
def TX12 : u_T := fun k => match k with
  | 0 => ("BeamPlateModel", "told", "I", false)
  | 1 => ("BeamPlateModel", "meltOf", "[I", true)
  | 2 => ("BeamPlateModel", "leadOf", "[I", true)
  | 3 => ("BeamPlateModel", "lossOf", "[I", true)
  | 4 => ("BeamPlateModel", "burnOf", "[I", true)
  | 5 => ("BeamPlateModel", "hasPlate", "Z", false)
  | 6 => ("BeamPlateModel", "wide", "I", false)
  | 7 => ("BeamPlateModel", "high", "I", false)
  | 8 => ("BeamPlateModel", "stuffOf", "I", false)
  | 9 => ("BeamPlateModel", "thick", "I", false)
  | 10 => ("BeamPlateModel", "strength", "I", false)
  | 11 => ("BeamPlateModel", "hasGas", "Z", false)
  | 12 => ("BeamPlateModel", "slats", "I", false)
  | 13 => ("BeamPlateModel", "heat", "[I", true)
  | 14 => ("BeamPlateModel", "next", "[I", true)
  | 15 => ("BeamPlateModel", "state", "[I", true)
  | 16 => ("BeamPlateModel", "isBurnt", "[Z", true)
  | 17 => ("BeamPlateModel", "isTipped", "[Z", true)
  | 18 => ("BeamPlateModel", "headX", "[I", true)
  | 19 => ("BeamPlateModel", "headY", "[I", true)
  | 20 => ("BeamPlateModel", "isOn", "[Z", true)
  | 21 => ("BeamPlateModel", "speedOf", "[I", true)
  | 22 => ("BeamPlateModel", "ticks", "[I", true)
  | 23 => ("BeamPlateModel", "hits", "[I", true)
  | 24 => ("BeamPlateModel", "spent", "[I", true)
  | 25 => ("BeamPlateModel", "given", "[J", true)
  | 26 => ("BeamPlateModel", "lostHeat", "[J", true)
  | 27 => ("BeamPlateModel", "carried", "[J", true)
  | 28 => ("BeamPlateModel", "partOf", "[I", true)
  | 29 => ("BeamPlateModel", "pile", "[I", true)
  | 30 => ("BeamPlateModel", "parts", "I", false)
  | 31 => ("BeamPlateModel", "partCells", "[I", true)
  | 32 => ("BeamPlateModel", "partX", "[I", true)
  | 33 => ("BeamPlateModel", "isHeld", "[Z", true)
  | 34 => ("BeamPlateModel", "tape", "[I", true)
  | 35 => ("BeamPlateModel", "taped", "I", false)
  | 36 => ("BeamPlateModel", "at", "I", false)
  | 37 => ("BeamPlateModel", "from", "I", false)
  | 38 => ("BeamPlateModel", "token", "I", false)
  | 39 => ("BeamPlateModel", "value", "I", false)
  | 40 => ("BeamPlateModel", "words", "[I", true)
  | 41 => ("BeamPlateModel", "op", "[I", true)
  | 42 => ("BeamPlateModel", "argA", "[I", true)
  | 43 => ("BeamPlateModel", "argB", "[I", true)
  | 44 => ("BeamPlateModel", "opMany", "[I", true)
  | 45 => ("BeamPlateModel", "askFrom", "[I", true)
  | 46 => ("BeamPlateModel", "askMid", "[I", true)
  | 47 => ("BeamPlateModel", "askTo", "[I", true)
  | 48 => ("BeamPlateModel", "unitSign", "[I", true)
  | 49 => ("BeamPlateModel", "unitKind", "[I", true)
  | 50 => ("BeamPlateModel", "unitValue", "[I", true)
  | 51 => ("BeamPlateModel", "units", "I", false)
  | 52 => ("BeamPlateModel", "frames", "[I", true)
  | 53 => ("BeamPlateModel", "frameMany", "I", false)
  | 54 => ("BeamPlateModel", "readFault", "I", false)
  | 55 => ("BeamPlateModel", "readPlace", "I", false)
  | 56 => ("BeamPlateModel", "faultKind", "I", false)
  | 57 => ("BeamPlateModel", "faultPlace", "I", false)
  | 58 => ("BeamPlateModel", "cost", "I", false)
  | 59 => ("BeamPlateModel", "isOut", "Z", false)
  | 60 => ("BeamPlateModel", "runTicks", "I", false)
  | 61 => ("BeamPlateModel", "rounds", "[I", true)
  | 62 => ("BeamPlateModel", "kinds", "I", false)
  | 63 => ("BeamPlateModel", "kindWide", "[I", true)
  | 64 => ("BeamPlateModel", "kindHigh", "[I", true)
  | 65 => ("BeamPlateModel", "kindWorth", "[I", true)
  | 66 => ("BeamPlateModel", "mostWorth", "[I", true)
  | 67 => ("BeamPlateModel", "tests", "I", false)
  | 68 => ("BeamPlateModel", "testStuff", "[I", true)
  | 69 => ("BeamPlateModel", "testHeat", "[I", true)
  | 70 => ("BeamPlateModel", "testCut", "[Z", true)
  | 71 => ("BeamPlateModel", "testDay", "[I", true)
  | 72 => ("BeamPlateModel", "spark", "[I", true)
  | _ => ("BeamPlateModel", "sparkMany", "I", false)
def tyX12 : Nat → FieldType := fun k => match k with
  | 0 => .int
  | 1 => .array .int
  | 2 => .array .int
  | 3 => .array .int
  | 4 => .array .int
  | 5 => .boolean
  | 6 => .int
  | 7 => .int
  | 8 => .int
  | 9 => .int
  | 10 => .int
  | 11 => .boolean
  | 12 => .int
  | 13 => .array .int
  | 14 => .array .int
  | 15 => .array .int
  | 16 => .array .boolean
  | 17 => .array .boolean
  | 18 => .array .int
  | 19 => .array .int
  | 20 => .array .boolean
  | 21 => .array .int
  | 22 => .array .int
  | 23 => .array .int
  | 24 => .array .int
  | 25 => .array .long
  | 26 => .array .long
  | 27 => .array .long
  | 28 => .array .int
  | 29 => .array .int
  | 30 => .int
  | 31 => .array .int
  | 32 => .array .int
  | 33 => .array .boolean
  | 34 => .array .int
  | 35 => .int
  | 36 => .int
  | 37 => .int
  | 38 => .int
  | 39 => .int
  | 40 => .array .int
  | 41 => .array .int
  | 42 => .array .int
  | 43 => .array .int
  | 44 => .array .int
  | 45 => .array .int
  | 46 => .array .int
  | 47 => .array .int
  | 48 => .array .int
  | 49 => .array .int
  | 50 => .array .int
  | 51 => .int
  | 52 => .array .int
  | 53 => .int
  | 54 => .int
  | 55 => .int
  | 56 => .int
  | 57 => .int
  | 58 => .int
  | 59 => .boolean
  | 60 => .int
  | 61 => .array .int
  | 62 => .int
  | 63 => .array .int
  | 64 => .array .int
  | 65 => .array .int
  | 66 => .array .int
  | 67 => .int
  | 68 => .array .int
  | 69 => .array .int
  | 70 => .array .boolean
  | 71 => .array .int
  | 72 => .array .int
  | _ => .int
abbrev wsX120 : List Cond := u_ws RX12 TX12 74
theorem nmX12 : ∀ a, a < 74 → ∀ b, b < 74 → a ≠ b → (TX12 a).2.1 ≠ (TX12 b).2.1 := by decide +kernel
theorem tyX12_ok : ∀ k, k < 74 → parseFieldDescriptor (TX12 k).2.2.1 = some (tyX12 k) := by decide +kernel
abbrev cX12_init : ByteArray := prog_14_method_1_code
def yX12_init : MethodName := ⟨RX12, "<init>", "()V"⟩
abbrev cX12_isIn : ByteArray := prog_14_method_3_code
def yX12_isIn : MethodName := ⟨RX12, "isIn", "(III)Z"⟩
abbrev cX12_stuff : ByteArray := prog_14_method_4_code
def yX12_stuff : MethodName := ⟨RX12, "stuff", "(IIIII)Z"⟩
abbrev cX12_plate : ByteArray := prog_14_method_5_code
def yX12_plate : MethodName := ⟨RX12, "plate", "(IIII)Z"⟩
abbrev cX12_beam : ByteArray := prog_14_method_6_code
def yX12_beam : MethodName := ⟨RX12, "beam", "(IZ)Z"⟩
abbrev cX12_pitch : ByteArray := prog_14_method_7_code
def yX12_pitch : MethodName := ⟨RX12, "pitch", "(I)Z"⟩
abbrev cX12_isOnPlate : ByteArray := prog_14_method_8_code
def yX12_isOnPlate : MethodName := ⟨RX12, "isOnPlate", "(II)Z"⟩
abbrev cX12_isThere : ByteArray := prog_14_method_9_code
def yX12_isThere : MethodName := ⟨RX12, "isThere", "(III)Z"⟩
abbrev cX12_copies : ByteArray := prog_14_method_10_code
def yX12_copies : MethodName := ⟨RX12, "copies", "()V"⟩
abbrev cX12_stepX : ByteArray := prog_14_method_11_code
def yX12_stepX : MethodName := ⟨RX12, "stepX", "(I)I"⟩
abbrev cX12_stepY : ByteArray := prog_14_method_12_code
def yX12_stepY : MethodName := ⟨RX12, "stepY", "(I)I"⟩
abbrev cX12_flowFrom : ByteArray := prog_14_method_13_code
def yX12_flowFrom : MethodName := ⟨RX12, "flowFrom", "(IIII)I"⟩
abbrev cX12_gives : ByteArray := prog_14_method_14_code
def yX12_gives : MethodName := ⟨RX12, "gives", "(I)V"⟩
abbrev cX12_leads : ByteArray := prog_14_method_15_code
def yX12_leads : MethodName := ⟨RX12, "leads", "(I)V"⟩
abbrev cX12_goesAway : ByteArray := prog_14_method_16_code
def yX12_goesAway : MethodName := ⟨RX12, "goesAway", "(III)V"⟩
abbrev cX12_cuts : ByteArray := prog_14_method_17_code
def yX12_cuts : MethodName := ⟨RX12, "cuts", "(I)Z"⟩
abbrev cX12_ticksOnce : ByteArray := prog_14_method_18_code
def yX12_ticksOnce : MethodName := ⟨RX12, "ticksOnce", "(I)V"⟩
abbrev cX12_findsParts : ByteArray := prog_14_method_19_code
def yX12_findsParts : MethodName := ⟨RX12, "findsParts", "(I)V"⟩
abbrev cX12_spreads : ByteArray := prog_14_method_20_code
def yX12_spreads : MethodName := ⟨RX12, "spreads", "(II)V"⟩
abbrev cX12_lying : ByteArray := prog_14_method_21_code
def yX12_lying : MethodName := ⟨RX12, "lying", "(I)I"⟩
abbrev cX12_loosens : ByteArray := prog_14_method_22_code
def yX12_loosens : MethodName := ⟨RX12, "loosens", "(I)V"⟩
abbrev cX12_puts : ByteArray := prog_14_method_23_code
def yX12_puts : MethodName := ⟨RX12, "puts", "(I)V"⟩
abbrev cX12_feed : ByteArray := prog_14_method_24_code
def yX12_feed : MethodName := ⟨RX12, "feed", "(IIIII)I"⟩
abbrev cX12_end : ByteArray := prog_14_method_25_code
def yX12_end : MethodName := ⟨RX12, "end", "(I)Z"⟩
abbrev cX12_raw : ByteArray := prog_14_method_26_code
def yX12_raw : MethodName := ⟨RX12, "raw", "(I)I"⟩
abbrev cX12_isLetter : ByteArray := prog_14_method_27_code
def yX12_isLetter : MethodName := ⟨RX12, "isLetter", "(I)Z"⟩
abbrev cX12_isDigit : ByteArray := prog_14_method_28_code
def yX12_isDigit : MethodName := ⟨RX12, "isDigit", "(I)Z"⟩
abbrev cX12_isMarkSign : ByteArray := prog_14_method_29_code
def yX12_isMarkSign : MethodName := ⟨RX12, "isMarkSign", "(I)Z"⟩
abbrev cX12_wordAt : ByteArray := prog_14_method_30_code
def yX12_wordAt : MethodName := ⟨RX12, "wordAt", "(II)I"⟩
abbrev cX12_reads : ByteArray := prog_14_method_31_code
def yX12_reads : MethodName := ⟨RX12, "reads", "()V"⟩
abbrev cX12_fails : ByteArray := prog_14_method_32_code
def yX12_fails : MethodName := ⟨RX12, "fails", "(I)I"⟩
abbrev cX12_isWord : ByteArray := prog_14_method_33_code
def yX12_isWord : MethodName := ⟨RX12, "isWord", "(I)Z"⟩
abbrev cX12_isSign : ByteArray := prog_14_method_34_code
def yX12_isSign : MethodName := ⟨RX12, "isSign", "(I)Z"⟩
abbrev cX12_emits : ByteArray := prog_14_method_35_code
def yX12_emits : MethodName := ⟨RX12, "emits", "(III)V"⟩
abbrev cX12_readNumber : ByteArray := prog_14_method_36_code
def yX12_readNumber : MethodName := ⟨RX12, "readNumber", "()I"⟩
abbrev cX12_readUnit : ByteArray := prog_14_method_37_code
def yX12_readUnit : MethodName := ⟨RX12, "readUnit", "(I)I"⟩
abbrev cX12_readSum : ByteArray := prog_14_method_38_code
def yX12_readSum : MethodName := ⟨RX12, "readSum", "()I"⟩
abbrev cX12_readIf : ByteArray := prog_14_method_39_code
def yX12_readIf : MethodName := ⟨RX12, "readIf", "()I"⟩
abbrev cX12_readAgain : ByteArray := prog_14_method_40_code
def yX12_readAgain : MethodName := ⟨RX12, "readAgain", "()I"⟩
abbrev cX12_readPlain : ByteArray := prog_14_method_41_code
def yX12_readPlain : MethodName := ⟨RX12, "readPlain", "()I"⟩
abbrev cX12_isInAgain : ByteArray := prog_14_method_42_code
def yX12_isInAgain : MethodName := ⟨RX12, "isInAgain", "()Z"⟩
abbrev cX12_closes : ByteArray := prog_14_method_43_code
def yX12_closes : MethodName := ⟨RX12, "closes", "()V"⟩
abbrev cX12_ends : ByteArray := prog_14_method_44_code
def yX12_ends : MethodName := ⟨RX12, "ends", "()I"⟩
abbrev cX12_readAll : ByteArray := prog_14_method_45_code
def yX12_readAll : MethodName := ⟨RX12, "readAll", "()I"⟩
abbrev cX12_way : ByteArray := prog_14_method_46_code
def yX12_way : MethodName := ⟨RX12, "way", "(I)Z"⟩
abbrev cX12_fault : ByteArray := prog_14_method_47_code
def yX12_fault : MethodName := ⟨RX12, "fault", "(I)I"⟩
abbrev cX12_pays : ByteArray := prog_14_method_48_code
def yX12_pays : MethodName := ⟨RX12, "pays", "()Z"⟩
abbrev cX12_waits : ByteArray := prog_14_method_49_code
def yX12_waits : MethodName := ⟨RX12, "waits", "(II)V"⟩
abbrev cX12_comes : ByteArray := prog_14_method_50_code
def yX12_comes : MethodName := ⟨RX12, "comes", "(III)V"⟩
abbrev cX12_goes : ByteArray := prog_14_method_51_code
def yX12_goes : MethodName := ⟨RX12, "goes", "(III)V"⟩
abbrev cX12_askedOf : ByteArray := prog_14_method_52_code
def yX12_askedOf : MethodName := ⟨RX12, "askedOf", "(II)I"⟩
abbrev cX12_sumOf : ByteArray := prog_14_method_53_code
def yX12_sumOf : MethodName := ⟨RX12, "sumOf", "(IIII)I"⟩
abbrev cX12_isSo : ByteArray := prog_14_method_54_code
def yX12_isSo : MethodName := ⟨RX12, "isSo", "(III)Z"⟩
abbrev cX12_doesPlain : ByteArray := prog_14_method_55_code
def yX12_doesPlain : MethodName := ⟨RX12, "doesPlain", "(IIII)V"⟩
abbrev cX12_runs : ByteArray := prog_14_method_56_code
def yX12_runs : MethodName := ⟨RX12, "runs", "(II)V"⟩
abbrev cX12_run : ByteArray := prog_14_method_57_code
def yX12_run : MethodName := ⟨RX12, "run", "(I)I"⟩
abbrev cX12_bridgeOf : ByteArray := prog_14_method_58_code
def yX12_bridgeOf : MethodName := ⟨RX12, "bridgeOf", "(II)I"⟩
abbrev cX12_cell : ByteArray := prog_14_method_59_code
def yX12_cell : MethodName := ⟨RX12, "cell", "(III)I"⟩
abbrev cX12_cellsAs : ByteArray := prog_14_method_60_code
def yX12_cellsAs : MethodName := ⟨RX12, "cellsAs", "(II)I"⟩
abbrev cX12_look : ByteArray := prog_14_method_61_code
def yX12_look : MethodName := ⟨RX12, "look", "(I)I"⟩
abbrev cX12_heat : ByteArray := prog_14_method_62_code
def yX12_heat : MethodName := ⟨RX12, "heat", "(I)J"⟩
abbrev cX12_ones : ByteArray := prog_14_method_63_code
def yX12_ones : MethodName := ⟨RX12, "ones", "(I)I"⟩
abbrev cX12_isOrder : ByteArray := prog_14_method_64_code
def yX12_isOrder : MethodName := ⟨RX12, "isOrder", "(III)Z"⟩
abbrev cX12_order : ByteArray := prog_14_method_65_code
def yX12_order : MethodName := ⟨RX12, "order", "(II)I"⟩
abbrev cX12_cutsThrough : ByteArray := prog_14_method_66_code
def yX12_cutsThrough : MethodName := ⟨RX12, "cutsThrough", "(III)Z"⟩
abbrev cX12_speed : ByteArray := prog_14_method_67_code
def yX12_speed : MethodName := ⟨RX12, "speed", "(II)I"⟩
abbrev cX12_kind : ByteArray := prog_14_method_68_code
def yX12_kind : MethodName := ⟨RX12, "kind", "(III)I"⟩
abbrev cX12_mostOf : ByteArray := prog_14_method_69_code
def yX12_mostOf : MethodName := ⟨RX12, "mostOf", "(II)I"⟩
abbrev cX12_fill : ByteArray := prog_14_method_70_code
def yX12_fill : MethodName := ⟨RX12, "fill", "(II)I"⟩
abbrev cX12_test : ByteArray := prog_14_method_71_code
def yX12_test : MethodName := ⟨RX12, "test", "(IIZI)Z"⟩
abbrev cX12_known : ByteArray := prog_14_method_72_code
def yX12_known : MethodName := ⟨RX12, "known", "(III)I"⟩
abbrev cX12_sparks : ByteArray := prog_14_method_73_code
def yX12_sparks : MethodName := ⟨RX12, "sparks", "()I"⟩
abbrev cX12_lost : ByteArray := prog_14_method_74_code
def yX12_lost : MethodName := ⟨RX12, "lost", "(II)I"⟩
def RJ6 : String := "java/lang/Integer"
def TJ6 : u_T := fun k => match k with
  | _ => ("", "", "", false)
def tyJ6 : Nat → FieldType := fun k => match k with
  | _ => .int
abbrev wsJ60 : List Cond := u_ws RJ6 TJ6 0
theorem nmJ6 : ∀ a, a < 0 → ∀ b, b < 0 → a ≠ b → (TJ6 a).2.1 ≠ (TJ6 b).2.1 := by decide +kernel
theorem tyJ6_ok : ∀ k, k < 0 → parseFieldDescriptor (TJ6 k).2.2.1 = some (tyJ6 k) := by decide +kernel
abbrev cJ6_bitCount_0f7a4 : ByteArray := prog_15_method_49_code
def yJ6_bitCount_0f7a4 : MethodName := ⟨RJ6, "bitCount", "(I)I"⟩
def RJ9 : String := "java/lang/Math"
def TJ9 : u_T := fun k => match k with
  | _ => ("", "", "", false)
def tyJ9 : Nat → FieldType := fun k => match k with
  | _ => .int
abbrev wsJ90 : List Cond := u_ws RJ9 TJ9 0
theorem nmJ9 : ∀ a, a < 0 → ∀ b, b < 0 → a ≠ b → (TJ9 a).2.1 ≠ (TJ9 b).2.1 := by decide +kernel
theorem tyJ9_ok : ∀ k, k < 0 → parseFieldDescriptor (TJ9 k).2.2.1 = some (tyJ9 k) := by decide +kernel
abbrev cJ9_abs_0f7a4 : ByteArray := prog_16_method_59_code
def yJ9_abs_0f7a4 : MethodName := ⟨RJ9, "abs", "(I)I"⟩
abbrev cJ9_max_7cf53 : ByteArray := prog_16_method_65_code
def yJ9_max_7cf53 : MethodName := ⟨RJ9, "max", "(II)I"⟩
abbrev cJ9_min_7cf53 : ByteArray := prog_16_method_69_code
def yJ9_min_7cf53 : MethodName := ⟨RJ9, "min", "(II)I"⟩
def RJ0 : String := "java/lang/String"
def TJ0 : u_T := fun k => match k with
  | _ => ("", "", "", false)
def tyJ0 : Nat → FieldType := fun k => match k with
  | _ => .int
abbrev wsJ00 : List Cond := u_ws RJ0 TJ0 0
theorem nmJ0 : ∀ a, a < 0 → ∀ b, b < 0 → a ≠ b → (TJ0 a).2.1 ≠ (TJ0 b).2.1 := by decide +kernel
theorem tyJ0_ok : ∀ k, k < 0 → parseFieldDescriptor (TJ0 k).2.2.1 = some (tyJ0 k) := by decide +kernel
abbrev cJ0_length_8abf5 : ByteArray := prog_17_method_54_code
def yJ0_length_8abf5 : MethodName := ⟨RJ0, "length", "()I"⟩
abbrev cJ0_charAt_5068e : ByteArray := prog_17_method_56_code
def yJ0_charAt_5068e : MethodName := ⟨RJ0, "charAt", "(I)C"⟩
abbrev cJ0_coder_7d493 : ByteArray := prog_17_method_152_code
def yJ0_coder_7d493 : MethodName := ⟨RJ0, "coder", "()B"⟩
abbrev cJ0_isLatin1_aae02 : ByteArray := prog_17_method_154_code
def yJ0_isLatin1_aae02 : MethodName := ⟨RJ0, "isLatin1", "()Z"⟩
abbrev cJ0_checkIndex_df160 : ByteArray := prog_17_method_155_code
def yJ0_checkIndex_df160 : MethodName := ⟨RJ0, "checkIndex", "(II)V"⟩
def RJ1 : String := "java/lang/StringLatin1"
def TJ1 : u_T := fun k => match k with
  | _ => ("", "", "", false)
def tyJ1 : Nat → FieldType := fun k => match k with
  | _ => .int
abbrev wsJ10 : List Cond := u_ws RJ1 TJ1 0
theorem nmJ1 : ∀ a, a < 0 → ∀ b, b < 0 → a ≠ b → (TJ1 a).2.1 ≠ (TJ1 b).2.1 := by decide +kernel
theorem tyJ1_ok : ∀ k, k < 0 → parseFieldDescriptor (TJ1 k).2.2.1 = some (tyJ1 k) := by decide +kernel
abbrev cJ1_charAt_3b067 : ByteArray := prog_18_method_2_code
def yJ1_charAt_3b067 : MethodName := ⟨RJ1, "charAt", "([BI)C"⟩
def RJ2 : String := "java/lang/StringUTF16"
def TJ2 : u_T := fun k => match k with
  | _ => ("", "", "", false)
def tyJ2 : Nat → FieldType := fun k => match k with
  | _ => .int
abbrev wsJ20 : List Cond := u_ws RJ2 TJ2 0
theorem nmJ2 : ∀ a, a < 0 → ∀ b, b < 0 → a ≠ b → (TJ2 a).2.1 ≠ (TJ2 b).2.1 := by decide +kernel
theorem tyJ2_ok : ∀ k, k < 0 → parseFieldDescriptor (TJ2 k).2.2.1 = some (tyJ2 k) := by decide +kernel
abbrev cJ2_getChar_3b067 : ByteArray := prog_19_method_5_code
def yJ2_getChar_3b067 : MethodName := ⟨RJ2, "getChar", "([BI)C"⟩
abbrev cJ2_length_9d52b : ByteArray := prog_19_method_6_code
def yJ2_length_9d52b : MethodName := ⟨RJ2, "length", "([B)I"⟩
abbrev cJ2_charAt_3b067 : ByteArray := prog_19_method_83_code
def yJ2_charAt_3b067 : MethodName := ⟨RJ2, "charAt", "([BI)C"⟩
abbrev cJ2_checkIndex_2214a : ByteArray := prog_19_method_91_code
def yJ2_checkIndex_2214a : MethodName := ⟨RJ2, "checkIndex", "(I[B)V"⟩
def RJ10 : String := "java/lang/System"
def TJ10 : u_T := fun k => match k with
  | _ => ("", "", "", false)
def tyJ10 : Nat → FieldType := fun k => match k with
  | _ => .int
abbrev wsJ100 : List Cond := u_ws RJ10 TJ10 0
theorem nmJ10 : ∀ a, a < 0 → ∀ b, b < 0 → a ≠ b → (TJ10 a).2.1 ≠ (TJ10 b).2.1 := by decide +kernel
theorem tyJ10_ok : ∀ k, k < 0 → parseFieldDescriptor (TJ10 k).2.2.1 = some (tyJ10 k) := by decide +kernel
def RJ7 : String := "java/util/Arrays"
def TJ7 : u_T := fun k => match k with
  | _ => ("", "", "", false)
def tyJ7 : Nat → FieldType := fun k => match k with
  | _ => .int
abbrev wsJ70 : List Cond := u_ws RJ7 TJ7 0
theorem nmJ7 : ∀ a, a < 0 → ∀ b, b < 0 → a ≠ b → (TJ7 a).2.1 ≠ (TJ7 b).2.1 := by decide +kernel
theorem tyJ7_ok : ∀ k, k < 0 → parseFieldDescriptor (TJ7 k).2.2.1 = some (tyJ7 k) := by decide +kernel
abbrev cJ7_fill_53178 : ByteArray := prog_21_method_103_code
def yJ7_fill_53178 : MethodName := ⟨RJ7, "fill", "([II)V"⟩
def RJ3 : String := "jdk/internal/util/Preconditions"
def TJ3 : u_T := fun k => match k with
  | _ => ("", "", "", false)
def tyJ3 : Nat → FieldType := fun k => match k with
  | _ => .int
abbrev wsJ30 : List Cond := u_ws RJ3 TJ3 0
theorem nmJ3 : ∀ a, a < 0 → ∀ b, b < 0 → a ≠ b → (TJ3 a).2.1 ≠ (TJ3 b).2.1 := by decide +kernel
theorem tyJ3_ok : ∀ k, k < 0 → parseFieldDescriptor (TJ3 k).2.2.1 = some (tyJ3 k) := by decide +kernel
abbrev cJ3_checkIndex_8e157 : ByteArray := prog_22_method_11_code
def yJ3_checkIndex_8e157 : MethodName := ⟨RJ3, "checkIndex", "(IILjava/util/function/BiFunction;)I"⟩
def RL : String := "BeamPlateLaw"
abbrev cL_law : ByteArray := code
def yL_law : MethodName := ⟨RL, "law", "([I)Z"⟩
abbrev vwCl : List vw_C := [(RX0, TX0, 5), (RX1, TX1, 5), (RX2, TX2, 5), (RX3, TX3, 18), (RX4, TX4, 8), (RX5, TX5, 2), (RX6, TX6, 3), (RX7, TX7, 6), (RX8, TX8, 3), (RX9, TX9, 7), (RX10, TX10, 8), (RX11, TX11, 11), (RX12, TX12, 74)]
end
section
-- THE TABLES' WORDS THAT EVERY METHOD MAY USE: those that stay when a class is warmed
def TB : List Cond := lw_tbl.filter goodWord
theorem tb_of {w : Cond} (h : w ∈ tables_1) (g : goodWord w = true) : w ∈ TB := List.mem_filter.mpr ⟨List.mem_append_right _ h, g⟩
theorem tb1 {w : Cond} (i : Nat) (h : tables_1_1[i]? = some w) (g : goodWord w = true) : w ∈ TB := tb_of (List.mem_append_left _ (List.mem_of_getElem? h)) g
theorem tb2 {w : Cond} (i : Nat) (h : tables_1_2[i]? = some w) (g : goodWord w = true) : w ∈ TB := tb_of (List.mem_append_right _ (List.mem_append_left _ (List.mem_of_getElem? h))) g
theorem tb3 {w : Cond} (i : Nat) (h : tables_1_3[i]? = some w) (g : goodWord w = true) : w ∈ TB := tb_of (List.mem_append_right _ (List.mem_append_right _ (List.mem_append_left _ (List.mem_of_getElem? h)))) g
theorem tb4 {w : Cond} (i : Nat) (h : tables_1_4[i]? = some w) (g : goodWord w = true) : w ∈ TB := tb_of (List.mem_append_right _ (List.mem_append_right _ (List.mem_append_right _ (List.mem_append_left _ (List.mem_of_getElem? h))))) g
theorem tb5 {w : Cond} (i : Nat) (h : tables_1_5[i]? = some w) (g : goodWord w = true) : w ∈ TB := tb_of (List.mem_append_right _ (List.mem_append_right _ (List.mem_append_right _ (List.mem_append_right _ (List.mem_append_left _ (List.mem_of_getElem? h)))))) g
theorem tb6 {w : Cond} (i : Nat) (h : tables_1_6[i]? = some w) (g : goodWord w = true) : w ∈ TB := tb_of (List.mem_append_right _ (List.mem_append_right _ (List.mem_append_right _ (List.mem_append_right _ (List.mem_append_right _ (List.mem_append_left _ (List.mem_of_getElem? h))))))) g
theorem tb7 {w : Cond} (i : Nat) (h : tables_1_7[i]? = some w) (g : goodWord w = true) : w ∈ TB := tb_of (List.mem_append_right _ (List.mem_append_right _ (List.mem_append_right _ (List.mem_append_right _ (List.mem_append_right _ (List.mem_append_right _ (List.mem_of_getElem? h))))))) g
theorem tbS {w : Cond} (i : Nat) (h : (k2_sels lw_privs)[i]? = some w) (g : goodWord w = true) : w ∈ TB := List.mem_filter.mpr ⟨List.mem_append_left _ (List.mem_of_getElem? h), g⟩
theorem tb_good {w : Cond} (h : w ∈ TB) : (w.onTables && w.keeps) = true ∨ ∃ ty, w = .arrayClass ty := good_of_word (List.mem_filter.mp h).2
theorem tb_tbl {w : Cond} (h : w ∈ TB) : w ∈ lw_tbl := (List.mem_filter.mp h).1
/-- a callee's words among a caller's -/
theorem tb_in {y : MethodName} {cc : ByteArray} {n : Nat} {r : Option FieldType} (h : Cond.code y cc n r ∈ TB) : GoodIn TB (Cond.code y cc n r :: TB) := fun w hw => by
  have h1 : w ∈ TB := (List.mem_cons.mp hw).elim (fun q => by rw [q]; exact h) id
  exact ⟨h1, tb_good h1⟩
/-- links to private members of a nest mate -/
def m_isN : Cond → Bool
  | .methodLinkNest _ _ _ _ => true
  | _ => false
theorem m_nest_moved {s U : State} (hW : s.WarmedH U.vm) {w : Cond} (hn : m_isN w = true) (h : va_Nw w s) : va_Nw w U := by
  cases w <;> first | exact va_Nw.warmM hW h | (simp [m_isN] at hn)
theorem m_nest_same {s U : State} (hv : s.vm = U.vm) {w : Cond} (hn : m_isN w = true) (h : va_Nw w s) : va_Nw w U := by
  cases w <;> first | exact va_Nw.same rfl hv h | (simp [m_isN] at hn)
-- THE MEMORY: a place is a cell (its address: base + place); ints and longs by place and number of the field or element
abbrev mM : Type := (Nat → Nat → Int32) × (Nat → Nat → Int64)
/-- what a place is: an object (number of its class, fields: 0 an int, 1 a long, 2 null, n + 3 the place n), or an array (0 ints, 1 booleans, 2 longs, 3 Rows; its length; the places that it holds) -/
abbrev mL : Type := (Nat × List Nat) ⊕ (Nat × Nat × List Nat)
def m_v (b : Nat) (μ : mM) (k j : Nat) : Nat → Value
  | 0 => .int (μ.1 k j)
  | 1 => .long (μ.2 k j)
  | 2 => .null
  | n + 3 => .ref (b + n)
def m_e (cy : Nat → ClassId) (b : Nat) (μ : mM) (k : Nat) : mL → va_E
  | .inl (ci, fs) => .inr (ci, fs.mapIdx (fun j f => m_v b μ k j f))
  | .inr (0, n, _) => .inl (cy 0, n, .inl (μ.1 k))
  | .inr (1, n, _) => .inl (cy 1, n, .inl (μ.1 k))
  | .inr (2, n, _) => .inl (cy 2, n, .inr (.inl (μ.2 k)))
  | .inr (_, n, rs) => .inl (cy 3, n, .inr (.inr (.inr (.inr (fun j => (rs[j]?).map (fun q => b + q))))))
def m_w (cy : Nat → ClassId) (b : Nat) (lay : List mL) (μ : mM) : va_W := lay.mapIdx (fun k x => (b + k, m_e cy b μ k x))
abbrev m_T (cy : Nat → ClassId) : List (ClassId × FieldType) := [(cy 0, .int), (cy 1, .boolean), (cy 2, .long), (cy 3, .object "BeamPlate$Row")]
def m_K (D : va_G) (cy : Nat → ClassId) (U : State) : Prop := va_K D vwCl (m_T cy) U ∧ (∀ w ∈ lw_tbl, m_isN w = true → va_Nw w U) ∧ va_AO "BeamPlate$Row" U
def m_si (μ : mM) (k j : Nat) (v : Int32) : mM := (fun a i => if a = k ∧ i = j then v else μ.1 a i, μ.2)
def m_sl (μ : mM) (k j : Nat) (v : Int64) : mM := (μ.1, fun a i => if a = k ∧ i = j then v else μ.2 a i)
/-- a new place: all its numbers are 0 -/
def m_z (μ : mM) (k : Nat) : mM := (fun a i => if a = k then 0 else μ.1 a i, fun a i => if a = k then 0 else μ.2 a i)
theorem m_w_at {cy : Nat → ClassId} {b : Nat} {lay : List mL} {μ : mM} {k : Nat} {x : mL} (h : lay[k]? = some x) : (m_w cy b lay μ)[k]? = some (b + k, m_e cy b μ k x) := by
  simp [m_w, List.getElem?_mapIdx, h]
theorem m_w_get {cy : Nat → ClassId} {b : Nat} {lay : List mL} {μ : mM} {k : Nat} {q : Nat × va_E} (h : (m_w cy b lay μ)[k]? = some q) : ∃ x, lay[k]? = some x ∧ q = (b + k, m_e cy b μ k x) := by
  simp only [m_w, List.getElem?_mapIdx, Option.map_eq_some_iff] at h
  obtain ⟨x, h1, h2⟩ := h
  exact ⟨x, h1, h2.symm⟩
theorem m_D {cy : Nat → ClassId} {b : Nat} {lay : List mL} {μ : mM} : va_D (fun q => b ≤ q) (m_w cy b lay μ) := by
  refine ⟨fun i j p q hi hj e => ?_, fun k q hk => ?_⟩
  · obtain ⟨x, -, rfl⟩ := m_w_get hi
    obtain ⟨y, -, rfl⟩ := m_w_get hj
    have : b + i = b + j := e
    omega
  · obtain ⟨x, -, rfl⟩ := m_w_get hk
    exact Nat.le_add_right b k
theorem m_e_cong {cy : Nat → ClassId} {b : Nat} {μ ν : mM} {k : Nat} (h1 : ∀ j, ν.1 k j = μ.1 k j) (h2 : ∀ j, ν.2 k j = μ.2 k j) (x : mL) : m_e cy b ν k x = m_e cy b μ k x := by
  have e1 : ν.1 k = μ.1 k := funext h1
  have e2 : ν.2 k = μ.2 k := funext h2
  have ev : ∀ j f, m_v b ν k j f = m_v b μ k j f := by
    intro j f
    match f with
    | 0 => simp [m_v, e1]
    | 1 => simp [m_v, e2]
    | 2 => rfl
    | n + 3 => rfl
  match x with
  | .inl (ci, fs) => simp [m_e, ev]
  | .inr (0, n, _) => simp [m_e, e1]
  | .inr (1, n, _) => simp [m_e, e1]
  | .inr (2, n, _) => simp [m_e, e2]
  | .inr (n + 3, _, _) => rfl
/-- a place is written: the others are as they were -/
theorem m_w_set {cy : Nat → ClassId} {b : Nat} {lay lay' : List mL} {μ ν : mM} {k : Nat} {x : mL} {e : va_E} (h : lay[k]? = some x) (hl : ∀ i, i ≠ k → lay'[i]? = lay[i]?) {x' : mL} (hx : lay'[k]? = some x') (he : e = m_e cy b ν k x') (ho : ∀ i, i ≠ k → (∀ j, ν.1 i j = μ.1 i j) ∧ ∀ j, ν.2 i j = μ.2 i j) :
    (m_w cy b lay μ).set k (b + k, e) = m_w cy b lay' ν := by
  have hk : k < (m_w cy b lay μ).length := (List.getElem?_eq_some_iff.mp (m_w_at (cy := cy) (b := b) (μ := μ) h)).1
  refine List.ext_getElem? fun i => ?_
  by_cases hi : i = k
  · subst hi
    rw [List.getElem?_set_self hk, m_w_at hx, he]
  · rw [List.getElem?_set_ne (Ne.symm hi)]
    simp only [m_w, List.getElem?_mapIdx, hl i hi]
    cases lay[i]? with
    | none => rfl
    | some y =>
      show some (b + i, m_e cy b μ i y) = some (b + i, m_e cy b ν i y)
      rw [m_e_cong (ho i hi).1 (ho i hi).2 y]
theorem m_fs_at {b : Nat} {μ : mM} {k j f : Nat} {fs : List Nat} (h : fs[j]? = some f) : (fs.mapIdx (fun j f => m_v b μ k j f))[j]? = some (m_v b μ k j f) := by
  simp [List.getElem?_mapIdx, h]
theorem m_fs_set {b : Nat} {μ ν : mM} {k j f g : Nat} {fs : List Nat} (h : fs[j]? = some f) {v : Value} (hv : v = m_v b ν k j g) (ho : ∀ i, i ≠ j → ν.1 k i = μ.1 k i ∧ ν.2 k i = μ.2 k i) :
    (fs.mapIdx (fun j f => m_v b μ k j f)).set j v = (fs.set j g).mapIdx (fun j f => m_v b ν k j f) := by
  have hj : j < fs.length := (List.getElem?_eq_some_iff.mp h).1
  have hj2 : j < (fs.mapIdx (fun j f => m_v b μ k j f)).length := by simpa using hj
  refine List.ext_getElem? fun i => ?_
  by_cases hi : i = j
  · subst hi
    rw [List.getElem?_set_self hj2, List.getElem?_mapIdx, List.getElem?_set_self hj, hv]
    rfl
  · rw [List.getElem?_set_ne (Ne.symm hi), List.getElem?_mapIdx, List.getElem?_mapIdx, List.getElem?_set_ne (Ne.symm hi)]
    cases fs[i]? with
    | none => rfl
    | some y =>
      show some _ = some _
      obtain ⟨e1, e2⟩ := ho i hi
      match y with
      | 0 => simp [m_v, e1]
      | 1 => simp [m_v, e2]
      | 2 => rfl
      | n + 3 => rfl
theorem m_set_same {fs : List Nat} {j f : Nat} (h : fs[j]? = some f) : fs.set j f = fs := by
  refine List.ext_getElem? fun i => ?_
  by_cases hi : i = j
  · subst hi
    rw [List.getElem?_set_self (List.getElem?_eq_some_iff.mp h).1, h]
  · rw [List.getElem?_set_ne (Ne.symm hi)]
-- THE WORLD OF A WALK
def m_W (D : va_G) (cy : Nat → ClassId) (s : State) (b : Nat) (lay : List mL) (μ : mM) (H : Heap) (locs : List Loc) : Prop :=
  m_K D cy s ∧ va_P D vwCl (m_w cy b lay μ) H ∧ va_S (fun q => b ≤ q) s.heap H locs
end
section
section MR
variable {p : Program} {l : Launch} {e : Env} {R : Room} {s : State} {m : MethodId} {args : Array Value} {below : List Frame} {meth : Method} {c : Code} {H : Heap} {locs : List Loc} {cells slots : Nat} {Q : State → Prop}
variable {cc : ByteArray} {pc : Nat} {ls : Array Slot} {rest : List Value} {D : va_G} {cy : Nat → ClassId} {b : Nat} {lay : List mL} {μ : mM}
/-- a field is read -/
theorem m_get (hx : p.tables.exec = Jvm.exec) (hb : c.code = cc) {own C : String} {T : u_T} {N ci index : Nat} (hts : ∀ w ∈ TB, w.before args s = true) (hown : s.vm.findClass own = some m.cls) (hW : m_W D cy s b lay μ H locs) (k j : Nat) {f : Nat} {fs : List Nat} (hk : lay[k]? = some (.inl (ci, fs))) (hf : fs[j]? = some f) (hin : ∀ w ∈ u_ws C T N, w ∈ TB) (hc : vwCl[ci]? = some (C, T, N)) (hj : j < N) (hlink : Cond.fieldLink own index (T j).1 (T j).2.1 (T j).2.2.1 ∈ TB) (hdg : decode cc pc = .ok (.getfield index, 3))
    (kk : W p l e R s m args below meth c H locs cells slots Q (F0 m (pc + 3) ls (m_v b μ k j f :: rest))) : W p l e R s m args below meth c H locs cells slots Q (F0 m pc ls (.ref (b + k) :: rest)) :=
  va_get hx hb hts hin hown hW.1.1 hW.2.1 k (m_w_at hk) hc j hj (hts _ hlink) (fun _ h => h) (m_fs_at hf) hdg kk
/-- a field is written: anything of it -/
theorem m_putG (hx : p.tables.exec = Jvm.exec) (hb : c.code = cc) {own C : String} {T : u_T} {N ci index : Nat} (hts : ∀ w ∈ TB, w.before args s = true) (hown : s.vm.findClass own = some m.cls) (hW : m_W D cy s b lay μ H locs) (k j : Nat) {fs : List Value} {lay' : List mL} {ν : mM} (hk : (m_w cy b lay μ)[k]? = some (b + k, .inr (ci, fs))) (hin : ∀ w ∈ u_ws C T N, w ∈ TB) (ty0 : Nat → FieldType) (hty : ∀ k, k < N → parseFieldDescriptor (T k).2.2.1 = some (ty0 k)) (hnm : ∀ a, a < N → ∀ b, b < N → a ≠ b → (T a).2.1 ≠ (T b).2.1) (hc : vwCl[ci]? = some (C, T, N)) (hj : j < N) (hlink : Cond.fieldLink own index (T j).1 (T j).2.1 (T j).2.2.1 ∈ TB) (hfin : (T j).2.2.2 = false ∨ ((T j).2.2.2 = true ∧ meth.name = "<init>" ∧ (T j).1 = own)) {v : Value} (hn : narrow (ty0 j) v = v) (hfit : fits (ty0 j) v = true) (hl : j < fs.length) (hdg : decode cc pc = .ok (.putfield index, 3))
    (hnew : (m_w cy b lay μ).set k (b + k, .inr (ci, fs.set j v)) = m_w cy b lay' ν)
    (kk : ∀ (H1 : Heap) (locs1 : List Loc), m_W D cy s b lay' ν H1 locs1 → H1.size = H.size → W p l e R s m args below meth c H1 locs1 cells slots Q (F0 m (pc + 3) ls rest)) : W p l e R s m args below meth c H locs cells slots Q (F0 m pc ls (v :: .ref (b + k) :: rest)) := by
  obtain ⟨hK, hP, hS0⟩ := hW
  have hap := va_apart (own := own) hts hin ty0 hty hnm hK.1 hc
  obtain ⟨r, h1, cell, q1, q2, q3, q4⟩ := hP k _ hk
  have hr : r = (C, T, N) := Option.some.inj (h1.symm.trans hc)
  subst hr
  obtain ⟨hS, hfc, kC, hkC, hkind⟩ := hK.1.1 ci _ hc
  obtain ⟨cf, kf, fi, f, hi, hsl⟩ := hS j hj
  have hlay := hts _ (hin _ (u_in_lay hj))
  have hst := (u_facts hfc hkC (u_lays hts hin hj) hi).1
  have fin : ∀ H' : Heap, H'[b + k]? = some (cell.setSlot f.slot v) → H'.size = H.size → (∀ q, q ≠ b + k → H'[q]? = H[q]?) → W p l e R s m args below meth c H' (locs ++ [⟨b + k, f.slot⟩]) cells slots Q (F0 m (pc + 3) ls rest) := by
    intro H' e1 e2 e3
    rw [hsl] at e1 ⊢
    have hP' := hP.set (m_D (cy := cy) (b := b) (lay := lay) (μ := μ)) hk (e := .inr (ci, fs.set j v)) ⟨_, hc, t_OB.to (V := updV (vp_V fs) j v) ⟨_, e1, q2, q3, t_set q4 hap hj v⟩ (fun i _ => vp_updV_set hl v i)⟩ e3
    rw [hnew] at hP'
    exact kk H' _ ⟨hK, hP', hS0.put e2 e3 (Nat.le_add_right b k)⟩ e2
  rcases hfin with hfin | ⟨hfin, hin2, hdecl⟩
  · unfold u_lay at hlay
    rw [if_neg (by rw [hfin]; decide)] at hlay
    have h6 := u_store hfc hkC hkind hlay hi (hty j hj) hn hfit
    exact W.putK hx hb (f := f) ⟨hown, hts _ hlink, ⟨_, _, _, hi⟩, hst⟩ (by rw [q2]; exact h6) q1 q3 (by rw [hsl]; exact k2_hasslot (q4 j hj)) rfl rfl hdg fin
  · unfold u_lay at hlay
    rw [if_pos hfin] at hlay
    have hcf : m.cls = cf := by
      obtain ⟨_, _, c', _, _, _, -, -, hf', -, -, -, hown2, -⟩ := Cond.laysFinal_spec hlay
      have e1 : c' = cf := by have := hi.symm.trans hf'; simp at this; exact this.1.symm
      rw [hdecl] at hown2
      rw [← e1]; exact Option.some.inj (hown.symm.trans hown2)
    have h6 := u_fits hfc hkC hkind (Or.inr hlay) hi (hty j hj) hn hfit
    exact W.putFinK hx hb hown (hts _ hlink) hi hst hcf hin2 (by rw [q2]; exact h6) q1 q3 (by rw [hsl]; exact k2_hasslot (q4 j hj)) rfl rfl hdg fin
/-- an int field (or a boolean one) is written -/
theorem m_puti (hx : p.tables.exec = Jvm.exec) (hb : c.code = cc) {own C : String} {T : u_T} {N ci index : Nat} (hts : ∀ w ∈ TB, w.before args s = true) (hown : s.vm.findClass own = some m.cls) (hW : m_W D cy s b lay μ H locs) (k j : Nat) {fs : List Nat} (hk : lay[k]? = some (.inl (ci, fs))) (hf : fs[j]? = some 0) (hin : ∀ w ∈ u_ws C T N, w ∈ TB) {ty0 : Nat → FieldType} (hty : ∀ k, k < N → parseFieldDescriptor (T k).2.2.1 = some (ty0 k)) (hnm : ∀ a, a < N → ∀ b, b < N → a ≠ b → (T a).2.1 ≠ (T b).2.1) (hc : vwCl[ci]? = some (C, T, N)) (hj : j < N) (hlink : Cond.fieldLink own index (T j).1 (T j).2.1 (T j).2.2.1 ∈ TB) (hfin : (T j).2.2.2 = false) {v : Int32} (hn : narrow (ty0 j) (.int v) = .int v) (hfit : fits (ty0 j) (.int v) = true) (hdg : decode cc pc = .ok (.putfield index, 3))
    (kk : ∀ (H1 : Heap) (locs1 : List Loc), m_W D cy s b lay (m_si μ k j v) H1 locs1 → H1.size = H.size → W p l e R s m args below meth c H1 locs1 cells slots Q (F0 m (pc + 3) ls rest)) : W p l e R s m args below meth c H locs cells slots Q (F0 m pc ls (.int v :: .ref (b + k) :: rest)) := by
  refine m_putG hx hb hts hown hW k j (m_w_at hk) hin ty0 hty hnm hc hj hlink (Or.inl hfin) hn hfit ?_ hdg ?_ kk
  · simpa using (List.getElem?_eq_some_iff.mp hf).1
  · refine m_w_set (x' := .inl (ci, fs)) hk (fun _ _ => rfl) hk ?_ (fun i hi => ⟨fun j' => by simp [m_si, hi], fun _ => rfl⟩)
    show (Sum.inr (ci, _) : va_E) = Sum.inr (ci, _)
    rw [m_fs_set (ν := m_si μ k j v) (g := 0) hf (by simp [m_v, m_si]) (fun i hi => by simp [m_si, hi]), m_set_same hf]
/-- a long field is written -/
theorem m_putl (hx : p.tables.exec = Jvm.exec) (hb : c.code = cc) {own C : String} {T : u_T} {N ci index : Nat} (hts : ∀ w ∈ TB, w.before args s = true) (hown : s.vm.findClass own = some m.cls) (hW : m_W D cy s b lay μ H locs) (k j : Nat) {fs : List Nat} (hk : lay[k]? = some (.inl (ci, fs))) (hf : fs[j]? = some 1) (hin : ∀ w ∈ u_ws C T N, w ∈ TB) {ty0 : Nat → FieldType} (hty : ∀ k, k < N → parseFieldDescriptor (T k).2.2.1 = some (ty0 k)) (hnm : ∀ a, a < N → ∀ b, b < N → a ≠ b → (T a).2.1 ≠ (T b).2.1) (hc : vwCl[ci]? = some (C, T, N)) (hj : j < N) (hlink : Cond.fieldLink own index (T j).1 (T j).2.1 (T j).2.2.1 ∈ TB) (hfin : (T j).2.2.2 = false) {v : Int64} (hn : narrow (ty0 j) (.long v) = .long v) (hfit : fits (ty0 j) (.long v) = true) (hdg : decode cc pc = .ok (.putfield index, 3))
    (kk : ∀ (H1 : Heap) (locs1 : List Loc), m_W D cy s b lay (m_sl μ k j v) H1 locs1 → H1.size = H.size → W p l e R s m args below meth c H1 locs1 cells slots Q (F0 m (pc + 3) ls rest)) : W p l e R s m args below meth c H locs cells slots Q (F0 m pc ls (.long v :: .ref (b + k) :: rest)) := by
  refine m_putG hx hb hts hown hW k j (m_w_at hk) hin ty0 hty hnm hc hj hlink (Or.inl hfin) hn hfit ?_ hdg ?_ kk
  · simpa using (List.getElem?_eq_some_iff.mp hf).1
  · refine m_w_set (x' := .inl (ci, fs)) hk (fun _ _ => rfl) hk ?_ (fun i hi => ⟨fun _ => rfl, fun j' => by simp [m_sl, hi]⟩)
    show (Sum.inr (ci, _) : va_E) = Sum.inr (ci, _)
    rw [m_fs_set (ν := m_sl μ k j v) (g := 1) hf (by simp [m_v, m_sl]) (fun i hi => by simp [m_sl, hi]), m_set_same hf]
/-- a final reference is set, in a constructor -/
theorem m_putr (hx : p.tables.exec = Jvm.exec) (hb : c.code = cc) {own C : String} {T : u_T} {N ci index : Nat} (hts : ∀ w ∈ TB, w.before args s = true) (hown : s.vm.findClass own = some m.cls) (hW : m_W D cy s b lay μ H locs) (k j n : Nat) {fs : List Nat} (hk : lay[k]? = some (.inl (ci, fs))) (hf : fs[j]? = some 2) (hin : ∀ w ∈ u_ws C T N, w ∈ TB) {ty0 : Nat → FieldType} (hty : ∀ k, k < N → parseFieldDescriptor (T k).2.2.1 = some (ty0 k)) (hnm : ∀ a, a < N → ∀ b, b < N → a ≠ b → (T a).2.1 ≠ (T b).2.1) (hc : vwCl[ci]? = some (C, T, N)) (hj : j < N) (hlink : Cond.fieldLink own index (T j).1 (T j).2.1 (T j).2.2.1 ∈ TB) (hfin : (T j).2.2.2 = true ∧ meth.name = "<init>" ∧ (T j).1 = own) (hn : narrow (ty0 j) (.ref (b + n)) = .ref (b + n)) (hfit : fits (ty0 j) (.ref (b + n)) = true) {lay' : List mL} (hlay : lay.set k (.inl (ci, fs.set j (n + 3))) = lay') (hdg : decode cc pc = .ok (.putfield index, 3))
    (kk : ∀ (H1 : Heap) (locs1 : List Loc), m_W D cy s b lay' μ H1 locs1 → H1.size = H.size → W p l e R s m args below meth c H1 locs1 cells slots Q (F0 m (pc + 3) ls rest)) : W p l e R s m args below meth c H locs cells slots Q (F0 m pc ls (.ref (b + n) :: .ref (b + k) :: rest)) := by
  have hkl := (List.getElem?_eq_some_iff.mp hk).1
  refine m_putG hx hb hts hown hW k j (m_w_at hk) hin ty0 hty hnm hc hj hlink (Or.inr hfin) hn hfit ?_ hdg ?_ kk
  · simpa using (List.getElem?_eq_some_iff.mp hf).1
  · refine m_w_set (x' := .inl (ci, fs.set j (n + 3))) hk (fun i hi => by rw [← hlay, List.getElem?_set_ne (Ne.symm hi)]) (by rw [← hlay, List.getElem?_set_self hkl]) ?_ (fun i hi => ⟨fun _ => rfl, fun _ => rfl⟩)
    show (Sum.inr (ci, _) : va_E) = Sum.inr (ci, _)
    rw [m_fs_set (ν := μ) (g := n + 3) hf (by simp [m_v]) (fun i hi => ⟨rfl, rfl⟩)]
-- arrays
theorem m_iald (hx : p.tables.exec = Jvm.exec) (hb : c.code = cc) (hW : m_W D cy s b lay μ H locs) (k : Nat) {n : Nat} {rs : List Nat} (hk : lay[k]? = some (.inr (0, n, rs))) {i : Int32} (hin : vp_in i n) (hdg : decode cc pc = .ok (.iaload, 1))
    (kk : W p l e R s m args below meth c H locs cells slots Q (F0 m (pc + 1) ls (.int (μ.1 k i.toNatClampNeg) :: rest))) : W p l e R s m args below meth c H locs cells slots Q (F0 m pc ls (.int i :: .ref (b + k) :: rest)) :=
  va_iald hx hb hW.1.1 hW.2.1 k 0 (m_w_at hk) rfl hin hdg kk
theorem m_zald (hx : p.tables.exec = Jvm.exec) (hb : c.code = cc) (hW : m_W D cy s b lay μ H locs) (k : Nat) {n : Nat} {rs : List Nat} (hk : lay[k]? = some (.inr (1, n, rs))) {i : Int32} (hin : vp_in i n) (hdg : decode cc pc = .ok (.baload, 1))
    (kk : W p l e R s m args below meth c H locs cells slots Q (F0 m (pc + 1) ls (.int (μ.1 k i.toNatClampNeg) :: rest))) : W p l e R s m args below meth c H locs cells slots Q (F0 m pc ls (.int i :: .ref (b + k) :: rest)) :=
  va_zald hx hb hW.1.1 hW.2.1 k 1 (m_w_at hk) rfl hin hdg kk
theorem m_lald (hx : p.tables.exec = Jvm.exec) (hb : c.code = cc) (hW : m_W D cy s b lay μ H locs) (k : Nat) {n : Nat} {rs : List Nat} (hk : lay[k]? = some (.inr (2, n, rs))) {i : Int32} (hin : vp_in i n) (hdg : decode cc pc = .ok (.laload, 1))
    (kk : W p l e R s m args below meth c H locs cells slots Q (F0 m (pc + 1) ls (.long (μ.2 k i.toNatClampNeg) :: rest))) : W p l e R s m args below meth c H locs cells slots Q (F0 m pc ls (.int i :: .ref (b + k) :: rest)) :=
  va_lald hx hb hW.1.1 hW.2.1 k 2 (m_w_at hk) rfl hin hdg kk
theorem m_aald (hx : p.tables.exec = Jvm.exec) (hb : c.code = cc) (hW : m_W D cy s b lay μ H locs) (k : Nat) {n q : Nat} {rs : List Nat} (hk : lay[k]? = some (.inr (3, n, rs))) {i : Int32} (hin : vp_in i n) (hq : rs[i.toNatClampNeg]? = some q) (hdg : decode cc pc = .ok (.aaload, 1))
    (kk : W p l e R s m args below meth c H locs cells slots Q (F0 m (pc + 1) ls (.ref (b + q) :: rest))) : W p l e R s m args below meth c H locs cells slots Q (F0 m pc ls (.int i :: .ref (b + k) :: rest)) :=
  va_aldq hx hb hW.1.1 hW.2.1 k 3 (m_w_at hk) rfl hin hdg (by rw [hq]; exact kk)
theorem m_alen (hx : p.tables.exec = Jvm.exec) (hb : c.code = cc) (hW : m_W D cy s b lay μ H locs) (k : Nat) {a n : Nat} {rs : List Nat} (hk : lay[k]? = some (.inr (a, n, rs))) (hdg : decode cc pc = .ok (.arraylength, 1))
    (kk : W p l e R s m args below meth c H locs cells slots Q (F0 m (pc + 1) ls (.int (nI n) :: rest))) : W p l e R s m args below meth c H locs cells slots Q (F0 m pc ls (.ref (b + k) :: rest)) := by
  match a, hk with
  | 0, hk => exact va_alen hx hb hW.1.1 hW.2.1 k 0 (m_w_at hk) (ty := .int) rfl rfl hdg kk
  | 1, hk => exact va_alen hx hb hW.1.1 hW.2.1 k 1 (m_w_at hk) (ty := .boolean) rfl rfl hdg kk
  | 2, hk => exact va_alen hx hb hW.1.1 hW.2.1 k 2 (m_w_at hk) (ty := .long) rfl rfl hdg kk
  | a + 3, hk => exact va_alen hx hb hW.1.1 hW.2.1 k 3 (m_w_at hk) (ty := .object "BeamPlate$Row") rfl rfl hdg kk
theorem m_iast (hx : p.tables.exec = Jvm.exec) (hb : c.code = cc) (hW : m_W D cy s b lay μ H locs) (k : Nat) {n : Nat} {rs : List Nat} (hk : lay[k]? = some (.inr (0, n, rs))) {i x : Int32} (hin : vp_in i n) (hdg : decode cc pc = .ok (.iastore, 1))
    (kk : ∀ (H1 : Heap) (locs1 : List Loc), m_W D cy s b lay (m_si μ k i.toNatClampNeg x) H1 locs1 → H1.size = H.size → W p l e R s m args below meth c H1 locs1 cells slots Q (F0 m (pc + 1) ls rest)) : W p l e R s m args below meth c H locs cells slots Q (F0 m pc ls (.int x :: .int i :: .ref (b + k) :: rest)) := by
  obtain ⟨hK, hP, hS⟩ := hW
  have ha := m_w_at (cy := cy) (b := b) (μ := μ) hk
  refine W.iast hx hb (hP k _ ha) ((hK.1.2 0 _ rfl).1 n (fun j => .int (μ.1 k j))) (fun q => by cases q) (by show ¬ (i < 0 ∨ (arrV _ _ _).slots.size ≤ _); rw [arrV_size]; exact hin) rfl rfl hdg fun H1 e z oq => ?_
  have hP' := hP.set (m_D (cy := cy) (b := b) (lay := lay) (μ := μ)) ha (e := m_e cy b (m_si μ k i.toNatClampNeg x) k (.inr (0, n, rs))) (by
    show H1[b + k]? = some (vp_cell _ _)
    rw [e]
    rw [vp_cell_i, vp_cell_i, arrV_store]
    congr 2
    funext q
    by_cases hq : q = i.toNatClampNeg
    · subst hq
      simp [updV, m_si]
    · simp [updV, m_si, hq]) oq
  rw [m_w_set (lay' := lay) (μ := μ) (ν := m_si μ k i.toNatClampNeg x) (x' := .inr (0, n, rs)) hk (fun _ _ => rfl) hk rfl (fun i hi => ⟨fun j' => by simp [m_si, hi], fun _ => rfl⟩)] at hP'
  exact kk H1 _ ⟨hK, hP', hS.put z oq (Nat.le_add_right b k)⟩ z
theorem m_zast (hx : p.tables.exec = Jvm.exec) (hb : c.code = cc) (hW : m_W D cy s b lay μ H locs) (k : Nat) {n : Nat} {rs : List Nat} (hk : lay[k]? = some (.inr (1, n, rs))) {i x : Int32} (hin : vp_in i n) (hz : narrow .boolean (.int x) = .int x) (hdg : decode cc pc = .ok (.bastore, 1))
    (kk : ∀ (H1 : Heap) (locs1 : List Loc), m_W D cy s b lay (m_si μ k i.toNatClampNeg x) H1 locs1 → H1.size = H.size → W p l e R s m args below meth c H1 locs1 cells slots Q (F0 m (pc + 1) ls rest)) : W p l e R s m args below meth c H locs cells slots Q (F0 m pc ls (.int x :: .int i :: .ref (b + k) :: rest)) := by
  obtain ⟨hK, hP, hS⟩ := hW
  have ha := m_w_at (cy := cy) (b := b) (μ := μ) hk
  refine W.zast hx hb (hP k _ ha) ((hK.1.2 1 _ rfl).1 n (fun j => .int (μ.1 k j))) (fun q => by cases q) (by show ¬ (i < 0 ∨ (arrV _ _ _).slots.size ≤ _); rw [arrV_size]; exact hin) rfl rfl hdg fun H1 e z oq => ?_
  have hP' := hP.set (m_D (cy := cy) (b := b) (lay := lay) (μ := μ)) ha (e := m_e cy b (m_si μ k i.toNatClampNeg x) k (.inr (1, n, rs))) (by
    show H1[b + k]? = some (vp_cell _ _)
    rw [e, hz]
    rw [vp_cell_i, vp_cell_i, arrV_store]
    congr 2
    funext q
    by_cases hq : q = i.toNatClampNeg
    · subst hq
      simp [updV, m_si]
    · simp [updV, m_si, hq]) oq
  rw [m_w_set (lay' := lay) (μ := μ) (ν := m_si μ k i.toNatClampNeg x) (x' := .inr (1, n, rs)) hk (fun _ _ => rfl) hk rfl (fun i hi => ⟨fun j' => by simp [m_si, hi], fun _ => rfl⟩)] at hP'
  exact kk H1 _ ⟨hK, hP', hS.put z oq (Nat.le_add_right b k)⟩ z
theorem m_last (hx : p.tables.exec = Jvm.exec) (hb : c.code = cc) (hW : m_W D cy s b lay μ H locs) (k : Nat) {n : Nat} {rs : List Nat} (hk : lay[k]? = some (.inr (2, n, rs))) {i : Int32} {x : Int64} (hin : vp_in i n) (hdg : decode cc pc = .ok (.lastore, 1))
    (kk : ∀ (H1 : Heap) (locs1 : List Loc), m_W D cy s b lay (m_sl μ k i.toNatClampNeg x) H1 locs1 → H1.size = H.size → W p l e R s m args below meth c H1 locs1 cells slots Q (F0 m (pc + 1) ls rest)) : W p l e R s m args below meth c H locs cells slots Q (F0 m pc ls (.long x :: .int i :: .ref (b + k) :: rest)) := by
  obtain ⟨hK, hP, hS⟩ := hW
  have ha := m_w_at (cy := cy) (b := b) (μ := μ) hk
  refine W.last hx hb (hP k _ ha) ((hK.1.2 2 _ rfl).1 n (fun j => .long (μ.2 k j))) (fun q => by cases q) (by show ¬ (i < 0 ∨ (arrV _ _ _).slots.size ≤ _); rw [arrV_size]; exact hin) rfl rfl hdg fun H1 e z oq => ?_
  have hP' := hP.set (m_D (cy := cy) (b := b) (lay := lay) (μ := μ)) ha (e := m_e cy b (m_sl μ k i.toNatClampNeg x) k (.inr (2, n, rs))) (by
    show H1[b + k]? = some (vp_cell _ _)
    rw [e]
    rw [vp_cell_l, vp_cell_l, arrV_store]
    congr 2
    funext q
    by_cases hq : q = i.toNatClampNeg
    · subst hq
      simp [updV, m_sl]
    · simp [updV, m_sl, hq]) oq
  rw [m_w_set (lay' := lay) (μ := μ) (ν := m_sl μ k i.toNatClampNeg x) (x' := .inr (2, n, rs)) hk (fun _ _ => rfl) hk rfl (fun i hi => ⟨fun _ => rfl, fun j' => by simp [m_sl, hi]⟩)] at hP'
  exact kk H1 _ ⟨hK, hP', hS.put z oq (Nat.le_add_right b k)⟩ z
/-- a Row is put into an array of Rows, at the first free place -/
theorem m_aast (hx : p.tables.exec = Jvm.exec) (hb : c.code = cc) (hW : m_W D cy s b lay μ H locs) (k q : Nat) {n : Nat} {rs fs : List Nat} (hk : lay[k]? = some (.inr (3, n, rs))) (hq : lay[q]? = some (.inl (5, fs))) {i : Int32} (hin : vp_in i n) (hi : i.toNatClampNeg = rs.length) {lay' : List mL} (hlay : lay.set k (.inr (3, n, rs ++ [q])) = lay') (hdg : decode cc pc = .ok (.aastore, 1))
    (kk : ∀ (H1 : Heap) (locs1 : List Loc), m_W D cy s b lay' μ H1 locs1 → H1.size = H.size → W p l e R s m args below meth c H1 locs1 cells slots Q (F0 m (pc + 1) ls rest)) : W p l e R s m args below meth c H locs cells slots Q (F0 m pc ls (.ref (b + q) :: .int i :: .ref (b + k) :: rest)) := by
  obtain ⟨hK, hP, hS⟩ := hW
  have hkl := (List.getElem?_eq_some_iff.mp hk).1
  have ha := m_w_at (cy := cy) (b := b) (μ := μ) hk
  have hv := m_w_at (cy := cy) (b := b) (μ := μ) hq
  have hlt : i.toNatClampNeg < n := Nat.not_le.mp fun q => hin (Or.inr q)
  have h0 : ¬ i < 0 := fun q => hin (Or.inl q)
  obtain ⟨r', hr', cellV, g1, g2, g3, -⟩ := hP q _ hv
  have hcls := (hK.1.1 5 (RX5, TX5, 2) rfl).2
  obtain ⟨kA, comp, k1, k2, k3, -⟩ := (hK.1.2 3 _ rfl).2
  have hcomp : comp = D.1 5 := Option.some.inj (k3.symm.trans hcls.1)
  subst hcomp
  obtain ⟨kC, hkC, -⟩ := hcls.2
  refine W.aast hx hb (hP k _ ha) (fun q h => by cases h) (fun h => by cases h) k1 k2 rfl hkC ⟨h0, by show _ < (arrV _ _ _).slots.size; rw [arrV_size]; exact hlt⟩ g1 (fun q h => by rw [g3] at h; cases h) (by rw [g2]; exact hkC) (by rw [g2]; exact va_assign hcls) rfl rfl hdg fun H1 e z oq => ?_
  have hP' := hP.set (m_D (cy := cy) (b := b) (lay := lay) (μ := μ)) ha (e := m_e cy b μ k (.inr (3, n, rs ++ [q]))) (by
    show H1[b + k]? = some (vp_cell _ _)
    rw [e]
    rw [vp_cell_q, vp_cell_q, arrV_store]
    congr 2
    funext j
    by_cases hj : j = i.toNatClampNeg
    · subst hj
      simp [updV, va_rf, hi]
    · have hj2 : j ≠ rs.length := by rw [← hi]; exact hj
      have : (rs ++ [q])[j]? = rs[j]? := by
        by_cases hl : j < rs.length
        · rw [List.getElem?_append_left hl]
        · rw [List.getElem?_eq_none (by simp; omega), List.getElem?_eq_none (by omega)]
      simp [updV, hj, this]) oq
  rw [m_w_set (lay' := lay') (μ := μ) (ν := μ) (x' := .inr (3, n, rs ++ [q])) hk (fun i hi => by rw [← hlay, List.getElem?_set_ne (Ne.symm hi)]) (by rw [← hlay, List.getElem?_set_self hkl]) rfl (fun i hi => ⟨fun _ => rfl, fun _ => rfl⟩)] at hP'
  exact kk H1 _ ⟨hK, hP', hS.put z oq (Nat.le_add_right b k)⟩ z
-- new cells: the next place
theorem m_w_push {lay : List mL} {μ ν : mM} {x : mL} (h : ∀ k, k < lay.length → (∀ j, ν.1 k j = μ.1 k j) ∧ ∀ j, ν.2 k j = μ.2 k j) : m_w cy b (lay ++ [x]) ν = m_w cy b lay μ ++ [(b + lay.length, m_e cy b ν lay.length x)] := by
  refine List.ext_getElem? fun i => ?_
  by_cases hi : i < lay.length
  · rw [List.getElem?_append_left (by simpa [m_w] using hi)]
    simp only [m_w, List.getElem?_mapIdx, List.getElem?_append_left hi]
    cases lay[i]? with
    | none => rfl
    | some y =>
      show some (b + i, m_e cy b ν i y) = some (b + i, m_e cy b μ i y)
      rw [m_e_cong (h i hi).1 (h i hi).2 y]
  · by_cases hj : i = lay.length
    · subst hj
      have e1 : (m_w cy b lay μ).length = lay.length := by simp [m_w]
      rw [List.getElem?_append_right (by rw [e1]; exact Nat.le_refl _), e1, Nat.sub_self]
      simp [m_w, List.getElem?_mapIdx]
    · rw [List.getElem?_eq_none (by simp [m_w]; omega), List.getElem?_eq_none (by simp [m_w]; omega)]
theorem m_push {lay : List mL} {μ : mM} {x : mL} {H1 : Heap} (hW : m_W D cy s b lay μ H locs) (hz : H.size = b + lay.length) (hA : m_e cy b (m_z μ lay.length) lay.length x = m_e cy b (m_z μ lay.length) lay.length x) (he : va_at D vwCl (b + lay.length, m_e cy b (m_z μ lay.length) lay.length x) H1) (z1 : H1.size = H.size + 1) (o1 : ∀ q, q < H.size → H1[q]? = H[q]?) : m_W D cy s b (lay ++ [x]) (m_z μ lay.length) H1 locs := by
  obtain ⟨hK, hP, hS⟩ := hW
  refine ⟨hK, ?_, ⟨Nat.le_trans hS.1 (by omega), fun q h1 h2 => (o1 q (Nat.lt_of_lt_of_le h1 hS.1)).trans (hS.2.1 q h1 h2), hS.2.2⟩⟩
  rw [m_w_push (μ := μ) (fun k hk => ⟨fun j => by simp [m_z, Nat.ne_of_lt hk], fun j => by simp [m_z, Nat.ne_of_lt hk]⟩)]
  refine (hP.kept fun k q hq => o1 q.1 ((hP k q hq).lt)).app fun k q hq => ?_
  have hk0 : k < 1 := (List.getElem?_eq_some_iff.mp hq).1
  rw [show k = 0 by omega] at hq
  cases hq
  exact he
theorem m_newa (hx : p.tables.exec = Jvm.exec) (hb : c.code = cc) (hts : ∀ w ∈ TB, w.before args s = true) (hW : m_W D cy s b lay μ H locs) (hz : H.size = b + lay.length) (a : Nat) {atype : ArrayType} (harr : Cond.arrayClass (newarray.typeOf atype) ∈ TB) (hty : (a = 0 ∧ atype = .int) ∨ (a = 1 ∧ atype = .boolean) ∨ (a = 2 ∧ atype = .long)) {n : Int32} {N : Nat} (hn : ¬ n < 0) (hN : n.toNatClampNeg = N) (hbytes : N * 8 ≤ 536870912) (hcells : cells + 1 ≤ R.cells) (hslots : slots + N ≤ R.slots) (hdg : decode cc pc = .ok (.newarray atype, 2))
    (kk : ∀ (H1 : Heap), m_W D cy s b (lay ++ [.inr (a, N, [])]) (m_z μ lay.length) H1 locs → H1.size = b + (lay ++ [(.inr (a, N, []) : mL)]).length → W p l e R s m args below meth c H1 locs (cells + 1) (slots + N) Q (F0 m (pc + 2) ls (.ref (b + lay.length) :: rest))) : W p l e R s m args below meth c H locs cells slots Q (F0 m pc ls (.int n :: rest)) := by
  have hbt : ∀ t, componentBytes t ≤ 8 → N * componentBytes t ≤ 536870912 := fun t h => Nat.le_trans (Nat.mul_le_mul_left N h) hbytes
  have key : ∀ (H1 : Heap) (cA : ClassId), H1[b + lay.length]? = some (arrV cA N (fun _ => defaultValue (newarray.typeOf atype))) → H1.size = b + lay.length + 1 → (∀ q, q < b + lay.length → H1[q]? = H[q]?) → s.vm.findClass ("[" ++ (newarray.typeOf atype).toString) = some cA → W p l e R s m args below meth c H1 locs (cells + 1) (slots + N) Q (F0 m (pc + 2) ls (.ref (b + lay.length) :: rest)) := by
    intro H1 cA e1 z1 o1 hf
    refine kk H1 (m_push hW hz rfl ?_ (by rw [hz]; exact z1) (by rw [hz]; exact o1)) (by rw [z1]; simp; omega)
    rcases hty with ⟨rfl, rfl⟩ | ⟨rfl, rfl⟩ | ⟨rfl, rfl⟩
    · have hc : cA = cy 0 := Option.some.inj (hf.symm.trans (hW.1.1.2 0 _ rfl).2)
      subst hc
      show H1[b + lay.length]? = some (vp_cell _ _)
      rw [vp_cell_i, e1]
      simp [m_z]; rfl
    · have hc : cA = cy 1 := Option.some.inj (hf.symm.trans (hW.1.1.2 1 _ rfl).2)
      subst hc
      show H1[b + lay.length]? = some (vp_cell _ _)
      rw [vp_cell_i, e1]
      simp [m_z]; rfl
    · have hc : cA = cy 2 := Option.some.inj (hf.symm.trans (hW.1.1.2 2 _ rfl).2)
      subst hc
      show H1[b + lay.length]? = some (vp_cell _ _)
      rw [vp_cell_l, e1]
      simp [m_z]; rfl
  refine va_newaK hx hb (hts _ harr) rfl hdg rfl hn hN (hbt _ ?_) hcells hslots hz fun H1 cA e1 z1 o1 _ hf => key H1 cA e1 z1 o1 hf
  rcases hty with ⟨-, rfl⟩ | ⟨-, rfl⟩ | ⟨-, rfl⟩ <;> decide
theorem m_newq (hx : p.tables.exec = Jvm.exec) (hb : c.code = cc) (hts : ∀ w ∈ TB, w.before args s = true) {own : String} {index : Nat} (hown : s.vm.findClass own = some m.cls) (hW : m_W D cy s b lay μ H locs) (hz : H.size = b + lay.length) (hcl : Cond.classLink own index "BeamPlate$Row" ∈ TB) {n : Int32} {N : Nat} (hn : ¬ n < 0) (hN : n.toNatClampNeg = N) (hbytes : N * 4 ≤ 536870912) (hcells : cells + 1 ≤ R.cells) (hslots : slots + N ≤ R.slots) (hdg : decode cc pc = .ok (.anewarray index, 3))
    (kk : ∀ (H1 : Heap), m_W D cy s b (lay ++ [.inr (3, N, [])]) (m_z μ lay.length) H1 locs → H1.size = b + (lay ++ [(.inr (3, N, []) : mL)]).length → W p l e R s m args below meth c H1 locs (cells + 1) (slots + N) Q (F0 m (pc + 3) ls (.ref (b + lay.length) :: rest))) : W p l e R s m args below meth c H locs cells slots Q (F0 m pc ls (.int n :: rest)) := by
  subst hN
  refine W.anew hx hb hown (hts _ hcl) (va_AO.use hW.1.2.2) rfl hdg rfl hn hbytes hcells hslots fun cA kA comp f1 f2 f3 f4 => ?_
  generalize hH1 : H.push ({ cls := cA, slots := Array.replicate n.toNatClampNeg .null, vm := .none } : Cell) = H1
  have z1 : H1.size = H.size + 1 := by rw [← hH1, Array.size_push]
  have e1 : H1[H.size]? = some (arrV cA n.toNatClampNeg (fun _ => .null)) := by rw [← hH1, Array.getElem?_push_size, ← arrV_new]
  have o1 : ∀ q : Nat, q < H.size → H1[q]? = H[q]? := fun q hq => by rw [← hH1, Array.getElem?_push, if_neg (Nat.ne_of_lt hq)]
  have hc : cA = cy 3 := by
    obtain ⟨_, _, _, _, _, g4⟩ := (hW.1.1.2 3 _ rfl).2
    exact Option.some.inj (f1.symm.trans g4)
  subst hc
  rw [hz] at e1
  have hk := kk H1 (m_push hW hz rfl (by
    show H1[b + lay.length]? = some (vp_cell _ _)
    rw [vp_cell_q, e1]
    simp [va_rf]) z1 o1) (by rw [z1, hz]; simp; omega)
  show W p l e R s m args below meth c H1 locs (cells + 1) (slots + n.toNatClampNeg) Q (F0 m (pc + 3) ls (.ref H.size :: rest))
  rw [hz]
  exact hk
theorem m_new (hx : p.tables.exec = Jvm.exec) (hb : c.code = cc) (hts : ∀ w ∈ TB, w.before args s = true) {own C : String} {T : u_T} {N ci index : Nat} (hown : s.vm.findClass own = some m.cls) (hW : m_W D cy s b lay μ H locs) (hz : H.size = b + lay.length) (hin : ∀ w ∈ u_ws C T N, w ∈ TB) {ty0 : Nat → FieldType} (hty : ∀ k, k < N → parseFieldDescriptor (T k).2.2.1 = some (ty0 k)) (hcl : Cond.classLink own index C ∈ TB) (hinst : Cond.instantiable C N ∈ TB) (hini : Cond.initialized C ∈ TB) (hc : vwCl[ci]? = some (C, T, N)) (fs : List Nat) (hfs : ∀ j, j < N → defaultValue (ty0 j) = vp_V (fs.mapIdx (fun j f => m_v b (m_z μ lay.length) lay.length j f)) j) (hcells : cells + 1 ≤ R.cells) (hslots : slots + N ≤ R.slots) (hdg : decode cc pc = .ok (.new index, 3))
    (kk : ∀ (H1 : Heap), m_W D cy s b (lay ++ [.inl (ci, fs)]) (m_z μ lay.length) H1 locs → H1.size = b + (lay ++ [(.inl (ci, fs) : mL)]).length → W p l e R s m args below meth c H1 locs (cells + 1) (slots + N) Q (F0 m (pc + 3) ls (.ref (b + lay.length) :: rest))) : W p l e R s m args below meth c H locs cells slots Q (F0 m pc ls rest) := by
  have hKn := hW.1.1.1 ci _ hc
  refine W.newcK hx hb hown (hts _ hcl) (hts _ hinst) (hts _ hini) rfl hdg hcells hslots hKn.2.1 hz fun H1 kC hkC e1 z1 o1 => ?_
  refine kk H1 (m_push hW hz rfl ⟨_, hc, (u_born ty0 hts hin hKn hkC e1 hty).to hfs⟩ (by rw [hz]; exact z1) (by rw [hz]; exact o1)) (by rw [z1]; simp; omega)
end MR
end
section
-- CONTRACTS over the memory: 'y, at the memory μ, with the arguments as, answers r and leaves ν, and post r ν'
abbrev m_R (d mc ms : Nat) : Room := { frames := d, cells := mc, slots := ms, locals := 40 * d }
abbrev m_B (D : va_G) (cy : Nat → ClassId) (b : Nat) (lay : List mL) (μ : mM) (U : State) : Prop := m_K D cy U ∧ va_P D vwCl (m_w cy b lay μ) U.heap
abbrev m_Bz (D : va_G) (cy : Nat → ClassId) (b : Nat) (lay : List mL) (μ : mM) (U : State) : Prop := m_K D cy U ∧ va_P D vwCl (m_w cy b lay μ) U.heap ∧ U.heap.size = b + lay.length
abbrev m_E (D : va_G) (cy : Nat → ClassId) (b : Nat) (lay : List mL) (ν : mM) (t : State) : Prop := va_P D vwCl (m_w cy b lay ν) t.heap
abbrev m_Ez (D : va_G) (cy : Nat → ClassId) (b : Nat) (lay : List mL) (ν : mM) (t : State) : Prop := va_P D vwCl (m_w cy b lay ν) t.heap ∧ t.heap.size = b + lay.length
abbrev m_Qi (D : va_G) (cy : Nat → ClassId) (b : Nat) (lay : List mL) (post : Int32 → mM → Prop) : Array Value → State → Outcome → State → Prop := va_Qi post (m_E D cy b lay) (fun q => b ≤ q)
abbrev m_Ql (D : va_G) (cy : Nat → ClassId) (b : Nat) (lay : List mL) (post : Int64 → mM → Prop) : Array Value → State → Outcome → State → Prop := va_Ql post (m_E D cy b lay) (fun q => b ≤ q)
abbrev m_Qv (D : va_G) (cy : Nat → ClassId) (b : Nat) (lay : List mL) (post : mM → Prop) : Array Value → State → Outcome → State → Prop := va_Qv post (m_E D cy b lay) (fun q => b ≤ q)
abbrev m_Qq (D : va_G) (cy : Nat → ClassId) (b : Nat) (lay : List mL) (post : Option Nat → mM → Prop) : Array Value → State → Outcome → State → Prop := va_Qq (fun r ν => ∃ q : Option Nat, r = q.map (fun q => b + q) ∧ post q ν) (m_E D cy b lay) (fun q => b ≤ q)
abbrev m_Qz (D : va_G) (cy : Nat → ClassId) (b : Nat) (lay : List mL) (post : mM → Prop) : Array Value → State → Outcome → State → Prop := va_Qv post (m_Ez D cy b lay) (fun q => b ≤ q)
def m_Ci (l : Launch) (y : MethodName) (cc : ByteArray) (n : Nat) (ret : Option FieldType) (d : Nat) (D : va_G) (cy : Nat → ClassId) (b : Nat) (lay : List mL) (μ : mM) (as : List Value) (post : Int32 → mM → Prop) : Prop := Met l y (.code y cc n ret :: TB) (m_R d 0 0) (va_Pc as (m_B D cy b lay μ)) (m_Qi D cy b lay post) 0 0 (fun q => b ≤ q)
def m_Cl (l : Launch) (y : MethodName) (cc : ByteArray) (n : Nat) (ret : Option FieldType) (d : Nat) (D : va_G) (cy : Nat → ClassId) (b : Nat) (lay : List mL) (μ : mM) (as : List Value) (post : Int64 → mM → Prop) : Prop := Met l y (.code y cc n ret :: TB) (m_R d 0 0) (va_Pc as (m_B D cy b lay μ)) (m_Ql D cy b lay post) 0 0 (fun q => b ≤ q)
def m_Cv (l : Launch) (y : MethodName) (cc : ByteArray) (n : Nat) (ret : Option FieldType) (d : Nat) (D : va_G) (cy : Nat → ClassId) (b : Nat) (lay : List mL) (μ : mM) (as : List Value) (post : mM → Prop) : Prop := Met l y (.code y cc n ret :: TB) (m_R d 0 0) (va_Pc as (m_B D cy b lay μ)) (m_Qv D cy b lay post) 0 0 (fun q => b ≤ q)
def m_Cq (l : Launch) (y : MethodName) (cc : ByteArray) (n : Nat) (ret : Option FieldType) (d : Nat) (D : va_G) (cy : Nat → ClassId) (b : Nat) (lay : List mL) (μ : mM) (as : List Value) (post : Option Nat → mM → Prop) : Prop := Met l y (.code y cc n ret :: TB) (m_R d 0 0) (va_Pc as (m_B D cy b lay μ)) (m_Qq D cy b lay post) 0 0 (fun q => b ≤ q)
/-- a constructor: the layout grows from lay to lay', by mc cells of ms slots -/
def m_Cz (l : Launch) (y : MethodName) (cc : ByteArray) (n d mc ms : Nat) (D : va_G) (cy : Nat → ClassId) (b : Nat) (lay lay' : List mL) (μ : mM) (as : List Value) (post : mM → Prop) : Prop := Met l y (.code y cc n none :: TB) (m_R d mc ms) (va_Pc as (m_Bz D cy b lay μ)) (m_Qz D cy b lay' post) mc ms (fun q => b ≤ q)
theorem m_K.moved {D : va_G} {cy : Nat → ClassId} {s U : State} (hW : s.WarmedH U.vm) (h : m_K D cy s) : m_K D cy U := ⟨va_K.moved hW.alike h.1, fun w hw hn => m_nest_moved hW hn (h.2.1 w hw hn), va_AO.moved hW.alike h.2.2⟩
theorem m_K.called {D : va_G} {cy : Nat → ClassId} {U : State} {g : JFrame} {mk : MethodId} {a : Array Value} (h : m_K D cy U) : m_K D cy (U.calling g mk a) := ⟨va_K.moved (u := U) (U := U.calling g mk a) (Vm.Alike.refl U.vm) h.1, fun w hw hn => m_nest_same (s := U) (U := U.calling g mk a) rfl hn (h.2.1 w hw hn), va_AO.moved (u := U) (U := U.calling g mk a) (Vm.Alike.refl U.vm) h.2.2⟩
-- a method's words, of its call
def m_mI (y : MethodName) (cc : ByteArray) (n : Nat) (ret : Option FieldType) (na : Nat) : Prop := Cond.instanceMethod y ∈ TB ∧ Cond.selects y.cls y y ∈ TB ∧ Cond.initialized y.cls ∈ TB ∧ Cond.code y cc n ret ∈ TB ∧ y.cls ≠ "java/lang/invoke/MethodHandle" ∧ y.cls ≠ "java/lang/invoke/VarHandle" ∧ (parseMethodDescriptor y.desc).map (fun d => d.parameters.length) = some na
def m_mS (y : MethodName) (cc : ByteArray) (n : Nat) (ret : Option FieldType) (na : Nat) : Prop := Cond.static y ∈ TB ∧ Cond.initialized y.cls ∈ TB ∧ Cond.code y cc n ret ∈ TB ∧ y.cls ≠ "java/lang/invoke/MethodHandle" ∧ y.cls ≠ "java/lang/invoke/VarHandle" ∧ (parseMethodDescriptor y.desc).map (fun d => d.parameters.length) = some na
def m_mC (y : MethodName) (cc : ByteArray) (n : Nat) (na : Nat) : Prop := Cond.instanceMethod y ∈ TB ∧ y.name = "<init>" ∧ Cond.initialized y.cls ∈ TB ∧ Cond.code y cc n none ∈ TB ∧ y.cls ≠ "java/lang/invoke/MethodHandle" ∧ y.cls ≠ "java/lang/invoke/VarHandle" ∧ (parseMethodDescriptor y.desc).map (fun d => d.parameters.length) = some na
section MC
variable {p : Program} {l : Launch} {e : Env} {R : Room} {s : State} {m : MethodId} {args : Array Value} {below : List Frame} {meth : Method} {c : Code} {H : Heap} {locs : List Loc} {cells slots : Nat} {Q : State → Prop}
variable {cc : ByteArray} {pc : Nat} {ls : Array Slot} {st rest : List Value} {D : va_G} {cy : Nat → ClassId} {b : Nat} {lay : List mL} {μ : mM}
variable {y : MethodName} {c' : ByteArray} {n' na d' nL index mc ms : Nat} {ret' : Option FieldType} {own : String} {Qc : Array Value → State → Outcome → State → Prop} {free : Addr → Prop}
theorem m_blind {as : List Value} : FrameBlind (va_Pc as (m_B D cy b lay μ)) := fun _ _ _ _ q => ⟨q.1, m_K.called q.2.1, q.2.2⟩
theorem m_blindz {as : List Value} : FrameBlind (va_Pc as (m_Bz D cy b lay μ)) := fun _ _ _ _ q => ⟨q.1, m_K.called q.2.1, q.2.2⟩
theorem m_runV {As : List Value} (hx : p.tables.exec = Jvm.exec) (hb : c.code = cc) (hml : c.maxLocals = nL) (hown : s.vm.findClass own = some m.cls) (hts : ∀ w ∈ TB, w.before args s = true) (hW : m_W D cy s b lay μ H locs) (k : Nat) (hM : Met l y (.code y c' n' ret' :: TB) (m_R d' 0 0) (va_Pc (.ref (b + k) :: As) (m_B D cy b lay μ)) Qc 0 0 free) (mi : m_mI y c' n' ret' na) (hlink : Cond.methodLink own index y ∈ TB) {ci : Nat} {fs : List Nat} {T : u_T} {N : Nat} (hk : lay[k]? = some (.inl (ci, fs))) (hc : vwCl[ci]? = some (y.cls, T, N)) (hn : As.length = na) (hls : ls.size = nL) (hst : st = As.reverse ++ .ref (b + k) :: rest) (hroom : (rest.map fun v => v.category).sum ≤ 8) (hdg : decode cc pc = .ok (.invokevirtual index, 3)) (hR : d' + 1 ≤ R.frames ∧ 8 + (n' + 11) + 40 * d' ≤ R.locals) (hf : cells ≤ R.cells ∧ slots ≤ R.slots) :
    va_Run p l e R s m args below meth c H locs cells slots 0 0 (F0 m pc ls st) rest (Qc (Value.ref (b + k) :: As).toArray) free := by
  obtain ⟨i1, i2, i3, i4, i5, i6, i7⟩ := mi
  exact va_runV (C := y.cls) (Ts := TB) ⟨hx, hb, hml, hown, hts⟩ hM ⟨callB_of na hts (tb_in i4) rfl rfl rfl (hts _ i3) (hts _ hlink) ⟨i5, i6, i7⟩ hR, hts _ i1, hts _ i2⟩ ⟨m_blind, va_recv hW.1.1 hW.2.1 hc (m_w_at hk), fun U hU hw => ⟨rfl, hW.1.moved hw, by rw [hU]; exact hW.2.1⟩⟩ rfl hn hls hst (lv_room hroom) hdg hf
theorem m_runVN {As : List Value} {host : String} (hx : p.tables.exec = Jvm.exec) (hb : c.code = cc) (hml : c.maxLocals = nL) (hown : s.vm.findClass own = some m.cls) (hts : ∀ w ∈ TB, w.before args s = true) (hW : m_W D cy s b lay μ H locs) (k : Nat) (hM : Met l y (.code y c' n' ret' :: TB) (m_R d' 0 0) (va_Pc (.ref (b + k) :: As) (m_B D cy b lay μ)) Qc 0 0 free) (mi : m_mI y c' n' ret' na) (hlink : Cond.methodLinkNest own index y host ∈ lw_tbl) {ci : Nat} {fs : List Nat} {T : u_T} {N : Nat} (hk : lay[k]? = some (.inl (ci, fs))) (hc : vwCl[ci]? = some (y.cls, T, N)) (hn : As.length = na) (hls : ls.size = nL) (hst : st = As.reverse ++ .ref (b + k) :: rest) (hroom : (rest.map fun v => v.category).sum ≤ 8) (hdg : decode cc pc = .ok (.invokevirtual index, 3)) (hR : d' + 1 ≤ R.frames ∧ 8 + (n' + 11) + 40 * d' ≤ R.locals) (hf : cells ≤ R.cells ∧ slots ≤ R.slots) :
    va_Run p l e R s m args below meth c H locs cells slots 0 0 (F0 m pc ls st) rest (Qc (Value.ref (b + k) :: As).toArray) free := by
  obtain ⟨i1, i2, i3, i4, i5, i6, i7⟩ := mi
  exact va_runVN (C := y.cls) (host := host) (Ts := TB) ⟨hx, hb, hml, hown, hts⟩ hM ⟨va_cnB na hts (tb_in i4) rfl rfl rfl (hW.1.2.1 _ hlink rfl) (hts _ i3) ⟨i5, i6, i7⟩ hR, hts _ i1, hts _ i2⟩ ⟨m_blind, va_recv hW.1.1 hW.2.1 hc (m_w_at hk), fun U hU hw => ⟨rfl, hW.1.moved hw, by rw [hU]; exact hW.2.1⟩⟩ rfl hn hls hst (lv_room hroom) hdg hf
theorem m_runS {As : List Value} (hx : p.tables.exec = Jvm.exec) (hb : c.code = cc) (hml : c.maxLocals = nL) (hown : s.vm.findClass own = some m.cls) (hts : ∀ w ∈ TB, w.before args s = true) (hW : m_W D cy s b lay μ H locs) (hM : Met l y (.code y c' n' ret' :: TB) (m_R d' 0 0) (va_Pc As (m_B D cy b lay μ)) Qc 0 0 free) (mi : m_mS y c' n' ret' na) (hlink : Cond.methodLink own index y ∈ TB) (hn : As.length = na) (hls : ls.size = nL) (hst : st = As.reverse ++ rest) (hroom : (rest.map fun v => v.category).sum ≤ 8) (hdg : decode cc pc = .ok (.invokestatic index, 3)) (hR : d' + 1 ≤ R.frames ∧ 8 + (n' + 11) + 40 * d' ≤ R.locals) (hf : cells ≤ R.cells ∧ slots ≤ R.slots) :
    va_Run p l e R s m args below meth c H locs cells slots 0 0 (F0 m pc ls st) rest (Qc As.toArray) free := by
  obtain ⟨i1, i3, i4, i5, i6, i7⟩ := mi
  exact va_runS (Ts := TB) ⟨hx, hb, hml, hown, hts⟩ hM ⟨callB_of na hts (tb_in i4) rfl rfl rfl (hts _ i3) (hts _ hlink) ⟨i5, i6, i7⟩ hR, hts _ i1⟩ ⟨m_blind, fun U hU hw => ⟨rfl, hW.1.moved hw, by rw [hU]; exact hW.2.1⟩⟩ rfl hn hls hst (lv_room hroom) hdg hf
theorem m_runSN {As : List Value} {host : String} (hx : p.tables.exec = Jvm.exec) (hb : c.code = cc) (hml : c.maxLocals = nL) (hown : s.vm.findClass own = some m.cls) (hts : ∀ w ∈ TB, w.before args s = true) (hW : m_W D cy s b lay μ H locs) (hM : Met l y (.code y c' n' ret' :: TB) (m_R d' 0 0) (va_Pc As (m_B D cy b lay μ)) Qc 0 0 free) (mi : m_mS y c' n' ret' na) (hlink : Cond.methodLinkNest own index y host ∈ lw_tbl) (hn : As.length = na) (hls : ls.size = nL) (hst : st = As.reverse ++ rest) (hroom : (rest.map fun v => v.category).sum ≤ 8) (hdg : decode cc pc = .ok (.invokestatic index, 3)) (hR : d' + 1 ≤ R.frames ∧ 8 + (n' + 11) + 40 * d' ≤ R.locals) (hf : cells ≤ R.cells ∧ slots ≤ R.slots) :
    va_Run p l e R s m args below meth c H locs cells slots 0 0 (F0 m pc ls st) rest (Qc As.toArray) free := by
  obtain ⟨i1, i3, i4, i5, i6, i7⟩ := mi
  exact va_runSN (host := host) (Ts := TB) ⟨hx, hb, hml, hown, hts⟩ hM ⟨va_cnB na hts (tb_in i4) rfl rfl rfl (hW.1.2.1 _ hlink rfl) (hts _ i3) ⟨i5, i6, i7⟩ hR, hts _ i1, trivial⟩ ⟨m_blind, fun U hU hw => ⟨rfl, hW.1.moved hw, by rw [hU]; exact hW.2.1⟩⟩ rfl hn hls hst (lv_room hroom) hdg hf
theorem m_runI {As : List Value} (hx : p.tables.exec = Jvm.exec) (hb : c.code = cc) (hml : c.maxLocals = nL) (hown : s.vm.findClass own = some m.cls) (hts : ∀ w ∈ TB, w.before args s = true) (hW : m_W D cy s b lay μ H locs) (hz : H.size = b + lay.length) (k : Nat) (hM : Met l y (.code y c' n' none :: TB) (m_R d' mc ms) (va_Pc (.ref (b + k) :: As) (m_Bz D cy b lay μ)) Qc mc ms free) (mi : m_mC y c' n' na) (hlink : Cond.methodLink own index y ∈ TB) (hn : As.length = na) (hls : ls.size = nL) (hst : st = As.reverse ++ .ref (b + k) :: rest) (hroom : (rest.map fun v => v.category).sum ≤ 8) (hdg : decode cc pc = .ok (.invokespecial index, 3)) (hR : d' + 1 ≤ R.frames ∧ 8 + (n' + 11) + 40 * d' ≤ R.locals) (hf : cells + mc ≤ R.cells ∧ slots + ms ≤ R.slots) :
    va_Run p l e R s m args below meth c H locs cells slots mc ms (F0 m pc ls st) rest (Qc (Value.ref (b + k) :: As).toArray) free := by
  obtain ⟨i1, i2, i3, i4, i5, i6, i7⟩ := mi
  exact va_runI (Ts := TB) ⟨hx, hb, hml, hown, hts⟩ hM ⟨callB_of na hts (tb_in i4) rfl rfl rfl (hts _ i3) (hts _ hlink) ⟨i5, i6, i7⟩ hR, i2, hts _ i1⟩ ⟨m_blindz, fun U hU hw => ⟨rfl, hW.1.moved hw, by rw [hU]; exact ⟨hW.2.1, hz⟩⟩⟩ rfl hn hls hst (lv_room hroom) hdg hf
theorem m_runIN {As : List Value} {host : String} (hx : p.tables.exec = Jvm.exec) (hb : c.code = cc) (hml : c.maxLocals = nL) (hown : s.vm.findClass own = some m.cls) (hts : ∀ w ∈ TB, w.before args s = true) (hW : m_W D cy s b lay μ H locs) (hz : H.size = b + lay.length) (k : Nat) (hM : Met l y (.code y c' n' none :: TB) (m_R d' mc ms) (va_Pc (.ref (b + k) :: As) (m_Bz D cy b lay μ)) Qc mc ms free) (mi : m_mC y c' n' na) (hlink : Cond.methodLinkNest own index y host ∈ lw_tbl) (hn : As.length = na) (hls : ls.size = nL) (hst : st = As.reverse ++ .ref (b + k) :: rest) (hroom : (rest.map fun v => v.category).sum ≤ 8) (hdg : decode cc pc = .ok (.invokespecial index, 3)) (hR : d' + 1 ≤ R.frames ∧ 8 + (n' + 11) + 40 * d' ≤ R.locals) (hf : cells + mc ≤ R.cells ∧ slots + ms ≤ R.slots) :
    va_Run p l e R s m args below meth c H locs cells slots mc ms (F0 m pc ls st) rest (Qc (Value.ref (b + k) :: As).toArray) free := by
  obtain ⟨i1, i2, i3, i4, i5, i6, i7⟩ := mi
  exact va_runIN (host := host) (Ts := TB) ⟨hx, hb, hml, hown, hts⟩ hM ⟨va_cnB na hts (tb_in i4) rfl rfl rfl (hW.1.2.1 _ hlink rfl) (hts _ i3) ⟨i5, i6, i7⟩ hR, i2, hts _ i1⟩ ⟨m_blindz, fun U hU hw => ⟨rfl, hW.1.moved hw, by rw [hU]; exact ⟨hW.2.1, hz⟩⟩⟩ rfl hn hls hst (lv_room hroom) hdg hf
-- behind a call
theorem m_aI {post : Int32 → mM → Prop} {a : Array Value} (hW : m_W D cy s b lay μ H locs) (hr : va_Run p l e R s m args below meth c H locs cells slots 0 0 (F0 m pc ls st) rest (m_Qi D cy b lay post a) (fun q => b ≤ q)) (kk : ∀ (r : Int32) (ν : mM) (H1 : Heap) (locs1 : List Loc), post r ν → m_W D cy s b lay ν H1 locs1 → W p l e R s m args below meth c H1 locs1 cells slots Q (F0 m (pc + 3) ls (.int r :: rest))) : W p l e R s m args below meth c H locs cells slots Q (F0 m pc ls st) :=
  va_calli hr hW.2.2 (fun _ _ h => h) (fun _ h => h) (fun r ν t H1 locs1 ht _ hp hB _ _ hS => kk r ν H1 locs1 hp ⟨hW.1, by rw [← ht]; exact hB, hS⟩)
theorem m_aL {post : Int64 → mM → Prop} {a : Array Value} (hW : m_W D cy s b lay μ H locs) (hr : va_Run p l e R s m args below meth c H locs cells slots 0 0 (F0 m pc ls st) rest (m_Ql D cy b lay post a) (fun q => b ≤ q)) (kk : ∀ (r : Int64) (ν : mM) (H1 : Heap) (locs1 : List Loc), post r ν → m_W D cy s b lay ν H1 locs1 → W p l e R s m args below meth c H1 locs1 cells slots Q (F0 m (pc + 3) ls (.long r :: rest))) : W p l e R s m args below meth c H locs cells slots Q (F0 m pc ls st) :=
  va_calll hr hW.2.2 (fun _ _ h => h) (fun _ h => h) (fun r ν t H1 locs1 ht _ hp hB _ _ hS => kk r ν H1 locs1 hp ⟨hW.1, by rw [← ht]; exact hB, hS⟩)
theorem m_aV {post : mM → Prop} {a : Array Value} (hW : m_W D cy s b lay μ H locs) (hr : va_Run p l e R s m args below meth c H locs cells slots 0 0 (F0 m pc ls st) rest (m_Qv D cy b lay post a) (fun q => b ≤ q)) (kk : ∀ (ν : mM) (H1 : Heap) (locs1 : List Loc), post ν → m_W D cy s b lay ν H1 locs1 → W p l e R s m args below meth c H1 locs1 cells slots Q (F0 m (pc + 3) ls rest)) : W p l e R s m args below meth c H locs cells slots Q (F0 m pc ls st) :=
  va_callv hr hW.2.2 (fun _ _ h => h) (fun _ h => h) (fun ν t H1 locs1 ht _ hp hB _ _ hS => kk ν H1 locs1 hp ⟨hW.1, by rw [← ht]; exact hB, hS⟩)
theorem m_aQ {post : Option Nat → mM → Prop} {a : Array Value} (hW : m_W D cy s b lay μ H locs) (hr : va_Run p l e R s m args below meth c H locs cells slots 0 0 (F0 m pc ls st) rest (m_Qq D cy b lay post a) (fun q => b ≤ q)) (kn : ∀ (ν : mM) (H1 : Heap) (locs1 : List Loc), post none ν → m_W D cy s b lay ν H1 locs1 → W p l e R s m args below meth c H1 locs1 cells slots Q (F0 m (pc + 3) ls (.null :: rest))) (kk : ∀ (q : Nat) (ν : mM) (H1 : Heap) (locs1 : List Loc), post (some q) ν → m_W D cy s b lay ν H1 locs1 → W p l e R s m args below meth c H1 locs1 cells slots Q (F0 m (pc + 3) ls (.ref (b + q) :: rest))) : W p l e R s m args below meth c H locs cells slots Q (F0 m pc ls st) :=
  va_callq hr hW.2.2 (fun _ _ h => h) (fun _ h => h) (fun r ν t H1 locs1 ht _ hp hB _ _ hS => by
    obtain ⟨q, rfl, hp⟩ := hp
    cases q with
    | none => exact kn ν H1 locs1 hp ⟨hW.1, by rw [← ht]; exact hB, hS⟩
    | some q => exact kk q ν H1 locs1 hp ⟨hW.1, by rw [← ht]; exact hB, hS⟩)
theorem m_aZ {post : mM → Prop} {a : Array Value} {lay' : List mL} (hW : m_W D cy s b lay μ H locs) (hr : va_Run p l e R s m args below meth c H locs cells slots mc ms (F0 m pc ls st) rest (m_Qz D cy b lay' post a) (fun q => b ≤ q)) (kk : ∀ (ν : mM) (H1 : Heap) (locs1 : List Loc), post ν → m_W D cy s b lay' ν H1 locs1 → H1.size = b + lay'.length → W p l e R s m args below meth c H1 locs1 (cells + mc) (slots + ms) Q (F0 m (pc + 3) ls rest)) : W p l e R s m args below meth c H locs cells slots Q (F0 m pc ls st) :=
  va_callv hr hW.2.2 (fun _ _ h => h) (fun _ h => h) (fun ν t H1 locs1 ht _ hp hB _ _ hS => kk ν H1 locs1 hp ⟨hW.1, by rw [← ht]; exact hB.1, hS⟩ (by rw [← ht]; exact hB.2))
-- a method's end
theorem m_iret {post : Int32 → mM → Prop} {v : Int32} {ty : FieldType} (hx : p.tables.exec = Jvm.exec) (hb : c.code = cc) (hr : meth.sig.returnType = some ty) (hlocks : meth.locks = false) (hW : m_W D cy s b lay μ H locs) (hn : narrow ty (.int v) = .int v) (hp : post v μ) (hdg : decode cc pc = .ok (.ireturn, 1)) : W p l e R s m args below meth c H locs cells slots (MQ below (m_Qi D cy b lay post) args s cells slots (fun q => b ≤ q)) (F0 m pc ls [.int v]) :=
  W.zret hx hb hr hn (fun t ht _ => ⟨⟨v, μ, rfl, hp, by rw [m_E, ht]; exact hW.2.1⟩, hW.2.2.F ht⟩) hW.2.2.2.2 hdg
theorem m_lret {post : Int64 → mM → Prop} {v : Int64} (hx : p.tables.exec = Jvm.exec) (hb : c.code = cc) (hr : meth.sig.returnType = some .long) (hlocks : meth.locks = false) (hW : m_W D cy s b lay μ H locs) (hp : post v μ) (hdg : decode cc pc = .ok (.lreturn, 1)) : W p l e R s m args below meth c H locs cells slots (MQ below (m_Ql D cy b lay post) args s cells slots (fun q => b ≤ q)) (F0 m pc ls [.long v]) :=
  W.lret hx hb hr (fun t ht _ => ⟨⟨v, μ, rfl, hp, by rw [m_E, ht]; exact hW.2.1⟩, hW.2.2.F ht⟩) hW.2.2.2.2 hdg
theorem m_vret {post : mM → Prop} (hx : p.tables.exec = Jvm.exec) (hb : c.code = cc) (hr : meth.sig.returnType = none) (hlocks : meth.locks = false) (hW : m_W D cy s b lay μ H locs) (hp : post μ) (hdg : decode cc pc = .ok (.return_, 1)) : W p l e R s m args below meth c H locs cells slots (MQ below (m_Qv D cy b lay post) args s cells slots (fun q => b ≤ q)) (F0 m pc ls []) :=
  W.vret hx hb hr (fun t ht _ => ⟨⟨μ, rfl, hp, by rw [m_E, ht]; exact hW.2.1⟩, hW.2.2.F ht⟩) hW.2.2.2.2 hdg
theorem m_zret {post : mM → Prop} (hx : p.tables.exec = Jvm.exec) (hb : c.code = cc) (hr : meth.sig.returnType = none) (hlocks : meth.locks = false) (hW : m_W D cy s b lay μ H locs) (hz : H.size = b + lay.length) (hp : post μ) (hdg : decode cc pc = .ok (.return_, 1)) : W p l e R s m args below meth c H locs cells slots (MQ below (m_Qz D cy b lay post) args s cells slots (fun q => b ≤ q)) (F0 m pc ls []) :=
  W.vret hx hb hr (fun t ht _ => ⟨⟨μ, rfl, hp, by rw [m_Ez, ht]; exact ⟨hW.2.1, hz⟩⟩, hW.2.2.F ht⟩) hW.2.2.2.2 hdg
theorem m_aret {post : Option Nat → mM → Prop} {q : Nat} {t0 : String} (hx : p.tables.exec = Jvm.exec) (hb : c.code = cc) (hr : meth.sig.returnType = some (.object t0)) (hlocks : meth.locks = false) (hW : m_W D cy s b lay μ H locs) (hp : post (some q) μ) (hdg : decode cc pc = .ok (.areturn, 1)) : W p l e R s m args below meth c H locs cells slots (MQ below (m_Qq D cy b lay post) args s cells slots (fun q => b ≤ q)) (F0 m pc ls [.ref (b + q)]) :=
  W.aret hx hb hr (Or.inl ⟨_, rfl⟩) (Or.inr ⟨_, rfl⟩) (fun t ht _ => ⟨⟨some (b + q), μ, rfl, ⟨some q, rfl, hp⟩, by rw [m_E, ht]; exact hW.2.1⟩, hW.2.2.F ht⟩) hW.2.2.2.2 hdg
theorem m_nret {post : Option Nat → mM → Prop} {t0 : String} (hx : p.tables.exec = Jvm.exec) (hb : c.code = cc) (hr : meth.sig.returnType = some (.object t0)) (hlocks : meth.locks = false) (hW : m_W D cy s b lay μ H locs) (hp : post none μ) (hdg : decode cc pc = .ok (.areturn, 1)) : W p l e R s m args below meth c H locs cells slots (MQ below (m_Qq D cy b lay post) args s cells slots (fun q => b ≤ q)) (F0 m pc ls [.null]) :=
  W.aret hx hb hr (Or.inl ⟨_, rfl⟩) (Or.inl rfl) (fun t ht _ => ⟨⟨none, μ, rfl, ⟨none, rfl, hp⟩, by rw [m_E, ht]; exact hW.2.1⟩, hW.2.2.F ht⟩) hW.2.2.2.2 hdg
end MC
/-- a contract out of the walk of its body -/
theorem m_of {l : Launch} {y : MethodName} {cc : ByteArray} {n d mc ms : Nat} {ret : Option FieldType} {D : va_G} {cy : Nat → ClassId} {b : Nat} {lay : List mL} {μ : mM} {as : List Value} {Qc : Array Value → State → Outcome → State → Prop} {free : Addr → Prop} (hy : plainName y.cls = true) (hlen : (lg_sl as).length ≤ n)
    (body : ∀ (p : Program) (e : Env) (s : State) (m : MethodId) (below : List Frame) (meth : Method) (c : Code), p.tables.exec = Jvm.exec → c.code = cc → meth.sig.returnType = ret → c.maxLocals = n → s.vm.findClass y.cls = some m.cls → (∀ w ∈ TB, w.before as.toArray s = true) → meth.locks = false → meth.name = y.name → m_W D cy s b lay μ s.heap [] → ∀ ls : Array Slot, lv_has ls n (lv_args 0 as) → W p l e (m_R d mc ms) s m as.toArray below meth c s.heap [] 0 0 (MQ below Qc as.toArray s mc ms free) (F0 m 0 ls [])) :
    Met l y (.code y cc n ret :: TB) (m_R d mc ms) (va_Pc as (m_B D cy b lay μ)) Qc mc ms free := by
  refine Met.ofW (cc := cc) (maxL := n) (ret := ret) hy rfl ?_
  intro p e s m args below meth c s₁ B hml hv
  obtain ⟨rfl, hK, hP⟩ := hv
  have hts := atoms_spec (ws := .code y cc n ret :: TB) B.pre
  have hl := lv_entry as (n := n) hlen
  rw [lg_entry_eq]
  exact body p e s m below meth c B.exec B.bytes B.returns hml (findClass_of_methodNamed B.named) (fun w hw => hts w (List.mem_cons_of_mem _ hw)) B.notSynchronized (name_of_methodNamed B.named B.method).1 ⟨hK, hP, va_S.rf⟩ _ hl
theorem m_ofz {l : Launch} {y : MethodName} {cc : ByteArray} {n d mc ms : Nat} {ret : Option FieldType} {D : va_G} {cy : Nat → ClassId} {b : Nat} {lay : List mL} {μ : mM} {as : List Value} {Qc : Array Value → State → Outcome → State → Prop} {free : Addr → Prop} (hy : plainName y.cls = true) (hlen : (lg_sl as).length ≤ n)
    (body : ∀ (p : Program) (e : Env) (s : State) (m : MethodId) (below : List Frame) (meth : Method) (c : Code), p.tables.exec = Jvm.exec → c.code = cc → meth.sig.returnType = ret → c.maxLocals = n → s.vm.findClass y.cls = some m.cls → (∀ w ∈ TB, w.before as.toArray s = true) → meth.locks = false → meth.name = y.name → m_W D cy s b lay μ s.heap [] → s.heap.size = b + lay.length → ∀ ls : Array Slot, lv_has ls n (lv_args 0 as) → W p l e (m_R d mc ms) s m as.toArray below meth c s.heap [] 0 0 (MQ below Qc as.toArray s mc ms free) (F0 m 0 ls [])) :
    Met l y (.code y cc n ret :: TB) (m_R d mc ms) (va_Pc as (m_Bz D cy b lay μ)) Qc mc ms free := by
  refine Met.ofW (cc := cc) (maxL := n) (ret := ret) hy rfl ?_
  intro p e s m args below meth c s₁ B hml hv
  obtain ⟨rfl, hK, hP, hz⟩ := hv
  have hts := atoms_spec (ws := .code y cc n ret :: TB) B.pre
  have hl := lv_entry as (n := n) hlen
  rw [lg_entry_eq]
  exact body p e s m below meth c B.exec B.bytes B.returns hml (findClass_of_methodNamed B.named) (fun w hw => hts w (List.mem_cons_of_mem _ hw)) B.notSynchronized (name_of_methodNamed B.named B.method).1 ⟨hK, hP, va_S.rf⟩ hz _ hl
end
section
theorem cw_0 : ∀ w ∈ u_ws RX0 TX0 5, w ∈ TB := fun w hw => by
  obtain ⟨k, hk, rfl⟩ := List.mem_map.mp hw
  have hk := List.mem_range.mp hk
  match k, hk with
  | 0, _ => exact tb2 121 rfl rfl
  | 1, _ => exact tb2 123 rfl rfl
  | 2, _ => exact tb2 125 rfl rfl
  | 3, _ => exact tb2 127 rfl rfl
  | 4, _ => exact tb2 129 rfl rfl
  | k + 5, h => exact absurd h (by omega)
theorem cw_1 : ∀ w ∈ u_ws RX1 TX1 5, w ∈ TB := fun w hw => by
  obtain ⟨k, hk, rfl⟩ := List.mem_map.mp hw
  have hk := List.mem_range.mp hk
  match k, hk with
  | 0, _ => exact tb1 186 rfl rfl
  | 1, _ => exact tb1 188 rfl rfl
  | 2, _ => exact tb1 190 rfl rfl
  | 3, _ => exact tb1 192 rfl rfl
  | 4, _ => exact tb1 194 rfl rfl
  | k + 5, h => exact absurd h (by omega)
theorem cw_2 : ∀ w ∈ u_ws RX2 TX2 5, w ∈ TB := fun w hw => by
  obtain ⟨k, hk, rfl⟩ := List.mem_map.mp hw
  have hk := List.mem_range.mp hk
  match k, hk with
  | 0, _ => exact tb1 214 rfl rfl
  | 1, _ => exact tb1 216 rfl rfl
  | 2, _ => exact tb1 218 rfl rfl
  | 3, _ => exact tb1 220 rfl rfl
  | 4, _ => exact tb1 222 rfl rfl
  | k + 5, h => exact absurd h (by omega)
theorem cw_3 : ∀ w ∈ u_ws RX3 TX3 18, w ∈ TB := fun w hw => by
  obtain ⟨k, hk, rfl⟩ := List.mem_map.mp hw
  have hk := List.mem_range.mp hk
  match k, hk with
  | 0, _ => exact tb2 20 rfl rfl
  | 1, _ => exact tb2 22 rfl rfl
  | 2, _ => exact tb2 24 rfl rfl
  | 3, _ => exact tb2 26 rfl rfl
  | 4, _ => exact tb2 28 rfl rfl
  | 5, _ => exact tb2 30 rfl rfl
  | 6, _ => exact tb2 32 rfl rfl
  | 7, _ => exact tb2 34 rfl rfl
  | 8, _ => exact tb2 36 rfl rfl
  | 9, _ => exact tb2 38 rfl rfl
  | 10, _ => exact tb2 40 rfl rfl
  | 11, _ => exact tb2 42 rfl rfl
  | 12, _ => exact tb2 44 rfl rfl
  | 13, _ => exact tb2 46 rfl rfl
  | 14, _ => exact tb2 48 rfl rfl
  | 15, _ => exact tb2 50 rfl rfl
  | 16, _ => exact tb2 52 rfl rfl
  | 17, _ => exact tb2 54 rfl rfl
  | k + 18, h => exact absurd h (by omega)
theorem cw_4 : ∀ w ∈ u_ws RX4 TX4 8, w ∈ TB := fun w hw => by
  obtain ⟨k, hk, rfl⟩ := List.mem_map.mp hw
  have hk := List.mem_range.mp hk
  match k, hk with
  | 0, _ => exact tb1 136 rfl rfl
  | 1, _ => exact tb1 138 rfl rfl
  | 2, _ => exact tb1 140 rfl rfl
  | 3, _ => exact tb1 142 rfl rfl
  | 4, _ => exact tb1 144 rfl rfl
  | 5, _ => exact tb1 146 rfl rfl
  | 6, _ => exact tb1 148 rfl rfl
  | 7, _ => exact tb1 150 rfl rfl
  | k + 8, h => exact absurd h (by omega)
theorem cw_5 : ∀ w ∈ u_ws RX5 TX5 2, w ∈ TB := fun w hw => by
  obtain ⟨k, hk, rfl⟩ := List.mem_map.mp hw
  have hk := List.mem_range.mp hk
  match k, hk with
  | 0, _ => exact tb1 54 rfl rfl
  | 1, _ => exact tb1 56 rfl rfl
  | k + 2, h => exact absurd h (by omega)
theorem cw_6 : ∀ w ∈ u_ws RX6 TX6 3, w ∈ TB := fun w hw => by
  obtain ⟨k, hk, rfl⟩ := List.mem_map.mp hw
  have hk := List.mem_range.mp hk
  match k, hk with
  | 0, _ => exact tb2 66 rfl rfl
  | 1, _ => exact tb2 68 rfl rfl
  | 2, _ => exact tb2 70 rfl rfl
  | k + 3, h => exact absurd h (by omega)
theorem cw_7 : ∀ w ∈ u_ws RX7 TX7 6, w ∈ TB := fun w hw => by
  obtain ⟨k, hk, rfl⟩ := List.mem_map.mp hw
  have hk := List.mem_range.mp hk
  match k, hk with
  | 0, _ => exact tb2 144 rfl rfl
  | 1, _ => exact tb2 146 rfl rfl
  | 2, _ => exact tb2 148 rfl rfl
  | 3, _ => exact tb2 150 rfl rfl
  | 4, _ => exact tb2 152 rfl rfl
  | 5, _ => exact tb2 154 rfl rfl
  | k + 6, h => exact absurd h (by omega)
theorem cw_8 : ∀ w ∈ u_ws RX8 TX8 3, w ∈ TB := fun w hw => by
  obtain ⟨k, hk, rfl⟩ := List.mem_map.mp hw
  have hk := List.mem_range.mp hk
  match k, hk with
  | 0, _ => exact tb1 118 rfl rfl
  | 1, _ => exact tb1 120 rfl rfl
  | 2, _ => exact tb1 122 rfl rfl
  | k + 3, h => exact absurd h (by omega)
theorem cw_9 : ∀ w ∈ u_ws RX9 TX9 7, w ∈ TB := fun w hw => by
  obtain ⟨k, hk, rfl⟩ := List.mem_map.mp hw
  have hk := List.mem_range.mp hk
  match k, hk with
  | 0, _ => exact tb2 95 rfl rfl
  | 1, _ => exact tb2 97 rfl rfl
  | 2, _ => exact tb2 99 rfl rfl
  | 3, _ => exact tb2 101 rfl rfl
  | 4, _ => exact tb2 103 rfl rfl
  | 5, _ => exact tb2 105 rfl rfl
  | 6, _ => exact tb2 107 rfl rfl
  | k + 7, h => exact absurd h (by omega)
theorem cw_10 : ∀ w ∈ u_ws RX10 TX10 8, w ∈ TB := fun w hw => by
  obtain ⟨k, hk, rfl⟩ := List.mem_map.mp hw
  have hk := List.mem_range.mp hk
  match k, hk with
  | 0, _ => exact tb1 77 rfl rfl
  | 1, _ => exact tb1 79 rfl rfl
  | 2, _ => exact tb1 81 rfl rfl
  | 3, _ => exact tb1 83 rfl rfl
  | 4, _ => exact tb1 85 rfl rfl
  | 5, _ => exact tb1 87 rfl rfl
  | 6, _ => exact tb1 89 rfl rfl
  | 7, _ => exact tb1 91 rfl rfl
  | k + 8, h => exact absurd h (by omega)
theorem cw_11 : ∀ w ∈ u_ws RX11 TX11 11, w ∈ TB := fun w hw => by
  obtain ⟨k, hk, rfl⟩ := List.mem_map.mp hw
  have hk := List.mem_range.mp hk
  match k, hk with
  | 0, _ => exact tb2 169 rfl rfl
  | 1, _ => exact tb2 171 rfl rfl
  | 2, _ => exact tb2 173 rfl rfl
  | 3, _ => exact tb2 175 rfl rfl
  | 4, _ => exact tb2 177 rfl rfl
  | 5, _ => exact tb2 179 rfl rfl
  | 6, _ => exact tb2 181 rfl rfl
  | 7, _ => exact tb2 183 rfl rfl
  | 8, _ => exact tb2 185 rfl rfl
  | 9, _ => exact tb2 187 rfl rfl
  | 10, _ => exact tb2 189 rfl rfl
  | k + 11, h => exact absurd h (by omega)
theorem cw_12 : ∀ w ∈ u_ws RX12 TX12 74, w ∈ TB := fun w hw => by
  obtain ⟨k, hk, rfl⟩ := List.mem_map.mp hw
  have hk := List.mem_range.mp hk
  match k, hk with
  | 0, _ => exact tb5 104 rfl rfl
  | 1, _ => exact tb5 106 rfl rfl
  | 2, _ => exact tb5 108 rfl rfl
  | 3, _ => exact tb5 110 rfl rfl
  | 4, _ => exact tb5 112 rfl rfl
  | 5, _ => exact tb5 114 rfl rfl
  | 6, _ => exact tb5 116 rfl rfl
  | 7, _ => exact tb5 118 rfl rfl
  | 8, _ => exact tb5 120 rfl rfl
  | 9, _ => exact tb5 122 rfl rfl
  | 10, _ => exact tb5 124 rfl rfl
  | 11, _ => exact tb5 126 rfl rfl
  | 12, _ => exact tb5 128 rfl rfl
  | 13, _ => exact tb5 130 rfl rfl
  | 14, _ => exact tb5 132 rfl rfl
  | 15, _ => exact tb5 134 rfl rfl
  | 16, _ => exact tb5 136 rfl rfl
  | 17, _ => exact tb5 138 rfl rfl
  | 18, _ => exact tb5 140 rfl rfl
  | 19, _ => exact tb5 142 rfl rfl
  | 20, _ => exact tb5 144 rfl rfl
  | 21, _ => exact tb5 146 rfl rfl
  | 22, _ => exact tb5 148 rfl rfl
  | 23, _ => exact tb5 150 rfl rfl
  | 24, _ => exact tb5 152 rfl rfl
  | 25, _ => exact tb5 154 rfl rfl
  | 26, _ => exact tb5 156 rfl rfl
  | 27, _ => exact tb5 158 rfl rfl
  | 28, _ => exact tb5 160 rfl rfl
  | 29, _ => exact tb5 162 rfl rfl
  | 30, _ => exact tb5 164 rfl rfl
  | 31, _ => exact tb5 166 rfl rfl
  | 32, _ => exact tb5 168 rfl rfl
  | 33, _ => exact tb5 170 rfl rfl
  | 34, _ => exact tb5 172 rfl rfl
  | 35, _ => exact tb5 174 rfl rfl
  | 36, _ => exact tb5 176 rfl rfl
  | 37, _ => exact tb5 178 rfl rfl
  | 38, _ => exact tb5 180 rfl rfl
  | 39, _ => exact tb5 182 rfl rfl
  | 40, _ => exact tb5 184 rfl rfl
  | 41, _ => exact tb5 186 rfl rfl
  | 42, _ => exact tb5 188 rfl rfl
  | 43, _ => exact tb5 190 rfl rfl
  | 44, _ => exact tb5 192 rfl rfl
  | 45, _ => exact tb5 194 rfl rfl
  | 46, _ => exact tb5 196 rfl rfl
  | 47, _ => exact tb5 198 rfl rfl
  | 48, _ => exact tb5 200 rfl rfl
  | 49, _ => exact tb5 202 rfl rfl
  | 50, _ => exact tb5 204 rfl rfl
  | 51, _ => exact tb5 206 rfl rfl
  | 52, _ => exact tb5 208 rfl rfl
  | 53, _ => exact tb5 210 rfl rfl
  | 54, _ => exact tb5 212 rfl rfl
  | 55, _ => exact tb5 214 rfl rfl
  | 56, _ => exact tb5 216 rfl rfl
  | 57, _ => exact tb5 218 rfl rfl
  | 58, _ => exact tb5 220 rfl rfl
  | 59, _ => exact tb5 222 rfl rfl
  | 60, _ => exact tb5 224 rfl rfl
  | 61, _ => exact tb5 226 rfl rfl
  | 62, _ => exact tb5 228 rfl rfl
  | 63, _ => exact tb5 230 rfl rfl
  | 64, _ => exact tb5 232 rfl rfl
  | 65, _ => exact tb5 234 rfl rfl
  | 66, _ => exact tb5 236 rfl rfl
  | 67, _ => exact tb5 238 rfl rfl
  | 68, _ => exact tb6 0 rfl rfl
  | 69, _ => exact tb6 2 rfl rfl
  | 70, _ => exact tb6 4 rfl rfl
  | 71, _ => exact tb6 6 rfl rfl
  | 72, _ => exact tb6 8 rfl rfl
  | 73, _ => exact tb6 10 rfl rfl
  | k + 74, h => exact absurd h (by omega)
theorem kn_L : Cond.initialized RL ∈ TB := tb1 0 rfl rfl
theorem kn_X11 : Cond.initialized RX11 ∈ TB := tb1 1 rfl rfl
theorem kn_X10 : Cond.initialized RX10 ∈ TB := tb1 2 rfl rfl
theorem kn_X5 : Cond.initialized RX5 ∈ TB := tb1 3 rfl rfl
theorem kn_J9 : Cond.initialized RJ9 ∈ TB := tb1 4 rfl rfl
theorem kn_X4 : Cond.initialized RX4 ∈ TB := tb1 5 rfl rfl
theorem kn_X8 : Cond.initialized RX8 ∈ TB := tb1 6 rfl rfl
theorem kn_X3 : Cond.initialized RX3 ∈ TB := tb1 7 rfl rfl
theorem kn_X1 : Cond.initialized RX1 ∈ TB := tb1 8 rfl rfl
theorem kn_X2 : Cond.initialized RX2 ∈ TB := tb1 9 rfl rfl
theorem kn_X6 : Cond.initialized RX6 ∈ TB := tb1 10 rfl rfl
theorem kn_X9 : Cond.initialized RX9 ∈ TB := tb1 11 rfl rfl
theorem kn_X0 : Cond.initialized RX0 ∈ TB := tb1 12 rfl rfl
theorem kn_X7 : Cond.initialized RX7 ∈ TB := tb1 13 rfl rfl
theorem kn_X12 : Cond.initialized RX12 ∈ TB := tb1 14 rfl rfl
theorem kn_J7 : Cond.initialized RJ7 ∈ TB := tb1 15 rfl rfl
theorem kn_J0 : Cond.initialized RJ0 ∈ TB := tb1 16 rfl rfl
theorem kn_J1 : Cond.initialized RJ1 ∈ TB := tb1 17 rfl rfl
theorem kn_J3 : Cond.initialized RJ3 ∈ TB := tb1 18 rfl rfl
theorem kn_J2 : Cond.initialized RJ2 ∈ TB := tb1 19 rfl rfl
theorem kn_J10 : Cond.initialized RJ10 ∈ TB := tb1 20 rfl rfl
theorem kn_J6 : Cond.initialized RJ6 ∈ TB := tb1 21 rfl rfl
theorem k_L_7 : Cond.classLink RL 7 RX11 ∈ TB := tb1 22 rfl rfl
theorem ki_X11 : Cond.instantiable RX11 11 ∈ TB := tb1 23 rfl rfl
theorem k_L_9 : Cond.methodLink RL 9 yX11_init ∈ TB := tb1 24 rfl rfl
theorem k_X11_1 : Cond.methodLink RX11 1 objectInit ∈ TB := tb1 27 rfl rfl
theorem k_X11_7 : Cond.classLink RX11 7 RX10 ∈ TB := tb1 30 rfl rfl
theorem ki_X10 : Cond.instantiable RX10 8 ∈ TB := tb1 31 rfl rfl
theorem k_X11_9 : Cond.methodLink RX11 9 yX10_init ∈ TB := tb1 32 rfl rfl
theorem k_X10_3 : Cond.methodLink RX10 3 objectInit ∈ TB := tb1 35 rfl rfl
theorem k_X10_35 : Cond.classLink RX10 35 RX5 ∈ TB := tb1 36 rfl rfl
theorem ki_X5 : Cond.instantiable RX5 2 ∈ TB := tb1 38 rfl rfl
theorem k_X10_43 : Cond.methodLink RX10 43 yX5_init ∈ TB := tb1 39 rfl rfl
theorem k_X5_3 : Cond.methodLink RX5 3 objectInit ∈ TB := tb1 42 rfl rfl
theorem k_X5_15 : Cond.methodLink RX5 15 Lib.Math.max.name ∈ TB := tb1 43 rfl rfl
theorem k_X5_21 : Cond.fieldLink RX5 21 (TX5 0).1 (TX5 0).2.1 (TX5 0).2.2.1 ∈ TB := tb1 46 rfl rfl
theorem k_X8_30 : Cond.fieldLink RX8 30 (TX5 0).1 (TX5 0).2.1 (TX5 0).2.2.1 ∈ TB := tb1 47 rfl rfl
theorem k_X5_9 : Cond.fieldLink RX5 9 (TX5 1).1 (TX5 1).2.1 (TX5 1).2.2.1 ∈ TB := tb1 48 rfl rfl
theorem k_X8_26 : Cond.fieldLink RX8 26 (TX5 1).1 (TX5 1).2.1 (TX5 1).2.2.1 ∈ TB := tb1 49 rfl rfl
theorem k_X4_50 : Cond.fieldLink RX4 50 (TX5 1).1 (TX5 1).2.1 (TX5 1).2.2.1 ∈ TB := tb1 50 rfl rfl
theorem k_X6_28 : Cond.fieldLink RX6 28 (TX5 1).1 (TX5 1).2.1 (TX5 1).2.2.1 ∈ TB := tb1 51 rfl rfl
theorem k_X11_99 : Cond.fieldLink RX11 99 (TX5 1).1 (TX5 1).2.1 (TX5 1).2.2.1 ∈ TB := tb1 52 rfl rfl
theorem k_X9_105 : Cond.fieldLink RX9 105 (TX5 1).1 (TX5 1).2.1 (TX5 1).2.2.1 ∈ TB := tb1 53 rfl rfl
theorem ka_int : Cond.arrayClass .int ∈ TB := tb1 59 rfl rfl
theorem k_X10_9 : Cond.fieldLink RX10 9 (TX10 0).1 (TX10 0).2.1 (TX10 0).2.2.1 ∈ TB := tb1 60 rfl rfl
theorem k_X3_153 : Cond.fieldLink RX3 153 (TX10 0).1 (TX10 0).2.1 (TX10 0).2.2.1 ∈ TB := tb1 61 rfl rfl
theorem k_X10_15 : Cond.fieldLink RX10 15 (TX10 1).1 (TX10 1).2.1 (TX10 1).2.2.1 ∈ TB := tb1 62 rfl rfl
theorem k_X3_138 : Cond.fieldLink RX3 138 (TX10 1).1 (TX10 1).2.1 (TX10 1).2.2.1 ∈ TB := tb1 63 rfl rfl
theorem k_X10_18 : Cond.fieldLink RX10 18 (TX10 2).1 (TX10 2).2.1 (TX10 2).2.2.1 ∈ TB := tb1 64 rfl rfl
theorem k_X3_144 : Cond.fieldLink RX3 144 (TX10 2).1 (TX10 2).2.1 (TX10 2).2.2.1 ∈ TB := tb1 65 rfl rfl
theorem k_X10_21 : Cond.fieldLink RX10 21 (TX10 3).1 (TX10 3).2.1 (TX10 3).2.2.1 ∈ TB := tb1 66 rfl rfl
theorem k_X3_159 : Cond.fieldLink RX3 159 (TX10 3).1 (TX10 3).2.1 (TX10 3).2.2.1 ∈ TB := tb1 67 rfl rfl
theorem k_X10_24 : Cond.fieldLink RX10 24 (TX10 4).1 (TX10 4).2.1 (TX10 4).2.2.1 ∈ TB := tb1 68 rfl rfl
theorem k_X11_89 : Cond.fieldLink RX11 89 (TX10 4).1 (TX10 4).2.1 (TX10 4).2.2.1 ∈ TB := tb1 69 rfl rfl
theorem k_X3_129 : Cond.fieldLink RX3 129 (TX10 4).1 (TX10 4).2.1 (TX10 4).2.2.1 ∈ TB := tb1 70 rfl rfl
theorem k_X10_28 : Cond.fieldLink RX10 28 (TX10 5).1 (TX10 5).2.1 (TX10 5).2.2.1 ∈ TB := tb1 71 rfl rfl
theorem k_X11_92 : Cond.fieldLink RX11 92 (TX10 5).1 (TX10 5).2.1 (TX10 5).2.2.1 ∈ TB := tb1 72 rfl rfl
theorem k_X3_150 : Cond.fieldLink RX3 150 (TX10 5).1 (TX10 5).2.1 (TX10 5).2.2.1 ∈ TB := tb1 73 rfl rfl
theorem k_X10_32 : Cond.fieldLink RX10 32 (TX10 6).1 (TX10 6).2.1 (TX10 6).2.2.1 ∈ TB := tb1 74 rfl rfl
theorem k_X11_96 : Cond.fieldLink RX11 96 (TX10 6).1 (TX10 6).2.1 (TX10 6).2.2.1 ∈ TB := tb1 75 rfl rfl
theorem k_X10_37 : Cond.fieldLink RX10 37 (TX10 7).1 (TX10 7).2.1 (TX10 7).2.2.1 ∈ TB := tb1 76 rfl rfl
theorem k_X11_16 : Cond.classLink RX11 16 RX5 ∈ TB := tb1 94 rfl rfl
theorem k_X11_18 : Cond.methodLink RX11 18 yX5_init ∈ TB := tb1 95 rfl rfl
theorem k_X11_28 : Cond.classLink RX11 28 RX4 ∈ TB := tb1 96 rfl rfl
theorem ki_X4 : Cond.instantiable RX4 8 ∈ TB := tb1 97 rfl rfl
theorem n_X11_30 : Cond.methodLinkNest RX11 30 yX4_init "BeamPlate" ∈ lw_tbl := List.mem_append_right _ (List.mem_append_left _ (List.mem_of_getElem? (i := 98) rfl))
theorem k_X4_3 : Cond.methodLink RX4 3 objectInit ∈ TB := tb1 101 rfl rfl
theorem k_X4_9 : Cond.classLink RX4 9 RX5 ∈ TB := tb1 102 rfl rfl
theorem k_X4_13 : Cond.methodLink RX4 13 yX5_init ∈ TB := tb1 103 rfl rfl
theorem k_X4_27 : Cond.classLink RX4 27 RX8 ∈ TB := tb1 104 rfl rfl
theorem ki_X8 : Cond.instantiable RX8 3 ∈ TB := tb1 105 rfl rfl
theorem n_X4_29 : Cond.methodLinkNest RX4 29 yX8_init "BeamPlate" ∈ lw_tbl := List.mem_append_right _ (List.mem_append_left _ (List.mem_of_getElem? (i := 106) rfl))
theorem k_X8_3 : Cond.methodLink RX8 3 objectInit ∈ TB := tb1 109 rfl rfl
theorem k_X8_9 : Cond.classLink RX8 9 RX5 ∈ TB := tb1 110 rfl rfl
theorem k_X8_11 : Cond.methodLink RX8 11 yX5_init ∈ TB := tb1 111 rfl rfl
theorem k_X8_14 : Cond.fieldLink RX8 14 (TX8 0).1 (TX8 0).2.1 (TX8 0).2.2.1 ∈ TB := tb1 112 rfl rfl
theorem k_X4_53 : Cond.fieldLink RX4 53 (TX8 0).1 (TX8 0).2.1 (TX8 0).2.2.1 ∈ TB := tb1 113 rfl rfl
theorem k_X8_20 : Cond.fieldLink RX8 20 (TX8 1).1 (TX8 1).2.1 (TX8 1).2.2.1 ∈ TB := tb1 114 rfl rfl
theorem k_X4_77 : Cond.fieldLink RX4 77 (TX8 1).1 (TX8 1).2.1 (TX8 1).2.2.1 ∈ TB := tb1 115 rfl rfl
theorem k_X8_23 : Cond.fieldLink RX8 23 (TX8 2).1 (TX8 2).2.1 (TX8 2).2.2.1 ∈ TB := tb1 116 rfl rfl
theorem k_X4_124 : Cond.fieldLink RX4 124 (TX8 2).1 (TX8 2).2.1 (TX8 2).2.2.1 ∈ TB := tb1 117 rfl rfl
theorem k_X4_16 : Cond.fieldLink RX4 16 (TX4 0).1 (TX4 0).2.1 (TX4 0).2.2.1 ∈ TB := tb1 125 rfl rfl
theorem k_X11_117 : Cond.fieldLink RX11 117 (TX4 0).1 (TX4 0).2.1 (TX4 0).2.2.1 ∈ TB := tb1 126 rfl rfl
theorem k_X4_20 : Cond.fieldLink RX4 20 (TX4 1).1 (TX4 1).2.1 (TX4 1).2.2.1 ∈ TB := tb1 127 rfl rfl
theorem k_X11_113 : Cond.fieldLink RX11 113 (TX4 1).1 (TX4 1).2.1 (TX4 1).2.2.1 ∈ TB := tb1 128 rfl rfl
theorem k_X4_24 : Cond.fieldLink RX4 24 (TX4 2).1 (TX4 2).2.1 (TX4 2).2.2.1 ∈ TB := tb1 129 rfl rfl
theorem k_X11_116 : Cond.fieldLink RX11 116 (TX4 2).1 (TX4 2).2.1 (TX4 2).2.2.1 ∈ TB := tb1 130 rfl rfl
theorem k_X4_30 : Cond.fieldLink RX4 30 (TX4 3).1 (TX4 3).2.1 (TX4 3).2.2.1 ∈ TB := tb1 131 rfl rfl
theorem k_X4_34 : Cond.fieldLink RX4 34 (TX4 4).1 (TX4 4).2.1 (TX4 4).2.2.1 ∈ TB := tb1 132 rfl rfl
theorem k_X4_37 : Cond.fieldLink RX4 37 (TX4 5).1 (TX4 5).2.1 (TX4 5).2.2.1 ∈ TB := tb1 133 rfl rfl
theorem k_X4_40 : Cond.fieldLink RX4 40 (TX4 6).1 (TX4 6).2.1 (TX4 6).2.2.1 ∈ TB := tb1 134 rfl rfl
theorem k_X4_43 : Cond.fieldLink RX4 43 (TX4 7).1 (TX4 7).2.1 (TX4 7).2.2.1 ∈ TB := tb1 135 rfl rfl
theorem k_X11_35 : Cond.classLink RX11 35 RX3 ∈ TB := tb1 153 rfl rfl
theorem ki_X3 : Cond.instantiable RX3 18 ∈ TB := tb1 154 rfl rfl
theorem n_X11_37 : Cond.methodLinkNest RX11 37 yX3_init "BeamPlate" ∈ lw_tbl := List.mem_append_right _ (List.mem_append_left _ (List.mem_of_getElem? (i := 155) rfl))
theorem k_X3_5 : Cond.methodLink RX3 5 objectInit ∈ TB := tb1 158 rfl rfl
theorem k_X3_43 : Cond.classLink RX3 43 RX1 ∈ TB := tb1 159 rfl rfl
theorem ki_X1 : Cond.instantiable RX1 5 ∈ TB := tb1 160 rfl rfl
theorem n_X3_45 : Cond.methodLinkNest RX3 45 yX1_init "BeamPlate" ∈ lw_tbl := List.mem_append_right _ (List.mem_append_left _ (List.mem_of_getElem? (i := 161) rfl))
theorem k_X1_1 : Cond.methodLink RX1 1 objectInit ∈ TB := tb1 164 rfl rfl
theorem k_X1_7 : Cond.fieldLink RX1 7 (TX1 0).1 (TX1 0).2.1 (TX1 0).2.2.1 ∈ TB := tb1 165 rfl rfl
theorem k_X6_88 : Cond.fieldLink RX6 88 (TX1 0).1 (TX1 0).2.1 (TX1 0).2.2.1 ∈ TB := tb1 166 rfl rfl
theorem k_X9_88 : Cond.fieldLink RX9 88 (TX1 0).1 (TX1 0).2.1 (TX1 0).2.2.1 ∈ TB := tb1 167 rfl rfl
theorem k_X3_104 : Cond.fieldLink RX3 104 (TX1 0).1 (TX1 0).2.1 (TX1 0).2.2.1 ∈ TB := tb1 168 rfl rfl
theorem k_X11_175 : Cond.fieldLink RX11 175 (TX1 0).1 (TX1 0).2.1 (TX1 0).2.2.1 ∈ TB := tb1 169 rfl rfl
theorem k_X1_13 : Cond.fieldLink RX1 13 (TX1 1).1 (TX1 1).2.1 (TX1 1).2.2.1 ∈ TB := tb1 170 rfl rfl
theorem k_X6_94 : Cond.fieldLink RX6 94 (TX1 1).1 (TX1 1).2.1 (TX1 1).2.2.1 ∈ TB := tb1 171 rfl rfl
theorem k_X9_96 : Cond.fieldLink RX9 96 (TX1 1).1 (TX1 1).2.1 (TX1 1).2.2.1 ∈ TB := tb1 172 rfl rfl
theorem k_X3_101 : Cond.fieldLink RX3 101 (TX1 1).1 (TX1 1).2.1 (TX1 1).2.2.1 ∈ TB := tb1 173 rfl rfl
theorem k_X11_180 : Cond.fieldLink RX11 180 (TX1 1).1 (TX1 1).2.1 (TX1 1).2.2.1 ∈ TB := tb1 174 rfl rfl
theorem k_X1_16 : Cond.fieldLink RX1 16 (TX1 2).1 (TX1 2).2.1 (TX1 2).2.2.1 ∈ TB := tb1 175 rfl rfl
theorem k_X6_75 : Cond.fieldLink RX6 75 (TX1 2).1 (TX1 2).2.1 (TX1 2).2.2.1 ∈ TB := tb1 176 rfl rfl
theorem k_X3_125 : Cond.fieldLink RX3 125 (TX1 2).1 (TX1 2).2.1 (TX1 2).2.2.1 ∈ TB := tb1 177 rfl rfl
theorem k_X11_183 : Cond.fieldLink RX11 183 (TX1 2).1 (TX1 2).2.1 (TX1 2).2.2.1 ∈ TB := tb1 178 rfl rfl
theorem k_X1_20 : Cond.fieldLink RX1 20 (TX1 3).1 (TX1 3).2.1 (TX1 3).2.2.1 ∈ TB := tb1 179 rfl rfl
theorem k_X6_55 : Cond.fieldLink RX6 55 (TX1 3).1 (TX1 3).2.1 (TX1 3).2.2.1 ∈ TB := tb1 180 rfl rfl
theorem k_X9_113 : Cond.fieldLink RX9 113 (TX1 3).1 (TX1 3).2.1 (TX1 3).2.2.1 ∈ TB := tb1 181 rfl rfl
theorem k_X11_186 : Cond.fieldLink RX11 186 (TX1 3).1 (TX1 3).2.1 (TX1 3).2.2.1 ∈ TB := tb1 182 rfl rfl
theorem k_X1_23 : Cond.fieldLink RX1 23 (TX1 4).1 (TX1 4).2.1 (TX1 4).2.2.1 ∈ TB := tb1 183 rfl rfl
theorem k_X3_118 : Cond.fieldLink RX3 118 (TX1 4).1 (TX1 4).2.1 (TX1 4).2.2.1 ∈ TB := tb1 184 rfl rfl
theorem k_X11_189 : Cond.fieldLink RX11 189 (TX1 4).1 (TX1 4).2.1 (TX1 4).2.2.1 ∈ TB := tb1 185 rfl rfl
theorem k_X3_69 : Cond.classLink RX3 69 RX2 ∈ TB := tb1 197 rfl rfl
theorem ki_X2 : Cond.instantiable RX2 5 ∈ TB := tb1 198 rfl rfl
theorem n_X3_71 : Cond.methodLinkNest RX3 71 yX2_init "BeamPlate" ∈ lw_tbl := List.mem_append_right _ (List.mem_append_left _ (List.mem_of_getElem? (i := 199) rfl))
theorem k_X2_1 : Cond.methodLink RX2 1 objectInit ∈ TB := tb1 202 rfl rfl
theorem k_X2_9 : Cond.fieldLink RX2 9 (TX2 0).1 (TX2 0).2.1 (TX2 0).2.2.1 ∈ TB := tb1 203 rfl rfl
theorem k_X3_201 : Cond.fieldLink RX3 201 (TX2 0).1 (TX2 0).2.1 (TX2 0).2.2.1 ∈ TB := tb1 204 rfl rfl
theorem k_X2_15 : Cond.fieldLink RX2 15 (TX2 1).1 (TX2 1).2.1 (TX2 1).2.2.1 ∈ TB := tb1 205 rfl rfl
theorem k_X2_18 : Cond.fieldLink RX2 18 (TX2 2).1 (TX2 2).2.1 (TX2 2).2.2.1 ∈ TB := tb1 206 rfl rfl
theorem k_X11_155 : Cond.fieldLink RX11 155 (TX2 2).1 (TX2 2).2.1 (TX2 2).2.2.1 ∈ TB := tb1 207 rfl rfl
theorem k_X3_198 : Cond.fieldLink RX3 198 (TX2 2).1 (TX2 2).2.1 (TX2 2).2.2.1 ∈ TB := tb1 208 rfl rfl
theorem k_X2_22 : Cond.fieldLink RX2 22 (TX2 3).1 (TX2 3).2.1 (TX2 3).2.2.1 ∈ TB := tb1 209 rfl rfl
theorem k_X3_207 : Cond.fieldLink RX3 207 (TX2 3).1 (TX2 3).2.1 (TX2 3).2.2.1 ∈ TB := tb1 210 rfl rfl
theorem k_X2_25 : Cond.fieldLink RX2 25 (TX2 4).1 (TX2 4).2.1 (TX2 4).2.2.1 ∈ TB := tb1 211 rfl rfl
theorem k_X11_158 : Cond.fieldLink RX11 158 (TX2 4).1 (TX2 4).2.1 (TX2 4).2.2.1 ∈ TB := tb1 212 rfl rfl
theorem k_X3_192 : Cond.fieldLink RX3 192 (TX2 4).1 (TX2 4).2.1 (TX2 4).2.2.1 ∈ TB := tb1 213 rfl rfl
theorem k_X3_11 : Cond.fieldLink RX3 11 (TX3 0).1 (TX3 0).2.1 (TX3 0).2.2.1 ∈ TB := tb1 225 rfl rfl
theorem k_X2_35 : Cond.fieldLink RX2 35 (TX3 0).1 (TX3 0).2.1 (TX3 0).2.2.1 ∈ TB := tb1 226 rfl rfl
theorem k_X3_15 : Cond.fieldLink RX3 15 (TX3 1).1 (TX3 1).2.1 (TX3 1).2.2.1 ∈ TB := tb1 227 rfl rfl
theorem k_X3_18 : Cond.fieldLink RX3 18 (TX3 2).1 (TX3 2).2.1 (TX3 2).2.2.1 ∈ TB := tb1 228 rfl rfl
theorem k_X2_46 : Cond.fieldLink RX2 46 (TX3 2).1 (TX3 2).2.1 (TX3 2).2.2.1 ∈ TB := tb1 229 rfl rfl
theorem k_X3_21 : Cond.fieldLink RX3 21 (TX3 3).1 (TX3 3).2.1 (TX3 3).2.2.1 ∈ TB := tb1 230 rfl rfl
theorem k_X3_24 : Cond.fieldLink RX3 24 (TX3 4).1 (TX3 4).2.1 (TX3 4).2.2.1 ∈ TB := tb1 231 rfl rfl
theorem k_X3_27 : Cond.fieldLink RX3 27 (TX3 5).1 (TX3 5).2.1 (TX3 5).2.2.1 ∈ TB := tb1 232 rfl rfl
theorem k_X6_22 : Cond.fieldLink RX6 22 (TX3 5).1 (TX3 5).2.1 (TX3 5).2.2.1 ∈ TB := tb1 233 rfl rfl
theorem k_X9_77 : Cond.fieldLink RX9 77 (TX3 5).1 (TX3 5).2.1 (TX3 5).2.2.1 ∈ TB := tb1 234 rfl rfl
theorem k_X11_168 : Cond.fieldLink RX11 168 (TX3 5).1 (TX3 5).2.1 (TX3 5).2.2.1 ∈ TB := tb1 235 rfl rfl
theorem k_X3_30 : Cond.fieldLink RX3 30 (TX3 6).1 (TX3 6).2.1 (TX3 6).2.2.1 ∈ TB := tb1 236 rfl rfl
theorem k_X6_79 : Cond.fieldLink RX6 79 (TX3 6).1 (TX3 6).2.1 (TX3 6).2.2.1 ∈ TB := tb1 237 rfl rfl
theorem k_X11_206 : Cond.fieldLink RX11 206 (TX3 6).1 (TX3 6).2.1 (TX3 6).2.2.1 ∈ TB := tb1 238 rfl rfl
theorem k_X3_33 : Cond.fieldLink RX3 33 (TX3 7).1 (TX3 7).2.1 (TX3 7).2.2.1 ∈ TB := tb1 239 rfl rfl
theorem k_X11_209 : Cond.fieldLink RX11 209 (TX3 7).1 (TX3 7).2.1 (TX3 7).2.2.1 ∈ TB := tb2 0 rfl rfl
theorem k_X3_37 : Cond.fieldLink RX3 37 (TX3 8).1 (TX3 8).2.1 (TX3 8).2.2.1 ∈ TB := tb2 1 rfl rfl
theorem k_X11_217 : Cond.fieldLink RX11 217 (TX3 8).1 (TX3 8).2.1 (TX3 8).2.2.1 ∈ TB := tb2 2 rfl rfl
theorem k_X3_40 : Cond.fieldLink RX3 40 (TX3 9).1 (TX3 9).2.1 (TX3 9).2.2.1 ∈ TB := tb2 3 rfl rfl
theorem k_X11_220 : Cond.fieldLink RX11 220 (TX3 9).1 (TX3 9).2.1 (TX3 9).2.2.1 ∈ TB := tb2 4 rfl rfl
theorem k_X3_46 : Cond.fieldLink RX3 46 (TX3 10).1 (TX3 10).2.1 (TX3 10).2.2.1 ∈ TB := tb2 5 rfl rfl
theorem k_X6_51 : Cond.fieldLink RX6 51 (TX3 10).1 (TX3 10).2.1 (TX3 10).2.2.1 ∈ TB := tb2 6 rfl rfl
theorem k_X9_84 : Cond.fieldLink RX9 84 (TX3 10).1 (TX3 10).2.1 (TX3 10).2.2.1 ∈ TB := tb2 7 rfl rfl
theorem k_X11_171 : Cond.fieldLink RX11 171 (TX3 10).1 (TX3 10).2.1 (TX3 10).2.2.1 ∈ TB := tb2 8 rfl rfl
theorem k_X3_50 : Cond.fieldLink RX3 50 (TX3 11).1 (TX3 11).2.1 (TX3 11).2.2.1 ∈ TB := tb2 9 rfl rfl
theorem k_X6_125 : Cond.fieldLink RX6 125 (TX3 11).1 (TX3 11).2.1 (TX3 11).2.2.1 ∈ TB := tb2 10 rfl rfl
theorem k_X11_140 : Cond.fieldLink RX11 140 (TX3 11).1 (TX3 11).2.1 (TX3 11).2.2.1 ∈ TB := tb2 11 rfl rfl
theorem k_X3_54 : Cond.fieldLink RX3 54 (TX3 12).1 (TX3 12).2.1 (TX3 12).2.2.1 ∈ TB := tb2 12 rfl rfl
theorem k_X2_49 : Cond.fieldLink RX2 49 (TX3 12).1 (TX3 12).2.1 (TX3 12).2.2.1 ∈ TB := tb2 13 rfl rfl
theorem k_X3_57 : Cond.fieldLink RX3 57 (TX3 13).1 (TX3 13).2.1 (TX3 13).2.2.1 ∈ TB := tb2 14 rfl rfl
theorem k_X11_148 : Cond.fieldLink RX11 148 (TX3 13).1 (TX3 13).2.1 (TX3 13).2.2.1 ∈ TB := tb2 15 rfl rfl
theorem k_X3_60 : Cond.fieldLink RX3 60 (TX3 14).1 (TX3 14).2.1 (TX3 14).2.2.1 ∈ TB := tb2 16 rfl rfl
theorem k_X3_63 : Cond.fieldLink RX3 63 (TX3 15).1 (TX3 15).2.1 (TX3 15).2.2.1 ∈ TB := tb2 17 rfl rfl
theorem k_X3_66 : Cond.fieldLink RX3 66 (TX3 16).1 (TX3 16).2.1 (TX3 16).2.2.1 ∈ TB := tb2 18 rfl rfl
theorem k_X3_72 : Cond.fieldLink RX3 72 (TX3 17).1 (TX3 17).2.1 (TX3 17).2.2.1 ∈ TB := tb2 19 rfl rfl
theorem k_X11_42 : Cond.classLink RX11 42 RX6 ∈ TB := tb2 57 rfl rfl
theorem ki_X6 : Cond.instantiable RX6 3 ∈ TB := tb2 58 rfl rfl
theorem n_X11_44 : Cond.methodLinkNest RX11 44 yX6_init "BeamPlate" ∈ lw_tbl := List.mem_append_right _ (List.mem_append_right _ (List.mem_append_left _ (List.mem_of_getElem? (i := 59) rfl)))
theorem k_X6_3 : Cond.methodLink RX6 3 objectInit ∈ TB := tb2 62 rfl rfl
theorem k_X6_11 : Cond.fieldLink RX6 11 (TX6 0).1 (TX6 0).2.1 (TX6 0).2.2.1 ∈ TB := tb2 63 rfl rfl
theorem k_X6_15 : Cond.fieldLink RX6 15 (TX6 1).1 (TX6 1).2.1 (TX6 1).2.2.1 ∈ TB := tb2 64 rfl rfl
theorem k_X6_19 : Cond.fieldLink RX6 19 (TX6 2).1 (TX6 2).2.1 (TX6 2).2.2.1 ∈ TB := tb2 65 rfl rfl
theorem k_X11_49 : Cond.classLink RX11 49 RX9 ∈ TB := tb2 73 rfl rfl
theorem ki_X9 : Cond.instantiable RX9 7 ∈ TB := tb2 74 rfl rfl
theorem n_X11_51 : Cond.methodLinkNest RX11 51 yX9_init "BeamPlate" ∈ lw_tbl := List.mem_append_right _ (List.mem_append_right _ (List.mem_append_left _ (List.mem_of_getElem? (i := 75) rfl)))
theorem k_X9_3 : Cond.methodLink RX9 3 objectInit ∈ TB := tb2 78 rfl rfl
theorem k_X9_21 : Cond.classLink RX9 21 RX6 ∈ TB := tb2 79 rfl rfl
theorem n_X9_23 : Cond.methodLinkNest RX9 23 yX6_init "BeamPlate" ∈ lw_tbl := List.mem_append_right _ (List.mem_append_right _ (List.mem_append_left _ (List.mem_of_getElem? (i := 80) rfl)))
theorem k_X9_28 : Cond.classLink RX9 28 RX5 ∈ TB := tb2 81 rfl rfl
theorem k_X9_30 : Cond.methodLink RX9 30 yX5_init ∈ TB := tb2 82 rfl rfl
theorem k_X9_37 : Cond.classLink RX9 37 RX3 ∈ TB := tb2 83 rfl rfl
theorem n_X9_39 : Cond.methodLinkNest RX9 39 yX3_init "BeamPlate" ∈ lw_tbl := List.mem_append_right _ (List.mem_append_right _ (List.mem_append_left _ (List.mem_of_getElem? (i := 84) rfl)))
theorem k_X9_9 : Cond.fieldLink RX9 9 (TX9 0).1 (TX9 0).2.1 (TX9 0).2.2.1 ∈ TB := tb2 85 rfl rfl
theorem k_X11_234 : Cond.fieldLink RX11 234 (TX9 0).1 (TX9 0).2.1 (TX9 0).2.2.1 ∈ TB := tb2 86 rfl rfl
theorem k_X9_15 : Cond.fieldLink RX9 15 (TX9 1).1 (TX9 1).2.1 (TX9 1).2.2.1 ∈ TB := tb2 87 rfl rfl
theorem k_X11_237 : Cond.fieldLink RX11 237 (TX9 1).1 (TX9 1).2.1 (TX9 1).2.2.1 ∈ TB := tb2 88 rfl rfl
theorem k_X9_18 : Cond.fieldLink RX9 18 (TX9 2).1 (TX9 2).2.1 (TX9 2).2.2.1 ∈ TB := tb2 89 rfl rfl
theorem k_X11_240 : Cond.fieldLink RX11 240 (TX9 2).1 (TX9 2).2.1 (TX9 2).2.2.1 ∈ TB := tb2 90 rfl rfl
theorem k_X9_24 : Cond.fieldLink RX9 24 (TX9 3).1 (TX9 3).2.1 (TX9 3).2.2.1 ∈ TB := tb2 91 rfl rfl
theorem k_X9_33 : Cond.fieldLink RX9 33 (TX9 4).1 (TX9 4).2.1 (TX9 4).2.2.1 ∈ TB := tb2 92 rfl rfl
theorem k_X9_40 : Cond.fieldLink RX9 40 (TX9 5).1 (TX9 5).2.1 (TX9 5).2.2.1 ∈ TB := tb2 93 rfl rfl
theorem k_X9_44 : Cond.fieldLink RX9 44 (TX9 6).1 (TX9 6).2.1 (TX9 6).2.2.1 ∈ TB := tb2 94 rfl rfl
theorem k_X11_56 : Cond.classLink RX11 56 RX0 ∈ TB := tb2 110 rfl rfl
theorem ki_X0 : Cond.instantiable RX0 5 ∈ TB := tb2 111 rfl rfl
theorem n_X11_58 : Cond.methodLinkNest RX11 58 yX0_init "BeamPlate" ∈ lw_tbl := List.mem_append_right _ (List.mem_append_right _ (List.mem_append_left _ (List.mem_of_getElem? (i := 112) rfl)))
theorem k_X0_5 : Cond.methodLink RX0 5 objectInit ∈ TB := tb2 115 rfl rfl
theorem k_X0_11 : Cond.fieldLink RX0 11 (TX0 0).1 (TX0 0).2.1 (TX0 0).2.2.1 ∈ TB := tb2 116 rfl rfl
theorem k_X0_15 : Cond.fieldLink RX0 15 (TX0 1).1 (TX0 1).2.1 (TX0 1).2.2.1 ∈ TB := tb2 117 rfl rfl
theorem k_X0_18 : Cond.fieldLink RX0 18 (TX0 2).1 (TX0 2).2.1 (TX0 2).2.2.1 ∈ TB := tb2 118 rfl rfl
theorem k_X0_21 : Cond.fieldLink RX0 21 (TX0 3).1 (TX0 3).2.1 (TX0 3).2.2.1 ∈ TB := tb2 119 rfl rfl
theorem k_X0_24 : Cond.fieldLink RX0 24 (TX0 4).1 (TX0 4).2.1 (TX0 4).2.2.1 ∈ TB := tb2 120 rfl rfl
theorem k_X11_63 : Cond.classLink RX11 63 RX7 ∈ TB := tb2 132 rfl rfl
theorem ki_X7 : Cond.instantiable RX7 6 ∈ TB := tb2 133 rfl rfl
theorem n_X11_65 : Cond.methodLinkNest RX11 65 yX7_init "BeamPlate" ∈ lw_tbl := List.mem_append_right _ (List.mem_append_right _ (List.mem_append_left _ (List.mem_of_getElem? (i := 134) rfl)))
theorem k_X7_3 : Cond.methodLink RX7 3 objectInit ∈ TB := tb2 137 rfl rfl
theorem k_X7_11 : Cond.fieldLink RX7 11 (TX7 0).1 (TX7 0).2.1 (TX7 0).2.2.1 ∈ TB := tb2 138 rfl rfl
theorem k_X7_15 : Cond.fieldLink RX7 15 (TX7 1).1 (TX7 1).2.1 (TX7 1).2.2.1 ∈ TB := tb2 139 rfl rfl
theorem k_X7_18 : Cond.fieldLink RX7 18 (TX7 2).1 (TX7 2).2.1 (TX7 2).2.2.1 ∈ TB := tb2 140 rfl rfl
theorem k_X7_21 : Cond.fieldLink RX7 21 (TX7 3).1 (TX7 3).2.1 (TX7 3).2.2.1 ∈ TB := tb2 141 rfl rfl
theorem k_X7_25 : Cond.fieldLink RX7 25 (TX7 4).1 (TX7 4).2.1 (TX7 4).2.2.1 ∈ TB := tb2 142 rfl rfl
theorem k_X7_29 : Cond.fieldLink RX7 29 (TX7 5).1 (TX7 5).2.1 (TX7 5).2.2.1 ∈ TB := tb2 143 rfl rfl
theorem ka_boolean : Cond.arrayClass .boolean ∈ TB := tb2 157 rfl rfl
theorem k_X11_10 : Cond.fieldLink RX11 10 (TX11 0).1 (TX11 0).2.1 (TX11 0).2.2.1 ∈ TB := tb2 158 rfl rfl
theorem k_X11_21 : Cond.fieldLink RX11 21 (TX11 1).1 (TX11 1).2.1 (TX11 1).2.2.1 ∈ TB := tb2 159 rfl rfl
theorem k_X11_25 : Cond.fieldLink RX11 25 (TX11 2).1 (TX11 2).2.1 (TX11 2).2.2.1 ∈ TB := tb2 160 rfl rfl
theorem k_X11_31 : Cond.fieldLink RX11 31 (TX11 3).1 (TX11 3).2.1 (TX11 3).2.2.1 ∈ TB := tb2 161 rfl rfl
theorem k_X11_38 : Cond.fieldLink RX11 38 (TX11 4).1 (TX11 4).2.1 (TX11 4).2.2.1 ∈ TB := tb2 162 rfl rfl
theorem k_X11_45 : Cond.fieldLink RX11 45 (TX11 5).1 (TX11 5).2.1 (TX11 5).2.2.1 ∈ TB := tb2 163 rfl rfl
theorem k_X11_52 : Cond.fieldLink RX11 52 (TX11 6).1 (TX11 6).2.1 (TX11 6).2.2.1 ∈ TB := tb2 164 rfl rfl
theorem k_X11_59 : Cond.fieldLink RX11 59 (TX11 7).1 (TX11 7).2.1 (TX11 7).2.2.1 ∈ TB := tb2 165 rfl rfl
theorem k_X11_66 : Cond.fieldLink RX11 66 (TX11 8).1 (TX11 8).2.1 (TX11 8).2.2.1 ∈ TB := tb2 166 rfl rfl
theorem k_X11_70 : Cond.fieldLink RX11 70 (TX11 9).1 (TX11 9).2.1 (TX11 9).2.2.1 ∈ TB := tb2 167 rfl rfl
theorem k_X11_74 : Cond.fieldLink RX11 74 (TX11 10).1 (TX11 10).2.1 (TX11 10).2.2.1 ∈ TB := tb2 168 rfl rfl
theorem k_L_13 : Cond.methodLink RL 13 yX11_stuff ∈ TB := tb2 192 rfl rfl
theorem k_X11_77 : Cond.methodLink RX11 77 yX10_setStuff ∈ TB := tb2 196 rfl rfl
theorem n_X10_46 : Cond.methodLinkNest RX10 46 yX11_within "BeamPlate" ∈ lw_tbl := List.mem_append_right _ (List.mem_append_right _ (List.mem_append_left _ (List.mem_of_getElem? (i := 200) rfl)))
theorem k_L_18 : Cond.methodLink RL 18 yX11_plate ∈ TB := tb2 203 rfl rfl
theorem k_X11_81 : Cond.methodLink RX11 81 yX11_within ∈ TB := tb2 207 rfl rfl
theorem k_X11_85 : Cond.methodLink RX11 85 yX3_renew ∈ TB := tb2 208 rfl rfl
theorem k_X3_76 : Cond.methodLink RX3 76 Lib.Math.min.name ∈ TB := tb2 212 rfl rfl
theorem k_X3_82 : Cond.methodLink RX3 82 yX1_renew ∈ TB := tb2 215 rfl rfl
theorem k_X3_85 : Cond.methodLink RX3 85 yJ7_fill_53178 ∈ TB := tb2 219 rfl rfl
theorem k_L_23 : Cond.methodLink RL 23 yX11_beam ∈ TB := tb2 222 rfl rfl
theorem k_L_28 : Cond.methodLink RL 28 yX11_pitch ∈ TB := tb2 226 rfl rfl
theorem k_L_33 : Cond.methodLink RL 33 yX11_feed ∈ TB := tb2 230 rfl rfl
theorem k_X11_102 : Cond.methodLink RX11 102 yX5_addBytes ∈ TB := tb2 234 rfl rfl
theorem k_X5_25 : Cond.methodLink RX5 25 yX5_add ∈ TB := tb2 238 rfl rfl
theorem k_L_38 : Cond.methodLink RL 38 yX11_end ∈ TB := tb3 2 rfl rfl
theorem k_L_42 : Cond.methodLink RL 42 yX11_way ∈ TB := tb3 6 rfl rfl
theorem k_X11_105 : Cond.methodLink RX11 105 yX10_programOf ∈ TB := tb3 10 rfl rfl
theorem k_X11_109 : Cond.methodLink RX11 109 yX4_read ∈ TB := tb3 14 rfl rfl
theorem k_X4_46 : Cond.methodLink RX4 46 yX8_takeApart ∈ TB := tb3 18 rfl rfl
theorem k_X8_34 : Cond.methodLink RX8 34 yX8_isLetter ∈ TB := tb3 22 rfl rfl
theorem n_X8_81 : Cond.methodLinkNest RX8 81 yX11_within "BeamPlate" ∈ lw_tbl := List.mem_append_right _ (List.mem_append_right _ (List.mem_append_right _ (List.mem_append_left _ (List.mem_of_getElem? (i := 25) rfl))))
theorem k_X8_38 : Cond.methodLink RX8 38 yX8_takeWord ∈ TB := tb3 26 rfl rfl
theorem k_X8_62 : Cond.methodLink RX8 62 yX8_kindOfWord ∈ TB := tb3 30 rfl rfl
theorem k_X8_68 : Cond.methodLink RX8 68 yJ0_length_8abf5 ∈ TB := tb3 34 rfl rfl
theorem k_J0_335 : Cond.methodLink RJ0 335 yJ0_coder_7d493 ∈ TB := tb3 38 rfl rfl
theorem k_X8_74 : Cond.methodLink RX8 74 yJ0_charAt_5068e ∈ TB := tb3 44 rfl rfl
theorem k_J0_492 : Cond.methodLink RJ0 492 yJ0_isLatin1_aae02 ∈ TB := tb3 48 rfl rfl
theorem k_J0_495 : Cond.methodLink RJ0 495 yJ1_charAt_3b067 ∈ TB := tb3 52 rfl rfl
theorem k_J1_9 : Cond.methodLink RJ1 9 yJ0_checkIndex_df160 ∈ TB := tb3 55 rfl rfl
theorem k_J0_1059 : Cond.methodLink RJ0 1059 yJ3_checkIndex_8e157 ∈ TB := tb3 60 rfl rfl
theorem k_J0_498 : Cond.methodLink RJ0 498 yJ2_charAt_3b067 ∈ TB := tb3 63 rfl rfl
theorem k_J2_67 : Cond.methodLink RJ2 67 yJ2_checkIndex_2214a ∈ TB := tb3 66 rfl rfl
theorem k_J2_48 : Cond.methodLink RJ2 48 yJ2_length_9d52b ∈ TB := tb3 69 rfl rfl
theorem k_J2_414 : Cond.methodLink RJ2 414 yJ0_checkIndex_df160 ∈ TB := tb3 72 rfl rfl
theorem k_J2_71 : Cond.methodLink RJ2 71 yJ2_getChar_3b067 ∈ TB := tb3 73 rfl rfl
theorem k_X8_78 : Cond.methodLink RX8 78 yX5_at ∈ TB := tb3 82 rfl rfl
theorem k_X8_55 : Cond.methodLink RX8 55 yX8_keep ∈ TB := tb3 86 rfl rfl
theorem k_X8_59 : Cond.methodLink RX8 59 yX5_add ∈ TB := tb3 90 rfl rfl
theorem k_X8_42 : Cond.methodLink RX8 42 yX8_isDigit ∈ TB := tb3 91 rfl rfl
theorem k_X8_45 : Cond.methodLink RX8 45 yX8_takeNumber ∈ TB := tb3 94 rfl rfl
theorem k_X8_48 : Cond.methodLink RX8 48 yX8_isBlank ∈ TB := tb3 98 rfl rfl
theorem k_X8_51 : Cond.methodLink RX8 51 yX8_kindOfSign ∈ TB := tb3 101 rfl rfl
theorem k_X4_56 : Cond.methodLink RX4 56 yX5_at ∈ TB := tb3 104 rfl rfl
theorem n_X4_60 : Cond.methodLinkNest RX4 60 yX11_within "BeamPlate" ∈ lw_tbl := List.mem_append_right _ (List.mem_append_right _ (List.mem_append_right _ (List.mem_append_left _ (List.mem_of_getElem? (i := 105) rfl))))
theorem k_X4_64 : Cond.methodLink RX4 64 yX4_readStep ∈ TB := tb3 106 rfl rfl
theorem k_X4_74 : Cond.methodLink RX4 74 yX4_fail ∈ TB := tb3 110 rfl rfl
theorem k_X4_83 : Cond.methodLink RX4 83 yX5_add ∈ TB := tb3 114 rfl rfl
theorem k_X4_80 : Cond.methodLink RX4 80 yX4_advance ∈ TB := tb3 115 rfl rfl
theorem k_X4_86 : Cond.methodLink RX4 86 yX4_readNumber ∈ TB := tb3 119 rfl rfl
theorem k_X4_90 : Cond.methodLink RX4 90 yX4_readSide ∈ TB := tb3 123 rfl rfl
theorem k_X4_93 : Cond.methodLink RX4 93 yX4_openAgain ∈ TB := tb3 127 rfl rfl
theorem k_X4_108 : Cond.methodLink RX4 108 yX4_expect ∈ TB := tb3 131 rfl rfl
theorem k_X4_96 : Cond.methodLink RX4 96 yX4_openIf ∈ TB := tb3 135 rfl rfl
theorem k_X4_117 : Cond.methodLink RX4 117 yX4_readSum ∈ TB := tb3 139 rfl rfl
theorem k_X4_120 : Cond.methodLink RX4 120 yX4_readTerm ∈ TB := tb3 143 rfl rfl
theorem k_X4_102 : Cond.methodLink RX4 102 yX5_put ∈ TB := tb3 147 rfl rfl
theorem k_X4_99 : Cond.methodLink RX4 99 yX4_closeStep ∈ TB := tb3 151 rfl rfl
theorem k_X4_67 : Cond.methodLink RX4 67 yX4_innermost ∈ TB := tb3 155 rfl rfl
theorem k_X4_105 : Cond.methodLink RX4 105 yX4_dropInnermost ∈ TB := tb3 159 rfl rfl
theorem k_X4_111 : Cond.methodLink RX4 111 Lib.Math.max.name ∈ TB := tb3 163 rfl rfl
theorem k_X4_71 : Cond.methodLink RX4 71 yX4_closeAgain ∈ TB := tb3 164 rfl rfl
theorem k_X11_120 : Cond.methodLink RX11 120 yX5_copyFrom ∈ TB := tb3 168 rfl rfl
theorem k_X5_29 : Cond.methodLink RX5 29 Lib.Math.min.name ∈ TB := tb3 172 rfl rfl
theorem k_X5_32 : Cond.methodLink RX5 32 arraycopyName ∈ TB := tb3 173 rfl rfl
theorem ka_byte : Cond.arrayClass .byte ∈ TB := tb3 176 rfl rfl
theorem k_L_46 : Cond.methodLink RL 46 yX11_fault ∈ TB := tb3 177 rfl rfl
theorem k_L_51 : Cond.methodLink RL 51 yX11_run ∈ TB := tb3 181 rfl rfl
theorem k_X11_124 : Cond.methodLink RX11 124 yX3_isLaid ∈ TB := tb3 185 rfl rfl
theorem k_X11_128 : Cond.methodLink RX11 128 yX6_perform ∈ TB := tb3 189 rfl rfl
theorem k_X6_27 : Cond.constant RX6 27 (200000) ∈ TB := tb3 193 rfl rfl
theorem k_X6_33 : Cond.methodLink RX6 33 yX5_at ∈ TB := tb3 194 rfl rfl
theorem k_X6_39 : Cond.methodLink RX6 39 yX3_moveHead ∈ TB := tb3 195 rfl rfl
theorem k_X3_107 : Cond.methodLink RX3 107 yX3_has ∈ TB := tb3 199 rfl rfl
theorem k_X3_111 : Cond.methodLink RX3 111 yX3_index ∈ TB := tb3 203 rfl rfl
theorem k_X3_114 : Cond.methodLink RX3 114 yX3_isThere ∈ TB := tb3 207 rfl rfl
theorem k_X6_43 : Cond.methodLink RX6 43 yX6_travel ∈ TB := tb3 211 rfl rfl
theorem n_X6_91 : Cond.methodLinkNest RX6 91 yX11_stepX "BeamPlate" ∈ lw_tbl := List.mem_append_right _ (List.mem_append_right _ (List.mem_append_right _ (List.mem_append_left _ (List.mem_of_getElem? (i := 215) rfl))))
theorem n_X6_97 : Cond.methodLinkNest RX6 97 yX11_stepY "BeamPlate" ∈ lw_tbl := List.mem_append_right _ (List.mem_append_right _ (List.mem_append_right _ (List.mem_append_left _ (List.mem_of_getElem? (i := 218) rfl))))
theorem k_X6_100 : Cond.methodLink RX6 100 yX3_tick ∈ TB := tb3 221 rfl rfl
theorem n_X3_121 : Cond.methodLinkNest RX3 121 yX11_within "BeamPlate" ∈ lw_tbl := List.mem_append_right _ (List.mem_append_right _ (List.mem_append_right _ (List.mem_append_left _ (List.mem_of_getElem? (i := 225) rfl))))
theorem k_X3_134 : Cond.methodLink RX3 134 yX3_giveHeat ∈ TB := tb3 226 rfl rfl
theorem k_X3_169 : Cond.methodLink RX3 169 yX3_headPlace ∈ TB := tb3 230 rfl rfl
theorem k_X3_173 : Cond.constant RX3 173 (99999999) ∈ TB := tb3 234 rfl rfl
theorem k_X3_174 : Cond.methodLink RX3 174 Lib.Math.max.name ∈ TB := tb3 235 rfl rfl
theorem k_X3_141 : Cond.methodLink RX3 141 yX3_leadHeat ∈ TB := tb3 236 rfl rfl
theorem k_X3_177 : Cond.methodLink RX3 177 yX3_leadBetween ∈ TB := tb4 0 rfl rfl
theorem k_X3_147 : Cond.methodLink RX3 147 yX3_loseHeat ∈ TB := tb4 4 rfl rfl
theorem k_X3_156 : Cond.methodLink RX3 156 yX3_cutMolten ∈ TB := tb4 8 rfl rfl
theorem k_X3_181 : Cond.methodLink RX3 181 yX3_takeAway ∈ TB := tb4 12 rfl rfl
theorem k_X3_162 : Cond.methodLink RX3 162 yX3_burnHot ∈ TB := tb4 16 rfl rfl
theorem k_X3_165 : Cond.methodLink RX3 165 yX3_loosenParts ∈ TB := tb4 20 rfl rfl
theorem k_X3_185 : Cond.methodLink RX3 185 yX2_forgetSeen ∈ TB := tb4 24 rfl rfl
theorem k_X2_29 : Cond.methodLink RX2 29 yJ7_fill_53178 ∈ TB := tb4 28 rfl rfl
theorem k_X3_188 : Cond.methodLink RX3 188 yX2_gather ∈ TB := tb4 29 rfl rfl
theorem k_X2_38 : Cond.methodLink RX2 38 yX2_take ∈ TB := tb4 33 rfl rfl
theorem k_X2_42 : Cond.methodLink RX2 42 yX3_isBorder ∈ TB := tb4 37 rfl rfl
theorem k_X3_195 : Cond.methodLink RX3 195 yX3_settlePart ∈ TB := tb4 41 rfl rfl
theorem k_X3_204 : Cond.methodLink RX3 204 yX10_hasSlatAt ∈ TB := tb4 45 rfl rfl
theorem k_X6_47 : Cond.methodLink RX6 47 yX6_stay ∈ TB := tb4 49 rfl rfl
theorem k_X6_60 : Cond.methodLink RX6 60 yX6_setTurns ∈ TB := tb4 53 rfl rfl
theorem n_X6_82 : Cond.methodLinkNest RX6 82 yX11_within "BeamPlate" ∈ lw_tbl := List.mem_append_right _ (List.mem_append_right _ (List.mem_append_right _ (List.mem_append_right _ (List.mem_append_left _ (List.mem_of_getElem? (i := 57) rfl)))))
theorem k_X6_64 : Cond.methodLink RX6 64 yX6_turns ∈ TB := tb4 58 rfl rfl
theorem k_X6_67 : Cond.methodLink RX6 67 yX6_isSo ∈ TB := tb4 62 rfl rfl
theorem k_X6_104 : Cond.methodLink RX6 104 yX6_sum ∈ TB := tb4 66 rfl rfl
theorem k_X6_108 : Cond.methodLink RX6 108 Lib.Math.abs.name ∈ TB := tb4 70 rfl rfl
theorem k_X6_113 : Cond.methodLink RX6 113 yX6_valueOf ∈ TB := tb4 73 rfl rfl
theorem k_X6_117 : Cond.methodLink RX6 117 yX3_headPlace ∈ TB := tb4 77 rfl rfl
theorem k_X6_121 : Cond.methodLink RX6 121 yX3_isThere ∈ TB := tb4 78 rfl rfl
theorem k_X6_71 : Cond.methodLink RX6 71 yX6_stepOfIf ∈ TB := tb4 79 rfl rfl
theorem k_L_55 : Cond.methodLink RL 55 yX11_cell ∈ TB := tb4 82 rfl rfl
theorem k_X11_132 : Cond.methodLink RX11 132 yX3_has ∈ TB := tb4 86 rfl rfl
theorem k_X11_136 : Cond.methodLink RX11 136 yX3_index ∈ TB := tb4 87 rfl rfl
theorem k_X11_144 : Cond.methodLink RX11 144 yX3_condition ∈ TB := tb4 88 rfl rfl
theorem k_X11_151 : Cond.methodLink RX11 151 yX3_partAt ∈ TB := tb4 92 rfl rfl
theorem k_X11_161 : Cond.methodLink RX11 161 yX3_isThere ∈ TB := tb4 96 rfl rfl
theorem k_X11_165 : Cond.methodLink RX11 165 yX3_bridge ∈ TB := tb4 97 rfl rfl
theorem k_X3_210 : Cond.methodLink RX3 210 yX3_partAt ∈ TB := tb4 101 rfl rfl
theorem k_X3_214 : Cond.methodLink RX3 214 yX3_spreadCosts ∈ TB := tb4 102 rfl rfl
theorem n_X3_224 : Cond.methodLinkNest RX3 224 yX11_stepX "BeamPlate" ∈ lw_tbl := List.mem_append_right _ (List.mem_append_right _ (List.mem_append_right _ (List.mem_append_right _ (List.mem_append_left _ (List.mem_of_getElem? (i := 106) rfl)))))
theorem n_X3_228 : Cond.methodLinkNest RX3 228 yX11_stepY "BeamPlate" ∈ lw_tbl := List.mem_append_right _ (List.mem_append_right _ (List.mem_append_right _ (List.mem_append_right _ (List.mem_append_left _ (List.mem_of_getElem? (i := 107) rfl)))))
theorem k_X3_221 : Cond.methodLink RX3 221 yX3_costAt ∈ TB := tb4 108 rfl rfl
theorem k_X3_218 : Cond.methodLink RX3 218 yX3_isBorder ∈ TB := tb4 112 rfl rfl
theorem k_L_60 : Cond.methodLink RL 60 yX11_look ∈ TB := tb4 113 rfl rfl
theorem k_X11_192 : Cond.methodLink RX11 192 yX3_countState ∈ TB := tb4 117 rfl rfl
theorem k_X11_195 : Cond.methodLink RX11 195 yX3_countTipped ∈ TB := tb4 121 rfl rfl
theorem k_X11_199 : Cond.methodLink RX11 199 yX3_countBurntThere ∈ TB := tb4 125 rfl rfl
theorem k_X11_202 : Cond.methodLink RX11 202 yX3_countParts ∈ TB := tb4 129 rfl rfl
theorem k_L_64 : Cond.methodLink RL 64 yX11_heat ∈ TB := tb4 133 rfl rfl
theorem k_X11_213 : Cond.methodLink RX11 213 yX3_heatInAll ∈ TB := tb4 137 rfl rfl
theorem k_X11_223 : Cond.constantLong RX11 223 (-1) ∈ TB := tb4 141 rfl rfl
theorem k_L_69 : Cond.methodLink RL 69 yX11_order ∈ TB := tb4 142 rfl rfl
theorem k_X11_225 : Cond.methodLink RX11 225 yJ6_bitCount_0f7a4 ∈ TB := tb4 146 rfl rfl
theorem k_J6_265 : Cond.constant RJ6 265 (1431655765) ∈ TB := tb4 149 rfl rfl
theorem k_J6_266 : Cond.constant RJ6 266 (858993459) ∈ TB := tb4 150 rfl rfl
theorem k_J6_267 : Cond.constant RJ6 267 (252645135) ∈ TB := tb4 151 rfl rfl
theorem k_X11_230 : Cond.methodLink RX11 230 yX9_seekOrder ∈ TB := tb4 152 rfl rfl
theorem k_X9_48 : Cond.methodLink RX9 48 yX9_choose ∈ TB := tb4 156 rfl rfl
theorem k_X9_55 : Cond.methodLink RX9 55 yX9_ordersJust ∈ TB := tb4 162 rfl rfl
theorem k_X9_59 : Cond.methodLink RX9 59 yX3_copyFrom ∈ TB := tb4 165 rfl rfl
theorem k_X3_91 : Cond.methodLink RX3 91 yX1_copyFrom ∈ TB := tb4 169 rfl rfl
theorem k_X3_95 : Cond.methodLink RX3 95 arraycopyName ∈ TB := tb4 173 rfl rfl
theorem k_X9_63 : Cond.methodLink RX9 63 yX10_programOf ∈ TB := tb4 174 rfl rfl
theorem k_X9_69 : Cond.methodLink RX9 69 yX6_perform ∈ TB := tb4 175 rfl rfl
theorem k_X9_73 : Cond.methodLink RX9 73 yX3_countBurntThere ∈ TB := tb4 176 rfl rfl
theorem k_X9_80 : Cond.methodLink RX9 80 yX9_keepIfBetter ∈ TB := tb4 177 rfl rfl
theorem k_L_74 : Cond.methodLink RL 74 yX11_speed ∈ TB := tb4 181 rfl rfl
theorem k_X11_243 : Cond.methodLink RX11 243 yX9_leastSpeed ∈ TB := tb4 185 rfl rfl
theorem n_X9_93 : Cond.methodLinkNest RX9 93 yX11_stepX "BeamPlate" ∈ lw_tbl := List.mem_append_right _ (List.mem_append_right _ (List.mem_append_right _ (List.mem_append_right _ (List.mem_append_left _ (List.mem_of_getElem? (i := 189) rfl)))))
theorem n_X9_99 : Cond.methodLinkNest RX9 99 yX11_stepY "BeamPlate" ∈ lw_tbl := List.mem_append_right _ (List.mem_append_right _ (List.mem_append_right _ (List.mem_append_right _ (List.mem_append_left _ (List.mem_of_getElem? (i := 190) rfl)))))
theorem k_X9_102 : Cond.methodLink RX9 102 yX3_has ∈ TB := tb4 191 rfl rfl
theorem k_X9_110 : Cond.methodLink RX9 110 yX5_add ∈ TB := tb4 192 rfl rfl
theorem k_X9_116 : Cond.methodLink RX9 116 yX9_noneIsThereBehind ∈ TB := tb4 193 rfl rfl
theorem k_X9_119 : Cond.methodLink RX9 119 yX3_index ∈ TB := tb4 197 rfl rfl
theorem k_X9_123 : Cond.methodLink RX9 123 yX3_isThere ∈ TB := tb4 198 rfl rfl
theorem k_L_78 : Cond.methodLink RL 78 yX11_kind ∈ TB := tb4 199 rfl rfl
theorem k_X11_247 : Cond.methodLink RX11 247 yX0_addKind ∈ TB := tb4 203 rfl rfl
theorem n_X0_28 : Cond.methodLinkNest RX0 28 yX11_within "BeamPlate" ∈ lw_tbl := List.mem_append_right _ (List.mem_append_right _ (List.mem_append_right _ (List.mem_append_right _ (List.mem_append_left _ (List.mem_of_getElem? (i := 207) rfl)))))
theorem k_X0_32 : Cond.methodLink RX0 32 yX0_fillAll ∈ TB := tb4 208 rfl rfl
theorem k_X0_35 : Cond.methodLink RX0 35 yX0_bestKind ∈ TB := tb4 212 rfl rfl
theorem k_X0_42 : Cond.methodLink RX0 42 Lib.Math.max.name ∈ TB := tb4 216 rfl rfl
theorem k_X0_39 : Cond.methodLink RX0 39 yX0_bestCut ∈ TB := tb4 217 rfl rfl
theorem k_L_82 : Cond.methodLink RL 82 yX11_fill ∈ TB := tb4 221 rfl rfl
theorem k_X11_251 : Cond.methodLink RX11 251 yX0_greatestWorth ∈ TB := tb4 225 rfl rfl
theorem k_L_86 : Cond.methodLink RL 86 yX11_test ∈ TB := tb4 229 rfl rfl
theorem k_X11_254 : Cond.methodLink RX11 254 yX7_tell ∈ TB := tb4 233 rfl rfl
theorem n_X7_32 : Cond.methodLinkNest RX7 32 yX11_within "BeamPlate" ∈ lw_tbl := List.mem_append_right _ (List.mem_append_right _ (List.mem_append_right _ (List.mem_append_right _ (List.mem_append_left _ (List.mem_of_getElem? (i := 237) rfl)))))
theorem k_L_91 : Cond.methodLink RL 91 yX11_known ∈ TB := tb4 238 rfl rfl
theorem k_X11_258 : Cond.methodLink RX11 258 yX7_leastMelt ∈ TB := tb5 2 rfl rfl
theorem k_X7_36 : Cond.methodLink RX7 36 Lib.Math.max.name ∈ TB := tb5 6 rfl rfl
theorem k_X11_261 : Cond.methodLink RX11 261 yX7_greatestMelt ∈ TB := tb5 7 rfl rfl
theorem k_X7_42 : Cond.methodLink RX7 42 Lib.Math.min.name ∈ TB := tb5 11 rfl rfl
theorem k_L_95 : Cond.methodLink RL 95 yX11_sparks ∈ TB := tb5 12 rfl rfl
theorem k_L_100 : Cond.methodLink RL 100 yX11_lost ∈ TB := tb5 16 rfl rfl
theorem k_X11_264 : Cond.methodLink RX11 264 yX5_firstRunBelow ∈ TB := tb5 20 rfl rfl
theorem k_L_10 : Cond.classLink RL 10 RX12 ∈ TB := tb5 24 rfl rfl
theorem ki_X12 : Cond.instantiable RX12 74 ∈ TB := tb5 25 rfl rfl
theorem k_L_12 : Cond.methodLink RL 12 yX12_init ∈ TB := tb5 26 rfl rfl
theorem k_X12_1 : Cond.methodLink RX12 1 objectInit ∈ TB := tb5 29 rfl rfl
theorem k_X12_167 : Cond.fieldLink RX12 167 (TX12 0).1 (TX12 0).2.1 (TX12 0).2.2.1 ∈ TB := tb5 30 rfl rfl
theorem k_X12_7 : Cond.fieldLink RX12 7 (TX12 1).1 (TX12 1).2.1 (TX12 1).2.2.1 ∈ TB := tb5 31 rfl rfl
theorem k_X12_13 : Cond.fieldLink RX12 13 (TX12 2).1 (TX12 2).2.1 (TX12 2).2.2.1 ∈ TB := tb5 32 rfl rfl
theorem k_X12_16 : Cond.fieldLink RX12 16 (TX12 3).1 (TX12 3).2.1 (TX12 3).2.2.1 ∈ TB := tb5 33 rfl rfl
theorem k_X12_19 : Cond.fieldLink RX12 19 (TX12 4).1 (TX12 4).2.1 (TX12 4).2.2.1 ∈ TB := tb5 34 rfl rfl
theorem k_X12_174 : Cond.fieldLink RX12 174 (TX12 5).1 (TX12 5).2.1 (TX12 5).2.2.1 ∈ TB := tb5 35 rfl rfl
theorem k_X12_177 : Cond.fieldLink RX12 177 (TX12 6).1 (TX12 6).2.1 (TX12 6).2.2.1 ∈ TB := tb5 36 rfl rfl
theorem k_X12_180 : Cond.fieldLink RX12 180 (TX12 7).1 (TX12 7).2.1 (TX12 7).2.2.1 ∈ TB := tb5 37 rfl rfl
theorem k_X12_183 : Cond.fieldLink RX12 183 (TX12 8).1 (TX12 8).2.1 (TX12 8).2.2.1 ∈ TB := tb5 38 rfl rfl
theorem k_X12_186 : Cond.fieldLink RX12 186 (TX12 9).1 (TX12 9).2.1 (TX12 9).2.2.1 ∈ TB := tb5 39 rfl rfl
theorem k_X12_22 : Cond.fieldLink RX12 22 (TX12 10).1 (TX12 10).2.1 (TX12 10).2.2.1 ∈ TB := tb5 40 rfl rfl
theorem k_X12_26 : Cond.fieldLink RX12 26 (TX12 11).1 (TX12 11).2.1 (TX12 11).2.2.1 ∈ TB := tb5 41 rfl rfl
theorem k_X12_30 : Cond.fieldLink RX12 30 (TX12 12).1 (TX12 12).2.1 (TX12 12).2.2.1 ∈ TB := tb5 42 rfl rfl
theorem k_X12_33 : Cond.fieldLink RX12 33 (TX12 13).1 (TX12 13).2.1 (TX12 13).2.2.1 ∈ TB := tb5 43 rfl rfl
theorem k_X12_36 : Cond.fieldLink RX12 36 (TX12 14).1 (TX12 14).2.1 (TX12 14).2.2.1 ∈ TB := tb5 44 rfl rfl
theorem k_X12_39 : Cond.fieldLink RX12 39 (TX12 15).1 (TX12 15).2.1 (TX12 15).2.2.1 ∈ TB := tb5 45 rfl rfl
theorem k_X12_42 : Cond.fieldLink RX12 42 (TX12 16).1 (TX12 16).2.1 (TX12 16).2.2.1 ∈ TB := tb5 46 rfl rfl
theorem k_X12_46 : Cond.fieldLink RX12 46 (TX12 17).1 (TX12 17).2.1 (TX12 17).2.2.1 ∈ TB := tb5 47 rfl rfl
theorem k_X12_49 : Cond.fieldLink RX12 49 (TX12 18).1 (TX12 18).2.1 (TX12 18).2.2.1 ∈ TB := tb5 48 rfl rfl
theorem k_X12_52 : Cond.fieldLink RX12 52 (TX12 19).1 (TX12 19).2.1 (TX12 19).2.2.1 ∈ TB := tb5 49 rfl rfl
theorem k_X12_55 : Cond.fieldLink RX12 55 (TX12 20).1 (TX12 20).2.1 (TX12 20).2.2.1 ∈ TB := tb5 50 rfl rfl
theorem k_X12_58 : Cond.fieldLink RX12 58 (TX12 21).1 (TX12 21).2.1 (TX12 21).2.2.1 ∈ TB := tb5 51 rfl rfl
theorem k_X12_61 : Cond.fieldLink RX12 61 (TX12 22).1 (TX12 22).2.1 (TX12 22).2.2.1 ∈ TB := tb5 52 rfl rfl
theorem k_X12_64 : Cond.fieldLink RX12 64 (TX12 23).1 (TX12 23).2.1 (TX12 23).2.2.1 ∈ TB := tb5 53 rfl rfl
theorem k_X12_67 : Cond.fieldLink RX12 67 (TX12 24).1 (TX12 24).2.1 (TX12 24).2.2.1 ∈ TB := tb5 54 rfl rfl
theorem k_X12_70 : Cond.fieldLink RX12 70 (TX12 25).1 (TX12 25).2.1 (TX12 25).2.2.1 ∈ TB := tb5 55 rfl rfl
theorem k_X12_74 : Cond.fieldLink RX12 74 (TX12 26).1 (TX12 26).2.1 (TX12 26).2.2.1 ∈ TB := tb5 56 rfl rfl
theorem k_X12_77 : Cond.fieldLink RX12 77 (TX12 27).1 (TX12 27).2.1 (TX12 27).2.2.1 ∈ TB := tb5 57 rfl rfl
theorem k_X12_80 : Cond.fieldLink RX12 80 (TX12 28).1 (TX12 28).2.1 (TX12 28).2.2.1 ∈ TB := tb5 58 rfl rfl
theorem k_X12_83 : Cond.fieldLink RX12 83 (TX12 29).1 (TX12 29).2.1 (TX12 29).2.2.1 ∈ TB := tb5 59 rfl rfl
theorem k_X12_226 : Cond.fieldLink RX12 226 (TX12 30).1 (TX12 30).2.1 (TX12 30).2.2.1 ∈ TB := tb5 60 rfl rfl
theorem k_X12_86 : Cond.fieldLink RX12 86 (TX12 31).1 (TX12 31).2.1 (TX12 31).2.2.1 ∈ TB := tb5 61 rfl rfl
theorem k_X12_89 : Cond.fieldLink RX12 89 (TX12 32).1 (TX12 32).2.1 (TX12 32).2.2.1 ∈ TB := tb5 62 rfl rfl
theorem k_X12_92 : Cond.fieldLink RX12 92 (TX12 33).1 (TX12 33).2.1 (TX12 33).2.2.1 ∈ TB := tb5 63 rfl rfl
theorem k_X12_95 : Cond.fieldLink RX12 95 (TX12 34).1 (TX12 34).2.1 (TX12 34).2.2.1 ∈ TB := tb5 64 rfl rfl
theorem k_X12_239 : Cond.fieldLink RX12 239 (TX12 35).1 (TX12 35).2.1 (TX12 35).2.2.1 ∈ TB := tb5 65 rfl rfl
theorem k_X12_245 : Cond.fieldLink RX12 245 (TX12 36).1 (TX12 36).2.1 (TX12 36).2.2.1 ∈ TB := tb5 66 rfl rfl
theorem k_X12_251 : Cond.fieldLink RX12 251 (TX12 37).1 (TX12 37).2.1 (TX12 37).2.2.1 ∈ TB := tb5 67 rfl rfl
theorem k_X12_254 : Cond.fieldLink RX12 254 (TX12 38).1 (TX12 38).2.1 (TX12 38).2.2.1 ∈ TB := tb5 68 rfl rfl
theorem k_X12_257 : Cond.fieldLink RX12 257 (TX12 39).1 (TX12 39).2.1 (TX12 39).2.2.1 ∈ TB := tb5 69 rfl rfl
theorem k_X12_98 : Cond.fieldLink RX12 98 (TX12 40).1 (TX12 40).2.1 (TX12 40).2.2.1 ∈ TB := tb5 70 rfl rfl
theorem k_X12_101 : Cond.fieldLink RX12 101 (TX12 41).1 (TX12 41).2.1 (TX12 41).2.2.1 ∈ TB := tb5 71 rfl rfl
theorem k_X12_104 : Cond.fieldLink RX12 104 (TX12 42).1 (TX12 42).2.1 (TX12 42).2.2.1 ∈ TB := tb5 72 rfl rfl
theorem k_X12_107 : Cond.fieldLink RX12 107 (TX12 43).1 (TX12 43).2.1 (TX12 43).2.2.1 ∈ TB := tb5 73 rfl rfl
theorem k_X12_110 : Cond.fieldLink RX12 110 (TX12 44).1 (TX12 44).2.1 (TX12 44).2.2.1 ∈ TB := tb5 74 rfl rfl
theorem k_X12_113 : Cond.fieldLink RX12 113 (TX12 45).1 (TX12 45).2.1 (TX12 45).2.2.1 ∈ TB := tb5 75 rfl rfl
theorem k_X12_116 : Cond.fieldLink RX12 116 (TX12 46).1 (TX12 46).2.1 (TX12 46).2.2.1 ∈ TB := tb5 76 rfl rfl
theorem k_X12_119 : Cond.fieldLink RX12 119 (TX12 47).1 (TX12 47).2.1 (TX12 47).2.2.1 ∈ TB := tb5 77 rfl rfl
theorem k_X12_122 : Cond.fieldLink RX12 122 (TX12 48).1 (TX12 48).2.1 (TX12 48).2.2.1 ∈ TB := tb5 78 rfl rfl
theorem k_X12_125 : Cond.fieldLink RX12 125 (TX12 49).1 (TX12 49).2.1 (TX12 49).2.2.1 ∈ TB := tb5 79 rfl rfl
theorem k_X12_128 : Cond.fieldLink RX12 128 (TX12 50).1 (TX12 50).2.1 (TX12 50).2.2.1 ∈ TB := tb5 80 rfl rfl
theorem k_X12_285 : Cond.fieldLink RX12 285 (TX12 51).1 (TX12 51).2.1 (TX12 51).2.2.1 ∈ TB := tb5 81 rfl rfl
theorem k_X12_131 : Cond.fieldLink RX12 131 (TX12 52).1 (TX12 52).2.1 (TX12 52).2.2.1 ∈ TB := tb5 82 rfl rfl
theorem k_X12_294 : Cond.fieldLink RX12 294 (TX12 53).1 (TX12 53).2.1 (TX12 53).2.2.1 ∈ TB := tb5 83 rfl rfl
theorem k_X12_273 : Cond.fieldLink RX12 273 (TX12 54).1 (TX12 54).2.1 (TX12 54).2.2.1 ∈ TB := tb5 84 rfl rfl
theorem k_X12_276 : Cond.fieldLink RX12 276 (TX12 55).1 (TX12 55).2.1 (TX12 55).2.2.1 ∈ TB := tb5 85 rfl rfl
theorem k_X12_329 : Cond.fieldLink RX12 329 (TX12 56).1 (TX12 56).2.1 (TX12 56).2.2.1 ∈ TB := tb5 86 rfl rfl
theorem k_X12_134 : Cond.fieldLink RX12 134 (TX12 57).1 (TX12 57).2.1 (TX12 57).2.2.1 ∈ TB := tb5 87 rfl rfl
theorem k_X12_335 : Cond.fieldLink RX12 335 (TX12 58).1 (TX12 58).2.1 (TX12 58).2.2.1 ∈ TB := tb5 88 rfl rfl
theorem k_X12_338 : Cond.fieldLink RX12 338 (TX12 59).1 (TX12 59).2.1 (TX12 59).2.2.1 ∈ TB := tb5 89 rfl rfl
theorem k_X12_347 : Cond.fieldLink RX12 347 (TX12 60).1 (TX12 60).2.1 (TX12 60).2.2.1 ∈ TB := tb5 90 rfl rfl
theorem k_X12_137 : Cond.fieldLink RX12 137 (TX12 61).1 (TX12 61).2.1 (TX12 61).2.2.1 ∈ TB := tb5 91 rfl rfl
theorem k_X12_395 : Cond.fieldLink RX12 395 (TX12 62).1 (TX12 62).2.1 (TX12 62).2.2.1 ∈ TB := tb5 92 rfl rfl
theorem k_X12_140 : Cond.fieldLink RX12 140 (TX12 63).1 (TX12 63).2.1 (TX12 63).2.2.1 ∈ TB := tb5 93 rfl rfl
theorem k_X12_143 : Cond.fieldLink RX12 143 (TX12 64).1 (TX12 64).2.1 (TX12 64).2.2.1 ∈ TB := tb5 94 rfl rfl
theorem k_X12_146 : Cond.fieldLink RX12 146 (TX12 65).1 (TX12 65).2.1 (TX12 65).2.2.1 ∈ TB := tb5 95 rfl rfl
theorem k_X12_149 : Cond.fieldLink RX12 149 (TX12 66).1 (TX12 66).2.1 (TX12 66).2.2.1 ∈ TB := tb5 96 rfl rfl
theorem k_X12_401 : Cond.fieldLink RX12 401 (TX12 67).1 (TX12 67).2.1 (TX12 67).2.2.1 ∈ TB := tb5 97 rfl rfl
theorem k_X12_152 : Cond.fieldLink RX12 152 (TX12 68).1 (TX12 68).2.1 (TX12 68).2.2.1 ∈ TB := tb5 98 rfl rfl
theorem k_X12_155 : Cond.fieldLink RX12 155 (TX12 69).1 (TX12 69).2.1 (TX12 69).2.2.1 ∈ TB := tb5 99 rfl rfl
theorem k_X12_158 : Cond.fieldLink RX12 158 (TX12 70).1 (TX12 70).2.1 (TX12 70).2.2.1 ∈ TB := tb5 100 rfl rfl
theorem k_X12_161 : Cond.fieldLink RX12 161 (TX12 71).1 (TX12 71).2.1 (TX12 71).2.2.1 ∈ TB := tb5 101 rfl rfl
theorem k_X12_164 : Cond.fieldLink RX12 164 (TX12 72).1 (TX12 72).2.1 (TX12 72).2.2.1 ∈ TB := tb5 102 rfl rfl
theorem k_X12_404 : Cond.fieldLink RX12 404 (TX12 73).1 (TX12 73).2.1 (TX12 73).2.2.1 ∈ TB := tb5 103 rfl rfl
theorem ka_long : Cond.arrayClass .long ∈ TB := tb6 13 rfl rfl
theorem k_L_17 : Cond.methodLink RL 17 yX12_stuff ∈ TB := tb6 14 rfl rfl
theorem k_X12_170 : Cond.methodLink RX12 170 yX12_isIn ∈ TB := tb6 18 rfl rfl
theorem k_L_22 : Cond.methodLink RL 22 yX12_plate ∈ TB := tb6 22 rfl rfl
theorem k_L_27 : Cond.methodLink RL 27 yX12_beam ∈ TB := tb6 26 rfl rfl
theorem k_L_32 : Cond.methodLink RL 32 yX12_pitch ∈ TB := tb6 30 rfl rfl
theorem k_L_37 : Cond.methodLink RL 37 yX12_feed ∈ TB := tb6 34 rfl rfl
theorem k_X12_242 : Cond.methodLink RX12 242 yX12_puts ∈ TB := tb6 38 rfl rfl
theorem k_L_41 : Cond.methodLink RL 41 yX12_end ∈ TB := tb6 42 rfl rfl
theorem k_L_45 : Cond.methodLink RL 45 yX12_way ∈ TB := tb6 46 rfl rfl
theorem k_X12_332 : Cond.methodLink RX12 332 yX12_readAll ∈ TB := tb6 50 rfl rfl
theorem k_X12_279 : Cond.methodLink RX12 279 yX12_reads ∈ TB := tb6 54 rfl rfl
theorem k_X12_248 : Cond.methodLink RX12 248 yX12_raw ∈ TB := tb6 58 rfl rfl
theorem k_X12_260 : Cond.methodLink RX12 260 yX12_isLetter ∈ TB := tb6 62 rfl rfl
theorem k_X12_263 : Cond.methodLink RX12 263 yX12_wordAt ∈ TB := tb6 66 rfl rfl
theorem k_X12_267 : Cond.methodLink RX12 267 yX12_isDigit ∈ TB := tb6 70 rfl rfl
theorem k_X12_270 : Cond.methodLink RX12 270 yX12_isMarkSign ∈ TB := tb6 74 rfl rfl
theorem k_X12_307 : Cond.methodLink RX12 307 yX12_isWord ∈ TB := tb6 78 rfl rfl
theorem k_X12_310 : Cond.methodLink RX12 310 yX12_isInAgain ∈ TB := tb6 82 rfl rfl
theorem k_X12_314 : Cond.methodLink RX12 314 yX12_closes ∈ TB := tb6 86 rfl rfl
theorem k_X12_301 : Cond.methodLink RX12 301 yX12_emits ∈ TB := tb6 90 rfl rfl
theorem k_X12_317 : Cond.methodLink RX12 317 yX12_ends ∈ TB := tb6 94 rfl rfl
theorem k_X12_291 : Cond.methodLink RX12 291 yX12_isSign ∈ TB := tb6 98 rfl rfl
theorem k_X12_282 : Cond.methodLink RX12 282 yX12_fails ∈ TB := tb6 102 rfl rfl
theorem k_X12_320 : Cond.methodLink RX12 320 yX12_readIf ∈ TB := tb6 106 rfl rfl
theorem k_X12_297 : Cond.methodLink RX12 297 yX12_readSum ∈ TB := tb6 110 rfl rfl
theorem k_X12_288 : Cond.methodLink RX12 288 yX12_readUnit ∈ TB := tb6 114 rfl rfl
theorem k_X12_323 : Cond.methodLink RX12 323 yX12_readAgain ∈ TB := tb6 118 rfl rfl
theorem k_X12_304 : Cond.methodLink RX12 304 yX12_readNumber ∈ TB := tb6 122 rfl rfl
theorem k_X12_326 : Cond.methodLink RX12 326 yX12_readPlain ∈ TB := tb6 126 rfl rfl
theorem k_L_50 : Cond.methodLink RL 50 yX12_fault ∈ TB := tb6 130 rfl rfl
theorem k_L_54 : Cond.methodLink RL 54 yX12_run ∈ TB := tb6 134 rfl rfl
theorem k_X12_372 : Cond.methodLink RX12 372 yX12_runs ∈ TB := tb6 138 rfl rfl
theorem k_X12_341 : Cond.methodLink RX12 341 yX12_pays ∈ TB := tb6 142 rfl rfl
theorem k_X12_365 : Cond.methodLink RX12 365 yX12_isSo ∈ TB := tb6 146 rfl rfl
theorem k_X12_359 : Cond.methodLink RX12 359 yX12_sumOf ∈ TB := tb6 150 rfl rfl
theorem k_X12_356 : Cond.methodLink RX12 356 yX12_askedOf ∈ TB := tb6 154 rfl rfl
theorem k_X12_200 : Cond.methodLink RX12 200 yX12_isThere ∈ TB := tb6 158 rfl rfl
theorem k_X12_189 : Cond.methodLink RX12 189 yX12_isOnPlate ∈ TB := tb6 162 rfl rfl
theorem k_X12_368 : Cond.methodLink RX12 368 yX12_doesPlain ∈ TB := tb6 166 rfl rfl
theorem k_X12_350 : Cond.methodLink RX12 350 yX12_comes ∈ TB := tb6 170 rfl rfl
theorem k_X12_362 : Cond.methodLink RX12 362 yX12_goes ∈ TB := tb6 174 rfl rfl
theorem k_X12_193 : Cond.methodLink RX12 193 yX12_stepX ∈ TB := tb6 178 rfl rfl
theorem k_X12_197 : Cond.methodLink RX12 197 yX12_stepY ∈ TB := tb6 182 rfl rfl
theorem k_X12_353 : Cond.methodLink RX12 353 yX12_waits ∈ TB := tb6 186 rfl rfl
theorem k_X12_344 : Cond.methodLink RX12 344 yX12_ticksOnce ∈ TB := tb6 190 rfl rfl
theorem k_X12_212 : Cond.methodLink RX12 212 yX12_gives ∈ TB := tb6 194 rfl rfl
theorem k_X12_203 : Cond.constant RX12 203 (99999999) ∈ TB := tb6 198 rfl rfl
theorem k_X12_216 : Cond.methodLink RX12 216 yX12_leads ∈ TB := tb6 199 rfl rfl
theorem k_X12_204 : Cond.methodLink RX12 204 yX12_flowFrom ∈ TB := tb6 203 rfl rfl
theorem k_X12_219 : Cond.methodLink RX12 219 yX12_cuts ∈ TB := tb6 207 rfl rfl
theorem k_X12_208 : Cond.methodLink RX12 208 yX12_goesAway ∈ TB := tb6 211 rfl rfl
theorem k_X12_223 : Cond.methodLink RX12 223 yX12_loosens ∈ TB := tb6 215 rfl rfl
theorem k_X12_233 : Cond.methodLink RX12 233 yX12_findsParts ∈ TB := tb6 219 rfl rfl
theorem k_X12_229 : Cond.methodLink RX12 229 yX12_spreads ∈ TB := tb6 223 rfl rfl
theorem k_X12_236 : Cond.methodLink RX12 236 yX12_lying ∈ TB := tb6 227 rfl rfl
theorem k_L_59 : Cond.methodLink RL 59 yX12_cell ∈ TB := tb6 231 rfl rfl
theorem k_X12_375 : Cond.methodLink RX12 375 yX12_bridgeOf ∈ TB := tb6 235 rfl rfl
theorem k_L_63 : Cond.methodLink RL 63 yX12_look ∈ TB := tb6 239 rfl rfl
theorem k_X12_378 : Cond.methodLink RX12 378 yX12_cellsAs ∈ TB := tb7 3 rfl rfl
theorem k_L_68 : Cond.methodLink RL 68 yX12_heat ∈ TB := tb7 7 rfl rfl
theorem k_X12_381 : Cond.constantLong RX12 381 (-1) ∈ TB := tb7 11 rfl rfl
theorem k_L_73 : Cond.methodLink RL 73 yX12_order ∈ TB := tb7 12 rfl rfl
theorem k_X12_383 : Cond.methodLink RX12 383 yX12_ones ∈ TB := tb7 16 rfl rfl
theorem k_X12_386 : Cond.methodLink RX12 386 yX12_isOrder ∈ TB := tb7 20 rfl rfl
theorem k_X12_389 : Cond.methodLink RX12 389 yX12_copies ∈ TB := tb7 24 rfl rfl
theorem k_L_77 : Cond.methodLink RL 77 yX12_speed ∈ TB := tb7 28 rfl rfl
theorem k_X12_392 : Cond.methodLink RX12 392 yX12_cutsThrough ∈ TB := tb7 32 rfl rfl
theorem k_L_81 : Cond.methodLink RL 81 yX12_kind ∈ TB := tb7 36 rfl rfl
theorem k_L_85 : Cond.methodLink RL 85 yX12_fill ∈ TB := tb7 40 rfl rfl
theorem k_X12_398 : Cond.methodLink RX12 398 yX12_mostOf ∈ TB := tb7 44 rfl rfl
theorem k_L_90 : Cond.methodLink RL 90 yX12_test ∈ TB := tb7 48 rfl rfl
theorem k_L_94 : Cond.methodLink RL 94 yX12_known ∈ TB := tb7 52 rfl rfl
theorem k_L_99 : Cond.methodLink RL 99 yX12_sparks ∈ TB := tb7 56 rfl rfl
theorem k_L_103 : Cond.methodLink RL 103 yX12_lost ∈ TB := tb7 60 rfl rfl
theorem mc_X0_init : m_mC yX0_init cX0_init 1 0 := ⟨tb2 113 rfl rfl, rfl, tb1 12 rfl rfl, tb2 114 rfl rfl, by decide +kernel, by decide +kernel, by decide +kernel⟩
theorem mi_X0_addKind : m_mI yX0_addKind cX0_addKind 4 ((some .int)) 3 := ⟨tb4 204 rfl rfl, tb4 205 rfl rfl, tb1 12 rfl rfl, tb4 206 rfl rfl, by decide +kernel, by decide +kernel, by decide +kernel⟩
theorem mi_X0_greatestWorth : m_mI yX0_greatestWorth cX0_greatestWorth 3 ((some .int)) 2 := ⟨tb4 226 rfl rfl, tb4 227 rfl rfl, tb1 12 rfl rfl, tb4 228 rfl rfl, by decide +kernel, by decide +kernel, by decide +kernel⟩
theorem mi_X0_fillAll : m_mI yX0_fillAll cX0_fillAll 3 (none) 0 := ⟨tb4 210 rfl rfl, tbS 39 rfl rfl, tb1 12 rfl rfl, tb4 211 rfl rfl, by decide +kernel, by decide +kernel, by decide +kernel⟩
theorem mi_X0_bestKind : m_mI yX0_bestKind cX0_bestKind 7 ((some .int)) 2 := ⟨tb4 214 rfl rfl, tbS 40 rfl rfl, tb1 12 rfl rfl, tb4 215 rfl rfl, by decide +kernel, by decide +kernel, by decide +kernel⟩
theorem mi_X0_bestCut : m_mI yX0_bestCut cX0_bestCut 5 ((some .int)) 2 := ⟨tb4 219 rfl rfl, tbS 41 rfl rfl, tb1 12 rfl rfl, tb4 220 rfl rfl, by decide +kernel, by decide +kernel, by decide +kernel⟩
theorem mc_X1_init : m_mC yX1_init cX1_init 1 0 := ⟨tb1 162 rfl rfl, rfl, tb1 8 rfl rfl, tb1 163 rfl rfl, by decide +kernel, by decide +kernel, by decide +kernel⟩
theorem mi_X1_renew : m_mI yX1_renew cX1_renew 1 (none) 0 := ⟨tb2 216 rfl rfl, tb2 217 rfl rfl, tb1 8 rfl rfl, tb2 218 rfl rfl, by decide +kernel, by decide +kernel, by decide +kernel⟩
theorem mi_X1_copyFrom : m_mI yX1_copyFrom cX1_copyFrom 2 (none) 1 := ⟨tb4 170 rfl rfl, tb4 171 rfl rfl, tb1 8 rfl rfl, tb4 172 rfl rfl, by decide +kernel, by decide +kernel, by decide +kernel⟩
theorem mc_X2_init : m_mC yX2_init cX2_init 1 0 := ⟨tb1 200 rfl rfl, rfl, tb1 9 rfl rfl, tb1 201 rfl rfl, by decide +kernel, by decide +kernel, by decide +kernel⟩
theorem mi_X2_forgetSeen : m_mI yX2_forgetSeen cX2_forgetSeen 1 (none) 0 := ⟨tb4 25 rfl rfl, tb4 26 rfl rfl, tb1 9 rfl rfl, tb4 27 rfl rfl, by decide +kernel, by decide +kernel, by decide +kernel⟩
theorem mi_X2_gather : m_mI yX2_gather cX2_gather 7 (none) 2 := ⟨tb4 30 rfl rfl, tb4 31 rfl rfl, tb1 9 rfl rfl, tb4 32 rfl rfl, by decide +kernel, by decide +kernel, by decide +kernel⟩
theorem mi_X2_take : m_mI yX2_take cX2_take 4 (none) 2 := ⟨tb4 35 rfl rfl, tbS 26 rfl rfl, tb1 9 rfl rfl, tb4 36 rfl rfl, by decide +kernel, by decide +kernel, by decide +kernel⟩
theorem mc_X3_init : m_mC yX3_init cX3_init 1 0 := ⟨tb1 156 rfl rfl, rfl, tb1 7 rfl rfl, tb1 157 rfl rfl, by decide +kernel, by decide +kernel, by decide +kernel⟩
theorem mi_X3_renew : m_mI yX3_renew cX3_renew 5 (none) 4 := ⟨tb2 209 rfl rfl, tb2 210 rfl rfl, tb1 7 rfl rfl, tb2 211 rfl rfl, by decide +kernel, by decide +kernel, by decide +kernel⟩
theorem mi_X3_copyFrom : m_mI yX3_copyFrom cX3_copyFrom 2 (none) 1 := ⟨tb4 166 rfl rfl, tb4 167 rfl rfl, tb1 7 rfl rfl, tb4 168 rfl rfl, by decide +kernel, by decide +kernel, by decide +kernel⟩
theorem mi_X3_isLaid : m_mI yX3_isLaid cX3_isLaid 1 ((some .boolean)) 0 := ⟨tb3 186 rfl rfl, tb3 187 rfl rfl, tb1 7 rfl rfl, tb3 188 rfl rfl, by decide +kernel, by decide +kernel, by decide +kernel⟩
theorem mi_X3_has : m_mI yX3_has cX3_has 3 ((some .boolean)) 2 := ⟨tb3 200 rfl rfl, tb3 201 rfl rfl, tb1 7 rfl rfl, tb3 202 rfl rfl, by decide +kernel, by decide +kernel, by decide +kernel⟩
theorem mi_X3_isBorder : m_mI yX3_isBorder cX3_isBorder 3 ((some .boolean)) 2 := ⟨tb4 38 rfl rfl, tb4 39 rfl rfl, tb1 7 rfl rfl, tb4 40 rfl rfl, by decide +kernel, by decide +kernel, by decide +kernel⟩
theorem mi_X3_index : m_mI yX3_index cX3_index 3 ((some .int)) 2 := ⟨tb3 204 rfl rfl, tb3 205 rfl rfl, tb1 7 rfl rfl, tb3 206 rfl rfl, by decide +kernel, by decide +kernel, by decide +kernel⟩
theorem mi_X3_headPlace : m_mI yX3_headPlace cX3_headPlace 1 ((some .int)) 0 := ⟨tb3 231 rfl rfl, tb3 232 rfl rfl, tb1 7 rfl rfl, tb3 233 rfl rfl, by decide +kernel, by decide +kernel, by decide +kernel⟩
theorem mi_X3_isThere : m_mI yX3_isThere cX3_isThere 2 ((some .boolean)) 1 := ⟨tb3 208 rfl rfl, tb3 209 rfl rfl, tb1 7 rfl rfl, tb3 210 rfl rfl, by decide +kernel, by decide +kernel, by decide +kernel⟩
theorem mi_X3_moveHead : m_mI yX3_moveHead cX3_moveHead 4 ((some .boolean)) 2 := ⟨tb3 196 rfl rfl, tb3 197 rfl rfl, tb1 7 rfl rfl, tb3 198 rfl rfl, by decide +kernel, by decide +kernel, by decide +kernel⟩
theorem mi_X3_tick : m_mI yX3_tick cX3_tick 3 (none) 1 := ⟨tb3 222 rfl rfl, tb3 223 rfl rfl, tb1 7 rfl rfl, tb3 224 rfl rfl, by decide +kernel, by decide +kernel, by decide +kernel⟩
theorem mi_X3_giveHeat : m_mI yX3_giveHeat cX3_giveHeat 5 (none) 1 := ⟨tb3 228 rfl rfl, tbS 18 rfl rfl, tb1 7 rfl rfl, tb3 229 rfl rfl, by decide +kernel, by decide +kernel, by decide +kernel⟩
theorem mi_X3_leadHeat : m_mI yX3_leadHeat cX3_leadHeat 5 (none) 1 := ⟨tb3 238 rfl rfl, tbS 19 rfl rfl, tb1 7 rfl rfl, tb3 239 rfl rfl, by decide +kernel, by decide +kernel, by decide +kernel⟩
theorem mi_X3_leadBetween : m_mI yX3_leadBetween cX3_leadBetween 5 (none) 3 := ⟨tb4 2 rfl rfl, tbS 20 rfl rfl, tb1 7 rfl rfl, tb4 3 rfl rfl, by decide +kernel, by decide +kernel, by decide +kernel⟩
theorem mi_X3_loseHeat : m_mI yX3_loseHeat cX3_loseHeat 4 (none) 1 := ⟨tb4 6 rfl rfl, tbS 21 rfl rfl, tb1 7 rfl rfl, tb4 7 rfl rfl, by decide +kernel, by decide +kernel, by decide +kernel⟩
theorem mi_X3_cutMolten : m_mI yX3_cutMolten cX3_cutMolten 4 ((some .boolean)) 1 := ⟨tb4 10 rfl rfl, tbS 22 rfl rfl, tb1 7 rfl rfl, tb4 11 rfl rfl, by decide +kernel, by decide +kernel, by decide +kernel⟩
theorem mi_X3_takeAway : m_mI yX3_takeAway cX3_takeAway 3 (none) 2 := ⟨tb4 14 rfl rfl, tbS 23 rfl rfl, tb1 7 rfl rfl, tb4 15 rfl rfl, by decide +kernel, by decide +kernel, by decide +kernel⟩
theorem mi_X3_burnHot : m_mI yX3_burnHot cX3_burnHot 3 (none) 1 := ⟨tb4 18 rfl rfl, tbS 24 rfl rfl, tb1 7 rfl rfl, tb4 19 rfl rfl, by decide +kernel, by decide +kernel, by decide +kernel⟩
theorem mi_X3_loosenParts : m_mI yX3_loosenParts cX3_loosenParts 3 (none) 1 := ⟨tb4 22 rfl rfl, tbS 25 rfl rfl, tb1 7 rfl rfl, tb4 23 rfl rfl, by decide +kernel, by decide +kernel, by decide +kernel⟩
theorem mi_X3_settlePart : m_mI yX3_settlePart cX3_settlePart 7 (none) 1 := ⟨tb4 43 rfl rfl, tbS 27 rfl rfl, tb1 7 rfl rfl, tb4 44 rfl rfl, by decide +kernel, by decide +kernel, by decide +kernel⟩
theorem mi_X3_condition : m_mI yX3_condition cX3_condition 2 ((some .int)) 1 := ⟨tb4 89 rfl rfl, tb4 90 rfl rfl, tb1 7 rfl rfl, tb4 91 rfl rfl, by decide +kernel, by decide +kernel, by decide +kernel⟩
theorem mi_X3_countState : m_mI yX3_countState cX3_countState 4 ((some .int)) 1 := ⟨tb4 118 rfl rfl, tb4 119 rfl rfl, tb1 7 rfl rfl, tb4 120 rfl rfl, by decide +kernel, by decide +kernel, by decide +kernel⟩
theorem mi_X3_countTipped : m_mI yX3_countTipped cX3_countTipped 3 ((some .int)) 0 := ⟨tb4 122 rfl rfl, tb4 123 rfl rfl, tb1 7 rfl rfl, tb4 124 rfl rfl, by decide +kernel, by decide +kernel, by decide +kernel⟩
theorem mi_X3_countBurntThere : m_mI yX3_countBurntThere cX3_countBurntThere 3 ((some .int)) 0 := ⟨tb4 126 rfl rfl, tb4 127 rfl rfl, tb1 7 rfl rfl, tb4 128 rfl rfl, by decide +kernel, by decide +kernel, by decide +kernel⟩
theorem mi_X3_countParts : m_mI yX3_countParts cX3_countParts 4 ((some .int)) 1 := ⟨tb4 130 rfl rfl, tb4 131 rfl rfl, tb1 7 rfl rfl, tb4 132 rfl rfl, by decide +kernel, by decide +kernel, by decide +kernel⟩
theorem mi_X3_partAt : m_mI yX3_partAt cX3_partAt 2 ((some (.object "BeamPlate$Part"))) 1 := ⟨tb4 93 rfl rfl, tb4 94 rfl rfl, tb1 7 rfl rfl, tb4 95 rfl rfl, by decide +kernel, by decide +kernel, by decide +kernel⟩
theorem mi_X3_bridge : m_mI yX3_bridge cX3_bridge 6 ((some .int)) 1 := ⟨tb4 98 rfl rfl, tb4 99 rfl rfl, tb1 7 rfl rfl, tb4 100 rfl rfl, by decide +kernel, by decide +kernel, by decide +kernel⟩
theorem mi_X3_spreadCosts : m_mI yX3_spreadCosts cX3_spreadCosts 8 ((some .boolean)) 0 := ⟨tb4 104 rfl rfl, tbS 34 rfl rfl, tb1 7 rfl rfl, tb4 105 rfl rfl, by decide +kernel, by decide +kernel, by decide +kernel⟩
theorem mi_X3_costAt : m_mI yX3_costAt cX3_costAt 3 ((some .int)) 2 := ⟨tb4 110 rfl rfl, tbS 35 rfl rfl, tb1 7 rfl rfl, tb4 111 rfl rfl, by decide +kernel, by decide +kernel, by decide +kernel⟩
theorem mi_X3_heatInAll : m_mI yX3_heatInAll cX3_heatInAll 4 ((some .long)) 0 := ⟨tb4 138 rfl rfl, tb4 139 rfl rfl, tb1 7 rfl rfl, tb4 140 rfl rfl, by decide +kernel, by decide +kernel, by decide +kernel⟩
theorem mc_X4_init : m_mC yX4_init cX4_init 1 0 := ⟨tb1 99 rfl rfl, rfl, tb1 5 rfl rfl, tb1 100 rfl rfl, by decide +kernel, by decide +kernel, by decide +kernel⟩
theorem mi_X4_read : m_mI yX4_read cX4_read 4 ((some .boolean)) 1 := ⟨tb3 15 rfl rfl, tb3 16 rfl rfl, tb1 5 rfl rfl, tb3 17 rfl rfl, by decide +kernel, by decide +kernel, by decide +kernel⟩
theorem mi_X4_fail : m_mI yX4_fail cX4_fail 2 (none) 1 := ⟨tb3 112 rfl rfl, tbS 4 rfl rfl, tb1 5 rfl rfl, tb3 113 rfl rfl, by decide +kernel, by decide +kernel, by decide +kernel⟩
theorem mi_X4_advance : m_mI yX4_advance cX4_advance 1 (none) 0 := ⟨tb3 117 rfl rfl, tbS 5 rfl rfl, tb1 5 rfl rfl, tb3 118 rfl rfl, by decide +kernel, by decide +kernel, by decide +kernel⟩
theorem mi_X4_expect : m_mI yX4_expect cX4_expect 2 (none) 1 := ⟨tb3 133 rfl rfl, tbS 9 rfl rfl, tb1 5 rfl rfl, tb3 134 rfl rfl, by decide +kernel, by decide +kernel, by decide +kernel⟩
theorem mi_X4_innermost : m_mI yX4_innermost cX4_innermost 1 ((some .int)) 0 := ⟨tb3 157 rfl rfl, tbS 14 rfl rfl, tb1 5 rfl rfl, tb3 158 rfl rfl, by decide +kernel, by decide +kernel, by decide +kernel⟩
theorem mi_X4_readStep : m_mI yX4_readStep cX4_readStep 3 (none) 0 := ⟨tb3 108 rfl rfl, tbS 3 rfl rfl, tb1 5 rfl rfl, tb3 109 rfl rfl, by decide +kernel, by decide +kernel, by decide +kernel⟩
theorem mi_X4_closeStep : m_mI yX4_closeStep cX4_closeStep 2 (none) 0 := ⟨tb3 153 rfl rfl, tbS 13 rfl rfl, tb1 5 rfl rfl, tb3 154 rfl rfl, by decide +kernel, by decide +kernel, by decide +kernel⟩
theorem mi_X4_dropInnermost : m_mI yX4_dropInnermost cX4_dropInnermost 1 (none) 0 := ⟨tb3 161 rfl rfl, tbS 15 rfl rfl, tb1 5 rfl rfl, tb3 162 rfl rfl, by decide +kernel, by decide +kernel, by decide +kernel⟩
theorem mi_X4_openAgain : m_mI yX4_openAgain cX4_openAgain 1 (none) 0 := ⟨tb3 129 rfl rfl, tbS 8 rfl rfl, tb1 5 rfl rfl, tb3 130 rfl rfl, by decide +kernel, by decide +kernel, by decide +kernel⟩
theorem mi_X4_closeAgain : m_mI yX4_closeAgain cX4_closeAgain 1 (none) 0 := ⟨tb3 166 rfl rfl, tbS 16 rfl rfl, tb1 5 rfl rfl, tb3 167 rfl rfl, by decide +kernel, by decide +kernel, by decide +kernel⟩
theorem mi_X4_openIf : m_mI yX4_openIf cX4_openIf 3 (none) 0 := ⟨tb3 137 rfl rfl, tbS 10 rfl rfl, tb1 5 rfl rfl, tb3 138 rfl rfl, by decide +kernel, by decide +kernel, by decide +kernel⟩
theorem mi_X4_readSum : m_mI yX4_readSum cX4_readSum 4 ((some .int)) 0 := ⟨tb3 141 rfl rfl, tbS 11 rfl rfl, tb1 5 rfl rfl, tb3 142 rfl rfl, by decide +kernel, by decide +kernel, by decide +kernel⟩
theorem mi_X4_readTerm : m_mI yX4_readTerm cX4_readTerm 2 (none) 1 := ⟨tb3 145 rfl rfl, tbS 12 rfl rfl, tb1 5 rfl rfl, tb3 146 rfl rfl, by decide +kernel, by decide +kernel, by decide +kernel⟩
theorem mi_X4_readNumber : m_mI yX4_readNumber cX4_readNumber 4 (none) 2 := ⟨tb3 121 rfl rfl, tbS 6 rfl rfl, tb1 5 rfl rfl, tb3 122 rfl rfl, by decide +kernel, by decide +kernel, by decide +kernel⟩
theorem mi_X4_readSide : m_mI yX4_readSide cX4_readSide 1 (none) 0 := ⟨tb3 125 rfl rfl, tbS 7 rfl rfl, tb1 5 rfl rfl, tb3 126 rfl rfl, by decide +kernel, by decide +kernel, by decide +kernel⟩
theorem mc_X5_init : m_mC yX5_init cX5_init 2 1 := ⟨tb1 40 rfl rfl, rfl, tb1 3 rfl rfl, tb1 41 rfl rfl, by decide +kernel, by decide +kernel, by decide +kernel⟩
theorem mi_X5_add : m_mI yX5_add cX5_add 2 (none) 1 := ⟨tb2 239 rfl rfl, tb3 0 rfl rfl, tb1 3 rfl rfl, tb3 1 rfl rfl, by decide +kernel, by decide +kernel, by decide +kernel⟩
theorem mi_X5_addBytes : m_mI yX5_addBytes cX5_addBytes 3 (none) 1 := ⟨tb2 235 rfl rfl, tb2 236 rfl rfl, tb1 3 rfl rfl, tb2 237 rfl rfl, by decide +kernel, by decide +kernel, by decide +kernel⟩
theorem mi_X5_put : m_mI yX5_put cX5_put 3 (none) 2 := ⟨tb3 148 rfl rfl, tb3 149 rfl rfl, tb1 3 rfl rfl, tb3 150 rfl rfl, by decide +kernel, by decide +kernel, by decide +kernel⟩
theorem mi_X5_at : m_mI yX5_at cX5_at 2 ((some .int)) 1 := ⟨tb3 83 rfl rfl, tb3 84 rfl rfl, tb1 3 rfl rfl, tb3 85 rfl rfl, by decide +kernel, by decide +kernel, by decide +kernel⟩
theorem mi_X5_copyFrom : m_mI yX5_copyFrom cX5_copyFrom 2 (none) 1 := ⟨tb3 169 rfl rfl, tb3 170 rfl rfl, tb1 3 rfl rfl, tb3 171 rfl rfl, by decide +kernel, by decide +kernel, by decide +kernel⟩
theorem mi_X5_firstRunBelow : m_mI yX5_firstRunBelow cX5_firstRunBelow 5 ((some .int)) 2 := ⟨tb5 21 rfl rfl, tb5 22 rfl rfl, tb1 3 rfl rfl, tb5 23 rfl rfl, by decide +kernel, by decide +kernel, by decide +kernel⟩
theorem mc_X6_init : m_mC yX6_init cX6_init 1 0 := ⟨tb2 60 rfl rfl, rfl, tb1 10 rfl rfl, tb2 61 rfl rfl, by decide +kernel, by decide +kernel, by decide +kernel⟩
theorem mi_X6_perform : m_mI yX6_perform cX6_perform 9 ((some .int)) 3 := ⟨tb3 190 rfl rfl, tb3 191 rfl rfl, tb1 10 rfl rfl, tb3 192 rfl rfl, by decide +kernel, by decide +kernel, by decide +kernel⟩
theorem mi_X6_turns : m_mI yX6_turns cX6_turns 2 ((some .int)) 1 := ⟨tb4 60 rfl rfl, tbS 30 rfl rfl, tb1 10 rfl rfl, tb4 61 rfl rfl, by decide +kernel, by decide +kernel, by decide +kernel⟩
theorem mi_X6_setTurns : m_mI yX6_setTurns cX6_setTurns 3 (none) 2 := ⟨tb4 55 rfl rfl, tbS 29 rfl rfl, tb1 10 rfl rfl, tb4 56 rfl rfl, by decide +kernel, by decide +kernel, by decide +kernel⟩
theorem mi_X6_travel : m_mI yX6_travel cX6_travel 8 (none) 4 := ⟨tb3 213 rfl rfl, tbS 17 rfl rfl, tb1 10 rfl rfl, tb3 214 rfl rfl, by decide +kernel, by decide +kernel, by decide +kernel⟩
theorem mi_X6_stay : m_mI yX6_stay cX6_stay 5 (none) 3 := ⟨tb4 51 rfl rfl, tbS 28 rfl rfl, tb1 10 rfl rfl, tb4 52 rfl rfl, by decide +kernel, by decide +kernel, by decide +kernel⟩
theorem ms_X6_stepOfIf : m_mS yX6_stepOfIf cX6_stepOfIf 2 ((some .int)) 2 := ⟨tb4 80 rfl rfl, tb1 10 rfl rfl, tb4 81 rfl rfl, by decide +kernel, by decide +kernel, by decide +kernel⟩
theorem mi_X6_isSo : m_mI yX6_isSo cX6_isSo 9 ((some .boolean)) 3 := ⟨tb4 64 rfl rfl, tbS 31 rfl rfl, tb1 10 rfl rfl, tb4 65 rfl rfl, by decide +kernel, by decide +kernel, by decide +kernel⟩
theorem mi_X6_sum : m_mI yX6_sum cX6_sum 11 ((some .long)) 4 := ⟨tb4 68 rfl rfl, tbS 32 rfl rfl, tb1 10 rfl rfl, tb4 69 rfl rfl, by decide +kernel, by decide +kernel, by decide +kernel⟩
theorem mi_X6_valueOf : m_mI yX6_valueOf cX6_valueOf 5 ((some .int)) 3 := ⟨tb4 75 rfl rfl, tbS 33 rfl rfl, tb1 10 rfl rfl, tb4 76 rfl rfl, by decide +kernel, by decide +kernel, by decide +kernel⟩
theorem mc_X7_init : m_mC yX7_init cX7_init 1 0 := ⟨tb2 135 rfl rfl, rfl, tb1 13 rfl rfl, tb2 136 rfl rfl, by decide +kernel, by decide +kernel, by decide +kernel⟩
theorem mi_X7_tell : m_mI yX7_tell cX7_tell 5 ((some .boolean)) 4 := ⟨tb4 234 rfl rfl, tb4 235 rfl rfl, tb1 13 rfl rfl, tb4 236 rfl rfl, by decide +kernel, by decide +kernel, by decide +kernel⟩
theorem mi_X7_leastMelt : m_mI yX7_leastMelt cX7_leastMelt 5 ((some .int)) 2 := ⟨tb5 3 rfl rfl, tb5 4 rfl rfl, tb1 13 rfl rfl, tb5 5 rfl rfl, by decide +kernel, by decide +kernel, by decide +kernel⟩
theorem mi_X7_greatestMelt : m_mI yX7_greatestMelt cX7_greatestMelt 5 ((some .int)) 2 := ⟨tb5 8 rfl rfl, tb5 9 rfl rfl, tb1 13 rfl rfl, tb5 10 rfl rfl, by decide +kernel, by decide +kernel, by decide +kernel⟩
theorem mc_X8_init : m_mC yX8_init cX8_init 1 0 := ⟨tb1 107 rfl rfl, rfl, tb1 6 rfl rfl, tb1 108 rfl rfl, by decide +kernel, by decide +kernel, by decide +kernel⟩
theorem mi_X8_takeApart : m_mI yX8_takeApart cX8_takeApart 5 (none) 1 := ⟨tb3 19 rfl rfl, tb3 20 rfl rfl, tb1 6 rfl rfl, tb3 21 rfl rfl, by decide +kernel, by decide +kernel, by decide +kernel⟩
theorem mi_X8_keep : m_mI yX8_keep cX8_keep 4 (none) 3 := ⟨tb3 88 rfl rfl, tbS 1 rfl rfl, tb1 6 rfl rfl, tb3 89 rfl rfl, by decide +kernel, by decide +kernel, by decide +kernel⟩
theorem mi_X8_takeWord : m_mI yX8_takeWord cX8_takeWord 4 ((some .int)) 2 := ⟨tb3 28 rfl rfl, tbS 0 rfl rfl, tb1 6 rfl rfl, tb3 29 rfl rfl, by decide +kernel, by decide +kernel, by decide +kernel⟩
theorem mi_X8_takeNumber : m_mI yX8_takeNumber cX8_takeNumber 5 ((some .int)) 2 := ⟨tb3 96 rfl rfl, tbS 2 rfl rfl, tb1 6 rfl rfl, tb3 97 rfl rfl, by decide +kernel, by decide +kernel, by decide +kernel⟩
theorem ms_X8_kindOfSign : m_mS yX8_kindOfSign cX8_kindOfSign 1 ((some .int)) 1 := ⟨tb3 102 rfl rfl, tb1 6 rfl rfl, tb3 103 rfl rfl, by decide +kernel, by decide +kernel, by decide +kernel⟩
theorem ms_X8_kindOfWord : m_mS yX8_kindOfWord cX8_kindOfWord 8 ((some .int)) 3 := ⟨tb3 31 rfl rfl, tb1 6 rfl rfl, tb3 32 rfl rfl, by decide +kernel, by decide +kernel, by decide +kernel⟩
theorem ms_X8_isLetter : m_mS yX8_isLetter cX8_isLetter 1 ((some .boolean)) 1 := ⟨tb3 23 rfl rfl, tb1 6 rfl rfl, tb3 24 rfl rfl, by decide +kernel, by decide +kernel, by decide +kernel⟩
theorem ms_X8_isDigit : m_mS yX8_isDigit cX8_isDigit 1 ((some .boolean)) 1 := ⟨tb3 92 rfl rfl, tb1 6 rfl rfl, tb3 93 rfl rfl, by decide +kernel, by decide +kernel, by decide +kernel⟩
theorem ms_X8_isBlank : m_mS yX8_isBlank cX8_isBlank 1 ((some .boolean)) 1 := ⟨tb3 99 rfl rfl, tb1 6 rfl rfl, tb3 100 rfl rfl, by decide +kernel, by decide +kernel, by decide +kernel⟩
theorem mc_X9_init : m_mC yX9_init cX9_init 1 0 := ⟨tb2 76 rfl rfl, rfl, tb1 11 rfl rfl, tb2 77 rfl rfl, by decide +kernel, by decide +kernel, by decide +kernel⟩
theorem mi_X9_seekOrder : m_mI yX9_seekOrder cX9_seekOrder 10 (none) 3 := ⟨tb4 153 rfl rfl, tb4 154 rfl rfl, tb1 11 rfl rfl, tb4 155 rfl rfl, by decide +kernel, by decide +kernel, by decide +kernel⟩
theorem mi_X9_choose : m_mI yX9_choose cX9_choose 4 ((some .int)) 1 := ⟨tb4 158 rfl rfl, tbS 36 rfl rfl, tb1 11 rfl rfl, tb4 159 rfl rfl, by decide +kernel, by decide +kernel, by decide +kernel⟩
theorem ms_X9_ordersJust : m_mS yX9_ordersJust cX9_ordersJust 3 ((some .boolean)) 2 := ⟨tb4 163 rfl rfl, tb1 11 rfl rfl, tb4 164 rfl rfl, by decide +kernel, by decide +kernel, by decide +kernel⟩
theorem mi_X9_keepIfBetter : m_mI yX9_keepIfBetter cX9_keepIfBetter 5 (none) 3 := ⟨tb4 179 rfl rfl, tbS 37 rfl rfl, tb1 11 rfl rfl, tb4 180 rfl rfl, by decide +kernel, by decide +kernel, by decide +kernel⟩
theorem mi_X9_leastSpeed : m_mI yX9_leastSpeed cX9_leastSpeed 6 ((some .int)) 4 := ⟨tb4 186 rfl rfl, tb4 187 rfl rfl, tb1 11 rfl rfl, tb4 188 rfl rfl, by decide +kernel, by decide +kernel, by decide +kernel⟩
theorem mi_X9_noneIsThereBehind : m_mI yX9_noneIsThereBehind cX9_noneIsThereBehind 5 ((some .boolean)) 2 := ⟨tb4 195 rfl rfl, tbS 38 rfl rfl, tb1 11 rfl rfl, tb4 196 rfl rfl, by decide +kernel, by decide +kernel, by decide +kernel⟩
theorem mc_X10_init : m_mC yX10_init cX10_init 2 0 := ⟨tb1 33 rfl rfl, rfl, tb1 2 rfl rfl, tb1 34 rfl rfl, by decide +kernel, by decide +kernel, by decide +kernel⟩
theorem mi_X10_setStuff : m_mI yX10_setStuff cX10_setStuff 6 ((some .boolean)) 5 := ⟨tb2 197 rfl rfl, tb2 198 rfl rfl, tb1 2 rfl rfl, tb2 199 rfl rfl, by decide +kernel, by decide +kernel, by decide +kernel⟩
theorem mi_X10_programOf : m_mI yX10_programOf cX10_programOf 2 ((some (.object "BeamPlate$Row"))) 1 := ⟨tb3 11 rfl rfl, tb3 12 rfl rfl, tb1 2 rfl rfl, tb3 13 rfl rfl, by decide +kernel, by decide +kernel, by decide +kernel⟩
theorem mi_X10_hasSlatAt : m_mI yX10_hasSlatAt cX10_hasSlatAt 2 ((some .boolean)) 1 := ⟨tb4 46 rfl rfl, tb4 47 rfl rfl, tb1 2 rfl rfl, tb4 48 rfl rfl, by decide +kernel, by decide +kernel, by decide +kernel⟩
theorem mc_X11_init : m_mC yX11_init cX11_init 1 0 := ⟨tb1 25 rfl rfl, rfl, tb1 1 rfl rfl, tb1 26 rfl rfl, by decide +kernel, by decide +kernel, by decide +kernel⟩
theorem mi_X11_stuff : m_mI yX11_stuff cX11_stuff 6 ((some .boolean)) 5 := ⟨tb2 193 rfl rfl, tb2 194 rfl rfl, tb1 1 rfl rfl, tb2 195 rfl rfl, by decide +kernel, by decide +kernel, by decide +kernel⟩
theorem mi_X11_plate : m_mI yX11_plate cX11_plate 5 ((some .boolean)) 4 := ⟨tb2 204 rfl rfl, tb2 205 rfl rfl, tb1 1 rfl rfl, tb2 206 rfl rfl, by decide +kernel, by decide +kernel, by decide +kernel⟩
theorem mi_X11_beam : m_mI yX11_beam cX11_beam 3 ((some .boolean)) 2 := ⟨tb2 223 rfl rfl, tb2 224 rfl rfl, tb1 1 rfl rfl, tb2 225 rfl rfl, by decide +kernel, by decide +kernel, by decide +kernel⟩
theorem mi_X11_pitch : m_mI yX11_pitch cX11_pitch 2 ((some .boolean)) 1 := ⟨tb2 227 rfl rfl, tb2 228 rfl rfl, tb1 1 rfl rfl, tb2 229 rfl rfl, by decide +kernel, by decide +kernel, by decide +kernel⟩
theorem mi_X11_feed : m_mI yX11_feed cX11_feed 6 ((some .int)) 5 := ⟨tb2 231 rfl rfl, tb2 232 rfl rfl, tb1 1 rfl rfl, tb2 233 rfl rfl, by decide +kernel, by decide +kernel, by decide +kernel⟩
theorem mi_X11_end : m_mI yX11_end cX11_end 2 ((some .boolean)) 1 := ⟨tb3 3 rfl rfl, tb3 4 rfl rfl, tb1 1 rfl rfl, tb3 5 rfl rfl, by decide +kernel, by decide +kernel, by decide +kernel⟩
theorem mi_X11_way : m_mI yX11_way cX11_way 4 ((some .boolean)) 1 := ⟨tb3 7 rfl rfl, tb3 8 rfl rfl, tb1 1 rfl rfl, tb3 9 rfl rfl, by decide +kernel, by decide +kernel, by decide +kernel⟩
theorem mi_X11_fault : m_mI yX11_fault cX11_fault 2 ((some .int)) 1 := ⟨tb3 178 rfl rfl, tb3 179 rfl rfl, tb1 1 rfl rfl, tb3 180 rfl rfl, by decide +kernel, by decide +kernel, by decide +kernel⟩
theorem mi_X11_run : m_mI yX11_run cX11_run 3 ((some .int)) 1 := ⟨tb3 182 rfl rfl, tb3 183 rfl rfl, tb1 1 rfl rfl, tb3 184 rfl rfl, by decide +kernel, by decide +kernel, by decide +kernel⟩
theorem mi_X11_cell : m_mI yX11_cell cX11_cell 5 ((some .int)) 3 := ⟨tb4 83 rfl rfl, tb4 84 rfl rfl, tb1 1 rfl rfl, tb4 85 rfl rfl, by decide +kernel, by decide +kernel, by decide +kernel⟩
theorem mi_X11_look : m_mI yX11_look cX11_look 2 ((some .int)) 1 := ⟨tb4 114 rfl rfl, tb4 115 rfl rfl, tb1 1 rfl rfl, tb4 116 rfl rfl, by decide +kernel, by decide +kernel, by decide +kernel⟩
theorem mi_X11_heat : m_mI yX11_heat cX11_heat 2 ((some .long)) 1 := ⟨tb4 134 rfl rfl, tb4 135 rfl rfl, tb1 1 rfl rfl, tb4 136 rfl rfl, by decide +kernel, by decide +kernel, by decide +kernel⟩
theorem mi_X11_order : m_mI yX11_order cX11_order 4 ((some .int)) 2 := ⟨tb4 143 rfl rfl, tb4 144 rfl rfl, tb1 1 rfl rfl, tb4 145 rfl rfl, by decide +kernel, by decide +kernel, by decide +kernel⟩
theorem mi_X11_speed : m_mI yX11_speed cX11_speed 3 ((some .int)) 2 := ⟨tb4 182 rfl rfl, tb4 183 rfl rfl, tb1 1 rfl rfl, tb4 184 rfl rfl, by decide +kernel, by decide +kernel, by decide +kernel⟩
theorem mi_X11_kind : m_mI yX11_kind cX11_kind 4 ((some .int)) 3 := ⟨tb4 200 rfl rfl, tb4 201 rfl rfl, tb1 1 rfl rfl, tb4 202 rfl rfl, by decide +kernel, by decide +kernel, by decide +kernel⟩
theorem mi_X11_fill : m_mI yX11_fill cX11_fill 3 ((some .int)) 2 := ⟨tb4 222 rfl rfl, tb4 223 rfl rfl, tb1 1 rfl rfl, tb4 224 rfl rfl, by decide +kernel, by decide +kernel, by decide +kernel⟩
theorem mi_X11_test : m_mI yX11_test cX11_test 5 ((some .boolean)) 4 := ⟨tb4 230 rfl rfl, tb4 231 rfl rfl, tb1 1 rfl rfl, tb4 232 rfl rfl, by decide +kernel, by decide +kernel, by decide +kernel⟩
theorem mi_X11_known : m_mI yX11_known cX11_known 6 ((some .int)) 3 := ⟨tb4 239 rfl rfl, tb5 0 rfl rfl, tb1 1 rfl rfl, tb5 1 rfl rfl, by decide +kernel, by decide +kernel, by decide +kernel⟩
theorem mi_X11_sparks : m_mI yX11_sparks cX11_sparks 1 ((some .int)) 0 := ⟨tb5 13 rfl rfl, tb5 14 rfl rfl, tb1 1 rfl rfl, tb5 15 rfl rfl, by decide +kernel, by decide +kernel, by decide +kernel⟩
theorem mi_X11_lost : m_mI yX11_lost cX11_lost 3 ((some .int)) 2 := ⟨tb5 17 rfl rfl, tb5 18 rfl rfl, tb1 1 rfl rfl, tb5 19 rfl rfl, by decide +kernel, by decide +kernel, by decide +kernel⟩
theorem ms_X11_within : m_mS yX11_within cX11_within 3 ((some .boolean)) 3 := ⟨tb2 201 rfl rfl, tb1 1 rfl rfl, tb2 202 rfl rfl, by decide +kernel, by decide +kernel, by decide +kernel⟩
theorem ms_X11_stepX : m_mS yX11_stepX cX11_stepX 1 ((some .int)) 1 := ⟨tb3 216 rfl rfl, tb1 1 rfl rfl, tb3 217 rfl rfl, by decide +kernel, by decide +kernel, by decide +kernel⟩
theorem ms_X11_stepY : m_mS yX11_stepY cX11_stepY 1 ((some .int)) 1 := ⟨tb3 219 rfl rfl, tb1 1 rfl rfl, tb3 220 rfl rfl, by decide +kernel, by decide +kernel, by decide +kernel⟩
theorem mc_X12_init : m_mC yX12_init cX12_init 1 0 := ⟨tb5 27 rfl rfl, rfl, tb1 14 rfl rfl, tb5 28 rfl rfl, by decide +kernel, by decide +kernel, by decide +kernel⟩
theorem mi_X12_isIn : m_mI yX12_isIn cX12_isIn 4 ((some .boolean)) 3 := ⟨tb6 20 rfl rfl, tbS 42 rfl rfl, tb1 14 rfl rfl, tb6 21 rfl rfl, by decide +kernel, by decide +kernel, by decide +kernel⟩
theorem mi_X12_stuff : m_mI yX12_stuff cX12_stuff 6 ((some .boolean)) 5 := ⟨tb6 15 rfl rfl, tb6 16 rfl rfl, tb1 14 rfl rfl, tb6 17 rfl rfl, by decide +kernel, by decide +kernel, by decide +kernel⟩
theorem mi_X12_plate : m_mI yX12_plate cX12_plate 6 ((some .boolean)) 4 := ⟨tb6 23 rfl rfl, tb6 24 rfl rfl, tb1 14 rfl rfl, tb6 25 rfl rfl, by decide +kernel, by decide +kernel, by decide +kernel⟩
theorem mi_X12_beam : m_mI yX12_beam cX12_beam 3 ((some .boolean)) 2 := ⟨tb6 27 rfl rfl, tb6 28 rfl rfl, tb1 14 rfl rfl, tb6 29 rfl rfl, by decide +kernel, by decide +kernel, by decide +kernel⟩
theorem mi_X12_pitch : m_mI yX12_pitch cX12_pitch 2 ((some .boolean)) 1 := ⟨tb6 31 rfl rfl, tb6 32 rfl rfl, tb1 14 rfl rfl, tb6 33 rfl rfl, by decide +kernel, by decide +kernel, by decide +kernel⟩
theorem mi_X12_isOnPlate : m_mI yX12_isOnPlate cX12_isOnPlate 3 ((some .boolean)) 2 := ⟨tb6 164 rfl rfl, tbS 70 rfl rfl, tb1 14 rfl rfl, tb6 165 rfl rfl, by decide +kernel, by decide +kernel, by decide +kernel⟩
theorem mi_X12_isThere : m_mI yX12_isThere cX12_isThere 4 ((some .boolean)) 3 := ⟨tb6 160 rfl rfl, tbS 69 rfl rfl, tb1 14 rfl rfl, tb6 161 rfl rfl, by decide +kernel, by decide +kernel, by decide +kernel⟩
theorem mi_X12_copies : m_mI yX12_copies cX12_copies 2 (none) 0 := ⟨tb7 26 rfl rfl, tbS 91 rfl rfl, tb1 14 rfl rfl, tb7 27 rfl rfl, by decide +kernel, by decide +kernel, by decide +kernel⟩
theorem mi_X12_stepX : m_mI yX12_stepX cX12_stepX 2 ((some .int)) 1 := ⟨tb6 180 rfl rfl, tbS 74 rfl rfl, tb1 14 rfl rfl, tb6 181 rfl rfl, by decide +kernel, by decide +kernel, by decide +kernel⟩
theorem mi_X12_stepY : m_mI yX12_stepY cX12_stepY 2 ((some .int)) 1 := ⟨tb6 184 rfl rfl, tbS 75 rfl rfl, tb1 14 rfl rfl, tb6 185 rfl rfl, by decide +kernel, by decide +kernel, by decide +kernel⟩
theorem mi_X12_flowFrom : m_mI yX12_flowFrom cX12_flowFrom 7 ((some .int)) 4 := ⟨tb6 205 rfl rfl, tbS 80 rfl rfl, tb1 14 rfl rfl, tb6 206 rfl rfl, by decide +kernel, by decide +kernel, by decide +kernel⟩
theorem mi_X12_gives : m_mI yX12_gives cX12_gives 4 (none) 1 := ⟨tb6 196 rfl rfl, tbS 78 rfl rfl, tb1 14 rfl rfl, tb6 197 rfl rfl, by decide +kernel, by decide +kernel, by decide +kernel⟩
theorem mi_X12_leads : m_mI yX12_leads cX12_leads 6 (none) 1 := ⟨tb6 201 rfl rfl, tbS 79 rfl rfl, tb1 14 rfl rfl, tb6 202 rfl rfl, by decide +kernel, by decide +kernel, by decide +kernel⟩
theorem mi_X12_goesAway : m_mI yX12_goesAway cX12_goesAway 4 (none) 3 := ⟨tb6 213 rfl rfl, tbS 82 rfl rfl, tb1 14 rfl rfl, tb6 214 rfl rfl, by decide +kernel, by decide +kernel, by decide +kernel⟩
theorem mi_X12_cuts : m_mI yX12_cuts cX12_cuts 5 ((some .boolean)) 1 := ⟨tb6 209 rfl rfl, tbS 81 rfl rfl, tb1 14 rfl rfl, tb6 210 rfl rfl, by decide +kernel, by decide +kernel, by decide +kernel⟩
theorem mi_X12_ticksOnce : m_mI yX12_ticksOnce cX12_ticksOnce 6 (none) 1 := ⟨tb6 192 rfl rfl, tbS 77 rfl rfl, tb1 14 rfl rfl, tb6 193 rfl rfl, by decide +kernel, by decide +kernel, by decide +kernel⟩
theorem mi_X12_findsParts : m_mI yX12_findsParts cX12_findsParts 4 (none) 1 := ⟨tb6 221 rfl rfl, tbS 84 rfl rfl, tb1 14 rfl rfl, tb6 222 rfl rfl, by decide +kernel, by decide +kernel, by decide +kernel⟩
theorem mi_X12_spreads : m_mI yX12_spreads cX12_spreads 9 (none) 2 := ⟨tb6 225 rfl rfl, tbS 85 rfl rfl, tb1 14 rfl rfl, tb6 226 rfl rfl, by decide +kernel, by decide +kernel, by decide +kernel⟩
theorem mi_X12_lying : m_mI yX12_lying cX12_lying 7 ((some .int)) 1 := ⟨tb6 229 rfl rfl, tbS 86 rfl rfl, tb1 14 rfl rfl, tb6 230 rfl rfl, by decide +kernel, by decide +kernel, by decide +kernel⟩
theorem mi_X12_loosens : m_mI yX12_loosens cX12_loosens 5 (none) 1 := ⟨tb6 217 rfl rfl, tbS 83 rfl rfl, tb1 14 rfl rfl, tb6 218 rfl rfl, by decide +kernel, by decide +kernel, by decide +kernel⟩
theorem mi_X12_puts : m_mI yX12_puts cX12_puts 3 (none) 1 := ⟨tb6 40 rfl rfl, tbS 43 rfl rfl, tb1 14 rfl rfl, tb6 41 rfl rfl, by decide +kernel, by decide +kernel, by decide +kernel⟩
theorem mi_X12_feed : m_mI yX12_feed cX12_feed 6 ((some .int)) 5 := ⟨tb6 35 rfl rfl, tb6 36 rfl rfl, tb1 14 rfl rfl, tb6 37 rfl rfl, by decide +kernel, by decide +kernel, by decide +kernel⟩
theorem mi_X12_end : m_mI yX12_end cX12_end 2 ((some .boolean)) 1 := ⟨tb6 43 rfl rfl, tb6 44 rfl rfl, tb1 14 rfl rfl, tb6 45 rfl rfl, by decide +kernel, by decide +kernel, by decide +kernel⟩
theorem mi_X12_raw : m_mI yX12_raw cX12_raw 2 ((some .int)) 1 := ⟨tb6 60 rfl rfl, tbS 46 rfl rfl, tb1 14 rfl rfl, tb6 61 rfl rfl, by decide +kernel, by decide +kernel, by decide +kernel⟩
theorem mi_X12_isLetter : m_mI yX12_isLetter cX12_isLetter 2 ((some .boolean)) 1 := ⟨tb6 64 rfl rfl, tbS 47 rfl rfl, tb1 14 rfl rfl, tb6 65 rfl rfl, by decide +kernel, by decide +kernel, by decide +kernel⟩
theorem mi_X12_isDigit : m_mI yX12_isDigit cX12_isDigit 2 ((some .boolean)) 1 := ⟨tb6 72 rfl rfl, tbS 49 rfl rfl, tb1 14 rfl rfl, tb6 73 rfl rfl, by decide +kernel, by decide +kernel, by decide +kernel⟩
theorem mi_X12_isMarkSign : m_mI yX12_isMarkSign cX12_isMarkSign 2 ((some .boolean)) 1 := ⟨tb6 76 rfl rfl, tbS 50 rfl rfl, tb1 14 rfl rfl, tb6 77 rfl rfl, by decide +kernel, by decide +kernel, by decide +kernel⟩
theorem mi_X12_wordAt : m_mI yX12_wordAt cX12_wordAt 6 ((some .int)) 2 := ⟨tb6 68 rfl rfl, tbS 48 rfl rfl, tb1 14 rfl rfl, tb6 69 rfl rfl, by decide +kernel, by decide +kernel, by decide +kernel⟩
theorem mi_X12_reads : m_mI yX12_reads cX12_reads 2 (none) 0 := ⟨tb6 56 rfl rfl, tbS 45 rfl rfl, tb1 14 rfl rfl, tb6 57 rfl rfl, by decide +kernel, by decide +kernel, by decide +kernel⟩
theorem mi_X12_fails : m_mI yX12_fails cX12_fails 2 ((some .int)) 1 := ⟨tb6 104 rfl rfl, tbS 57 rfl rfl, tb1 14 rfl rfl, tb6 105 rfl rfl, by decide +kernel, by decide +kernel, by decide +kernel⟩
theorem mi_X12_isWord : m_mI yX12_isWord cX12_isWord 2 ((some .boolean)) 1 := ⟨tb6 80 rfl rfl, tbS 51 rfl rfl, tb1 14 rfl rfl, tb6 81 rfl rfl, by decide +kernel, by decide +kernel, by decide +kernel⟩
theorem mi_X12_isSign : m_mI yX12_isSign cX12_isSign 2 ((some .boolean)) 1 := ⟨tb6 100 rfl rfl, tbS 56 rfl rfl, tb1 14 rfl rfl, tb6 101 rfl rfl, by decide +kernel, by decide +kernel, by decide +kernel⟩
theorem mi_X12_emits : m_mI yX12_emits cX12_emits 5 (none) 3 := ⟨tb6 92 rfl rfl, tbS 54 rfl rfl, tb1 14 rfl rfl, tb6 93 rfl rfl, by decide +kernel, by decide +kernel, by decide +kernel⟩
theorem mi_X12_readNumber : m_mI yX12_readNumber cX12_readNumber 1 ((some .int)) 0 := ⟨tb6 124 rfl rfl, tbS 62 rfl rfl, tb1 14 rfl rfl, tb6 125 rfl rfl, by decide +kernel, by decide +kernel, by decide +kernel⟩
theorem mi_X12_readUnit : m_mI yX12_readUnit cX12_readUnit 4 ((some .int)) 1 := ⟨tb6 116 rfl rfl, tbS 60 rfl rfl, tb1 14 rfl rfl, tb6 117 rfl rfl, by decide +kernel, by decide +kernel, by decide +kernel⟩
theorem mi_X12_readSum : m_mI yX12_readSum cX12_readSum 2 ((some .int)) 0 := ⟨tb6 112 rfl rfl, tbS 59 rfl rfl, tb1 14 rfl rfl, tb6 113 rfl rfl, by decide +kernel, by decide +kernel, by decide +kernel⟩
theorem mi_X12_readIf : m_mI yX12_readIf cX12_readIf 3 ((some .int)) 0 := ⟨tb6 108 rfl rfl, tbS 58 rfl rfl, tb1 14 rfl rfl, tb6 109 rfl rfl, by decide +kernel, by decide +kernel, by decide +kernel⟩
theorem mi_X12_readAgain : m_mI yX12_readAgain cX12_readAgain 2 ((some .int)) 0 := ⟨tb6 120 rfl rfl, tbS 61 rfl rfl, tb1 14 rfl rfl, tb6 121 rfl rfl, by decide +kernel, by decide +kernel, by decide +kernel⟩
theorem mi_X12_readPlain : m_mI yX12_readPlain cX12_readPlain 4 ((some .int)) 0 := ⟨tb6 128 rfl rfl, tbS 63 rfl rfl, tb1 14 rfl rfl, tb6 129 rfl rfl, by decide +kernel, by decide +kernel, by decide +kernel⟩
theorem mi_X12_isInAgain : m_mI yX12_isInAgain cX12_isInAgain 1 ((some .boolean)) 0 := ⟨tb6 84 rfl rfl, tbS 52 rfl rfl, tb1 14 rfl rfl, tb6 85 rfl rfl, by decide +kernel, by decide +kernel, by decide +kernel⟩
theorem mi_X12_closes : m_mI yX12_closes cX12_closes 2 (none) 0 := ⟨tb6 88 rfl rfl, tbS 53 rfl rfl, tb1 14 rfl rfl, tb6 89 rfl rfl, by decide +kernel, by decide +kernel, by decide +kernel⟩
theorem mi_X12_ends : m_mI yX12_ends cX12_ends 1 ((some .int)) 0 := ⟨tb6 96 rfl rfl, tbS 55 rfl rfl, tb1 14 rfl rfl, tb6 97 rfl rfl, by decide +kernel, by decide +kernel, by decide +kernel⟩
theorem mi_X12_readAll : m_mI yX12_readAll cX12_readAll 2 ((some .int)) 0 := ⟨tb6 52 rfl rfl, tbS 44 rfl rfl, tb1 14 rfl rfl, tb6 53 rfl rfl, by decide +kernel, by decide +kernel, by decide +kernel⟩
theorem mi_X12_way : m_mI yX12_way cX12_way 7 ((some .boolean)) 1 := ⟨tb6 47 rfl rfl, tb6 48 rfl rfl, tb1 14 rfl rfl, tb6 49 rfl rfl, by decide +kernel, by decide +kernel, by decide +kernel⟩
theorem mi_X12_fault : m_mI yX12_fault cX12_fault 2 ((some .int)) 1 := ⟨tb6 131 rfl rfl, tb6 132 rfl rfl, tb1 14 rfl rfl, tb6 133 rfl rfl, by decide +kernel, by decide +kernel, by decide +kernel⟩
theorem mi_X12_pays : m_mI yX12_pays cX12_pays 1 ((some .boolean)) 0 := ⟨tb6 144 rfl rfl, tbS 65 rfl rfl, tb1 14 rfl rfl, tb6 145 rfl rfl, by decide +kernel, by decide +kernel, by decide +kernel⟩
theorem mi_X12_waits : m_mI yX12_waits cX12_waits 4 (none) 2 := ⟨tb6 188 rfl rfl, tbS 76 rfl rfl, tb1 14 rfl rfl, tb6 189 rfl rfl, by decide +kernel, by decide +kernel, by decide +kernel⟩
theorem mi_X12_comes : m_mI yX12_comes cX12_comes 4 (none) 3 := ⟨tb6 172 rfl rfl, tbS 72 rfl rfl, tb1 14 rfl rfl, tb6 173 rfl rfl, by decide +kernel, by decide +kernel, by decide +kernel⟩
theorem mi_X12_goes : m_mI yX12_goes cX12_goes 7 (none) 3 := ⟨tb6 176 rfl rfl, tbS 73 rfl rfl, tb1 14 rfl rfl, tb6 177 rfl rfl, by decide +kernel, by decide +kernel, by decide +kernel⟩
theorem mi_X12_askedOf : m_mI yX12_askedOf cX12_askedOf 4 ((some .int)) 2 := ⟨tb6 156 rfl rfl, tbS 68 rfl rfl, tb1 14 rfl rfl, tb6 157 rfl rfl, by decide +kernel, by decide +kernel, by decide +kernel⟩
theorem mi_X12_sumOf : m_mI yX12_sumOf cX12_sumOf 7 ((some .int)) 4 := ⟨tb6 152 rfl rfl, tbS 67 rfl rfl, tb1 14 rfl rfl, tb6 153 rfl rfl, by decide +kernel, by decide +kernel, by decide +kernel⟩
theorem mi_X12_isSo : m_mI yX12_isSo cX12_isSo 7 ((some .boolean)) 3 := ⟨tb6 148 rfl rfl, tbS 66 rfl rfl, tb1 14 rfl rfl, tb6 149 rfl rfl, by decide +kernel, by decide +kernel, by decide +kernel⟩
theorem mi_X12_doesPlain : m_mI yX12_doesPlain cX12_doesPlain 5 (none) 4 := ⟨tb6 168 rfl rfl, tbS 71 rfl rfl, tb1 14 rfl rfl, tb6 169 rfl rfl, by decide +kernel, by decide +kernel, by decide +kernel⟩
theorem mi_X12_runs : m_mI yX12_runs cX12_runs 6 (none) 2 := ⟨tb6 140 rfl rfl, tbS 64 rfl rfl, tb1 14 rfl rfl, tb6 141 rfl rfl, by decide +kernel, by decide +kernel, by decide +kernel⟩
theorem mi_X12_run : m_mI yX12_run cX12_run 2 ((some .int)) 1 := ⟨tb6 135 rfl rfl, tb6 136 rfl rfl, tb1 14 rfl rfl, tb6 137 rfl rfl, by decide +kernel, by decide +kernel, by decide +kernel⟩
theorem mi_X12_bridgeOf : m_mI yX12_bridgeOf cX12_bridgeOf 9 ((some .int)) 2 := ⟨tb6 237 rfl rfl, tbS 87 rfl rfl, tb1 14 rfl rfl, tb6 238 rfl rfl, by decide +kernel, by decide +kernel, by decide +kernel⟩
theorem mi_X12_cell : m_mI yX12_cell cX12_cell 6 ((some .int)) 3 := ⟨tb6 232 rfl rfl, tb6 233 rfl rfl, tb1 14 rfl rfl, tb6 234 rfl rfl, by decide +kernel, by decide +kernel, by decide +kernel⟩
theorem mi_X12_cellsAs : m_mI yX12_cellsAs cX12_cellsAs 8 ((some .int)) 2 := ⟨tb7 5 rfl rfl, tbS 88 rfl rfl, tb1 14 rfl rfl, tb7 6 rfl rfl, by decide +kernel, by decide +kernel, by decide +kernel⟩
theorem mi_X12_look : m_mI yX12_look cX12_look 4 ((some .int)) 1 := ⟨tb7 0 rfl rfl, tb7 1 rfl rfl, tb1 14 rfl rfl, tb7 2 rfl rfl, by decide +kernel, by decide +kernel, by decide +kernel⟩
theorem mi_X12_heat : m_mI yX12_heat cX12_heat 5 ((some .long)) 1 := ⟨tb7 8 rfl rfl, tb7 9 rfl rfl, tb1 14 rfl rfl, tb7 10 rfl rfl, by decide +kernel, by decide +kernel, by decide +kernel⟩
theorem mi_X12_ones : m_mI yX12_ones cX12_ones 4 ((some .int)) 1 := ⟨tb7 18 rfl rfl, tbS 89 rfl rfl, tb1 14 rfl rfl, tb7 19 rfl rfl, by decide +kernel, by decide +kernel, by decide +kernel⟩
theorem mi_X12_isOrder : m_mI yX12_isOrder cX12_isOrder 6 ((some .boolean)) 3 := ⟨tb7 22 rfl rfl, tbS 90 rfl rfl, tb1 14 rfl rfl, tb7 23 rfl rfl, by decide +kernel, by decide +kernel, by decide +kernel⟩
theorem mi_X12_order : m_mI yX12_order cX12_order 10 ((some .int)) 2 := ⟨tb7 13 rfl rfl, tb7 14 rfl rfl, tb1 14 rfl rfl, tb7 15 rfl rfl, by decide +kernel, by decide +kernel, by decide +kernel⟩
theorem mi_X12_cutsThrough : m_mI yX12_cutsThrough cX12_cutsThrough 6 ((some .boolean)) 3 := ⟨tb7 34 rfl rfl, tbS 92 rfl rfl, tb1 14 rfl rfl, tb7 35 rfl rfl, by decide +kernel, by decide +kernel, by decide +kernel⟩
theorem mi_X12_speed : m_mI yX12_speed cX12_speed 4 ((some .int)) 2 := ⟨tb7 29 rfl rfl, tb7 30 rfl rfl, tb1 14 rfl rfl, tb7 31 rfl rfl, by decide +kernel, by decide +kernel, by decide +kernel⟩
theorem mi_X12_kind : m_mI yX12_kind cX12_kind 4 ((some .int)) 3 := ⟨tb7 37 rfl rfl, tb7 38 rfl rfl, tb1 14 rfl rfl, tb7 39 rfl rfl, by decide +kernel, by decide +kernel, by decide +kernel⟩
theorem mi_X12_mostOf : m_mI yX12_mostOf cX12_mostOf 6 ((some .int)) 2 := ⟨tb7 46 rfl rfl, tbS 93 rfl rfl, tb1 14 rfl rfl, tb7 47 rfl rfl, by decide +kernel, by decide +kernel, by decide +kernel⟩
theorem mi_X12_fill : m_mI yX12_fill cX12_fill 5 ((some .int)) 2 := ⟨tb7 41 rfl rfl, tb7 42 rfl rfl, tb1 14 rfl rfl, tb7 43 rfl rfl, by decide +kernel, by decide +kernel, by decide +kernel⟩
theorem mi_X12_test : m_mI yX12_test cX12_test 5 ((some .boolean)) 4 := ⟨tb7 49 rfl rfl, tb7 50 rfl rfl, tb1 14 rfl rfl, tb7 51 rfl rfl, by decide +kernel, by decide +kernel, by decide +kernel⟩
theorem mi_X12_known : m_mI yX12_known cX12_known 7 ((some .int)) 3 := ⟨tb7 53 rfl rfl, tb7 54 rfl rfl, tb1 14 rfl rfl, tb7 55 rfl rfl, by decide +kernel, by decide +kernel, by decide +kernel⟩
theorem mi_X12_sparks : m_mI yX12_sparks cX12_sparks 2 ((some .int)) 0 := ⟨tb7 57 rfl rfl, tb7 58 rfl rfl, tb1 14 rfl rfl, tb7 59 rfl rfl, by decide +kernel, by decide +kernel, by decide +kernel⟩
theorem mi_X12_lost : m_mI yX12_lost cX12_lost 5 ((some .int)) 2 := ⟨tb7 61 rfl rfl, tb7 62 rfl rfl, tb1 14 rfl rfl, tb7 63 rfl rfl, by decide +kernel, by decide +kernel, by decide +kernel⟩
theorem ms_J6_bitCount_0f7a4 : m_mS yJ6_bitCount_0f7a4 cJ6_bitCount_0f7a4 1 ((some .int)) 1 := ⟨tb4 147 rfl rfl, tb1 21 rfl rfl, tb4 148 rfl rfl, by decide +kernel, by decide +kernel, by decide +kernel⟩
theorem ms_J9_abs_0f7a4 : m_mS yJ9_abs_0f7a4 cJ9_abs_0f7a4 1 ((some .int)) 1 := ⟨tb4 71 rfl rfl, tb1 4 rfl rfl, tb4 72 rfl rfl, by decide +kernel, by decide +kernel, by decide +kernel⟩
theorem ms_J9_max_7cf53 : m_mS yJ9_max_7cf53 cJ9_max_7cf53 2 ((some .int)) 2 := ⟨tb1 44 rfl rfl, tb1 4 rfl rfl, tb1 45 rfl rfl, by decide +kernel, by decide +kernel, by decide +kernel⟩
theorem ms_J9_min_7cf53 : m_mS yJ9_min_7cf53 cJ9_min_7cf53 2 ((some .int)) 2 := ⟨tb2 213 rfl rfl, tb1 4 rfl rfl, tb2 214 rfl rfl, by decide +kernel, by decide +kernel, by decide +kernel⟩
theorem mi_J0_length_8abf5 : m_mI yJ0_length_8abf5 cJ0_length_8abf5 1 ((some .int)) 0 := ⟨tb3 35 rfl rfl, tb3 36 rfl rfl, tb1 16 rfl rfl, tb3 37 rfl rfl, by decide +kernel, by decide +kernel, by decide +kernel⟩
theorem mi_J0_charAt_5068e : m_mI yJ0_charAt_5068e cJ0_charAt_5068e 2 ((some .char)) 1 := ⟨tb3 45 rfl rfl, tb3 46 rfl rfl, tb1 16 rfl rfl, tb3 47 rfl rfl, by decide +kernel, by decide +kernel, by decide +kernel⟩
theorem mi_J0_coder_7d493 : m_mI yJ0_coder_7d493 cJ0_coder_7d493 1 ((some .byte)) 0 := ⟨tb3 39 rfl rfl, tb3 40 rfl rfl, tb1 16 rfl rfl, tb3 41 rfl rfl, by decide +kernel, by decide +kernel, by decide +kernel⟩
theorem mi_J0_isLatin1_aae02 : m_mI yJ0_isLatin1_aae02 cJ0_isLatin1_aae02 1 ((some .boolean)) 0 := ⟨tb3 49 rfl rfl, tb3 50 rfl rfl, tb1 16 rfl rfl, tb3 51 rfl rfl, by decide +kernel, by decide +kernel, by decide +kernel⟩
theorem ms_J0_checkIndex_df160 : m_mS yJ0_checkIndex_df160 cJ0_checkIndex_df160 2 (none) 2 := ⟨tb3 56 rfl rfl, tb1 16 rfl rfl, tb3 57 rfl rfl, by decide +kernel, by decide +kernel, by decide +kernel⟩
theorem ms_J1_charAt_3b067 : m_mS yJ1_charAt_3b067 cJ1_charAt_3b067 2 ((some .char)) 2 := ⟨tb3 53 rfl rfl, tb1 17 rfl rfl, tb3 54 rfl rfl, by decide +kernel, by decide +kernel, by decide +kernel⟩
theorem ms_J2_getChar_3b067 : m_mS yJ2_getChar_3b067 cJ2_getChar_3b067 2 ((some .char)) 2 := ⟨tb3 74 rfl rfl, tb1 19 rfl rfl, tb3 75 rfl rfl, by decide +kernel, by decide +kernel, by decide +kernel⟩
theorem ms_J2_length_9d52b : m_mS yJ2_length_9d52b cJ2_length_9d52b 1 ((some .int)) 1 := ⟨tb3 70 rfl rfl, tb1 19 rfl rfl, tb3 71 rfl rfl, by decide +kernel, by decide +kernel, by decide +kernel⟩
theorem ms_J2_charAt_3b067 : m_mS yJ2_charAt_3b067 cJ2_charAt_3b067 2 ((some .char)) 2 := ⟨tb3 64 rfl rfl, tb1 19 rfl rfl, tb3 65 rfl rfl, by decide +kernel, by decide +kernel, by decide +kernel⟩
theorem ms_J2_checkIndex_2214a : m_mS yJ2_checkIndex_2214a cJ2_checkIndex_2214a 2 (none) 2 := ⟨tb3 67 rfl rfl, tb1 19 rfl rfl, tb3 68 rfl rfl, by decide +kernel, by decide +kernel, by decide +kernel⟩
theorem ms_J7_fill_53178 : m_mS yJ7_fill_53178 cJ7_fill_53178 4 (none) 2 := ⟨tb2 220 rfl rfl, tb1 15 rfl rfl, tb2 221 rfl rfl, by decide +kernel, by decide +kernel, by decide +kernel⟩
theorem ms_J3_checkIndex_8e157 : m_mS yJ3_checkIndex_8e157 cJ3_checkIndex_8e157 3 ((some .int)) 3 := ⟨tb3 61 rfl rfl, tb1 18 rfl rfl, tb3 62 rfl rfl, by decide +kernel, by decide +kernel, by decide +kernel⟩
end
