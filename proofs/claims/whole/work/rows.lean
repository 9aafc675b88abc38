section
-- ===== PART A: goes FIRST, ahead of the names: the tables' words, and 'selects' of the private methods out of them =====
/-- a private method of a class that the tables say can be made, by its rows of tables_1 -/
def lw_okq (q : MethodName × Nat) : Prop := (q.1.cls ≠ "java/lang/invoke/MethodHandle" ∧ q.1.cls ≠ "java/lang/invoke/VarHandle") ∧ Cond.instantiable q.1.cls q.2 ∈ tables_1 ∧ Cond.privateMethod q.1 ∈ tables_1 ∧ Cond.instanceMethod q.1 ∈ tables_1
theorem lw_p0 : lw_okq (⟨"TideMills", "readToError", "()I"⟩, 8) := ⟨⟨by decide +kernel, by decide +kernel⟩, List.mem_of_getElem? (i := 15) (by decide +kernel), List.mem_of_getElem? (i := 224) (by decide +kernel), List.mem_of_getElem? (i := 225) (by decide +kernel)⟩
theorem lw_p1 : lw_okq (⟨"TideMills$PartReader", "beginNumber", "(I)V"⟩, 4) := ⟨⟨by decide +kernel, by decide +kernel⟩, List.mem_of_getElem? (i := 171) (by decide +kernel), List.mem_of_getElem? (i := 232) (by decide +kernel), List.mem_of_getElem? (i := 233) (by decide +kernel)⟩
theorem lw_p2 : lw_okq (⟨"TideMills$PartReader", "takeKind", "(I)Z"⟩, 4) := ⟨⟨by decide +kernel, by decide +kernel⟩, List.mem_of_getElem? (i := 171) (by decide +kernel), List.mem_of_getElem? (i := 240) (by decide +kernel), List.mem_of_getElem? (i := 241) (by decide +kernel)⟩
theorem lw_p3 : lw_okq (⟨"TideMills$PartReader", "takeDigit", "(I)Z"⟩, 4) := ⟨⟨by decide +kernel, by decide +kernel⟩, List.mem_of_getElem? (i := 171) (by decide +kernel), List.mem_of_getElem? (i := 244) (by decide +kernel), List.mem_of_getElem? (i := 245) (by decide +kernel)⟩
theorem lw_p4 : lw_okq (⟨"TideMills$PartReader", "canBecomeNumber", "(I)Z"⟩, 4) := ⟨⟨by decide +kernel, by decide +kernel⟩, List.mem_of_getElem? (i := 171) (by decide +kernel), List.mem_of_getElem? (i := 252) (by decide +kernel), List.mem_of_getElem? (i := 253) (by decide +kernel)⟩
theorem lw_p5 : lw_okq (⟨"TideMills$PartReader", "least", "()I"⟩, 4) := ⟨⟨by decide +kernel, by decide +kernel⟩, List.mem_of_getElem? (i := 171) (by decide +kernel), List.mem_of_getElem? (i := 256) (by decide +kernel), List.mem_of_getElem? (i := 257) (by decide +kernel)⟩
theorem lw_p6 : lw_okq (⟨"TideMills$PartReader", "most", "()I"⟩, 4) := ⟨⟨by decide +kernel, by decide +kernel⟩, List.mem_of_getElem? (i := 171) (by decide +kernel), List.mem_of_getElem? (i := 260) (by decide +kernel), List.mem_of_getElem? (i := 261) (by decide +kernel)⟩
theorem lw_p7 : lw_okq (⟨"TideMills$PartReader", "takeComma", "()Z"⟩, 4) := ⟨⟨by decide +kernel, by decide +kernel⟩, List.mem_of_getElem? (i := 171) (by decide +kernel), List.mem_of_getElem? (i := 264) (by decide +kernel), List.mem_of_getElem? (i := 265) (by decide +kernel)⟩
theorem lw_p8 : lw_okq (⟨"TideMills$PartReader", "numberIsWhole", "()Z"⟩, 4) := ⟨⟨by decide +kernel, by decide +kernel⟩, List.mem_of_getElem? (i := 171) (by decide +kernel), List.mem_of_getElem? (i := 268) (by decide +kernel), List.mem_of_getElem? (i := 269) (by decide +kernel)⟩
theorem lw_p9 : lw_okq (⟨"TideMills$PartReader", "lastNumber", "()I"⟩, 4) := ⟨⟨by decide +kernel, by decide +kernel⟩, List.mem_of_getElem? (i := 171) (by decide +kernel), List.mem_of_getElem? (i := 272) (by decide +kernel), List.mem_of_getElem? (i := 273) (by decide +kernel)⟩
theorem lw_p10 : lw_okq (⟨"TideMills$PartReader", "takeSeparator", "()Z"⟩, 4) := ⟨⟨by decide +kernel, by decide +kernel⟩, List.mem_of_getElem? (i := 171) (by decide +kernel), List.mem_of_getElem? (i := 276) (by decide +kernel), List.mem_of_getElem? (i := 277) (by decide +kernel)⟩
theorem lw_p11 : lw_okq (⟨"TideMills$Creek", "isAheadOfAllOthers", "(LTideMills$Mill;)Z"⟩, 13) := ⟨⟨by decide +kernel, by decide +kernel⟩, List.mem_of_getElem? (i := 23) (by decide +kernel), List.mem_of_getElem? (i := 320) (by decide +kernel), List.mem_of_getElem? (i := 321) (by decide +kernel)⟩
theorem lw_p12 : lw_okq (⟨"TideMills$Creek", "turnsAheadOf", "(LTideMills$Mill;LTideMills$Mill;)Z"⟩, 13) := ⟨⟨by decide +kernel, by decide +kernel⟩, List.mem_of_getElem? (i := 23) (by decide +kernel), List.mem_of_getElem? (i := 324) (by decide +kernel), List.mem_of_getElem? (i := 325) (by decide +kernel)⟩
theorem lw_p13 : lw_okq (⟨"TideMills", "hoursToGround", "(I)I"⟩, 8) := ⟨⟨by decide +kernel, by decide +kernel⟩, List.mem_of_getElem? (i := 15) (by decide +kernel), List.mem_of_getElem? (i := 339) (by decide +kernel), List.mem_of_getElem? (i := 340) (by decide +kernel)⟩
theorem lw_p14 : lw_okq (⟨"TideMills$Creek", "letWaterIn", "()V"⟩, 13) := ⟨⟨by decide +kernel, by decide +kernel⟩, List.mem_of_getElem? (i := 23) (by decide +kernel), List.mem_of_getElem? (i := 355) (by decide +kernel), List.mem_of_getElem? (i := 356) (by decide +kernel)⟩
theorem lw_p15 : lw_okq (⟨"TideMills$Creek", "turn", "(LTideMills$Mill;)I"⟩, 13) := ⟨⟨by decide +kernel, by decide +kernel⟩, List.mem_of_getElem? (i := 23) (by decide +kernel), List.mem_of_getElem? (i := 371) (by decide +kernel), List.mem_of_getElem? (i := 372) (by decide +kernel)⟩
def lw_privs_1 : List (MethodName × Nat) := [(⟨"TideMills", "readToError", "()I"⟩, 8), (⟨"TideMills$PartReader", "beginNumber", "(I)V"⟩, 4), (⟨"TideMills$PartReader", "takeKind", "(I)Z"⟩, 4), (⟨"TideMills$PartReader", "takeDigit", "(I)Z"⟩, 4), (⟨"TideMills$PartReader", "canBecomeNumber", "(I)Z"⟩, 4), (⟨"TideMills$PartReader", "least", "()I"⟩, 4), (⟨"TideMills$PartReader", "most", "()I"⟩, 4), (⟨"TideMills$PartReader", "takeComma", "()Z"⟩, 4), (⟨"TideMills$PartReader", "numberIsWhole", "()Z"⟩, 4), (⟨"TideMills$PartReader", "lastNumber", "()I"⟩, 4), (⟨"TideMills$PartReader", "takeSeparator", "()Z"⟩, 4), (⟨"TideMills$Creek", "isAheadOfAllOthers", "(LTideMills$Mill;)Z"⟩, 13), (⟨"TideMills$Creek", "turnsAheadOf", "(LTideMills$Mill;LTideMills$Mill;)Z"⟩, 13), (⟨"TideMills", "hoursToGround", "(I)I"⟩, 8), (⟨"TideMills$Creek", "letWaterIn", "()V"⟩, 13), (⟨"TideMills$Creek", "turn", "(LTideMills$Mill;)I"⟩, 13)]
theorem lw_r1 : ∀ q ∈ lw_privs_1, lw_okq q := List.forall_mem_cons.mpr ⟨lw_p0, List.forall_mem_cons.mpr ⟨lw_p1, List.forall_mem_cons.mpr ⟨lw_p2, List.forall_mem_cons.mpr ⟨lw_p3, List.forall_mem_cons.mpr ⟨lw_p4, List.forall_mem_cons.mpr ⟨lw_p5, List.forall_mem_cons.mpr ⟨lw_p6, List.forall_mem_cons.mpr ⟨lw_p7, List.forall_mem_cons.mpr ⟨lw_p8, List.forall_mem_cons.mpr ⟨lw_p9, List.forall_mem_cons.mpr ⟨lw_p10, List.forall_mem_cons.mpr ⟨lw_p11, List.forall_mem_cons.mpr ⟨lw_p12, List.forall_mem_cons.mpr ⟨lw_p13, List.forall_mem_cons.mpr ⟨lw_p14, List.forall_mem_cons.mpr ⟨lw_p15, fun _ h => absurd h List.not_mem_nil⟩⟩⟩⟩⟩⟩⟩⟩⟩⟩⟩⟩⟩⟩⟩⟩
theorem lw_p16 : lw_okq (⟨"TideMills$Creek", "grind", "(LTideMills$Mill;I)V"⟩, 13) := ⟨⟨by decide +kernel, by decide +kernel⟩, List.mem_of_getElem? (i := 23) (by decide +kernel), List.mem_of_getElem? (i := 379) (by decide +kernel), List.mem_of_getElem? (i := 380) (by decide +kernel)⟩
theorem lw_p17 : lw_okq (⟨"TideMills$Mill", "isPlace", "(I)Z"⟩, 16) := ⟨⟨by decide +kernel, by decide +kernel⟩, List.mem_of_getElem? (i := 29) (by decide +kernel), List.mem_of_getElem? (i := 387) (by decide +kernel), List.mem_of_getElem? (i := 388) (by decide +kernel)⟩
theorem lw_p18 : lw_okq (⟨"TideMills$Mill", "moveSack", "(II)V"⟩, 16) := ⟨⟨by decide +kernel, by decide +kernel⟩, List.mem_of_getElem? (i := 29) (by decide +kernel), List.mem_of_getElem? (i := 395) (by decide +kernel), List.mem_of_getElem? (i := 396) (by decide +kernel)⟩
theorem lw_p19 : lw_okq (⟨"TideMills", "shareInTime", "()D"⟩, 8) := ⟨⟨by decide +kernel, by decide +kernel⟩, List.mem_of_getElem? (i := 15) (by decide +kernel), List.mem_of_getElem? (i := 408) (by decide +kernel), List.mem_of_getElem? (i := 409) (by decide +kernel)⟩
theorem lw_p20 : lw_okq (⟨"TideMills", "numberOfAll", "(I)I"⟩, 8) := ⟨⟨by decide +kernel, by decide +kernel⟩, List.mem_of_getElem? (i := 15) (by decide +kernel), List.mem_of_getElem? (i := 418) (by decide +kernel), List.mem_of_getElem? (i := 419) (by decide +kernel)⟩
theorem lw_p21 : lw_okq (⟨"TideMills", "withMill", "(JLTideMills$Mill;)J"⟩, 8) := ⟨⟨by decide +kernel, by decide +kernel⟩, List.mem_of_getElem? (i := 15) (by decide +kernel), List.mem_of_getElem? (i := 434) (by decide +kernel), List.mem_of_getElem? (i := 435) (by decide +kernel)⟩
theorem lw_p22 : lw_okq (⟨"TideMills", "numberOfMill", "(LTideMills$Mill;I)I"⟩, 8) := ⟨⟨by decide +kernel, by decide +kernel⟩, List.mem_of_getElem? (i := 15) (by decide +kernel), List.mem_of_getElem? (i := 438) (by decide +kernel), List.mem_of_getElem? (i := 439) (by decide +kernel)⟩
theorem lw_p23 : lw_okq (⟨"TideMills", "stoneThatGrindsMost", "(LTideMills$Mill;)I"⟩, 8) := ⟨⟨by decide +kernel, by decide +kernel⟩, List.mem_of_getElem? (i := 15) (by decide +kernel), List.mem_of_getElem? (i := 450) (by decide +kernel), List.mem_of_getElem? (i := 451) (by decide +kernel)⟩
theorem lw_p24 : lw_okq (⟨"TideMills", "millOfRank", "(I)I"⟩, 8) := ⟨⟨by decide +kernel, by decide +kernel⟩, List.mem_of_getElem? (i := 15) (by decide +kernel), List.mem_of_getElem? (i := 467) (by decide +kernel), List.mem_of_getElem? (i := 468) (by decide +kernel)⟩
theorem lw_p25 : lw_okq (⟨"TideMills", "foreseen", "(II)I"⟩, 8) := ⟨⟨by decide +kernel, by decide +kernel⟩, List.mem_of_getElem? (i := 15) (by decide +kernel), List.mem_of_getElem? (i := 472) (by decide +kernel), List.mem_of_getElem? (i := 473) (by decide +kernel)⟩
theorem lw_p26 : lw_okq (⟨"TideMills", "millOrThrow", "(I)LTideMills$Mill;"⟩, 8) := ⟨⟨by decide +kernel, by decide +kernel⟩, List.mem_of_getElem? (i := 15) (by decide +kernel), List.mem_of_getElem? (i := 492) (by decide +kernel), List.mem_of_getElem? (i := 493) (by decide +kernel)⟩
theorem lw_p27 : lw_okq (⟨"java/lang/Throwable", "fillInStackTrace", "(I)Ljava/lang/Throwable;"⟩, 6) := ⟨⟨by decide +kernel, by decide +kernel⟩, List.mem_of_getElem? (i := 535) (by decide +kernel), List.mem_of_getElem? (i := 533) (by decide +kernel), List.mem_of_getElem? (i := 534) (by decide +kernel)⟩
theorem lw_p28 : lw_okq (⟨"TideMills$History", "dropOldest", "()V"⟩, 2) := ⟨⟨by decide +kernel, by decide +kernel⟩, List.mem_of_getElem? (i := 154) (by decide +kernel), List.mem_of_getElem? (i := 607) (by decide +kernel), List.mem_of_getElem? (i := 608) (by decide +kernel)⟩
theorem lw_p29 : lw_okq (⟨"TideMills$History", "stateAt", "(I)LTideMills$Creek;"⟩, 2) := ⟨⟨by decide +kernel, by decide +kernel⟩, List.mem_of_getElem? (i := 154) (by decide +kernel), List.mem_of_getElem? (i := 611) (by decide +kernel), List.mem_of_getElem? (i := 612) (by decide +kernel)⟩
theorem lw_p30 : lw_okq (⟨"TideMills$Mill", "placeFor", "(II)I"⟩, 16) := ⟨⟨by decide +kernel, by decide +kernel⟩, List.mem_of_getElem? (i := 29) (by decide +kernel), List.mem_of_getElem? (i := 676) (by decide +kernel), List.mem_of_getElem? (i := 677) (by decide +kernel)⟩
theorem lw_p31 : lw_okq (⟨"TideMills", "millOfSackOrThrow", "(I)LTideMills$Mill;"⟩, 8) := ⟨⟨by decide +kernel, by decide +kernel⟩, List.mem_of_getElem? (i := 15) (by decide +kernel), List.mem_of_getElem? (i := 687) (by decide +kernel), List.mem_of_getElem? (i := 688) (by decide +kernel)⟩
def lw_privs_2 : List (MethodName × Nat) := [(⟨"TideMills$Creek", "grind", "(LTideMills$Mill;I)V"⟩, 13), (⟨"TideMills$Mill", "isPlace", "(I)Z"⟩, 16), (⟨"TideMills$Mill", "moveSack", "(II)V"⟩, 16), (⟨"TideMills", "shareInTime", "()D"⟩, 8), (⟨"TideMills", "numberOfAll", "(I)I"⟩, 8), (⟨"TideMills", "withMill", "(JLTideMills$Mill;)J"⟩, 8), (⟨"TideMills", "numberOfMill", "(LTideMills$Mill;I)I"⟩, 8), (⟨"TideMills", "stoneThatGrindsMost", "(LTideMills$Mill;)I"⟩, 8), (⟨"TideMills", "millOfRank", "(I)I"⟩, 8), (⟨"TideMills", "foreseen", "(II)I"⟩, 8), (⟨"TideMills", "millOrThrow", "(I)LTideMills$Mill;"⟩, 8), (⟨"java/lang/Throwable", "fillInStackTrace", "(I)Ljava/lang/Throwable;"⟩, 6), (⟨"TideMills$History", "dropOldest", "()V"⟩, 2), (⟨"TideMills$History", "stateAt", "(I)LTideMills$Creek;"⟩, 2), (⟨"TideMills$Mill", "placeFor", "(II)I"⟩, 16), (⟨"TideMills", "millOfSackOrThrow", "(I)LTideMills$Mill;"⟩, 8)]
theorem lw_r2 : ∀ q ∈ lw_privs_2, lw_okq q := List.forall_mem_cons.mpr ⟨lw_p16, List.forall_mem_cons.mpr ⟨lw_p17, List.forall_mem_cons.mpr ⟨lw_p18, List.forall_mem_cons.mpr ⟨lw_p19, List.forall_mem_cons.mpr ⟨lw_p20, List.forall_mem_cons.mpr ⟨lw_p21, List.forall_mem_cons.mpr ⟨lw_p22, List.forall_mem_cons.mpr ⟨lw_p23, List.forall_mem_cons.mpr ⟨lw_p24, List.forall_mem_cons.mpr ⟨lw_p25, List.forall_mem_cons.mpr ⟨lw_p26, List.forall_mem_cons.mpr ⟨lw_p27, List.forall_mem_cons.mpr ⟨lw_p28, List.forall_mem_cons.mpr ⟨lw_p29, List.forall_mem_cons.mpr ⟨lw_p30, List.forall_mem_cons.mpr ⟨lw_p31, fun _ h => absurd h List.not_mem_nil⟩⟩⟩⟩⟩⟩⟩⟩⟩⟩⟩⟩⟩⟩⟩⟩
theorem lw_p32 : lw_okq (⟨"TideMills", "doParts", "()I"⟩, 8) := ⟨⟨by decide +kernel, by decide +kernel⟩, List.mem_of_getElem? (i := 15) (by decide +kernel), List.mem_of_getElem? (i := 726) (by decide +kernel), List.mem_of_getElem? (i := 727) (by decide +kernel)⟩
theorem lw_p33 : lw_okq (⟨"TideMills", "doPart", "()Z"⟩, 8) := ⟨⟨by decide +kernel, by decide +kernel⟩, List.mem_of_getElem? (i := 15) (by decide +kernel), List.mem_of_getElem? (i := 730) (by decide +kernel), List.mem_of_getElem? (i := 731) (by decide +kernel)⟩
theorem lw_p34 : lw_okq (⟨"TideMillsModel", "put", "(III)V"⟩, 14) := ⟨⟨by decide +kernel, by decide +kernel⟩, List.mem_of_getElem? (i := 819) (by decide +kernel), List.mem_of_getElem? (i := 825) (by decide +kernel), List.mem_of_getElem? (i := 826) (by decide +kernel)⟩
theorem lw_p35 : lw_okq (⟨"TideMillsModel", "of", "(II)I"⟩, 14) := ⟨⟨by decide +kernel, by decide +kernel⟩, List.mem_of_getElem? (i := 819) (by decide +kernel), List.mem_of_getElem? (i := 886) (by decide +kernel), List.mem_of_getElem? (i := 887) (by decide +kernel)⟩
theorem lw_p36 : lw_okq (⟨"TideMillsModel", "holds", "(I)Z"⟩, 14) := ⟨⟨by decide +kernel, by decide +kernel⟩, List.mem_of_getElem? (i := 819) (by decide +kernel), List.mem_of_getElem? (i := 890) (by decide +kernel), List.mem_of_getElem? (i := 891) (by decide +kernel)⟩
theorem lw_p37 : lw_okq (⟨"TideMillsModel", "save", "()V"⟩, 14) := ⟨⟨by decide +kernel, by decide +kernel⟩, List.mem_of_getElem? (i := 819) (by decide +kernel), List.mem_of_getElem? (i := 894) (by decide +kernel), List.mem_of_getElem? (i := 895) (by decide +kernel)⟩
theorem lw_p38 : lw_okq (⟨"TideMillsModel", "gears", "(III)I"⟩, 14) := ⟨⟨by decide +kernel, by decide +kernel⟩, List.mem_of_getElem? (i := 819) (by decide +kernel), List.mem_of_getElem? (i := 909) (by decide +kernel), List.mem_of_getElem? (i := 910) (by decide +kernel)⟩
theorem lw_p39 : lw_okq (⟨"TideMillsModel", "hours", "(I)I"⟩, 14) := ⟨⟨by decide +kernel, by decide +kernel⟩, List.mem_of_getElem? (i := 819) (by decide +kernel), List.mem_of_getElem? (i := 921) (by decide +kernel), List.mem_of_getElem? (i := 922) (by decide +kernel)⟩
theorem lw_p40 : lw_okq (⟨"TideMillsModel", "hour", "()V"⟩, 14) := ⟨⟨by decide +kernel, by decide +kernel⟩, List.mem_of_getElem? (i := 819) (by decide +kernel), List.mem_of_getElem? (i := 925) (by decide +kernel), List.mem_of_getElem? (i := 926) (by decide +kernel)⟩
theorem lw_p41 : lw_okq (⟨"TideMillsModel", "fill", "(I)V"⟩, 14) := ⟨⟨by decide +kernel, by decide +kernel⟩, List.mem_of_getElem? (i := 819) (by decide +kernel), List.mem_of_getElem? (i := 929) (by decide +kernel), List.mem_of_getElem? (i := 930) (by decide +kernel)⟩
theorem lw_p42 : lw_okq (⟨"TideMillsModel", "tideIn", "(I)I"⟩, 14) := ⟨⟨by decide +kernel, by decide +kernel⟩, List.mem_of_getElem? (i := 819) (by decide +kernel), List.mem_of_getElem? (i := 933) (by decide +kernel), List.mem_of_getElem? (i := 934) (by decide +kernel)⟩
theorem lw_p43 : lw_okq (⟨"TideMillsModel", "add", "(III)V"⟩, 14) := ⟨⟨by decide +kernel, by decide +kernel⟩, List.mem_of_getElem? (i := 819) (by decide +kernel), List.mem_of_getElem? (i := 937) (by decide +kernel), List.mem_of_getElem? (i := 938) (by decide +kernel)⟩
theorem lw_p44 : lw_okq (⟨"TideMillsModel", "ranked", "(I)I"⟩, 14) := ⟨⟨by decide +kernel, by decide +kernel⟩, List.mem_of_getElem? (i := 819) (by decide +kernel), List.mem_of_getElem? (i := 941) (by decide +kernel), List.mem_of_getElem? (i := 942) (by decide +kernel)⟩
theorem lw_p45 : lw_okq (⟨"TideMillsModel", "rankOf", "(I)I"⟩, 14) := ⟨⟨by decide +kernel, by decide +kernel⟩, List.mem_of_getElem? (i := 819) (by decide +kernel), List.mem_of_getElem? (i := 945) (by decide +kernel), List.mem_of_getElem? (i := 946) (by decide +kernel)⟩
theorem lw_p46 : lw_okq (⟨"TideMillsModel", "reason", "(I)I"⟩, 14) := ⟨⟨by decide +kernel, by decide +kernel⟩, List.mem_of_getElem? (i := 819) (by decide +kernel), List.mem_of_getElem? (i := 949) (by decide +kernel), List.mem_of_getElem? (i := 950) (by decide +kernel)⟩
theorem lw_p47 : lw_okq (⟨"TideMillsModel", "head", "(I)I"⟩, 14) := ⟨⟨by decide +kernel, by decide +kernel⟩, List.mem_of_getElem? (i := 819) (by decide +kernel), List.mem_of_getElem? (i := 953) (by decide +kernel), List.mem_of_getElem? (i := 954) (by decide +kernel)⟩
def lw_privs_3 : List (MethodName × Nat) := [(⟨"TideMills", "doParts", "()I"⟩, 8), (⟨"TideMills", "doPart", "()Z"⟩, 8), (⟨"TideMillsModel", "put", "(III)V"⟩, 14), (⟨"TideMillsModel", "of", "(II)I"⟩, 14), (⟨"TideMillsModel", "holds", "(I)Z"⟩, 14), (⟨"TideMillsModel", "save", "()V"⟩, 14), (⟨"TideMillsModel", "gears", "(III)I"⟩, 14), (⟨"TideMillsModel", "hours", "(I)I"⟩, 14), (⟨"TideMillsModel", "hour", "()V"⟩, 14), (⟨"TideMillsModel", "fill", "(I)V"⟩, 14), (⟨"TideMillsModel", "tideIn", "(I)I"⟩, 14), (⟨"TideMillsModel", "add", "(III)V"⟩, 14), (⟨"TideMillsModel", "ranked", "(I)I"⟩, 14), (⟨"TideMillsModel", "rankOf", "(I)I"⟩, 14), (⟨"TideMillsModel", "reason", "(I)I"⟩, 14), (⟨"TideMillsModel", "head", "(I)I"⟩, 14)]
theorem lw_r3 : ∀ q ∈ lw_privs_3, lw_okq q := List.forall_mem_cons.mpr ⟨lw_p32, List.forall_mem_cons.mpr ⟨lw_p33, List.forall_mem_cons.mpr ⟨lw_p34, List.forall_mem_cons.mpr ⟨lw_p35, List.forall_mem_cons.mpr ⟨lw_p36, List.forall_mem_cons.mpr ⟨lw_p37, List.forall_mem_cons.mpr ⟨lw_p38, List.forall_mem_cons.mpr ⟨lw_p39, List.forall_mem_cons.mpr ⟨lw_p40, List.forall_mem_cons.mpr ⟨lw_p41, List.forall_mem_cons.mpr ⟨lw_p42, List.forall_mem_cons.mpr ⟨lw_p43, List.forall_mem_cons.mpr ⟨lw_p44, List.forall_mem_cons.mpr ⟨lw_p45, List.forall_mem_cons.mpr ⟨lw_p46, List.forall_mem_cons.mpr ⟨lw_p47, fun _ h => absurd h List.not_mem_nil⟩⟩⟩⟩⟩⟩⟩⟩⟩⟩⟩⟩⟩⟩⟩⟩
theorem lw_p48 : lw_okq (⟨"TideMillsModel", "goesAhead", "(II)Z"⟩, 14) := ⟨⟨by decide +kernel, by decide +kernel⟩, List.mem_of_getElem? (i := 819) (by decide +kernel), List.mem_of_getElem? (i := 957) (by decide +kernel), List.mem_of_getElem? (i := 958) (by decide +kernel)⟩
theorem lw_p49 : lw_okq (⟨"TideMillsModel", "sackRow", "(II)I"⟩, 14) := ⟨⟨by decide +kernel, by decide +kernel⟩, List.mem_of_getElem? (i := 819) (by decide +kernel), List.mem_of_getElem? (i := 961) (by decide +kernel), List.mem_of_getElem? (i := 962) (by decide +kernel)⟩
theorem lw_p50 : lw_okq (⟨"TideMillsModel", "turn", "(I)V"⟩, 14) := ⟨⟨by decide +kernel, by decide +kernel⟩, List.mem_of_getElem? (i := 819) (by decide +kernel), List.mem_of_getElem? (i := 965) (by decide +kernel), List.mem_of_getElem? (i := 966) (by decide +kernel)⟩
theorem lw_p51 : lw_okq (⟨"TideMillsModel", "remove", "(II)V"⟩, 14) := ⟨⟨by decide +kernel, by decide +kernel⟩, List.mem_of_getElem? (i := 819) (by decide +kernel), List.mem_of_getElem? (i := 969) (by decide +kernel), List.mem_of_getElem? (i := 970) (by decide +kernel)⟩
theorem lw_p52 : lw_okq (⟨"TideMillsModel", "hasRoom", "(I)Z"⟩, 14) := ⟨⟨by decide +kernel, by decide +kernel⟩, List.mem_of_getElem? (i := 819) (by decide +kernel), List.mem_of_getElem? (i := 977) (by decide +kernel), List.mem_of_getElem? (i := 978) (by decide +kernel)⟩
theorem lw_p53 : lw_okq (⟨"TideMillsModel", "come", "(III)I"⟩, 14) := ⟨⟨by decide +kernel, by decide +kernel⟩, List.mem_of_getElem? (i := 819) (by decide +kernel), List.mem_of_getElem? (i := 981) (by decide +kernel), List.mem_of_getElem? (i := 982) (by decide +kernel)⟩
theorem lw_p54 : lw_okq (⟨"TideMillsModel", "insert", "(IIIII)I"⟩, 14) := ⟨⟨by decide +kernel, by decide +kernel⟩, List.mem_of_getElem? (i := 819) (by decide +kernel), List.mem_of_getElem? (i := 985) (by decide +kernel), List.mem_of_getElem? (i := 986) (by decide +kernel)⟩
theorem lw_p55 : lw_okq (⟨"TideMillsModel", "comesAhead", "(III)Z"⟩, 14) := ⟨⟨by decide +kernel, by decide +kernel⟩, List.mem_of_getElem? (i := 819) (by decide +kernel), List.mem_of_getElem? (i := 989) (by decide +kernel), List.mem_of_getElem? (i := 990) (by decide +kernel)⟩
theorem lw_p56 : lw_okq (⟨"TideMillsModel", "whereIs", "(I)I"⟩, 14) := ⟨⟨by decide +kernel, by decide +kernel⟩, List.mem_of_getElem? (i := 819) (by decide +kernel), List.mem_of_getElem? (i := 997) (by decide +kernel), List.mem_of_getElem? (i := 998) (by decide +kernel)⟩
theorem lw_p57 : lw_okq (⟨"TideMillsModel", "readText", "(Z)Z"⟩, 14) := ⟨⟨by decide +kernel, by decide +kernel⟩, List.mem_of_getElem? (i := 819) (by decide +kernel), List.mem_of_getElem? (i := 1017) (by decide +kernel), List.mem_of_getElem? (i := 1018) (by decide +kernel)⟩
theorem lw_p58 : lw_okq (⟨"TideMillsModel", "readPart", "()Z"⟩, 14) := ⟨⟨by decide +kernel, by decide +kernel⟩, List.mem_of_getElem? (i := 819) (by decide +kernel), List.mem_of_getElem? (i := 1021) (by decide +kernel), List.mem_of_getElem? (i := 1022) (by decide +kernel)⟩
theorem lw_p59 : lw_okq (⟨"TideMillsModel", "readNumber", "(III)Z"⟩, 14) := ⟨⟨by decide +kernel, by decide +kernel⟩, List.mem_of_getElem? (i := 819) (by decide +kernel), List.mem_of_getElem? (i := 1025) (by decide +kernel), List.mem_of_getElem? (i := 1026) (by decide +kernel)⟩
theorem lw_p60 : lw_okq (⟨"TideMillsModel", "isNext", "(II)Z"⟩, 14) := ⟨⟨by decide +kernel, by decide +kernel⟩, List.mem_of_getElem? (i := 819) (by decide +kernel), List.mem_of_getElem? (i := 1029) (by decide +kernel), List.mem_of_getElem? (i := 1030) (by decide +kernel)⟩
theorem lw_p61 : lw_okq (⟨"TideMillsModel", "readMill", "()Z"⟩, 14) := ⟨⟨by decide +kernel, by decide +kernel⟩, List.mem_of_getElem? (i := 819) (by decide +kernel), List.mem_of_getElem? (i := 1033) (by decide +kernel), List.mem_of_getElem? (i := 1034) (by decide +kernel)⟩
theorem lw_p62 : lw_okq (⟨"TideMillsModel", "takes", "(I)Z"⟩, 14) := ⟨⟨by decide +kernel, by decide +kernel⟩, List.mem_of_getElem? (i := 819) (by decide +kernel), List.mem_of_getElem? (i := 1037) (by decide +kernel), List.mem_of_getElem? (i := 1038) (by decide +kernel)⟩
theorem lw_p63 : lw_okq (⟨"TideMillsModel", "does", "()Z"⟩, 14) := ⟨⟨by decide +kernel, by decide +kernel⟩, List.mem_of_getElem? (i := 819) (by decide +kernel), List.mem_of_getElem? (i := 1041) (by decide +kernel), List.mem_of_getElem? (i := 1042) (by decide +kernel)⟩
def lw_privs_4 : List (MethodName × Nat) := [(⟨"TideMillsModel", "goesAhead", "(II)Z"⟩, 14), (⟨"TideMillsModel", "sackRow", "(II)I"⟩, 14), (⟨"TideMillsModel", "turn", "(I)V"⟩, 14), (⟨"TideMillsModel", "remove", "(II)V"⟩, 14), (⟨"TideMillsModel", "hasRoom", "(I)Z"⟩, 14), (⟨"TideMillsModel", "come", "(III)I"⟩, 14), (⟨"TideMillsModel", "insert", "(IIIII)I"⟩, 14), (⟨"TideMillsModel", "comesAhead", "(III)Z"⟩, 14), (⟨"TideMillsModel", "whereIs", "(I)I"⟩, 14), (⟨"TideMillsModel", "readText", "(Z)Z"⟩, 14), (⟨"TideMillsModel", "readPart", "()Z"⟩, 14), (⟨"TideMillsModel", "readNumber", "(III)Z"⟩, 14), (⟨"TideMillsModel", "isNext", "(II)Z"⟩, 14), (⟨"TideMillsModel", "readMill", "()Z"⟩, 14), (⟨"TideMillsModel", "takes", "(I)Z"⟩, 14), (⟨"TideMillsModel", "does", "()Z"⟩, 14)]
theorem lw_r4 : ∀ q ∈ lw_privs_4, lw_okq q := List.forall_mem_cons.mpr ⟨lw_p48, List.forall_mem_cons.mpr ⟨lw_p49, List.forall_mem_cons.mpr ⟨lw_p50, List.forall_mem_cons.mpr ⟨lw_p51, List.forall_mem_cons.mpr ⟨lw_p52, List.forall_mem_cons.mpr ⟨lw_p53, List.forall_mem_cons.mpr ⟨lw_p54, List.forall_mem_cons.mpr ⟨lw_p55, List.forall_mem_cons.mpr ⟨lw_p56, List.forall_mem_cons.mpr ⟨lw_p57, List.forall_mem_cons.mpr ⟨lw_p58, List.forall_mem_cons.mpr ⟨lw_p59, List.forall_mem_cons.mpr ⟨lw_p60, List.forall_mem_cons.mpr ⟨lw_p61, List.forall_mem_cons.mpr ⟨lw_p62, List.forall_mem_cons.mpr ⟨lw_p63, fun _ h => absurd h List.not_mem_nil⟩⟩⟩⟩⟩⟩⟩⟩⟩⟩⟩⟩⟩⟩⟩⟩
theorem lw_p64 : lw_okq (⟨"TideMillsModel", "millTold", "(II)I"⟩, 14) := ⟨⟨by decide +kernel, by decide +kernel⟩, List.mem_of_getElem? (i := 819) (by decide +kernel), List.mem_of_getElem? (i := 1065) (by decide +kernel), List.mem_of_getElem? (i := 1066) (by decide +kernel)⟩
theorem lw_p65 : lw_okq (⟨"TideMillsModel", "sackTold", "(III)I"⟩, 14) := ⟨⟨by decide +kernel, by decide +kernel⟩, List.mem_of_getElem? (i := 819) (by decide +kernel), List.mem_of_getElem? (i := 1073) (by decide +kernel), List.mem_of_getElem? (i := 1074) (by decide +kernel)⟩
theorem lw_p66 : lw_okq (⟨"TideMillsModel", "countTold", "(I)I"⟩, 14) := ⟨⟨by decide +kernel, by decide +kernel⟩, List.mem_of_getElem? (i := 819) (by decide +kernel), List.mem_of_getElem? (i := 1093) (by decide +kernel), List.mem_of_getElem? (i := 1094) (by decide +kernel)⟩
theorem lw_p67 : lw_okq (⟨"TideMillsModel", "sum", "(I)I"⟩, 14) := ⟨⟨by decide +kernel, by decide +kernel⟩, List.mem_of_getElem? (i := 819) (by decide +kernel), List.mem_of_getElem? (i := 1097) (by decide +kernel), List.mem_of_getElem? (i := 1098) (by decide +kernel)⟩
theorem lw_p68 : lw_okq (⟨"TideMillsModel", "wouldBring", "(II)I"⟩, 14) := ⟨⟨by decide +kernel, by decide +kernel⟩, List.mem_of_getElem? (i := 819) (by decide +kernel), List.mem_of_getElem? (i := 1113) (by decide +kernel), List.mem_of_getElem? (i := 1114) (by decide +kernel)⟩
theorem lw_p69 : lw_okq (⟨"TideMillsModel", "groundBehind", "(I)I"⟩, 14) := ⟨⟨by decide +kernel, by decide +kernel⟩, List.mem_of_getElem? (i := 819) (by decide +kernel), List.mem_of_getElem? (i := 1121) (by decide +kernel), List.mem_of_getElem? (i := 1122) (by decide +kernel)⟩
theorem lw_p70 : lw_okq (⟨"TideMillsModel", "bestFor", "(I)I"⟩, 14) := ⟨⟨by decide +kernel, by decide +kernel⟩, List.mem_of_getElem? (i := 819) (by decide +kernel), List.mem_of_getElem? (i := 1129) (by decide +kernel), List.mem_of_getElem? (i := 1130) (by decide +kernel)⟩
theorem lw_p71 : lw_okq (⟨"TideMillsModel", "rests", "()I"⟩, 14) := ⟨⟨by decide +kernel, by decide +kernel⟩, List.mem_of_getElem? (i := 819) (by decide +kernel), List.mem_of_getElem? (i := 1133) (by decide +kernel), List.mem_of_getElem? (i := 1134) (by decide +kernel)⟩
theorem lw_p72 : lw_okq (⟨"TideMillsModel", "shareInTime", "()D"⟩, 14) := ⟨⟨by decide +kernel, by decide +kernel⟩, List.mem_of_getElem? (i := 819) (by decide +kernel), List.mem_of_getElem? (i := 1141) (by decide +kernel), List.mem_of_getElem? (i := 1142) (by decide +kernel)⟩
theorem lw_p73 : lw_okq (⟨"TideMillsModel", "mix", "(J)V"⟩, 14) := ⟨⟨by decide +kernel, by decide +kernel⟩, List.mem_of_getElem? (i := 819) (by decide +kernel), List.mem_of_getElem? (i := 1150) (by decide +kernel), List.mem_of_getElem? (i := 1151) (by decide +kernel)⟩
theorem lw_p74 : lw_okq (⟨"TideMillsModel", "mixMill", "(I)V"⟩, 14) := ⟨⟨by decide +kernel, by decide +kernel⟩, List.mem_of_getElem? (i := 819) (by decide +kernel), List.mem_of_getElem? (i := 1155) (by decide +kernel), List.mem_of_getElem? (i := 1156) (by decide +kernel)⟩
def lw_privs_5 : List (MethodName × Nat) := [(⟨"TideMillsModel", "millTold", "(II)I"⟩, 14), (⟨"TideMillsModel", "sackTold", "(III)I"⟩, 14), (⟨"TideMillsModel", "countTold", "(I)I"⟩, 14), (⟨"TideMillsModel", "sum", "(I)I"⟩, 14), (⟨"TideMillsModel", "wouldBring", "(II)I"⟩, 14), (⟨"TideMillsModel", "groundBehind", "(I)I"⟩, 14), (⟨"TideMillsModel", "bestFor", "(I)I"⟩, 14), (⟨"TideMillsModel", "rests", "()I"⟩, 14), (⟨"TideMillsModel", "shareInTime", "()D"⟩, 14), (⟨"TideMillsModel", "mix", "(J)V"⟩, 14), (⟨"TideMillsModel", "mixMill", "(I)V"⟩, 14)]
theorem lw_r5 : ∀ q ∈ lw_privs_5, lw_okq q := List.forall_mem_cons.mpr ⟨lw_p64, List.forall_mem_cons.mpr ⟨lw_p65, List.forall_mem_cons.mpr ⟨lw_p66, List.forall_mem_cons.mpr ⟨lw_p67, List.forall_mem_cons.mpr ⟨lw_p68, List.forall_mem_cons.mpr ⟨lw_p69, List.forall_mem_cons.mpr ⟨lw_p70, List.forall_mem_cons.mpr ⟨lw_p71, List.forall_mem_cons.mpr ⟨lw_p72, List.forall_mem_cons.mpr ⟨lw_p73, List.forall_mem_cons.mpr ⟨lw_p74, fun _ h => absurd h List.not_mem_nil⟩⟩⟩⟩⟩⟩⟩⟩⟩⟩⟩
def lw_privs : List (MethodName × Nat) := lw_privs_1 ++ (lw_privs_2 ++ (lw_privs_3 ++ (lw_privs_4 ++ (lw_privs_5))))
def lw_tbl : List Cond := k2_sels lw_privs ++ tables_1
theorem lw_privs_ok : ∀ q ∈ lw_privs, lw_okq q := by
  show ∀ q ∈ lw_privs_1 ++ (lw_privs_2 ++ (lw_privs_3 ++ (lw_privs_4 ++ (lw_privs_5)))), lw_okq q
  exact List.forall_mem_append.mpr ⟨lw_r1, List.forall_mem_append.mpr ⟨lw_r2, List.forall_mem_append.mpr ⟨lw_r3, List.forall_mem_append.mpr ⟨lw_r4, lw_r5⟩⟩⟩⟩
/-- the streams that the claim lets the run draw from -/
abbrev lw_cs : List Choice := [Jvm.Choice.named "NaN.bits"]
theorem lw_bits : nanBits ∈ lw_cs := by first | decide | exact List.mem_cons_self | simp [lw_cs, nanBits]
end
section
/-! ===== BEGIN words of one list among another's, by their places ===== -/
theorem goodIn_r {big : List Cond} (ws : List Cond) (ps : List Nat) (hp : ws = ps.filterMap (fun i => big[i]?)) (h : ws.all goodWord = true) : GoodIn big ws := by
  intro w hw
  have h1 := List.all_eq_true.mp h w hw
  rw [hp] at hw
  obtain ⟨i, -, hi⟩ := List.mem_filterMap.mp hw
  have hm : w ∈ big := by first | exact List.mem_of_getElem? hi | exact List.getElem?_mem hi
  exact ⟨hm, good_of_word h1⟩
theorem goodIn_app {big a b : List Cond} (ha : GoodIn big a) (hb : GoodIn big b) : GoodIn big (a ++ b) := fun w h => (List.mem_append.mp h).elim (ha w) (hb w)
theorem goodIn_ca {big a b : List Cond} {c : Cond} (ha : GoodIn big (c :: a)) (hb : GoodIn big b) : GoodIn big (c :: (a ++ b)) := fun w h => (List.mem_cons.mp h).elim (fun e => ha w (List.mem_cons.mpr (Or.inl e))) (fun h => (List.mem_append.mp h).elim (fun h => ha w (List.mem_cons.mpr (Or.inr h))) (hb w))
theorem goodIn_sub {big ws : List Cond} (hm : ∀ w ∈ ws, w ∈ big) (h : ws.all goodWord = true) : GoodIn big ws := fun w hw => ⟨hm w hw, good_of_word (List.all_eq_true.mp h w hw)⟩
/-! ===== END ===== -/
/-! ===== BEGIN exceptions that leave a method, and their catching by the caller (launches without stack traces) ===== -/
section VXA
/-! The laws vx_back, vx_callV, vx_callS, vx_callSW, vx_throw0, vx_throwS follow proofs of the library, with one case more: JvmDerived/Free/Laws.lean (Back.of_free), Shelf42/LK1.lean (callV, callS), Shelf/KitTraced.lean (throwNew0V, throwNewS). -/
/-- where a method has thrown q: the class by its name, the cell, what was written, the world -/
def vx_T (XC : String → State → State → Prop) (st : State) (q : Addr) (t : State) (mc ms : Nat) (free : Addr → Prop) : Prop :=
  ∃ (E : String) (ce : Cell) (L : List Loc), XC E st t ∧ t.heap[q]? = some ce ∧ ce.vm = .none ∧ st.vm.findClass E = some ce.cls ∧ st.WarmedH t.vm ∧ st.sameButNew ({ t with vm := st.vm } : State) L mc ms ∧ ∀ z ∈ L, free z.base
def vx_Q (Qc : Array Value → State → Outcome → State → Prop) (XC : String → State → State → Prop) (mc ms : Nat) (free : Addr → Prop) : Array Value → State → Outcome → State → Prop := fun a st o t =>
  (Qc a st o t ∧ ∃ L, FrameEnd st o t L mc ms ∧ ∀ q ∈ L, free q.base) ∨ ∃ q, o = .threw q ∧ vx_T XC st q t mc ms free
/-- a callee that returns or throws -/
def vx_Met (l : Launch) (y : MethodName) (ws : List Cond) (rm : Room) (Pc : Array Value → State → Prop) (Qc : Array Value → State → Outcome → State → Prop) (XC : String → State → State → Prop) (mc ms : Nat) (free : Addr → Prop) : Prop :=
  MetFree l y (headSpec ws rm) Pc (fun _ _ _ _ _ => True) (vx_Q Qc XC mc ms free)
def vx_Post (XC : String → State → State → Prop) (mc ms : Nat) (free : Addr → Prop) : Pt → Array Value → Addr → Pt → Prop := fun A a q B =>
  ∃ (g : JFrame) (mk : MethodId) (t : State) (L : List Loc) (E : String) (ce : Cell), B.U.heap = t.heap ∧ B.U.vm = t.vm ∧ XC E (A.U.calling g mk a) t ∧ t.heap[q]? = some ce ∧ ce.vm = .none ∧ A.U.vm.findClass E = some ce.cls ∧ B.locs = A.locs ++ L ∧ (∀ z ∈ L, free z.base) ∧ B.cells = A.cells + mc ∧ B.slots = A.slots + ms
def vx_Back (l : Launch) (R : Room) (p : Program) (e : Env) (below : List Frame) (s : State) (sargs : Array Value) (y : MethodName) (len W9 : Nat)
    (Pre : Pt → Array Value → Prop) (Post : Pt → Array Value → Option Value → Pt → Prop) (PostX : Pt → Array Value → Addr → Pt → Prop) : Prop :=
  ∀ (m : MethodId) (meth : Method) (c : Code) (A : Pt) (g : JFrame) (ig : Instr) (mk : MethodId) (a : Array Value),
    Stand p l e R s m sargs below meth c A.U A.locs A.cells A.slots → g.method = m → g.locals.size = c.maxLocals → decode c.code g.pc = .ok (ig, len) →
    2 * g.monitorRoom + (g.stack.map fun v => v.category).sum ≤ W9 → A.U.methodNamed? y = some mk → Pre A a →
    (∃ (v : Option Value) (B : Pt), Stand p l e R s m sargs below meth c B.U B.locs B.cells B.slots ∧ Post A a v B ∧
      Steps p.tables e below (doInvoke e (A.U.setTop g) [] mk a).1 (B.U.setTop { g with pc := g.pc + len, stack := v.toList ++ g.stack })) ∨
    (∃ (q : Addr) (B : Pt), Stand p l e R s m sargs below meth c B.U B.locs B.cells B.slots ∧ PostX A a q B ∧
      Steps p.tables e below (doInvoke e (A.U.setTop g) [] mk a).1 ((B.U.setTop g).pushFrame (.throwing q)))
section Payer
variable {l : Launch} {R : Room} {p : Program} {e : Env} {below : List Frame} {s : State} {sargs : Array Value} {y : MethodName} {len W9 : Nat}
theorem vx_back {ws : List Cond} {rm : Room} {Pc : Array Value → State → Prop} {Qc : Array Value → State → Outcome → State → Prop} {XC : String → State → State → Prop} {mc ms : Nat} {free : Addr → Prop} {bytes : ByteArray} {maxL : Nat} {ret : Option FieldType}
    (hM : vx_Met l y ws rm Pc Qc XC mc ms free) (hblind : FrameBlind Pc) (hrc : rm.cells = mc) (hrs : rm.slots = ms)
    (hframes : rm.frames + 1 ≤ R.frames) (hlocals : W9 + (maxL + 11) + rm.locals ≤ R.locals)
    (hws : ∀ w ∈ ws, ∀ a' U, s.WarmedH U.vm → w.before a' U = true) (hcode : Cond.code y bytes maxL ret ∈ ws) (hinit : ∀ a' U, s.WarmedH U.vm → (Cond.initialized y.cls).before a' U = true) :
    vx_Back l R p e below s sargs y len W9 (PreOf R mc ms Pc) (PostOf Qc mc ms free) (vx_Post XC mc ms free) := by
  intro m meth c A g ig mk a X hg hsize hdg hW hn hp
  have h1 : (headSpec ws rm).pre.before a A.U = true := atoms_intro fun w hw => hws w hw _ _ X.warmed
  have h2 : (Cond.code y bytes maxL ret).before a A.U = true := hws _ hcode _ _ X.warmed
  have h3 : (Cond.initialized y.cls).before a A.U = true := hinit _ _ X.warmed
  have h4 : A.cells + (headSpec ws rm).room.cells ≤ R.cells := by rw [show (headSpec ws rm).room.cells = mc from hrc]; exact hp.1
  have h5 : A.slots + (headSpec ws rm).room.slots ≤ R.slots := by rw [show (headSpec ws rm).room.slots = ms from hrs]; exact hp.2.1
  have hPc : Pc a (A.U.calling g mk a) := hblind _ _ _ _ hp.2.2
  obtain ⟨U, Ls, c0, s0⟩ := A
  dsimp only [Pt.U, Pt.locs, Pt.cells, Pt.slots] at h1 h2 h3 h4 h5 X hn hPc ⊢
  obtain ⟨methY, cY, hmY, hcY, -, hlY, -, -, -, -⟩ := Cond.code_spec hn h2
  obtain ⟨kY, hkY, -⟩ := className_of_methodNamed hn
  have hinitY : kY.init = .initialized := Cond.initialized_spec (findClass_of_methodNamed hn) hkY h3
  have h : At U g.method c below := by rw [hg]; exact X.here
  have hlocals9 : W9 + (maxL + 11) + (headSpec ws rm).room.locals ≤ R.locals := hlocals
  have happ : (headSpec ws rm).appliesLoose y e.platform (U.calling g mk a) = true :=
    Spec.appliesLoose_calling (g := g) h hdg hn hkY hinitY
      (X.room_calling (g := g) (R' := (headSpec ws rm).room) hsize hmY hcY hframes (by rw [hlY]; omega) h4 h5) h1
  obtain ⟨mid, hmid⟩ := h.above
  have hfr : (U.setTop g).frames = (.java g :: mid) ++ below := by rw [State.frames_setTop' g h.top, hmid]; rfl
  obtain ⟨o, s₂, hsteps, -, hend, hq⟩ := Steps.callFree hM p X.admits X.cas X.clock (acts := []) hfr happ hPc trivial
  have hq' : vx_Q Qc XC mc ms free a (U.calling g mk a) o s₂ := hq
  rw [State.frames_setTop' g h.top] at hend
  obtain ⟨g₀, hg0⟩ := Option.isSome_iff_exists.mp h.top
  obtain ⟨r, hr⟩ := State.topJava?_eq_some.mp hg0
  have hr' : (({ U with heap := s₂.heap, slotsUsed := s₂.slotsUsed } : State).setVm s₂.vm).frames = .java g₀ :: r := hr
  rcases hq' with ⟨hqc, L, hfe, hL⟩ | ⟨q, rfl, E, ce, L, hx, hce, hcv, hcl, hW₂, hsm, hL⟩
  · obtain ⟨⟨v, rfl⟩, hW₂, e2, q2, q3, q4, q5, q6⟩ := id hfe
    have e3 : s₂ = ({ (U.calling g mk a).setFrames s₂.frames with heap := s₂.heap, slotsUsed := s₂.slotsUsed } : State).setVm s₂.vm := by
      have : s₂ = ({ s₂ with vm := (U.calling g mk a).vm } : State).setVm s₂.vm := rfl
      rw [e2] at this
      exact this
    obtain ⟨c₂, i₂, len₂, hc₂, hd₂, hf₂⟩ := hend
    have hW' : U.WarmedH s₂.vm := hW₂
    have hcc : c₂ = c := by
      have h1 : s₂.code? g.method = U.code? g.method := by
        rw [State.code?_eq, State.code?_eq, hW'.alike.method?]
      exact Option.some.inj (hc₂.symm.trans (h1.trans h.code))
    subst hcc
    have hlen : len₂ = len := by rw [hdg] at hd₂; cases hd₂; rfl
    subst hlen
    have hs₂ : s₂ = (({ U with heap := s₂.heap, slotsUsed := s₂.slotsUsed } : State).setVm s₂.vm).setTop { g with pc := g.pc + len₂, stack := v.toList ++ g.stack } := by
      refine e3.trans ?_
      rw [hf₂, State.calling_eq h.top, State.setFrames_setFrames, State.setTop_of_frames _ hr', hr]
      rfl
    have hsame : U.sameButNew ({ U with heap := s₂.heap, slotsUsed := s₂.slotsUsed } : State) L mc ms := by
      refine ⟨?_, q2, q3, q4, q5, q6⟩
      obtain ⟨t, ht, -⟩ := State.frames_cons hr
      show ({ U with heap := s₂.heap, slotsUsed := s₂.slotsUsed } : State) = { U.setFrames U.frames with heap := s₂.heap, slotsUsed := s₂.slotsUsed }
      rw [State.setFrames_self ht]
    subst hg
    refine Or.inl ⟨v, ⟨(({ U with heap := s₂.heap, slotsUsed := s₂.slotsUsed } : State).setVm s₂.vm), Ls ++ L, c0 + mc, s0 + ms⟩,
      ⟨X.admits, X.cas, X.clock, X.frames, X.room, X.hears, X.method, X.code, (X.here.setHeapUsed s₂.heap s₂.slotsUsed).setVm hW'.alike, X.tail, State.WarmedH.trans X.warmed hW', X.limits, X.bytes, X.same.trans (hsame.setVm s.vm)⟩,
      ⟨g, mk, s₂, L, rfl, rfl, hqc, rfl, hL, rfl, rfl⟩, ?_⟩
    show Steps p.tables e below _ ((({ U with heap := s₂.heap, slotsUsed := s₂.slotsUsed } : State).setVm s₂.vm).setTop { g with pc := g.pc + len₂, stack := v.toList ++ g.stack })
    rw [← hs₂]
    exact hsteps
  · obtain ⟨e2, q2, q3, q4, q5, q6⟩ := id hsm
    have e3 : s₂ = ({ (U.calling g mk a).setFrames s₂.frames with heap := s₂.heap, slotsUsed := s₂.slotsUsed } : State).setVm s₂.vm := by
      have : s₂ = ({ s₂ with vm := (U.calling g mk a).vm } : State).setVm s₂.vm := rfl
      rw [e2] at this
      exact this
    have hf₂ : s₂.frames = .throwing q :: .java g :: U.frames.tail := hend
    have hW' : U.WarmedH s₂.vm := hW₂
    have hs₂ : s₂ = ((({ U with heap := s₂.heap, slotsUsed := s₂.slotsUsed } : State).setVm s₂.vm).setTop g).pushFrame (.throwing q) := by
      refine e3.trans ?_
      rw [hf₂, State.calling_eq h.top, State.setFrames_setFrames, State.pushFrame, State.frames_setTop _ hr', State.setTop_of_frames _ hr', State.setFrames_setFrames, hr]
      rfl
    have hsame : U.sameButNew ({ U with heap := s₂.heap, slotsUsed := s₂.slotsUsed } : State) L mc ms := by
      refine ⟨?_, q2, q3, q4, q5, q6⟩
      obtain ⟨t, ht, -⟩ := State.frames_cons hr
      show ({ U with heap := s₂.heap, slotsUsed := s₂.slotsUsed } : State) = { U.setFrames U.frames with heap := s₂.heap, slotsUsed := s₂.slotsUsed }
      rw [State.setFrames_self ht]
    subst hg
    refine Or.inr ⟨q, ⟨(({ U with heap := s₂.heap, slotsUsed := s₂.slotsUsed } : State).setVm s₂.vm), Ls ++ L, c0 + mc, s0 + ms⟩,
      ⟨X.admits, X.cas, X.clock, X.frames, X.room, X.hears, X.method, X.code, (X.here.setHeapUsed s₂.heap s₂.slotsUsed).setVm hW'.alike, X.tail, State.WarmedH.trans X.warmed hW', X.limits, X.bytes, X.same.trans (hsame.setVm s.vm)⟩,
      ⟨g, mk, s₂, L, E, ce, rfl, rfl, hx, hce, hcv, hcl, rfl, hL, rfl, rfl⟩, ?_⟩
    show Steps p.tables e below _ (((({ U with heap := s₂.heap, slotsUsed := s₂.slotsUsed } : State).setVm s₂.vm).setTop g).pushFrame (.throwing q))
    rw [← hs₂]
    exact hsteps
end Payer
section Calls
variable {p : Program} {l : Launch} {e : Env} {R : Room} {s : State} {m : MethodId} {args : Array Value} {below : List Frame} {meth : Method} {c : Code} {T : State} {locs : List Loc} {cells slots : Nat}
theorem vx_callV (X : Stand p l e R s m args below meth c T locs cells slots) (hexec : p.tables.exec = Jvm.exec) {own C : String} {index : Nat} {y : MethodName} {bytes : ByteArray} {maxL : Nat} {ret : Option FieldType}
    (hown : s.vm.findClass own = some m.cls) (hlink : (Cond.methodLink own index y).before args s = true) (hinst : (Cond.instanceMethod y).before args s = true) (hsel : (Cond.selects C y y).before args s = true)
    (hcode : (Cond.code y bytes maxL ret).before args s = true) (hy : y.cls ≠ "java/lang/invoke/MethodHandle" ∧ y.cls ≠ "java/lang/invoke/VarHandle")
    {W9 : Nat} {Pre : Pt → Array Value → Prop} {Post : Pt → Array Value → Option Value → Pt → Prop} {PostX : Pt → Array Value → Addr → Pt → Prop} (hK : vx_Back l R p e below s args y 3 W9 Pre Post PostX)
    {b : Addr} {cellB : Cell} (hcell : T.heap[b]? = some cellB) (hobj : cellB.vm.isStatics = false) (hcls : s.vm.findClass C = some cellB.cls)
    {g : JFrame} (hg : g.method = m) (hsize : g.locals.size = c.maxLocals) {argsL rest : List Value} (hlen : ∀ sig, parseMethodDescriptor y.desc = some sig → argsL.length = sig.parameters.length)
    (hstack : g.stack = argsL.reverse ++ .ref b :: rest) (hW : 2 * g.monitorRoom + (rest.map fun v => v.category).sum ≤ W9) (hdg : decode c.code g.pc = .ok (.invokevirtual index, 3))
    (hpre : ∀ vm₁, s.WarmedH vm₁ → Pre ⟨T.setVm vm₁, locs, cells, slots⟩ (Value.ref b :: argsL).toArray) :
    (∃ (v : Option Value) (vm₁ : Vm) (B : Pt), s.WarmedH vm₁ ∧ Stand p l e R s m args below meth c B.U B.locs B.cells B.slots ∧ Post ⟨T.setVm vm₁, locs, cells, slots⟩ (Value.ref b :: argsL).toArray v B ∧
      ∀ target, Steps p.tables e below (B.U.setTop { g with pc := g.pc + 3, stack := v.toList ++ rest }) target → Steps p.tables e below (T.setTop g) target) ∨
    (∃ (q : Addr) (vm₁ : Vm) (B : Pt), s.WarmedH vm₁ ∧ Stand p l e R s m args below meth c B.U B.locs B.cells B.slots ∧ PostX ⟨T.setVm vm₁, locs, cells, slots⟩ (Value.ref b :: argsL).toArray q B ∧
      Steps p.tables e below (T.setTop g) ((B.U.setTop { g with stack := rest }).pushFrame (.throwing q))) := by
  obtain ⟨mk, methM, hnamed, hmethM, hstM, habM⟩ := Cond.instanceMethod_spec hinst
  obtain ⟨methM', cM, hmethM', -, -, -, -, -, -, hsigM⟩ := Cond.code_spec hnamed hcode
  cases hmethM.symm.trans hmethM'
  obtain ⟨c2, r2, m2, q1, q2, q3, q4, kP, hkP, hkPi⟩ := Cond.selects_spec hsel
  cases hcls.symm.trans q1
  cases (State.methodFound?_of_named hnamed hy).symm.trans q2
  cases hnamed.symm.trans q3
  have hselP : selectMethod e.platform s.vm cellB.cls mk = .method mk := by rw [Launch.admits_selectMethod X.admits]; exact q4
  obtain ⟨vm₁, X₁, hstep₁⟩ := X.invokevirtual hexec hown hlink hnamed hmethM hstM hkP hkPi hy (a := b) (cell := cellB) hcell
    (fun z h => by rw [h] at hobj; cases hobj) hselP hmethM habM hkP hkPi (g := g) hg (argsL := argsL) (rest := rest) (hlen _ hsigM) hstack hdg
  rcases hK m meth c ⟨T.setVm vm₁, locs, cells, slots⟩ { g with stack := rest } (.invokevirtual index) mk (Value.ref b :: argsL).toArray X₁ hg hsize hdg hW (X₁.named hnamed) (hpre vm₁ X₁.warmed) with ⟨v, B, X', hpost, hsteps⟩ | ⟨q, B, X', hpost, hsteps⟩
  · exact Or.inl ⟨v, vm₁, B, X₁.warmed, X', hpost, fun target h => hstep₁ _ fun acts => by rw [doInvoke_state]; exact hsteps.trans h⟩
  · exact Or.inr ⟨q, vm₁, B, X₁.warmed, X', hpost, hstep₁ _ fun acts => by rw [doInvoke_state]; exact hsteps⟩
theorem vx_callS (X : Stand p l e R s m args below meth c T locs cells slots) (hexec : p.tables.exec = Jvm.exec) {own : String} {index : Nat} {y : MethodName} {bytes : ByteArray} {maxL : Nat} {ret : Option FieldType}
    (hown : s.vm.findClass own = some m.cls) (hlink : (Cond.methodLink own index y).before args s = true) (hstat : (Cond.static y).before args s = true) (hinit : (Cond.initialized y.cls).before args s = true)
    (hcode : (Cond.code y bytes maxL ret).before args s = true) (hy : y.cls ≠ "java/lang/invoke/MethodHandle" ∧ y.cls ≠ "java/lang/invoke/VarHandle")
    {W9 : Nat} {Pre : Pt → Array Value → Prop} {Post : Pt → Array Value → Option Value → Pt → Prop} {PostX : Pt → Array Value → Addr → Pt → Prop} (hK : vx_Back l R p e below s args y 3 W9 Pre Post PostX)
    {g : JFrame} (hg : g.method = m) (hsize : g.locals.size = c.maxLocals) {argsL rest : List Value} (hlen : ∀ sig, parseMethodDescriptor y.desc = some sig → argsL.length = sig.parameters.length)
    (hstack : g.stack = argsL.reverse ++ rest) (hW : 2 * g.monitorRoom + (rest.map fun v => v.category).sum ≤ W9) (hdg : decode c.code g.pc = .ok (.invokestatic index, 3))
    (hpre : ∀ vm₁, s.WarmedH vm₁ → Pre ⟨T.setVm vm₁, locs, cells, slots⟩ argsL.toArray) :
    (∃ (v : Option Value) (vm₁ : Vm) (B : Pt), s.WarmedH vm₁ ∧ Stand p l e R s m args below meth c B.U B.locs B.cells B.slots ∧ Post ⟨T.setVm vm₁, locs, cells, slots⟩ argsL.toArray v B ∧
      ∀ target, Steps p.tables e below (B.U.setTop { g with pc := g.pc + 3, stack := v.toList ++ rest }) target → Steps p.tables e below (T.setTop g) target) ∨
    (∃ (q : Addr) (vm₁ : Vm) (B : Pt), s.WarmedH vm₁ ∧ Stand p l e R s m args below meth c B.U B.locs B.cells B.slots ∧ PostX ⟨T.setVm vm₁, locs, cells, slots⟩ argsL.toArray q B ∧
      Steps p.tables e below (T.setTop g) ((B.U.setTop { g with stack := rest }).pushFrame (.throwing q))) := by
  obtain ⟨mk, hnamed⟩ := Cond.code_named hcode
  obtain ⟨methM, cM, hmethM, -, -, -, -, -, -, hsigM⟩ := Cond.code_spec hnamed hcode
  have hstatic : methM.isStatic = true := Cond.static_spec hnamed hmethM hstat
  obtain ⟨kP, hkP, -⟩ := className_of_methodNamed hnamed
  have hinitP : kP.init = .initialized := Cond.initialized_spec (findClass_of_methodNamed hnamed) hkP hinit
  obtain ⟨vm₁, X₁, hstep₁⟩ := X.invokestatic hexec hown hlink hnamed hmethM hstatic hkP hinitP hy (g := g) hg (argsL := argsL) (rest := rest) (hlen _ hsigM) hstack hdg
  rcases hK m meth c ⟨T.setVm vm₁, locs, cells, slots⟩ { g with stack := rest } (.invokestatic index) mk argsL.toArray X₁ hg hsize hdg hW (X₁.named hnamed) (hpre vm₁ X₁.warmed) with ⟨v, B, X', hpost, hsteps⟩ | ⟨q, B, X', hpost, hsteps⟩
  · exact Or.inl ⟨v, vm₁, B, X₁.warmed, X', hpost, fun target h => hstep₁ _ fun acts => by rw [doInvoke_state]; exact hsteps.trans h⟩
  · exact Or.inr ⟨q, vm₁, B, X₁.warmed, X', hpost, hstep₁ _ fun acts => by rw [doInvoke_state]; exact hsteps⟩
end Calls
theorem vx_cls {s : State} {T : State} {vm₁ : Vm} {E : String} {k : ClassId} (hW : s.WarmedH vm₁) (h : (T.setVm vm₁).vm.findClass E = some k) : s.vm.findClass E = some k := by
  have h1 : vm₁.findClass E = some k := h
  rw [hW.alike.findClass] at h1
  exact h1
/-- the method's frame g, with q thrown over it -/
def vx_W (p : Program) (l : Launch) (e : Env) (R : Room) (s : State) (m : MethodId) (args : Array Value) (below : List Frame) (meth : Method) (c : Code) (H : Heap) (locs : List Loc) (cells slots : Nat) (Q : State → Prop) (g : JFrame) (q : Addr) : Prop :=
  ∀ T : State, T.heap = H → Stand p l e R s m args below meth c T locs cells slots → ∃ t, Steps p.tables e below ((T.setTop g).pushFrame (.throwing q)) t ∧ Q t
def vx_Run (p : Program) (l : Launch) (e : Env) (R : Room) (s : State) (m : MethodId) (args : Array Value) (below : List Frame) (meth : Method) (c : Code) (H : Heap) (locs : List Loc) (cells slots mc ms : Nat) (g : JFrame) (rest : List Value) (Qa : State → Outcome → State → Prop) (XC : String → State → State → Prop) (free : Addr → Prop) : Prop :=
  ∀ T : State, T.heap = H → Stand p l e R s m args below meth c T locs cells slots →
    (∃ (v : Option Value) (st₀ t T' : State) (L : List Loc), st₀.heap = H ∧ Stand p l e R s m args below meth c T' (locs ++ L) (cells + mc) (slots + ms) ∧ (∀ q ∈ L, free q.base) ∧ T'.heap = t.heap ∧ T'.vm = t.vm ∧ Qa st₀ (.returned v) t ∧
      Goes p e below T g T' { g with pc := g.pc + 3, stack := v.toList ++ rest }) ∨
    (∃ (q : Addr) (st₀ t T' : State) (L : List Loc) (E : String) (ce : Cell), st₀.heap = H ∧ Stand p l e R s m args below meth c T' (locs ++ L) (cells + mc) (slots + ms) ∧ (∀ z ∈ L, free z.base) ∧ T'.heap = t.heap ∧ T'.vm = t.vm ∧ XC E st₀ t ∧ t.heap[q]? = some ce ∧ ce.vm = .none ∧ s.vm.findClass E = some ce.cls ∧
      Steps p.tables e below (T.setTop g) ((T'.setTop { g with stack := rest }).pushFrame (.throwing q)))
def vx_X {S : Type} (px : S → Prop) (B : String → S → State → Prop) (A : Nat → Prop) : String → State → State → Prop := fun E st t => ∃ u : S, px u ∧ B E u t ∧ va_F A st t
section Runs
variable {p : Program} {l : Launch} {e : Env} {R : Room} {s : State} {m : MethodId} {args : Array Value} {below : List Frame} {meth : Method} {c : Code} {H : Heap} {locs : List Loc} {cells slots : Nat}
variable {y : MethodName} {bytes cc : ByteArray} {maxL nL mc ms n index : Nat} {ret : Option FieldType} {ws : List Cond} {rm : Room} {Pc : Array Value → State → Prop} {Qc : Array Value → State → Outcome → State → Prop} {XC : String → State → State → Prop} {free : Addr → Prop} {Ts : List Cond} {own C : String} {b : Addr} {As rest : List Value} {g : JFrame}
theorem vx_callBack (cb : CallB R s args own index y bytes maxL ret ws rm mc ms n) (hM : vx_Met l y ws rm Pc Qc XC mc ms free) (hbl : FrameBlind Pc) : vx_Back l R p e below s args y 3 8 (PreOf R mc ms Pc) (PostOf Qc mc ms free) (vx_Post XC mc ms free) := by
  obtain ⟨hrc, hrs, hfr, hlo, hws, hcw, -, hini, -⟩ := cb
  exact vx_back (bytes := bytes) (maxL := maxL) (ret := ret) hM hbl hrc hrs hfr hlo hws hcw (fun a' U hW => word_at hW (Or.inl (by first | rfl | simp [Cond.onTables, Cond.keeps, Cond.steady])) hini)
theorem vx_runV (S : CallFix p m c cc nL s args Ts own) (hM : vx_Met l y ws rm Pc Qc XC mc ms free) (cw : CallW R s args own C index y bytes maxL ret ws rm mc ms n) (hp : PreV s H C b Pc As)
    (hg : g.method = m) (hn : As.length = n) (hsize : g.locals.size = nL) (hstack : g.stack = As.reverse ++ .ref b :: rest) (hW : 2 * g.monitorRoom + (rest.map fun v => v.category).sum ≤ 8) (hdg : decode cc g.pc = .ok (.invokevirtual index, 3)) (hf : cells + mc ≤ R.cells ∧ slots + ms ≤ R.slots) :
    vx_Run p l e R s m args below meth c H locs cells slots mc ms g rest (Qc (Value.ref b :: As).toArray) XC free := by
  have hK : vx_Back l R p e below s args y 3 8 (PreOf R mc ms Pc) (PostOf Qc mc ms free) (vx_Post XC mc ms free) := vx_callBack cw.1 hM hp.1
  obtain ⟨⟨-, -, -, -, -, -, hcode, -, hy, hlen, hl⟩, hin, hse⟩ := cw
  obtain ⟨hx, hb, hml, ho, -⟩ := S
  obtain ⟨-, ⟨cellB, hcB, hoB, hclB⟩, hPc⟩ := hp
  intro T hT X
  rcases vx_callV X hx (C := C) (bytes := bytes) (maxL := maxL) (ret := ret) ho hl hin hse hcode hy hK (by rw [hT]; exact hcB) hoB hclB hg (hsize.trans hml.symm) (argsL := As) (rest := rest) (fun sig h => hn.trans (hlen sig h)) hstack hW (by rw [hb]; exact hdg)
    (fun vm₁ hW₁ => ⟨hf.1, hf.2, hPc (T.setVm vm₁) hT hW₁⟩) with ⟨v, vm₁, ⟨U', l2, c2, s2⟩, hW₁, X', ⟨g', mk, t, L, e1, e2, hq, h1, hL, h2, h3⟩, st⟩ | ⟨q, vm₁, ⟨U', l2, c2, s2⟩, hW₁, X', ⟨g', mk, t, L, E, ce, e1, e2, hq, hce, hcv, hcl, h1, hL, h2, h3⟩, st⟩
  · dsimp only [Pt.U, Pt.locs, Pt.cells, Pt.slots] at X' e1 e2 h1 h2 h3 st
    subst h1; subst h2; subst h3
    exact Or.inl ⟨v, (T.setVm vm₁).calling g' mk (Value.ref b :: As).toArray, t, U', L, hT, X', hL, e1, e2, hq, st⟩
  · dsimp only [Pt.U, Pt.locs, Pt.cells, Pt.slots] at X' e1 e2 h1 h2 h3 st hcl
    subst h1; subst h2; subst h3
    exact Or.inr ⟨q, (T.setVm vm₁).calling g' mk (Value.ref b :: As).toArray, t, U', L, E, ce, hT, X', hL, e1, e2, hq, hce, hcv, vx_cls hW₁ hcl, st⟩
theorem vx_runS (S : CallFix p m c cc nL s args Ts own) (hM : vx_Met l y ws rm Pc Qc XC mc ms free) (cw : CallB R s args own index y bytes maxL ret ws rm mc ms n ∧ (Cond.static y).before args s = true) (hp : PreS s H Pc As)
    (hg : g.method = m) (hn : As.length = n) (hsize : g.locals.size = nL) (hstack : g.stack = As.reverse ++ rest) (hW : 2 * g.monitorRoom + (rest.map fun v => v.category).sum ≤ 8) (hdg : decode cc g.pc = .ok (.invokestatic index, 3)) (hf : cells + mc ≤ R.cells ∧ slots + ms ≤ R.slots) :
    vx_Run p l e R s m args below meth c H locs cells slots mc ms g rest (Qc As.toArray) XC free := by
  have hK : vx_Back l R p e below s args y 3 8 (PreOf R mc ms Pc) (PostOf Qc mc ms free) (vx_Post XC mc ms free) := vx_callBack cw.1 hM hp.1
  obtain ⟨⟨-, -, -, -, -, -, hcode, hini, hy, hlen, hl⟩, hstt⟩ := cw
  obtain ⟨hx, hb, hml, ho, -⟩ := S
  intro T hT X
  rcases vx_callS X hx (bytes := bytes) (maxL := maxL) (ret := ret) ho hl hstt hini hcode hy hK hg (hsize.trans hml.symm) (argsL := As) (rest := rest) (fun sig h => hn.trans (hlen sig h)) hstack hW (by rw [hb]; exact hdg)
    (fun vm₁ hW₁ => ⟨hf.1, hf.2, hp.2 (T.setVm vm₁) hT hW₁⟩) with ⟨v, vm₁, ⟨U', l2, c2, s2⟩, hW₁, X', ⟨g', mk, t, L, e1, e2, hq, h1, hL, h2, h3⟩, st⟩ | ⟨q, vm₁, ⟨U', l2, c2, s2⟩, hW₁, X', ⟨g', mk, t, L, E, ce, e1, e2, hq, hce, hcv, hcl, h1, hL, h2, h3⟩, st⟩
  · dsimp only [Pt.U, Pt.locs, Pt.cells, Pt.slots] at X' e1 e2 h1 h2 h3 st
    subst h1; subst h2; subst h3
    exact Or.inl ⟨v, (T.setVm vm₁).calling g' mk As.toArray, t, U', L, hT, X', hL, e1, e2, hq, st⟩
  · dsimp only [Pt.U, Pt.locs, Pt.cells, Pt.slots] at X' e1 e2 h1 h2 h3 st hcl
    subst h1; subst h2; subst h3
    exact Or.inr ⟨q, (T.setVm vm₁).calling g' mk As.toArray, t, U', L, E, ce, hT, X', hL, e1, e2, hq, hce, hcv, vx_cls hW₁ hcl, st⟩
end Runs
section Rows
variable {p : Program} {l : Launch} {e : Env} {R : Room} {s : State} {m : MethodId} {args : Array Value} {below : List Frame} {meth : Method} {c : Code} {H : Heap} {locs : List Loc} {cells slots : Nat} {Q : State → Prop}
variable {mc ms : Nat} {free : Addr → Prop} {A0 A1 : Nat → Prop} {H0 : Heap} {a : Array Value} {pc : Nat} {ls : Array Slot} {st0 rest : List Value}
theorem vx_keep {st₀ t T' : State} {L : List Loc} (h0 : st₀.heap = H) (e1 : T'.heap = t.heap) (hS : va_S A0 H0 H locs) (hA : ∀ q, q < H.size → A1 q → A0 q) (hf : ∀ q, free q → A0 q) (hL : ∀ q ∈ L, free q.base) (hF : va_F A1 st₀ t) :
    H.size ≤ T'.heap.size ∧ (∀ q : Nat, q < H.size → ¬ A1 q → T'.heap[q]? = H[q]?) ∧ va_S A0 H0 T'.heap (locs ++ L) := by
  obtain ⟨hz, hk⟩ := hF
  rw [h0] at hz hk
  exact ⟨by rw [e1]; exact hz, fun q h1 h2 => by rw [e1]; exact hk q h1 h2,
    ⟨Nat.le_trans hS.1 (by rw [e1]; exact hz), fun q h1 h2 => by rw [e1, hk q (Nat.lt_of_lt_of_le h1 hS.1) (fun z => h2 (hA q (Nat.lt_of_lt_of_le h1 hS.1) z))]; exact hS.2.1 q h1 h2, fun q hq => by
      rcases List.mem_append.mp hq with h | h
      · exact hS.2.2 q h
      · exact hf _ (hL q h)⟩⟩
theorem vx_calli {S SX : Type} {post : Int32 → S → Prop} {px : SX → Prop} {B : S → State → Prop} {BX : String → SX → State → Prop} {AX : Nat → Prop} (hr : vx_Run p l e R s m args below meth c H locs cells slots mc ms (F0 m pc ls st0) rest (va_Qi post B A1 a) (vx_X px BX AX) free) (hS : va_S A0 H0 H locs) (hA : ∀ q, q < H.size → A1 q → A0 q) (hf : ∀ q, free q → A0 q) (hAX : ∀ q, q < H.size → AX q → A0 q)
    (kx : ∀ (E : String) (ce : Cell) (q9 : Addr) (u : SX) (t : State) (H1 : Heap) (locs1 : List Loc), t.heap = H1 → s.vm.Alike t.vm → px u → BX E u t → H.size ≤ H1.size → (∀ q : Nat, q < H.size → ¬ AX q → H1[q]? = H[q]?) → va_S A0 H0 H1 locs1 → H1[q9]? = some ce → ce.vm = .none → s.vm.findClass E = some ce.cls → vx_W p l e R s m args below meth c H1 locs1 (cells + mc) (slots + ms) Q (F0 m pc ls rest) q9)
    (kk : ∀ (r : Int32) (u : S) (t : State) (H1 : Heap) (locs1 : List Loc), t.heap = H1 → s.vm.Alike t.vm → post r u → B u t → H.size ≤ H1.size → (∀ q : Nat, q < H.size → ¬ A1 q → H1[q]? = H[q]?) → va_S A0 H0 H1 locs1 → W p l e R s m args below meth c H1 locs1 (cells + mc) (slots + ms) Q (F0 m (pc + 3) ls (.int r :: rest))) : W p l e R s m args below meth c H locs cells slots Q (F0 m pc ls st0) := by
  intro T hT X
  rcases hr T hT X with ⟨v, st₀, t, T', L, h0, X', hL, e1, e2, ⟨⟨r, u, hv, hp, hb⟩, hF⟩, st⟩ | ⟨q, st₀, t, T', L, E, ce, h0, X', hL, e1, e2, ⟨u, hp, hb, hF⟩, hce, hcv, hcl, st⟩
  · cases hv
    obtain ⟨k1, k2, k3⟩ := vx_keep h0 e1 hS hA hf hL hF
    obtain ⟨t2, a1, b1⟩ := kk r u t T'.heap (locs ++ L) e1.symm (by rw [← e2]; exact X'.warmed.alike) hp hb k1 k2 k3 T' rfl X'
    exact ⟨t2, st t2 a1, b1⟩
  · obtain ⟨k1, k2, k3⟩ := vx_keep h0 e1 hS hAX hf hL hF
    obtain ⟨t2, a1, b1⟩ := kx E ce q u t T'.heap (locs ++ L) e1.symm (by rw [← e2]; exact X'.warmed.alike) hp hb k1 k2 k3 (by rw [e1]; exact hce) hcv hcl T' rfl X'
    exact ⟨t2, st.trans a1, b1⟩
theorem vx_calll {S SX : Type} {post : Int64 → S → Prop} {px : SX → Prop} {B : S → State → Prop} {BX : String → SX → State → Prop} {AX : Nat → Prop} (hr : vx_Run p l e R s m args below meth c H locs cells slots mc ms (F0 m pc ls st0) rest (va_Ql post B A1 a) (vx_X px BX AX) free) (hS : va_S A0 H0 H locs) (hA : ∀ q, q < H.size → A1 q → A0 q) (hf : ∀ q, free q → A0 q) (hAX : ∀ q, q < H.size → AX q → A0 q)
    (kx : ∀ (E : String) (ce : Cell) (q9 : Addr) (u : SX) (t : State) (H1 : Heap) (locs1 : List Loc), t.heap = H1 → s.vm.Alike t.vm → px u → BX E u t → H.size ≤ H1.size → (∀ q : Nat, q < H.size → ¬ AX q → H1[q]? = H[q]?) → va_S A0 H0 H1 locs1 → H1[q9]? = some ce → ce.vm = .none → s.vm.findClass E = some ce.cls → vx_W p l e R s m args below meth c H1 locs1 (cells + mc) (slots + ms) Q (F0 m pc ls rest) q9)
    (kk : ∀ (r : Int64) (u : S) (t : State) (H1 : Heap) (locs1 : List Loc), t.heap = H1 → s.vm.Alike t.vm → post r u → B u t → H.size ≤ H1.size → (∀ q : Nat, q < H.size → ¬ A1 q → H1[q]? = H[q]?) → va_S A0 H0 H1 locs1 → W p l e R s m args below meth c H1 locs1 (cells + mc) (slots + ms) Q (F0 m (pc + 3) ls (.long r :: rest))) : W p l e R s m args below meth c H locs cells slots Q (F0 m pc ls st0) := by
  intro T hT X
  rcases hr T hT X with ⟨v, st₀, t, T', L, h0, X', hL, e1, e2, ⟨⟨r, u, hv, hp, hb⟩, hF⟩, st⟩ | ⟨q, st₀, t, T', L, E, ce, h0, X', hL, e1, e2, ⟨u, hp, hb, hF⟩, hce, hcv, hcl, st⟩
  · cases hv
    obtain ⟨k1, k2, k3⟩ := vx_keep h0 e1 hS hA hf hL hF
    obtain ⟨t2, a1, b1⟩ := kk r u t T'.heap (locs ++ L) e1.symm (by rw [← e2]; exact X'.warmed.alike) hp hb k1 k2 k3 T' rfl X'
    exact ⟨t2, st t2 a1, b1⟩
  · obtain ⟨k1, k2, k3⟩ := vx_keep h0 e1 hS hAX hf hL hF
    obtain ⟨t2, a1, b1⟩ := kx E ce q u t T'.heap (locs ++ L) e1.symm (by rw [← e2]; exact X'.warmed.alike) hp hb k1 k2 k3 (by rw [e1]; exact hce) hcv hcl T' rfl X'
    exact ⟨t2, st.trans a1, b1⟩
theorem vx_callf {S SX : Type} {post : UInt32 → S → Prop} {px : SX → Prop} {B : S → State → Prop} {BX : String → SX → State → Prop} {AX : Nat → Prop} (hr : vx_Run p l e R s m args below meth c H locs cells slots mc ms (F0 m pc ls st0) rest (va_Qf post B A1 a) (vx_X px BX AX) free) (hS : va_S A0 H0 H locs) (hA : ∀ q, q < H.size → A1 q → A0 q) (hf : ∀ q, free q → A0 q) (hAX : ∀ q, q < H.size → AX q → A0 q)
    (kx : ∀ (E : String) (ce : Cell) (q9 : Addr) (u : SX) (t : State) (H1 : Heap) (locs1 : List Loc), t.heap = H1 → s.vm.Alike t.vm → px u → BX E u t → H.size ≤ H1.size → (∀ q : Nat, q < H.size → ¬ AX q → H1[q]? = H[q]?) → va_S A0 H0 H1 locs1 → H1[q9]? = some ce → ce.vm = .none → s.vm.findClass E = some ce.cls → vx_W p l e R s m args below meth c H1 locs1 (cells + mc) (slots + ms) Q (F0 m pc ls rest) q9)
    (kk : ∀ (r : UInt32) (u : S) (t : State) (H1 : Heap) (locs1 : List Loc), t.heap = H1 → s.vm.Alike t.vm → post r u → B u t → H.size ≤ H1.size → (∀ q : Nat, q < H.size → ¬ A1 q → H1[q]? = H[q]?) → va_S A0 H0 H1 locs1 → W p l e R s m args below meth c H1 locs1 (cells + mc) (slots + ms) Q (F0 m (pc + 3) ls (.float r :: rest))) : W p l e R s m args below meth c H locs cells slots Q (F0 m pc ls st0) := by
  intro T hT X
  rcases hr T hT X with ⟨v, st₀, t, T', L, h0, X', hL, e1, e2, ⟨⟨r, u, hv, hp, hb⟩, hF⟩, st⟩ | ⟨q, st₀, t, T', L, E, ce, h0, X', hL, e1, e2, ⟨u, hp, hb, hF⟩, hce, hcv, hcl, st⟩
  · cases hv
    obtain ⟨k1, k2, k3⟩ := vx_keep h0 e1 hS hA hf hL hF
    obtain ⟨t2, a1, b1⟩ := kk r u t T'.heap (locs ++ L) e1.symm (by rw [← e2]; exact X'.warmed.alike) hp hb k1 k2 k3 T' rfl X'
    exact ⟨t2, st t2 a1, b1⟩
  · obtain ⟨k1, k2, k3⟩ := vx_keep h0 e1 hS hAX hf hL hF
    obtain ⟨t2, a1, b1⟩ := kx E ce q u t T'.heap (locs ++ L) e1.symm (by rw [← e2]; exact X'.warmed.alike) hp hb k1 k2 k3 (by rw [e1]; exact hce) hcv hcl T' rfl X'
    exact ⟨t2, st.trans a1, b1⟩
theorem vx_calld {S SX : Type} {post : UInt64 → S → Prop} {px : SX → Prop} {B : S → State → Prop} {BX : String → SX → State → Prop} {AX : Nat → Prop} (hr : vx_Run p l e R s m args below meth c H locs cells slots mc ms (F0 m pc ls st0) rest (va_Qd post B A1 a) (vx_X px BX AX) free) (hS : va_S A0 H0 H locs) (hA : ∀ q, q < H.size → A1 q → A0 q) (hf : ∀ q, free q → A0 q) (hAX : ∀ q, q < H.size → AX q → A0 q)
    (kx : ∀ (E : String) (ce : Cell) (q9 : Addr) (u : SX) (t : State) (H1 : Heap) (locs1 : List Loc), t.heap = H1 → s.vm.Alike t.vm → px u → BX E u t → H.size ≤ H1.size → (∀ q : Nat, q < H.size → ¬ AX q → H1[q]? = H[q]?) → va_S A0 H0 H1 locs1 → H1[q9]? = some ce → ce.vm = .none → s.vm.findClass E = some ce.cls → vx_W p l e R s m args below meth c H1 locs1 (cells + mc) (slots + ms) Q (F0 m pc ls rest) q9)
    (kk : ∀ (r : UInt64) (u : S) (t : State) (H1 : Heap) (locs1 : List Loc), t.heap = H1 → s.vm.Alike t.vm → post r u → B u t → H.size ≤ H1.size → (∀ q : Nat, q < H.size → ¬ A1 q → H1[q]? = H[q]?) → va_S A0 H0 H1 locs1 → W p l e R s m args below meth c H1 locs1 (cells + mc) (slots + ms) Q (F0 m (pc + 3) ls (.double r :: rest))) : W p l e R s m args below meth c H locs cells slots Q (F0 m pc ls st0) := by
  intro T hT X
  rcases hr T hT X with ⟨v, st₀, t, T', L, h0, X', hL, e1, e2, ⟨⟨r, u, hv, hp, hb⟩, hF⟩, st⟩ | ⟨q, st₀, t, T', L, E, ce, h0, X', hL, e1, e2, ⟨u, hp, hb, hF⟩, hce, hcv, hcl, st⟩
  · cases hv
    obtain ⟨k1, k2, k3⟩ := vx_keep h0 e1 hS hA hf hL hF
    obtain ⟨t2, a1, b1⟩ := kk r u t T'.heap (locs ++ L) e1.symm (by rw [← e2]; exact X'.warmed.alike) hp hb k1 k2 k3 T' rfl X'
    exact ⟨t2, st t2 a1, b1⟩
  · obtain ⟨k1, k2, k3⟩ := vx_keep h0 e1 hS hAX hf hL hF
    obtain ⟨t2, a1, b1⟩ := kx E ce q u t T'.heap (locs ++ L) e1.symm (by rw [← e2]; exact X'.warmed.alike) hp hb k1 k2 k3 (by rw [e1]; exact hce) hcv hcl T' rfl X'
    exact ⟨t2, st.trans a1, b1⟩
theorem vx_callv {S SX : Type} {post : S → Prop} {px : SX → Prop} {B : S → State → Prop} {BX : String → SX → State → Prop} {AX : Nat → Prop} (hr : vx_Run p l e R s m args below meth c H locs cells slots mc ms (F0 m pc ls st0) rest (va_Qv post B A1 a) (vx_X px BX AX) free) (hS : va_S A0 H0 H locs) (hA : ∀ q, q < H.size → A1 q → A0 q) (hf : ∀ q, free q → A0 q) (hAX : ∀ q, q < H.size → AX q → A0 q)
    (kx : ∀ (E : String) (ce : Cell) (q9 : Addr) (u : SX) (t : State) (H1 : Heap) (locs1 : List Loc), t.heap = H1 → s.vm.Alike t.vm → px u → BX E u t → H.size ≤ H1.size → (∀ q : Nat, q < H.size → ¬ AX q → H1[q]? = H[q]?) → va_S A0 H0 H1 locs1 → H1[q9]? = some ce → ce.vm = .none → s.vm.findClass E = some ce.cls → vx_W p l e R s m args below meth c H1 locs1 (cells + mc) (slots + ms) Q (F0 m pc ls rest) q9)
    (kk : ∀ (u : S) (t : State) (H1 : Heap) (locs1 : List Loc), t.heap = H1 → s.vm.Alike t.vm → post u → B u t → H.size ≤ H1.size → (∀ q : Nat, q < H.size → ¬ A1 q → H1[q]? = H[q]?) → va_S A0 H0 H1 locs1 → W p l e R s m args below meth c H1 locs1 (cells + mc) (slots + ms) Q (F0 m (pc + 3) ls (rest))) : W p l e R s m args below meth c H locs cells slots Q (F0 m pc ls st0) := by
  intro T hT X
  rcases hr T hT X with ⟨v, st₀, t, T', L, h0, X', hL, e1, e2, ⟨⟨u, hv, hp, hb⟩, hF⟩, st⟩ | ⟨q, st₀, t, T', L, E, ce, h0, X', hL, e1, e2, ⟨u, hp, hb, hF⟩, hce, hcv, hcl, st⟩
  · cases hv
    obtain ⟨k1, k2, k3⟩ := vx_keep h0 e1 hS hA hf hL hF
    obtain ⟨t2, a1, b1⟩ := kk u t T'.heap (locs ++ L) e1.symm (by rw [← e2]; exact X'.warmed.alike) hp hb k1 k2 k3 T' rfl X'
    exact ⟨t2, st t2 a1, b1⟩
  · obtain ⟨k1, k2, k3⟩ := vx_keep h0 e1 hS hAX hf hL hF
    obtain ⟨t2, a1, b1⟩ := kx E ce q u t T'.heap (locs ++ L) e1.symm (by rw [← e2]; exact X'.warmed.alike) hp hb k1 k2 k3 (by rw [e1]; exact hce) hcv hcl T' rfl X'
    exact ⟨t2, st.trans a1, b1⟩
/-- caught by the row x of this method's table; the rows ahead don't take it -/
theorem vx_catch {own name : String} {E : String} {ce : Cell} {q : Addr} (hown : s.vm.findClass own = some m.cls) (pre : List ExceptionTableEntry) (x : ExceptionTableEntry) (suf : List ExceptionTableEntry) (hsplit : c.exceptionTable.toList = pre ++ x :: suf)
    (hpass : ∀ z ∈ pre, covers z pc = false ∨ (z.catchType ≠ 0 ∧ ∃ nm : String, (Cond.classLink own z.catchType nm).before args s = true ∧ va_Nc E nm s)) (hx : covers x pc = true) (h0 : x.catchType ≠ 0)
    (hlink : (Cond.classLink own x.catchType name).before args s = true) (hcast : (Cond.castable E name).before args s = true) (hcell : H[q]? = some ce) (hv : ce.vm = .none) (hcl : s.vm.findClass E = some ce.cls)
    (kk : W p l e R s m args below meth c H locs cells slots Q (F0 m x.handlerPc ls [.ref q])) : vx_W p l e R s m args below meth c H locs cells slots Q (F0 m pc ls rest) q := by
  intro T hT X
  have hpl : e.platform.magicAccessors = ({} : Platform).magicAccessors := by rw [X.admits.platform]
  obtain ⟨c3, c4, hc3, hc4, hasg⟩ := Cond.castable_spec hcast
  cases Option.some.inj (hc3.symm.trans hcl)
  obtain ⟨c5, hc5, hcl5⟩ := Cond.classLink_spec hown hlink e.platform hpl
  cases Option.some.inj (hc4.symm.trans hc5)
  obtain ⟨vm', X', st⟩ := X.thenCaughtThrough q (g := F0 m pc ls rest) rfl (Steps.refl _) (by rw [hT]; exact hcell) (by rw [hv]; rfl) (by obtain ⟨k9, h9, -⟩ := Vm.findClass_spec hcl; exact ⟨k9, h9⟩) pre x suf hsplit
    (fun z hz => by
      rcases hpass z hz with h | ⟨hz0, nm, hl1, hn1⟩
      · exact Or.inl h
      · obtain ⟨c6, hc6, hcl6⟩ := Cond.classLink_spec hown hl1 e.platform hpl
        obtain ⟨a8, b8, h1, h2, h3⟩ := hn1
        cases Option.some.inj (h1.symm.trans hcl)
        cases Option.some.inj (h2.symm.trans hc6)
        exact Or.inr ⟨hz0, _, hcl6, h3⟩) hx (Or.inr ⟨h0, c4, hcl5, hasg⟩)
  obtain ⟨t, a1, b1⟩ := kk (T.setVm vm') hT X'
  exact ⟨t, st.trans a1, b1⟩
end Rows
section Ends
variable {p : Program} {l : Launch} {e : Env} {R : Room} {s : State} {m : MethodId} {args : Array Value} {below : List Frame} {meth : Method} {c : Code} {H : Heap} {locs : List Loc} {cells slots : Nat} {Q : State → Prop}
variable {mc ms : Nat} {free : Addr → Prop} {A0 A1 : Nat → Prop} {H0 : Heap} {a : Array Value} {ls : Array Slot} {st0 rest : List Value}
variable {Qc : Array Value → State → Outcome → State → Prop} {XC : String → State → State → Prop}
/-- what a body that may throw owes at its end -/
def vx_MQ (below : List Frame) (Qc : Array Value → State → Outcome → State → Prop) (XC : String → State → State → Prop) (a : Array Value) (s : State) (mc ms : Nat) (free : Addr → Prop) : State → Prop := fun t =>
  ∃ o, t.status = .running ∧ Ended t below o ∧ vx_Q Qc XC mc ms free a s o t
theorem vx_ret {g : JFrame} {mc ms : Nat} (k : W p l e R s m args below meth c H locs cells slots (MQ below Qc args s mc ms free) g) : W p l e R s m args below meth c H locs cells slots (vx_MQ below Qc XC args s mc ms free) g := by
  intro T hT X
  obtain ⟨t, a1, o, b1, b2, b3, b4⟩ := k T hT X
  exact ⟨t, a1, o, b1, b2, Or.inl ⟨b3, b4⟩⟩
/-- not caught here: it goes on to the caller -/
theorem vx_widen {g : JFrame} {q : Addr} {k n : Nat} (h1 : cells ≤ k) (h2 : slots ≤ n) (kk : vx_W p l e R s m args below meth c H locs k n Q g q) : vx_W p l e R s m args below meth c H locs cells slots Q g q := fun T hT X => kk T hT (stand_widen X h1 h2)
theorem vx_out {pc : Nat} {E : String} {ce : Cell} {q : Addr} {mc ms : Nat} (hout : ∀ x ∈ c.exceptionTable.toList, covers x pc = false) (hlocks : meth.locks = false) (hcell : H[q]? = some ce) (hv : ce.vm = .none) (hcl : s.vm.findClass E = some ce.cls)
    (hx : ∀ t : State, t.heap = H → s.vm.Alike t.vm → XC E s t) (hf : ∀ z ∈ locs, free z.base) (hc : cells ≤ mc) (hs : slots ≤ ms) :
    vx_W p l e R s m args below meth c H locs cells slots (vx_MQ below Qc XC args s mc ms free) (F0 m pc ls rest) q := by
  intro T hT X
  obtain ⟨st1, hrun, hend, hW, hsm⟩ := X.leaveThrown q (g := F0 m pc ls rest) rfl rfl rfl hout hlocks
  have hcell9 : (T.setFrames (.throwing q :: below)).heap[q]? = some ce := by
    show T.heap[q]? = some ce
    rw [hT]; exact hcell
  exact ⟨_, st1, .threw q, hrun, hend, Or.inr ⟨q, rfl, E, ce, locs, hx _ hT hW.alike, hcell9, hv, hcl, hW, hsm.mono hc hs, hf⟩⟩
theorem vx_frame {U : State} {k n : Nat} (h : s.sameButNew ({ U with vm := s.vm } : State) locs k n) : s.heap.size ≤ U.heap.size ∧ ∀ q : Nat, q < s.heap.size → (∀ z ∈ locs, z.base ≠ q) → U.heap[q]? = s.heap[q]? := by
  obtain ⟨-, h2, -, -, -, h6⟩ := h
  refine ⟨h2, fun q hq hz => ?_⟩
  obtain ⟨c9, e1, e2, e3, e4⟩ := h6 q _ (Array.getElem?_eq_getElem hq)
  have hs : c9.slots = (s.heap[q]).slots := Array.ext_getElem? fun i => e4 i fun hm => hz _ hm rfl
  have h9 : c9 = s.heap[q] := by
    rw [hs] at e2
    exact e2
  have e5 : U.heap[q]? = some c9 := e1
  rw [e5, h9, Array.getElem?_eq_getElem hq]
/-- the words of a throw but the four that speak of the heap -/
def vx_no (w : Cond) : Bool := decide (w ≠ .isRef (.static Bundle.tN "UNASSIGNED_STACK" Bundle.steD)) && decide (w ≠ .isRef (.static Bundle.tN "SUPPRESSED_SENTINEL" Bundle.listD)) && decide (w ≠ .laysStatic Bundle.tN "UNASSIGNED_STACK" Bundle.steD) && decide (w ≠ .laysStatic Bundle.tN "SUPPRESSED_SENTINEL" Bundle.listD)
def vx_at0 (own : String) (ic : Nat) (X : String) (names : List String) : List Cond := (Bundle.ownAtoms0 own ic X names).filter vx_no
def vx_atS (own : String) (ic : Nat) (X : String) (names : List String) : List Cond := (Bundle.ownAtoms own ic X names).filter vx_no
/-- a word that the tables alone decide, or a good one -/
def vx_ot (w : Cond) : Bool := w.onTables || goodWord w
theorem vx_ot_at {args a' : Array Value} {s U : State} {w : Cond} (hW : s.WarmedH U.vm) (hvm : s.vm = U.vm) (hg : vx_ot w = true) (h : w.before args s = true) : w.before a' U = true := by
  simp only [vx_ot, Bool.or_eq_true] at hg
  rcases hg with hg | hg
  · exact va_tabs hg hvm h
  · exact word_at hW (good_of_word hg) h
/-- a list's words: the good ones out of the method's own list, the others by premises of their own -/
theorem vx_hat {args : Array Value} {s : State} {L B : List Cond} (h1 : ∀ w ∈ L.filter goodWord, w.before args s = true) (h2 : ∀ w ∈ L.filter (fun w => !goodWord w), w ∈ B) (h3 : ∀ w ∈ B, w.before args s = true) : ∀ w ∈ L, w.before args s = true := by
  intro w hw
  by_cases g : goodWord w = true
  · exact h1 w (List.mem_filter.mpr ⟨hw, g⟩)
  · refine h3 w (h2 w (List.mem_filter.mpr ⟨hw, ?_⟩))
    show (!goodWord w) = true
    cases hgw : goodWord w
    · rfl
    · exact absurd hgw g
theorem vx_c {args : Array Value} {s : State} {w : Cond} {B : List Cond} (h : w.before args s = true) (t : ∀ w ∈ B, w.before args s = true) : ∀ w' ∈ w :: B, w'.before args s = true := fun w' h' => (List.mem_cons.mp h').elim (fun e => by rw [e]; exact h) (t w')
theorem vx_n {args : Array Value} {s : State} : ∀ w ∈ ([] : List Cond), w.before args s = true := fun _ h => nomatch h
theorem vx_own {args : Array Value} {s : State} {L : List Cond} (h1 : ∀ w ∈ L.filter vx_no, w.before args s = true)
    (hU : (Cond.isRef (.static Bundle.tN "UNASSIGNED_STACK" Bundle.steD)).before args s = true) (hN : (Cond.isRef (.static Bundle.tN "SUPPRESSED_SENTINEL" Bundle.listD)).before args s = true)
    (lU : (Cond.laysStatic Bundle.tN "UNASSIGNED_STACK" Bundle.steD).before args s = true) (lN : (Cond.laysStatic Bundle.tN "SUPPRESSED_SENTINEL" Bundle.listD).before args s = true) : ∀ w ∈ L, w.before args s = true := by
  intro w hw
  by_cases e1 : w = .isRef (.static Bundle.tN "UNASSIGNED_STACK" Bundle.steD)
  · rw [e1]; exact hU
  · by_cases e2 : w = .isRef (.static Bundle.tN "SUPPRESSED_SENTINEL" Bundle.listD)
    · rw [e2]; exact hN
    · by_cases e3 : w = .laysStatic Bundle.tN "UNASSIGNED_STACK" Bundle.steD
      · rw [e3]; exact lU
      · by_cases e4 : w = .laysStatic Bundle.tN "SUPPRESSED_SENTINEL" Bundle.listD
        · rw [e4]; exact lN
        · exact h1 w (List.mem_filter.mpr ⟨hw, by unfold vx_no; rw [decide_eq_true e1, decide_eq_true e2, decide_eq_true e3, decide_eq_true e4]; rfl⟩)
/-- where a static field lies, its class's statics cell in H -/
def vx_L (C n d : String) (A : Nat → Prop) (U : State) (H : Heap) : Prop := ∃ (c : ClassId) (k : Class) (i : Nat) (f : Field) (a : Nat) (cell : Cell), U.vm.findClass C = some c ∧ U.fieldFound? C n d = some (c, k, i, f) ∧ f.isStatic = true ∧ k.statics = some a ∧ H[a]? = some cell ∧ cell.vm.isStatics = true ∧ cell.cls = c ∧ f.slot < cell.slots.size ∧ k.staticTypes[f.slot]? = some f.type ∧ ¬ A a
theorem vx_L.moved {C n d : String} {A : Nat → Prop} {u U : State} {H : Heap} (hvm : u.vm.Alike U.vm) (h : vx_L C n d A u H) : vx_L C n d A U H := by
  obtain ⟨c, k, i, f, a, cell, h1, h2, h3, h4, h5, h6, h7, h8, h9, h10⟩ := h
  obtain ⟨k', hi', he⟩ := State.fieldFound?_setVm hvm h2
  exact ⟨c, k', i, f, a, cell, by rw [hvm.findClass]; exact h1, hi', h3, by rw [he]; exact h4, h5, h6, h7, h8, by rw [he]; exact h9, h10⟩
theorem vx_L.kept {C n d : String} {A : Nat → Prop} {U : State} {H H1 : Heap} (h : vx_L C n d A U H) (hq : ∀ a : Nat, a < H.size → ¬ A a → H1[a]? = H[a]?) : vx_L C n d A U H1 := by
  obtain ⟨c, k, i, f, a, cell, h1, h2, h3, h4, h5, h6, h7, h8, h9, h10⟩ := h
  exact ⟨c, k, i, f, a, cell, h1, h2, h3, h4, by rw [hq a (Array.getElem?_eq_some_iff.mp h5).1 h10]; exact h5, h6, h7, h8, h9, h10⟩
theorem vx_L.narrow {C n d : String} {A B : Nat → Prop} {U : State} {H : Heap} (h : vx_L C n d A U H) (hAB : ∀ q, B q → A q) : vx_L C n d B U H := by
  obtain ⟨c, k, i, f, a, cell, h1, h2, h3, h4, h5, h6, h7, h8, h9, h10⟩ := h
  exact ⟨c, k, i, f, a, cell, h1, h2, h3, h4, h5, h6, h7, h8, h9, fun z => h10 (hAB _ z)⟩
theorem vx_L.word {C n d : String} {A : Nat → Prop} {s : State} {args : Array Value} (h : vx_L C n d A s s.heap) : (Cond.laysStatic C n d).before args s = true := by
  obtain ⟨c, k, i, f, a, cell, h1, h2, h3, h4, h5, h6, h7, h8, h9, -⟩ := h
  show (Cond.laysStatic C n d).holds args s none s [] = true
  exact Cond.laysStatic_of h1 h2 h3 h4 h5 h6 h7 h8 h9
/-- .. and what it holds: null or some reference -/
def vx_Zq (C n d : String) (A : Nat → Prop) (U : State) (H : Heap) : Prop := va_Zq C n d A U H ∧ vx_L C n d A U H
theorem vx_Zq.moved {C n d : String} {A : Nat → Prop} {u U : State} {H : Heap} (hvm : u.vm.Alike U.vm) (h : vx_Zq C n d A u H) : vx_Zq C n d A U H := ⟨va_Zq.moved hvm h.1, vx_L.moved hvm h.2⟩
theorem vx_Zq.kept {C n d : String} {A : Nat → Prop} {U : State} {H H1 : Heap} (h : vx_Zq C n d A U H) (hq : ∀ a : Nat, a < H.size → ¬ A a → H1[a]? = H[a]?) : vx_Zq C n d A U H1 := ⟨va_Zq.kept h.1 hq, vx_L.kept h.2 hq⟩
theorem vx_Zq.narrow {C n d : String} {A B : Nat → Prop} {U : State} {H : Heap} (h : vx_Zq C n d A U H) (hAB : ∀ q, B q → A q) : vx_Zq C n d B U H := ⟨va_Zq.narrow h.1 hAB, vx_L.narrow h.2 hAB⟩
theorem vx_Zqof {args : Array Value} {s : State} {C n d : String} {A : Nat → Prop} (hl : (Cond.laysStatic C n d).before args s = true) (hini : (Cond.initialized C).before args s = true) (h : (Cond.isRef (.static C n d)).before args s = true) (hA : ∀ a : Nat, a < s.heap.size → ¬ A a) : vx_Zq C n d A s s.heap := by
  refine ⟨va_Zqof hl hini h hA, ?_⟩
  obtain ⟨c, k, i, f, a, cell, h1, h2, h3, h4, h5, h6, h7, h8, h9⟩ := Cond.laysStatic_spec hl
  exact ⟨c, k, i, f, a, cell, h1, h2, h3, h4, h5, h6, h7, h8, h9, hA a (Array.getElem?_eq_some_iff.mp h5).1⟩
theorem vx_isRef {C n d : String} {v : Value} {A : Nat → Prop} {s : State} {args : Array Value} (h : va_Z C n d v A s s.heap) (hv : v.isRef = true) : (Cond.isRef (.static C n d)).before args s = true := by
  obtain ⟨cf, kf, fi, f, a, cell, h1, h2, h3, h4, h5, h6, h7, -⟩ := h
  have he : (Term.static C n d).eval args s none [] s = some v := by
    simp [Term.eval, State.fieldNamed?, h1, h2, h4, h5, h6, h7]
  simp only [Cond.before, Cond.holds, Cond.value, he]
  cases v <;> simp_all [Value.isRef]
theorem vx_isRefq {C n d : String} {A : Nat → Prop} {s : State} {args : Array Value} (h : va_Zq C n d A s s.heap) : (Cond.isRef (.static C n d)).before args s = true := by
  rcases h with h | ⟨t, h⟩
  · exact vx_isRef h rfl
  · exact vx_isRef h rfl
/-- the same frame, seen from here: as if the method were called anew in this heap -/
theorem vx_rebase {T : State} (X : Stand p l e R s m args below meth c T locs cells slots) {R' : Room} (hf : R'.frames ≤ R.frames) (hl : R'.locals ≤ R.locals) (hc : cells + R'.cells ≤ R.cells) (hs : slots + R'.slots ≤ R.slots) :
    Stand p l e R' ((T.setVm s.vm).setFrames (.invoking m args :: below)) m args below meth c T [] 0 0 := by
  have htop : (T.setVm s.vm).topJava?.isSome := X.here.top
  have hF : ((T.setVm s.vm).setFrames (.invoking m args :: below)).frames = .invoking m args :: below := State.frames_setFrames _ (State.cur_lt_of_top htop)
  obtain ⟨g₀, hg0⟩ := Option.isSome_iff_exists.mp htop
  obtain ⟨r, hr⟩ := State.topJava?_eq_some.mp hg0
  have hl9 : e.platform.stackLimits (T.setVm s.vm).me = e.platform.stackLimits s.me := X.limits
  have hb9 : (T.setVm s.vm).me.stackBytes = s.me.stackBytes := X.bytes
  refine ⟨X.admits, X.cas, X.clock, hF, ?_, X.hears, X.method, X.code, X.here, X.tail, X.warmed, ?_, ?_, ?_⟩
  · have h := X.room
    have hU : ((T.setVm s.vm).setFrames (.invoking m args :: below)).localsInUse = s.localsInUse := by
      rw [State.localsInUse_invoking hF (meth := meth) (c := c) X.method X.code, State.localsInUse_invoking X.frames X.method X.code]
    simp only [State.hasRoom, Bool.and_eq_true, decide_eq_true_eq] at h ⊢
    obtain ⟨⟨⟨⟨h1, h2, h3, h4, h5, h6⟩, h7⟩, h8⟩, h9⟩ := h
    rw [X.frames, List.length_cons] at h2 h3
    have q1 := X.heapSize
    have q2 := X.used
    simp only [hF, hU, List.length_cons, State.stackLimits_setFrames, State.stackBytes_setFrames, hl9, hb9]
    refine ⟨⟨⟨⟨by omega, by omega, by omega, by omega, by omega, h6⟩, ?_⟩, ?_⟩, X.book⟩
    · show T.heap.size + R'.cells ≤ e.platform.maxCells
      omega
    · show T.slotsUsed + R'.slots ≤ e.platform.maxSlots
      omega
  · rw [State.stackLimits_setFrames]; rfl
  · rw [State.stackBytes_setFrames]; rfl
  · refine ⟨?_, Nat.le_refl _, Nat.le_refl _, ?_, ?_, fun a c9 h9 => ⟨c9, h9, rfl, rfl, fun _ _ => rfl⟩⟩
    · obtain ⟨t, ht, -⟩ := State.frames_cons hr
      show T.setVm s.vm = { ((T.setVm s.vm).setFrames (.invoking m args :: below)).setFrames (T.setVm s.vm).frames with heap := T.heap, slotsUsed := T.slotsUsed }
      rw [State.setFrames_setFrames, State.setFrames_self ht]
      rfl
    · show T.slotsUsed = T.slotsUsed + ((T.heap.toList.drop T.heap.size).map (·.slots.size)).sum
      rw [List.drop_eq_nil_of_le (Nat.le_of_eq Array.length_toList)]
      rfl
    · show ((T.heap.toList.drop T.heap.size).map (·.slots.size)).sum ≤ 0
      rw [List.drop_eq_nil_of_le (Nat.le_of_eq Array.length_toList)]
      exact Nat.le_refl _
/-- 'throw new E()': new; dup; invokespecial; athrow -/
theorem vx_throw0 {cc : ByteArray} {pc : Nat} (hexec : p.tables.exec = Jvm.exec) (hb : c.code = cc) (hl : l.stackTraces = false) {own cls : String} {names : List String} {ik ic mc ms : Nat} {A : Nat → Prop}
    (hown : s.vm.findClass own = some m.cls) (hcls : Bundle.fit cls = true) (hnames : ∀ n ∈ names, Bundle.fit n = true)
    (hk : (Cond.classLink own ik cls).before args s = true) (hini : (Cond.initialized cls).before args s = true) (hat : ∀ w ∈ vx_at0 own ic cls names, w.before args s = true)
    (hgood : ∀ w ∈ Cond.classLink own ik cls :: Cond.initialized cls :: vx_at0 own ic cls names, vx_ot w = true)
    (hU : vx_Zq Bundle.tN "UNASSIGNED_STACK" Bundle.steD A s s.heap) (hN : vx_Zq Bundle.tN "SUPPRESSED_SENTINEL" Bundle.listD A s s.heap) (hS : va_S A s.heap H locs) (hsize : ls.size = c.maxLocals)
    (d0 : decode cc pc = .ok (.new ik, 3)) (d3 : decode cc (pc + 3) = .ok (.dup, 1)) (d4 : decode cc (pc + 4) = .ok (.invokespecial ic, 3)) (d7 : decode cc (pc + 7) = .ok (.athrow, 1))
    (hout : ∀ x ∈ c.exceptionTable.toList, covers x (pc + 7) = false)
    (hRframes : names.length + 3 < R.frames) (hRlocals : (rest.map fun v => v.category).sum + (13 * (names.length + 1) + 42) ≤ R.locals) (hRcells : cells + 1 ≤ R.cells) (hRslots : slots + 6 ≤ R.slots) (hlocks : meth.locks = false)
    (hx : ∀ t : State, s.vm.Alike t.vm → H.size ≤ t.heap.size → (∀ q : Nat, q < H.size → t.heap[q]? = H[q]?) → XC cls s t)
    (hf : ∀ z ∈ locs, free z.base) (hc : cells + 1 ≤ mc) (hs : slots + 6 ≤ ms) :
    W p l e R s m args below meth c H locs cells slots (vx_MQ below Qc XC args s mc ms free) (F0 m pc ls rest) := by
  intro T hT X
  have htr : e.platform.stackTraces = false := (show e.platform.stackTraces = l.stackTraces by rw [X.admits.platform]).trans hl
  have Y := vx_rebase X (R' := { frames := R.frames, locals := R.locals, cells := 1, slots := 6 }) (Nat.le_refl _) (Nat.le_refl _) hRcells hRslots
  obtain ⟨s', hA⟩ : ∃ z, z = (T.setVm s.vm).setFrames (.invoking m args :: below) := ⟨_, rfl⟩
  rw [← hA] at Y
  have hvm : s'.vm = s.vm := by rw [hA]; rfl
  have hhp : s'.heap = H := by rw [hA]; exact hT
  have hW0 : s.WarmedH s'.vm := by rw [hvm]; exact State.WarmedH.refl s
  have hat' : ∀ w ∈ vx_at0 own ic cls names, w.before args s' = true := fun w hw => vx_ot_at hW0 hvm.symm (hgood w (List.mem_cons_of_mem _ (List.mem_cons_of_mem _ hw))) (hat w hw)
  have hk' : (Cond.classLink own ik cls).before args s' = true := vx_ot_at hW0 hvm.symm (hgood _ List.mem_cons_self) hk
  have hini' : (Cond.initialized cls).before args s' = true := vx_ot_at hW0 hvm.symm (hgood _ (List.mem_cons_of_mem _ List.mem_cons_self)) hini
  have hU' : vx_Zq Bundle.tN "UNASSIGNED_STACK" Bundle.steD A s' s'.heap := by rw [hhp]; exact vx_Zq.moved hW0.alike (hU.kept hS.2.1)
  have hN' : vx_Zq Bundle.tN "SUPPRESSED_SENTINEL" Bundle.listD A s' s'.heap := by rw [hhp]; exact vx_Zq.moved hW0.alike (hN.kept hS.2.1)
  have h : ∀ w ∈ Bundle.ownAtoms0 own ic cls names, w.before args s' = true := vx_own hat' (vx_isRefq hU'.1) (vx_isRefq hN'.1) hU'.2.word hN'.2.word
  have hown' : s'.vm.findClass own = some m.cls := by rw [hvm]; exact hown
  have hins : (Cond.instantiable cls 6).before args s' = true := h _ (by simp [Bundle.ownAtoms0])
  obtain ⟨vm₁, cX, kX, hfX, hkX, -, -, X₁, st1⟩ := Y.newCold hexec (own := own) (C := cls) (index := ik) (n := 6) hown' hk' hins hini'
    (g := F0 m pc ls rest) rfl (by rw [hb]; exact d0) (Nat.le_refl _) (Nat.le_refl _)
  generalize hT1 : (T.setVm vm₁).pushCell { cls := cX, slots := kX.instanceTypes.map defaultValue, vm := .none } = T1 at X₁ st1
  have hcat : (Value.ref T.heap.size).category = 1 := rfl
  have hcellA : T1.heap[T.heap.size]? = some (freshCell cX kX) := by rw [← hT1]; exact State.heap_pushCell_size _ _
  have d3' : decode c.code (pc + 3) = .ok (.dup, 1) := by rw [hb]; exact d3
  obtain ⟨U, hsteps, hrun, hend, hW, hsame, ce, hce, hO⟩ := X₁.ctorThrow0 hexec htr (own := own) (cls := cls) (names := names) (ic := ic) hown' hcls hnames h (fun x hx => nomatch hx) hfX hkX hcellA (by rw [hhp, hT]; exact Nat.le_refl _)
    (g := { method := m, pc := pc + 4, locals := ls, stack := .ref T.heap.size :: .ref T.heap.size :: rest, locked := none }) rfl hsize rfl rfl (rest := rest) rfl
    (by rw [hb]; exact d4) (by rw [hb]; exact d7) hout hRframes (by simp only [List.map_cons, List.sum_cons, hcat]; omega) hlocks
  obtain ⟨f1, f2⟩ := vx_frame hsame
  rw [hhp] at f1 f2
  have hWs : s.WarmedH U.vm := State.WarmedH.trans hW0 hW
  have hcl : s.vm.findClass cls = some ce.cls := by
    have h9 := hO.cls
    rw [hvm] at h9
    exact h9
  have hall : s.sameButNew ({ U with vm := s.vm } : State) locs mc ms := by
    subst hA
    obtain ⟨e1, e2⟩ := hsame
    rw [State.setFrames_setFrames] at e1
    have h2 : (T.setVm s.vm).sameButNew ({ U with vm := s.vm } : State) [] (0 + 1) (0 + 6) := ⟨e1, e2⟩
    have h3 := X.same.trans h2
    rw [List.append_nil] at h3
    exact h3.mono hc hs
  refine ⟨U, ?_, .threw T.heap.size, hrun, hend, Or.inr ⟨T.heap.size, rfl, cls, ce, locs, hx U hWs.alike f1 (fun q hq => f2 q hq (fun z hz => nomatch hz)), hce, hO.vm, hcl, hWs, hall, hf⟩⟩
  refine st1 _ ?_
  show Steps p.tables e below (T1.setTop { method := m, pc := pc + 3, locals := ls, stack := .ref T.heap.size :: rest, locked := none }) _
  jvm_step X₁.here [X₁.here.top, hexec, d3', Value.category]
  exact hsteps
/-- 'throw new E("text")': new; dup; ldc; invokespecial; athrow -/
theorem vx_throwS {cc : ByteArray} {pc : Nat} (hexec : p.tables.exec = Jvm.exec) (hb : c.code = cc) (hl : l.stackTraces = false) {own cls text : String} {names : List String} {ik is ic mc ms sa : Nat} {A : Nat → Prop}
    (hown : s.vm.findClass own = some m.cls) (hcls : Bundle.fit cls = true) (hnames : ∀ n ∈ names, Bundle.fit n = true)
    (hk : (Cond.classLink own ik cls).before args s = true) (hini : (Cond.initialized cls).before args s = true) (hstr : vk_R own is text sa s) (hat : ∀ w ∈ vx_atS own ic cls names, w.before args s = true)
    (hgood : ∀ w ∈ Cond.classLink own ik cls :: Cond.initialized cls :: vx_atS own ic cls names, vx_ot w = true)
    (hU : vx_Zq Bundle.tN "UNASSIGNED_STACK" Bundle.steD A s s.heap) (hN : vx_Zq Bundle.tN "SUPPRESSED_SENTINEL" Bundle.listD A s s.heap) (hS : va_S A s.heap H locs) (hsize : ls.size = c.maxLocals)
    (d0 : decode cc pc = .ok (.new ik, 3)) (d3 : decode cc (pc + 3) = .ok (.dup, 1)) (d4 : decode cc (pc + 4) = .ok (.ldc is, 2)) (d6 : decode cc (pc + 6) = .ok (.invokespecial ic, 3)) (d9 : decode cc (pc + 9) = .ok (.athrow, 1))
    (hout : ∀ x ∈ c.exceptionTable.toList, covers x (pc + 9) = false)
    (hRframes : names.length + 3 < R.frames) (hRlocals : (rest.map fun v => v.category).sum + (13 * (names.length + 1) + 43) ≤ R.locals) (hRcells : cells + 1 ≤ R.cells) (hRslots : slots + 6 ≤ R.slots) (hlocks : meth.locks = false)
    (hx : ∀ t : State, s.vm.Alike t.vm → H.size ≤ t.heap.size → (∀ q : Nat, q < H.size → t.heap[q]? = H[q]?) → XC cls s t)
    (hf : ∀ z ∈ locs, free z.base) (hc : cells + 1 ≤ mc) (hs : slots + 6 ≤ ms) :
    W p l e R s m args below meth c H locs cells slots (vx_MQ below Qc XC args s mc ms free) (F0 m pc ls rest) := by
  intro T hT X
  have htr : e.platform.stackTraces = false := (show e.platform.stackTraces = l.stackTraces by rw [X.admits.platform]).trans hl
  have Y := vx_rebase X (R' := { frames := R.frames, locals := R.locals, cells := 1, slots := 6 }) (Nat.le_refl _) (Nat.le_refl _) hRcells hRslots
  obtain ⟨s', hA⟩ : ∃ z, z = (T.setVm s.vm).setFrames (.invoking m args :: below) := ⟨_, rfl⟩
  rw [← hA] at Y
  have hvm : s'.vm = s.vm := by rw [hA]; rfl
  have hhp : s'.heap = H := by rw [hA]; exact hT
  have hW0 : s.WarmedH s'.vm := by rw [hvm]; exact State.WarmedH.refl s
  have hat' : ∀ w ∈ vx_atS own ic cls names, w.before args s' = true := fun w hw => vx_ot_at hW0 hvm.symm (hgood w (List.mem_cons_of_mem _ (List.mem_cons_of_mem _ hw))) (hat w hw)
  have hk' : (Cond.classLink own ik cls).before args s' = true := vx_ot_at hW0 hvm.symm (hgood _ List.mem_cons_self) hk
  have hini' : (Cond.initialized cls).before args s' = true := vx_ot_at hW0 hvm.symm (hgood _ (List.mem_cons_of_mem _ List.mem_cons_self)) hini
  have hU' : vx_Zq Bundle.tN "UNASSIGNED_STACK" Bundle.steD A s' s'.heap := by rw [hhp]; exact vx_Zq.moved hW0.alike (hU.kept hS.2.1)
  have hN' : vx_Zq Bundle.tN "SUPPRESSED_SENTINEL" Bundle.listD A s' s'.heap := by rw [hhp]; exact vx_Zq.moved hW0.alike (hN.kept hS.2.1)
  have h : ∀ w ∈ Bundle.ownAtoms own ic cls names, w.before args s' = true := vx_own hat' (vx_isRefq hU'.1) (vx_isRefq hN'.1) hU'.2.word hN'.2.word
  have hown' : s'.vm.findClass own = some m.cls := by rw [hvm]; exact hown
  have hins : (Cond.instantiable cls 6).before args s' = true := h _ (by simp [Bundle.ownAtoms])
  obtain ⟨vm₁, cX, kX, hfX, hkX, -, -, X₁, st1⟩ := Y.newCold hexec (own := own) (C := cls) (index := ik) (n := 6) hown' hk' hins hini'
    (g := F0 m pc ls rest) rfl (by rw [hb]; exact d0) (Nat.le_refl _) (Nat.le_refl _)
  generalize hT1 : (T.setVm vm₁).pushCell { cls := cX, slots := kX.instanceTypes.map defaultValue, vm := .none } = T1 at X₁ st1
  have hcat : (Value.ref T.heap.size).category = 1 := rfl
  have hcellA : T1.heap[T.heap.size]? = some (freshCell cX kX) := by rw [← hT1]; exact State.heap_pushCell_size _ _
  have d3' : decode c.code (pc + 3) = .ok (.dup, 1) := by rw [hb]; exact d3
  have d4' : decode c.code (pc + 4) = .ok (.ldc is, 2) := by rw [hb]; exact d4
  have hstr' : vk_R own is text sa s' := vk_R.warm hW0 hstr
  obtain ⟨U, hsteps, hrun, hend, hW, hsame, ce, hce, hO⟩ := X₁.ctorThrowS hexec htr (own := own) (cls := cls) (names := names) (ic := ic) hown' hcls hnames h (fun x hx => nomatch hx) hfX hkX hcellA (by rw [hhp, hT]; exact Nat.le_refl _) (msg := .ref sa) rfl
    (g := { method := m, pc := pc + 6, locals := ls, stack := .ref sa :: .ref T.heap.size :: .ref T.heap.size :: rest, locked := none }) rfl hsize rfl rfl (rest := rest) rfl
    (by rw [hb]; exact d6) (by rw [hb]; exact d9) hout hRframes (by simp only [List.map_cons, List.sum_cons, hcat]; omega) hlocks
  obtain ⟨f1, f2⟩ := vx_frame hsame
  rw [hhp] at f1 f2
  have hWs : s.WarmedH U.vm := State.WarmedH.trans hW0 hW
  have hcl : s.vm.findClass cls = some ce.cls := by
    have h9 := hO.cls
    rw [hvm] at h9
    exact h9
  have hall : s.sameButNew ({ U with vm := s.vm } : State) locs mc ms := by
    subst hA
    obtain ⟨e1, e2⟩ := hsame
    rw [State.setFrames_setFrames] at e1
    have h2 : (T.setVm s.vm).sameButNew ({ U with vm := s.vm } : State) [] (0 + 1) (0 + 6) := ⟨e1, e2⟩
    have h3 := X.same.trans h2
    rw [List.append_nil] at h3
    exact h3.mono hc hs
  refine ⟨U, ?_, .threw T.heap.size, hrun, hend, Or.inr ⟨T.heap.size, rfl, cls, ce, locs, hx U hWs.alike f1 (fun q hq => f2 q hq (fun z hz => nomatch hz)), hce, hO.vm, hcl, hWs, hall, hf⟩⟩
  refine st1 _ ?_
  show Steps p.tables e below (T1.setTop { method := m, pc := pc + 3, locals := ls, stack := .ref T.heap.size :: rest, locked := none }) _
  jvm_step X₁.here [X₁.here.top, hexec, d3', Value.category]
  exact X₁.ldcString hexec (own := own) (text := text) (index := is) (a := sa) hown' hstr'.1 hstr'.2
    (g := { method := m, pc := pc + 4, locals := ls, stack := .ref T.heap.size :: .ref T.heap.size :: rest, locked := none }) rfl d4' _ hsteps
/-- 'throw new E("text")', the text by a wide index -/
theorem vx_throwSW {cc : ByteArray} {pc : Nat} (hexec : p.tables.exec = Jvm.exec) (hb : c.code = cc) (hl : l.stackTraces = false) {own cls text : String} {names : List String} {ik is ic mc ms sa : Nat} {A : Nat → Prop}
    (hown : s.vm.findClass own = some m.cls) (hcls : Bundle.fit cls = true) (hnames : ∀ n ∈ names, Bundle.fit n = true)
    (hk : (Cond.classLink own ik cls).before args s = true) (hini : (Cond.initialized cls).before args s = true) (hstr : vk_R own is text sa s) (hat : ∀ w ∈ vx_atS own ic cls names, w.before args s = true)
    (hgood : ∀ w ∈ Cond.classLink own ik cls :: Cond.initialized cls :: vx_atS own ic cls names, vx_ot w = true)
    (hU : vx_Zq Bundle.tN "UNASSIGNED_STACK" Bundle.steD A s s.heap) (hN : vx_Zq Bundle.tN "SUPPRESSED_SENTINEL" Bundle.listD A s s.heap) (hS : va_S A s.heap H locs) (hsize : ls.size = c.maxLocals)
    (d0 : decode cc pc = .ok (.new ik, 3)) (d3 : decode cc (pc + 3) = .ok (.dup, 1)) (d4 : decode cc (pc + 4) = .ok (.ldc_w is, 3)) (d7 : decode cc (pc + 7) = .ok (.invokespecial ic, 3)) (d10 : decode cc (pc + 10) = .ok (.athrow, 1))
    (hout : ∀ x ∈ c.exceptionTable.toList, covers x (pc + 10) = false)
    (hRframes : names.length + 3 < R.frames) (hRlocals : (rest.map fun v => v.category).sum + (13 * (names.length + 1) + 43) ≤ R.locals) (hRcells : cells + 1 ≤ R.cells) (hRslots : slots + 6 ≤ R.slots) (hlocks : meth.locks = false)
    (hx : ∀ t : State, s.vm.Alike t.vm → H.size ≤ t.heap.size → (∀ q : Nat, q < H.size → t.heap[q]? = H[q]?) → XC cls s t)
    (hf : ∀ z ∈ locs, free z.base) (hc : cells + 1 ≤ mc) (hs : slots + 6 ≤ ms) :
    W p l e R s m args below meth c H locs cells slots (vx_MQ below Qc XC args s mc ms free) (F0 m pc ls rest) := by
  intro T hT X
  have htr : e.platform.stackTraces = false := (show e.platform.stackTraces = l.stackTraces by rw [X.admits.platform]).trans hl
  have Y := vx_rebase X (R' := { frames := R.frames, locals := R.locals, cells := 1, slots := 6 }) (Nat.le_refl _) (Nat.le_refl _) hRcells hRslots
  obtain ⟨s', hA⟩ : ∃ z, z = (T.setVm s.vm).setFrames (.invoking m args :: below) := ⟨_, rfl⟩
  rw [← hA] at Y
  have hvm : s'.vm = s.vm := by rw [hA]; rfl
  have hhp : s'.heap = H := by rw [hA]; exact hT
  have hW0 : s.WarmedH s'.vm := by rw [hvm]; exact State.WarmedH.refl s
  have hat' : ∀ w ∈ vx_atS own ic cls names, w.before args s' = true := fun w hw => vx_ot_at hW0 hvm.symm (hgood w (List.mem_cons_of_mem _ (List.mem_cons_of_mem _ hw))) (hat w hw)
  have hk' : (Cond.classLink own ik cls).before args s' = true := vx_ot_at hW0 hvm.symm (hgood _ List.mem_cons_self) hk
  have hini' : (Cond.initialized cls).before args s' = true := vx_ot_at hW0 hvm.symm (hgood _ (List.mem_cons_of_mem _ List.mem_cons_self)) hini
  have hU' : vx_Zq Bundle.tN "UNASSIGNED_STACK" Bundle.steD A s' s'.heap := by rw [hhp]; exact vx_Zq.moved hW0.alike (hU.kept hS.2.1)
  have hN' : vx_Zq Bundle.tN "SUPPRESSED_SENTINEL" Bundle.listD A s' s'.heap := by rw [hhp]; exact vx_Zq.moved hW0.alike (hN.kept hS.2.1)
  have h : ∀ w ∈ Bundle.ownAtoms own ic cls names, w.before args s' = true := vx_own hat' (vx_isRefq hU'.1) (vx_isRefq hN'.1) hU'.2.word hN'.2.word
  have hown' : s'.vm.findClass own = some m.cls := by rw [hvm]; exact hown
  have hins : (Cond.instantiable cls 6).before args s' = true := h _ (by simp [Bundle.ownAtoms])
  obtain ⟨vm₁, cX, kX, hfX, hkX, -, -, X₁, st1⟩ := Y.newCold hexec (own := own) (C := cls) (index := ik) (n := 6) hown' hk' hins hini'
    (g := F0 m pc ls rest) rfl (by rw [hb]; exact d0) (Nat.le_refl _) (Nat.le_refl _)
  generalize hT1 : (T.setVm vm₁).pushCell { cls := cX, slots := kX.instanceTypes.map defaultValue, vm := .none } = T1 at X₁ st1
  have hcat : (Value.ref T.heap.size).category = 1 := rfl
  have hcellA : T1.heap[T.heap.size]? = some (freshCell cX kX) := by rw [← hT1]; exact State.heap_pushCell_size _ _
  have d3' : decode c.code (pc + 3) = .ok (.dup, 1) := by rw [hb]; exact d3
  have d4' : decode c.code (pc + 4) = .ok (.ldc_w is, 3) := by rw [hb]; exact d4
  have hstr' : vk_R own is text sa s' := vk_R.warm hW0 hstr
  obtain ⟨U, hsteps, hrun, hend, hW, hsame, ce, hce, hO⟩ := X₁.ctorThrowS hexec htr (own := own) (cls := cls) (names := names) (ic := ic) hown' hcls hnames h (fun x hx => nomatch hx) hfX hkX hcellA (by rw [hhp, hT]; exact Nat.le_refl _) (msg := .ref sa) rfl
    (g := { method := m, pc := pc + 7, locals := ls, stack := .ref sa :: .ref T.heap.size :: .ref T.heap.size :: rest, locked := none }) rfl hsize rfl rfl (rest := rest) rfl
    (by rw [hb]; exact d7) (by rw [hb]; exact d10) hout hRframes (by simp only [List.map_cons, List.sum_cons, hcat]; omega) hlocks
  obtain ⟨f1, f2⟩ := vx_frame hsame
  rw [hhp] at f1 f2
  have hWs : s.WarmedH U.vm := State.WarmedH.trans hW0 hW
  have hcl : s.vm.findClass cls = some ce.cls := by
    have h9 := hO.cls
    rw [hvm] at h9
    exact h9
  have hall : s.sameButNew ({ U with vm := s.vm } : State) locs mc ms := by
    subst hA
    obtain ⟨e1, e2⟩ := hsame
    rw [State.setFrames_setFrames] at e1
    have h2 : (T.setVm s.vm).sameButNew ({ U with vm := s.vm } : State) [] (0 + 1) (0 + 6) := ⟨e1, e2⟩
    have h3 := X.same.trans h2
    rw [List.append_nil] at h3
    exact h3.mono hc hs
  refine ⟨U, ?_, .threw T.heap.size, hrun, hend, Or.inr ⟨T.heap.size, rfl, cls, ce, locs, hx U hWs.alike f1 (fun q hq => f2 q hq (fun z hz => nomatch hz)), hce, hO.vm, hcl, hWs, hall, hf⟩⟩
  refine st1 _ ?_
  show Steps p.tables e below (T1.setTop { method := m, pc := pc + 3, locals := ls, stack := .ref T.heap.size :: rest, locked := none }) _
  jvm_step X₁.here [X₁.here.top, hexec, d3', Value.category]
  exact X₁.ldcStringW hexec (own := own) (text := text) (index := is) (a := sa) hown' hstr'.1 hstr'.2
    (g := { method := m, pc := pc + 4, locals := ls, stack := .ref T.heap.size :: .ref T.heap.size :: rest, locked := none }) rfl d4' _ hsteps
end Ends
section Bodies
variable {l : Launch}
theorem vx_ofW {y : MethodName} {ws ws' : List Cond} {rm : Room} {Pc : Array Value → State → Prop} {Qc : Array Value → State → Outcome → State → Prop} {XC : String → State → State → Prop} {mc ms : Nat} {free : Addr → Prop} {cc : ByteArray} {maxL : Nat} {ret : Option FieldType}
    (hy : plainName y.cls = true) (hw : ws = Cond.code y cc maxL ret :: ws')
    (body : ∀ p e s m args below meth c s₁, BodyLoose p l y (headSpec ws rm) cc maxL ret e s m args below meth c s₁ → c.maxLocals = maxL → (∀ x ∈ c.exceptionTable.toList, False) → Pc args s →
      W p l e (headSpec ws rm).room s m args below meth c s.heap [] 0 0 (vx_MQ below Qc XC args s mc ms free) (entryFrame m args maxL)) : vx_Met l y ws rm Pc Qc XC mc ms free := by
  refine MetFree.of_bodyS (code := cc) (maxLocals := maxL) (ret := ret) hy ?_ ?_
  · intro args s m h hn
    obtain ⟨meth, c, h1, h2, h3, h4, h5, h6, -, -⟩ := Cond.code_spec hn (atoms_spec (ws := ws) h _ (by rw [hw]; exact List.mem_cons_self))
    exact ⟨meth, c, h1, h2, h3, h4, h5, h6⟩
  · intro p e s m args below meth c s₁ B hml hP _
    have hh0 : s₁.heap = s.heap := by rw [B.state]; rfl
    have ht : ∀ x ∈ c.exceptionTable.toList, False := by
      obtain ⟨meth9, c9, h1, h2, -, -, -, -, h7, -⟩ := Cond.code_spec B.named (atoms_spec (ws := ws) B.pre _ (by rw [hw]; exact List.mem_cons_self))
      cases Option.some.inj (h1.symm.trans B.method)
      cases Option.some.inj (h2.symm.trans (Stand.of_body B).code)
      intro x hx
      rw [Array.isEmpty_iff.mp h7] at hx
      cases hx
    obtain ⟨t, a1, o, b1, b2, b3⟩ := body p e s m args below meth c s₁ B hml ht hP s₁ hh0 (Stand.of_body B)
    exact ⟨t, o, a1, b1, b2, b3⟩
/-- the table of a body with handlers -/
theorem vx_table {p : Program} {x y : MethodName} {S : Spec} {cc bytes : ByteArray} {maxL maxL' : Nat} {ret ret' : Option FieldType} {e : Env} {s s₁ : State} {m : MethodId} {args : Array Value} {below : List Frame} {meth : Method} {c : Code} {hh : List (Nat × Nat × Nat × Nat)}
    (B : BodyLoose p l y S cc maxL ret e s m args below meth c s₁) (h : (Cond.codeWith y bytes maxL' ret' hh).before args s = true) : c.exceptionTable.toList = tableOf hh := by
  obtain ⟨m9, meth9, c9, hn9, h1, h2, -, -, h6, -⟩ := Cond.codeWith_spec h
  cases Option.some.inj (hn9.symm.trans B.named)
  cases Option.some.inj (h1.symm.trans B.method)
  cases Option.some.inj (h2.symm.trans (Stand.of_body B).code)
  rw [← h6, table_eq]
end Bodies
end VXA
/-! ===== END ===== -/
/-! ===== BEGIN a static call of a method with an exception table ===== -/
section VXS
variable {p : Program} {l : Launch} {e : Env} {R : Room} {s : State} {m : MethodId} {args : Array Value} {below : List Frame} {meth : Method} {c : Code} {T : State} {H : Heap} {locs : List Loc} {cells slots : Nat}
abbrev vx_CSW (R : Room) (s : State) (args : Array Value) (own : String) (index : Nat) (y : MethodName) (bytes : ByteArray) (maxL : Nat) (ret : Option FieldType) (hh : List (Nat × Nat × Nat × Nat)) (ws : List Cond) (rm : Room) (mc ms n : Nat) : Prop :=
  (rm.cells = mc ∧ rm.slots = ms ∧ rm.frames + 1 ≤ R.frames ∧ 8 + (maxL + 11) + rm.locals ≤ R.locals ∧ (∀ w ∈ ws, ∀ (a' : Array Value) (U : State), s.WarmedH U.vm → w.before a' U = true) ∧ Cond.codeWith y bytes maxL ret hh ∈ ws) ∧
  (Cond.codeWith y bytes maxL ret hh).before args s = true ∧ (Cond.initialized y.cls).before args s = true ∧ (y.cls ≠ "java/lang/invoke/MethodHandle" ∧ y.cls ≠ "java/lang/invoke/VarHandle") ∧
  (∀ sig, parseMethodDescriptor y.desc = some sig → n = sig.parameters.length) ∧ (Cond.methodLink own index y).before args s = true ∧ (Cond.static y).before args s = true
theorem vx_cwSW {own : String} {index maxL mc ms : Nat} {y : MethodName} {bytes : ByteArray} {ret : Option FieldType} {hh : List (Nat × Nat × Nat × Nat)} {Ts ws ws' : List Cond} {rm : Room} (n : Nat) (ht : ∀ w ∈ Ts, w.before args s = true) (hT : GoodIn Ts (va_wsS own index y ws)) (hw : ws = Cond.codeWith y bytes maxL ret hh :: ws') (hrc : rm.cells = mc) (hrs : rm.slots = ms)
    (hd : y.cls ≠ "java/lang/invoke/MethodHandle" ∧ y.cls ≠ "java/lang/invoke/VarHandle" ∧ (parseMethodDescriptor y.desc).map (fun d => d.parameters.length) = some n) (hR : rm.frames + 1 ≤ R.frames ∧ 8 + (maxL + 11) + rm.locals ≤ R.locals) :
    vx_CSW R s args own index y bytes maxL ret hh ws rm mc ms n := by
  have ok : ∀ w ∈ va_wsS own index y ws, w.before args s = true := fun w h => ht w (hT w h).1
  have hG : GoodIn Ts ws := fun w h => hT w (by unfold va_wsS; exact List.mem_append_right _ h)
  have hc : Cond.codeWith y bytes maxL ret hh ∈ ws := by rw [hw]; exact List.mem_cons_self
  refine ⟨⟨hrc, hrs, hR.1, hR.2, pay_in ht hG, hc⟩, ht _ (hG _ hc).1, ok _ (by simp [va_wsS]), ⟨hd.1, hd.2.1⟩, fun sig h => ?_, ok _ (by simp [va_wsS]), ok _ (by simp [va_wsS])⟩
  have h2 := hd.2.2
  rw [h] at h2
  exact (Option.some.inj h2).symm
theorem vx_callSW (X : Stand p l e R s m args below meth c T locs cells slots) (hexec : p.tables.exec = Jvm.exec) {own : String} {index : Nat} {y : MethodName} {bytes : ByteArray} {maxL : Nat} {ret : Option FieldType} {hh : List (Nat × Nat × Nat × Nat)}
    (hown : s.vm.findClass own = some m.cls) (hlink : (Cond.methodLink own index y).before args s = true) (hstat : (Cond.static y).before args s = true) (hinit : (Cond.initialized y.cls).before args s = true)
    (hcode : (Cond.codeWith y bytes maxL ret hh).before args s = true) (hy : y.cls ≠ "java/lang/invoke/MethodHandle" ∧ y.cls ≠ "java/lang/invoke/VarHandle")
    {W9 : Nat} {Pre : Pt → Array Value → Prop} {Post : Pt → Array Value → Option Value → Pt → Prop} (hK : Back l R p e below s args y 3 W9 Pre Post)
    {g : JFrame} (hg : g.method = m) (hsize : g.locals.size = c.maxLocals) {argsL rest : List Value} (hlen : ∀ sig, parseMethodDescriptor y.desc = some sig → argsL.length = sig.parameters.length)
    (hstack : g.stack = argsL.reverse ++ rest) (hW : 2 * g.monitorRoom + (rest.map fun v => v.category).sum ≤ W9) (hdg : decode c.code g.pc = .ok (.invokestatic index, 3))
    (hpre : ∀ vm₁, s.WarmedH vm₁ → Pre ⟨T.setVm vm₁, locs, cells, slots⟩ argsL.toArray) :
    ∃ (v : Option Value) (vm₁ : Vm) (B : Pt), s.WarmedH vm₁ ∧ Stand p l e R s m args below meth c B.U B.locs B.cells B.slots ∧ Post ⟨T.setVm vm₁, locs, cells, slots⟩ argsL.toArray v B ∧
      ∀ target, Steps p.tables e below (B.U.setTop { g with pc := g.pc + 3, stack := v.toList ++ rest }) target → Steps p.tables e below (T.setTop g) target := by
  obtain ⟨mk, methM, cM, hnamed, hmethM, -, -, -, -, -, -, hsigM⟩ := Cond.codeWith_spec hcode
  have hstatic : methM.isStatic = true := Cond.static_spec hnamed hmethM hstat
  obtain ⟨kP, hkP, -⟩ := className_of_methodNamed hnamed
  have hinitP : kP.init = .initialized := Cond.initialized_spec (findClass_of_methodNamed hnamed) hkP hinit
  obtain ⟨vm₁, X₁, hstep₁⟩ := X.invokestatic hexec hown hlink hnamed hmethM hstatic hkP hinitP hy (g := g) hg (argsL := argsL) (rest := rest) (hlen _ hsigM) hstack hdg
  obtain ⟨v, B, X', hpost, hsteps⟩ := hK m meth c ⟨T.setVm vm₁, locs, cells, slots⟩ { g with stack := rest } (.invokestatic index) mk argsL.toArray X₁ hg hsize hdg hW (X₁.named hnamed) (hpre vm₁ X₁.warmed)
  exact ⟨v, vm₁, B, X₁.warmed, X', hpost, fun target h => hstep₁ _ fun acts => by rw [doInvoke_state]; exact hsteps.trans h⟩
theorem vx_runSW {y : MethodName} {bytes cc : ByteArray} {maxL nL mc ms n index : Nat} {ret : Option FieldType} {hh : List (Nat × Nat × Nat × Nat)} {ws : List Cond} {rm : Room} {Pc : Array Value → State → Prop} {Qc : Array Value → State → Outcome → State → Prop} {free : Addr → Prop} {Ts : List Cond} {own : String} {As rest : List Value} {g : JFrame}
    (S : CallFix p m c cc nL s args Ts own) (hM : Met l y ws rm Pc Qc mc ms free) (cw : vx_CSW R s args own index y bytes maxL ret hh ws rm mc ms n) (hp : PreS s H Pc As)
    (hg : g.method = m) (hn : As.length = n) (hsize : g.locals.size = nL) (hstack : g.stack = As.reverse ++ rest) (hW : 2 * g.monitorRoom + (rest.map fun v => v.category).sum ≤ 8) (hdg : decode cc g.pc = .ok (.invokestatic index, 3)) (hf : cells + mc ≤ R.cells ∧ slots + ms ≤ R.slots) :
    va_Run p l e R s m args below meth c H locs cells slots mc ms g rest (Qc As.toArray) (free) := by
  obtain ⟨⟨hrc, hrs, hfr, hlo, hws, hcw⟩, hcode, hini, hy, hlen, hl, hstt⟩ := cw
  have hK : Back l R p e below s args y 3 8 (PreOf R mc ms Pc) (PostOf Qc mc ms free) := va_backW (hh := hh) (bytes := bytes) (maxL := maxL) (ret := ret) hM hp.1 hrc hrs hfr hlo hws hcw (fun a' U hW => word_at hW (Or.inl (by first | rfl | simp [Cond.onTables, Cond.keeps, Cond.steady])) hini)
  obtain ⟨hx, hb, hml, ho, -⟩ := S
  intro T hT X
  obtain ⟨v, vm₁, ⟨U', l2, c2, s2⟩, hW₁, X', ⟨g', mk, t, L, e1, e2, hq, h1, hL, h2, h3⟩, st⟩ := vx_callSW X hx (hh := hh) (bytes := bytes) (maxL := maxL) (ret := ret) ho hl hstt hini hcode hy hK hg (hsize.trans hml.symm) (argsL := As) (rest := rest) (fun sig h => hn.trans (hlen sig h)) hstack hW (by rw [hb]; exact hdg)
    (fun vm₁ hW₁ => ⟨hf.1, hf.2, hp.2 (T.setVm vm₁) hT hW₁⟩)
  dsimp only [Pt.U, Pt.locs, Pt.cells, Pt.slots] at X' e1 e2 h1 h2 h3 st
  subst h1; subst h2; subst h3
  exact ⟨v, (T.setVm vm₁).calling g' mk As.toArray, t, U', L, hT, X', hL, e1, e2, hq, st⟩
/-- not caught here, past rows that name other classes: it goes on to the caller -/
theorem vx_outP {p : Program} {l : Launch} {e : Env} {R : Room} {s : State} {m : MethodId} {args : Array Value} {below : List Frame} {meth : Method} {c : Code} {H : Heap} {locs : List Loc} {cells slots : Nat} {free : Addr → Prop} {ls : Array Slot} {rest : List Value} {Qc : Array Value → State → Outcome → State → Prop} {XC : String → State → State → Prop}
    {pc : Nat} {own E : String} {ce : Cell} {q : Addr} {mc ms : Nat} (hown : s.vm.findClass own = some m.cls) (hlocks : meth.locks = false)
    (hpass : ∀ z ∈ c.exceptionTable.toList, covers z pc = false ∨ (z.catchType ≠ 0 ∧ ∃ nm : String, (Cond.classLink own z.catchType nm).before args s = true ∧ va_Nc E nm s)) (hcell : H[q]? = some ce) (hv : ce.vm = .none) (hcl : s.vm.findClass E = some ce.cls)
    (hx : ∀ t : State, t.heap = H → s.vm.Alike t.vm → XC E s t) (hf : ∀ z ∈ locs, free z.base) (hc : cells ≤ mc) (hs : slots ≤ ms) :
    vx_W p l e R s m args below meth c H locs cells slots (vx_MQ below Qc XC args s mc ms free) (F0 m pc ls rest) q := by
  intro T hT X
  have hpl : e.platform.magicAccessors = ({} : Platform).magicAccessors := by rw [X.admits.platform]
  obtain ⟨vm', hW', X', st⟩ := X.outThrough hlocks q (g := F0 m pc ls rest) rfl rfl rfl (cell := ce) (by rw [hT]; exact hcell) (by rw [hv]; rfl)
    (by obtain ⟨k9, h9, -⟩ := Vm.findClass_spec hcl; exact ⟨k9, h9⟩) (fun z hz => by
      rcases hpass z hz with h | ⟨hz0, nm, hl1, hn1⟩
      · exact Or.inl h
      · obtain ⟨c6, hc6, hcl6⟩ := Cond.classLink_spec hown hl1 e.platform hpl
        obtain ⟨a8, b8, h1, h2, h3⟩ := hn1
        cases Option.some.inj (h1.symm.trans hcl)
        cases Option.some.inj (h2.symm.trans hc6)
        exact Or.inr ⟨hz0, _, hcl6, h3⟩)
  obtain ⟨g₀, hfr⟩ := X'.frames_eq
  have hcell9 : ((T.setVm vm').setFrames (.throwing q :: below)).heap[q]? = some ce := by
    show T.heap[q]? = some ce
    rw [hT]; exact hcell
  have hend : Ended ((T.setVm vm').setFrames (.throwing q :: below)) below (.threw q) := State.frames_setFrames _ (State.cur_lt_of_frames hfr)
  refine ⟨(T.setVm vm').setFrames (.throwing q :: below), ?_, .threw q, X'.here.running, hend, Or.inr ⟨q, rfl, E, ce, locs, hx _ hT (X'.ends _).1.alike, hcell9, hv, hcl, (X'.ends _).1, (X'.ends _).2.mono hc hs, hf⟩⟩
  rw [X.pushThrowing_eq]
  exact st
/-- a thing of a world lies in the heap -/
theorem vx_lt {D : va_G} {cl : List vw_C} {ws : va_W} {H1 : Heap} (h : va_P D cl ws H1) {k : Nat} {q : Nat × va_E} (hk : ws[k]? = some q) : q.1 < H1.size := (h k q hk).lt
end VXS
/-! ===== END ===== -/
/-! ===== BEGIN methods with a table of their own: called by a name, returning or throwing ===== -/
section VXH
/-! vx_backW, vx_callVX, vx_callSX, vx_callVW, vx_runVW, vx_runVX, vx_runSX, vx_ofWH follow the same proofs as their sisters above (Free/Laws.lean, Shelf42/LK1.lean); vx_outP calls Shelf42/NT130.lean (outThrough). -/
section
variable {l : Launch} {R : Room} {p : Program} {e : Env} {below : List Frame} {s : State} {sargs : Array Value} {y : MethodName} {len W9 : Nat}
theorem vx_backW {ws : List Cond} {rm : Room} {Pc : Array Value → State → Prop} {Qc : Array Value → State → Outcome → State → Prop} {XC : String → State → State → Prop} {mc ms : Nat} {free : Addr → Prop} {bytes : ByteArray} {maxL : Nat} {ret : Option FieldType} {hh : List (Nat × Nat × Nat × Nat)}
    (hM : vx_Met l y ws rm Pc Qc XC mc ms free) (hblind : FrameBlind Pc) (hrc : rm.cells = mc) (hrs : rm.slots = ms)
    (hframes : rm.frames + 1 ≤ R.frames) (hlocals : W9 + (maxL + 11) + rm.locals ≤ R.locals)
    (hws : ∀ w ∈ ws, ∀ a' U, s.WarmedH U.vm → w.before a' U = true) (hcode : Cond.codeWith y bytes maxL ret hh ∈ ws) (hinit : ∀ a' U, s.WarmedH U.vm → (Cond.initialized y.cls).before a' U = true) :
    vx_Back l R p e below s sargs y len W9 (PreOf R mc ms Pc) (PostOf Qc mc ms free) (vx_Post XC mc ms free) := by
  intro m meth c A g ig mk a X hg hsize hdg hW hn hp
  have h1 : (headSpec ws rm).pre.before a A.U = true := atoms_intro fun w hw => hws w hw _ _ X.warmed
  have h2 : (Cond.codeWith y bytes maxL ret hh).before a A.U = true := hws _ hcode _ _ X.warmed
  have h3 : (Cond.initialized y.cls).before a A.U = true := hinit _ _ X.warmed
  have h4 : A.cells + (headSpec ws rm).room.cells ≤ R.cells := by rw [show (headSpec ws rm).room.cells = mc from hrc]; exact hp.1
  have h5 : A.slots + (headSpec ws rm).room.slots ≤ R.slots := by rw [show (headSpec ws rm).room.slots = ms from hrs]; exact hp.2.1
  have hPc : Pc a (A.U.calling g mk a) := hblind _ _ _ _ hp.2.2
  obtain ⟨U, Ls, c0, s0⟩ := A
  dsimp only [Pt.U, Pt.locs, Pt.cells, Pt.slots] at h1 h2 h3 h4 h5 X hn hPc ⊢
  obtain ⟨m9, methY, cY, hn9, hmY, hcY, -, hlY, -⟩ := Cond.codeWith_spec h2
  cases Option.some.inj (hn9.symm.trans hn)
  obtain ⟨kY, hkY, -⟩ := className_of_methodNamed hn
  have hinitY : kY.init = .initialized := Cond.initialized_spec (findClass_of_methodNamed hn) hkY h3
  have h : At U g.method c below := by rw [hg]; exact X.here
  have hlocals9 : W9 + (maxL + 11) + (headSpec ws rm).room.locals ≤ R.locals := hlocals
  have happ : (headSpec ws rm).appliesLoose y e.platform (U.calling g mk a) = true :=
    Spec.appliesLoose_calling (g := g) h hdg hn hkY hinitY
      (X.room_calling (g := g) (R' := (headSpec ws rm).room) hsize hmY hcY hframes (by rw [hlY]; omega) h4 h5) h1
  obtain ⟨mid, hmid⟩ := h.above
  have hfr : (U.setTop g).frames = (.java g :: mid) ++ below := by rw [State.frames_setTop' g h.top, hmid]; rfl
  obtain ⟨o, s₂, hsteps, -, hend, hq⟩ := Steps.callFree hM p X.admits X.cas X.clock (acts := []) hfr happ hPc trivial
  have hq' : vx_Q Qc XC mc ms free a (U.calling g mk a) o s₂ := hq
  rw [State.frames_setTop' g h.top] at hend
  obtain ⟨g₀, hg0⟩ := Option.isSome_iff_exists.mp h.top
  obtain ⟨r, hr⟩ := State.topJava?_eq_some.mp hg0
  have hr' : (({ U with heap := s₂.heap, slotsUsed := s₂.slotsUsed } : State).setVm s₂.vm).frames = .java g₀ :: r := hr
  rcases hq' with ⟨hqc, L, hfe, hL⟩ | ⟨q, rfl, E, ce, L, hx, hce, hcv, hcl, hW₂, hsm, hL⟩
  · obtain ⟨⟨v, rfl⟩, hW₂, e2, q2, q3, q4, q5, q6⟩ := id hfe
    have e3 : s₂ = ({ (U.calling g mk a).setFrames s₂.frames with heap := s₂.heap, slotsUsed := s₂.slotsUsed } : State).setVm s₂.vm := by
      have : s₂ = ({ s₂ with vm := (U.calling g mk a).vm } : State).setVm s₂.vm := rfl
      rw [e2] at this
      exact this
    obtain ⟨c₂, i₂, len₂, hc₂, hd₂, hf₂⟩ := hend
    have hW' : U.WarmedH s₂.vm := hW₂
    have hcc : c₂ = c := by
      have h1 : s₂.code? g.method = U.code? g.method := by
        rw [State.code?_eq, State.code?_eq, hW'.alike.method?]
      exact Option.some.inj (hc₂.symm.trans (h1.trans h.code))
    subst hcc
    have hlen : len₂ = len := by rw [hdg] at hd₂; cases hd₂; rfl
    subst hlen
    have hs₂ : s₂ = (({ U with heap := s₂.heap, slotsUsed := s₂.slotsUsed } : State).setVm s₂.vm).setTop { g with pc := g.pc + len₂, stack := v.toList ++ g.stack } := by
      refine e3.trans ?_
      rw [hf₂, State.calling_eq h.top, State.setFrames_setFrames, State.setTop_of_frames _ hr', hr]
      rfl
    have hsame : U.sameButNew ({ U with heap := s₂.heap, slotsUsed := s₂.slotsUsed } : State) L mc ms := by
      refine ⟨?_, q2, q3, q4, q5, q6⟩
      obtain ⟨t, ht, -⟩ := State.frames_cons hr
      show ({ U with heap := s₂.heap, slotsUsed := s₂.slotsUsed } : State) = { U.setFrames U.frames with heap := s₂.heap, slotsUsed := s₂.slotsUsed }
      rw [State.setFrames_self ht]
    subst hg
    refine Or.inl ⟨v, ⟨(({ U with heap := s₂.heap, slotsUsed := s₂.slotsUsed } : State).setVm s₂.vm), Ls ++ L, c0 + mc, s0 + ms⟩,
      ⟨X.admits, X.cas, X.clock, X.frames, X.room, X.hears, X.method, X.code, (X.here.setHeapUsed s₂.heap s₂.slotsUsed).setVm hW'.alike, X.tail, State.WarmedH.trans X.warmed hW', X.limits, X.bytes, X.same.trans (hsame.setVm s.vm)⟩,
      ⟨g, mk, s₂, L, rfl, rfl, hqc, rfl, hL, rfl, rfl⟩, ?_⟩
    show Steps p.tables e below _ ((({ U with heap := s₂.heap, slotsUsed := s₂.slotsUsed } : State).setVm s₂.vm).setTop { g with pc := g.pc + len₂, stack := v.toList ++ g.stack })
    rw [← hs₂]
    exact hsteps
  · obtain ⟨e2, q2, q3, q4, q5, q6⟩ := id hsm
    have e3 : s₂ = ({ (U.calling g mk a).setFrames s₂.frames with heap := s₂.heap, slotsUsed := s₂.slotsUsed } : State).setVm s₂.vm := by
      have : s₂ = ({ s₂ with vm := (U.calling g mk a).vm } : State).setVm s₂.vm := rfl
      rw [e2] at this
      exact this
    have hf₂ : s₂.frames = .throwing q :: .java g :: U.frames.tail := hend
    have hW' : U.WarmedH s₂.vm := hW₂
    have hs₂ : s₂ = ((({ U with heap := s₂.heap, slotsUsed := s₂.slotsUsed } : State).setVm s₂.vm).setTop g).pushFrame (.throwing q) := by
      refine e3.trans ?_
      rw [hf₂, State.calling_eq h.top, State.setFrames_setFrames, State.pushFrame, State.frames_setTop _ hr', State.setTop_of_frames _ hr', State.setFrames_setFrames, hr]
      rfl
    have hsame : U.sameButNew ({ U with heap := s₂.heap, slotsUsed := s₂.slotsUsed } : State) L mc ms := by
      refine ⟨?_, q2, q3, q4, q5, q6⟩
      obtain ⟨t, ht, -⟩ := State.frames_cons hr
      show ({ U with heap := s₂.heap, slotsUsed := s₂.slotsUsed } : State) = { U.setFrames U.frames with heap := s₂.heap, slotsUsed := s₂.slotsUsed }
      rw [State.setFrames_self ht]
    subst hg
    refine Or.inr ⟨q, ⟨(({ U with heap := s₂.heap, slotsUsed := s₂.slotsUsed } : State).setVm s₂.vm), Ls ++ L, c0 + mc, s0 + ms⟩,
      ⟨X.admits, X.cas, X.clock, X.frames, X.room, X.hears, X.method, X.code, (X.here.setHeapUsed s₂.heap s₂.slotsUsed).setVm hW'.alike, X.tail, State.WarmedH.trans X.warmed hW', X.limits, X.bytes, X.same.trans (hsame.setVm s.vm)⟩,
      ⟨g, mk, s₂, L, E, ce, rfl, rfl, hx, hce, hcv, hcl, rfl, hL, rfl, rfl⟩, ?_⟩
    show Steps p.tables e below _ (((({ U with heap := s₂.heap, slotsUsed := s₂.slotsUsed } : State).setVm s₂.vm).setTop g).pushFrame (.throwing q))
    rw [← hs₂]
    exact hsteps
end
variable {p : Program} {l : Launch} {e : Env} {R : Room} {s : State} {m : MethodId} {args : Array Value} {below : List Frame} {meth : Method} {c : Code} {T : State} {H : Heap} {locs : List Loc} {cells slots : Nat}
theorem vx_callVX (X : Stand p l e R s m args below meth c T locs cells slots) (hexec : p.tables.exec = Jvm.exec) {own C : String} {index : Nat} {y : MethodName} {bytes : ByteArray} {maxL : Nat} {ret : Option FieldType} {hh : List (Nat × Nat × Nat × Nat)}
    (hown : s.vm.findClass own = some m.cls) (hlink : (Cond.methodLink own index y).before args s = true) (hinst : (Cond.instanceMethod y).before args s = true) (hsel : (Cond.selects C y y).before args s = true)
    (hcode : (Cond.codeWith y bytes maxL ret hh).before args s = true) (hy : y.cls ≠ "java/lang/invoke/MethodHandle" ∧ y.cls ≠ "java/lang/invoke/VarHandle")
    {W9 : Nat} {Pre : Pt → Array Value → Prop} {Post : Pt → Array Value → Option Value → Pt → Prop} {PostX : Pt → Array Value → Addr → Pt → Prop} (hK : vx_Back l R p e below s args y 3 W9 Pre Post PostX)
    {b : Addr} {cellB : Cell} (hcell : T.heap[b]? = some cellB) (hobj : cellB.vm.isStatics = false) (hcls : s.vm.findClass C = some cellB.cls)
    {g : JFrame} (hg : g.method = m) (hsize : g.locals.size = c.maxLocals) {argsL rest : List Value} (hlen : ∀ sig, parseMethodDescriptor y.desc = some sig → argsL.length = sig.parameters.length)
    (hstack : g.stack = argsL.reverse ++ .ref b :: rest) (hW : 2 * g.monitorRoom + (rest.map fun v => v.category).sum ≤ W9) (hdg : decode c.code g.pc = .ok (.invokevirtual index, 3))
    (hpre : ∀ vm₁, s.WarmedH vm₁ → Pre ⟨T.setVm vm₁, locs, cells, slots⟩ (Value.ref b :: argsL).toArray) :
    (∃ (v : Option Value) (vm₁ : Vm) (B : Pt), s.WarmedH vm₁ ∧ Stand p l e R s m args below meth c B.U B.locs B.cells B.slots ∧ Post ⟨T.setVm vm₁, locs, cells, slots⟩ (Value.ref b :: argsL).toArray v B ∧
      ∀ target, Steps p.tables e below (B.U.setTop { g with pc := g.pc + 3, stack := v.toList ++ rest }) target → Steps p.tables e below (T.setTop g) target) ∨
    (∃ (q : Addr) (vm₁ : Vm) (B : Pt), s.WarmedH vm₁ ∧ Stand p l e R s m args below meth c B.U B.locs B.cells B.slots ∧ PostX ⟨T.setVm vm₁, locs, cells, slots⟩ (Value.ref b :: argsL).toArray q B ∧
      Steps p.tables e below (T.setTop g) ((B.U.setTop { g with stack := rest }).pushFrame (.throwing q))) := by
  obtain ⟨mk, methM, hnamed, hmethM, hstM, habM⟩ := Cond.instanceMethod_spec hinst
  obtain ⟨m8, methM', cM, hn8, hmethM', -, -, -, -, -, -, hsigM⟩ := Cond.codeWith_spec hcode
  cases Option.some.inj (hn8.symm.trans hnamed)
  cases hmethM.symm.trans hmethM'
  obtain ⟨c2, r2, m2, q1, q2, q3, q4, kP, hkP, hkPi⟩ := Cond.selects_spec hsel
  cases hcls.symm.trans q1
  cases (State.methodFound?_of_named hnamed hy).symm.trans q2
  cases hnamed.symm.trans q3
  have hselP : selectMethod e.platform s.vm cellB.cls mk = .method mk := by rw [Launch.admits_selectMethod X.admits]; exact q4
  obtain ⟨vm₁, X₁, hstep₁⟩ := X.invokevirtual hexec hown hlink hnamed hmethM hstM hkP hkPi hy (a := b) (cell := cellB) hcell
    (fun z h => by rw [h] at hobj; cases hobj) hselP hmethM habM hkP hkPi (g := g) hg (argsL := argsL) (rest := rest) (hlen _ hsigM) hstack hdg
  rcases hK m meth c ⟨T.setVm vm₁, locs, cells, slots⟩ { g with stack := rest } (.invokevirtual index) mk (Value.ref b :: argsL).toArray X₁ hg hsize hdg hW (X₁.named hnamed) (hpre vm₁ X₁.warmed) with ⟨v, B, X', hpost, hsteps⟩ | ⟨q, B, X', hpost, hsteps⟩
  · exact Or.inl ⟨v, vm₁, B, X₁.warmed, X', hpost, fun target h => hstep₁ _ fun acts => by rw [doInvoke_state]; exact hsteps.trans h⟩
  · exact Or.inr ⟨q, vm₁, B, X₁.warmed, X', hpost, hstep₁ _ fun acts => by rw [doInvoke_state]; exact hsteps⟩
theorem vx_callSX (X : Stand p l e R s m args below meth c T locs cells slots) (hexec : p.tables.exec = Jvm.exec) {own : String} {index : Nat} {y : MethodName} {bytes : ByteArray} {maxL : Nat} {ret : Option FieldType} {hh : List (Nat × Nat × Nat × Nat)}
    (hown : s.vm.findClass own = some m.cls) (hlink : (Cond.methodLink own index y).before args s = true) (hstat : (Cond.static y).before args s = true) (hinit : (Cond.initialized y.cls).before args s = true)
    (hcode : (Cond.codeWith y bytes maxL ret hh).before args s = true) (hy : y.cls ≠ "java/lang/invoke/MethodHandle" ∧ y.cls ≠ "java/lang/invoke/VarHandle")
    {W9 : Nat} {Pre : Pt → Array Value → Prop} {Post : Pt → Array Value → Option Value → Pt → Prop} {PostX : Pt → Array Value → Addr → Pt → Prop} (hK : vx_Back l R p e below s args y 3 W9 Pre Post PostX)
    {g : JFrame} (hg : g.method = m) (hsize : g.locals.size = c.maxLocals) {argsL rest : List Value} (hlen : ∀ sig, parseMethodDescriptor y.desc = some sig → argsL.length = sig.parameters.length)
    (hstack : g.stack = argsL.reverse ++ rest) (hW : 2 * g.monitorRoom + (rest.map fun v => v.category).sum ≤ W9) (hdg : decode c.code g.pc = .ok (.invokestatic index, 3))
    (hpre : ∀ vm₁, s.WarmedH vm₁ → Pre ⟨T.setVm vm₁, locs, cells, slots⟩ argsL.toArray) :
    (∃ (v : Option Value) (vm₁ : Vm) (B : Pt), s.WarmedH vm₁ ∧ Stand p l e R s m args below meth c B.U B.locs B.cells B.slots ∧ Post ⟨T.setVm vm₁, locs, cells, slots⟩ argsL.toArray v B ∧
      ∀ target, Steps p.tables e below (B.U.setTop { g with pc := g.pc + 3, stack := v.toList ++ rest }) target → Steps p.tables e below (T.setTop g) target) ∨
    (∃ (q : Addr) (vm₁ : Vm) (B : Pt), s.WarmedH vm₁ ∧ Stand p l e R s m args below meth c B.U B.locs B.cells B.slots ∧ PostX ⟨T.setVm vm₁, locs, cells, slots⟩ argsL.toArray q B ∧
      Steps p.tables e below (T.setTop g) ((B.U.setTop { g with stack := rest }).pushFrame (.throwing q))) := by
  obtain ⟨mk, methM, cM, hnamed, hmethM, -, -, -, -, -, -, hsigM⟩ := Cond.codeWith_spec hcode
  have hstatic : methM.isStatic = true := Cond.static_spec hnamed hmethM hstat
  obtain ⟨kP, hkP, -⟩ := className_of_methodNamed hnamed
  have hinitP : kP.init = .initialized := Cond.initialized_spec (findClass_of_methodNamed hnamed) hkP hinit
  obtain ⟨vm₁, X₁, hstep₁⟩ := X.invokestatic hexec hown hlink hnamed hmethM hstatic hkP hinitP hy (g := g) hg (argsL := argsL) (rest := rest) (hlen _ hsigM) hstack hdg
  rcases hK m meth c ⟨T.setVm vm₁, locs, cells, slots⟩ { g with stack := rest } (.invokestatic index) mk argsL.toArray X₁ hg hsize hdg hW (X₁.named hnamed) (hpre vm₁ X₁.warmed) with ⟨v, B, X', hpost, hsteps⟩ | ⟨q, B, X', hpost, hsteps⟩
  · exact Or.inl ⟨v, vm₁, B, X₁.warmed, X', hpost, fun target h => hstep₁ _ fun acts => by rw [doInvoke_state]; exact hsteps.trans h⟩
  · exact Or.inr ⟨q, vm₁, B, X₁.warmed, X', hpost, hstep₁ _ fun acts => by rw [doInvoke_state]; exact hsteps⟩
theorem vx_callVW (X : Stand p l e R s m args below meth c T locs cells slots) (hexec : p.tables.exec = Jvm.exec) {own C : String} {index : Nat} {y : MethodName} {bytes : ByteArray} {maxL : Nat} {ret : Option FieldType} {hh : List (Nat × Nat × Nat × Nat)}
    (hown : s.vm.findClass own = some m.cls) (hlink : (Cond.methodLink own index y).before args s = true) (hinst : (Cond.instanceMethod y).before args s = true) (hsel : (Cond.selects C y y).before args s = true)
    (hcode : (Cond.codeWith y bytes maxL ret hh).before args s = true) (hy : y.cls ≠ "java/lang/invoke/MethodHandle" ∧ y.cls ≠ "java/lang/invoke/VarHandle")
    {W9 : Nat} {Pre : Pt → Array Value → Prop} {Post : Pt → Array Value → Option Value → Pt → Prop} (hK : Back l R p e below s args y 3 W9 Pre Post)
    {b : Addr} {cellB : Cell} (hcell : T.heap[b]? = some cellB) (hobj : cellB.vm.isStatics = false) (hcls : s.vm.findClass C = some cellB.cls)
    {g : JFrame} (hg : g.method = m) (hsize : g.locals.size = c.maxLocals) {argsL rest : List Value} (hlen : ∀ sig, parseMethodDescriptor y.desc = some sig → argsL.length = sig.parameters.length)
    (hstack : g.stack = argsL.reverse ++ .ref b :: rest) (hW : 2 * g.monitorRoom + (rest.map fun v => v.category).sum ≤ W9) (hdg : decode c.code g.pc = .ok (.invokevirtual index, 3))
    (hpre : ∀ vm₁, s.WarmedH vm₁ → Pre ⟨T.setVm vm₁, locs, cells, slots⟩ (Value.ref b :: argsL).toArray) :
    ∃ (v : Option Value) (vm₁ : Vm) (B : Pt), s.WarmedH vm₁ ∧ Stand p l e R s m args below meth c B.U B.locs B.cells B.slots ∧ Post ⟨T.setVm vm₁, locs, cells, slots⟩ (Value.ref b :: argsL).toArray v B ∧
      ∀ target, Steps p.tables e below (B.U.setTop { g with pc := g.pc + 3, stack := v.toList ++ rest }) target → Steps p.tables e below (T.setTop g) target := by
  obtain ⟨mk, methM, hnamed, hmethM, hstM, habM⟩ := Cond.instanceMethod_spec hinst
  obtain ⟨m8, methM', cM, hn8, hmethM', -, -, -, -, -, -, hsigM⟩ := Cond.codeWith_spec hcode
  cases Option.some.inj (hn8.symm.trans hnamed)
  cases hmethM.symm.trans hmethM'
  obtain ⟨c2, r2, m2, q1, q2, q3, q4, kP, hkP, hkPi⟩ := Cond.selects_spec hsel
  cases hcls.symm.trans q1
  cases (State.methodFound?_of_named hnamed hy).symm.trans q2
  cases hnamed.symm.trans q3
  have hselP : selectMethod e.platform s.vm cellB.cls mk = .method mk := by rw [Launch.admits_selectMethod X.admits]; exact q4
  obtain ⟨vm₁, X₁, hstep₁⟩ := X.invokevirtual hexec hown hlink hnamed hmethM hstM hkP hkPi hy (a := b) (cell := cellB) hcell
    (fun z h => by rw [h] at hobj; cases hobj) hselP hmethM habM hkP hkPi (g := g) hg (argsL := argsL) (rest := rest) (hlen _ hsigM) hstack hdg
  obtain ⟨v, B, X', hpost, hsteps⟩ := hK m meth c ⟨T.setVm vm₁, locs, cells, slots⟩ { g with stack := rest } (.invokevirtual index) mk (Value.ref b :: argsL).toArray X₁ hg hsize hdg hW (X₁.named hnamed) (hpre vm₁ X₁.warmed)
  exact ⟨v, vm₁, B, X₁.warmed, X', hpost, fun target h => hstep₁ _ fun acts => by rw [doInvoke_state]; exact hsteps.trans h⟩
abbrev vx_CVW (R : Room) (s : State) (args : Array Value) (own C : String) (index : Nat) (y : MethodName) (bytes : ByteArray) (maxL : Nat) (ret : Option FieldType) (hh : List (Nat × Nat × Nat × Nat)) (ws : List Cond) (rm : Room) (mc ms n : Nat) : Prop :=
  (rm.cells = mc ∧ rm.slots = ms ∧ rm.frames + 1 ≤ R.frames ∧ 8 + (maxL + 11) + rm.locals ≤ R.locals ∧ (∀ w ∈ ws, ∀ (a' : Array Value) (U : State), s.WarmedH U.vm → w.before a' U = true) ∧ Cond.codeWith y bytes maxL ret hh ∈ ws) ∧
  (Cond.codeWith y bytes maxL ret hh).before args s = true ∧ (Cond.initialized y.cls).before args s = true ∧ (y.cls ≠ "java/lang/invoke/MethodHandle" ∧ y.cls ≠ "java/lang/invoke/VarHandle") ∧
  (∀ sig, parseMethodDescriptor y.desc = some sig → n = sig.parameters.length) ∧ (Cond.methodLink own index y).before args s = true ∧ (Cond.instanceMethod y).before args s = true ∧ (Cond.selects C y y).before args s = true
theorem vx_cwVW {own C : String} {index maxL mc ms : Nat} {y : MethodName} {bytes : ByteArray} {ret : Option FieldType} {hh : List (Nat × Nat × Nat × Nat)} {Ts ws ws' : List Cond} {rm : Room} (n : Nat) (ht : ∀ w ∈ Ts, w.before args s = true) (hT : GoodIn Ts (wsV own index C y ws)) (hw : ws = Cond.codeWith y bytes maxL ret hh :: ws') (hrc : rm.cells = mc) (hrs : rm.slots = ms)
    (hd : y.cls = C ∧ y.cls ≠ "java/lang/invoke/MethodHandle" ∧ y.cls ≠ "java/lang/invoke/VarHandle" ∧ (parseMethodDescriptor y.desc).map (fun d => d.parameters.length) = some n) (hR : rm.frames + 1 ≤ R.frames ∧ 8 + (maxL + 11) + rm.locals ≤ R.locals) :
    vx_CVW R s args own C index y bytes maxL ret hh ws rm mc ms n := by
  obtain ⟨hC, hd⟩ := hd
  subst hC
  have ok : ∀ w ∈ wsV own index y.cls y ws, w.before args s = true := fun w h => ht w (hT w h).1
  have hG : GoodIn Ts ws := fun w h => hT w (by unfold wsV; exact List.mem_append_right _ h)
  have hc : Cond.codeWith y bytes maxL ret hh ∈ ws := by rw [hw]; exact List.mem_cons_self
  refine ⟨⟨hrc, hrs, hR.1, hR.2, pay_in ht hG, hc⟩, ht _ (hG _ hc).1, ok _ (by simp [wsV]), ⟨hd.1, hd.2.1⟩, fun sig h => ?_, ok _ (by simp [wsV]), ok _ (by simp [wsV]), ok _ (by simp [wsV])⟩
  have h2 := hd.2.2
  rw [h] at h2
  exact (Option.some.inj h2).symm
theorem vx_runVW {y : MethodName} {bytes cc : ByteArray} {maxL nL mc ms n index : Nat} {ret : Option FieldType} {hh : List (Nat × Nat × Nat × Nat)} {ws : List Cond} {rm : Room} {Pc : Array Value → State → Prop} {Qc : Array Value → State → Outcome → State → Prop} {free : Addr → Prop} {Ts : List Cond} {own C : String} {b : Addr} {As rest : List Value} {g : JFrame}
    (S : CallFix p m c cc nL s args Ts own) (hM : Met l y ws rm Pc Qc mc ms free) (cw : vx_CVW R s args own C index y bytes maxL ret hh ws rm mc ms n) (hp : PreV s H C b Pc As)
    (hg : g.method = m) (hn : As.length = n) (hsize : g.locals.size = nL) (hstack : g.stack = As.reverse ++ .ref b :: rest) (hW : 2 * g.monitorRoom + (rest.map fun v => v.category).sum ≤ 8) (hdg : decode cc g.pc = .ok (.invokevirtual index, 3)) (hf : cells + mc ≤ R.cells ∧ slots + ms ≤ R.slots) :
    va_Run p l e R s m args below meth c H locs cells slots mc ms g rest (Qc (Value.ref b :: As).toArray) free := by
  obtain ⟨⟨hrc, hrs, hfr, hlo, hws, hcw⟩, hcode, hini, hy, hlen, hl, hin, hse⟩ := cw
  have hK : Back l R p e below s args y 3 8 (PreOf R mc ms Pc) (PostOf Qc mc ms free) := va_backW (hh := hh) (bytes := bytes) (maxL := maxL) (ret := ret) hM hp.1 hrc hrs hfr hlo hws hcw (fun a' U hW => word_at hW (Or.inl (by first | rfl | simp [Cond.onTables, Cond.keeps, Cond.steady])) hini)
  obtain ⟨hx, hb, hml, ho, -⟩ := S
  obtain ⟨-, ⟨cellB, hcB, hoB, hclB⟩, hPc⟩ := hp
  intro T hT X
  obtain ⟨v, vm₁, ⟨U', l2, c2, s2⟩, hW₁, X', ⟨g', mk, t, L, e1, e2, hq, h1, hL, h2, h3⟩, st⟩ := vx_callVW X hx (C := C) (hh := hh) (bytes := bytes) (maxL := maxL) (ret := ret) ho hl hin hse hcode hy hK (by rw [hT]; exact hcB) hoB hclB hg (hsize.trans hml.symm) (argsL := As) (rest := rest) (fun sig h => hn.trans (hlen sig h)) hstack hW (by rw [hb]; exact hdg)
    (fun vm₁ hW₁ => ⟨hf.1, hf.2, hPc (T.setVm vm₁) hT hW₁⟩)
  dsimp only [Pt.U, Pt.locs, Pt.cells, Pt.slots] at X' e1 e2 h1 h2 h3 st
  subst h1; subst h2; subst h3
  exact ⟨v, (T.setVm vm₁).calling g' mk (Value.ref b :: As).toArray, t, U', L, hT, X', hL, e1, e2, hq, st⟩
section
variable {y : MethodName} {bytes cc : ByteArray} {maxL nL mc ms n index : Nat} {ret : Option FieldType} {ws : List Cond} {rm : Room} {Pc : Array Value → State → Prop} {Qc : Array Value → State → Outcome → State → Prop} {XC : String → State → State → Prop} {free : Addr → Prop} {Ts : List Cond} {own C : String} {b : Addr} {As rest : List Value} {g : JFrame}
theorem vx_runVX {hh : List (Nat × Nat × Nat × Nat)} (S : CallFix p m c cc nL s args Ts own) (hM : vx_Met l y ws rm Pc Qc XC mc ms free) (cw : vx_CVW R s args own C index y bytes maxL ret hh ws rm mc ms n) (hp : PreV s H C b Pc As)
    (hg : g.method = m) (hn : As.length = n) (hsize : g.locals.size = nL) (hstack : g.stack = As.reverse ++ .ref b :: rest) (hW : 2 * g.monitorRoom + (rest.map fun v => v.category).sum ≤ 8) (hdg : decode cc g.pc = .ok (.invokevirtual index, 3)) (hf : cells + mc ≤ R.cells ∧ slots + ms ≤ R.slots) :
    vx_Run p l e R s m args below meth c H locs cells slots mc ms g rest (Qc (Value.ref b :: As).toArray) XC free := by
  obtain ⟨⟨hrc, hrs, hfr, hlo, hws, hcw⟩, hcode, hini, hy, hlen, hl, hin, hse⟩ := cw
  have hK : vx_Back l R p e below s args y 3 8 (PreOf R mc ms Pc) (PostOf Qc mc ms free) (vx_Post XC mc ms free) := vx_backW (hh := hh) (bytes := bytes) (maxL := maxL) (ret := ret) hM hp.1 hrc hrs hfr hlo hws hcw (fun a' U hW => word_at hW (Or.inl (by first | rfl | simp [Cond.onTables, Cond.keeps, Cond.steady])) hini)
  obtain ⟨hx, hb, hml, ho, -⟩ := S
  obtain ⟨-, ⟨cellB, hcB, hoB, hclB⟩, hPc⟩ := hp
  intro T hT X
  rcases vx_callVX X hx (C := C) (hh := hh) (bytes := bytes) (maxL := maxL) (ret := ret) ho hl hin hse hcode hy hK (by rw [hT]; exact hcB) hoB hclB hg (hsize.trans hml.symm) (argsL := As) (rest := rest) (fun sig h => hn.trans (hlen sig h)) hstack hW (by rw [hb]; exact hdg)
    (fun vm₁ hW₁ => ⟨hf.1, hf.2, hPc (T.setVm vm₁) hT hW₁⟩) with ⟨v, vm₁, ⟨U', l2, c2, s2⟩, hW₁, X', ⟨g', mk, t, L, e1, e2, hq, h1, hL, h2, h3⟩, st⟩ | ⟨q, vm₁, ⟨U', l2, c2, s2⟩, hW₁, X', ⟨g', mk, t, L, E, ce, e1, e2, hq, hce, hcv, hcl, h1, hL, h2, h3⟩, st⟩
  · dsimp only [Pt.U, Pt.locs, Pt.cells, Pt.slots] at X' e1 e2 h1 h2 h3 st
    subst h1; subst h2; subst h3
    exact Or.inl ⟨v, (T.setVm vm₁).calling g' mk (Value.ref b :: As).toArray, t, U', L, hT, X', hL, e1, e2, hq, st⟩
  · dsimp only [Pt.U, Pt.locs, Pt.cells, Pt.slots] at X' e1 e2 h1 h2 h3 st hcl
    subst h1; subst h2; subst h3
    exact Or.inr ⟨q, (T.setVm vm₁).calling g' mk (Value.ref b :: As).toArray, t, U', L, E, ce, hT, X', hL, e1, e2, hq, hce, hcv, vx_cls hW₁ hcl, st⟩
theorem vx_runSX {hh : List (Nat × Nat × Nat × Nat)} (S : CallFix p m c cc nL s args Ts own) (hM : vx_Met l y ws rm Pc Qc XC mc ms free) (cw : vx_CSW R s args own index y bytes maxL ret hh ws rm mc ms n) (hp : PreS s H Pc As)
    (hg : g.method = m) (hn : As.length = n) (hsize : g.locals.size = nL) (hstack : g.stack = As.reverse ++ rest) (hW : 2 * g.monitorRoom + (rest.map fun v => v.category).sum ≤ 8) (hdg : decode cc g.pc = .ok (.invokestatic index, 3)) (hf : cells + mc ≤ R.cells ∧ slots + ms ≤ R.slots) :
    vx_Run p l e R s m args below meth c H locs cells slots mc ms g rest (Qc As.toArray) XC free := by
  obtain ⟨⟨hrc, hrs, hfr, hlo, hws, hcw⟩, hcode, hini, hy, hlen, hl, hstt⟩ := cw
  have hK : vx_Back l R p e below s args y 3 8 (PreOf R mc ms Pc) (PostOf Qc mc ms free) (vx_Post XC mc ms free) := vx_backW (hh := hh) (bytes := bytes) (maxL := maxL) (ret := ret) hM hp.1 hrc hrs hfr hlo hws hcw (fun a' U hW => word_at hW (Or.inl (by first | rfl | simp [Cond.onTables, Cond.keeps, Cond.steady])) hini)
  obtain ⟨hx, hb, hml, ho, -⟩ := S
  intro T hT X
  rcases vx_callSX X hx (hh := hh) (bytes := bytes) (maxL := maxL) (ret := ret) ho hl hstt hini hcode hy hK hg (hsize.trans hml.symm) (argsL := As) (rest := rest) (fun sig h => hn.trans (hlen sig h)) hstack hW (by rw [hb]; exact hdg)
    (fun vm₁ hW₁ => ⟨hf.1, hf.2, hp.2 (T.setVm vm₁) hT hW₁⟩) with ⟨v, vm₁, ⟨U', l2, c2, s2⟩, hW₁, X', ⟨g', mk, t, L, e1, e2, hq, h1, hL, h2, h3⟩, st⟩ | ⟨q, vm₁, ⟨U', l2, c2, s2⟩, hW₁, X', ⟨g', mk, t, L, E, ce, e1, e2, hq, hce, hcv, hcl, h1, hL, h2, h3⟩, st⟩
  · dsimp only [Pt.U, Pt.locs, Pt.cells, Pt.slots] at X' e1 e2 h1 h2 h3 st
    subst h1; subst h2; subst h3
    exact Or.inl ⟨v, (T.setVm vm₁).calling g' mk As.toArray, t, U', L, hT, X', hL, e1, e2, hq, st⟩
  · dsimp only [Pt.U, Pt.locs, Pt.cells, Pt.slots] at X' e1 e2 h1 h2 h3 st hcl
    subst h1; subst h2; subst h3
    exact Or.inr ⟨q, (T.setVm vm₁).calling g' mk As.toArray, t, U', L, E, ce, hT, X', hL, e1, e2, hq, hce, hcv, vx_cls hW₁ hcl, st⟩
end
end VXH
theorem vx_ofWH {l : Launch} {y : MethodName} {ws ws' : List Cond} {rm : Room} {Pc : Array Value → State → Prop} {Qc : Array Value → State → Outcome → State → Prop} {XC : String → State → State → Prop} {mc ms : Nat} {free : Addr → Prop} {cc : ByteArray} {maxL : Nat} {ret : Option FieldType} {hh : List (Nat × Nat × Nat × Nat)}
    (hy : plainName y.cls = true) (hw : ws = Cond.codeWith y cc maxL ret hh :: ws')
    (body : ∀ p e s m args below meth c s₁, BodyLoose p l y (headSpec ws rm) cc maxL ret e s m args below meth c s₁ → c.maxLocals = maxL → Pc args s →
      W p l e (headSpec ws rm).room s m args below meth c s.heap [] 0 0 (vx_MQ below Qc XC args s mc ms free) (entryFrame m args maxL)) : vx_Met l y ws rm Pc Qc XC mc ms free := by
  refine MetFree.of_bodyS (code := cc) (maxLocals := maxL) (ret := ret) hy ?_ ?_
  · intro args s m h hn
    obtain ⟨m9, meth, c, hn9, h1, h2, h3, h4, -, h5, h6, -⟩ := Cond.codeWith_spec (atoms_spec (ws := ws) h _ (by rw [hw]; exact List.mem_cons_self))
    cases hn.symm.trans hn9
    exact ⟨meth, c, h1, h2, h3, h4, h5, h6⟩
  · intro p e s m args below meth c s₁ B hml hP _
    have hh0 : s₁.heap = s.heap := by rw [B.state]; rfl
    obtain ⟨t, a1, o, b1, b2, b3⟩ := body p e s m args below meth c s₁ B hml hP s₁ hh0 (Stand.of_body B)
    exact ⟨t, o, a1, b1, b2, b3⟩
/-! ===== END ===== -/
/-! ===== BEGIN what the machine throws by itself, no traces kept ===== -/
section VXM
set_option maxHeartbeats 1000000 in
/-- the machine throws cls with the message text, no traces kept: from its note over the frame g to 'throwing' over the same frame (follows the proofs of Stand.vmThrowsMessage, Shelf/KitTracedVmS.lean, and Stand.throwsMessageColdBareV, StandMessageColdV.lean, without the step out of the frame) -/
theorem vx_vmAt {p : Program} {l : Launch} {e : Env} {R : Room} {s : State} {m₀ : MethodId} {args : Array Value} {below : List Frame} {meth : Method} {c : Code} {W : State} {locs : List Loc} {cells slots : Nat}
    (X : Stand p l e R s m₀ args below meth c W locs cells slots) (hexec : p.tables.exec = Jvm.exec) (htr : e.platform.stackTraces = false) {cls : String} {names : List String} {text : String}
    (hcls : Bundle.fit cls = true) (hnames : ∀ n ∈ names, Bundle.fit n = true) (hsoe : (cls == "java/lang/StackOverflowError") = false) (hoom : (cls == "java/lang/OutOfMemoryError") = false)
    (h : ∀ a ∈ Bundle.messageArmAtoms cls names, a.before args s = true)
    (hlocs : ∀ x ∈ locs, ∀ cell, s.heap[x.base]? = some cell → cell.vm.isStatics = false)
    (htext : (text == notModelled) = false) (hlimit : ¬ (stringBytes (stringToUtf16 text)).size > e.platform.arrayLengthLimit) (hheap : ¬ (stringBytes (stringToUtf16 text)).size * componentBytes .byte > e.platform.maxHeapBytes)
    {g : JFrame} (hg : g.method = m₀) (hsize : g.locals.size = c.maxLocals)
    (hRframes : names.length + 4 < R.frames) (hRlocals : 2 * g.monitorRoom + (g.stack.map fun v => v.category).sum + 10240 ≤ R.locals) (hshort : 13 * names.length + 55 ≤ 10240)
    (hRcells : cells + 3 ≤ R.cells) (hRslots : slots + ((stringBytes (stringToUtf16 text)).size + 4 + 6) ≤ R.slots) (hlocks : meth.locks = false) :
    ∃ (S : State) (q : Addr) (ce : Cell), (∀ target, Steps p.tables e below ((S.setTop g).pushFrame (.throwing q)) target → Steps p.tables e below ((W.setTop g).pushFrame (.throwNew cls (some text) none)) target) ∧
      Stand p l e R s m₀ args below meth c S locs (cells + 3) (slots + ((stringBytes (stringToUtf16 text)).size + 4 + 6)) ∧ S.heap[q]? = some ce ∧ s.vm.findClass cls = some ce.cls ∧ ce.vm = .none := by
  have howns : e.platform.frameOwnsMonitors = true := by rw [X.admits.platform]
  have hfin : e.platform.finalization = false := by rw [X.admits.platform]
  have hpl : e.platform.magicAccessors = ({} : Platform).magicAccessors := by rw [X.admits.platform]
  have a : ∀ x, x ∈ Bundle.messageArmAtoms cls names → x.holds args s none s [] = true := fun x hx => h x hx
  obtain ⟨T, Z0, L, -, Y⟩ := ThrowableC.of_atoms (args := args) howns hfin hpl (fun x hx => h x (by simp [Bundle.messageArmAtoms, hx]))
  obtain ⟨Z, M, LZ, LM, hnZ⟩ := Init0T.ofS_atoms (args := args) hpl L Y (fun x hx => h x (by simp [Bundle.messageArmAtoms, hx]))
  obtain ⟨P1, Ps, hlen, L1, hL, hP1m, hlink1, hlink⟩ := Bundle.chainS (args := args) hpl hnZ names cls hcls hnames (fun x hx => h x (by simp [Bundle.messageArmAtoms, hx]))
  obtain ⟨Zs, LZs, hn4, hfitv, hfitc⟩ := StringT.of_atoms (args := args) (fun x hx => h x (by simp [Bundle.messageArmAtoms, hx]))
  have hfound : s.vm.findClass cls = some P1.m.cls := findClass_of_methodNamed hP1m
  obtain ⟨c1, kX, hc1, hk, hord, -, -, hn6⟩ := Cond.instantiable_spec (a (.instantiable cls 6) (by simp [Bundle.messageArmAtoms]))
  cases Option.some.inj (hc1.symm.trans hfound)
  have hinit := Cond.initialized_spec hfound hk (a (.initialized cls) (by simp [Bundle.messageArmAtoms]))
  have hctor : kX.findMethod "<init>" "(Ljava/lang/String;)V" = some P1.m.idx := findMethod_of_methodNamed hP1m hk
  have hsel0 : selectMethod e.platform s.vm P1.m.cls T.fill0 = .method T.fill0 := by
    obtain ⟨c2, r2, m2, q1, q2, q3, q4, -⟩ := Cond.selects_spec (a (.selects cls Bundle.tFill0 Bundle.tFill0) (by simp [Bundle.messageArmAtoms]))
    cases Option.some.inj (q1.symm.trans hfound)
    cases Option.some.inj (q2.symm.trans (State.methodFound?_of_named Y.fill0 (by decide)))
    cases Option.some.inj (q3.symm.trans Y.fill0)
    rw [Launch.admits_selectMethod X.admits]; exact q4
  have hselF : selectMethod e.platform s.vm P1.m.cls T.fill = .method T.fill := by
    obtain ⟨c2, r2, m2, q1, q2, q3, q4, -⟩ := Cond.selects_spec (a (.selects cls Bundle.tFill Bundle.tFill) (by simp [Bundle.messageArmAtoms]))
    cases Option.some.inj (q1.symm.trans hfound)
    cases Option.some.inj (q2.symm.trans (State.methodFound?_of_named Y.fill (by decide)))
    cases Option.some.inj (q3.symm.trans Y.fill)
    rw [Launch.admits_selectMethod X.admits]; exact q4
  obtain ⟨cellS0, hcS0, hiss⟩ := Y.statics
  obtain ⟨u0, hu0⟩ := Cond.staticRefV Y.unassigned L.unassignedStatic L.statics hcS0 hiss (a (.isRef (.static Bundle.tN "UNASSIGNED_STACK" Bundle.steD)) (by simp [Bundle.messageArmAtoms]))
  obtain ⟨sen, hsen⟩ := Cond.staticRefV Y.sentinel L.sentinelStatic L.statics hcS0 hiss (a (.isRef (.static Bundle.tN "SUPPRESSED_SENTINEL" Bundle.listD)) (by simp [Bundle.messageArmAtoms]))
  obtain ⟨ci198, i198, fB, hk198, hg198, ha198, hsB, -, hnB, htB, hffB⟩ := Cond.ownField (t := .object "java/lang/Object") Y.found L.cls (by decide +kernel) (a (.fieldLink Bundle.tN 198 Bundle.tN "backtrace" "Ljava/lang/Object;") (by simp [Bundle.messageArmAtoms])) (a (.lays Bundle.tN Bundle.tN "backtrace" "Ljava/lang/Object;") (by simp [Bundle.messageArmAtoms])) e.platform hpl
  obtain ⟨cellS, hcS', heS, -, hkeep⟩ := X.same.2.2.2.2.2 T.aS cellS0 hcS0
  have hcellS : W.heap[T.aS]? = some cellS := hcS'
  have hout' : ∀ i, (⟨T.aS, i⟩ : Loc) ∉ locs := fun i hmem => by
    have := hlocs _ hmem cellS0 hcS0
    rw [hiss] at this; cases this
  have hknownS : cellS.vm ≠ .unknown := by
    rw [heS]; intro hu
    rw [show cellS0.vm = .unknown from hu] at hiss
    cases hiss
  have hvU : cellS.slots[T.fUnassigned.slot]? = some u0.v := by rw [hkeep _ (hout' _)]; exact hu0
  have hvSen : cellS.slots[T.fSentinel.slot]? = some sen.v := by rw [hkeep _ (hout' _)]; exact hsen
  obtain ⟨iM, hffM⟩ := Y.msg
  obtain ⟨tyC, dC, hdC, hdnC⟩ := Cond.laysAt hfound hk Y.cause (a (.lays cls Bundle.tN "cause" "Ljava/lang/Throwable;") (by simp [Bundle.messageArmAtoms]))
  obtain ⟨tyS, dS, hdS, hdnS⟩ := Cond.laysAt hfound hk Y.stack (a (.lays cls Bundle.tN "stackTrace" Bundle.steD) (by simp [Bundle.messageArmAtoms]))
  obtain ⟨tyP, dP, hdP, hdnP⟩ := Cond.laysAt hfound hk Y.supp (a (.lays cls Bundle.tN "suppressedExceptions" Bundle.listD) (by simp [Bundle.messageArmAtoms]))
  obtain ⟨tyM, dM, hdM, hdnM⟩ := Cond.laysAt hfound hk hffM (a (.lays cls Bundle.tN "detailMessage" "Ljava/lang/String;") (by simp [Bundle.messageArmAtoms]))
  obtain ⟨tyB, dB, hdB, hdnB⟩ := Cond.laysAt hfound hk hffB (a (.lays cls Bundle.tN "backtrace" "Ljava/lang/Object;") (by simp [Bundle.messageArmAtoms]))
  have bC := Cond.laysApart hdB hdC hdnB hdnC (by rw [hnB, Y.causeName]; decide)
  have bS := Cond.laysApart hdB hdS hdnB hdnS (by rw [hnB, Y.stackName]; decide)
  have bP := Cond.laysApart hdB hdP hdnB hdnP (by rw [hnB, Y.suppName]; decide)
  have hbk : ((preparedCellV T.toThrowableT (freshCell P1.m.cls kX) (W.heap.size + 2) u0 sen).withEntry W.cur).slots[fB.slot]? = some .null := by
    have := fresh_default (c := P1.m.cls) tyB
    rw [htB] at this
    simpa [preparedCellV, Cell.setSlot, Cell.withEntry, Array.getElem?_setIfInBounds, bC, bS, bP, bC.symm, bS.symm, bP.symm, defaultValue] using this
  have tkC := Takes.of_laid (v := .ref (W.heap.size + 2)) hk hord tyC (by rw [Y.causeType]; rfl)
  have tkS := Takes.of_laid (v := u0.v) hk hord tyS (by rw [Y.stackType]; exact fits_refV_array _ u0)
  have tkP := Takes.of_laid (v := sen.v) hk hord tyP (by rw [Y.suppType]; exact fits_refV_object _ sen)
  have tkM := Takes.of_laid (v := .ref (W.heap.size + 1)) hk hord tyM (by rw [Y.msgType]; rfl)
  have hskip : SkipFacts T e.platform s (fun u => u) u0 ((preparedCellV T.toThrowableT (freshCell P1.m.cls kX) (W.heap.size + 2) u0 sen).withEntry W.cur) := ⟨{ ci198 := ci198, i198 := i198, fBack := fB }, ⟨hk198, hg198, ha198, hsB⟩, hbk, fun _ _ => rfl⟩
  have h0 : At W g.method c below := by rw [hg]; exact X.here
  obtain ⟨hbeyond, hfreeW⟩ := X.vmMayThrow hsize (.throwNew cls (some text) none) (fun f hf => by cases hf) rfl hRlocals
  have hfr' : W.frames.length + Ps.length + 4 < (e.platform.stackLimits W.me).1 := by have := X.framesAbove hRframes; omega
  have hwd' : (stackUse (.java g :: W.frames.tail)).2 + 13 * Ps.length + 55 ≤ (e.platform.stackLimits W.me).2 := by have := X.stackAbove hsize (K := 13 * Ps.length + 55) (by omega); omega
  have hslots : W.slotsUsed + (stringBytes (stringToUtf16 text)).size + Zs.kS.instanceTypes.size + kX.instanceTypes.size ≤ e.platform.maxSlots := by
    have := X.slotsAbove hRslots
    rw [hn4, hn6]
    omega
  obtain ⟨vm', hW', st⟩ := Steps.vmThrowsMessageColdByV p (s₀ := s) (S := W) (g := g) h0 hexec T L Z LZ M LM X.warmed (t := W.cur) rfl Zs LZs P1 L1 Ps hL hlink1 hlink hsoe hoom hfound hk hinit hord hctor
    (Launch.admits_hotImplicitExceptions X.admits) hbeyond hfreeW htext hlimit hheap (X.cellsAbove hRcells) hslots (hfitv _) (hfitc _)
    (Nn := fun u => u) heapOnly_id (fun _ _ => rfl) (fun _ => rfl) (fun u x y => setCell_twice _ _ _ _) (fun _ => Nat.le_refl _) (cN := ((preparedCellV T.toThrowableT (freshCell P1.m.cls kX) (W.heap.size + 2) u0 sen).withEntry W.cur))
    hsel0 hcellS hknownS hvU tkS (fun _ hu => hu) (fun _ hu => hu) rfl rfl rfl (by simp [preparedCellV, Cell.setSlot, Cell.withEntry]) hskip (fun _ _ hA hW _ hroom _ hrest => L.nativeOff p htr hA hW hroom hrest) hselF hvSen tkC tkP tkM Y.objLocals rfl hfr' hwd'
  rw [plainBareV_eq T.toThrowableT (W.heap.size + 2) u0 sen (.ref (W.heap.size + 1)) W.cur rfl rfl] at st
  obtain ⟨-, -, w3, w4, -, -, -⟩ := withThrown_facts e.platform W Zs text P1.m.cls kX
  have X3 := ((X.pushed (bytesOf Zs.cB (stringToUtf16 text))).pushed (stringAt Zs.cS Zs.kS Zs.fv Zs.fc (stringToUtf16 text) W.heap.size)).pushed (freshCell P1.m.cls kX)
  rw [← withString_eq] at X3
  have X4 := X3.noted hW'
  have ha : (W.heap.size + 2) < ((withThrown W Zs text P1.m.cls kX).setVm vm').heap.size := by show _ < (withThrown W Zs text P1.m.cls kX).heap.size; rw [w3]; omega
  have hcell : ((withThrown W Zs text P1.m.cls kX).setVm vm').heap[(W.heap.size + 2)]? = some (freshCell P1.m.cls kX) := w4
  have X5 := ((((X4.stored hcell T.fCause.slot (.ref (W.heap.size + 2))).storedAgain ha T.fStack.slot u0.v).storedAgain ha T.fSupp.slot sen.v).storedAgain ha T.fStack.slot u0.v).storedAgain ha T.fMsg.slot (.ref (W.heap.size + 1))
  obtain ⟨g₁, hfrM⟩ := X5.frames_eq
  have hU : ((((withThrown W Zs text P1.m.cls kX).setVm vm').setCell (W.heap.size + 2) (plainBareV T.toThrowableT (freshCell P1.m.cls kX) (W.heap.size + 2) u0 sen (.ref (W.heap.size + 1)))).setTop g).pushFrame (.throwing (W.heap.size + 2)) = (((withThrown W Zs text P1.m.cls kX).setVm vm').setCell (W.heap.size + 2) (plainBareV T.toThrowableT (freshCell P1.m.cls kX) (W.heap.size + 2) u0 sen (.ref (W.heap.size + 1)))).setFrames (.throwing (W.heap.size + 2) :: .java g :: below) := by
    rw [State.pushFrame, State.frames_setTop _ hfrM, State.setTop_of_frames _ hfrM, State.setFrames_setFrames]
  have b1 : (bytesOf Zs.cB (stringToUtf16 text)).slots.size = (stringBytes (stringToUtf16 text)).size := by
    rw [(Cell.writeAll_facts _ _).2.2]; simp [bytes0]
  have b2 : (stringAt Zs.cS Zs.kS Zs.fv Zs.fc (stringToUtf16 text) W.heap.size).slots.size = 4 := by simp [string0, Cell.setSlot, hn4]
  have b3 : (freshCell P1.m.cls kX).slots.size = 6 := by simp [hn6]
  rw [b1, b2, b3] at X5
  have e9 : slots + (stringBytes (stringToUtf16 text)).size + 4 + 6 = slots + ((stringBytes (stringToUtf16 text)).size + 4 + 6) := by omega
  rw [e9] at X5
  simp only [List.append_assoc, List.cons_append, List.nil_append] at X5
  refine ⟨((withThrown W Zs text P1.m.cls kX).setVm vm').setCell (W.heap.size + 2) (plainBareV T.toThrowableT (freshCell P1.m.cls kX) (W.heap.size + 2) u0 sen (.ref (W.heap.size + 1))), W.heap.size + 2, _, fun target ht => st _ (by rw [X.tail, ← hU]; exact ht),
    X5.forget (fun y hy => ?_), heapAt_setCell_self _ ha, hfound, rfl⟩
  simp only [List.mem_cons, List.not_mem_nil, or_false] at hy
  have hge : s.heap.size ≤ W.heap.size := X.same.2.1
  rcases hy with rfl | rfl | rfl | rfl | rfl <;> exact Nat.le_trans hge (Nat.le_add_right _ 2)
set_option maxHeartbeats 1000000 in
/-- the machine throws NullPointerException, no traces kept: from its note over the frame g to 'throwing' over the same frame (follows the proof of Stand.vmThrowsNpe, Shelf42/KT2.lean; throwsNpeColdBareVAt, Shelf42/NT91.lean, called) -/
theorem vx_npeAt {p : Program} {l : Launch} {e : Env} {R : Room} {s : State} {m₀ : MethodId} {args : Array Value} {below : List Frame} {meth : Method} {c : Code} {W : State} {locs : List Loc} {cells slots : Nat}
    (X : Stand p l e R s m₀ args below meth c W locs cells slots) (hexec : p.tables.exec = Jvm.exec) (htr : e.platform.stackTraces = false) {n : Nat}
    (h : ∀ a ∈ Bundle.npeArmAtoms n, a.before args s = true)
    (hlocs : ∀ x ∈ locs, ∀ cell, s.heap[x.base]? = some cell → cell.vm.isStatics = false)
    {g : JFrame} (hg : g.method = m₀) (hsize : g.locals.size = c.maxLocals)
    (hRframes : 7 < R.frames) (hRlocals : 2 * g.monitorRoom + (g.stack.map fun v => v.category).sum + 10240 ≤ R.locals)
    (hRcells : cells + 1 ≤ R.cells) (hRslots : slots + n ≤ R.slots) (hlocks : meth.locks = false) :
    ∃ (S : State) (q : Addr) (ce : Cell), (∀ target, Steps p.tables e below ((S.setTop g).pushFrame (.throwing q)) target → Steps p.tables e below ((W.setTop g).pushFrame (.throwNew "java/lang/NullPointerException" none none)) target) ∧
      Stand p l e R s m₀ args below meth c S locs (cells + 1) (slots + n) ∧ S.heap[q]? = some ce ∧ s.vm.findClass "java/lang/NullPointerException" = some ce.cls ∧ ce.vm = .none := by
  have howns : e.platform.frameOwnsMonitors = true := by rw [X.admits.platform]
  have hfin : e.platform.finalization = false := by rw [X.admits.platform]
  have hpl : e.platform.magicAccessors = ({} : Platform).magicAccessors := by rw [X.admits.platform]
  have hpl2 : e.platform.arrayCloneIsPublic = true := by rw [X.admits.platform]
  have a' : ∀ x, x ∈ Bundle.npeArmAtoms n → x.holds args s none s [] = true := fun x hx => h x hx
  obtain ⟨T, Z, L, LZ, Y⟩ := ThrowableC.of_atoms (args := args) howns hfin hpl (fun x hx => h x (by simp [Bundle.npeArmAtoms, hx]))
  obtain ⟨N, LN, hcN, hnNF, hordN, hffS⟩ := NpeC.of_atoms (args := args) hpl hpl2 L Y (fun x hx => h x (by simp [Bundle.npeArmAtoms, hx]))
  obtain ⟨P1, L1, hP1m, hP1s⟩ := PassC.of_atoms (args := args) (s := s) hpl (X := Bundle.nN) (Y := Bundle.rN) (by decide) (by decide) LibCode.NullPointerException.Init0.at_0 LibCode.NullPointerException.Init0.at_1 LibCode.NullPointerException.Init0.at_4 (fun x hx => h x (by simp [Bundle.npeArmAtoms, hx]))
  obtain ⟨PR, LR, hPRm, hPRs⟩ := PassC.of_atoms (args := args) (s := s) hpl (X := Bundle.rN) (Y := Bundle.eN) (by decide) (by decide) LibCode.RuntimeException.Init0.at_0 LibCode.RuntimeException.Init0.at_1 LibCode.RuntimeException.Init0.at_4 (fun x hx => h x (by simp [Bundle.npeArmAtoms, hx]))
  obtain ⟨PE, LEx, hPEm, hPEs⟩ := PassC.of_atoms (args := args) (s := s) hpl (X := Bundle.eN) (Y := Bundle.tN) (by decide) (by decide) LibCode.Exception.Init0.at_0 LibCode.Exception.Init0.at_1 LibCode.Exception.Init0.at_4 (fun x hx => h x (by simp [Bundle.npeArmAtoms, hx]))
  have hfound : s.vm.findClass Bundle.nN = some P1.m.cls := findClass_of_methodNamed hP1m
  have ecls : N.cN = P1.m.cls := Option.some.inj (hcN.symm.trans hfound)
  have hk : s.vm.classes[P1.m.cls]? = some N.kN := by rw [← ecls]; exact LN.cls
  have hinit := Cond.initialized_spec hfound hk (a' (.initialized Bundle.nN) (by simp [Bundle.npeArmAtoms]))
  have hctor : N.kN.findMethod "<init>" "()V" = some P1.m.idx := findMethod_of_methodNamed hP1m hk
  obtain ⟨c1, k1, hc1, hk1, -, -, -, hn⟩ := Cond.instantiable_spec (a' (.instantiable Bundle.nN n) (by simp [Bundle.npeArmAtoms]))
  cases Option.some.inj (hc1.symm.trans hfound)
  cases Option.some.inj (hk1.symm.trans hk)
  have hfsz : (freshCell P1.m.cls N.kN).slots.size = n := by simp [hn]
  have hlink1 : P1.sup = PR.m := Option.some.inj (hP1s.symm.trans hPRm)
  have hlinkR : PR.sup = PE.m := Option.some.inj (hPRs.symm.trans hPEm)
  have hlinkE : PE.sup = Z.m T.toThrowableT := Option.some.inj (hPEs.symm.trans Y.init0)
  have hLs : ∀ P, P ∈ [PR, PE] → P.Links0 e.platform s := fun P hP => by
    simp only [List.mem_cons, List.not_mem_nil, or_false] at hP
    rcases hP with rfl | rfl
    · exact LR
    · exact LEx
  have hsel0 : selectMethod e.platform s.vm P1.m.cls T.fill0 = .method T.fill0 := by
    obtain ⟨c2, r2, m2, q1, q2, q3, q4, -⟩ := Cond.selects_spec (a' (.selects Bundle.nN Bundle.tFill0 Bundle.tFill0) (by simp [Bundle.npeArmAtoms]))
    cases Option.some.inj (q1.symm.trans hfound)
    cases Option.some.inj (q2.symm.trans (State.methodFound?_of_named Y.fill0 (by decide)))
    cases Option.some.inj (q3.symm.trans Y.fill0)
    rw [Launch.admits_selectMethod X.admits]; exact q4
  have hselF : selectMethod e.platform s.vm P1.m.cls T.fill = .method N.fill := by
    obtain ⟨c2, r2, m2, q1, q2, q3, q4, -⟩ := Cond.selects_spec (a' (.selects Bundle.nN Bundle.tFill Bundle.nFill) (by simp [Bundle.npeArmAtoms]))
    cases Option.some.inj (q1.symm.trans hfound)
    cases Option.some.inj (q2.symm.trans (State.methodFound?_of_named Y.fill (by decide)))
    cases Option.some.inj (q3.symm.trans hnNF)
    rw [Launch.admits_selectMethod X.admits]; exact q4
  obtain ⟨cellS0, hcS0, hiss⟩ := Y.statics
  obtain ⟨u0, hu0⟩ := Cond.staticRefV Y.unassigned L.unassignedStatic L.statics hcS0 hiss (a' (.isRef (.static Bundle.tN "UNASSIGNED_STACK" Bundle.steD)) (by simp [Bundle.npeArmAtoms]))
  obtain ⟨sen, hsen⟩ := Cond.staticRefV Y.sentinel L.sentinelStatic L.statics hcS0 hiss (a' (.isRef (.static Bundle.tN "SUPPRESSED_SENTINEL" Bundle.listD)) (by simp [Bundle.npeArmAtoms]))
  obtain ⟨ci198, i198, fB, hk198, hg198, ha198, hsB, -, hnB, htB, hffB⟩ := Cond.ownField (t := .object "java/lang/Object") Y.found L.cls (by decide +kernel) (a' (.fieldLink Bundle.tN 198 Bundle.tN "backtrace" Bundle.objD) (by simp [Bundle.npeArmAtoms])) (a' (.lays Bundle.tN Bundle.tN "backtrace" Bundle.objD) (by simp [Bundle.npeArmAtoms])) e.platform hpl
  obtain ⟨cellS, hcS', heS, -, hkeep⟩ := X.same.2.2.2.2.2 T.aS cellS0 hcS0
  have hcellS : W.heap[T.aS]? = some cellS := hcS'
  have hout' : ∀ i, (⟨T.aS, i⟩ : Loc) ∉ locs := fun i hmem => by
    have := hlocs _ hmem cellS0 hcS0
    rw [hiss] at this; cases this
  have hknownS : cellS.vm ≠ .unknown := by
    rw [heS]; intro hu
    rw [show cellS0.vm = .unknown from hu] at hiss
    cases hiss
  have hvU : cellS.slots[T.fUnassigned.slot]? = some u0.v := by rw [hkeep _ (hout' _)]; exact hu0
  have hvSen : cellS.slots[T.fSentinel.slot]? = some sen.v := by rw [hkeep _ (hout' _)]; exact hsen
  obtain ⟨tyC, dC, hdC, hdnC⟩ := Cond.laysAt hfound hk Y.cause (a' (.lays Bundle.nN Bundle.tN "cause" "Ljava/lang/Throwable;") (by simp [Bundle.npeArmAtoms]))
  obtain ⟨tyS, dS, hdS, hdnS⟩ := Cond.laysAt hfound hk Y.stack (a' (.lays Bundle.nN Bundle.tN "stackTrace" Bundle.steD) (by simp [Bundle.npeArmAtoms]))
  obtain ⟨tyP, dP, hdP, hdnP⟩ := Cond.laysAt hfound hk Y.supp (a' (.lays Bundle.nN Bundle.tN "suppressedExceptions" Bundle.listD) (by simp [Bundle.npeArmAtoms]))
  obtain ⟨tyX, dX, hdX, hdnX⟩ := Cond.laysAt hfound hk hffS (a' (.lays Bundle.nN Bundle.nN "extendedMessageState" "I") (by simp [Bundle.npeArmAtoms, Bundle.npeAtoms]))
  obtain ⟨hnX, htX⟩ := State.fieldFound?_type hffS (t := .int) (by decide +kernel)
  have xC := Cond.laysApart hdC hdX hdnC hdnX (by rw [hnX, Y.causeName]; decide)
  have xS := Cond.laysApart hdS hdX hdnS hdnX (by rw [hnX, Y.stackName]; decide)
  have xP := Cond.laysApart hdP hdX hdnP hdnX (by rw [hnX, Y.suppName]; decide)
  have hv0 : (freshCell P1.m.cls N.kN).slots[N.fState.slot]? = some (.int 0) := by
    have := fresh_default (c := P1.m.cls) tyX
    rw [htX] at this; exact this
  obtain ⟨tyB, dB, hdB, hdnB⟩ := Cond.laysAt hfound hk hffB (a' (.lays Bundle.nN Bundle.tN "backtrace" Bundle.objD) (by simp [Bundle.npeArmAtoms]))
  have bC := Cond.laysApart hdB hdC hdnB hdnC (by rw [hnB, Y.causeName]; decide)
  have bS := Cond.laysApart hdB hdS hdnB hdnS (by rw [hnB, Y.stackName]; decide)
  have bP := Cond.laysApart hdB hdP hdnB hdnP (by rw [hnB, Y.suppName]; decide)
  have bX := Cond.laysApart hdB hdX hdnB hdnX (by rw [hnB, hnX]; decide)
  have hbk : ((npeCell N.toNpeT (preparedCellV T.toThrowableT (freshCell P1.m.cls N.kN) W.heap.size u0 sen) W.cur).withEntry W.cur).slots[fB.slot]? = some .null := by
    have := fresh_default (c := P1.m.cls) tyB
    rw [htB] at this
    simpa [npeCell, preparedCellV, Cell.setSlot, Cell.withEntry, Array.getElem?_setIfInBounds, bC, bS, bP, bX, bC.symm, bS.symm, bP.symm, bX.symm, defaultValue] using this
  have tkC := Takes.of_laid (v := .ref W.heap.size) hk hordN tyC (by rw [Y.causeType]; rfl)
  have tkS := Takes.of_laid (v := u0.v) hk hordN tyS (by rw [Y.stackType]; exact fits_refV_array _ u0)
  have tkP := Takes.of_laid (v := sen.v) hk hordN tyP (by rw [Y.suppType]; exact fits_refV_object _ sen)
  have tkX := Takes.of_laid (v := .int 1) hk hordN tyX (by rw [htX]; rfl)
  have hskip : SkipFacts T e.platform s (fun u => u) u0 ((npeCell N.toNpeT (preparedCellV T.toThrowableT (freshCell P1.m.cls N.kN) W.heap.size u0 sen) W.cur).withEntry W.cur) := ⟨{ ci198 := ci198, i198 := i198, fBack := fB }, ⟨hk198, hg198, ha198, hsB⟩, hbk, fun _ _ => rfl⟩
  obtain ⟨vm', X3, st, -⟩ := X.throwsNpeColdBareVAt hexec hg hsize T L Z LZ N LN P1 L1 [PR, PE] hLs hlink1 ⟨hlinkR, hlinkE, trivial⟩ hfound hk hinit hordN hctor hsel0 hselF hcellS hknownS hvU hvSen
    hv0 xC xS xP tkC tkS tkP tkX Y.objLocals hskip (fun _ _ hA hW _ hroom _ hrest => L.nativeOff p htr hA hW hroom hrest) (by simpa using hRframes) hRlocals (by simp) hRcells (by rw [hn]; exact hRslots)
  have hlt : W.heap.size < ((W.pushCell (freshCell P1.m.cls N.kN)).setVm vm').heap.size := by
    show W.heap.size < (W.pushCell (freshCell P1.m.cls N.kN)).heap.size
    rw [State.heap_size_pushCell]; omega
  rw [hfsz] at X3
  obtain ⟨g₁, hfrM⟩ := X3.frames_eq
  have hU : ((((W.pushCell (freshCell P1.m.cls N.kN)).setVm vm').setCell W.heap.size (npeBareV T.toThrowableT N.toNpeT (freshCell P1.m.cls N.kN) W.heap.size u0 sen)).setTop g).pushFrame (.throwing W.heap.size) = (((W.pushCell (freshCell P1.m.cls N.kN)).setVm vm').setCell W.heap.size (npeBareV T.toThrowableT N.toNpeT (freshCell P1.m.cls N.kN) W.heap.size u0 sen)).setFrames (.throwing W.heap.size :: .java g :: below) := by
    rw [State.pushFrame, State.frames_setTop _ hfrM, State.setTop_of_frames _ hfrM, State.setFrames_setFrames]
  refine ⟨_, W.heap.size, _, fun target ht => st.trans (by rw [← hU]; exact ht), X3.forget (fun y hy => ?_), heapAt_setCell_self _ hlt, hfound, rfl⟩
  simp only [List.mem_cons, List.not_mem_nil, or_false] at hy
  have hge : s.heap.size ≤ W.heap.size := X.same.2.1
  rcases hy with rfl | rfl | rfl | rfl | rfl <;> exact hge
/-- the words of a machine's NullPointerException, but the four that speak of the heap -/
def vx_atN (n : Nat) : List Cond := (Bundle.npeArmAtoms n).filter vx_no
/-- the words of a machine's throw with a message, but the four that speak of the heap -/
def vx_atM (X : String) (names : List String) : List Cond := (Bundle.messageArmAtoms X names).filter vx_no
section
variable {p : Program} {l : Launch} {e : Env} {R : Room} {s : State} {m : MethodId} {args : Array Value} {below : List Frame} {meth : Method} {c : Code} {H : Heap} {locs : List Loc} {cells slots : Nat}
/-- a frame seen from a rebased start, seen from the first start again -/
theorem vx_back9 {T S : State} {R' : Room} {k n : Nat} (X : Stand p l e R s m args below meth c T locs cells slots) (Y : Stand p l e R' ((T.setVm s.vm).setFrames (.invoking m args :: below)) m args below meth c T [] 0 0) (Z : Stand p l e R' ((T.setVm s.vm).setFrames (.invoking m args :: below)) m args below meth c S [] k n) :
    Stand p l e R s m args below meth c S locs (cells + k) (slots + n) := by
  have hW0 : s.WarmedH ((T.setVm s.vm).setFrames (.invoking m args :: below)).vm := State.WarmedH.refl s
  refine { admits := X.admits, cas := X.cas, clock := X.clock, frames := X.frames, room := X.room, hears := X.hears, method := X.method, code := X.code, here := Z.here, tail := Z.tail, warmed := State.WarmedH.trans hW0 Z.warmed, limits := Z.limits.trans (Y.limits.symm.trans X.limits), bytes := Z.bytes.trans (Y.bytes.symm.trans X.bytes), same := ?_ }
  obtain ⟨e1, e2⟩ := Z.same
  rw [State.setFrames_setFrames] at e1
  have h2 : (T.setVm s.vm).sameButNew (S.setVm s.vm) [] k n := ⟨e1, e2⟩
  have h3 := X.same.trans h2
  rw [List.append_nil] at h3
  exact h3
/-- from the machine's note that E is thrown here with this text -/
def vx_Note (p : Program) (l : Launch) (e : Env) (R : Room) (s : State) (m : MethodId) (args : Array Value) (below : List Frame) (meth : Method) (c : Code) (H : Heap) (locs : List Loc) (cells slots : Nat) (Q : State → Prop) (g : JFrame) (E text : String) : Prop :=
  ∀ T : State, T.heap = H → Stand p l e R s m args below meth c T locs cells slots → ∃ t, Steps p.tables e below ((T.setTop g).pushFrame (.throwNew E (some text) none)) t ∧ Q t
theorem vx_vm {pc : Nat} {ls : Array Slot} {rest : List Value} {Q : State → Prop} (hexec : p.tables.exec = Jvm.exec) (hl : l.stackTraces = false) {cls text : String} {names : List String} {nb : Nat} {A : Nat → Prop}
    (hcls : Bundle.fit cls = true) (hnames : ∀ n ∈ names, Bundle.fit n = true) (hsoe : (cls == "java/lang/StackOverflowError") = false) (hoom : (cls == "java/lang/OutOfMemoryError") = false)
    (hat : ∀ w ∈ vx_atM cls names, w.before args s = true) (hgood : ∀ w ∈ vx_atM cls names, vx_ot w = true)
    (hU : vx_Zq Bundle.tN "UNASSIGNED_STACK" Bundle.steD A s s.heap) (hN : vx_Zq Bundle.tN "SUPPRESSED_SENTINEL" Bundle.listD A s s.heap) (hS : va_S A s.heap H locs) (hsize : ls.size = c.maxLocals)
    (htext : (text == notModelled) = false) (hnb : (stringBytes (stringToUtf16 text)).size ≤ nb) (hnb1 : nb ≤ 1000)
    (hRframes : names.length + 4 < R.frames) (hRlocals : (rest.map fun v => v.category).sum + 10240 ≤ R.locals) (hshort : 13 * names.length + 55 ≤ 10240) (hRcells : cells + 3 ≤ R.cells) (hRslots : slots + (nb + 10) ≤ R.slots) (hlocks : meth.locks = false)
    (k : ∀ (H1 : Heap) (q9 : Addr) (ce : Cell), H.size ≤ H1.size → (∀ q : Nat, q < H.size → H1[q]? = H[q]?) → va_S A s.heap H1 locs → H1[q9]? = some ce → ce.vm = .none → s.vm.findClass cls = some ce.cls → vx_W p l e R s m args below meth c H1 locs (cells + 3) (slots + (nb + 10)) Q (F0 m pc ls rest) q9) :
    vx_Note p l e R s m args below meth c H locs cells slots Q (F0 m pc ls rest) cls text := by
  intro T hT X
  have htr : e.platform.stackTraces = false := (show e.platform.stackTraces = l.stackTraces by rw [X.admits.platform]).trans hl
  have Y := vx_rebase X (R' := { frames := R.frames, locals := R.locals, cells := 3, slots := nb + 10 }) (Nat.le_refl _) (Nat.le_refl _) hRcells hRslots
  have hhp : ((T.setVm s.vm).setFrames (.invoking m args :: below)).heap = H := hT
  have hW0 : s.WarmedH ((T.setVm s.vm).setFrames (.invoking m args :: below)).vm := State.WarmedH.refl s
  have hat' : ∀ w ∈ vx_atM cls names, w.before args ((T.setVm s.vm).setFrames (.invoking m args :: below)) = true := fun w hw => vx_ot_at hW0 rfl (hgood w hw) (hat w hw)
  have hU' : vx_Zq Bundle.tN "UNASSIGNED_STACK" Bundle.steD A ((T.setVm s.vm).setFrames (.invoking m args :: below)) ((T.setVm s.vm).setFrames (.invoking m args :: below)).heap := by rw [hhp]; exact vx_Zq.moved hW0.alike (hU.kept hS.2.1)
  have hN' : vx_Zq Bundle.tN "SUPPRESSED_SENTINEL" Bundle.listD A ((T.setVm s.vm).setFrames (.invoking m args :: below)) ((T.setVm s.vm).setFrames (.invoking m args :: below)).heap := by rw [hhp]; exact vx_Zq.moved hW0.alike (hN.kept hS.2.1)
  obtain ⟨S, q, ce, st, Z, hce, hcl', hv⟩ := vx_vmAt Y hexec htr (cls := cls) (names := names) (text := text) hcls hnames hsoe hoom (vx_own hat' (vx_isRefq hU'.1) (vx_isRefq hN'.1) hU'.2.word hN'.2.word) (fun x hx => nomatch hx) htext
    (by rw [Launch.admits_arrayLengthLimit X.admits]; omega) (by rw [Launch.admits_maxHeapBytes X.admits]; simp only [componentBytes]; omega)
    (g := F0 m pc ls rest) rfl hsize hRframes (by show 2 * 0 + (rest.map fun v => v.category).sum + 10240 ≤ R.locals; omega) hshort (by show 0 + 3 ≤ 3; omega) (by show 0 + (_ + 4 + 6) ≤ nb + 10; omega) hlocks
  obtain ⟨f1, f2⟩ := vx_frame Z.same
  have f1' : H.size ≤ S.heap.size := by rw [← hT]; exact f1
  have f2' : ∀ q : Nat, q < H.size → S.heap[q]? = H[q]? := fun q hq => by
    rw [← hT]
    exact f2 q (by rw [← hT] at hq; exact hq) (fun z hz => nomatch hz)
  have X5 := vx_back9 X Y Z
  have X6 : Stand p l e R s m args below meth c S locs (cells + 3) (slots + (nb + 10)) := { X5 with same := X5.same.mono (by omega) (by omega) }
  obtain ⟨t, a1, b1⟩ := k S.heap q ce f1' f2' ⟨Nat.le_trans hS.1 f1', fun q h1 h2 => (f2' q (Nat.lt_of_lt_of_le h1 hS.1)).trans (hS.2.1 q h1 h2), hS.2.2⟩ hce hv hcl' S rfl X6
  exact ⟨t, st t a1, b1⟩
/-- from the machine's note that NullPointerException is thrown here -/
def vx_NoteN (p : Program) (l : Launch) (e : Env) (R : Room) (s : State) (m : MethodId) (args : Array Value) (below : List Frame) (meth : Method) (c : Code) (H : Heap) (locs : List Loc) (cells slots : Nat) (Q : State → Prop) (g : JFrame) : Prop :=
  ∀ T : State, T.heap = H → Stand p l e R s m args below meth c T locs cells slots → ∃ t, Steps p.tables e below ((T.setTop g).pushFrame (.throwNew "java/lang/NullPointerException" none none)) t ∧ Q t
theorem vx_npe {pc : Nat} {ls : Array Slot} {rest : List Value} {Q : State → Prop} (hexec : p.tables.exec = Jvm.exec) (hl : l.stackTraces = false) {nb : Nat} {A : Nat → Prop}
    (hat : ∀ w ∈ vx_atN nb, w.before args s = true) (hgood : ∀ w ∈ vx_atN nb, vx_ot w = true)
    (hU : vx_Zq Bundle.tN "UNASSIGNED_STACK" Bundle.steD A s s.heap) (hN : vx_Zq Bundle.tN "SUPPRESSED_SENTINEL" Bundle.listD A s s.heap) (hS : va_S A s.heap H locs) (hsize : ls.size = c.maxLocals)
    (hRframes : 7 < R.frames) (hRlocals : (rest.map fun v => v.category).sum + 10240 ≤ R.locals) (hRcells : cells + 1 ≤ R.cells) (hRslots : slots + nb ≤ R.slots) (hlocks : meth.locks = false)
    (k : ∀ (H1 : Heap) (q9 : Addr) (ce : Cell), H.size ≤ H1.size → (∀ q : Nat, q < H.size → H1[q]? = H[q]?) → va_S A s.heap H1 locs → H1[q9]? = some ce → ce.vm = .none → s.vm.findClass "java/lang/NullPointerException" = some ce.cls → vx_W p l e R s m args below meth c H1 locs (cells + 1) (slots + nb) Q (F0 m pc ls rest) q9) :
    vx_NoteN p l e R s m args below meth c H locs cells slots Q (F0 m pc ls rest) := by
  intro T hT X
  have htr : e.platform.stackTraces = false := (show e.platform.stackTraces = l.stackTraces by rw [X.admits.platform]).trans hl
  have Y := vx_rebase X (R' := { frames := R.frames, locals := R.locals, cells := 1, slots := nb }) (Nat.le_refl _) (Nat.le_refl _) hRcells hRslots
  have hhp : ((T.setVm s.vm).setFrames (.invoking m args :: below)).heap = H := hT
  have hW0 : s.WarmedH ((T.setVm s.vm).setFrames (.invoking m args :: below)).vm := State.WarmedH.refl s
  have hat' : ∀ w ∈ vx_atN nb, w.before args ((T.setVm s.vm).setFrames (.invoking m args :: below)) = true := fun w hw => vx_ot_at hW0 rfl (hgood w hw) (hat w hw)
  have hU' : vx_Zq Bundle.tN "UNASSIGNED_STACK" Bundle.steD A ((T.setVm s.vm).setFrames (.invoking m args :: below)) ((T.setVm s.vm).setFrames (.invoking m args :: below)).heap := by rw [hhp]; exact vx_Zq.moved hW0.alike (hU.kept hS.2.1)
  have hN' : vx_Zq Bundle.tN "SUPPRESSED_SENTINEL" Bundle.listD A ((T.setVm s.vm).setFrames (.invoking m args :: below)) ((T.setVm s.vm).setFrames (.invoking m args :: below)).heap := by rw [hhp]; exact vx_Zq.moved hW0.alike (hN.kept hS.2.1)
  obtain ⟨S, q, ce, st, Z, hce, hcl', hv⟩ := vx_npeAt Y hexec htr (n := nb) (vx_own hat' (vx_isRefq hU'.1) (vx_isRefq hN'.1) hU'.2.word hN'.2.word) (fun x hx => nomatch hx)
    (g := F0 m pc ls rest) rfl hsize hRframes (by show 2 * 0 + (rest.map fun v => v.category).sum + 10240 ≤ R.locals; omega) (by show 0 + 1 ≤ 1; omega) (by show 0 + nb ≤ nb; omega) hlocks
  obtain ⟨f1, f2⟩ := vx_frame Z.same
  have f1' : H.size ≤ S.heap.size := by rw [← hT]; exact f1
  have f2' : ∀ q : Nat, q < H.size → S.heap[q]? = H[q]? := fun q hq => by
    rw [← hT]
    exact f2 q (by rw [← hT] at hq; exact hq) (fun z hz => nomatch hz)
  have X5 := vx_back9 X Y Z
  have X6 : Stand p l e R s m args below meth c S locs (cells + 1) (slots + nb) := { X5 with same := X5.same.mono (by omega) (by omega) }
  obtain ⟨t, a1, b1⟩ := k S.heap q ce f1' f2' ⟨Nat.le_trans hS.1 f1', fun q h1 h2 => (f2' q (Nat.lt_of_lt_of_le h1 hS.1)).trans (hS.2.1 q h1 h2), hS.2.2⟩ hce hv hcl' S rfl X6
  exact ⟨t, st t a1, b1⟩
variable {Q : State → Prop} {cc : ByteArray} {pc : Nat} {ls : Array Slot} {rest : List Value}
theorem vx_idivZ (hexec : p.tables.exec = Jvm.exec) (hb : c.code = cc) {a b : Int32} (h0 : b = 0) (d : decode cc pc = .ok (.idiv, 1)) (k : vx_Note p l e R s m args below meth c H locs cells slots Q (F0 m pc ls rest) "java/lang/ArithmeticException" "/ by zero") :
    W p l e R s m args below meth c H locs cells slots Q (F0 m pc ls (.int b :: .int a :: rest)) := by
  intro T hT X
  obtain ⟨t, st, q⟩ := k T hT X
  exact ⟨t, X.idivZero hexec (g := F0 m pc ls (.int b :: .int a :: rest)) rfl (a := a) (rest := rest) (by rw [h0]) (by rw [hb]; exact d) t st, q⟩
theorem vx_iremZ (hexec : p.tables.exec = Jvm.exec) (hb : c.code = cc) {a b : Int32} (h0 : b = 0) (d : decode cc pc = .ok (.irem, 1)) (k : vx_Note p l e R s m args below meth c H locs cells slots Q (F0 m pc ls rest) "java/lang/ArithmeticException" "/ by zero") :
    W p l e R s m args below meth c H locs cells slots Q (F0 m pc ls (.int b :: .int a :: rest)) := by
  intro T hT X
  obtain ⟨t, st, q⟩ := k T hT X
  exact ⟨t, X.iremZero hexec (g := F0 m pc ls (.int b :: .int a :: rest)) rfl (a := a) (rest := rest) (by rw [h0]) (by rw [hb]; exact d) t st, q⟩
theorem vx_ldivZ (hexec : p.tables.exec = Jvm.exec) (hb : c.code = cc) {a b : Int64} (h0 : b = 0) (d : decode cc pc = .ok (.ldiv, 1)) (k : vx_Note p l e R s m args below meth c H locs cells slots Q (F0 m pc ls rest) "java/lang/ArithmeticException" "/ by zero") :
    W p l e R s m args below meth c H locs cells slots Q (F0 m pc ls (.long b :: .long a :: rest)) := by
  intro T hT X
  obtain ⟨t, st, q⟩ := k T hT X
  exact ⟨t, X.ldivZero hexec (g := F0 m pc ls (.long b :: .long a :: rest)) rfl (a := a) (rest := rest) (by rw [h0]) (by rw [hb]; exact d) t st, q⟩
theorem vx_lremZ (hexec : p.tables.exec = Jvm.exec) (hb : c.code = cc) {a b : Int64} (h0 : b = 0) (d : decode cc pc = .ok (.lrem, 1)) (k : vx_Note p l e R s m args below meth c H locs cells slots Q (F0 m pc ls rest) "java/lang/ArithmeticException" "/ by zero") :
    W p l e R s m args below meth c H locs cells slots Q (F0 m pc ls (.long b :: .long a :: rest)) := by
  intro T hT X
  obtain ⟨t, st, q⟩ := k T hT X
  exact ⟨t, X.lremZero hexec (g := F0 m pc ls (.long b :: .long a :: rest)) rfl (a := a) (rest := rest) (by rw [h0]) (by rw [hb]; exact d) t st, q⟩
theorem vx_ialdZ {D : va_G} {cl : List vw_C} {ws : va_W} {tys : List (ClassId × FieldType)} {a : Nat} (hexec : p.tables.exec = Jvm.exec) (hb : c.code = cc) (hK : va_K D cl tys s) (hP : va_P D cl ws H) (q0 t0 : Nat) {cA : ClassId} {n : Nat} {f : Nat → Int32} (ha : ws[q0]? = some (a, .inl (cA, n, .inl f))) (ht : tys[t0]? = some (cA, .int)) {i : Int32} (hout : ¬ vp_in i n) (hdg : decode cc pc = .ok (.iaload, 1))
    (k : ∀ tx : String, tx = (toString "Index " ++ toString i ++ toString " out of bounds for length " ++ toString n : String) → vx_Note p l e R s m args below meth c H locs cells slots Q (F0 m pc ls rest) "java/lang/ArrayIndexOutOfBoundsException" tx) : W p l e R s m args below meth c H locs cells slots Q (F0 m pc ls (.int i :: .ref a :: rest)) := by
  intro T hT X
  obtain ⟨t, st, q⟩ := k _ rfl T hT X
  refine ⟨t, ?_, q⟩
  have h1 := X.ialoadOut hexec (by rw [hT]; exact hP q0 _ ha) ((hK.2 t0 _ ht).1 n (fun j => .int (f j))) (j := i) (by show (i < 0 ∨ (arrV _ _ _).slots.size ≤ _); rw [arrV_size]; exact Classical.byContradiction hout) (g := F0 m pc ls (.int i :: .ref a :: rest)) rfl (rest := rest) rfl (by rw [hb]; exact hdg) t
  simp only [arrV_size] at h1
  exact h1 st
theorem vx_iastZ {D : va_G} {cl : List vw_C} {ws : va_W} {tys : List (ClassId × FieldType)} {a : Nat} (hexec : p.tables.exec = Jvm.exec) (hb : c.code = cc) (hK : va_K D cl tys s) (hP : va_P D cl ws H) (q0 t0 : Nat) {cA : ClassId} {n : Nat} {f : Nat → Int32} (ha : ws[q0]? = some (a, .inl (cA, n, .inl f))) (ht : tys[t0]? = some (cA, .int)) {i : Int32} {x : Int32} (hout : ¬ vp_in i n) (hdg : decode cc pc = .ok (.iastore, 1))
    (k : ∀ tx : String, tx = (toString "Index " ++ toString i ++ toString " out of bounds for length " ++ toString n : String) → vx_Note p l e R s m args below meth c H locs cells slots Q (F0 m pc ls rest) "java/lang/ArrayIndexOutOfBoundsException" tx) : W p l e R s m args below meth c H locs cells slots Q (F0 m pc ls (.int x :: .int i :: .ref a :: rest)) := by
  intro T hT X
  obtain ⟨t, st, q⟩ := k _ rfl T hT X
  refine ⟨t, ?_, q⟩
  have h1 := X.iastoreOut hexec (by rw [hT]; exact hP q0 _ ha) ((hK.2 t0 _ ht).1 n (fun j => .int (f j))) (j := i) (by show (i < 0 ∨ (arrV _ _ _).slots.size ≤ _); rw [arrV_size]; exact Classical.byContradiction hout) (g := F0 m pc ls (.int x :: .int i :: .ref a :: rest)) rfl (rest := rest) rfl (by rw [hb]; exact hdg) t
  simp only [arrV_size] at h1
  exact h1 st
theorem vx_baldZ {D : va_G} {cl : List vw_C} {ws : va_W} {tys : List (ClassId × FieldType)} {a : Nat} (hexec : p.tables.exec = Jvm.exec) (hb : c.code = cc) (hK : va_K D cl tys s) (hP : va_P D cl ws H) (q0 t0 : Nat) {cA : ClassId} {n : Nat} {f : Nat → Int32} (ha : ws[q0]? = some (a, .inl (cA, n, .inl f))) (ht : tys[t0]? = some (cA, .byte)) {i : Int32} (hout : ¬ vp_in i n) (hdg : decode cc pc = .ok (.baload, 1))
    (k : ∀ tx : String, tx = (toString "Index " ++ toString i ++ toString " out of bounds for length " ++ toString n : String) → vx_Note p l e R s m args below meth c H locs cells slots Q (F0 m pc ls rest) "java/lang/ArrayIndexOutOfBoundsException" tx) : W p l e R s m args below meth c H locs cells slots Q (F0 m pc ls (.int i :: .ref a :: rest)) := by
  intro T hT X
  obtain ⟨t, st, q⟩ := k _ rfl T hT X
  refine ⟨t, ?_, q⟩
  have h1 := X.baloadOut hexec (by rw [hT]; exact hP q0 _ ha) ((hK.2 t0 _ ht).1 n (fun j => .int (f j))) (j := i) (by show (i < 0 ∨ (arrV _ _ _).slots.size ≤ _); rw [arrV_size]; exact Classical.byContradiction hout) (g := F0 m pc ls (.int i :: .ref a :: rest)) rfl (rest := rest) rfl (by rw [hb]; exact hdg) t
  simp only [arrV_size] at h1
  exact h1 st
theorem vx_bastZ {D : va_G} {cl : List vw_C} {ws : va_W} {tys : List (ClassId × FieldType)} {a : Nat} (hexec : p.tables.exec = Jvm.exec) (hb : c.code = cc) (hK : va_K D cl tys s) (hP : va_P D cl ws H) (q0 t0 : Nat) {cA : ClassId} {n : Nat} {f : Nat → Int32} (ha : ws[q0]? = some (a, .inl (cA, n, .inl f))) (ht : tys[t0]? = some (cA, .byte)) {i : Int32} {x : Int32} (hout : ¬ vp_in i n) (hdg : decode cc pc = .ok (.bastore, 1))
    (k : ∀ tx : String, tx = (toString "Index " ++ toString i ++ toString " out of bounds for length " ++ toString n : String) → vx_Note p l e R s m args below meth c H locs cells slots Q (F0 m pc ls rest) "java/lang/ArrayIndexOutOfBoundsException" tx) : W p l e R s m args below meth c H locs cells slots Q (F0 m pc ls (.int x :: .int i :: .ref a :: rest)) := by
  intro T hT X
  obtain ⟨t, st, q⟩ := k _ rfl T hT X
  refine ⟨t, ?_, q⟩
  have h1 := X.bastoreOut hexec (by rw [hT]; exact hP q0 _ ha) ((hK.2 t0 _ ht).1 n (fun j => .int (f j))) (j := i) (by show (i < 0 ∨ (arrV _ _ _).slots.size ≤ _); rw [arrV_size]; exact Classical.byContradiction hout) (g := F0 m pc ls (.int x :: .int i :: .ref a :: rest)) rfl (rest := rest) rfl (by rw [hb]; exact hdg) t
  simp only [arrV_size] at h1
  exact h1 st
theorem vx_zaldZ {D : va_G} {cl : List vw_C} {ws : va_W} {tys : List (ClassId × FieldType)} {a : Nat} (hexec : p.tables.exec = Jvm.exec) (hb : c.code = cc) (hK : va_K D cl tys s) (hP : va_P D cl ws H) (q0 t0 : Nat) {cA : ClassId} {n : Nat} {f : Nat → Int32} (ha : ws[q0]? = some (a, .inl (cA, n, .inl f))) (ht : tys[t0]? = some (cA, .boolean)) {i : Int32} (hout : ¬ vp_in i n) (hdg : decode cc pc = .ok (.baload, 1))
    (k : ∀ tx : String, tx = (toString "Index " ++ toString i ++ toString " out of bounds for length " ++ toString n : String) → vx_Note p l e R s m args below meth c H locs cells slots Q (F0 m pc ls rest) "java/lang/ArrayIndexOutOfBoundsException" tx) : W p l e R s m args below meth c H locs cells slots Q (F0 m pc ls (.int i :: .ref a :: rest)) := by
  intro T hT X
  obtain ⟨t, st, q⟩ := k _ rfl T hT X
  refine ⟨t, ?_, q⟩
  have h1 := X.baloadOut hexec (by rw [hT]; exact hP q0 _ ha) ((hK.2 t0 _ ht).1 n (fun j => .int (f j))) (j := i) (by show (i < 0 ∨ (arrV _ _ _).slots.size ≤ _); rw [arrV_size]; exact Classical.byContradiction hout) (g := F0 m pc ls (.int i :: .ref a :: rest)) rfl (rest := rest) rfl (by rw [hb]; exact hdg) t
  simp only [arrV_size] at h1
  exact h1 st
theorem vx_zastZ {D : va_G} {cl : List vw_C} {ws : va_W} {tys : List (ClassId × FieldType)} {a : Nat} (hexec : p.tables.exec = Jvm.exec) (hb : c.code = cc) (hK : va_K D cl tys s) (hP : va_P D cl ws H) (q0 t0 : Nat) {cA : ClassId} {n : Nat} {f : Nat → Int32} (ha : ws[q0]? = some (a, .inl (cA, n, .inl f))) (ht : tys[t0]? = some (cA, .boolean)) {i : Int32} {x : Int32} (hout : ¬ vp_in i n) (hdg : decode cc pc = .ok (.bastore, 1))
    (k : ∀ tx : String, tx = (toString "Index " ++ toString i ++ toString " out of bounds for length " ++ toString n : String) → vx_Note p l e R s m args below meth c H locs cells slots Q (F0 m pc ls rest) "java/lang/ArrayIndexOutOfBoundsException" tx) : W p l e R s m args below meth c H locs cells slots Q (F0 m pc ls (.int x :: .int i :: .ref a :: rest)) := by
  intro T hT X
  obtain ⟨t, st, q⟩ := k _ rfl T hT X
  refine ⟨t, ?_, q⟩
  have h1 := X.bastoreOut hexec (by rw [hT]; exact hP q0 _ ha) ((hK.2 t0 _ ht).1 n (fun j => .int (f j))) (j := i) (by show (i < 0 ∨ (arrV _ _ _).slots.size ≤ _); rw [arrV_size]; exact Classical.byContradiction hout) (g := F0 m pc ls (.int x :: .int i :: .ref a :: rest)) rfl (rest := rest) rfl (by rw [hb]; exact hdg) t
  simp only [arrV_size] at h1
  exact h1 st
theorem vx_caldZ {D : va_G} {cl : List vw_C} {ws : va_W} {tys : List (ClassId × FieldType)} {a : Nat} (hexec : p.tables.exec = Jvm.exec) (hb : c.code = cc) (hK : va_K D cl tys s) (hP : va_P D cl ws H) (q0 t0 : Nat) {cA : ClassId} {n : Nat} {f : Nat → Int32} (ha : ws[q0]? = some (a, .inl (cA, n, .inl f))) (ht : tys[t0]? = some (cA, .char)) {i : Int32} (hout : ¬ vp_in i n) (hdg : decode cc pc = .ok (.caload, 1))
    (k : ∀ tx : String, tx = (toString "Index " ++ toString i ++ toString " out of bounds for length " ++ toString n : String) → vx_Note p l e R s m args below meth c H locs cells slots Q (F0 m pc ls rest) "java/lang/ArrayIndexOutOfBoundsException" tx) : W p l e R s m args below meth c H locs cells slots Q (F0 m pc ls (.int i :: .ref a :: rest)) := by
  intro T hT X
  obtain ⟨t, st, q⟩ := k _ rfl T hT X
  refine ⟨t, ?_, q⟩
  have h1 := X.caloadOut hexec (by rw [hT]; exact hP q0 _ ha) ((hK.2 t0 _ ht).1 n (fun j => .int (f j))) (j := i) (by show (i < 0 ∨ (arrV _ _ _).slots.size ≤ _); rw [arrV_size]; exact Classical.byContradiction hout) (g := F0 m pc ls (.int i :: .ref a :: rest)) rfl (rest := rest) rfl (by rw [hb]; exact hdg) t
  simp only [arrV_size] at h1
  exact h1 st
theorem vx_castZ {D : va_G} {cl : List vw_C} {ws : va_W} {tys : List (ClassId × FieldType)} {a : Nat} (hexec : p.tables.exec = Jvm.exec) (hb : c.code = cc) (hK : va_K D cl tys s) (hP : va_P D cl ws H) (q0 t0 : Nat) {cA : ClassId} {n : Nat} {f : Nat → Int32} (ha : ws[q0]? = some (a, .inl (cA, n, .inl f))) (ht : tys[t0]? = some (cA, .char)) {i : Int32} {x : Int32} (hout : ¬ vp_in i n) (hdg : decode cc pc = .ok (.castore, 1))
    (k : ∀ tx : String, tx = (toString "Index " ++ toString i ++ toString " out of bounds for length " ++ toString n : String) → vx_Note p l e R s m args below meth c H locs cells slots Q (F0 m pc ls rest) "java/lang/ArrayIndexOutOfBoundsException" tx) : W p l e R s m args below meth c H locs cells slots Q (F0 m pc ls (.int x :: .int i :: .ref a :: rest)) := by
  intro T hT X
  obtain ⟨t, st, q⟩ := k _ rfl T hT X
  refine ⟨t, ?_, q⟩
  have h1 := X.castoreOut hexec (by rw [hT]; exact hP q0 _ ha) ((hK.2 t0 _ ht).1 n (fun j => .int (f j))) (j := i) (by show (i < 0 ∨ (arrV _ _ _).slots.size ≤ _); rw [arrV_size]; exact Classical.byContradiction hout) (g := F0 m pc ls (.int x :: .int i :: .ref a :: rest)) rfl (rest := rest) rfl (by rw [hb]; exact hdg) t
  simp only [arrV_size] at h1
  exact h1 st
theorem vx_saldZ {D : va_G} {cl : List vw_C} {ws : va_W} {tys : List (ClassId × FieldType)} {a : Nat} (hexec : p.tables.exec = Jvm.exec) (hb : c.code = cc) (hK : va_K D cl tys s) (hP : va_P D cl ws H) (q0 t0 : Nat) {cA : ClassId} {n : Nat} {f : Nat → Int32} (ha : ws[q0]? = some (a, .inl (cA, n, .inl f))) (ht : tys[t0]? = some (cA, .short)) {i : Int32} (hout : ¬ vp_in i n) (hdg : decode cc pc = .ok (.saload, 1))
    (k : ∀ tx : String, tx = (toString "Index " ++ toString i ++ toString " out of bounds for length " ++ toString n : String) → vx_Note p l e R s m args below meth c H locs cells slots Q (F0 m pc ls rest) "java/lang/ArrayIndexOutOfBoundsException" tx) : W p l e R s m args below meth c H locs cells slots Q (F0 m pc ls (.int i :: .ref a :: rest)) := by
  intro T hT X
  obtain ⟨t, st, q⟩ := k _ rfl T hT X
  refine ⟨t, ?_, q⟩
  have h1 := X.saloadOut hexec (by rw [hT]; exact hP q0 _ ha) ((hK.2 t0 _ ht).1 n (fun j => .int (f j))) (j := i) (by show (i < 0 ∨ (arrV _ _ _).slots.size ≤ _); rw [arrV_size]; exact Classical.byContradiction hout) (g := F0 m pc ls (.int i :: .ref a :: rest)) rfl (rest := rest) rfl (by rw [hb]; exact hdg) t
  simp only [arrV_size] at h1
  exact h1 st
theorem vx_sastZ {D : va_G} {cl : List vw_C} {ws : va_W} {tys : List (ClassId × FieldType)} {a : Nat} (hexec : p.tables.exec = Jvm.exec) (hb : c.code = cc) (hK : va_K D cl tys s) (hP : va_P D cl ws H) (q0 t0 : Nat) {cA : ClassId} {n : Nat} {f : Nat → Int32} (ha : ws[q0]? = some (a, .inl (cA, n, .inl f))) (ht : tys[t0]? = some (cA, .short)) {i : Int32} {x : Int32} (hout : ¬ vp_in i n) (hdg : decode cc pc = .ok (.sastore, 1))
    (k : ∀ tx : String, tx = (toString "Index " ++ toString i ++ toString " out of bounds for length " ++ toString n : String) → vx_Note p l e R s m args below meth c H locs cells slots Q (F0 m pc ls rest) "java/lang/ArrayIndexOutOfBoundsException" tx) : W p l e R s m args below meth c H locs cells slots Q (F0 m pc ls (.int x :: .int i :: .ref a :: rest)) := by
  intro T hT X
  obtain ⟨t, st, q⟩ := k _ rfl T hT X
  refine ⟨t, ?_, q⟩
  have h1 := X.sastoreOut hexec (by rw [hT]; exact hP q0 _ ha) ((hK.2 t0 _ ht).1 n (fun j => .int (f j))) (j := i) (by show (i < 0 ∨ (arrV _ _ _).slots.size ≤ _); rw [arrV_size]; exact Classical.byContradiction hout) (g := F0 m pc ls (.int x :: .int i :: .ref a :: rest)) rfl (rest := rest) rfl (by rw [hb]; exact hdg) t
  simp only [arrV_size] at h1
  exact h1 st
theorem vx_laldZ {D : va_G} {cl : List vw_C} {ws : va_W} {tys : List (ClassId × FieldType)} {a : Nat} (hexec : p.tables.exec = Jvm.exec) (hb : c.code = cc) (hK : va_K D cl tys s) (hP : va_P D cl ws H) (q0 t0 : Nat) {cA : ClassId} {n : Nat} {f : Nat → Int64} (ha : ws[q0]? = some (a, .inl (cA, n, .inr (.inl f)))) (ht : tys[t0]? = some (cA, .long)) {i : Int32} (hout : ¬ vp_in i n) (hdg : decode cc pc = .ok (.laload, 1))
    (k : ∀ tx : String, tx = (toString "Index " ++ toString i ++ toString " out of bounds for length " ++ toString n : String) → vx_Note p l e R s m args below meth c H locs cells slots Q (F0 m pc ls rest) "java/lang/ArrayIndexOutOfBoundsException" tx) : W p l e R s m args below meth c H locs cells slots Q (F0 m pc ls (.int i :: .ref a :: rest)) := by
  intro T hT X
  obtain ⟨t, st, q⟩ := k _ rfl T hT X
  refine ⟨t, ?_, q⟩
  have h1 := X.laloadOut hexec (by rw [hT]; exact hP q0 _ ha) ((hK.2 t0 _ ht).1 n (fun j => .long (f j))) (j := i) (by show (i < 0 ∨ (arrV _ _ _).slots.size ≤ _); rw [arrV_size]; exact Classical.byContradiction hout) (g := F0 m pc ls (.int i :: .ref a :: rest)) rfl (rest := rest) rfl (by rw [hb]; exact hdg) t
  simp only [arrV_size] at h1
  exact h1 st
theorem vx_lastZ {D : va_G} {cl : List vw_C} {ws : va_W} {tys : List (ClassId × FieldType)} {a : Nat} (hexec : p.tables.exec = Jvm.exec) (hb : c.code = cc) (hK : va_K D cl tys s) (hP : va_P D cl ws H) (q0 t0 : Nat) {cA : ClassId} {n : Nat} {f : Nat → Int64} (ha : ws[q0]? = some (a, .inl (cA, n, .inr (.inl f)))) (ht : tys[t0]? = some (cA, .long)) {i : Int32} {x : Int64} (hout : ¬ vp_in i n) (hdg : decode cc pc = .ok (.lastore, 1))
    (k : ∀ tx : String, tx = (toString "Index " ++ toString i ++ toString " out of bounds for length " ++ toString n : String) → vx_Note p l e R s m args below meth c H locs cells slots Q (F0 m pc ls rest) "java/lang/ArrayIndexOutOfBoundsException" tx) : W p l e R s m args below meth c H locs cells slots Q (F0 m pc ls (.long x :: .int i :: .ref a :: rest)) := by
  intro T hT X
  obtain ⟨t, st, q⟩ := k _ rfl T hT X
  refine ⟨t, ?_, q⟩
  have h1 := X.lastoreOut hexec (by rw [hT]; exact hP q0 _ ha) ((hK.2 t0 _ ht).1 n (fun j => .long (f j))) (j := i) (by show (i < 0 ∨ (arrV _ _ _).slots.size ≤ _); rw [arrV_size]; exact Classical.byContradiction hout) (g := F0 m pc ls (.long x :: .int i :: .ref a :: rest)) rfl (rest := rest) rfl (by rw [hb]; exact hdg) t
  simp only [arrV_size] at h1
  exact h1 st
theorem vx_faldZ {D : va_G} {cl : List vw_C} {ws : va_W} {tys : List (ClassId × FieldType)} {a : Nat} (hexec : p.tables.exec = Jvm.exec) (hb : c.code = cc) (hK : va_K D cl tys s) (hP : va_P D cl ws H) (q0 t0 : Nat) {cA : ClassId} {n : Nat} {f : Nat → UInt32} (ha : ws[q0]? = some (a, .inl (cA, n, .inr (.inr (.inl f))))) (ht : tys[t0]? = some (cA, .float)) {i : Int32} (hout : ¬ vp_in i n) (hdg : decode cc pc = .ok (.faload, 1))
    (k : ∀ tx : String, tx = (toString "Index " ++ toString i ++ toString " out of bounds for length " ++ toString n : String) → vx_Note p l e R s m args below meth c H locs cells slots Q (F0 m pc ls rest) "java/lang/ArrayIndexOutOfBoundsException" tx) : W p l e R s m args below meth c H locs cells slots Q (F0 m pc ls (.int i :: .ref a :: rest)) := by
  intro T hT X
  obtain ⟨t, st, q⟩ := k _ rfl T hT X
  refine ⟨t, ?_, q⟩
  have h1 := X.faloadOut hexec (by rw [hT]; exact hP q0 _ ha) ((hK.2 t0 _ ht).1 n (fun j => .float (f j))) (j := i) (by show (i < 0 ∨ (arrV _ _ _).slots.size ≤ _); rw [arrV_size]; exact Classical.byContradiction hout) (g := F0 m pc ls (.int i :: .ref a :: rest)) rfl (rest := rest) rfl (by rw [hb]; exact hdg) t
  simp only [arrV_size] at h1
  exact h1 st
theorem vx_fastZ {D : va_G} {cl : List vw_C} {ws : va_W} {tys : List (ClassId × FieldType)} {a : Nat} (hexec : p.tables.exec = Jvm.exec) (hb : c.code = cc) (hK : va_K D cl tys s) (hP : va_P D cl ws H) (q0 t0 : Nat) {cA : ClassId} {n : Nat} {f : Nat → UInt32} (ha : ws[q0]? = some (a, .inl (cA, n, .inr (.inr (.inl f))))) (ht : tys[t0]? = some (cA, .float)) {i : Int32} {x : UInt32} (hout : ¬ vp_in i n) (hdg : decode cc pc = .ok (.fastore, 1))
    (k : ∀ tx : String, tx = (toString "Index " ++ toString i ++ toString " out of bounds for length " ++ toString n : String) → vx_Note p l e R s m args below meth c H locs cells slots Q (F0 m pc ls rest) "java/lang/ArrayIndexOutOfBoundsException" tx) : W p l e R s m args below meth c H locs cells slots Q (F0 m pc ls (.float x :: .int i :: .ref a :: rest)) := by
  intro T hT X
  obtain ⟨t, st, q⟩ := k _ rfl T hT X
  refine ⟨t, ?_, q⟩
  have h1 := X.fastoreOut hexec (by rw [hT]; exact hP q0 _ ha) ((hK.2 t0 _ ht).1 n (fun j => .float (f j))) (j := i) (by show (i < 0 ∨ (arrV _ _ _).slots.size ≤ _); rw [arrV_size]; exact Classical.byContradiction hout) (g := F0 m pc ls (.float x :: .int i :: .ref a :: rest)) rfl (rest := rest) rfl (by rw [hb]; exact hdg) t
  simp only [arrV_size] at h1
  exact h1 st
theorem vx_daldZ {D : va_G} {cl : List vw_C} {ws : va_W} {tys : List (ClassId × FieldType)} {a : Nat} (hexec : p.tables.exec = Jvm.exec) (hb : c.code = cc) (hK : va_K D cl tys s) (hP : va_P D cl ws H) (q0 t0 : Nat) {cA : ClassId} {n : Nat} {f : Nat → UInt64} (ha : ws[q0]? = some (a, .inl (cA, n, .inr (.inr (.inr (.inl f)))))) (ht : tys[t0]? = some (cA, .double)) {i : Int32} (hout : ¬ vp_in i n) (hdg : decode cc pc = .ok (.daload, 1))
    (k : ∀ tx : String, tx = (toString "Index " ++ toString i ++ toString " out of bounds for length " ++ toString n : String) → vx_Note p l e R s m args below meth c H locs cells slots Q (F0 m pc ls rest) "java/lang/ArrayIndexOutOfBoundsException" tx) : W p l e R s m args below meth c H locs cells slots Q (F0 m pc ls (.int i :: .ref a :: rest)) := by
  intro T hT X
  obtain ⟨t, st, q⟩ := k _ rfl T hT X
  refine ⟨t, ?_, q⟩
  have h1 := X.daloadOut hexec (by rw [hT]; exact hP q0 _ ha) ((hK.2 t0 _ ht).1 n (fun j => .double (f j))) (j := i) (by show (i < 0 ∨ (arrV _ _ _).slots.size ≤ _); rw [arrV_size]; exact Classical.byContradiction hout) (g := F0 m pc ls (.int i :: .ref a :: rest)) rfl (rest := rest) rfl (by rw [hb]; exact hdg) t
  simp only [arrV_size] at h1
  exact h1 st
theorem vx_dastZ {D : va_G} {cl : List vw_C} {ws : va_W} {tys : List (ClassId × FieldType)} {a : Nat} (hexec : p.tables.exec = Jvm.exec) (hb : c.code = cc) (hK : va_K D cl tys s) (hP : va_P D cl ws H) (q0 t0 : Nat) {cA : ClassId} {n : Nat} {f : Nat → UInt64} (ha : ws[q0]? = some (a, .inl (cA, n, .inr (.inr (.inr (.inl f)))))) (ht : tys[t0]? = some (cA, .double)) {i : Int32} {x : UInt64} (hout : ¬ vp_in i n) (hdg : decode cc pc = .ok (.dastore, 1))
    (k : ∀ tx : String, tx = (toString "Index " ++ toString i ++ toString " out of bounds for length " ++ toString n : String) → vx_Note p l e R s m args below meth c H locs cells slots Q (F0 m pc ls rest) "java/lang/ArrayIndexOutOfBoundsException" tx) : W p l e R s m args below meth c H locs cells slots Q (F0 m pc ls (.double x :: .int i :: .ref a :: rest)) := by
  intro T hT X
  obtain ⟨t, st, q⟩ := k _ rfl T hT X
  refine ⟨t, ?_, q⟩
  have h1 := X.dastoreOut hexec (by rw [hT]; exact hP q0 _ ha) ((hK.2 t0 _ ht).1 n (fun j => .double (f j))) (j := i) (by show (i < 0 ∨ (arrV _ _ _).slots.size ≤ _); rw [arrV_size]; exact Classical.byContradiction hout) (g := F0 m pc ls (.double x :: .int i :: .ref a :: rest)) rfl (rest := rest) rfl (by rw [hb]; exact hdg) t
  simp only [arrV_size] at h1
  exact h1 st
theorem vx_arraylengthN (hexec : p.tables.exec = Jvm.exec) (hb : c.code = cc) (hdg : decode cc pc = .ok (.arraylength, 1)) (k : vx_NoteN p l e R s m args below meth c H locs cells slots Q (F0 m pc ls rest)) : W p l e R s m args below meth c H locs cells slots Q (F0 m pc ls (.null :: rest)) := by
  intro T hT X
  obtain ⟨t, st, q⟩ := k T hT X
  exact ⟨t, X.arraylengthNull hexec (g := F0 m pc ls (.null :: rest)) rfl (rest := rest) rfl (by rw [hb]; exact hdg) t st, q⟩
theorem vx_ialoadN (hexec : p.tables.exec = Jvm.exec) (hb : c.code = cc) {i : Int32} (hdg : decode cc pc = .ok (.iaload, 1)) (k : vx_NoteN p l e R s m args below meth c H locs cells slots Q (F0 m pc ls rest)) : W p l e R s m args below meth c H locs cells slots Q (F0 m pc ls (.int i :: .null :: rest)) := by
  intro T hT X
  obtain ⟨t, st, q⟩ := k T hT X
  exact ⟨t, X.ialoadNull hexec (g := F0 m pc ls (.int i :: .null :: rest)) rfl (rest := rest) rfl (by rw [hb]; exact hdg) t st, q⟩
theorem vx_laloadN (hexec : p.tables.exec = Jvm.exec) (hb : c.code = cc) {i : Int32} (hdg : decode cc pc = .ok (.laload, 1)) (k : vx_NoteN p l e R s m args below meth c H locs cells slots Q (F0 m pc ls rest)) : W p l e R s m args below meth c H locs cells slots Q (F0 m pc ls (.int i :: .null :: rest)) := by
  intro T hT X
  obtain ⟨t, st, q⟩ := k T hT X
  exact ⟨t, X.laloadNull hexec (g := F0 m pc ls (.int i :: .null :: rest)) rfl (rest := rest) rfl (by rw [hb]; exact hdg) t st, q⟩
theorem vx_faloadN (hexec : p.tables.exec = Jvm.exec) (hb : c.code = cc) {i : Int32} (hdg : decode cc pc = .ok (.faload, 1)) (k : vx_NoteN p l e R s m args below meth c H locs cells slots Q (F0 m pc ls rest)) : W p l e R s m args below meth c H locs cells slots Q (F0 m pc ls (.int i :: .null :: rest)) := by
  intro T hT X
  obtain ⟨t, st, q⟩ := k T hT X
  exact ⟨t, X.faloadNull hexec (g := F0 m pc ls (.int i :: .null :: rest)) rfl (rest := rest) rfl (by rw [hb]; exact hdg) t st, q⟩
theorem vx_daloadN (hexec : p.tables.exec = Jvm.exec) (hb : c.code = cc) {i : Int32} (hdg : decode cc pc = .ok (.daload, 1)) (k : vx_NoteN p l e R s m args below meth c H locs cells slots Q (F0 m pc ls rest)) : W p l e R s m args below meth c H locs cells slots Q (F0 m pc ls (.int i :: .null :: rest)) := by
  intro T hT X
  obtain ⟨t, st, q⟩ := k T hT X
  exact ⟨t, X.daloadNull hexec (g := F0 m pc ls (.int i :: .null :: rest)) rfl (rest := rest) rfl (by rw [hb]; exact hdg) t st, q⟩
theorem vx_aaloadN (hexec : p.tables.exec = Jvm.exec) (hb : c.code = cc) {i : Int32} (hdg : decode cc pc = .ok (.aaload, 1)) (k : vx_NoteN p l e R s m args below meth c H locs cells slots Q (F0 m pc ls rest)) : W p l e R s m args below meth c H locs cells slots Q (F0 m pc ls (.int i :: .null :: rest)) := by
  intro T hT X
  obtain ⟨t, st, q⟩ := k T hT X
  exact ⟨t, X.aaloadNull hexec (g := F0 m pc ls (.int i :: .null :: rest)) rfl (rest := rest) rfl (by rw [hb]; exact hdg) t st, q⟩
theorem vx_baloadN (hexec : p.tables.exec = Jvm.exec) (hb : c.code = cc) {i : Int32} (hdg : decode cc pc = .ok (.baload, 1)) (k : vx_NoteN p l e R s m args below meth c H locs cells slots Q (F0 m pc ls rest)) : W p l e R s m args below meth c H locs cells slots Q (F0 m pc ls (.int i :: .null :: rest)) := by
  intro T hT X
  obtain ⟨t, st, q⟩ := k T hT X
  exact ⟨t, X.baloadNull hexec (g := F0 m pc ls (.int i :: .null :: rest)) rfl (rest := rest) rfl (by rw [hb]; exact hdg) t st, q⟩
theorem vx_caloadN (hexec : p.tables.exec = Jvm.exec) (hb : c.code = cc) {i : Int32} (hdg : decode cc pc = .ok (.caload, 1)) (k : vx_NoteN p l e R s m args below meth c H locs cells slots Q (F0 m pc ls rest)) : W p l e R s m args below meth c H locs cells slots Q (F0 m pc ls (.int i :: .null :: rest)) := by
  intro T hT X
  obtain ⟨t, st, q⟩ := k T hT X
  exact ⟨t, X.caloadNull hexec (g := F0 m pc ls (.int i :: .null :: rest)) rfl (rest := rest) rfl (by rw [hb]; exact hdg) t st, q⟩
theorem vx_saloadN (hexec : p.tables.exec = Jvm.exec) (hb : c.code = cc) {i : Int32} (hdg : decode cc pc = .ok (.saload, 1)) (k : vx_NoteN p l e R s m args below meth c H locs cells slots Q (F0 m pc ls rest)) : W p l e R s m args below meth c H locs cells slots Q (F0 m pc ls (.int i :: .null :: rest)) := by
  intro T hT X
  obtain ⟨t, st, q⟩ := k T hT X
  exact ⟨t, X.saloadNull hexec (g := F0 m pc ls (.int i :: .null :: rest)) rfl (rest := rest) rfl (by rw [hb]; exact hdg) t st, q⟩
theorem vx_iastoreN (hexec : p.tables.exec = Jvm.exec) (hb : c.code = cc) {x : Int32} {i : Int32} (hdg : decode cc pc = .ok (.iastore, 1)) (k : vx_NoteN p l e R s m args below meth c H locs cells slots Q (F0 m pc ls rest)) : W p l e R s m args below meth c H locs cells slots Q (F0 m pc ls (.int x :: .int i :: .null :: rest)) := by
  intro T hT X
  obtain ⟨t, st, q⟩ := k T hT X
  exact ⟨t, X.iastoreNull hexec (g := F0 m pc ls (.int x :: .int i :: .null :: rest)) rfl (rest := rest) rfl (by rw [hb]; exact hdg) t st, q⟩
theorem vx_lastoreN (hexec : p.tables.exec = Jvm.exec) (hb : c.code = cc) {x : Int64} {i : Int32} (hdg : decode cc pc = .ok (.lastore, 1)) (k : vx_NoteN p l e R s m args below meth c H locs cells slots Q (F0 m pc ls rest)) : W p l e R s m args below meth c H locs cells slots Q (F0 m pc ls (.long x :: .int i :: .null :: rest)) := by
  intro T hT X
  obtain ⟨t, st, q⟩ := k T hT X
  exact ⟨t, X.lastoreNull hexec (g := F0 m pc ls (.long x :: .int i :: .null :: rest)) rfl (rest := rest) rfl (by rw [hb]; exact hdg) t st, q⟩
theorem vx_fastoreN (hexec : p.tables.exec = Jvm.exec) (hb : c.code = cc) {x : UInt32} {i : Int32} (hdg : decode cc pc = .ok (.fastore, 1)) (k : vx_NoteN p l e R s m args below meth c H locs cells slots Q (F0 m pc ls rest)) : W p l e R s m args below meth c H locs cells slots Q (F0 m pc ls (.float x :: .int i :: .null :: rest)) := by
  intro T hT X
  obtain ⟨t, st, q⟩ := k T hT X
  exact ⟨t, X.fastoreNull hexec (g := F0 m pc ls (.float x :: .int i :: .null :: rest)) rfl (rest := rest) rfl (by rw [hb]; exact hdg) t st, q⟩
theorem vx_dastoreN (hexec : p.tables.exec = Jvm.exec) (hb : c.code = cc) {x : UInt64} {i : Int32} (hdg : decode cc pc = .ok (.dastore, 1)) (k : vx_NoteN p l e R s m args below meth c H locs cells slots Q (F0 m pc ls rest)) : W p l e R s m args below meth c H locs cells slots Q (F0 m pc ls (.double x :: .int i :: .null :: rest)) := by
  intro T hT X
  obtain ⟨t, st, q⟩ := k T hT X
  exact ⟨t, X.dastoreNull hexec (g := F0 m pc ls (.double x :: .int i :: .null :: rest)) rfl (rest := rest) rfl (by rw [hb]; exact hdg) t st, q⟩
theorem vx_bastoreN (hexec : p.tables.exec = Jvm.exec) (hb : c.code = cc) {x : Int32} {i : Int32} (hdg : decode cc pc = .ok (.bastore, 1)) (k : vx_NoteN p l e R s m args below meth c H locs cells slots Q (F0 m pc ls rest)) : W p l e R s m args below meth c H locs cells slots Q (F0 m pc ls (.int x :: .int i :: .null :: rest)) := by
  intro T hT X
  obtain ⟨t, st, q⟩ := k T hT X
  exact ⟨t, X.bastoreNull hexec (g := F0 m pc ls (.int x :: .int i :: .null :: rest)) rfl (rest := rest) rfl (by rw [hb]; exact hdg) t st, q⟩
theorem vx_castoreN (hexec : p.tables.exec = Jvm.exec) (hb : c.code = cc) {x : Int32} {i : Int32} (hdg : decode cc pc = .ok (.castore, 1)) (k : vx_NoteN p l e R s m args below meth c H locs cells slots Q (F0 m pc ls rest)) : W p l e R s m args below meth c H locs cells slots Q (F0 m pc ls (.int x :: .int i :: .null :: rest)) := by
  intro T hT X
  obtain ⟨t, st, q⟩ := k T hT X
  exact ⟨t, X.castoreNull hexec (g := F0 m pc ls (.int x :: .int i :: .null :: rest)) rfl (rest := rest) rfl (by rw [hb]; exact hdg) t st, q⟩
theorem vx_sastoreN (hexec : p.tables.exec = Jvm.exec) (hb : c.code = cc) {x : Int32} {i : Int32} (hdg : decode cc pc = .ok (.sastore, 1)) (k : vx_NoteN p l e R s m args below meth c H locs cells slots Q (F0 m pc ls rest)) : W p l e R s m args below meth c H locs cells slots Q (F0 m pc ls (.int x :: .int i :: .null :: rest)) := by
  intro T hT X
  obtain ⟨t, st, q⟩ := k T hT X
  exact ⟨t, X.sastoreNull hexec (g := F0 m pc ls (.int x :: .int i :: .null :: rest)) rfl (rest := rest) rfl (by rw [hb]; exact hdg) t st, q⟩
theorem vx_invokeN {own C : String} {index maxL : Nat} {y : MethodName} {bytes : ByteArray} {ret : Option FieldType} (hexec : p.tables.exec = Jvm.exec) (hb : c.code = cc) (hown : s.vm.findClass own = some m.cls) (hlink : (Cond.methodLink own index y).before args s = true) (hinst : (Cond.instanceMethod y).before args s = true) (hcode : (Cond.code y bytes maxL ret).before args s = true) (hsel : (Cond.selects C y y).before args s = true)
    (hx : y.cls ≠ "java/lang/invoke/MethodHandle" ∧ y.cls ≠ "java/lang/invoke/VarHandle") {As : List Value} (hlen : (parseMethodDescriptor y.desc).map (fun d => d.parameters.length) = some As.length) (hdg : decode cc pc = .ok (.invokevirtual index, 3))
    (k : vx_NoteN p l e R s m args below meth c H locs cells slots Q (F0 m pc ls rest)) {st0 : List Value} (hst : st0 = As.reverse ++ .null :: rest) : W p l e R s m args below meth c H locs cells slots Q (F0 m pc ls st0) := by
  intro T hT X
  obtain ⟨r0, r, hn, hrm, hstR, hsigR⟩ := va_Decl.of hinst hcode
  obtain ⟨c2, r2, m2, q1, q2, q3, q4, kP, hkP, hkPi⟩ := Cond.selects_spec hsel
  cases hn.symm.trans q3
  have hl9 : As.length = r.sig.parameters.length := by
    rw [hsigR] at hlen
    exact (Option.some.inj hlen).symm
  obtain ⟨vm', X1, st1⟩ := X.invokevirtualNull hexec hown hlink hn hrm hstR hkP hkPi hx (g := F0 m pc ls st0) rfl (argsL := As) (rest := rest) hl9 hst (by rw [hb]; exact hdg)
  obtain ⟨t, st, q⟩ := k (T.setVm vm') hT X1
  exact ⟨t, st1 t st, q⟩
theorem vx_newarrayZ {atype : ArrayType} (hexec : p.tables.exec = Jvm.exec) (hb : c.code = cc) {n : Int32} (h0 : n < 0) (hdg : decode cc pc = .ok (.newarray atype, 2)) (k : ∀ tx : String, tx = toString n → vx_Note p l e R s m args below meth c H locs cells slots Q (F0 m pc ls rest) "java/lang/NegativeArraySizeException" tx) : W p l e R s m args below meth c H locs cells slots Q (F0 m pc ls (.int n :: rest)) := by
  intro T hT X
  obtain ⟨t, st, q⟩ := k _ rfl T hT X
  exact ⟨t, X.newarrayNegative hexec (g := F0 m pc ls (.int n :: rest)) rfl h0 (rest := rest) rfl (by rw [hb]; exact hdg) t st, q⟩
end
end VXM
/-! ===== END ===== -/
/-! ===== BEGIN an exception as an object: made, kept, thrown later (no traces kept) ===== -/
section VXK
variable {p : Program} {l : Launch} {e : Env} {R : Room} {s : State} {m₀ : MethodId} {args : Array Value} {below : List Frame} {meth : Method} {c : Code} {W : State} {locs : List Loc} {cells slots : Nat}
set_option maxHeartbeats 1000000 in
theorem vx_ctorMadeS (X : Stand p l e R s m₀ args below meth c W locs cells slots) (hexec : p.tables.exec = Jvm.exec) (htr : e.platform.stackTraces = false) {own cls : String} {names : List String} {ic : Nat}
    (hown : s.vm.findClass own = some m₀.cls) (hcls : Bundle.fit cls = true) (hnames : ∀ n ∈ names, Bundle.fit n = true)
    (h : ∀ a ∈ Bundle.ownAtoms own ic cls names, a.before args s = true)
    (hlocs : ∀ x ∈ locs, ∀ cell, s.heap[x.base]? = some cell → cell.vm.isStatics = false)
    {a : Addr} {cX : ClassId} {kX : Class} (hfoundX : s.vm.findClass cls = some cX) (hkX : s.vm.classes[cX]? = some kX) (hcell : W.heap[a]? = some (freshCell cX kX)) (hnew : s.heap.size ≤ a)
    {msg : Value} (hmsg : msg.isRef = true)
    {g : JFrame} (hg : g.method = m₀) (hsize : g.locals.size = c.maxLocals) {rest : List Value} (hstack : g.stack = msg :: .ref a :: .ref a :: rest)
    (hd6 : decode c.code g.pc = .ok (.invokespecial ic, 3))
    (hRframes : names.length + 3 < R.frames) (hRlocals : 2 * g.monitorRoom + ((Value.ref a :: rest).map fun v => v.category).sum + (13 * (names.length + 1) + 42) ≤ R.locals) :
    ∃ (V : State) (ce : Cell) (L : List Loc), Stand p l e R s m₀ args below meth c (V.setCell a ce) (locs ++ L) cells slots ∧ (∀ y ∈ L, y.base = a) ∧ a < V.heap.size ∧ ce.cls = cX ∧ ce.vm = .none ∧
      ∀ target, Steps p.tables e below ((V.setCell a ce).setTop { g with stack := .ref a :: rest, pc := g.pc + 3 }) target → Steps p.tables e below (W.setTop g) target := by
  have howns : e.platform.frameOwnsMonitors = true := by rw [X.admits.platform]
  have hfin : e.platform.finalization = false := by rw [X.admits.platform]
  have hpl : e.platform.magicAccessors = ({} : Platform).magicAccessors := by rw [X.admits.platform]
  have a' : ∀ x, x ∈ Bundle.ownAtoms own ic cls names → x.holds args s none s [] = true := fun x hx => h x hx
  obtain ⟨T, Z0, L, -, Y⟩ := ThrowableC.of_atoms (args := args) howns hfin hpl (fun x hx => h x (by simp [Bundle.ownAtoms, hx]))
  obtain ⟨Z, M, LZ, LM, hnZ⟩ := Init0T.ofS_atoms (args := args) hpl L Y (fun x hx => h x (by simp [Bundle.ownAtoms, hx]))
  obtain ⟨P1, Ps, hlen, L1, hL, hP1m, hlink1, hlink⟩ := Bundle.chainS (args := args) hpl hnZ names cls hcls hnames (fun x hx => h x (by simp [Bundle.ownAtoms, hx]))
  have hfound : s.vm.findClass cls = some P1.m.cls := findClass_of_methodNamed hP1m
  cases Option.some.inj (hfoundX.symm.trans hfound)
  obtain ⟨c1, kX', hc1, hk, hord, -, -, hn6⟩ := Cond.instantiable_spec (a' (.instantiable cls 6) (by simp [Bundle.ownAtoms]))
  cases Option.some.inj (hc1.symm.trans hfound)
  cases Option.some.inj (hkX.symm.trans hk)
  have hsel0 : selectMethod e.platform s.vm P1.m.cls T.fill0 = .method T.fill0 := by
    obtain ⟨c2, r2, m2, q1, q2, q3, q4, -⟩ := Cond.selects_spec (a' (.selects cls Bundle.tFill0 Bundle.tFill0) (by simp [Bundle.ownAtoms]))
    cases Option.some.inj (q1.symm.trans hfound)
    cases Option.some.inj (q2.symm.trans (State.methodFound?_of_named Y.fill0 (by decide)))
    cases Option.some.inj (q3.symm.trans Y.fill0)
    rw [Launch.admits_selectMethod X.admits]; exact q4
  have hselF : selectMethod e.platform s.vm P1.m.cls T.fill = .method T.fill := by
    obtain ⟨c2, r2, m2, q1, q2, q3, q4, -⟩ := Cond.selects_spec (a' (.selects cls Bundle.tFill Bundle.tFill) (by simp [Bundle.ownAtoms]))
    cases Option.some.inj (q1.symm.trans hfound)
    cases Option.some.inj (q2.symm.trans (State.methodFound?_of_named Y.fill (by decide)))
    cases Option.some.inj (q3.symm.trans Y.fill)
    rw [Launch.admits_selectMethod X.admits]; exact q4
  obtain ⟨cellS0, hcS0, hiss⟩ := Y.statics
  obtain ⟨u0, hu0⟩ := Cond.staticRefV Y.unassigned L.unassignedStatic L.statics hcS0 hiss (a' (.isRef (.static Bundle.tN "UNASSIGNED_STACK" Bundle.steD)) (by simp [Bundle.ownAtoms]))
  obtain ⟨sen, hsen⟩ := Cond.staticRefV Y.sentinel L.sentinelStatic L.statics hcS0 hiss (a' (.isRef (.static Bundle.tN "SUPPRESSED_SENTINEL" Bundle.listD)) (by simp [Bundle.ownAtoms]))
  obtain ⟨ci198, i198, fB, hk198, hg198, ha198, hsB, -, hnB, htB, hffB⟩ := Cond.ownField (t := .object "java/lang/Object") Y.found L.cls (by decide +kernel) (a' (.fieldLink Bundle.tN 198 Bundle.tN "backtrace" "Ljava/lang/Object;") (by simp [Bundle.ownAtoms])) (a' (.lays Bundle.tN Bundle.tN "backtrace" "Ljava/lang/Object;") (by simp [Bundle.ownAtoms])) e.platform hpl
  obtain ⟨cellS, hcS', heS, -, hkeep⟩ := X.same.2.2.2.2.2 T.aS cellS0 hcS0
  have hcellS : W.heap[T.aS]? = some cellS := hcS'
  have hout' : ∀ i, (⟨T.aS, i⟩ : Loc) ∉ locs := fun i hmem => by
    have := hlocs _ hmem cellS0 hcS0
    rw [hiss] at this; cases this
  have hknownS : cellS.vm ≠ .unknown := by
    rw [heS]; intro hu
    rw [show cellS0.vm = .unknown from hu] at hiss
    cases hiss
  have hneS : T.aS ≠ a := Nat.ne_of_lt (Nat.lt_of_lt_of_le (Array.getElem?_eq_some_iff.mp hcS0).1 hnew)
  obtain ⟨iM, hffM⟩ := Y.msg
  obtain ⟨tyC, dC, hdC, hdnC⟩ := Cond.laysAt hfound hk Y.cause (a' (.lays cls Bundle.tN "cause" "Ljava/lang/Throwable;") (by simp [Bundle.ownAtoms]))
  obtain ⟨tyS, dS, hdS, hdnS⟩ := Cond.laysAt hfound hk Y.stack (a' (.lays cls Bundle.tN "stackTrace" Bundle.steD) (by simp [Bundle.ownAtoms]))
  obtain ⟨tyP, dP, hdP, hdnP⟩ := Cond.laysAt hfound hk Y.supp (a' (.lays cls Bundle.tN "suppressedExceptions" Bundle.listD) (by simp [Bundle.ownAtoms]))
  obtain ⟨tyM, dM, hdM, hdnM⟩ := Cond.laysAt hfound hk hffM (a' (.lays cls Bundle.tN "detailMessage" "Ljava/lang/String;") (by simp [Bundle.ownAtoms]))
  obtain ⟨tyB, dB, hdB, hdnB⟩ := Cond.laysAt hfound hk hffB (a' (.lays cls Bundle.tN "backtrace" "Ljava/lang/Object;") (by simp [Bundle.ownAtoms]))
  have bC := Cond.laysApart hdB hdC hdnB hdnC (by rw [hnB, Y.causeName]; decide)
  have bS := Cond.laysApart hdB hdS hdnB hdnS (by rw [hnB, Y.stackName]; decide)
  have bP := Cond.laysApart hdB hdP hdnB hdnP (by rw [hnB, Y.suppName]; decide)
  have hskip : SkipFacts T e.platform s (fun u => u) u0 ((preparedCellV T.toThrowableT (freshCell P1.m.cls kX) a u0 sen).withEntry W.cur) :=
    ⟨{ ci198 := ci198, i198 := i198, fBack := fB }, ⟨hk198, hg198, ha198, hsB⟩, by
      have := fresh_default (c := P1.m.cls) tyB
      rw [htB] at this
      simpa [preparedCellV, Cell.setSlot, Cell.withEntry, Array.getElem?_setIfInBounds, bC, bS, bP, bC.symm, bS.symm, bP.symm, defaultValue] using this, fun _ _ => rfl⟩
  obtain ⟨tm, methC, cdC, kC, vm₁, hnC, -, -, -, -, -, -, -, hW₁, st1⟩ := Steps.initColdS (tb := p.tables) (e := e) (below := below) (s := s) (U := W) X.here hexec X.warmed hpl hown (t := Bundle.initS cls) rfl rfl (Bundle.fit_spec hcls).2
    (a' (.methodLink own ic (Bundle.initS cls)) (by simp [Bundle.ownAtoms])) (h (.instanceMethod (Bundle.initS cls)) (by cases names <;> simp [Bundle.ownAtoms, Bundle.chainSAtoms, Bundle.passSAtoms])) (bytes := Bundle.six) (maxL := 2) (h (.code (Bundle.initS cls) Bundle.six 2 none) (by cases names <;> simp [Bundle.ownAtoms, Bundle.chainSAtoms, Bundle.passSAtoms]))
    (f := g) hg (a := a) (msg := msg) (rest := .ref a :: rest) hstack hd6
  cases Option.some.inj (hnC.symm.trans hP1m)
  have X₁ := X.noted hW₁
  obtain ⟨vm₂, X₂, st2⟩ := X₁.ctorMessageOffV hexec (g := { g with stack := .ref a :: rest }) hg hsize T L Z LZ M LM (P1 :: Ps)
    (fun P hP => by rcases List.mem_cons.mp hP with rfl | hP; exact L1; exact hL P hP) ⟨hlink1, hlink⟩ (u0 := u0) (sen := sen) (self := a) hmsg (cell := freshCell P1.m.cls kX) (cellS := cellS)
    hcell (fun _ => by simp) (by simp) rfl rfl hsel0 hselF hcellS hneS hknownS (by rw [hkeep _ (hout' _)]; exact hu0) (by rw [hkeep _ (hout' _)]; exact hsen)
    (Takes.of_laid hk hord tyC (by rw [Y.causeType]; rfl)) (Takes.of_laid hk hord tyS (by rw [Y.stackType]; exact fits_refV_array _ u0)) (Takes.of_laid hk hord tyP (by rw [Y.suppType]; exact fits_refV_object _ sen))
    (Takes.of_laid hk hord tyM (by rw [Y.msgType]; exact fits_refV_object _ ⟨msg, hmsg⟩)) Y.objLocals hskip htr [] hd6
    (by simp only [List.length_cons, hlen]; omega) (by simp only [List.length_cons, hlen]; exact hRlocals)
  have hlt : a < ((W.setVm vm₁).setVm vm₂).heap.size := (Array.getElem?_eq_some_iff.mp hcell).1
  refine ⟨(W.setVm vm₁).setVm vm₂, _, _, X₂, fun y hy => ?_, hlt, rfl, rfl, fun target hwalk => st1 _ (fun acts => ?_)⟩
  · simp only [List.mem_cons, List.not_mem_nil, or_false] at hy
    rcases hy with rfl | rfl | rfl | rfl | rfl <;> rfl
  · rw [doInvoke_state]
    exact st2 _ hwalk
set_option maxHeartbeats 1000000 in
theorem vx_ctorMade0 (X : Stand p l e R s m₀ args below meth c W locs cells slots) (hexec : p.tables.exec = Jvm.exec) (htr : e.platform.stackTraces = false) {own cls : String} {names : List String} {ic : Nat}
    (hown : s.vm.findClass own = some m₀.cls) (hcls : Bundle.fit cls = true) (hnames : ∀ n ∈ names, Bundle.fit n = true)
    (h : ∀ a ∈ Bundle.ownAtoms0 own ic cls names, a.before args s = true)
    (hlocs : ∀ x ∈ locs, ∀ cell, s.heap[x.base]? = some cell → cell.vm.isStatics = false)
    {a : Addr} {cX : ClassId} {kX : Class} (hfoundX : s.vm.findClass cls = some cX) (hkX : s.vm.classes[cX]? = some kX) (hcell : W.heap[a]? = some (freshCell cX kX)) (hnew : s.heap.size ≤ a)
    {g : JFrame} (hg : g.method = m₀) (hsize : g.locals.size = c.maxLocals) {rest : List Value} (hstack : g.stack = .ref a :: .ref a :: rest)
    (hd6 : decode c.code g.pc = .ok (.invokespecial ic, 3))
    (hRframes : names.length + 3 < R.frames) (hRlocals : 2 * g.monitorRoom + ((Value.ref a :: rest).map fun v => v.category).sum + (13 * (names.length + 1) + 41) ≤ R.locals) :
    ∃ (V : State) (ce : Cell) (L : List Loc), Stand p l e R s m₀ args below meth c (V.setCell a ce) (locs ++ L) cells slots ∧ (∀ y ∈ L, y.base = a) ∧ a < V.heap.size ∧ ce.cls = cX ∧ ce.vm = .none ∧
      ∀ target, Steps p.tables e below ((V.setCell a ce).setTop { g with stack := .ref a :: rest, pc := g.pc + 3 }) target → Steps p.tables e below (W.setTop g) target := by
  have howns : e.platform.frameOwnsMonitors = true := by rw [X.admits.platform]
  have hfin : e.platform.finalization = false := by rw [X.admits.platform]
  have hpl : e.platform.magicAccessors = ({} : Platform).magicAccessors := by rw [X.admits.platform]
  have a' : ∀ x, x ∈ Bundle.ownAtoms0 own ic cls names → x.holds args s none s [] = true := fun x hx => h x hx
  obtain ⟨T, Z, L, LZ, Y⟩ := ThrowableC.of_atoms (args := args) howns hfin hpl (fun x hx => h x (by simp [Bundle.ownAtoms0, hx]))
  obtain ⟨P1, Ps, hlen, L1, hL, hP1m, hlink1, hlink⟩ := Bundle.chain0 (args := args) hpl Y.init0 names cls hcls hnames (fun x hx => h x (by simp [Bundle.ownAtoms0, hx]))
  have hfound : s.vm.findClass cls = some P1.m.cls := findClass_of_methodNamed hP1m
  cases Option.some.inj (hfoundX.symm.trans hfound)
  obtain ⟨c1, kX', hc1, hk, hord, -, -, hn6⟩ := Cond.instantiable_spec (a' (.instantiable cls 6) (by simp [Bundle.ownAtoms0]))
  cases Option.some.inj (hc1.symm.trans hfound)
  cases Option.some.inj (hkX.symm.trans hk)
  have hsel0 : selectMethod e.platform s.vm P1.m.cls T.fill0 = .method T.fill0 := by
    obtain ⟨c2, r2, m2, q1, q2, q3, q4, -⟩ := Cond.selects_spec (a' (.selects cls Bundle.tFill0 Bundle.tFill0) (by simp [Bundle.ownAtoms0]))
    cases Option.some.inj (q1.symm.trans hfound)
    cases Option.some.inj (q2.symm.trans (State.methodFound?_of_named Y.fill0 (by decide)))
    cases Option.some.inj (q3.symm.trans Y.fill0)
    rw [Launch.admits_selectMethod X.admits]; exact q4
  have hselF : selectMethod e.platform s.vm P1.m.cls T.fill = .method T.fill := by
    obtain ⟨c2, r2, m2, q1, q2, q3, q4, -⟩ := Cond.selects_spec (a' (.selects cls Bundle.tFill Bundle.tFill) (by simp [Bundle.ownAtoms0]))
    cases Option.some.inj (q1.symm.trans hfound)
    cases Option.some.inj (q2.symm.trans (State.methodFound?_of_named Y.fill (by decide)))
    cases Option.some.inj (q3.symm.trans Y.fill)
    rw [Launch.admits_selectMethod X.admits]; exact q4
  obtain ⟨cellS0, hcS0, hiss⟩ := Y.statics
  obtain ⟨u0, hu0⟩ := Cond.staticRefV Y.unassigned L.unassignedStatic L.statics hcS0 hiss (a' (.isRef (.static Bundle.tN "UNASSIGNED_STACK" Bundle.steD)) (by simp [Bundle.ownAtoms0]))
  obtain ⟨sen, hsen⟩ := Cond.staticRefV Y.sentinel L.sentinelStatic L.statics hcS0 hiss (a' (.isRef (.static Bundle.tN "SUPPRESSED_SENTINEL" Bundle.listD)) (by simp [Bundle.ownAtoms0]))
  obtain ⟨ci198, i198, fB, hk198, hg198, ha198, hsB, -, hnB, htB, hffB⟩ := Cond.ownField (t := .object "java/lang/Object") Y.found L.cls (by decide +kernel) (a' (.fieldLink Bundle.tN 198 Bundle.tN "backtrace" "Ljava/lang/Object;") (by simp [Bundle.ownAtoms0])) (a' (.lays Bundle.tN Bundle.tN "backtrace" "Ljava/lang/Object;") (by simp [Bundle.ownAtoms0])) e.platform hpl
  obtain ⟨cellS, hcS', heS, -, hkeep⟩ := X.same.2.2.2.2.2 T.aS cellS0 hcS0
  have hcellS : W.heap[T.aS]? = some cellS := hcS'
  have hout' : ∀ i, (⟨T.aS, i⟩ : Loc) ∉ locs := fun i hmem => by
    have := hlocs _ hmem cellS0 hcS0
    rw [hiss] at this; cases this
  have hknownS : cellS.vm ≠ .unknown := by
    rw [heS]; intro hu
    rw [show cellS0.vm = .unknown from hu] at hiss
    cases hiss
  have hneS : T.aS ≠ a := Nat.ne_of_lt (Nat.lt_of_lt_of_le (Array.getElem?_eq_some_iff.mp hcS0).1 hnew)
  obtain ⟨iM, hffM⟩ := Y.msg
  obtain ⟨tyC, dC, hdC, hdnC⟩ := Cond.laysAt hfound hk Y.cause (a' (.lays cls Bundle.tN "cause" "Ljava/lang/Throwable;") (by simp [Bundle.ownAtoms0]))
  obtain ⟨tyS, dS, hdS, hdnS⟩ := Cond.laysAt hfound hk Y.stack (a' (.lays cls Bundle.tN "stackTrace" Bundle.steD) (by simp [Bundle.ownAtoms0]))
  obtain ⟨tyP, dP, hdP, hdnP⟩ := Cond.laysAt hfound hk Y.supp (a' (.lays cls Bundle.tN "suppressedExceptions" Bundle.listD) (by simp [Bundle.ownAtoms0]))
  obtain ⟨tyM, dM, hdM, hdnM⟩ := Cond.laysAt hfound hk hffM (a' (.lays cls Bundle.tN "detailMessage" "Ljava/lang/String;") (by simp [Bundle.ownAtoms0]))
  obtain ⟨tyB, dB, hdB, hdnB⟩ := Cond.laysAt hfound hk hffB (a' (.lays cls Bundle.tN "backtrace" "Ljava/lang/Object;") (by simp [Bundle.ownAtoms0]))
  have bC := Cond.laysApart hdB hdC hdnB hdnC (by rw [hnB, Y.causeName]; decide)
  have bS := Cond.laysApart hdB hdS hdnB hdnS (by rw [hnB, Y.stackName]; decide)
  have bP := Cond.laysApart hdB hdP hdnB hdnP (by rw [hnB, Y.suppName]; decide)
  have hskip : SkipFacts T e.platform s (fun u => u) u0 ((preparedCellV T.toThrowableT (freshCell P1.m.cls kX) a u0 sen).withEntry W.cur) :=
    ⟨{ ci198 := ci198, i198 := i198, fBack := fB }, ⟨hk198, hg198, ha198, hsB⟩, by
      have := fresh_default (c := P1.m.cls) tyB
      rw [htB] at this
      simpa [preparedCellV, Cell.setSlot, Cell.withEntry, Array.getElem?_setIfInBounds, bC, bS, bP, bC.symm, bS.symm, bP.symm, defaultValue] using this, fun _ _ => rfl⟩
  obtain ⟨tm, methC, cdC, kC, vm₁, hnC, -, -, -, -, -, -, -, hW₁, st1⟩ := Steps.initCold (tb := p.tables) (e := e) (below := below) (s := s) (U := W) X.here hexec X.warmed hpl hown (t := Bundle.init0 cls) rfl rfl (Bundle.fit_spec hcls).2
    (a' (.methodLink own ic (Bundle.init0 cls)) (by simp [Bundle.ownAtoms0])) (h (.instanceMethod (Bundle.init0 cls)) (by cases names <;> simp [Bundle.ownAtoms0, Bundle.chain0Atoms, Bundle.passAtoms])) (bytes := Bundle.five) (maxL := 1) (h (.code (Bundle.init0 cls) Bundle.five 1 none) (by cases names <;> simp [Bundle.ownAtoms0, Bundle.chain0Atoms, Bundle.passAtoms]))
    (f := g) hg (a := a) (rest := .ref a :: rest) hstack hd6
  cases Option.some.inj (hnC.symm.trans hP1m)
  have X₁ := X.noted hW₁
  obtain ⟨vm₂, X₂, st2⟩ := X₁.ctorPlainOffV hexec (g := { g with stack := .ref a :: rest }) hg hsize T L Z LZ (P1 :: Ps)
    (fun P hP => by rcases List.mem_cons.mp hP with rfl | hP; exact L1; exact hL P hP) ⟨hlink1, hlink⟩ (u0 := u0) (sen := sen) (self := a) (cell := freshCell P1.m.cls kX) (cellS := cellS)
    hcell (fun _ => by simp) (by simp) rfl rfl hsel0 hselF hcellS hneS hknownS (by rw [hkeep _ (hout' _)]; exact hu0) (by rw [hkeep _ (hout' _)]; exact hsen)
    (Takes.of_laid hk hord tyC (by rw [Y.causeType]; rfl)) (Takes.of_laid hk hord tyS (by rw [Y.stackType]; exact fits_refV_array _ u0)) (Takes.of_laid hk hord tyP (by rw [Y.suppType]; exact fits_refV_object _ sen)) Y.objLocals hskip htr [] hd6
    (by simp only [List.length_cons, hlen]; omega) (by simp only [List.length_cons, hlen]; exact hRlocals)
  have hlt : a < ((W.setVm vm₁).setVm vm₂).heap.size := (Array.getElem?_eq_some_iff.mp hcell).1
  refine ⟨(W.setVm vm₁).setVm vm₂, _, _, X₂, fun y hy => ?_, hlt, rfl, rfl, fun target hwalk => st1 _ (fun acts => ?_)⟩
  · simp only [List.mem_cons, List.not_mem_nil, or_false] at hy
    rcases hy with rfl | rfl | rfl | rfl <;> rfl
  · rw [doInvoke_state]
    exact st2 _ hwalk
end VXK
section VXK2
variable {p : Program} {l : Launch} {e : Env} {R : Room} {s : State} {m : MethodId} {args : Array Value} {below : List Frame} {meth : Method} {c : Code} {H : Heap} {locs : List Loc} {cells slots : Nat} {Q : State → Prop}
variable {ls : Array Slot} {rest : List Value} {D : va_G} {cl : List vw_C} {tys : List (ClassId × FieldType)} {ws : va_W}
/-- 'new E("text")' that isn't thrown at once: the object goes on the stack -/
theorem vx_makeS {cc : ByteArray} {pc : Nat} (hexec : p.tables.exec = Jvm.exec) (hb : c.code = cc) (hl : l.stackTraces = false) {own cls text : String} {names : List String} {ik is ic sa ci : Nat} {A : Nat → Prop} {T0 : u_T}
    (hown : s.vm.findClass own = some m.cls) (hcls : Bundle.fit cls = true) (hnames : ∀ n ∈ names, Bundle.fit n = true)
    (hk : (Cond.classLink own ik cls).before args s = true) (hini : (Cond.initialized cls).before args s = true) (hstr : vk_R own is text sa s) (hat : ∀ w ∈ vx_atS own ic cls names, w.before args s = true)
    (hgood : ∀ w ∈ Cond.classLink own ik cls :: Cond.initialized cls :: vx_atS own ic cls names, vx_ot w = true)
    (hU : vx_Zq Bundle.tN "UNASSIGNED_STACK" Bundle.steD A s s.heap) (hN : vx_Zq Bundle.tN "SUPPRESSED_SENTINEL" Bundle.listD A s s.heap) (hS : va_S A s.heap H locs) (hsize : ls.size = c.maxLocals)
    (d0 : decode cc pc = .ok (.new ik, 3)) (d3 : decode cc (pc + 3) = .ok (.dup, 1)) (d4 : decode cc (pc + 4) = .ok (.ldc is, 2)) (d6 : decode cc (pc + 6) = .ok (.invokespecial ic, 3))
    (hK : va_K D cl tys s) (hP : va_P D cl ws H) (hD : va_D A ws) (hA : ∀ q, s.heap.size ≤ q → A q) (hc : cl[ci]? = some (cls, T0, 0))
    (hRframes : names.length + 3 < R.frames) (hRlocals : (rest.map fun v => v.category).sum + (13 * (names.length + 1) + 43) ≤ R.locals) (hRcells : cells + 1 ≤ R.cells) (hRslots : slots + 6 ≤ R.slots)
    (kk : ∀ (q : Nat) (H1 : Heap), va_P D cl (ws ++ [(q, .inr (ci, []))]) H1 → va_D A (ws ++ [(q, .inr (ci, []))]) → va_S A s.heap H1 locs → W p l e R s m args below meth c H1 locs (cells + 1) (slots + 6) Q (F0 m (pc + 9) ls (.ref q :: rest))) :
    W p l e R s m args below meth c H locs cells slots Q (F0 m pc ls rest) := by
  intro T hT X
  subst hT
  have htr : e.platform.stackTraces = false := (show e.platform.stackTraces = l.stackTraces by rw [X.admits.platform]).trans hl
  have Y := vx_rebase X (R' := { frames := R.frames, locals := R.locals, cells := 1, slots := 6 }) (Nat.le_refl _) (Nat.le_refl _) hRcells hRslots
  obtain ⟨s', hA'⟩ : ∃ z, z = (T.setVm s.vm).setFrames (.invoking m args :: below) := ⟨_, rfl⟩
  rw [← hA'] at Y
  have hvm : s'.vm = s.vm := by rw [hA']; rfl
  have hhp : s'.heap = T.heap := by rw [hA']; rfl
  have hW0 : s.WarmedH s'.vm := by rw [hvm]; exact State.WarmedH.refl s
  have hat' : ∀ w ∈ vx_atS own ic cls names, w.before args s' = true := fun w hw => vx_ot_at hW0 hvm.symm (hgood w (List.mem_cons_of_mem _ (List.mem_cons_of_mem _ hw))) (hat w hw)
  have hk' : (Cond.classLink own ik cls).before args s' = true := vx_ot_at hW0 hvm.symm (hgood _ List.mem_cons_self) hk
  have hini' : (Cond.initialized cls).before args s' = true := vx_ot_at hW0 hvm.symm (hgood _ (List.mem_cons_of_mem _ List.mem_cons_self)) hini
  have hU' : vx_Zq Bundle.tN "UNASSIGNED_STACK" Bundle.steD A s' s'.heap := by rw [hhp]; exact vx_Zq.moved hW0.alike (hU.kept hS.2.1)
  have hN' : vx_Zq Bundle.tN "SUPPRESSED_SENTINEL" Bundle.listD A s' s'.heap := by rw [hhp]; exact vx_Zq.moved hW0.alike (hN.kept hS.2.1)
  have h : ∀ w ∈ Bundle.ownAtoms own ic cls names, w.before args s' = true := vx_own hat' (vx_isRefq hU'.1) (vx_isRefq hN'.1) hU'.2.word hN'.2.word
  have hown' : s'.vm.findClass own = some m.cls := by rw [hvm]; exact hown
  have hins : (Cond.instantiable cls 6).before args s' = true := h _ (by simp [Bundle.ownAtoms])
  obtain ⟨vm₁, cX, kX, hfX, hkX, -, -, X₁, st1⟩ := Y.newCold hexec (own := own) (C := cls) (index := ik) (n := 6) hown' hk' hins hini'
    (g := F0 m pc ls rest) rfl (by rw [hb]; exact d0) (Nat.le_refl _) (Nat.le_refl _)
  generalize hT1 : (T.setVm vm₁).pushCell { cls := cX, slots := kX.instanceTypes.map defaultValue, vm := .none } = T1 at X₁ st1
  have hcat : (Value.ref T.heap.size).category = 1 := rfl
  have hcellA : T1.heap[T.heap.size]? = some (freshCell cX kX) := by rw [← hT1]; exact State.heap_pushCell_size _ _
  have d3' : decode c.code (pc + 3) = .ok (.dup, 1) := by rw [hb]; exact d3
  have d4' : decode c.code (pc + 4) = .ok (.ldc is, 2) := by rw [hb]; exact d4
  have hstr' : vk_R own is text sa s' := vk_R.warm hW0 hstr
  obtain ⟨V, ce, L, Z, hL, hlt, hcl9, hvm9, st⟩ := vx_ctorMadeS X₁ hexec htr (own := own) (cls := cls) (names := names) (ic := ic) hown' hcls hnames h (fun x hx => nomatch hx) hfX hkX hcellA (by rw [hhp]; exact Nat.le_refl _) (msg := .ref sa) rfl
    (g := { method := m, pc := pc + 6, locals := ls, stack := .ref sa :: .ref T.heap.size :: .ref T.heap.size :: rest, locked := none }) rfl hsize (rest := rest) rfl
    (by rw [hb]; exact d6) hRframes (by simp only [List.map_cons, List.sum_cons, hcat]; omega)
  have Z0 := Stand.forget (locs := []) Z (fun y hy => by rw [hL y hy, hhp]; exact Nat.le_refl _)
  obtain ⟨f1, f2⟩ := vx_frame Z0.same
  rw [hhp] at f1 f2
  have hcid : ce.cls = D.1 ci := by
    rw [hcl9]
    have h1 := (hK.1 ci _ hc).2.1
    rw [hvm] at hfX
    exact Option.some.inj (hfX.symm.trans h1)
  have hh : (V.setCell T.heap.size ce).heap[T.heap.size]? = some ce := heapAt_setCell_self (s := V) ce hlt
  subst hA'
  have X5 := vx_back9 X Y Z0
  have X6 : Stand p l e R s m args below meth c (V.setCell T.heap.size ce) locs (cells + 1) (slots + 6) := { X5 with same := X5.same.mono (by omega) (by omega) }
  have hk9 : ∀ (k : Nat) (x : Nat × va_E), ws[k]? = some x → (V.setCell T.heap.size ce).heap[x.1]? = T.heap[x.1]? := fun k x hx => f2 x.1 ((hP k x hx).lt) (fun z hz => nomatch hz)
  obtain ⟨t, a1, b1⟩ := kk T.heap.size (V.setCell T.heap.size ce).heap ((hP.kept hk9).app (fun k x hx => by
      have hz : k < 1 := (List.getElem?_eq_some_iff.mp hx).1
      rw [show k = 0 by omega] at hx
      cases hx
      exact ⟨_, hc, ce, hh, hcid, hvm9, fun k hk => absurd hk (Nat.not_lt_zero k)⟩)) (hD.push hP rfl (hA _ hS.1)) ⟨Nat.le_trans hS.1 f1, fun q h1 h2 => (f2 q (Nat.lt_of_lt_of_le h1 hS.1) (fun z hz => nomatch hz)).trans (hS.2.1 q h1 h2), hS.2.2⟩ _ rfl X6
  refine ⟨t, st1 _ ?_, b1⟩
  show Steps p.tables e below (T1.setTop { method := m, pc := pc + 3, locals := ls, stack := .ref T.heap.size :: rest, locked := none }) _
  jvm_step X₁.here [X₁.here.top, hexec, d3', Value.category]
  exact X₁.ldcString hexec (own := own) (text := text) (index := is) (a := sa) hown' hstr'.1 hstr'.2
    (g := { method := m, pc := pc + 4, locals := ls, stack := .ref T.heap.size :: .ref T.heap.size :: rest, locked := none }) rfl d4' _ (st _ a1)
/-- 'new E()' that isn't thrown at once: the object goes on the stack -/
theorem vx_make0 {cc : ByteArray} {pc : Nat} (hexec : p.tables.exec = Jvm.exec) (hb : c.code = cc) (hl : l.stackTraces = false) {own cls : String} {names : List String} {ik ic ci : Nat} {A : Nat → Prop} {T0 : u_T}
    (hown : s.vm.findClass own = some m.cls) (hcls : Bundle.fit cls = true) (hnames : ∀ n ∈ names, Bundle.fit n = true)
    (hk : (Cond.classLink own ik cls).before args s = true) (hini : (Cond.initialized cls).before args s = true) (hat : ∀ w ∈ vx_at0 own ic cls names, w.before args s = true)
    (hgood : ∀ w ∈ Cond.classLink own ik cls :: Cond.initialized cls :: vx_at0 own ic cls names, vx_ot w = true)
    (hU : vx_Zq Bundle.tN "UNASSIGNED_STACK" Bundle.steD A s s.heap) (hN : vx_Zq Bundle.tN "SUPPRESSED_SENTINEL" Bundle.listD A s s.heap) (hS : va_S A s.heap H locs) (hsize : ls.size = c.maxLocals)
    (d0 : decode cc pc = .ok (.new ik, 3)) (d3 : decode cc (pc + 3) = .ok (.dup, 1)) (d4 : decode cc (pc + 4) = .ok (.invokespecial ic, 3))
    (hK : va_K D cl tys s) (hP : va_P D cl ws H) (hD : va_D A ws) (hA : ∀ q, s.heap.size ≤ q → A q) (hc : cl[ci]? = some (cls, T0, 0))
    (hRframes : names.length + 3 < R.frames) (hRlocals : (rest.map fun v => v.category).sum + (13 * (names.length + 1) + 42) ≤ R.locals) (hRcells : cells + 1 ≤ R.cells) (hRslots : slots + 6 ≤ R.slots)
    (kk : ∀ (q : Nat) (H1 : Heap), va_P D cl (ws ++ [(q, .inr (ci, []))]) H1 → va_D A (ws ++ [(q, .inr (ci, []))]) → va_S A s.heap H1 locs → W p l e R s m args below meth c H1 locs (cells + 1) (slots + 6) Q (F0 m (pc + 7) ls (.ref q :: rest))) :
    W p l e R s m args below meth c H locs cells slots Q (F0 m pc ls rest) := by
  intro T hT X
  subst hT
  have htr : e.platform.stackTraces = false := (show e.platform.stackTraces = l.stackTraces by rw [X.admits.platform]).trans hl
  have Y := vx_rebase X (R' := { frames := R.frames, locals := R.locals, cells := 1, slots := 6 }) (Nat.le_refl _) (Nat.le_refl _) hRcells hRslots
  obtain ⟨s', hA'⟩ : ∃ z, z = (T.setVm s.vm).setFrames (.invoking m args :: below) := ⟨_, rfl⟩
  rw [← hA'] at Y
  have hvm : s'.vm = s.vm := by rw [hA']; rfl
  have hhp : s'.heap = T.heap := by rw [hA']; rfl
  have hW0 : s.WarmedH s'.vm := by rw [hvm]; exact State.WarmedH.refl s
  have hat' : ∀ w ∈ vx_at0 own ic cls names, w.before args s' = true := fun w hw => vx_ot_at hW0 hvm.symm (hgood w (List.mem_cons_of_mem _ (List.mem_cons_of_mem _ hw))) (hat w hw)
  have hk' : (Cond.classLink own ik cls).before args s' = true := vx_ot_at hW0 hvm.symm (hgood _ List.mem_cons_self) hk
  have hini' : (Cond.initialized cls).before args s' = true := vx_ot_at hW0 hvm.symm (hgood _ (List.mem_cons_of_mem _ List.mem_cons_self)) hini
  have hU' : vx_Zq Bundle.tN "UNASSIGNED_STACK" Bundle.steD A s' s'.heap := by rw [hhp]; exact vx_Zq.moved hW0.alike (hU.kept hS.2.1)
  have hN' : vx_Zq Bundle.tN "SUPPRESSED_SENTINEL" Bundle.listD A s' s'.heap := by rw [hhp]; exact vx_Zq.moved hW0.alike (hN.kept hS.2.1)
  have h : ∀ w ∈ Bundle.ownAtoms0 own ic cls names, w.before args s' = true := vx_own hat' (vx_isRefq hU'.1) (vx_isRefq hN'.1) hU'.2.word hN'.2.word
  have hown' : s'.vm.findClass own = some m.cls := by rw [hvm]; exact hown
  have hins : (Cond.instantiable cls 6).before args s' = true := h _ (by simp [Bundle.ownAtoms0])
  obtain ⟨vm₁, cX, kX, hfX, hkX, -, -, X₁, st1⟩ := Y.newCold hexec (own := own) (C := cls) (index := ik) (n := 6) hown' hk' hins hini'
    (g := F0 m pc ls rest) rfl (by rw [hb]; exact d0) (Nat.le_refl _) (Nat.le_refl _)
  generalize hT1 : (T.setVm vm₁).pushCell { cls := cX, slots := kX.instanceTypes.map defaultValue, vm := .none } = T1 at X₁ st1
  have hcat : (Value.ref T.heap.size).category = 1 := rfl
  have hcellA : T1.heap[T.heap.size]? = some (freshCell cX kX) := by rw [← hT1]; exact State.heap_pushCell_size _ _
  have d3' : decode c.code (pc + 3) = .ok (.dup, 1) := by rw [hb]; exact d3
  obtain ⟨V, ce, L, Z, hL, hlt, hcl9, hvm9, st⟩ := vx_ctorMade0 X₁ hexec htr (own := own) (cls := cls) (names := names) (ic := ic) hown' hcls hnames h (fun x hx => nomatch hx) hfX hkX hcellA (by rw [hhp]; exact Nat.le_refl _)
    (g := { method := m, pc := pc + 4, locals := ls, stack := .ref T.heap.size :: .ref T.heap.size :: rest, locked := none }) rfl hsize (rest := rest) rfl
    (by rw [hb]; exact d4) hRframes (by simp only [List.map_cons, List.sum_cons, hcat]; omega)
  have Z0 := Stand.forget (locs := []) Z (fun y hy => by rw [hL y hy, hhp]; exact Nat.le_refl _)
  obtain ⟨f1, f2⟩ := vx_frame Z0.same
  rw [hhp] at f1 f2
  have hcid : ce.cls = D.1 ci := by
    rw [hcl9]
    have h1 := (hK.1 ci _ hc).2.1
    rw [hvm] at hfX
    exact Option.some.inj (hfX.symm.trans h1)
  have hh : (V.setCell T.heap.size ce).heap[T.heap.size]? = some ce := heapAt_setCell_self (s := V) ce hlt
  subst hA'
  have X5 := vx_back9 X Y Z0
  have X6 : Stand p l e R s m args below meth c (V.setCell T.heap.size ce) locs (cells + 1) (slots + 6) := { X5 with same := X5.same.mono (by omega) (by omega) }
  have hk9 : ∀ (k : Nat) (x : Nat × va_E), ws[k]? = some x → (V.setCell T.heap.size ce).heap[x.1]? = T.heap[x.1]? := fun k x hx => f2 x.1 ((hP k x hx).lt) (fun z hz => nomatch hz)
  obtain ⟨t, a1, b1⟩ := kk T.heap.size (V.setCell T.heap.size ce).heap ((hP.kept hk9).app (fun k x hx => by
      have hz : k < 1 := (List.getElem?_eq_some_iff.mp hx).1
      rw [show k = 0 by omega] at hx
      cases hx
      exact ⟨_, hc, ce, hh, hcid, hvm9, fun k hk => absurd hk (Nat.not_lt_zero k)⟩)) (hD.push hP rfl (hA _ hS.1)) ⟨Nat.le_trans hS.1 f1, fun q h1 h2 => (f2 q (Nat.lt_of_lt_of_le h1 hS.1) (fun z hz => nomatch hz)).trans (hS.2.1 q h1 h2), hS.2.2⟩ _ rfl X6
  refine ⟨t, st1 _ ?_, b1⟩
  show Steps p.tables e below (T1.setTop { method := m, pc := pc + 3, locals := ls, stack := .ref T.heap.size :: rest, locked := none }) _
  jvm_step X₁.here [X₁.here.top, hexec, d3', Value.category]
  exact st _ a1
/-- 'throw x' of an object that was made before -/
theorem vx_athrow {cc : ByteArray} {pc : Nat} (hexec : p.tables.exec = Jvm.exec) (hb : c.code = cc) {q : Addr} (hdg : decode cc pc = .ok (.athrow, 1)) (k : vx_W p l e R s m args below meth c H locs cells slots Q (F0 m pc ls rest) q) : W p l e R s m args below meth c H locs cells slots Q (F0 m pc ls (.ref q :: rest)) := by
  intro T hT X
  obtain ⟨t, st, hq⟩ := k T hT X
  refine ⟨t, ?_, hq⟩
  have hdg' : decode c.code pc = .ok (.athrow, 1) := by rw [hb]; exact hdg
  jvm_step X.here [X.here.top, hexec, hdg', athrow.wp_sem]
  exact st
end VXK2
/-! ===== END ===== -/
/-! ===== BEGIN a constructor that throws (launches without stack traces) ===== -/
section VXIA
variable {p : Program} {l : Launch} {e : Env} {R : Room} {s : State} {m : MethodId} {args : Array Value} {below : List Frame} {meth : Method} {c : Code} {T : State} {locs : List Loc} {cells slots : Nat}
theorem vx_callI (X : Stand p l e R s m args below meth c T locs cells slots) (hexec : p.tables.exec = Jvm.exec) {own : String} {index : Nat} {y : MethodName} {bytes : ByteArray} {maxL : Nat}
    (hown : s.vm.findClass own = some m.cls) (hy1 : y.name = "<init>") (hlink : (Cond.methodLink own index y).before args s = true) (hinst : (Cond.instanceMethod y).before args s = true)
    (hcode : (Cond.code y bytes maxL none).before args s = true) (hy : y.cls ≠ "java/lang/invoke/MethodHandle" ∧ y.cls ≠ "java/lang/invoke/VarHandle")
    {W9 : Nat} {Pre : Pt → Array Value → Prop} {Post : Pt → Array Value → Option Value → Pt → Prop} {PostX : Pt → Array Value → Addr → Pt → Prop} (hK : vx_Back l R p e below s args y 3 W9 Pre Post PostX)
    {g : JFrame} (hg : g.method = m) (hsize : g.locals.size = c.maxLocals) {a : Addr} {argsL rest : List Value} (hlen : ∀ sig, parseMethodDescriptor y.desc = some sig → argsL.length = sig.parameters.length)
    (hstack : g.stack = argsL.reverse ++ .ref a :: rest) (hW : 2 * g.monitorRoom + (rest.map fun v => v.category).sum ≤ W9) (hdg : decode c.code g.pc = .ok (.invokespecial index, 3))
    (hpre : ∀ vm₁, s.WarmedH vm₁ → Pre ⟨T.setVm vm₁, locs, cells, slots⟩ (Value.ref a :: argsL).toArray) :
    (∃ (v : Option Value) (vm₁ : Vm) (B : Pt), s.WarmedH vm₁ ∧ Stand p l e R s m args below meth c B.U B.locs B.cells B.slots ∧ Post ⟨T.setVm vm₁, locs, cells, slots⟩ (Value.ref a :: argsL).toArray v B ∧
      ∀ target, Steps p.tables e below (B.U.setTop { g with pc := g.pc + 3, stack := v.toList ++ rest }) target → Steps p.tables e below (T.setTop g) target) ∨
    (∃ (q : Addr) (vm₁ : Vm) (B : Pt), s.WarmedH vm₁ ∧ Stand p l e R s m args below meth c B.U B.locs B.cells B.slots ∧ PostX ⟨T.setVm vm₁, locs, cells, slots⟩ (Value.ref a :: argsL).toArray q B ∧
      Steps p.tables e below (T.setTop g) ((B.U.setTop { g with stack := rest }).pushFrame (.throwing q))) := by
  subst hg
  have hpl : e.platform.magicAccessors = ({} : Platform).magicAccessors := by rw [X.admits.platform]
  obtain ⟨mk, methM, cM, kP, vm₁, hnamed, hmethM, hcodeM, -, hlocalsM, -, hkP, -, hW₁, hstep₁⟩ := Steps.initColdArgs (e := e) X.here hexec X.warmed hpl hown hy1 hy hlink hinst hcode (f := g) rfl hlen hstack hdg
  have X₁ := X.noted hW₁
  rcases hK g.method meth c ⟨T.setVm vm₁, locs, cells, slots⟩ { g with stack := rest } (.invokespecial index) mk (Value.ref a :: argsL).toArray X₁ rfl hsize hdg hW (X₁.named hnamed) (hpre vm₁ X₁.warmed) with ⟨v, B, X', hpost, hsteps⟩ | ⟨q, B, X', hpost, hsteps⟩
  · exact Or.inl ⟨v, vm₁, B, X₁.warmed, X', hpost, fun target h => hstep₁ _ fun acts => by rw [doInvoke_state]; exact hsteps.trans h⟩
  · exact Or.inr ⟨q, vm₁, B, X₁.warmed, X', hpost, hstep₁ _ fun acts => by rw [doInvoke_state]; exact hsteps⟩
end VXIA
section VXIB
variable {p : Program} {l : Launch} {e : Env} {R : Room} {s : State} {m : MethodId} {args : Array Value} {below : List Frame} {meth : Method} {c : Code} {H : Heap} {locs : List Loc} {cells slots : Nat}
variable {y : MethodName} {bytes cc : ByteArray} {maxL nL mc ms n index : Nat} {ret : Option FieldType} {ws : List Cond} {rm : Room} {Pc : Array Value → State → Prop} {Qc : Array Value → State → Outcome → State → Prop} {XC : String → State → State → Prop} {free : Addr → Prop} {Ts : List Cond} {own C : String} {b : Addr} {As rest : List Value} {g : JFrame}
theorem vx_runI (S : CallFix p m c cc nL s args Ts own) (hM : vx_Met l y ws rm Pc Qc XC mc ms free) (cw : CallB R s args own index y bytes maxL none ws rm mc ms n ∧ y.name = "<init>" ∧ (Cond.instanceMethod y).before args s = true) (hp : PreS s H Pc (.ref b :: As))
    (hg : g.method = m) (hn : As.length = n) (hsize : g.locals.size = nL) (hstack : g.stack = As.reverse ++ .ref b :: rest) (hW : 2 * g.monitorRoom + (rest.map fun v => v.category).sum ≤ 8) (hdg : decode cc g.pc = .ok (.invokespecial index, 3)) (hf : cells + mc ≤ R.cells ∧ slots + ms ≤ R.slots) :
    vx_Run p l e R s m args below meth c H locs cells slots mc ms g rest (Qc (Value.ref b :: As).toArray) XC free := by
  have hK : vx_Back l R p e below s args y 3 8 (PreOf R mc ms Pc) (PostOf Qc mc ms free) (vx_Post XC mc ms free) := vx_callBack cw.1 hM hp.1
  obtain ⟨⟨-, -, -, -, -, -, hcode, -, hy, hlen, hl⟩, hy1, hin⟩ := cw
  obtain ⟨hx, hb, hml, ho, -⟩ := S
  have hPc := hp.2
  intro T hT X
  rcases vx_callI X hx (bytes := bytes) (maxL := maxL) ho hy1 hl hin hcode hy hK hg (hsize.trans hml.symm) (a := b) (argsL := As) (rest := rest) (fun sig h => hn.trans (hlen sig h)) hstack hW (by rw [hb]; exact hdg)
    (fun vm₁ hW₁ => ⟨hf.1, hf.2, hPc (T.setVm vm₁) hT hW₁⟩) with ⟨v, vm₁, ⟨U', l2, c2, s2⟩, hW₁, X', ⟨g', mk, t, L, e1, e2, hq, h1, hL, h2, h3⟩, st⟩ | ⟨q, vm₁, ⟨U', l2, c2, s2⟩, hW₁, X', ⟨g', mk, t, L, E, ce, e1, e2, hq, hce, hcv, hcl, h1, hL, h2, h3⟩, st⟩
  · dsimp only [Pt.U, Pt.locs, Pt.cells, Pt.slots] at X' e1 e2 h1 h2 h3 st
    subst h1; subst h2; subst h3
    exact Or.inl ⟨v, (T.setVm vm₁).calling g' mk (Value.ref b :: As).toArray, t, U', L, hT, X', hL, e1, e2, hq, st⟩
  · dsimp only [Pt.U, Pt.locs, Pt.cells, Pt.slots] at X' e1 e2 h1 h2 h3 st hcl
    subst h1; subst h2; subst h3
    exact Or.inr ⟨q, (T.setVm vm₁).calling g' mk (Value.ref b :: As).toArray, t, U', L, E, ce, hT, X', hL, e1, e2, hq, hce, hcv, vx_cls hW₁ hcl, st⟩
end VXIB
/-! ===== END ===== -/
/-! ===== BEGIN a private constructor of a nest mate that throws ===== -/
/-! ===== BEGIN a private method of a nest mate that may throw (follows va_callVN, va_callSN, va_runVN, va_runSN) ===== -/
section
variable {p : Program} {l : Launch} {e : Env} {R : Room} {s : State} {m : MethodId} {args : Array Value} {below : List Frame} {meth : Method} {c : Code} {H : Heap} {locs : List Loc} {cells slots : Nat}
variable {T : State}
theorem vx_callVN (X : Stand p l e R s m args below meth c T locs cells slots) (hexec : p.tables.exec = Jvm.exec) {own C : String} {index : Nat} {host : String} {y : MethodName} {bytes : ByteArray} {maxL : Nat} {ret : Option FieldType}
    (hown : s.vm.findClass own = some m.cls) (hlink : (Cond.methodLinkNest own index y host).before args s = true) (hinst : (Cond.instanceMethod y).before args s = true) (hsel : (Cond.selects C y y).before args s = true)
    (hcode : (Cond.code y bytes maxL ret).before args s = true) (hy : y.cls ≠ "java/lang/invoke/MethodHandle" ∧ y.cls ≠ "java/lang/invoke/VarHandle")
    {W : Nat} {Pre : Pt → Array Value → Prop} {Post : Pt → Array Value → Option Value → Pt → Prop} {PostX : Pt → Array Value → Addr → Pt → Prop} (hK : vx_Back l R p e below s args y 3 W Pre Post PostX)
    {b : Addr} {cellB : Cell} (hcell : T.heap[b]? = some cellB) (hobj : cellB.vm.isStatics = false) (hcls : s.vm.findClass C = some cellB.cls)
    {g : JFrame} (hg : g.method = m) (hsize : g.locals.size = c.maxLocals) {argsL rest : List Value} (hlen : ∀ sig, parseMethodDescriptor y.desc = some sig → argsL.length = sig.parameters.length)
    (hstack : g.stack = argsL.reverse ++ .ref b :: rest) (hW : 2 * g.monitorRoom + (rest.map fun v => v.category).sum ≤ W) (hdg : decode c.code g.pc = .ok (.invokevirtual index, 3))
    (hpre : ∀ vm₁, s.WarmedH vm₁ → Pre ⟨T.setVm vm₁, locs, cells, slots⟩ (Value.ref b :: argsL).toArray) :
    (∃ (v : Option Value) (vm₁ : Vm) (B : Pt), s.WarmedH vm₁ ∧ Stand p l e R s m args below meth c B.U B.locs B.cells B.slots ∧ Post ⟨T.setVm vm₁, locs, cells, slots⟩ (Value.ref b :: argsL).toArray v B ∧
      ∀ target, Steps p.tables e below (B.U.setTop { g with pc := g.pc + 3, stack := v.toList ++ rest }) target → Steps p.tables e below (T.setTop g) target) ∨
    (∃ (q : Addr) (vm₁ : Vm) (B : Pt), s.WarmedH vm₁ ∧ Stand p l e R s m args below meth c B.U B.locs B.cells B.slots ∧ PostX ⟨T.setVm vm₁, locs, cells, slots⟩ (Value.ref b :: argsL).toArray q B ∧
      Steps p.tables e below (T.setTop g) ((B.U.setTop { g with stack := rest }).pushFrame (.throwing q))) := by
  obtain ⟨mk, methM, hnamed, hmethM, hstM, habM⟩ := Cond.instanceMethod_spec hinst
  obtain ⟨methM', cM, hmethM', -, -, -, -, -, -, hsigM⟩ := Cond.code_spec hnamed hcode
  cases hmethM.symm.trans hmethM'
  obtain ⟨c2, r2, m2, q1, q2, q3, q4, kP, hkP, hkPi⟩ := Cond.selects_spec hsel
  cases hcls.symm.trans q1
  cases (State.methodFound?_of_named hnamed hy).symm.trans q2
  cases hnamed.symm.trans q3
  have hselP : selectMethod e.platform s.vm cellB.cls mk = .method mk := by rw [Launch.admits_selectMethod X.admits]; exact q4
  obtain ⟨vm₁, X₁, hstep₁⟩ := X.invokevirtualNest hexec hown hlink hnamed hmethM hstM hkP hkPi hy (a := b) (cell := cellB) hcell
    (fun z h => by rw [h] at hobj; cases hobj) hselP hmethM habM hkP hkPi (g := g) hg (argsL := argsL) (rest := rest) (hlen _ hsigM) hstack hdg
  rcases hK m meth c ⟨T.setVm vm₁, locs, cells, slots⟩ { g with stack := rest } (.invokevirtual index) mk (Value.ref b :: argsL).toArray X₁ hg hsize hdg hW (X₁.named hnamed) (hpre vm₁ X₁.warmed) with ⟨v, B, X', hpost, hsteps⟩ | ⟨q, B, X', hpost, hsteps⟩
  · exact Or.inl ⟨v, vm₁, B, X₁.warmed, X', hpost, fun target h => hstep₁ _ fun acts => by rw [doInvoke_state]; exact hsteps.trans h⟩
  · exact Or.inr ⟨q, vm₁, B, X₁.warmed, X', hpost, hstep₁ _ fun acts => by rw [doInvoke_state]; exact hsteps⟩
theorem vx_callSN (X : Stand p l e R s m args below meth c T locs cells slots) (hexec : p.tables.exec = Jvm.exec) {own : String} {index : Nat} {host : String} {y : MethodName} {bytes : ByteArray} {maxL : Nat} {ret : Option FieldType}
    (hown : s.vm.findClass own = some m.cls) (hlink : (Cond.methodLinkNest own index y host).before args s = true) (hstat : (Cond.static y).before args s = true) (hinit : (Cond.initialized y.cls).before args s = true)
    (hcode : (Cond.code y bytes maxL ret).before args s = true) (hy : y.cls ≠ "java/lang/invoke/MethodHandle" ∧ y.cls ≠ "java/lang/invoke/VarHandle")
    {W : Nat} {Pre : Pt → Array Value → Prop} {Post : Pt → Array Value → Option Value → Pt → Prop} {PostX : Pt → Array Value → Addr → Pt → Prop} (hK : vx_Back l R p e below s args y 3 W Pre Post PostX)
    {g : JFrame} (hg : g.method = m) (hsize : g.locals.size = c.maxLocals) {argsL rest : List Value} (hlen : ∀ sig, parseMethodDescriptor y.desc = some sig → argsL.length = sig.parameters.length)
    (hstack : g.stack = argsL.reverse ++ rest) (hW : 2 * g.monitorRoom + (rest.map fun v => v.category).sum ≤ W) (hdg : decode c.code g.pc = .ok (.invokestatic index, 3))
    (hpre : ∀ vm₁, s.WarmedH vm₁ → Pre ⟨T.setVm vm₁, locs, cells, slots⟩ argsL.toArray) :
    (∃ (v : Option Value) (vm₁ : Vm) (B : Pt), s.WarmedH vm₁ ∧ Stand p l e R s m args below meth c B.U B.locs B.cells B.slots ∧ Post ⟨T.setVm vm₁, locs, cells, slots⟩ argsL.toArray v B ∧
      ∀ target, Steps p.tables e below (B.U.setTop { g with pc := g.pc + 3, stack := v.toList ++ rest }) target → Steps p.tables e below (T.setTop g) target) ∨
    (∃ (q : Addr) (vm₁ : Vm) (B : Pt), s.WarmedH vm₁ ∧ Stand p l e R s m args below meth c B.U B.locs B.cells B.slots ∧ PostX ⟨T.setVm vm₁, locs, cells, slots⟩ argsL.toArray q B ∧
      Steps p.tables e below (T.setTop g) ((B.U.setTop { g with stack := rest }).pushFrame (.throwing q))) := by
  obtain ⟨mk, hnamed⟩ := Cond.code_named hcode
  obtain ⟨methM, cM, hmethM, -, -, -, -, -, -, hsigM⟩ := Cond.code_spec hnamed hcode
  have hstatic : methM.isStatic = true := Cond.static_spec hnamed hmethM hstat
  obtain ⟨kP, hkP, -⟩ := className_of_methodNamed hnamed
  have hinitP : kP.init = .initialized := Cond.initialized_spec (findClass_of_methodNamed hnamed) hkP hinit
  obtain ⟨vm₁, X₁, hstep₁⟩ := X.invokestaticNest hexec hown hlink hnamed hmethM hstatic hkP hinitP hy (g := g) hg (argsL := argsL) (rest := rest) (hlen _ hsigM) hstack hdg
  rcases hK m meth c ⟨T.setVm vm₁, locs, cells, slots⟩ { g with stack := rest } (.invokestatic index) mk argsL.toArray X₁ hg hsize hdg hW (X₁.named hnamed) (hpre vm₁ X₁.warmed) with ⟨v, B, X', hpost, hsteps⟩ | ⟨q, B, X', hpost, hsteps⟩
  · exact Or.inl ⟨v, vm₁, B, X₁.warmed, X', hpost, fun target h => hstep₁ _ fun acts => by rw [doInvoke_state]; exact hsteps.trans h⟩
  · exact Or.inr ⟨q, vm₁, B, X₁.warmed, X', hpost, hstep₁ _ fun acts => by rw [doInvoke_state]; exact hsteps⟩
theorem vx_runVN {y : MethodName} {bytes cc : ByteArray} {maxL nL mc ms n index : Nat} {ret : Option FieldType} {ws : List Cond} {rm : Room} {Pc : Array Value → State → Prop} {Qc : Array Value → State → Outcome → State → Prop} {XC : String → State → State → Prop} {free : Addr → Prop} {Ts : List Cond} {own C host : String} {b : Addr} {As rest : List Value} {g : JFrame}
    (S : CallFix p m c cc nL s args Ts own) (hM : vx_Met l y ws rm Pc Qc XC mc ms free) (cw : va_CN R s args own index y host bytes maxL ret ws rm mc ms n ∧ (Cond.instanceMethod y).before args s = true ∧ (Cond.selects C y y).before args s = true) (hp : PreV s H C b Pc As)
    (hg : g.method = m) (hn : As.length = n) (hsize : g.locals.size = nL) (hstack : g.stack = As.reverse ++ .ref b :: rest) (hW : 2 * g.monitorRoom + (rest.map fun v => v.category).sum ≤ 8) (hdg : decode cc g.pc = .ok (.invokevirtual index, 3)) (hf : cells + mc ≤ R.cells ∧ slots + ms ≤ R.slots) :
    vx_Run p l e R s m args below meth c H locs cells slots mc ms g rest (Qc (Value.ref b :: As).toArray) XC free := by
  obtain ⟨⟨⟨hrc, hrs, hfr, hlo, hws, hcw⟩, hcode, hini, hy, hlen, hl⟩, hx1, hx2⟩ := cw
  have hK : vx_Back l R p e below s args y 3 8 (PreOf R mc ms Pc) (PostOf Qc mc ms free) (vx_Post XC mc ms free) := vx_back (bytes := bytes) (maxL := maxL) (ret := ret) hM hp.1 hrc hrs hfr hlo hws hcw (fun a' U hW => word_at hW (Or.inl (by first | rfl | simp [Cond.onTables, Cond.keeps, Cond.steady])) hini)
  obtain ⟨hx, hb, hml, ho, -⟩ := S
  obtain ⟨-, ⟨cellB, hcB, hoB, hclB⟩, hPc⟩ := hp
  intro T hT X
  rcases vx_callVN X hx (C := C) (bytes := bytes) (maxL := maxL) (ret := ret) ho hl hx1 hx2 hcode hy hK (by rw [hT]; exact hcB) hoB hclB hg (hsize.trans hml.symm) (argsL := As) (rest := rest) (fun sig h => hn.trans (hlen sig h)) hstack hW (by rw [hb]; exact hdg)
    (fun vm₁ hW₁ => ⟨hf.1, hf.2, hPc (T.setVm vm₁) hT hW₁⟩) with ⟨v, vm₁, ⟨U', l2, c2, s2⟩, hW₁, X', ⟨g', mk, t, L, e1, e2, hq, h1, hL, h2, h3⟩, st⟩ | ⟨q, vm₁, ⟨U', l2, c2, s2⟩, hW₁, X', ⟨g', mk, t, L, E, ce, e1, e2, hq, hce, hcv, hcl, h1, hL, h2, h3⟩, st⟩
  · dsimp only [Pt.U, Pt.locs, Pt.cells, Pt.slots] at X' e1 e2 h1 h2 h3 st
    subst h1; subst h2; subst h3
    exact Or.inl ⟨v, (T.setVm vm₁).calling g' mk (Value.ref b :: As).toArray, t, U', L, hT, X', hL, e1, e2, hq, st⟩
  · dsimp only [Pt.U, Pt.locs, Pt.cells, Pt.slots] at X' e1 e2 h1 h2 h3 st hcl
    subst h1; subst h2; subst h3
    exact Or.inr ⟨q, (T.setVm vm₁).calling g' mk (Value.ref b :: As).toArray, t, U', L, E, ce, hT, X', hL, e1, e2, hq, hce, hcv, vx_cls hW₁ hcl, st⟩
theorem vx_runSN {y : MethodName} {bytes cc : ByteArray} {maxL nL mc ms n index : Nat} {ret : Option FieldType} {ws : List Cond} {rm : Room} {Pc : Array Value → State → Prop} {Qc : Array Value → State → Outcome → State → Prop} {XC : String → State → State → Prop} {free : Addr → Prop} {Ts : List Cond} {own host : String} {As rest : List Value} {g : JFrame}
    (S : CallFix p m c cc nL s args Ts own) (hM : vx_Met l y ws rm Pc Qc XC mc ms free) (cw : va_CN R s args own index y host bytes maxL ret ws rm mc ms n ∧ (Cond.static y).before args s = true ∧ True) (hp : PreS s H Pc As)
    (hg : g.method = m) (hn : As.length = n) (hsize : g.locals.size = nL) (hstack : g.stack = As.reverse ++ rest) (hW : 2 * g.monitorRoom + (rest.map fun v => v.category).sum ≤ 8) (hdg : decode cc g.pc = .ok (.invokestatic index, 3)) (hf : cells + mc ≤ R.cells ∧ slots + ms ≤ R.slots) :
    vx_Run p l e R s m args below meth c H locs cells slots mc ms g rest (Qc As.toArray) XC free := by
  obtain ⟨⟨⟨hrc, hrs, hfr, hlo, hws, hcw⟩, hcode, hini, hy, hlen, hl⟩, hx1, hx2⟩ := cw
  have hK : vx_Back l R p e below s args y 3 8 (PreOf R mc ms Pc) (PostOf Qc mc ms free) (vx_Post XC mc ms free) := vx_back (bytes := bytes) (maxL := maxL) (ret := ret) hM hp.1 hrc hrs hfr hlo hws hcw (fun a' U hW => word_at hW (Or.inl (by first | rfl | simp [Cond.onTables, Cond.keeps, Cond.steady])) hini)
  obtain ⟨hx, hb, hml, ho, -⟩ := S
  have hPc := hp.2
  intro T hT X
  rcases vx_callSN X hx (bytes := bytes) (maxL := maxL) (ret := ret) ho hl hx1 hini hcode hy hK hg (hsize.trans hml.symm) (argsL := As) (rest := rest) (fun sig h => hn.trans (hlen sig h)) hstack hW (by rw [hb]; exact hdg)
    (fun vm₁ hW₁ => ⟨hf.1, hf.2, hPc (T.setVm vm₁) hT hW₁⟩) with ⟨v, vm₁, ⟨U', l2, c2, s2⟩, hW₁, X', ⟨g', mk, t, L, e1, e2, hq, h1, hL, h2, h3⟩, st⟩ | ⟨q, vm₁, ⟨U', l2, c2, s2⟩, hW₁, X', ⟨g', mk, t, L, E, ce, e1, e2, hq, hce, hcv, hcl, h1, hL, h2, h3⟩, st⟩
  · dsimp only [Pt.U, Pt.locs, Pt.cells, Pt.slots] at X' e1 e2 h1 h2 h3 st
    subst h1; subst h2; subst h3
    exact Or.inl ⟨v, (T.setVm vm₁).calling g' mk As.toArray, t, U', L, hT, X', hL, e1, e2, hq, st⟩
  · dsimp only [Pt.U, Pt.locs, Pt.cells, Pt.slots] at X' e1 e2 h1 h2 h3 st hcl
    subst h1; subst h2; subst h3
    exact Or.inr ⟨q, (T.setVm vm₁).calling g' mk As.toArray, t, U', L, E, ce, hT, X', hL, e1, e2, hq, hce, hcv, vx_cls hW₁ hcl, st⟩
end
/-! ===== END ===== -/
end
section
/-! ===== BEGIN printed: names, fields, word lists, decode rows ===== -/
def RX0 : String := "TideMills$Creek"
def TX0 : u_T := fun k => match k with
  | 0 => ("TideMills$Creek", "firstMill", "LTideMills$Mill;", true)
  | 1 => ("TideMills$Creek", "tideStep", "I", false)
  | 2 => ("TideMills$Creek", "leastHead", "I", false)
  | 3 => ("TideMills$Creek", "waterForHour", "I", false)
  | 4 => ("TideMills$Creek", "hour", "I", false)
  | 5 => ("TideMills$Creek", "turnedMill", "I", false)
  | 6 => ("TideMills$Creek", "idleHours", "I", false)
  | 7 => ("TideMills$Creek", "waterIn", "I", false)
  | 8 => ("TideMills$Creek", "waterUsed", "I", false)
  | 9 => ("TideMills$Creek", "sacksCame", "I", false)
  | 10 => ("TideMills$Creek", "sacksGround", "I", false)
  | 11 => ("TideMills$Creek", "sacksLate", "I", false)
  | _ => ("TideMills$Creek", "sacksTakenBack", "I", false)
def tyX0 : Nat → FieldType := fun k => match k with
  | 0 => .object "TideMills$Mill"
  | 1 => .int
  | 2 => .int
  | 3 => .int
  | 4 => .int
  | 5 => .int
  | 6 => .int
  | 7 => .int
  | 8 => .int
  | 9 => .int
  | 10 => .int
  | 11 => .int
  | _ => .int
abbrev wsX00 : List Cond := u_ws RX0 TX0 13
theorem nmX0 : ∀ a, a < 13 → ∀ b, b < 13 → a ≠ b → (TX0 a).2.1 ≠ (TX0 b).2.1 := by decide +kernel
theorem tyX0_ok : ∀ k, k < 13 → parseFieldDescriptor (TX0 k).2.2.1 = some (tyX0 k) := by decide +kernel
abbrev cX0_init : ByteArray := prog_2_method_1_code
def yX0_init : MethodName := ⟨RX0, "<init>", "()V"⟩
abbrev cX0_copyFrom : ByteArray := prog_2_method_2_code
def yX0_copyFrom : MethodName := ⟨RX0, "copyFrom", "(LTideMills$Creek;)V"⟩
abbrev cX0_millAt : ByteArray := prog_2_method_3_code
def yX0_millAt : MethodName := ⟨RX0, "millAt", "(I)LTideMills$Mill;"⟩
abbrev cX0_millOfSack : ByteArray := prog_2_method_4_code
def yX0_millOfSack : MethodName := ⟨RX0, "millOfSack", "(I)LTideMills$Mill;"⟩
abbrev cX0_settingAt : ByteArray := prog_2_method_5_code
def yX0_settingAt : MethodName := ⟨RX0, "settingAt", "(I)I"⟩
abbrev cX0_changeSetting : ByteArray := prog_2_method_6_code
def yX0_changeSetting : MethodName := ⟨RX0, "changeSetting", "(II)V"⟩
abbrev cX0_changeStone : ByteArray := prog_2_method_7_code
def yX0_changeStone : MethodName := ⟨RX0, "changeStone", "(II)V"⟩
abbrev cX0_tideIn : ByteArray := prog_2_method_8_code
def yX0_tideIn : MethodName := ⟨RX0, "tideIn", "(I)I"⟩
abbrev cX0_waterInPonds : ByteArray := prog_2_method_9_code
def yX0_waterInPonds : MethodName := ⟨RX0, "waterInPonds", "()I"⟩
abbrev cX0_sacksAtMills : ByteArray := prog_2_method_10_code
def yX0_sacksAtMills : MethodName := ⟨RX0, "sacksAtMills", "()I"⟩
abbrev cX0_restsOfAll : ByteArray := prog_2_method_11_code
def yX0_restsOfAll : MethodName := ⟨RX0, "restsOfAll", "()I"⟩
abbrev cX0_hasRoomForSack : ByteArray := prog_2_method_12_code
def yX0_hasRoomForSack : MethodName := ⟨RX0, "hasRoomForSack", "(LTideMills$Mill;)Z"⟩
abbrev cX0_bringSack : ByteArray := prog_2_method_13_code
def yX0_bringSack : MethodName := ⟨RX0, "bringSack", "(LTideMills$Mill;II)I"⟩
abbrev cX0_reasonToRest : ByteArray := prog_2_method_14_code
def yX0_reasonToRest : MethodName := ⟨RX0, "reasonToRest", "(LTideMills$Mill;)I"⟩
abbrev cX0_turnsAheadOf : ByteArray := prog_2_method_15_code
def yX0_turnsAheadOf : MethodName := ⟨RX0, "turnsAheadOf", "(LTideMills$Mill;LTideMills$Mill;)Z"⟩
abbrev cX0_millBehind : ByteArray := prog_2_method_16_code
def yX0_millBehind : MethodName := ⟨RX0, "millBehind", "(LTideMills$Mill;)LTideMills$Mill;"⟩
abbrev cX0_millAheadOfAll : ByteArray := prog_2_method_17_code
def yX0_millAheadOfAll : MethodName := ⟨RX0, "millAheadOfAll", "()LTideMills$Mill;"⟩
abbrev cX0_isAheadOfAllOthers : ByteArray := prog_2_method_18_code
def yX0_isAheadOfAllOthers : MethodName := ⟨RX0, "isAheadOfAllOthers", "(LTideMills$Mill;)Z"⟩
abbrev cX0_passHours : ByteArray := prog_2_method_19_code
def yX0_passHours : MethodName := ⟨RX0, "passHours", "(I)V"⟩
abbrev cX0_letWaterIn : ByteArray := prog_2_method_20_code
def yX0_letWaterIn : MethodName := ⟨RX0, "letWaterIn", "()V"⟩
abbrev cX0_turn : ByteArray := prog_2_method_21_code
def yX0_turn : MethodName := ⟨RX0, "turn", "(LTideMills$Mill;)I"⟩
abbrev cX0_grind : ByteArray := prog_2_method_22_code
def yX0_grind : MethodName := ⟨RX0, "grind", "(LTideMills$Mill;I)V"⟩
def RX1 : String := "TideMills$History"
def TX1 : u_T := fun k => match k with
  | 0 => ("TideMills$History", "states", "[LTideMills$Creek;", true)
  | _ => ("TideMills$History", "savedStates", "I", false)
def tyX1 : Nat → FieldType := fun k => match k with
  | 0 => .array (.object "TideMills$Creek")
  | _ => .int
abbrev wsX10 : List Cond := u_ws RX1 TX1 2
theorem nmX1 : ∀ a, a < 2 → ∀ b, b < 2 → a ≠ b → (TX1 a).2.1 ≠ (TX1 b).2.1 := by decide +kernel
theorem tyX1_ok : ∀ k, k < 2 → parseFieldDescriptor (TX1 k).2.2.1 = some (tyX1 k) := by decide +kernel
abbrev cX1_init : ByteArray := prog_3_method_1_code
def yX1_init : MethodName := ⟨RX1, "<init>", "()V"⟩
abbrev cX1_save : ByteArray := prog_3_method_2_code
def yX1_save : MethodName := ⟨RX1, "save", "(LTideMills$Creek;)V"⟩
abbrev cX1_restoreLatest : ByteArray := prog_3_method_3_code
def yX1_restoreLatest : MethodName := ⟨RX1, "restoreLatest", "(LTideMills$Creek;)V"⟩
abbrev cX1_dropOldest : ByteArray := prog_3_method_4_code
def yX1_dropOldest : MethodName := ⟨RX1, "dropOldest", "()V"⟩
abbrev cX1_stateAt : ByteArray := prog_3_method_5_code
def yX1_stateAt : MethodName := ⟨RX1, "stateAt", "(I)LTideMills$Creek;"⟩
def RX2 : String := "TideMills$Mill"
def TX2 : u_T := fun k => match k with
  | 0 => ("TideMills$Mill", "number", "I", true)
  | 1 => ("TideMills$Mill", "neighbour", "LTideMills$Mill;", true)
  | 2 => ("TideMills$Mill", "capacity", "I", false)
  | 3 => ("TideMills$Mill", "water", "I", false)
  | 4 => ("TideMills$Mill", "sill", "I", false)
  | 5 => ("TideMills$Mill", "gateFrom", "I", false)
  | 6 => ("TideMills$Mill", "gateTo", "I", false)
  | 7 => ("TideMills$Mill", "wheel", "I", false)
  | 8 => ("TideMills$Mill", "stone", "I", false)
  | 9 => ("TideMills$Mill", "hoursTurned", "I", false)
  | 10 => ("TideMills$Mill", "sacksGround", "I", false)
  | 11 => ("TideMills$Mill", "sackCount", "I", false)
  | 12 => ("TideMills$Mill", "sackNumbers", "[I", true)
  | 13 => ("TideMills$Mill", "sackHardnesses", "[I", true)
  | 14 => ("TideMills$Mill", "sackRests", "[I", true)
  | _ => ("TideMills$Mill", "sackDues", "[I", true)
def tyX2 : Nat → FieldType := fun k => match k with
  | 0 => .int
  | 1 => .object "TideMills$Mill"
  | 2 => .int
  | 3 => .int
  | 4 => .int
  | 5 => .int
  | 6 => .int
  | 7 => .int
  | 8 => .int
  | 9 => .int
  | 10 => .int
  | 11 => .int
  | 12 => .array .int
  | 13 => .array .int
  | 14 => .array .int
  | _ => .array .int
abbrev wsX20 : List Cond := u_ws RX2 TX2 16
theorem nmX2 : ∀ a, a < 16 → ∀ b, b < 16 → a ≠ b → (TX2 a).2.1 ≠ (TX2 b).2.1 := by decide +kernel
theorem tyX2_ok : ∀ k, k < 16 → parseFieldDescriptor (TX2 k).2.2.1 = some (tyX2 k) := by decide +kernel
abbrev cX2_init : ByteArray := prog_4_method_1_code
def yX2_init : MethodName := ⟨RX2, "<init>", "(ILTideMills$Mill;)V"⟩
abbrev cX2_copyFrom : ByteArray := prog_4_method_2_code
def yX2_copyFrom : MethodName := ⟨RX2, "copyFrom", "(LTideMills$Mill;)V"⟩
abbrev cX2_headAt : ByteArray := prog_4_method_3_code
def yX2_headAt : MethodName := ⟨RX2, "headAt", "(I)I"⟩
abbrev cX2_turnsOfStone : ByteArray := prog_4_method_4_code
def yX2_turnsOfStone : MethodName := ⟨RX2, "turnsOfStone", "(I)I"⟩
abbrev cX2_letIn : ByteArray := prog_4_method_5_code
def yX2_letIn : MethodName := ⟨RX2, "letIn", "(II)I"⟩
abbrev cX2_numberAt : ByteArray := prog_4_method_6_code
def yX2_numberAt : MethodName := ⟨RX2, "numberAt", "(I)I"⟩
abbrev cX2_hardnessAt : ByteArray := prog_4_method_7_code
def yX2_hardnessAt : MethodName := ⟨RX2, "hardnessAt", "(I)I"⟩
abbrev cX2_restAt : ByteArray := prog_4_method_8_code
def yX2_restAt : MethodName := ⟨RX2, "restAt", "(I)I"⟩
abbrev cX2_dueAt : ByteArray := prog_4_method_9_code
def yX2_dueAt : MethodName := ⟨RX2, "dueAt", "(I)I"⟩
abbrev cX2_firstDue : ByteArray := prog_4_method_10_code
def yX2_firstDue : MethodName := ⟨RX2, "firstDue", "()I"⟩
abbrev cX2_isPlace : ByteArray := prog_4_method_11_code
def yX2_isPlace : MethodName := ⟨RX2, "isPlace", "(I)Z"⟩
abbrev cX2_placeOf : ByteArray := prog_4_method_12_code
def yX2_placeOf : MethodName := ⟨RX2, "placeOf", "(I)I"⟩
abbrev cX2_putSack : ByteArray := prog_4_method_13_code
def yX2_putSack : MethodName := ⟨RX2, "putSack", "(IIII)I"⟩
abbrev cX2_placeFor : ByteArray := prog_4_method_14_code
def yX2_placeFor : MethodName := ⟨RX2, "placeFor", "(II)I"⟩
abbrev cX2_dropSack : ByteArray := prog_4_method_15_code
def yX2_dropSack : MethodName := ⟨RX2, "dropSack", "(I)V"⟩
abbrev cX2_moveSack : ByteArray := prog_4_method_16_code
def yX2_moveSack : MethodName := ⟨RX2, "moveSack", "(II)V"⟩
abbrev cX2_grindFirst : ByteArray := prog_4_method_17_code
def yX2_grindFirst : MethodName := ⟨RX2, "grindFirst", "(I)V"⟩
def RX3 : String := "TideMills$PartReader"
def TX3 : u_T := fun k => match k with
  | 0 => ("TideMills$PartReader", "kind", "I", false)
  | 1 => ("TideMills$PartReader", "numbers", "[I", true)
  | 2 => ("TideMills$PartReader", "reading", "I", false)
  | _ => ("TideMills$PartReader", "digits", "I", false)
def tyX3 : Nat → FieldType := fun k => match k with
  | 0 => .int
  | 1 => .array .int
  | 2 => .int
  | _ => .int
abbrev wsX30 : List Cond := u_ws RX3 TX3 4
theorem nmX3 : ∀ a, a < 4 → ∀ b, b < 4 → a ≠ b → (TX3 a).2.1 ≠ (TX3 b).2.1 := by decide +kernel
theorem tyX3_ok : ∀ k, k < 4 → parseFieldDescriptor (TX3 k).2.2.1 = some (tyX3 k) := by decide +kernel
abbrev cX3_init : ByteArray := prog_5_method_1_code
def yX3_init : MethodName := ⟨RX3, "<init>", "()V"⟩
abbrev cX3_begin : ByteArray := prog_5_method_2_code
def yX3_begin : MethodName := ⟨RX3, "begin", "()V"⟩
abbrev cX3_beginNumber : ByteArray := prog_5_method_3_code
def yX3_beginNumber : MethodName := ⟨RX3, "beginNumber", "(I)V"⟩
abbrev cX3_numberAt : ByteArray := prog_5_method_4_code
def yX3_numberAt : MethodName := ⟨RX3, "numberAt", "(I)I"⟩
abbrev cX3_take : ByteArray := prog_5_method_5_code
def yX3_take : MethodName := ⟨RX3, "take", "(I)Z"⟩
abbrev cX3_partIsWhole : ByteArray := prog_5_method_6_code
def yX3_partIsWhole : MethodName := ⟨RX3, "partIsWhole", "()Z"⟩
abbrev cX3_takeKind : ByteArray := prog_5_method_7_code
def yX3_takeKind : MethodName := ⟨RX3, "takeKind", "(I)Z"⟩
abbrev cX3_takeDigit : ByteArray := prog_5_method_8_code
def yX3_takeDigit : MethodName := ⟨RX3, "takeDigit", "(I)Z"⟩
abbrev cX3_takeComma : ByteArray := prog_5_method_9_code
def yX3_takeComma : MethodName := ⟨RX3, "takeComma", "()Z"⟩
abbrev cX3_takeSeparator : ByteArray := prog_5_method_10_code
def yX3_takeSeparator : MethodName := ⟨RX3, "takeSeparator", "()Z"⟩
abbrev cX3_numberIsWhole : ByteArray := prog_5_method_11_code
def yX3_numberIsWhole : MethodName := ⟨RX3, "numberIsWhole", "()Z"⟩
abbrev cX3_canBecomeNumber : ByteArray := prog_5_method_12_code
def yX3_canBecomeNumber : MethodName := ⟨RX3, "canBecomeNumber", "(I)Z"⟩
abbrev cX3_lastNumber : ByteArray := prog_5_method_13_code
def yX3_lastNumber : MethodName := ⟨RX3, "lastNumber", "()I"⟩
abbrev cX3_least : ByteArray := prog_5_method_14_code
def yX3_least : MethodName := ⟨RX3, "least", "()I"⟩
abbrev cX3_most : ByteArray := prog_5_method_15_code
def yX3_most : MethodName := ⟨RX3, "most", "()I"⟩
def RX4 : String := "TideMills"
def TX4 : u_T := fun k => match k with
  | 0 => ("TideMills", "now", "LTideMills$Creek;", true)
  | 1 => ("TideMills", "trial", "LTideMills$Creek;", true)
  | 2 => ("TideMills", "snapshot", "LTideMills$Creek;", true)
  | 3 => ("TideMills", "snapshotTaken", "Z", false)
  | 4 => ("TideMills", "history", "LTideMills$History;", true)
  | 5 => ("TideMills", "buffer", "[I", true)
  | 6 => ("TideMills", "bufferLength", "I", false)
  | _ => ("TideMills", "reader", "LTideMills$PartReader;", true)
def tyX4 : Nat → FieldType := fun k => match k with
  | 0 => .object "TideMills$Creek"
  | 1 => .object "TideMills$Creek"
  | 2 => .object "TideMills$Creek"
  | 3 => .boolean
  | 4 => .object "TideMills$History"
  | 5 => .array .int
  | 6 => .int
  | _ => .object "TideMills$PartReader"
abbrev wsX40 : List Cond := u_ws RX4 TX4 8
theorem nmX4 : ∀ a, a < 8 → ∀ b, b < 8 → a ≠ b → (TX4 a).2.1 ≠ (TX4 b).2.1 := by decide +kernel
theorem tyX4_ok : ∀ k, k < 8 → parseFieldDescriptor (TX4 k).2.2.1 = some (tyX4 k) := by decide +kernel
abbrev cX4_init : ByteArray := prog_1_method_1_code
def yX4_init : MethodName := ⟨RX4, "<init>", "()V"⟩
abbrev cX4_pond : ByteArray := prog_1_method_2_code
def yX4_pond : MethodName := ⟨RX4, "pond", "(III)I"⟩
abbrev cX4_gate : ByteArray := prog_1_method_3_code
def yX4_gate : MethodName := ⟨RX4, "gate", "(III)I"⟩
abbrev cX4_gear : ByteArray := prog_1_method_4_code
def yX4_gear : MethodName := ⟨RX4, "gear", "(III)I"⟩
abbrev cX4_set : ByteArray := prog_1_method_5_code
def yX4_set : MethodName := ⟨RX4, "set", "(II)I"⟩
abbrev cX4_pass : ByteArray := prog_1_method_6_code
def yX4_pass : MethodName := ⟨RX4, "pass", "(I)I"⟩
abbrev cX4_sack : ByteArray := prog_1_method_7_code
def yX4_sack : MethodName := ⟨RX4, "sack", "(III)I"⟩
abbrev cX4_carry : ByteArray := prog_1_method_8_code
def yX4_carry : MethodName := ⟨RX4, "carry", "(II)I"⟩
abbrev cX4_back : ByteArray := prog_1_method_9_code
def yX4_back : MethodName := ⟨RX4, "back", "(I)I"⟩
abbrev cX4_append : ByteArray := prog_1_method_10_code
def yX4_append : MethodName := ⟨RX4, "append", "(I)I"⟩
abbrev cX4_clearBuffer : ByteArray := prog_1_method_11_code
def yX4_clearBuffer : MethodName := ⟨RX4, "clearBuffer", "()I"⟩
abbrev cX4_firstError : ByteArray := prog_1_method_12_code
def yX4_firstError : MethodName := ⟨RX4, "firstError", "()I"⟩
abbrev cX4_play : ByteArray := prog_1_method_13_code
def yX4_play : MethodName := ⟨RX4, "play", "()I"⟩
abbrev cX4_undo : ByteArray := prog_1_method_14_code
def yX4_undo : MethodName := ⟨RX4, "undo", "()I"⟩
abbrev cX4_keep : ByteArray := prog_1_method_15_code
def yX4_keep : MethodName := ⟨RX4, "keep", "()I"⟩
abbrev cX4_restore : ByteArray := prog_1_method_16_code
def yX4_restore : MethodName := ⟨RX4, "restore", "()I"⟩
abbrev cX4_mill : ByteArray := prog_1_method_17_code
def yX4_mill : MethodName := ⟨RX4, "mill", "(II)I"⟩
abbrev cX4_sackAt : ByteArray := prog_1_method_18_code
def yX4_sackAt : MethodName := ⟨RX4, "sackAt", "(II)I"⟩
abbrev cX4_sackOf : ByteArray := prog_1_method_19_code
def yX4_sackOf : MethodName := ⟨RX4, "sackOf", "(II)I"⟩
abbrev cX4_whyNot : ByteArray := prog_1_method_20_code
def yX4_whyNot : MethodName := ⟨RX4, "whyNot", "(I)I"⟩
abbrev cX4_tide : ByteArray := prog_1_method_21_code
def yX4_tide : MethodName := ⟨RX4, "tide", "(I)I"⟩
abbrev cX4_count : ByteArray := prog_1_method_22_code
def yX4_count : MethodName := ⟨RX4, "count", "(I)I"⟩
abbrev cX4_next : ByteArray := prog_1_method_23_code
def yX4_next : MethodName := ⟨RX4, "next", "(I)I"⟩
abbrev cX4_chosen : ByteArray := prog_1_method_24_code
def yX4_chosen : MethodName := ⟨RX4, "chosen", "()I"⟩
abbrev cX4_ifPassed : ByteArray := prog_1_method_25_code
def yX4_ifPassed : MethodName := ⟨RX4, "ifPassed", "(II)I"⟩
abbrev cX4_groundIn : ByteArray := prog_1_method_26_code
def yX4_groundIn : MethodName := ⟨RX4, "groundIn", "(I)I"⟩
abbrev cX4_bestStone : ByteArray := prog_1_method_27_code
def yX4_bestStone : MethodName := ⟨RX4, "bestStone", "(I)I"⟩
abbrev cX4_inTime : ByteArray := prog_1_method_28_code
def yX4_inTime : MethodName := ⟨RX4, "inTime", "()D"⟩
abbrev cX4_digest : ByteArray := prog_1_method_29_code
def yX4_digest : MethodName := ⟨RX4, "digest", "()J"⟩
abbrev cX4_millOrThrow : ByteArray := prog_1_method_30_code
def yX4_millOrThrow : MethodName := ⟨RX4, "millOrThrow", "(I)LTideMills$Mill;"⟩
abbrev cX4_millOfSackOrThrow : ByteArray := prog_1_method_31_code
def yX4_millOfSackOrThrow : MethodName := ⟨RX4, "millOfSackOrThrow", "(I)LTideMills$Mill;"⟩
abbrev cX4_requireRange : ByteArray := prog_1_method_32_code
def yX4_requireRange : MethodName := ⟨RX4, "requireRange", "(III)V"⟩
abbrev cX4_requireState : ByteArray := prog_1_method_33_code
def yX4_requireState : MethodName := ⟨RX4, "requireState", "(Z)V"⟩
abbrev cX4_leastOfSetting : ByteArray := prog_1_method_34_code
def yX4_leastOfSetting : MethodName := ⟨RX4, "leastOfSetting", "(I)I"⟩
abbrev cX4_mostOfSetting : ByteArray := prog_1_method_35_code
def yX4_mostOfSetting : MethodName := ⟨RX4, "mostOfSetting", "(I)I"⟩
abbrev cX4_numberOrNone : ByteArray := prog_1_method_36_code
def yX4_numberOrNone : MethodName := ⟨RX4, "numberOrNone", "(LTideMills$Mill;)I"⟩
abbrev cX4_readToError : ByteArray := prog_1_method_37_code
def yX4_readToError : MethodName := ⟨RX4, "readToError", "()I"⟩
abbrev cX4_doParts : ByteArray := prog_1_method_38_code
def yX4_doParts : MethodName := ⟨RX4, "doParts", "()I"⟩
abbrev cX4_doPart : ByteArray := prog_1_method_39_code
def yX4_doPart : MethodName := ⟨RX4, "doPart", "()Z"⟩
abbrev cX4_numberOfMill : ByteArray := prog_1_method_40_code
def yX4_numberOfMill : MethodName := ⟨RX4, "numberOfMill", "(LTideMills$Mill;I)I"⟩
abbrev cX4_numberOfSack : ByteArray := prog_1_method_41_code
def yX4_numberOfSack : MethodName := ⟨RX4, "numberOfSack", "(LTideMills$Mill;II)I"⟩
abbrev cX4_numberOfAll : ByteArray := prog_1_method_42_code
def yX4_numberOfAll : MethodName := ⟨RX4, "numberOfAll", "(I)I"⟩
abbrev cX4_millOfRank : ByteArray := prog_1_method_43_code
def yX4_millOfRank : MethodName := ⟨RX4, "millOfRank", "(I)I"⟩
abbrev cX4_foreseen : ByteArray := prog_1_method_44_code
def yX4_foreseen : MethodName := ⟨RX4, "foreseen", "(II)I"⟩
abbrev cX4_hoursToGround : ByteArray := prog_1_method_45_code
def yX4_hoursToGround : MethodName := ⟨RX4, "hoursToGround", "(I)I"⟩
abbrev cX4_stoneThatGrindsMost : ByteArray := prog_1_method_46_code
def yX4_stoneThatGrindsMost : MethodName := ⟨RX4, "stoneThatGrindsMost", "(LTideMills$Mill;)I"⟩
abbrev cX4_shareInTime : ByteArray := prog_1_method_47_code
def yX4_shareInTime : MethodName := ⟨RX4, "shareInTime", "()D"⟩
abbrev cX4_withMill : ByteArray := prog_1_method_48_code
def yX4_withMill : MethodName := ⟨RX4, "withMill", "(JLTideMills$Mill;)J"⟩
abbrev cX4_bitsOfShare : ByteArray := prog_1_method_49_code
def yX4_bitsOfShare : MethodName := ⟨RX4, "bitsOfShare", "(D)J"⟩
def RX5 : String := "TideMillsModel"
def TX5 : u_T := fun k => match k with
  | 0 => ("TideMillsModel", "s", "[I", true)
  | 1 => ("TideMillsModel", "saved", "[I", true)
  | 2 => ("TideMillsModel", "savedMany", "I", false)
  | 3 => ("TideMillsModel", "snapshot", "[I", true)
  | 4 => ("TideMillsModel", "isTaken", "Z", false)
  | 5 => ("TideMillsModel", "before", "[I", true)
  | 6 => ("TideMillsModel", "text", "[I", true)
  | 7 => ("TideMillsModel", "length", "I", false)
  | 8 => ("TideMillsModel", "thrown", "I", false)
  | 9 => ("TideMillsModel", "place", "I", false)
  | 10 => ("TideMillsModel", "letter", "I", false)
  | 11 => ("TideMillsModel", "told", "[I", true)
  | 12 => ("TideMillsModel", "parts", "I", false)
  | _ => ("TideMillsModel", "hash", "J", false)
def tyX5 : Nat → FieldType := fun k => match k with
  | 0 => .array .int
  | 1 => .array .int
  | 2 => .int
  | 3 => .array .int
  | 4 => .boolean
  | 5 => .array .int
  | 6 => .array .int
  | 7 => .int
  | 8 => .int
  | 9 => .int
  | 10 => .int
  | 11 => .array .int
  | 12 => .int
  | _ => .long
abbrev wsX50 : List Cond := u_ws RX5 TX5 14
theorem nmX5 : ∀ a, a < 14 → ∀ b, b < 14 → a ≠ b → (TX5 a).2.1 ≠ (TX5 b).2.1 := by decide +kernel
theorem tyX5_ok : ∀ k, k < 14 → parseFieldDescriptor (TX5 k).2.2.1 = some (tyX5 k) := by decide +kernel
abbrev cX5_init : ByteArray := prog_7_method_1_code
def yX5_init : MethodName := ⟨RX5, "<init>", "()V"⟩
abbrev cX5_thrown : ByteArray := prog_7_method_2_code
def yX5_thrown : MethodName := ⟨RX5, "thrown", "()I"⟩
abbrev cX5_holds : ByteArray := prog_7_method_3_code
def yX5_holds : MethodName := ⟨RX5, "holds", "(I)Z"⟩
abbrev cX5_in : ByteArray := prog_7_method_4_code
def yX5_in : MethodName := ⟨RX5, "in", "(III)Z"⟩
abbrev cX5_isMill : ByteArray := prog_7_method_5_code
def yX5_isMill : MethodName := ⟨RX5, "isMill", "(I)Z"⟩
abbrev cX5_of : ByteArray := prog_7_method_6_code
def yX5_of : MethodName := ⟨RX5, "of", "(II)I"⟩
abbrev cX5_put : ByteArray := prog_7_method_7_code
def yX5_put : MethodName := ⟨RX5, "put", "(III)V"⟩
abbrev cX5_add : ByteArray := prog_7_method_8_code
def yX5_add : MethodName := ⟨RX5, "add", "(III)V"⟩
abbrev cX5_sackRow : ByteArray := prog_7_method_9_code
def yX5_sackRow : MethodName := ⟨RX5, "sackRow", "(II)I"⟩
abbrev cX5_copy : ByteArray := prog_7_method_10_code
def yX5_copy : MethodName := ⟨RX5, "copy", "([II[II)V"⟩
abbrev cX5_save : ByteArray := prog_7_method_11_code
def yX5_save : MethodName := ⟨RX5, "save", "()V"⟩
abbrev cX5_insert : ByteArray := prog_7_method_12_code
def yX5_insert : MethodName := ⟨RX5, "insert", "(IIIII)I"⟩
abbrev cX5_comesAhead : ByteArray := prog_7_method_13_code
def yX5_comesAhead : MethodName := ⟨RX5, "comesAhead", "(III)Z"⟩
abbrev cX5_remove : ByteArray := prog_7_method_14_code
def yX5_remove : MethodName := ⟨RX5, "remove", "(II)V"⟩
abbrev cX5_whereIs : ByteArray := prog_7_method_15_code
def yX5_whereIs : MethodName := ⟨RX5, "whereIs", "(I)I"⟩
abbrev cX5_tideIn : ByteArray := prog_7_method_16_code
def yX5_tideIn : MethodName := ⟨RX5, "tideIn", "(I)I"⟩
abbrev cX5_head : ByteArray := prog_7_method_17_code
def yX5_head : MethodName := ⟨RX5, "head", "(I)I"⟩
abbrev cX5_fill : ByteArray := prog_7_method_18_code
def yX5_fill : MethodName := ⟨RX5, "fill", "(I)V"⟩
abbrev cX5_reason : ByteArray := prog_7_method_19_code
def yX5_reason : MethodName := ⟨RX5, "reason", "(I)I"⟩
abbrev cX5_goesAhead : ByteArray := prog_7_method_20_code
def yX5_goesAhead : MethodName := ⟨RX5, "goesAhead", "(II)Z"⟩
abbrev cX5_rankOf : ByteArray := prog_7_method_21_code
def yX5_rankOf : MethodName := ⟨RX5, "rankOf", "(I)I"⟩
abbrev cX5_ranked : ByteArray := prog_7_method_22_code
def yX5_ranked : MethodName := ⟨RX5, "ranked", "(I)I"⟩
abbrev cX5_turn : ByteArray := prog_7_method_23_code
def yX5_turn : MethodName := ⟨RX5, "turn", "(I)V"⟩
abbrev cX5_hour : ByteArray := prog_7_method_24_code
def yX5_hour : MethodName := ⟨RX5, "hour", "()V"⟩
abbrev cX5_hours : ByteArray := prog_7_method_25_code
def yX5_hours : MethodName := ⟨RX5, "hours", "(I)I"⟩
abbrev cX5_pond : ByteArray := prog_7_method_26_code
def yX5_pond : MethodName := ⟨RX5, "pond", "(III)I"⟩
abbrev cX5_gate : ByteArray := prog_7_method_27_code
def yX5_gate : MethodName := ⟨RX5, "gate", "(III)I"⟩
abbrev cX5_gears : ByteArray := prog_7_method_28_code
def yX5_gears : MethodName := ⟨RX5, "gears", "(III)I"⟩
abbrev cX5_gear : ByteArray := prog_7_method_29_code
def yX5_gear : MethodName := ⟨RX5, "gear", "(III)I"⟩
abbrev cX5_set : ByteArray := prog_7_method_30_code
def yX5_set : MethodName := ⟨RX5, "set", "(II)I"⟩
abbrev cX5_pass : ByteArray := prog_7_method_31_code
def yX5_pass : MethodName := ⟨RX5, "pass", "(I)I"⟩
abbrev cX5_hasRoom : ByteArray := prog_7_method_32_code
def yX5_hasRoom : MethodName := ⟨RX5, "hasRoom", "(I)Z"⟩
abbrev cX5_come : ByteArray := prog_7_method_33_code
def yX5_come : MethodName := ⟨RX5, "come", "(III)I"⟩
abbrev cX5_sack : ByteArray := prog_7_method_34_code
def yX5_sack : MethodName := ⟨RX5, "sack", "(III)I"⟩
abbrev cX5_carry : ByteArray := prog_7_method_35_code
def yX5_carry : MethodName := ⟨RX5, "carry", "(II)I"⟩
abbrev cX5_back : ByteArray := prog_7_method_36_code
def yX5_back : MethodName := ⟨RX5, "back", "(I)I"⟩
abbrev cX5_append : ByteArray := prog_7_method_37_code
def yX5_append : MethodName := ⟨RX5, "append", "(I)I"⟩
abbrev cX5_clearBuffer : ByteArray := prog_7_method_38_code
def yX5_clearBuffer : MethodName := ⟨RX5, "clearBuffer", "()I"⟩
abbrev cX5_isNext : ByteArray := prog_7_method_39_code
def yX5_isNext : MethodName := ⟨RX5, "isNext", "(II)Z"⟩
abbrev cX5_takes : ByteArray := prog_7_method_40_code
def yX5_takes : MethodName := ⟨RX5, "takes", "(I)Z"⟩
abbrev cX5_readNumber : ByteArray := prog_7_method_41_code
def yX5_readNumber : MethodName := ⟨RX5, "readNumber", "(III)Z"⟩
abbrev cX5_readMill : ByteArray := prog_7_method_42_code
def yX5_readMill : MethodName := ⟨RX5, "readMill", "()Z"⟩
abbrev cX5_readPart : ByteArray := prog_7_method_43_code
def yX5_readPart : MethodName := ⟨RX5, "readPart", "()Z"⟩
abbrev cX5_does : ByteArray := prog_7_method_44_code
def yX5_does : MethodName := ⟨RX5, "does", "()Z"⟩
abbrev cX5_readText : ByteArray := prog_7_method_45_code
def yX5_readText : MethodName := ⟨RX5, "readText", "(Z)Z"⟩
abbrev cX5_firstError : ByteArray := prog_7_method_46_code
def yX5_firstError : MethodName := ⟨RX5, "firstError", "()I"⟩
abbrev cX5_play : ByteArray := prog_7_method_47_code
def yX5_play : MethodName := ⟨RX5, "play", "()I"⟩
abbrev cX5_undo : ByteArray := prog_7_method_48_code
def yX5_undo : MethodName := ⟨RX5, "undo", "()I"⟩
abbrev cX5_keep : ByteArray := prog_7_method_49_code
def yX5_keep : MethodName := ⟨RX5, "keep", "()I"⟩
abbrev cX5_restore : ByteArray := prog_7_method_50_code
def yX5_restore : MethodName := ⟨RX5, "restore", "()I"⟩
abbrev cX5_millTold : ByteArray := prog_7_method_51_code
def yX5_millTold : MethodName := ⟨RX5, "millTold", "(II)I"⟩
abbrev cX5_mill : ByteArray := prog_7_method_52_code
def yX5_mill : MethodName := ⟨RX5, "mill", "(II)I"⟩
abbrev cX5_sackTold : ByteArray := prog_7_method_53_code
def yX5_sackTold : MethodName := ⟨RX5, "sackTold", "(III)I"⟩
abbrev cX5_sackAt : ByteArray := prog_7_method_54_code
def yX5_sackAt : MethodName := ⟨RX5, "sackAt", "(II)I"⟩
abbrev cX5_sackOf : ByteArray := prog_7_method_55_code
def yX5_sackOf : MethodName := ⟨RX5, "sackOf", "(II)I"⟩
abbrev cX5_whyNot : ByteArray := prog_7_method_56_code
def yX5_whyNot : MethodName := ⟨RX5, "whyNot", "(I)I"⟩
abbrev cX5_tide : ByteArray := prog_7_method_57_code
def yX5_tide : MethodName := ⟨RX5, "tide", "(I)I"⟩
abbrev cX5_sum : ByteArray := prog_7_method_58_code
def yX5_sum : MethodName := ⟨RX5, "sum", "(I)I"⟩
abbrev cX5_countTold : ByteArray := prog_7_method_59_code
def yX5_countTold : MethodName := ⟨RX5, "countTold", "(I)I"⟩
abbrev cX5_count : ByteArray := prog_7_method_60_code
def yX5_count : MethodName := ⟨RX5, "count", "(I)I"⟩
abbrev cX5_next : ByteArray := prog_7_method_61_code
def yX5_next : MethodName := ⟨RX5, "next", "(I)I"⟩
abbrev cX5_chosen : ByteArray := prog_7_method_62_code
def yX5_chosen : MethodName := ⟨RX5, "chosen", "()I"⟩
abbrev cX5_wouldBring : ByteArray := prog_7_method_63_code
def yX5_wouldBring : MethodName := ⟨RX5, "wouldBring", "(II)I"⟩
abbrev cX5_ifPassed : ByteArray := prog_7_method_64_code
def yX5_ifPassed : MethodName := ⟨RX5, "ifPassed", "(II)I"⟩
abbrev cX5_groundBehind : ByteArray := prog_7_method_65_code
def yX5_groundBehind : MethodName := ⟨RX5, "groundBehind", "(I)I"⟩
abbrev cX5_groundIn : ByteArray := prog_7_method_66_code
def yX5_groundIn : MethodName := ⟨RX5, "groundIn", "(I)I"⟩
abbrev cX5_rests : ByteArray := prog_7_method_67_code
def yX5_rests : MethodName := ⟨RX5, "rests", "()I"⟩
abbrev cX5_bestFor : ByteArray := prog_7_method_68_code
def yX5_bestFor : MethodName := ⟨RX5, "bestFor", "(I)I"⟩
abbrev cX5_bestStone : ByteArray := prog_7_method_69_code
def yX5_bestStone : MethodName := ⟨RX5, "bestStone", "(I)I"⟩
abbrev cX5_shareInTime : ByteArray := prog_7_method_70_code
def yX5_shareInTime : MethodName := ⟨RX5, "shareInTime", "()D"⟩
abbrev cX5_inTime : ByteArray := prog_7_method_71_code
def yX5_inTime : MethodName := ⟨RX5, "inTime", "()D"⟩
abbrev cX5_bitsOf : ByteArray := prog_7_method_72_code
def yX5_bitsOf : MethodName := ⟨RX5, "bitsOf", "(D)J"⟩
abbrev cX5_mix : ByteArray := prog_7_method_73_code
def yX5_mix : MethodName := ⟨RX5, "mix", "(J)V"⟩
abbrev cX5_mixMill : ByteArray := prog_7_method_74_code
def yX5_mixMill : MethodName := ⟨RX5, "mixMill", "(I)V"⟩
abbrev cX5_digest : ByteArray := prog_7_method_75_code
def yX5_digest : MethodName := ⟨RX5, "digest", "()J"⟩
def RJ9 : String := "java/lang/Math"
def TJ9 : u_T := fun k => match k with
  | _ => ("", "", "", false)
def tyJ9 : Nat → FieldType := fun k => match k with
  | _ => .int
abbrev wsJ90 : List Cond := u_ws RJ9 TJ9 0
theorem nmJ9 : ∀ a, a < 0 → ∀ b, b < 0 → a ≠ b → (TJ9 a).2.1 ≠ (TJ9 b).2.1 := by decide +kernel
theorem tyJ9_ok : ∀ k, k < 0 → parseFieldDescriptor (TJ9 k).2.2.1 = some (tyJ9 k) := by decide +kernel
abbrev cJ9_abs_0f7a4 : ByteArray := prog_12_method_59_code
def yJ9_abs_0f7a4 : MethodName := ⟨RJ9, "abs", "(I)I"⟩
abbrev cJ9_min_7cf53 : ByteArray := prog_12_method_69_code
def yJ9_min_7cf53 : MethodName := ⟨RJ9, "min", "(II)I"⟩
def RJ0 : String := "java/lang/String"
def TJ0 : u_T := fun k => match k with
  | _ => ("", "", "", false)
def tyJ0 : Nat → FieldType := fun k => match k with
  | _ => .int
abbrev wsJ00 : List Cond := u_ws RJ0 TJ0 0
theorem nmJ0 : ∀ a, a < 0 → ∀ b, b < 0 → a ≠ b → (TJ0 a).2.1 ≠ (TJ0 b).2.1 := by decide +kernel
theorem tyJ0_ok : ∀ k, k < 0 → parseFieldDescriptor (TJ0 k).2.2.1 = some (tyJ0 k) := by decide +kernel
def RL : String := "TideMillsLaw"
abbrev cL_pond : ByteArray := method_3_code
def yL_pond : MethodName := ⟨RL, "pond", "(LTideMills;III[J)I"⟩
abbrev cL_gate : ByteArray := method_4_code
def yL_gate : MethodName := ⟨RL, "gate", "(LTideMills;III[J)I"⟩
abbrev cL_gear : ByteArray := method_5_code
def yL_gear : MethodName := ⟨RL, "gear", "(LTideMills;III[J)I"⟩
abbrev cL_set : ByteArray := method_6_code
def yL_set : MethodName := ⟨RL, "set", "(LTideMills;II[J)I"⟩
abbrev cL_pass : ByteArray := method_7_code
def yL_pass : MethodName := ⟨RL, "pass", "(LTideMills;I[J)I"⟩
abbrev cL_sack : ByteArray := method_8_code
def yL_sack : MethodName := ⟨RL, "sack", "(LTideMills;III[J)I"⟩
abbrev cL_carry : ByteArray := method_9_code
def yL_carry : MethodName := ⟨RL, "carry", "(LTideMills;II[J)I"⟩
abbrev cL_back : ByteArray := method_10_code
def yL_back : MethodName := ⟨RL, "back", "(LTideMills;I[J)I"⟩
abbrev cL_append : ByteArray := method_11_code
def yL_append : MethodName := ⟨RL, "append", "(LTideMills;I[J)I"⟩
abbrev cL_play : ByteArray := method_12_code
def yL_play : MethodName := ⟨RL, "play", "(LTideMills;[J)I"⟩
abbrev cL_undo : ByteArray := method_13_code
def yL_undo : MethodName := ⟨RL, "undo", "(LTideMills;[J)I"⟩
abbrev cL_restore : ByteArray := method_14_code
def yL_restore : MethodName := ⟨RL, "restore", "(LTideMills;[J)I"⟩
abbrev cL_mill : ByteArray := method_15_code
def yL_mill : MethodName := ⟨RL, "mill", "(LTideMills;II[J)I"⟩
abbrev cL_sackAt : ByteArray := method_16_code
def yL_sackAt : MethodName := ⟨RL, "sackAt", "(LTideMills;II[J)I"⟩
abbrev cL_sackOf : ByteArray := method_17_code
def yL_sackOf : MethodName := ⟨RL, "sackOf", "(LTideMills;II[J)I"⟩
abbrev cL_whyNot : ByteArray := method_18_code
def yL_whyNot : MethodName := ⟨RL, "whyNot", "(LTideMills;I[J)I"⟩
abbrev cL_tide : ByteArray := method_19_code
def yL_tide : MethodName := ⟨RL, "tide", "(LTideMills;I[J)I"⟩
abbrev cL_count : ByteArray := method_20_code
def yL_count : MethodName := ⟨RL, "count", "(LTideMills;I[J)I"⟩
abbrev cL_next : ByteArray := method_21_code
def yL_next : MethodName := ⟨RL, "next", "(LTideMills;I[J)I"⟩
abbrev cL_ifPassed : ByteArray := method_22_code
def yL_ifPassed : MethodName := ⟨RL, "ifPassed", "(LTideMills;II[J)I"⟩
abbrev cL_bestStone : ByteArray := method_23_code
def yL_bestStone : MethodName := ⟨RL, "bestStone", "(LTideMills;I[J)I"⟩
abbrev cL_law : ByteArray := code
def yL_law : MethodName := ⟨RL, "law", "([I)Z"⟩
abbrev vwCl : List vw_C := [(RX0, TX0, 13), (RX1, TX1, 2), (RX2, TX2, 16), (RX3, TX3, 4), (RX4, TX4, 8), (RX5, TX5, 14)]
end
section
theorem dX0_init_0 : decode cX0_init 0 = .ok (.aload_n 0, 1) := by decide +kernel
theorem dX0_init_1 : decode cX0_init 1 = .ok (.invokespecial 3, 3) := by decide +kernel
theorem dX0_init_4 : decode cX0_init 4 = .ok (.aload_n 0, 1) := by decide +kernel
theorem dX0_init_5 : decode cX0_init 5 = .ok (.bipush 10, 2) := by decide +kernel
theorem dX0_init_7 : decode cX0_init 7 = .ok (.putfield 9, 3) := by decide +kernel
theorem dX0_init_10 : decode cX0_init 10 = .ok (.aload_n 0, 1) := by decide +kernel
theorem dX0_init_11 : decode cX0_init 11 = .ok (.bipush 20, 2) := by decide +kernel
theorem dX0_init_13 : decode cX0_init 13 = .ok (.putfield 15, 3) := by decide +kernel
theorem dX0_init_16 : decode cX0_init 16 = .ok (.aload_n 0, 1) := by decide +kernel
theorem dX0_init_17 : decode cX0_init 17 = .ok (.bipush 20, 2) := by decide +kernel
theorem dX0_init_19 : decode cX0_init 19 = .ok (.putfield 18, 3) := by decide +kernel
theorem dX0_init_22 : decode cX0_init 22 = .ok (.aload_n 0, 1) := by decide +kernel
theorem dX0_init_23 : decode cX0_init 23 = .ok (.iconst 0, 1) := by decide +kernel
theorem dX0_init_24 : decode cX0_init 24 = .ok (.putfield 21, 3) := by decide +kernel
theorem dX0_init_27 : decode cX0_init 27 = .ok (.aload_n 0, 1) := by decide +kernel
theorem dX0_init_28 : decode cX0_init 28 = .ok (.iconst (-1), 1) := by decide +kernel
theorem dX0_init_29 : decode cX0_init 29 = .ok (.putfield 24, 3) := by decide +kernel
theorem dX0_init_32 : decode cX0_init 32 = .ok (.aload_n 0, 1) := by decide +kernel
theorem dX0_init_33 : decode cX0_init 33 = .ok (.iconst 0, 1) := by decide +kernel
theorem dX0_init_34 : decode cX0_init 34 = .ok (.putfield 27, 3) := by decide +kernel
theorem dX0_init_37 : decode cX0_init 37 = .ok (.aload_n 0, 1) := by decide +kernel
theorem dX0_init_38 : decode cX0_init 38 = .ok (.iconst 0, 1) := by decide +kernel
theorem dX0_init_39 : decode cX0_init 39 = .ok (.putfield 30, 3) := by decide +kernel
theorem dX0_init_42 : decode cX0_init 42 = .ok (.aload_n 0, 1) := by decide +kernel
theorem dX0_init_43 : decode cX0_init 43 = .ok (.iconst 0, 1) := by decide +kernel
theorem dX0_init_44 : decode cX0_init 44 = .ok (.putfield 33, 3) := by decide +kernel
theorem dX0_init_47 : decode cX0_init 47 = .ok (.aload_n 0, 1) := by decide +kernel
theorem dX0_init_48 : decode cX0_init 48 = .ok (.iconst 0, 1) := by decide +kernel
theorem dX0_init_49 : decode cX0_init 49 = .ok (.putfield 36, 3) := by decide +kernel
theorem dX0_init_52 : decode cX0_init 52 = .ok (.aload_n 0, 1) := by decide +kernel
theorem dX0_init_53 : decode cX0_init 53 = .ok (.iconst 0, 1) := by decide +kernel
theorem dX0_init_54 : decode cX0_init 54 = .ok (.putfield 39, 3) := by decide +kernel
theorem dX0_init_57 : decode cX0_init 57 = .ok (.aload_n 0, 1) := by decide +kernel
theorem dX0_init_58 : decode cX0_init 58 = .ok (.iconst 0, 1) := by decide +kernel
theorem dX0_init_59 : decode cX0_init 59 = .ok (.putfield 42, 3) := by decide +kernel
theorem dX0_init_62 : decode cX0_init 62 = .ok (.aload_n 0, 1) := by decide +kernel
theorem dX0_init_63 : decode cX0_init 63 = .ok (.iconst 0, 1) := by decide +kernel
theorem dX0_init_64 : decode cX0_init 64 = .ok (.putfield 45, 3) := by decide +kernel
theorem dX0_init_67 : decode cX0_init 67 = .ok (.aconst_null, 1) := by decide +kernel
theorem dX0_init_68 : decode cX0_init 68 = .ok (.astore_n 1, 1) := by decide +kernel
theorem dX0_init_69 : decode cX0_init 69 = .ok (.iconst 4, 1) := by decide +kernel
theorem dX0_init_70 : decode cX0_init 70 = .ok (.istore_n 2, 1) := by decide +kernel
theorem dX0_init_71 : decode cX0_init 71 = .ok (.iload_n 2, 1) := by decide +kernel
theorem dX0_init_72 : decode cX0_init 72 = .ok (.ifCond .lt 19, 3) := by decide +kernel
theorem dX0_init_75 : decode cX0_init 75 = .ok (.new 48, 3) := by decide +kernel
theorem dX0_init_78 : decode cX0_init 78 = .ok (.dup, 1) := by decide +kernel
theorem dX0_init_79 : decode cX0_init 79 = .ok (.iload_n 2, 1) := by decide +kernel
theorem dX0_init_80 : decode cX0_init 80 = .ok (.aload_n 1, 1) := by decide +kernel
theorem dX0_init_81 : decode cX0_init 81 = .ok (.invokespecial 50, 3) := by decide +kernel
theorem dX0_init_84 : decode cX0_init 84 = .ok (.astore_n 1, 1) := by decide +kernel
theorem dX0_init_85 : decode cX0_init 85 = .ok (.iinc 2 (-1), 3) := by decide +kernel
theorem dX0_init_88 : decode cX0_init 88 = .ok (.goto (-17), 3) := by decide +kernel
theorem dX0_init_91 : decode cX0_init 91 = .ok (.aload_n 0, 1) := by decide +kernel
theorem dX0_init_92 : decode cX0_init 92 = .ok (.aload_n 1, 1) := by decide +kernel
theorem dX0_init_93 : decode cX0_init 93 = .ok (.putfield 53, 3) := by decide +kernel
theorem dX0_init_96 : decode cX0_init 96 = .ok (.return_, 1) := by decide +kernel
theorem dX0_copyFrom_0 : decode cX0_copyFrom 0 = .ok (.aload_n 0, 1) := by decide +kernel
theorem dX0_copyFrom_1 : decode cX0_copyFrom 1 = .ok (.aload_n 1, 1) := by decide +kernel
theorem dX0_copyFrom_2 : decode cX0_copyFrom 2 = .ok (.getfield 9, 3) := by decide +kernel
theorem dX0_copyFrom_5 : decode cX0_copyFrom 5 = .ok (.putfield 9, 3) := by decide +kernel
theorem dX0_copyFrom_8 : decode cX0_copyFrom 8 = .ok (.aload_n 0, 1) := by decide +kernel
theorem dX0_copyFrom_9 : decode cX0_copyFrom 9 = .ok (.aload_n 1, 1) := by decide +kernel
theorem dX0_copyFrom_10 : decode cX0_copyFrom 10 = .ok (.getfield 15, 3) := by decide +kernel
theorem dX0_copyFrom_13 : decode cX0_copyFrom 13 = .ok (.putfield 15, 3) := by decide +kernel
theorem dX0_copyFrom_16 : decode cX0_copyFrom 16 = .ok (.aload_n 0, 1) := by decide +kernel
theorem dX0_copyFrom_17 : decode cX0_copyFrom 17 = .ok (.aload_n 1, 1) := by decide +kernel
theorem dX0_copyFrom_18 : decode cX0_copyFrom 18 = .ok (.getfield 18, 3) := by decide +kernel
theorem dX0_copyFrom_21 : decode cX0_copyFrom 21 = .ok (.putfield 18, 3) := by decide +kernel
theorem dX0_copyFrom_24 : decode cX0_copyFrom 24 = .ok (.aload_n 0, 1) := by decide +kernel
theorem dX0_copyFrom_25 : decode cX0_copyFrom 25 = .ok (.aload_n 1, 1) := by decide +kernel
theorem dX0_copyFrom_26 : decode cX0_copyFrom 26 = .ok (.getfield 21, 3) := by decide +kernel
theorem dX0_copyFrom_29 : decode cX0_copyFrom 29 = .ok (.putfield 21, 3) := by decide +kernel
theorem dX0_copyFrom_32 : decode cX0_copyFrom 32 = .ok (.aload_n 0, 1) := by decide +kernel
theorem dX0_copyFrom_33 : decode cX0_copyFrom 33 = .ok (.aload_n 1, 1) := by decide +kernel
theorem dX0_copyFrom_34 : decode cX0_copyFrom 34 = .ok (.getfield 24, 3) := by decide +kernel
theorem dX0_copyFrom_37 : decode cX0_copyFrom 37 = .ok (.putfield 24, 3) := by decide +kernel
theorem dX0_copyFrom_40 : decode cX0_copyFrom 40 = .ok (.aload_n 0, 1) := by decide +kernel
theorem dX0_copyFrom_41 : decode cX0_copyFrom 41 = .ok (.aload_n 1, 1) := by decide +kernel
theorem dX0_copyFrom_42 : decode cX0_copyFrom 42 = .ok (.getfield 27, 3) := by decide +kernel
theorem dX0_copyFrom_45 : decode cX0_copyFrom 45 = .ok (.putfield 27, 3) := by decide +kernel
theorem dX0_copyFrom_48 : decode cX0_copyFrom 48 = .ok (.aload_n 0, 1) := by decide +kernel
theorem dX0_copyFrom_49 : decode cX0_copyFrom 49 = .ok (.aload_n 1, 1) := by decide +kernel
theorem dX0_copyFrom_50 : decode cX0_copyFrom 50 = .ok (.getfield 30, 3) := by decide +kernel
theorem dX0_copyFrom_53 : decode cX0_copyFrom 53 = .ok (.putfield 30, 3) := by decide +kernel
theorem dX0_copyFrom_56 : decode cX0_copyFrom 56 = .ok (.aload_n 0, 1) := by decide +kernel
theorem dX0_copyFrom_57 : decode cX0_copyFrom 57 = .ok (.aload_n 1, 1) := by decide +kernel
theorem dX0_copyFrom_58 : decode cX0_copyFrom 58 = .ok (.getfield 33, 3) := by decide +kernel
theorem dX0_copyFrom_61 : decode cX0_copyFrom 61 = .ok (.putfield 33, 3) := by decide +kernel
theorem dX0_copyFrom_64 : decode cX0_copyFrom 64 = .ok (.aload_n 0, 1) := by decide +kernel
theorem dX0_copyFrom_65 : decode cX0_copyFrom 65 = .ok (.aload_n 1, 1) := by decide +kernel
theorem dX0_copyFrom_66 : decode cX0_copyFrom 66 = .ok (.getfield 36, 3) := by decide +kernel
theorem dX0_copyFrom_69 : decode cX0_copyFrom 69 = .ok (.putfield 36, 3) := by decide +kernel
theorem dX0_copyFrom_72 : decode cX0_copyFrom 72 = .ok (.aload_n 0, 1) := by decide +kernel
theorem dX0_copyFrom_73 : decode cX0_copyFrom 73 = .ok (.aload_n 1, 1) := by decide +kernel
theorem dX0_copyFrom_74 : decode cX0_copyFrom 74 = .ok (.getfield 39, 3) := by decide +kernel
theorem dX0_copyFrom_77 : decode cX0_copyFrom 77 = .ok (.putfield 39, 3) := by decide +kernel
theorem dX0_copyFrom_80 : decode cX0_copyFrom 80 = .ok (.aload_n 0, 1) := by decide +kernel
theorem dX0_copyFrom_81 : decode cX0_copyFrom 81 = .ok (.aload_n 1, 1) := by decide +kernel
theorem dX0_copyFrom_82 : decode cX0_copyFrom 82 = .ok (.getfield 42, 3) := by decide +kernel
theorem dX0_copyFrom_85 : decode cX0_copyFrom 85 = .ok (.putfield 42, 3) := by decide +kernel
theorem dX0_copyFrom_88 : decode cX0_copyFrom 88 = .ok (.aload_n 0, 1) := by decide +kernel
theorem dX0_copyFrom_89 : decode cX0_copyFrom 89 = .ok (.aload_n 1, 1) := by decide +kernel
theorem dX0_copyFrom_90 : decode cX0_copyFrom 90 = .ok (.getfield 45, 3) := by decide +kernel
theorem dX0_copyFrom_93 : decode cX0_copyFrom 93 = .ok (.putfield 45, 3) := by decide +kernel
theorem dX0_copyFrom_96 : decode cX0_copyFrom 96 = .ok (.aload_n 1, 1) := by decide +kernel
theorem dX0_copyFrom_97 : decode cX0_copyFrom 97 = .ok (.getfield 53, 3) := by decide +kernel
theorem dX0_copyFrom_100 : decode cX0_copyFrom 100 = .ok (.astore_n 2, 1) := by decide +kernel
theorem dX0_copyFrom_101 : decode cX0_copyFrom 101 = .ok (.aload_n 0, 1) := by decide +kernel
theorem dX0_copyFrom_102 : decode cX0_copyFrom 102 = .ok (.getfield 53, 3) := by decide +kernel
theorem dX0_copyFrom_105 : decode cX0_copyFrom 105 = .ok (.astore_n 3, 1) := by decide +kernel
theorem dX0_copyFrom_106 : decode cX0_copyFrom 106 = .ok (.aload_n 3, 1) := by decide +kernel
theorem dX0_copyFrom_107 : decode cX0_copyFrom 107 = .ok (.ifnull 25, 3) := by decide +kernel
theorem dX0_copyFrom_110 : decode cX0_copyFrom 110 = .ok (.aload_n 2, 1) := by decide +kernel
theorem dX0_copyFrom_111 : decode cX0_copyFrom 111 = .ok (.ifnull 21, 3) := by decide +kernel
theorem dX0_copyFrom_114 : decode cX0_copyFrom 114 = .ok (.aload_n 3, 1) := by decide +kernel
theorem dX0_copyFrom_115 : decode cX0_copyFrom 115 = .ok (.aload_n 2, 1) := by decide +kernel
theorem dX0_copyFrom_116 : decode cX0_copyFrom 116 = .ok (.invokevirtual 57, 3) := by decide +kernel
theorem dX0_copyFrom_119 : decode cX0_copyFrom 119 = .ok (.aload_n 2, 1) := by decide +kernel
theorem dX0_copyFrom_120 : decode cX0_copyFrom 120 = .ok (.getfield 61, 3) := by decide +kernel
theorem dX0_copyFrom_123 : decode cX0_copyFrom 123 = .ok (.astore_n 2, 1) := by decide +kernel
theorem dX0_copyFrom_124 : decode cX0_copyFrom 124 = .ok (.aload_n 3, 1) := by decide +kernel
theorem dX0_copyFrom_125 : decode cX0_copyFrom 125 = .ok (.getfield 61, 3) := by decide +kernel
theorem dX0_copyFrom_128 : decode cX0_copyFrom 128 = .ok (.astore_n 3, 1) := by decide +kernel
theorem dX0_copyFrom_129 : decode cX0_copyFrom 129 = .ok (.goto (-23), 3) := by decide +kernel
theorem dX0_copyFrom_132 : decode cX0_copyFrom 132 = .ok (.return_, 1) := by decide +kernel
theorem dX0_millAt_0 : decode cX0_millAt 0 = .ok (.aload_n 0, 1) := by decide +kernel
theorem dX0_millAt_1 : decode cX0_millAt 1 = .ok (.getfield 53, 3) := by decide +kernel
theorem dX0_millAt_4 : decode cX0_millAt 4 = .ok (.astore_n 2, 1) := by decide +kernel
theorem dX0_millAt_5 : decode cX0_millAt 5 = .ok (.aload_n 2, 1) := by decide +kernel
theorem dX0_millAt_6 : decode cX0_millAt 6 = .ok (.ifnull 21, 3) := by decide +kernel
theorem dX0_millAt_9 : decode cX0_millAt 9 = .ok (.aload_n 2, 1) := by decide +kernel
theorem dX0_millAt_10 : decode cX0_millAt 10 = .ok (.getfield 64, 3) := by decide +kernel
theorem dX0_millAt_13 : decode cX0_millAt 13 = .ok (.iload_n 1, 1) := by decide +kernel
theorem dX0_millAt_14 : decode cX0_millAt 14 = .ok (.if_icmp .ne 5, 3) := by decide +kernel
theorem dX0_millAt_17 : decode cX0_millAt 17 = .ok (.aload_n 2, 1) := by decide +kernel
theorem dX0_millAt_18 : decode cX0_millAt 18 = .ok (.areturn, 1) := by decide +kernel
theorem dX0_millAt_19 : decode cX0_millAt 19 = .ok (.aload_n 2, 1) := by decide +kernel
theorem dX0_millAt_20 : decode cX0_millAt 20 = .ok (.getfield 61, 3) := by decide +kernel
theorem dX0_millAt_23 : decode cX0_millAt 23 = .ok (.astore_n 2, 1) := by decide +kernel
theorem dX0_millAt_24 : decode cX0_millAt 24 = .ok (.goto (-19), 3) := by decide +kernel
theorem dX0_millAt_27 : decode cX0_millAt 27 = .ok (.aconst_null, 1) := by decide +kernel
theorem dX0_millAt_28 : decode cX0_millAt 28 = .ok (.areturn, 1) := by decide +kernel
theorem dX0_millOfSack_0 : decode cX0_millOfSack 0 = .ok (.aload_n 0, 1) := by decide +kernel
theorem dX0_millOfSack_1 : decode cX0_millOfSack 1 = .ok (.getfield 53, 3) := by decide +kernel
theorem dX0_millOfSack_4 : decode cX0_millOfSack 4 = .ok (.astore_n 2, 1) := by decide +kernel
theorem dX0_millOfSack_5 : decode cX0_millOfSack 5 = .ok (.aload_n 2, 1) := by decide +kernel
theorem dX0_millOfSack_6 : decode cX0_millOfSack 6 = .ok (.ifnull 22, 3) := by decide +kernel
theorem dX0_millOfSack_9 : decode cX0_millOfSack 9 = .ok (.aload_n 2, 1) := by decide +kernel
theorem dX0_millOfSack_10 : decode cX0_millOfSack 10 = .ok (.iload_n 1, 1) := by decide +kernel
theorem dX0_millOfSack_11 : decode cX0_millOfSack 11 = .ok (.invokevirtual 67, 3) := by decide +kernel
theorem dX0_millOfSack_14 : decode cX0_millOfSack 14 = .ok (.iconst (-1), 1) := by decide +kernel
theorem dX0_millOfSack_15 : decode cX0_millOfSack 15 = .ok (.if_icmp .eq 5, 3) := by decide +kernel
theorem dX0_millOfSack_18 : decode cX0_millOfSack 18 = .ok (.aload_n 2, 1) := by decide +kernel
theorem dX0_millOfSack_19 : decode cX0_millOfSack 19 = .ok (.areturn, 1) := by decide +kernel
theorem dX0_millOfSack_20 : decode cX0_millOfSack 20 = .ok (.aload_n 2, 1) := by decide +kernel
theorem dX0_millOfSack_21 : decode cX0_millOfSack 21 = .ok (.getfield 61, 3) := by decide +kernel
theorem dX0_millOfSack_24 : decode cX0_millOfSack 24 = .ok (.astore_n 2, 1) := by decide +kernel
theorem dX0_millOfSack_25 : decode cX0_millOfSack 25 = .ok (.goto (-20), 3) := by decide +kernel
theorem dX0_millOfSack_28 : decode cX0_millOfSack 28 = .ok (.aconst_null, 1) := by decide +kernel
theorem dX0_millOfSack_29 : decode cX0_millOfSack 29 = .ok (.areturn, 1) := by decide +kernel
theorem dX0_settingAt_0 : decode cX0_settingAt 0 = .ok (.iload_n 1, 1) := by decide +kernel
theorem dX0_settingAt_1 : decode cX0_settingAt 1 = .ok (.lookupswitch 37 #[(0, 27), (1, 32)], 27) := by decide +kernel
theorem dX0_settingAt_28 : decode cX0_settingAt 28 = .ok (.aload_n 0, 1) := by decide +kernel
theorem dX0_settingAt_29 : decode cX0_settingAt 29 = .ok (.getfield 9, 3) := by decide +kernel
theorem dX0_settingAt_32 : decode cX0_settingAt 32 = .ok (.ireturn, 1) := by decide +kernel
theorem dX0_settingAt_33 : decode cX0_settingAt 33 = .ok (.aload_n 0, 1) := by decide +kernel
theorem dX0_settingAt_34 : decode cX0_settingAt 34 = .ok (.getfield 15, 3) := by decide +kernel
theorem dX0_settingAt_37 : decode cX0_settingAt 37 = .ok (.ireturn, 1) := by decide +kernel
theorem dX0_settingAt_38 : decode cX0_settingAt 38 = .ok (.aload_n 0, 1) := by decide +kernel
theorem dX0_settingAt_39 : decode cX0_settingAt 39 = .ok (.getfield 18, 3) := by decide +kernel
theorem dX0_settingAt_42 : decode cX0_settingAt 42 = .ok (.ireturn, 1) := by decide +kernel
theorem dX0_changeSetting_0 : decode cX0_changeSetting 0 = .ok (.iload_n 1, 1) := by decide +kernel
theorem dX0_changeSetting_1 : decode cX0_changeSetting 1 = .ok (.lookupswitch 43 #[(0, 27), (1, 35)], 27) := by decide +kernel
theorem dX0_changeSetting_28 : decode cX0_changeSetting 28 = .ok (.aload_n 0, 1) := by decide +kernel
theorem dX0_changeSetting_29 : decode cX0_changeSetting 29 = .ok (.iload_n 2, 1) := by decide +kernel
theorem dX0_changeSetting_30 : decode cX0_changeSetting 30 = .ok (.putfield 9, 3) := by decide +kernel
theorem dX0_changeSetting_33 : decode cX0_changeSetting 33 = .ok (.goto 16, 3) := by decide +kernel
theorem dX0_changeSetting_36 : decode cX0_changeSetting 36 = .ok (.aload_n 0, 1) := by decide +kernel
theorem dX0_changeSetting_37 : decode cX0_changeSetting 37 = .ok (.iload_n 2, 1) := by decide +kernel
theorem dX0_changeSetting_38 : decode cX0_changeSetting 38 = .ok (.putfield 15, 3) := by decide +kernel
theorem dX0_changeSetting_41 : decode cX0_changeSetting 41 = .ok (.goto 8, 3) := by decide +kernel
theorem dX0_changeSetting_44 : decode cX0_changeSetting 44 = .ok (.aload_n 0, 1) := by decide +kernel
theorem dX0_changeSetting_45 : decode cX0_changeSetting 45 = .ok (.iload_n 2, 1) := by decide +kernel
theorem dX0_changeSetting_46 : decode cX0_changeSetting 46 = .ok (.putfield 18, 3) := by decide +kernel
theorem dX0_changeSetting_49 : decode cX0_changeSetting 49 = .ok (.return_, 1) := by decide +kernel
theorem dX0_changeStone_0 : decode cX0_changeStone 0 = .ok (.aload_n 0, 1) := by decide +kernel
theorem dX0_changeStone_1 : decode cX0_changeStone 1 = .ok (.iload_n 1, 1) := by decide +kernel
theorem dX0_changeStone_2 : decode cX0_changeStone 2 = .ok (.invokevirtual 71, 3) := by decide +kernel
theorem dX0_changeStone_5 : decode cX0_changeStone 5 = .ok (.astore_n 3, 1) := by decide +kernel
theorem dX0_changeStone_6 : decode cX0_changeStone 6 = .ok (.aload_n 3, 1) := by decide +kernel
theorem dX0_changeStone_7 : decode cX0_changeStone 7 = .ok (.ifnull 8, 3) := by decide +kernel
theorem dX0_changeStone_10 : decode cX0_changeStone 10 = .ok (.aload_n 3, 1) := by decide +kernel
theorem dX0_changeStone_11 : decode cX0_changeStone 11 = .ok (.iload_n 2, 1) := by decide +kernel
theorem dX0_changeStone_12 : decode cX0_changeStone 12 = .ok (.putfield 75, 3) := by decide +kernel
theorem dX0_changeStone_15 : decode cX0_changeStone 15 = .ok (.return_, 1) := by decide +kernel
theorem dX0_tideIn_0 : decode cX0_tideIn 0 = .ok (.aload_n 0, 1) := by decide +kernel
theorem dX0_tideIn_1 : decode cX0_tideIn 1 = .ok (.getfield 9, 3) := by decide +kernel
theorem dX0_tideIn_4 : decode cX0_tideIn 4 = .ok (.bipush 6, 2) := by decide +kernel
theorem dX0_tideIn_6 : decode cX0_tideIn 6 = .ok (.iload_n 1, 1) := by decide +kernel
theorem dX0_tideIn_7 : decode cX0_tideIn 7 = .ok (.bipush 12, 2) := by decide +kernel
theorem dX0_tideIn_9 : decode cX0_tideIn 9 = .ok (.irem, 1) := by decide +kernel
theorem dX0_tideIn_10 : decode cX0_tideIn 10 = .ok (.isub, 1) := by decide +kernel
theorem dX0_tideIn_11 : decode cX0_tideIn 11 = .ok (.invokestatic 78, 3) := by decide +kernel
theorem dX0_tideIn_14 : decode cX0_tideIn 14 = .ok (.imul, 1) := by decide +kernel
theorem dX0_tideIn_15 : decode cX0_tideIn 15 = .ok (.ireturn, 1) := by decide +kernel
theorem dX0_waterInPonds_0 : decode cX0_waterInPonds 0 = .ok (.iconst 0, 1) := by decide +kernel
theorem dX0_waterInPonds_1 : decode cX0_waterInPonds 1 = .ok (.istore_n 1, 1) := by decide +kernel
theorem dX0_waterInPonds_2 : decode cX0_waterInPonds 2 = .ok (.aload_n 0, 1) := by decide +kernel
theorem dX0_waterInPonds_3 : decode cX0_waterInPonds 3 = .ok (.getfield 53, 3) := by decide +kernel
theorem dX0_waterInPonds_6 : decode cX0_waterInPonds 6 = .ok (.astore_n 2, 1) := by decide +kernel
theorem dX0_waterInPonds_7 : decode cX0_waterInPonds 7 = .ok (.aload_n 2, 1) := by decide +kernel
theorem dX0_waterInPonds_8 : decode cX0_waterInPonds 8 = .ok (.ifnull 18, 3) := by decide +kernel
theorem dX0_waterInPonds_11 : decode cX0_waterInPonds 11 = .ok (.iload_n 1, 1) := by decide +kernel
theorem dX0_waterInPonds_12 : decode cX0_waterInPonds 12 = .ok (.aload_n 2, 1) := by decide +kernel
theorem dX0_waterInPonds_13 : decode cX0_waterInPonds 13 = .ok (.getfield 83, 3) := by decide +kernel
theorem dX0_waterInPonds_16 : decode cX0_waterInPonds 16 = .ok (.iadd, 1) := by decide +kernel
theorem dX0_waterInPonds_17 : decode cX0_waterInPonds 17 = .ok (.istore_n 1, 1) := by decide +kernel
theorem dX0_waterInPonds_18 : decode cX0_waterInPonds 18 = .ok (.aload_n 2, 1) := by decide +kernel
theorem dX0_waterInPonds_19 : decode cX0_waterInPonds 19 = .ok (.getfield 61, 3) := by decide +kernel
theorem dX0_waterInPonds_22 : decode cX0_waterInPonds 22 = .ok (.astore_n 2, 1) := by decide +kernel
theorem dX0_waterInPonds_23 : decode cX0_waterInPonds 23 = .ok (.goto (-16), 3) := by decide +kernel
theorem dX0_waterInPonds_26 : decode cX0_waterInPonds 26 = .ok (.iload_n 1, 1) := by decide +kernel
theorem dX0_waterInPonds_27 : decode cX0_waterInPonds 27 = .ok (.ireturn, 1) := by decide +kernel
theorem dX0_sacksAtMills_0 : decode cX0_sacksAtMills 0 = .ok (.iconst 0, 1) := by decide +kernel
theorem dX0_sacksAtMills_1 : decode cX0_sacksAtMills 1 = .ok (.istore_n 1, 1) := by decide +kernel
theorem dX0_sacksAtMills_2 : decode cX0_sacksAtMills 2 = .ok (.aload_n 0, 1) := by decide +kernel
theorem dX0_sacksAtMills_3 : decode cX0_sacksAtMills 3 = .ok (.getfield 53, 3) := by decide +kernel
theorem dX0_sacksAtMills_6 : decode cX0_sacksAtMills 6 = .ok (.astore_n 2, 1) := by decide +kernel
theorem dX0_sacksAtMills_7 : decode cX0_sacksAtMills 7 = .ok (.aload_n 2, 1) := by decide +kernel
theorem dX0_sacksAtMills_8 : decode cX0_sacksAtMills 8 = .ok (.ifnull 18, 3) := by decide +kernel
theorem dX0_sacksAtMills_11 : decode cX0_sacksAtMills 11 = .ok (.iload_n 1, 1) := by decide +kernel
theorem dX0_sacksAtMills_12 : decode cX0_sacksAtMills 12 = .ok (.aload_n 2, 1) := by decide +kernel
theorem dX0_sacksAtMills_13 : decode cX0_sacksAtMills 13 = .ok (.getfield 86, 3) := by decide +kernel
theorem dX0_sacksAtMills_16 : decode cX0_sacksAtMills 16 = .ok (.iadd, 1) := by decide +kernel
theorem dX0_sacksAtMills_17 : decode cX0_sacksAtMills 17 = .ok (.istore_n 1, 1) := by decide +kernel
theorem dX0_sacksAtMills_18 : decode cX0_sacksAtMills 18 = .ok (.aload_n 2, 1) := by decide +kernel
theorem dX0_sacksAtMills_19 : decode cX0_sacksAtMills 19 = .ok (.getfield 61, 3) := by decide +kernel
theorem dX0_sacksAtMills_22 : decode cX0_sacksAtMills 22 = .ok (.astore_n 2, 1) := by decide +kernel
theorem dX0_sacksAtMills_23 : decode cX0_sacksAtMills 23 = .ok (.goto (-16), 3) := by decide +kernel
theorem dX0_sacksAtMills_26 : decode cX0_sacksAtMills 26 = .ok (.iload_n 1, 1) := by decide +kernel
theorem dX0_sacksAtMills_27 : decode cX0_sacksAtMills 27 = .ok (.ireturn, 1) := by decide +kernel
theorem dX0_restsOfAll_0 : decode cX0_restsOfAll 0 = .ok (.iconst 0, 1) := by decide +kernel
theorem dX0_restsOfAll_1 : decode cX0_restsOfAll 1 = .ok (.istore_n 1, 1) := by decide +kernel
theorem dX0_restsOfAll_2 : decode cX0_restsOfAll 2 = .ok (.aload_n 0, 1) := by decide +kernel
theorem dX0_restsOfAll_3 : decode cX0_restsOfAll 3 = .ok (.getfield 53, 3) := by decide +kernel
theorem dX0_restsOfAll_6 : decode cX0_restsOfAll 6 = .ok (.astore_n 2, 1) := by decide +kernel
theorem dX0_restsOfAll_7 : decode cX0_restsOfAll 7 = .ok (.aload_n 2, 1) := by decide +kernel
theorem dX0_restsOfAll_8 : decode cX0_restsOfAll 8 = .ok (.ifnull 35, 3) := by decide +kernel
theorem dX0_restsOfAll_11 : decode cX0_restsOfAll 11 = .ok (.iconst 0, 1) := by decide +kernel
theorem dX0_restsOfAll_12 : decode cX0_restsOfAll 12 = .ok (.istore_n 3, 1) := by decide +kernel
theorem dX0_restsOfAll_13 : decode cX0_restsOfAll 13 = .ok (.iload_n 3, 1) := by decide +kernel
theorem dX0_restsOfAll_14 : decode cX0_restsOfAll 14 = .ok (.aload_n 2, 1) := by decide +kernel
theorem dX0_restsOfAll_15 : decode cX0_restsOfAll 15 = .ok (.getfield 86, 3) := by decide +kernel
theorem dX0_restsOfAll_18 : decode cX0_restsOfAll 18 = .ok (.if_icmp .ge 17, 3) := by decide +kernel
theorem dX0_restsOfAll_21 : decode cX0_restsOfAll 21 = .ok (.iload_n 1, 1) := by decide +kernel
theorem dX0_restsOfAll_22 : decode cX0_restsOfAll 22 = .ok (.aload_n 2, 1) := by decide +kernel
theorem dX0_restsOfAll_23 : decode cX0_restsOfAll 23 = .ok (.iload_n 3, 1) := by decide +kernel
theorem dX0_restsOfAll_24 : decode cX0_restsOfAll 24 = .ok (.invokevirtual 89, 3) := by decide +kernel
theorem dX0_restsOfAll_27 : decode cX0_restsOfAll 27 = .ok (.iadd, 1) := by decide +kernel
theorem dX0_restsOfAll_28 : decode cX0_restsOfAll 28 = .ok (.istore_n 1, 1) := by decide +kernel
theorem dX0_restsOfAll_29 : decode cX0_restsOfAll 29 = .ok (.iinc 3 1, 3) := by decide +kernel
theorem dX0_restsOfAll_32 : decode cX0_restsOfAll 32 = .ok (.goto (-19), 3) := by decide +kernel
theorem dX0_restsOfAll_35 : decode cX0_restsOfAll 35 = .ok (.aload_n 2, 1) := by decide +kernel
theorem dX0_restsOfAll_36 : decode cX0_restsOfAll 36 = .ok (.getfield 61, 3) := by decide +kernel
theorem dX0_restsOfAll_39 : decode cX0_restsOfAll 39 = .ok (.astore_n 2, 1) := by decide +kernel
theorem dX0_restsOfAll_40 : decode cX0_restsOfAll 40 = .ok (.goto (-33), 3) := by decide +kernel
theorem dX0_restsOfAll_43 : decode cX0_restsOfAll 43 = .ok (.iload_n 1, 1) := by decide +kernel
theorem dX0_restsOfAll_44 : decode cX0_restsOfAll 44 = .ok (.ireturn, 1) := by decide +kernel
theorem dX0_hasRoomForSack_0 : decode cX0_hasRoomForSack 0 = .ok (.aload_n 1, 1) := by decide +kernel
theorem dX0_hasRoomForSack_1 : decode cX0_hasRoomForSack 1 = .ok (.getfield 86, 3) := by decide +kernel
theorem dX0_hasRoomForSack_4 : decode cX0_hasRoomForSack 4 = .ok (.bipush 6, 2) := by decide +kernel
theorem dX0_hasRoomForSack_6 : decode cX0_hasRoomForSack 6 = .ok (.if_icmp .ge 17, 3) := by decide +kernel
theorem dX0_hasRoomForSack_9 : decode cX0_hasRoomForSack 9 = .ok (.aload_n 0, 1) := by decide +kernel
theorem dX0_hasRoomForSack_10 : decode cX0_hasRoomForSack 10 = .ok (.getfield 36, 3) := by decide +kernel
theorem dX0_hasRoomForSack_13 : decode cX0_hasRoomForSack 13 = .ok (.sipush 999, 3) := by decide +kernel
theorem dX0_hasRoomForSack_16 : decode cX0_hasRoomForSack 16 = .ok (.if_icmp .ge 7, 3) := by decide +kernel
theorem dX0_hasRoomForSack_19 : decode cX0_hasRoomForSack 19 = .ok (.iconst 1, 1) := by decide +kernel
theorem dX0_hasRoomForSack_20 : decode cX0_hasRoomForSack 20 = .ok (.goto 4, 3) := by decide +kernel
theorem dX0_hasRoomForSack_23 : decode cX0_hasRoomForSack 23 = .ok (.iconst 0, 1) := by decide +kernel
theorem dX0_hasRoomForSack_24 : decode cX0_hasRoomForSack 24 = .ok (.ireturn, 1) := by decide +kernel
theorem dX0_bringSack_0 : decode cX0_bringSack 0 = .ok (.aload_n 0, 1) := by decide +kernel
theorem dX0_bringSack_1 : decode cX0_bringSack 1 = .ok (.aload_n 1, 1) := by decide +kernel
theorem dX0_bringSack_2 : decode cX0_bringSack 2 = .ok (.invokevirtual 92, 3) := by decide +kernel
theorem dX0_bringSack_5 : decode cX0_bringSack 5 = .ok (.ifCond .ne 5, 3) := by decide +kernel
theorem dX0_bringSack_8 : decode cX0_bringSack 8 = .ok (.iconst (-1), 1) := by decide +kernel
theorem dX0_bringSack_9 : decode cX0_bringSack 9 = .ok (.ireturn, 1) := by decide +kernel
theorem dX0_bringSack_10 : decode cX0_bringSack 10 = .ok (.aload_n 0, 1) := by decide +kernel
theorem dX0_bringSack_11 : decode cX0_bringSack 11 = .ok (.getfield 36, 3) := by decide +kernel
theorem dX0_bringSack_14 : decode cX0_bringSack 14 = .ok (.istore 4, 2) := by decide +kernel
theorem dX0_bringSack_16 : decode cX0_bringSack 16 = .ok (.aload_n 1, 1) := by decide +kernel
theorem dX0_bringSack_17 : decode cX0_bringSack 17 = .ok (.iload 4, 2) := by decide +kernel
theorem dX0_bringSack_19 : decode cX0_bringSack 19 = .ok (.iload_n 2, 1) := by decide +kernel
theorem dX0_bringSack_20 : decode cX0_bringSack 20 = .ok (.iload_n 2, 1) := by decide +kernel
theorem dX0_bringSack_21 : decode cX0_bringSack 21 = .ok (.iload_n 3, 1) := by decide +kernel
theorem dX0_bringSack_22 : decode cX0_bringSack 22 = .ok (.invokevirtual 96, 3) := by decide +kernel
theorem dX0_bringSack_25 : decode cX0_bringSack 25 = .ok (.pop, 1) := by decide +kernel
theorem dX0_bringSack_26 : decode cX0_bringSack 26 = .ok (.aload_n 0, 1) := by decide +kernel
theorem dX0_bringSack_27 : decode cX0_bringSack 27 = .ok (.dup, 1) := by decide +kernel
theorem dX0_bringSack_28 : decode cX0_bringSack 28 = .ok (.getfield 36, 3) := by decide +kernel
theorem dX0_bringSack_31 : decode cX0_bringSack 31 = .ok (.iconst 1, 1) := by decide +kernel
theorem dX0_bringSack_32 : decode cX0_bringSack 32 = .ok (.iadd, 1) := by decide +kernel
theorem dX0_bringSack_33 : decode cX0_bringSack 33 = .ok (.putfield 36, 3) := by decide +kernel
theorem dX0_bringSack_36 : decode cX0_bringSack 36 = .ok (.iload 4, 2) := by decide +kernel
theorem dX0_bringSack_38 : decode cX0_bringSack 38 = .ok (.ireturn, 1) := by decide +kernel
theorem dX0_reasonToRest_0 : decode cX0_reasonToRest 0 = .ok (.aload_n 1, 1) := by decide +kernel
theorem dX0_reasonToRest_1 : decode cX0_reasonToRest 1 = .ok (.getfield 86, 3) := by decide +kernel
theorem dX0_reasonToRest_4 : decode cX0_reasonToRest 4 = .ok (.ifCond .ne 5, 3) := by decide +kernel
theorem dX0_reasonToRest_7 : decode cX0_reasonToRest 7 = .ok (.iconst 1, 1) := by decide +kernel
theorem dX0_reasonToRest_8 : decode cX0_reasonToRest 8 = .ok (.ireturn, 1) := by decide +kernel
theorem dX0_reasonToRest_9 : decode cX0_reasonToRest 9 = .ok (.aload_n 1, 1) := by decide +kernel
theorem dX0_reasonToRest_10 : decode cX0_reasonToRest 10 = .ok (.aload_n 0, 1) := by decide +kernel
theorem dX0_reasonToRest_11 : decode cX0_reasonToRest 11 = .ok (.aload_n 0, 1) := by decide +kernel
theorem dX0_reasonToRest_12 : decode cX0_reasonToRest 12 = .ok (.getfield 21, 3) := by decide +kernel
theorem dX0_reasonToRest_15 : decode cX0_reasonToRest 15 = .ok (.invokevirtual 100, 3) := by decide +kernel
theorem dX0_reasonToRest_18 : decode cX0_reasonToRest 18 = .ok (.invokevirtual 103, 3) := by decide +kernel
theorem dX0_reasonToRest_21 : decode cX0_reasonToRest 21 = .ok (.aload_n 0, 1) := by decide +kernel
theorem dX0_reasonToRest_22 : decode cX0_reasonToRest 22 = .ok (.getfield 15, 3) := by decide +kernel
theorem dX0_reasonToRest_25 : decode cX0_reasonToRest 25 = .ok (.if_icmp .ge 5, 3) := by decide +kernel
theorem dX0_reasonToRest_28 : decode cX0_reasonToRest 28 = .ok (.iconst 2, 1) := by decide +kernel
theorem dX0_reasonToRest_29 : decode cX0_reasonToRest 29 = .ok (.ireturn, 1) := by decide +kernel
theorem dX0_reasonToRest_30 : decode cX0_reasonToRest 30 = .ok (.aload_n 1, 1) := by decide +kernel
theorem dX0_reasonToRest_31 : decode cX0_reasonToRest 31 = .ok (.getfield 83, 3) := by decide +kernel
theorem dX0_reasonToRest_34 : decode cX0_reasonToRest 34 = .ok (.aload_n 0, 1) := by decide +kernel
theorem dX0_reasonToRest_35 : decode cX0_reasonToRest 35 = .ok (.getfield 18, 3) := by decide +kernel
theorem dX0_reasonToRest_38 : decode cX0_reasonToRest 38 = .ok (.if_icmp .ge 7, 3) := by decide +kernel
theorem dX0_reasonToRest_41 : decode cX0_reasonToRest 41 = .ok (.iconst 3, 1) := by decide +kernel
theorem dX0_reasonToRest_42 : decode cX0_reasonToRest 42 = .ok (.goto 4, 3) := by decide +kernel
theorem dX0_reasonToRest_45 : decode cX0_reasonToRest 45 = .ok (.iconst 0, 1) := by decide +kernel
theorem dX0_reasonToRest_46 : decode cX0_reasonToRest 46 = .ok (.ireturn, 1) := by decide +kernel
theorem dX0_turnsAheadOf_0 : decode cX0_turnsAheadOf 0 = .ok (.aload_n 1, 1) := by decide +kernel
theorem dX0_turnsAheadOf_1 : decode cX0_turnsAheadOf 1 = .ok (.invokevirtual 106, 3) := by decide +kernel
theorem dX0_turnsAheadOf_4 : decode cX0_turnsAheadOf 4 = .ok (.istore_n 3, 1) := by decide +kernel
theorem dX0_turnsAheadOf_5 : decode cX0_turnsAheadOf 5 = .ok (.aload_n 2, 1) := by decide +kernel
theorem dX0_turnsAheadOf_6 : decode cX0_turnsAheadOf 6 = .ok (.invokevirtual 106, 3) := by decide +kernel
theorem dX0_turnsAheadOf_9 : decode cX0_turnsAheadOf 9 = .ok (.istore 4, 2) := by decide +kernel
theorem dX0_turnsAheadOf_11 : decode cX0_turnsAheadOf 11 = .ok (.iload_n 3, 1) := by decide +kernel
theorem dX0_turnsAheadOf_12 : decode cX0_turnsAheadOf 12 = .ok (.iload 4, 2) := by decide +kernel
theorem dX0_turnsAheadOf_14 : decode cX0_turnsAheadOf 14 = .ok (.if_icmp .eq 15, 3) := by decide +kernel
theorem dX0_turnsAheadOf_17 : decode cX0_turnsAheadOf 17 = .ok (.iload_n 3, 1) := by decide +kernel
theorem dX0_turnsAheadOf_18 : decode cX0_turnsAheadOf 18 = .ok (.iload 4, 2) := by decide +kernel
theorem dX0_turnsAheadOf_20 : decode cX0_turnsAheadOf 20 = .ok (.if_icmp .ge 7, 3) := by decide +kernel
theorem dX0_turnsAheadOf_23 : decode cX0_turnsAheadOf 23 = .ok (.iconst 1, 1) := by decide +kernel
theorem dX0_turnsAheadOf_24 : decode cX0_turnsAheadOf 24 = .ok (.goto 4, 3) := by decide +kernel
theorem dX0_turnsAheadOf_27 : decode cX0_turnsAheadOf 27 = .ok (.iconst 0, 1) := by decide +kernel
theorem dX0_turnsAheadOf_28 : decode cX0_turnsAheadOf 28 = .ok (.ireturn, 1) := by decide +kernel
theorem dX0_turnsAheadOf_29 : decode cX0_turnsAheadOf 29 = .ok (.aload_n 0, 1) := by decide +kernel
theorem dX0_turnsAheadOf_30 : decode cX0_turnsAheadOf 30 = .ok (.aload_n 0, 1) := by decide +kernel
theorem dX0_turnsAheadOf_31 : decode cX0_turnsAheadOf 31 = .ok (.getfield 21, 3) := by decide +kernel
theorem dX0_turnsAheadOf_34 : decode cX0_turnsAheadOf 34 = .ok (.invokevirtual 100, 3) := by decide +kernel
theorem dX0_turnsAheadOf_37 : decode cX0_turnsAheadOf 37 = .ok (.istore 5, 2) := by decide +kernel
theorem dX0_turnsAheadOf_39 : decode cX0_turnsAheadOf 39 = .ok (.aload_n 1, 1) := by decide +kernel
theorem dX0_turnsAheadOf_40 : decode cX0_turnsAheadOf 40 = .ok (.iload 5, 2) := by decide +kernel
theorem dX0_turnsAheadOf_42 : decode cX0_turnsAheadOf 42 = .ok (.invokevirtual 103, 3) := by decide +kernel
theorem dX0_turnsAheadOf_45 : decode cX0_turnsAheadOf 45 = .ok (.istore 6, 2) := by decide +kernel
theorem dX0_turnsAheadOf_47 : decode cX0_turnsAheadOf 47 = .ok (.aload_n 2, 1) := by decide +kernel
theorem dX0_turnsAheadOf_48 : decode cX0_turnsAheadOf 48 = .ok (.iload 5, 2) := by decide +kernel
theorem dX0_turnsAheadOf_50 : decode cX0_turnsAheadOf 50 = .ok (.invokevirtual 103, 3) := by decide +kernel
theorem dX0_turnsAheadOf_53 : decode cX0_turnsAheadOf 53 = .ok (.istore 7, 2) := by decide +kernel
theorem dX0_turnsAheadOf_55 : decode cX0_turnsAheadOf 55 = .ok (.iload 6, 2) := by decide +kernel
theorem dX0_turnsAheadOf_57 : decode cX0_turnsAheadOf 57 = .ok (.iload 7, 2) := by decide +kernel
theorem dX0_turnsAheadOf_59 : decode cX0_turnsAheadOf 59 = .ok (.if_icmp .ne 22, 3) := by decide +kernel
theorem dX0_turnsAheadOf_62 : decode cX0_turnsAheadOf 62 = .ok (.aload_n 1, 1) := by decide +kernel
theorem dX0_turnsAheadOf_63 : decode cX0_turnsAheadOf 63 = .ok (.getfield 64, 3) := by decide +kernel
theorem dX0_turnsAheadOf_66 : decode cX0_turnsAheadOf 66 = .ok (.aload_n 2, 1) := by decide +kernel
theorem dX0_turnsAheadOf_67 : decode cX0_turnsAheadOf 67 = .ok (.getfield 64, 3) := by decide +kernel
theorem dX0_turnsAheadOf_70 : decode cX0_turnsAheadOf 70 = .ok (.if_icmp .ge 7, 3) := by decide +kernel
theorem dX0_turnsAheadOf_73 : decode cX0_turnsAheadOf 73 = .ok (.iconst 1, 1) := by decide +kernel
theorem dX0_turnsAheadOf_74 : decode cX0_turnsAheadOf 74 = .ok (.goto 19, 3) := by decide +kernel
theorem dX0_turnsAheadOf_77 : decode cX0_turnsAheadOf 77 = .ok (.iconst 0, 1) := by decide +kernel
theorem dX0_turnsAheadOf_78 : decode cX0_turnsAheadOf 78 = .ok (.goto 15, 3) := by decide +kernel
theorem dX0_turnsAheadOf_81 : decode cX0_turnsAheadOf 81 = .ok (.iload 6, 2) := by decide +kernel
theorem dX0_turnsAheadOf_83 : decode cX0_turnsAheadOf 83 = .ok (.iload 7, 2) := by decide +kernel
theorem dX0_turnsAheadOf_85 : decode cX0_turnsAheadOf 85 = .ok (.if_icmp .le 7, 3) := by decide +kernel
theorem dX0_turnsAheadOf_88 : decode cX0_turnsAheadOf 88 = .ok (.iconst 1, 1) := by decide +kernel
theorem dX0_turnsAheadOf_89 : decode cX0_turnsAheadOf 89 = .ok (.goto 4, 3) := by decide +kernel
theorem dX0_turnsAheadOf_92 : decode cX0_turnsAheadOf 92 = .ok (.iconst 0, 1) := by decide +kernel
theorem dX0_turnsAheadOf_93 : decode cX0_turnsAheadOf 93 = .ok (.ireturn, 1) := by decide +kernel
theorem dX0_millBehind_0 : decode cX0_millBehind 0 = .ok (.aconst_null, 1) := by decide +kernel
theorem dX0_millBehind_1 : decode cX0_millBehind 1 = .ok (.astore_n 2, 1) := by decide +kernel
theorem dX0_millBehind_2 : decode cX0_millBehind 2 = .ok (.aload_n 0, 1) := by decide +kernel
theorem dX0_millBehind_3 : decode cX0_millBehind 3 = .ok (.getfield 53, 3) := by decide +kernel
theorem dX0_millBehind_6 : decode cX0_millBehind 6 = .ok (.astore_n 3, 1) := by decide +kernel
theorem dX0_millBehind_7 : decode cX0_millBehind 7 = .ok (.aload_n 3, 1) := by decide +kernel
theorem dX0_millBehind_8 : decode cX0_millBehind 8 = .ok (.ifnull 59, 3) := by decide +kernel
theorem dX0_millBehind_11 : decode cX0_millBehind 11 = .ok (.aload_n 0, 1) := by decide +kernel
theorem dX0_millBehind_12 : decode cX0_millBehind 12 = .ok (.aload_n 3, 1) := by decide +kernel
theorem dX0_millBehind_13 : decode cX0_millBehind 13 = .ok (.invokevirtual 110, 3) := by decide +kernel
theorem dX0_millBehind_16 : decode cX0_millBehind 16 = .ok (.ifCond .ne 20, 3) := by decide +kernel
theorem dX0_millBehind_19 : decode cX0_millBehind 19 = .ok (.aload_n 1, 1) := by decide +kernel
theorem dX0_millBehind_20 : decode cX0_millBehind 20 = .ok (.ifnull 12, 3) := by decide +kernel
theorem dX0_millBehind_23 : decode cX0_millBehind 23 = .ok (.aload_n 0, 1) := by decide +kernel
theorem dX0_millBehind_24 : decode cX0_millBehind 24 = .ok (.aload_n 1, 1) := by decide +kernel
theorem dX0_millBehind_25 : decode cX0_millBehind 25 = .ok (.aload_n 3, 1) := by decide +kernel
theorem dX0_millBehind_26 : decode cX0_millBehind 26 = .ok (.invokevirtual 114, 3) := by decide +kernel
theorem dX0_millBehind_29 : decode cX0_millBehind 29 = .ok (.ifCond .eq 7, 3) := by decide +kernel
theorem dX0_millBehind_32 : decode cX0_millBehind 32 = .ok (.iconst 1, 1) := by decide +kernel
theorem dX0_millBehind_33 : decode cX0_millBehind 33 = .ok (.goto 4, 3) := by decide +kernel
theorem dX0_millBehind_36 : decode cX0_millBehind 36 = .ok (.iconst 0, 1) := by decide +kernel
theorem dX0_millBehind_37 : decode cX0_millBehind 37 = .ok (.istore 4, 2) := by decide +kernel
theorem dX0_millBehind_39 : decode cX0_millBehind 39 = .ok (.iload 4, 2) := by decide +kernel
theorem dX0_millBehind_41 : decode cX0_millBehind 41 = .ok (.ifCond .eq 18, 3) := by decide +kernel
theorem dX0_millBehind_44 : decode cX0_millBehind 44 = .ok (.aload_n 2, 1) := by decide +kernel
theorem dX0_millBehind_45 : decode cX0_millBehind 45 = .ok (.ifnull 12, 3) := by decide +kernel
theorem dX0_millBehind_48 : decode cX0_millBehind 48 = .ok (.aload_n 0, 1) := by decide +kernel
theorem dX0_millBehind_49 : decode cX0_millBehind 49 = .ok (.aload_n 3, 1) := by decide +kernel
theorem dX0_millBehind_50 : decode cX0_millBehind 50 = .ok (.aload_n 2, 1) := by decide +kernel
theorem dX0_millBehind_51 : decode cX0_millBehind 51 = .ok (.invokevirtual 114, 3) := by decide +kernel
theorem dX0_millBehind_54 : decode cX0_millBehind 54 = .ok (.ifCond .eq 5, 3) := by decide +kernel
theorem dX0_millBehind_57 : decode cX0_millBehind 57 = .ok (.aload_n 3, 1) := by decide +kernel
theorem dX0_millBehind_58 : decode cX0_millBehind 58 = .ok (.astore_n 2, 1) := by decide +kernel
theorem dX0_millBehind_59 : decode cX0_millBehind 59 = .ok (.aload_n 3, 1) := by decide +kernel
theorem dX0_millBehind_60 : decode cX0_millBehind 60 = .ok (.getfield 61, 3) := by decide +kernel
theorem dX0_millBehind_63 : decode cX0_millBehind 63 = .ok (.astore_n 3, 1) := by decide +kernel
theorem dX0_millBehind_64 : decode cX0_millBehind 64 = .ok (.goto (-57), 3) := by decide +kernel
theorem dX0_millBehind_67 : decode cX0_millBehind 67 = .ok (.aload_n 2, 1) := by decide +kernel
theorem dX0_millBehind_68 : decode cX0_millBehind 68 = .ok (.areturn, 1) := by decide +kernel
theorem dX0_millAheadOfAll_0 : decode cX0_millAheadOfAll 0 = .ok (.aload_n 0, 1) := by decide +kernel
theorem dX0_millAheadOfAll_1 : decode cX0_millAheadOfAll 1 = .ok (.getfield 53, 3) := by decide +kernel
theorem dX0_millAheadOfAll_4 : decode cX0_millAheadOfAll 4 = .ok (.astore_n 1, 1) := by decide +kernel
theorem dX0_millAheadOfAll_5 : decode cX0_millAheadOfAll 5 = .ok (.aload_n 1, 1) := by decide +kernel
theorem dX0_millAheadOfAll_6 : decode cX0_millAheadOfAll 6 = .ok (.ifnull 29, 3) := by decide +kernel
theorem dX0_millAheadOfAll_9 : decode cX0_millAheadOfAll 9 = .ok (.aload_n 0, 1) := by decide +kernel
theorem dX0_millAheadOfAll_10 : decode cX0_millAheadOfAll 10 = .ok (.aload_n 1, 1) := by decide +kernel
theorem dX0_millAheadOfAll_11 : decode cX0_millAheadOfAll 11 = .ok (.invokevirtual 110, 3) := by decide +kernel
theorem dX0_millAheadOfAll_14 : decode cX0_millAheadOfAll 14 = .ok (.ifCond .ne 13, 3) := by decide +kernel
theorem dX0_millAheadOfAll_17 : decode cX0_millAheadOfAll 17 = .ok (.aload_n 0, 1) := by decide +kernel
theorem dX0_millAheadOfAll_18 : decode cX0_millAheadOfAll 18 = .ok (.aload_n 1, 1) := by decide +kernel
theorem dX0_millAheadOfAll_19 : decode cX0_millAheadOfAll 19 = .ok (.invokevirtual 118, 3) := by decide +kernel
theorem dX0_millAheadOfAll_22 : decode cX0_millAheadOfAll 22 = .ok (.ifCond .eq 5, 3) := by decide +kernel
theorem dX0_millAheadOfAll_25 : decode cX0_millAheadOfAll 25 = .ok (.aload_n 1, 1) := by decide +kernel
theorem dX0_millAheadOfAll_26 : decode cX0_millAheadOfAll 26 = .ok (.areturn, 1) := by decide +kernel
theorem dX0_millAheadOfAll_27 : decode cX0_millAheadOfAll 27 = .ok (.aload_n 1, 1) := by decide +kernel
theorem dX0_millAheadOfAll_28 : decode cX0_millAheadOfAll 28 = .ok (.getfield 61, 3) := by decide +kernel
theorem dX0_millAheadOfAll_31 : decode cX0_millAheadOfAll 31 = .ok (.astore_n 1, 1) := by decide +kernel
theorem dX0_millAheadOfAll_32 : decode cX0_millAheadOfAll 32 = .ok (.goto (-27), 3) := by decide +kernel
theorem dX0_millAheadOfAll_35 : decode cX0_millAheadOfAll 35 = .ok (.aconst_null, 1) := by decide +kernel
theorem dX0_millAheadOfAll_36 : decode cX0_millAheadOfAll 36 = .ok (.areturn, 1) := by decide +kernel
theorem dX0_isAheadOfAllOthers_0 : decode cX0_isAheadOfAllOthers 0 = .ok (.aload_n 0, 1) := by decide +kernel
theorem dX0_isAheadOfAllOthers_1 : decode cX0_isAheadOfAllOthers 1 = .ok (.getfield 53, 3) := by decide +kernel
theorem dX0_isAheadOfAllOthers_4 : decode cX0_isAheadOfAllOthers 4 = .ok (.astore_n 2, 1) := by decide +kernel
theorem dX0_isAheadOfAllOthers_5 : decode cX0_isAheadOfAllOthers 5 = .ok (.aload_n 2, 1) := by decide +kernel
theorem dX0_isAheadOfAllOthers_6 : decode cX0_isAheadOfAllOthers 6 = .ok (.ifnull 35, 3) := by decide +kernel
theorem dX0_isAheadOfAllOthers_9 : decode cX0_isAheadOfAllOthers 9 = .ok (.aload_n 2, 1) := by decide +kernel
theorem dX0_isAheadOfAllOthers_10 : decode cX0_isAheadOfAllOthers 10 = .ok (.aload_n 1, 1) := by decide +kernel
theorem dX0_isAheadOfAllOthers_11 : decode cX0_isAheadOfAllOthers 11 = .ok (.if_acmp .eq 22, 3) := by decide +kernel
theorem dX0_isAheadOfAllOthers_14 : decode cX0_isAheadOfAllOthers 14 = .ok (.aload_n 0, 1) := by decide +kernel
theorem dX0_isAheadOfAllOthers_15 : decode cX0_isAheadOfAllOthers 15 = .ok (.aload_n 2, 1) := by decide +kernel
theorem dX0_isAheadOfAllOthers_16 : decode cX0_isAheadOfAllOthers 16 = .ok (.invokevirtual 110, 3) := by decide +kernel
theorem dX0_isAheadOfAllOthers_19 : decode cX0_isAheadOfAllOthers 19 = .ok (.ifCond .ne 14, 3) := by decide +kernel
theorem dX0_isAheadOfAllOthers_22 : decode cX0_isAheadOfAllOthers 22 = .ok (.aload_n 0, 1) := by decide +kernel
theorem dX0_isAheadOfAllOthers_23 : decode cX0_isAheadOfAllOthers 23 = .ok (.aload_n 2, 1) := by decide +kernel
theorem dX0_isAheadOfAllOthers_24 : decode cX0_isAheadOfAllOthers 24 = .ok (.aload_n 1, 1) := by decide +kernel
theorem dX0_isAheadOfAllOthers_25 : decode cX0_isAheadOfAllOthers 25 = .ok (.invokevirtual 114, 3) := by decide +kernel
theorem dX0_isAheadOfAllOthers_28 : decode cX0_isAheadOfAllOthers 28 = .ok (.ifCond .eq 5, 3) := by decide +kernel
theorem dX0_isAheadOfAllOthers_31 : decode cX0_isAheadOfAllOthers 31 = .ok (.iconst 0, 1) := by decide +kernel
theorem dX0_isAheadOfAllOthers_32 : decode cX0_isAheadOfAllOthers 32 = .ok (.ireturn, 1) := by decide +kernel
theorem dX0_isAheadOfAllOthers_33 : decode cX0_isAheadOfAllOthers 33 = .ok (.aload_n 2, 1) := by decide +kernel
theorem dX0_isAheadOfAllOthers_34 : decode cX0_isAheadOfAllOthers 34 = .ok (.getfield 61, 3) := by decide +kernel
theorem dX0_isAheadOfAllOthers_37 : decode cX0_isAheadOfAllOthers 37 = .ok (.astore_n 2, 1) := by decide +kernel
theorem dX0_isAheadOfAllOthers_38 : decode cX0_isAheadOfAllOthers 38 = .ok (.goto (-33), 3) := by decide +kernel
theorem dX0_isAheadOfAllOthers_41 : decode cX0_isAheadOfAllOthers 41 = .ok (.iconst 1, 1) := by decide +kernel
theorem dX0_isAheadOfAllOthers_42 : decode cX0_isAheadOfAllOthers 42 = .ok (.ireturn, 1) := by decide +kernel
theorem dX0_passHours_0 : decode cX0_passHours 0 = .ok (.iconst 0, 1) := by decide +kernel
theorem dX0_passHours_1 : decode cX0_passHours 1 = .ok (.istore_n 2, 1) := by decide +kernel
theorem dX0_passHours_2 : decode cX0_passHours 2 = .ok (.iload_n 2, 1) := by decide +kernel
theorem dX0_passHours_3 : decode cX0_passHours 3 = .ok (.iload_n 1, 1) := by decide +kernel
theorem dX0_passHours_4 : decode cX0_passHours 4 = .ok (.if_icmp .ge 64, 3) := by decide +kernel
theorem dX0_passHours_7 : decode cX0_passHours 7 = .ok (.aload_n 0, 1) := by decide +kernel
theorem dX0_passHours_8 : decode cX0_passHours 8 = .ok (.dup, 1) := by decide +kernel
theorem dX0_passHours_9 : decode cX0_passHours 9 = .ok (.getfield 21, 3) := by decide +kernel
theorem dX0_passHours_12 : decode cX0_passHours 12 = .ok (.iconst 1, 1) := by decide +kernel
theorem dX0_passHours_13 : decode cX0_passHours 13 = .ok (.iadd, 1) := by decide +kernel
theorem dX0_passHours_14 : decode cX0_passHours 14 = .ok (.putfield 21, 3) := by decide +kernel
theorem dX0_passHours_17 : decode cX0_passHours 17 = .ok (.aload_n 0, 1) := by decide +kernel
theorem dX0_passHours_18 : decode cX0_passHours 18 = .ok (.invokevirtual 121, 3) := by decide +kernel
theorem dX0_passHours_21 : decode cX0_passHours 21 = .ok (.aload_n 0, 1) := by decide +kernel
theorem dX0_passHours_22 : decode cX0_passHours 22 = .ok (.aconst_null, 1) := by decide +kernel
theorem dX0_passHours_23 : decode cX0_passHours 23 = .ok (.invokevirtual 124, 3) := by decide +kernel
theorem dX0_passHours_26 : decode cX0_passHours 26 = .ok (.astore_n 3, 1) := by decide +kernel
theorem dX0_passHours_27 : decode cX0_passHours 27 = .ok (.aload_n 0, 1) := by decide +kernel
theorem dX0_passHours_28 : decode cX0_passHours 28 = .ok (.aload_n 3, 1) := by decide +kernel
theorem dX0_passHours_29 : decode cX0_passHours 29 = .ok (.invokestatic 128, 3) := by decide +kernel
theorem dX0_passHours_32 : decode cX0_passHours 32 = .ok (.putfield 24, 3) := by decide +kernel
theorem dX0_passHours_35 : decode cX0_passHours 35 = .ok (.aload_n 3, 1) := by decide +kernel
theorem dX0_passHours_36 : decode cX0_passHours 36 = .ok (.ifnonnull 16, 3) := by decide +kernel
theorem dX0_passHours_39 : decode cX0_passHours 39 = .ok (.aload_n 0, 1) := by decide +kernel
theorem dX0_passHours_40 : decode cX0_passHours 40 = .ok (.dup, 1) := by decide +kernel
theorem dX0_passHours_41 : decode cX0_passHours 41 = .ok (.getfield 27, 3) := by decide +kernel
theorem dX0_passHours_44 : decode cX0_passHours 44 = .ok (.iconst 1, 1) := by decide +kernel
theorem dX0_passHours_45 : decode cX0_passHours 45 = .ok (.iadd, 1) := by decide +kernel
theorem dX0_passHours_46 : decode cX0_passHours 46 = .ok (.putfield 27, 3) := by decide +kernel
theorem dX0_passHours_49 : decode cX0_passHours 49 = .ok (.goto 13, 3) := by decide +kernel
theorem dX0_passHours_52 : decode cX0_passHours 52 = .ok (.aload_n 0, 1) := by decide +kernel
theorem dX0_passHours_53 : decode cX0_passHours 53 = .ok (.aload_n 3, 1) := by decide +kernel
theorem dX0_passHours_54 : decode cX0_passHours 54 = .ok (.aload_n 0, 1) := by decide +kernel
theorem dX0_passHours_55 : decode cX0_passHours 55 = .ok (.aload_n 3, 1) := by decide +kernel
theorem dX0_passHours_56 : decode cX0_passHours 56 = .ok (.invokevirtual 131, 3) := by decide +kernel
theorem dX0_passHours_59 : decode cX0_passHours 59 = .ok (.invokevirtual 134, 3) := by decide +kernel
theorem dX0_passHours_62 : decode cX0_passHours 62 = .ok (.iinc 2 1, 3) := by decide +kernel
theorem dX0_passHours_65 : decode cX0_passHours 65 = .ok (.goto (-63), 3) := by decide +kernel
theorem dX0_passHours_68 : decode cX0_passHours 68 = .ok (.return_, 1) := by decide +kernel
theorem dX0_letWaterIn_0 : decode cX0_letWaterIn 0 = .ok (.aload_n 0, 1) := by decide +kernel
theorem dX0_letWaterIn_1 : decode cX0_letWaterIn 1 = .ok (.aload_n 0, 1) := by decide +kernel
theorem dX0_letWaterIn_2 : decode cX0_letWaterIn 2 = .ok (.getfield 21, 3) := by decide +kernel
theorem dX0_letWaterIn_5 : decode cX0_letWaterIn 5 = .ok (.invokevirtual 100, 3) := by decide +kernel
theorem dX0_letWaterIn_8 : decode cX0_letWaterIn 8 = .ok (.istore_n 1, 1) := by decide +kernel
theorem dX0_letWaterIn_9 : decode cX0_letWaterIn 9 = .ok (.aload_n 0, 1) := by decide +kernel
theorem dX0_letWaterIn_10 : decode cX0_letWaterIn 10 = .ok (.getfield 53, 3) := by decide +kernel
theorem dX0_letWaterIn_13 : decode cX0_letWaterIn 13 = .ok (.astore_n 2, 1) := by decide +kernel
theorem dX0_letWaterIn_14 : decode cX0_letWaterIn 14 = .ok (.aload_n 2, 1) := by decide +kernel
theorem dX0_letWaterIn_15 : decode cX0_letWaterIn 15 = .ok (.ifnull 29, 3) := by decide +kernel
theorem dX0_letWaterIn_18 : decode cX0_letWaterIn 18 = .ok (.aload_n 0, 1) := by decide +kernel
theorem dX0_letWaterIn_19 : decode cX0_letWaterIn 19 = .ok (.dup, 1) := by decide +kernel
theorem dX0_letWaterIn_20 : decode cX0_letWaterIn 20 = .ok (.getfield 30, 3) := by decide +kernel
theorem dX0_letWaterIn_23 : decode cX0_letWaterIn 23 = .ok (.aload_n 2, 1) := by decide +kernel
theorem dX0_letWaterIn_24 : decode cX0_letWaterIn 24 = .ok (.aload_n 0, 1) := by decide +kernel
theorem dX0_letWaterIn_25 : decode cX0_letWaterIn 25 = .ok (.getfield 21, 3) := by decide +kernel
theorem dX0_letWaterIn_28 : decode cX0_letWaterIn 28 = .ok (.iload_n 1, 1) := by decide +kernel
theorem dX0_letWaterIn_29 : decode cX0_letWaterIn 29 = .ok (.invokevirtual 138, 3) := by decide +kernel
theorem dX0_letWaterIn_32 : decode cX0_letWaterIn 32 = .ok (.iadd, 1) := by decide +kernel
theorem dX0_letWaterIn_33 : decode cX0_letWaterIn 33 = .ok (.putfield 30, 3) := by decide +kernel
theorem dX0_letWaterIn_36 : decode cX0_letWaterIn 36 = .ok (.aload_n 2, 1) := by decide +kernel
theorem dX0_letWaterIn_37 : decode cX0_letWaterIn 37 = .ok (.getfield 61, 3) := by decide +kernel
theorem dX0_letWaterIn_40 : decode cX0_letWaterIn 40 = .ok (.astore_n 2, 1) := by decide +kernel
theorem dX0_letWaterIn_41 : decode cX0_letWaterIn 41 = .ok (.goto (-27), 3) := by decide +kernel
theorem dX0_letWaterIn_44 : decode cX0_letWaterIn 44 = .ok (.return_, 1) := by decide +kernel
theorem dX0_turn_0 : decode cX0_turn 0 = .ok (.aload_n 1, 1) := by decide +kernel
theorem dX0_turn_1 : decode cX0_turn 1 = .ok (.aload_n 1, 1) := by decide +kernel
theorem dX0_turn_2 : decode cX0_turn 2 = .ok (.aload_n 0, 1) := by decide +kernel
theorem dX0_turn_3 : decode cX0_turn 3 = .ok (.aload_n 0, 1) := by decide +kernel
theorem dX0_turn_4 : decode cX0_turn 4 = .ok (.getfield 21, 3) := by decide +kernel
theorem dX0_turn_7 : decode cX0_turn 7 = .ok (.invokevirtual 100, 3) := by decide +kernel
theorem dX0_turn_10 : decode cX0_turn 10 = .ok (.invokevirtual 103, 3) := by decide +kernel
theorem dX0_turn_13 : decode cX0_turn 13 = .ok (.invokevirtual 142, 3) := by decide +kernel
theorem dX0_turn_16 : decode cX0_turn 16 = .ok (.istore_n 2, 1) := by decide +kernel
theorem dX0_turn_17 : decode cX0_turn 17 = .ok (.aload_n 1, 1) := by decide +kernel
theorem dX0_turn_18 : decode cX0_turn 18 = .ok (.dup, 1) := by decide +kernel
theorem dX0_turn_19 : decode cX0_turn 19 = .ok (.getfield 83, 3) := by decide +kernel
theorem dX0_turn_22 : decode cX0_turn 22 = .ok (.aload_n 0, 1) := by decide +kernel
theorem dX0_turn_23 : decode cX0_turn 23 = .ok (.getfield 18, 3) := by decide +kernel
theorem dX0_turn_26 : decode cX0_turn 26 = .ok (.isub, 1) := by decide +kernel
theorem dX0_turn_27 : decode cX0_turn 27 = .ok (.putfield 83, 3) := by decide +kernel
theorem dX0_turn_30 : decode cX0_turn 30 = .ok (.aload_n 0, 1) := by decide +kernel
theorem dX0_turn_31 : decode cX0_turn 31 = .ok (.dup, 1) := by decide +kernel
theorem dX0_turn_32 : decode cX0_turn 32 = .ok (.getfield 33, 3) := by decide +kernel
theorem dX0_turn_35 : decode cX0_turn 35 = .ok (.aload_n 0, 1) := by decide +kernel
theorem dX0_turn_36 : decode cX0_turn 36 = .ok (.getfield 18, 3) := by decide +kernel
theorem dX0_turn_39 : decode cX0_turn 39 = .ok (.iadd, 1) := by decide +kernel
theorem dX0_turn_40 : decode cX0_turn 40 = .ok (.putfield 33, 3) := by decide +kernel
theorem dX0_turn_43 : decode cX0_turn 43 = .ok (.aload_n 1, 1) := by decide +kernel
theorem dX0_turn_44 : decode cX0_turn 44 = .ok (.dup, 1) := by decide +kernel
theorem dX0_turn_45 : decode cX0_turn 45 = .ok (.getfield 145, 3) := by decide +kernel
theorem dX0_turn_48 : decode cX0_turn 48 = .ok (.iconst 1, 1) := by decide +kernel
theorem dX0_turn_49 : decode cX0_turn 49 = .ok (.iadd, 1) := by decide +kernel
theorem dX0_turn_50 : decode cX0_turn 50 = .ok (.putfield 145, 3) := by decide +kernel
theorem dX0_turn_53 : decode cX0_turn 53 = .ok (.iload_n 2, 1) := by decide +kernel
theorem dX0_turn_54 : decode cX0_turn 54 = .ok (.ireturn, 1) := by decide +kernel
theorem dX0_grind_0 : decode cX0_grind 0 = .ok (.iload_n 2, 1) := by decide +kernel
theorem dX0_grind_1 : decode cX0_grind 1 = .ok (.istore_n 3, 1) := by decide +kernel
theorem dX0_grind_2 : decode cX0_grind 2 = .ok (.aload_n 1, 1) := by decide +kernel
theorem dX0_grind_3 : decode cX0_grind 3 = .ok (.getfield 86, 3) := by decide +kernel
theorem dX0_grind_6 : decode cX0_grind 6 = .ok (.istore 4, 2) := by decide +kernel
theorem dX0_grind_8 : decode cX0_grind 8 = .ok (.iload 4, 2) := by decide +kernel
theorem dX0_grind_10 : decode cX0_grind 10 = .ok (.ifCond .le 72, 3) := by decide +kernel
theorem dX0_grind_13 : decode cX0_grind 13 = .ok (.iload_n 3, 1) := by decide +kernel
theorem dX0_grind_14 : decode cX0_grind 14 = .ok (.aload_n 1, 1) := by decide +kernel
theorem dX0_grind_15 : decode cX0_grind 15 = .ok (.iconst 0, 1) := by decide +kernel
theorem dX0_grind_16 : decode cX0_grind 16 = .ok (.invokevirtual 89, 3) := by decide +kernel
theorem dX0_grind_19 : decode cX0_grind 19 = .ok (.if_icmp .lt 63, 3) := by decide +kernel
theorem dX0_grind_22 : decode cX0_grind 22 = .ok (.iload_n 3, 1) := by decide +kernel
theorem dX0_grind_23 : decode cX0_grind 23 = .ok (.aload_n 1, 1) := by decide +kernel
theorem dX0_grind_24 : decode cX0_grind 24 = .ok (.iconst 0, 1) := by decide +kernel
theorem dX0_grind_25 : decode cX0_grind 25 = .ok (.invokevirtual 89, 3) := by decide +kernel
theorem dX0_grind_28 : decode cX0_grind 28 = .ok (.isub, 1) := by decide +kernel
theorem dX0_grind_29 : decode cX0_grind 29 = .ok (.istore_n 3, 1) := by decide +kernel
theorem dX0_grind_30 : decode cX0_grind 30 = .ok (.aload_n 0, 1) := by decide +kernel
theorem dX0_grind_31 : decode cX0_grind 31 = .ok (.getfield 21, 3) := by decide +kernel
theorem dX0_grind_34 : decode cX0_grind 34 = .ok (.aload_n 1, 1) := by decide +kernel
theorem dX0_grind_35 : decode cX0_grind 35 = .ok (.invokevirtual 106, 3) := by decide +kernel
theorem dX0_grind_38 : decode cX0_grind 38 = .ok (.if_icmp .le 13, 3) := by decide +kernel
theorem dX0_grind_41 : decode cX0_grind 41 = .ok (.aload_n 0, 1) := by decide +kernel
theorem dX0_grind_42 : decode cX0_grind 42 = .ok (.dup, 1) := by decide +kernel
theorem dX0_grind_43 : decode cX0_grind 43 = .ok (.getfield 42, 3) := by decide +kernel
theorem dX0_grind_46 : decode cX0_grind 46 = .ok (.iconst 1, 1) := by decide +kernel
theorem dX0_grind_47 : decode cX0_grind 47 = .ok (.iadd, 1) := by decide +kernel
theorem dX0_grind_48 : decode cX0_grind 48 = .ok (.putfield 42, 3) := by decide +kernel
theorem dX0_grind_51 : decode cX0_grind 51 = .ok (.aload_n 0, 1) := by decide +kernel
theorem dX0_grind_52 : decode cX0_grind 52 = .ok (.dup, 1) := by decide +kernel
theorem dX0_grind_53 : decode cX0_grind 53 = .ok (.getfield 39, 3) := by decide +kernel
theorem dX0_grind_56 : decode cX0_grind 56 = .ok (.iconst 1, 1) := by decide +kernel
theorem dX0_grind_57 : decode cX0_grind 57 = .ok (.iadd, 1) := by decide +kernel
theorem dX0_grind_58 : decode cX0_grind 58 = .ok (.putfield 39, 3) := by decide +kernel
theorem dX0_grind_61 : decode cX0_grind 61 = .ok (.aload_n 1, 1) := by decide +kernel
theorem dX0_grind_62 : decode cX0_grind 62 = .ok (.dup, 1) := by decide +kernel
theorem dX0_grind_63 : decode cX0_grind 63 = .ok (.getfield 148, 3) := by decide +kernel
theorem dX0_grind_66 : decode cX0_grind 66 = .ok (.iconst 1, 1) := by decide +kernel
theorem dX0_grind_67 : decode cX0_grind 67 = .ok (.iadd, 1) := by decide +kernel
theorem dX0_grind_68 : decode cX0_grind 68 = .ok (.putfield 148, 3) := by decide +kernel
theorem dX0_grind_71 : decode cX0_grind 71 = .ok (.aload_n 1, 1) := by decide +kernel
theorem dX0_grind_72 : decode cX0_grind 72 = .ok (.iconst 0, 1) := by decide +kernel
theorem dX0_grind_73 : decode cX0_grind 73 = .ok (.invokevirtual 149, 3) := by decide +kernel
theorem dX0_grind_76 : decode cX0_grind 76 = .ok (.iinc 4 (-1), 3) := by decide +kernel
theorem dX0_grind_79 : decode cX0_grind 79 = .ok (.goto (-71), 3) := by decide +kernel
theorem dX0_grind_82 : decode cX0_grind 82 = .ok (.aload_n 1, 1) := by decide +kernel
theorem dX0_grind_83 : decode cX0_grind 83 = .ok (.iload_n 3, 1) := by decide +kernel
theorem dX0_grind_84 : decode cX0_grind 84 = .ok (.invokevirtual 153, 3) := by decide +kernel
theorem dX0_grind_87 : decode cX0_grind 87 = .ok (.return_, 1) := by decide +kernel
theorem dX1_init_0 : decode cX1_init 0 = .ok (.aload_n 0, 1) := by decide +kernel
theorem dX1_init_1 : decode cX1_init 1 = .ok (.invokespecial 3, 3) := by decide +kernel
theorem dX1_init_4 : decode cX1_init 4 = .ok (.aload_n 0, 1) := by decide +kernel
theorem dX1_init_5 : decode cX1_init 5 = .ok (.bipush 6, 2) := by decide +kernel
theorem dX1_init_7 : decode cX1_init 7 = .ok (.anewarray 9, 3) := by decide +kernel
theorem dX1_init_10 : decode cX1_init 10 = .ok (.putfield 11, 3) := by decide +kernel
theorem dX1_init_13 : decode cX1_init 13 = .ok (.aload_n 0, 1) := by decide +kernel
theorem dX1_init_14 : decode cX1_init 14 = .ok (.iconst 0, 1) := by decide +kernel
theorem dX1_init_15 : decode cX1_init 15 = .ok (.putfield 17, 3) := by decide +kernel
theorem dX1_init_18 : decode cX1_init 18 = .ok (.iconst 0, 1) := by decide +kernel
theorem dX1_init_19 : decode cX1_init 19 = .ok (.istore_n 1, 1) := by decide +kernel
theorem dX1_init_20 : decode cX1_init 20 = .ok (.iload_n 1, 1) := by decide +kernel
theorem dX1_init_21 : decode cX1_init 21 = .ok (.bipush 6, 2) := by decide +kernel
theorem dX1_init_23 : decode cX1_init 23 = .ok (.if_icmp .ge 22, 3) := by decide +kernel
theorem dX1_init_26 : decode cX1_init 26 = .ok (.aload_n 0, 1) := by decide +kernel
theorem dX1_init_27 : decode cX1_init 27 = .ok (.getfield 11, 3) := by decide +kernel
theorem dX1_init_30 : decode cX1_init 30 = .ok (.iload_n 1, 1) := by decide +kernel
theorem dX1_init_31 : decode cX1_init 31 = .ok (.new 9, 3) := by decide +kernel
theorem dX1_init_34 : decode cX1_init 34 = .ok (.dup, 1) := by decide +kernel
theorem dX1_init_35 : decode cX1_init 35 = .ok (.invokespecial 21, 3) := by decide +kernel
theorem dX1_init_38 : decode cX1_init 38 = .ok (.aastore, 1) := by decide +kernel
theorem dX1_init_39 : decode cX1_init 39 = .ok (.iinc 1 1, 3) := by decide +kernel
theorem dX1_init_42 : decode cX1_init 42 = .ok (.goto (-22), 3) := by decide +kernel
theorem dX1_init_45 : decode cX1_init 45 = .ok (.return_, 1) := by decide +kernel
theorem dX1_save_0 : decode cX1_save 0 = .ok (.aload_n 0, 1) := by decide +kernel
theorem dX1_save_1 : decode cX1_save 1 = .ok (.getfield 17, 3) := by decide +kernel
theorem dX1_save_4 : decode cX1_save 4 = .ok (.bipush 6, 2) := by decide +kernel
theorem dX1_save_6 : decode cX1_save 6 = .ok (.if_icmp .lt 7, 3) := by decide +kernel
theorem dX1_save_9 : decode cX1_save 9 = .ok (.aload_n 0, 1) := by decide +kernel
theorem dX1_save_10 : decode cX1_save 10 = .ok (.invokevirtual 22, 3) := by decide +kernel
theorem dX1_save_13 : decode cX1_save 13 = .ok (.aload_n 0, 1) := by decide +kernel
theorem dX1_save_14 : decode cX1_save 14 = .ok (.aload_n 0, 1) := by decide +kernel
theorem dX1_save_15 : decode cX1_save 15 = .ok (.getfield 17, 3) := by decide +kernel
theorem dX1_save_18 : decode cX1_save 18 = .ok (.invokevirtual 25, 3) := by decide +kernel
theorem dX1_save_21 : decode cX1_save 21 = .ok (.astore_n 2, 1) := by decide +kernel
theorem dX1_save_22 : decode cX1_save 22 = .ok (.aload_n 2, 1) := by decide +kernel
theorem dX1_save_23 : decode cX1_save 23 = .ok (.ifnull 18, 3) := by decide +kernel
theorem dX1_save_26 : decode cX1_save 26 = .ok (.aload_n 2, 1) := by decide +kernel
theorem dX1_save_27 : decode cX1_save 27 = .ok (.aload_n 1, 1) := by decide +kernel
theorem dX1_save_28 : decode cX1_save 28 = .ok (.invokevirtual 29, 3) := by decide +kernel
theorem dX1_save_31 : decode cX1_save 31 = .ok (.aload_n 0, 1) := by decide +kernel
theorem dX1_save_32 : decode cX1_save 32 = .ok (.dup, 1) := by decide +kernel
theorem dX1_save_33 : decode cX1_save 33 = .ok (.getfield 17, 3) := by decide +kernel
theorem dX1_save_36 : decode cX1_save 36 = .ok (.iconst 1, 1) := by decide +kernel
theorem dX1_save_37 : decode cX1_save 37 = .ok (.iadd, 1) := by decide +kernel
theorem dX1_save_38 : decode cX1_save 38 = .ok (.putfield 17, 3) := by decide +kernel
theorem dX1_save_41 : decode cX1_save 41 = .ok (.return_, 1) := by decide +kernel
theorem dX1_restoreLatest_0 : decode cX1_restoreLatest 0 = .ok (.aload_n 0, 1) := by decide +kernel
theorem dX1_restoreLatest_1 : decode cX1_restoreLatest 1 = .ok (.aload_n 0, 1) := by decide +kernel
theorem dX1_restoreLatest_2 : decode cX1_restoreLatest 2 = .ok (.getfield 17, 3) := by decide +kernel
theorem dX1_restoreLatest_5 : decode cX1_restoreLatest 5 = .ok (.iconst 1, 1) := by decide +kernel
theorem dX1_restoreLatest_6 : decode cX1_restoreLatest 6 = .ok (.isub, 1) := by decide +kernel
theorem dX1_restoreLatest_7 : decode cX1_restoreLatest 7 = .ok (.invokevirtual 25, 3) := by decide +kernel
theorem dX1_restoreLatest_10 : decode cX1_restoreLatest 10 = .ok (.astore_n 2, 1) := by decide +kernel
theorem dX1_restoreLatest_11 : decode cX1_restoreLatest 11 = .ok (.aload_n 2, 1) := by decide +kernel
theorem dX1_restoreLatest_12 : decode cX1_restoreLatest 12 = .ok (.ifnull 18, 3) := by decide +kernel
theorem dX1_restoreLatest_15 : decode cX1_restoreLatest 15 = .ok (.aload_n 1, 1) := by decide +kernel
theorem dX1_restoreLatest_16 : decode cX1_restoreLatest 16 = .ok (.aload_n 2, 1) := by decide +kernel
theorem dX1_restoreLatest_17 : decode cX1_restoreLatest 17 = .ok (.invokevirtual 29, 3) := by decide +kernel
theorem dX1_restoreLatest_20 : decode cX1_restoreLatest 20 = .ok (.aload_n 0, 1) := by decide +kernel
theorem dX1_restoreLatest_21 : decode cX1_restoreLatest 21 = .ok (.dup, 1) := by decide +kernel
theorem dX1_restoreLatest_22 : decode cX1_restoreLatest 22 = .ok (.getfield 17, 3) := by decide +kernel
theorem dX1_restoreLatest_25 : decode cX1_restoreLatest 25 = .ok (.iconst 1, 1) := by decide +kernel
theorem dX1_restoreLatest_26 : decode cX1_restoreLatest 26 = .ok (.isub, 1) := by decide +kernel
theorem dX1_restoreLatest_27 : decode cX1_restoreLatest 27 = .ok (.putfield 17, 3) := by decide +kernel
theorem dX1_restoreLatest_30 : decode cX1_restoreLatest 30 = .ok (.return_, 1) := by decide +kernel
theorem dX1_dropOldest_0 : decode cX1_dropOldest 0 = .ok (.aload_n 0, 1) := by decide +kernel
theorem dX1_dropOldest_1 : decode cX1_dropOldest 1 = .ok (.getfield 11, 3) := by decide +kernel
theorem dX1_dropOldest_4 : decode cX1_dropOldest 4 = .ok (.iconst 0, 1) := by decide +kernel
theorem dX1_dropOldest_5 : decode cX1_dropOldest 5 = .ok (.aaload, 1) := by decide +kernel
theorem dX1_dropOldest_6 : decode cX1_dropOldest 6 = .ok (.astore_n 1, 1) := by decide +kernel
theorem dX1_dropOldest_7 : decode cX1_dropOldest 7 = .ok (.iconst 1, 1) := by decide +kernel
theorem dX1_dropOldest_8 : decode cX1_dropOldest 8 = .ok (.istore_n 2, 1) := by decide +kernel
theorem dX1_dropOldest_9 : decode cX1_dropOldest 9 = .ok (.iload_n 2, 1) := by decide +kernel
theorem dX1_dropOldest_10 : decode cX1_dropOldest 10 = .ok (.bipush 6, 2) := by decide +kernel
theorem dX1_dropOldest_12 : decode cX1_dropOldest 12 = .ok (.if_icmp .ge 23, 3) := by decide +kernel
theorem dX1_dropOldest_15 : decode cX1_dropOldest 15 = .ok (.aload_n 0, 1) := by decide +kernel
theorem dX1_dropOldest_16 : decode cX1_dropOldest 16 = .ok (.getfield 11, 3) := by decide +kernel
theorem dX1_dropOldest_19 : decode cX1_dropOldest 19 = .ok (.iload_n 2, 1) := by decide +kernel
theorem dX1_dropOldest_20 : decode cX1_dropOldest 20 = .ok (.iconst 1, 1) := by decide +kernel
theorem dX1_dropOldest_21 : decode cX1_dropOldest 21 = .ok (.isub, 1) := by decide +kernel
theorem dX1_dropOldest_22 : decode cX1_dropOldest 22 = .ok (.aload_n 0, 1) := by decide +kernel
theorem dX1_dropOldest_23 : decode cX1_dropOldest 23 = .ok (.getfield 11, 3) := by decide +kernel
theorem dX1_dropOldest_26 : decode cX1_dropOldest 26 = .ok (.iload_n 2, 1) := by decide +kernel
theorem dX1_dropOldest_27 : decode cX1_dropOldest 27 = .ok (.aaload, 1) := by decide +kernel
theorem dX1_dropOldest_28 : decode cX1_dropOldest 28 = .ok (.aastore, 1) := by decide +kernel
theorem dX1_dropOldest_29 : decode cX1_dropOldest 29 = .ok (.iinc 2 1, 3) := by decide +kernel
theorem dX1_dropOldest_32 : decode cX1_dropOldest 32 = .ok (.goto (-23), 3) := by decide +kernel
theorem dX1_dropOldest_35 : decode cX1_dropOldest 35 = .ok (.aload_n 0, 1) := by decide +kernel
theorem dX1_dropOldest_36 : decode cX1_dropOldest 36 = .ok (.getfield 11, 3) := by decide +kernel
theorem dX1_dropOldest_39 : decode cX1_dropOldest 39 = .ok (.iconst 5, 1) := by decide +kernel
theorem dX1_dropOldest_40 : decode cX1_dropOldest 40 = .ok (.aload_n 1, 1) := by decide +kernel
theorem dX1_dropOldest_41 : decode cX1_dropOldest 41 = .ok (.aastore, 1) := by decide +kernel
theorem dX1_dropOldest_42 : decode cX1_dropOldest 42 = .ok (.aload_n 0, 1) := by decide +kernel
theorem dX1_dropOldest_43 : decode cX1_dropOldest 43 = .ok (.dup, 1) := by decide +kernel
theorem dX1_dropOldest_44 : decode cX1_dropOldest 44 = .ok (.getfield 17, 3) := by decide +kernel
theorem dX1_dropOldest_47 : decode cX1_dropOldest 47 = .ok (.iconst 1, 1) := by decide +kernel
theorem dX1_dropOldest_48 : decode cX1_dropOldest 48 = .ok (.isub, 1) := by decide +kernel
theorem dX1_dropOldest_49 : decode cX1_dropOldest 49 = .ok (.putfield 17, 3) := by decide +kernel
theorem dX1_dropOldest_52 : decode cX1_dropOldest 52 = .ok (.return_, 1) := by decide +kernel
theorem dX1_stateAt_0 : decode cX1_stateAt 0 = .ok (.iload_n 1, 1) := by decide +kernel
theorem dX1_stateAt_1 : decode cX1_stateAt 1 = .ok (.ifCond .lt 18, 3) := by decide +kernel
theorem dX1_stateAt_4 : decode cX1_stateAt 4 = .ok (.iload_n 1, 1) := by decide +kernel
theorem dX1_stateAt_5 : decode cX1_stateAt 5 = .ok (.bipush 6, 2) := by decide +kernel
theorem dX1_stateAt_7 : decode cX1_stateAt 7 = .ok (.if_icmp .ge 12, 3) := by decide +kernel
theorem dX1_stateAt_10 : decode cX1_stateAt 10 = .ok (.aload_n 0, 1) := by decide +kernel
theorem dX1_stateAt_11 : decode cX1_stateAt 11 = .ok (.getfield 11, 3) := by decide +kernel
theorem dX1_stateAt_14 : decode cX1_stateAt 14 = .ok (.iload_n 1, 1) := by decide +kernel
theorem dX1_stateAt_15 : decode cX1_stateAt 15 = .ok (.aaload, 1) := by decide +kernel
theorem dX1_stateAt_16 : decode cX1_stateAt 16 = .ok (.goto 4, 3) := by decide +kernel
theorem dX1_stateAt_19 : decode cX1_stateAt 19 = .ok (.aconst_null, 1) := by decide +kernel
theorem dX1_stateAt_20 : decode cX1_stateAt 20 = .ok (.areturn, 1) := by decide +kernel
theorem dX2_init_0 : decode cX2_init 0 = .ok (.aload_n 0, 1) := by decide +kernel
theorem dX2_init_1 : decode cX2_init 1 = .ok (.invokespecial 3, 3) := by decide +kernel
theorem dX2_init_4 : decode cX2_init 4 = .ok (.aload_n 0, 1) := by decide +kernel
theorem dX2_init_5 : decode cX2_init 5 = .ok (.sipush 200, 3) := by decide +kernel
theorem dX2_init_8 : decode cX2_init 8 = .ok (.putfield 9, 3) := by decide +kernel
theorem dX2_init_11 : decode cX2_init 11 = .ok (.aload_n 0, 1) := by decide +kernel
theorem dX2_init_12 : decode cX2_init 12 = .ok (.iconst 0, 1) := by decide +kernel
theorem dX2_init_13 : decode cX2_init 13 = .ok (.putfield 15, 3) := by decide +kernel
theorem dX2_init_16 : decode cX2_init 16 = .ok (.aload_n 0, 1) := by decide +kernel
theorem dX2_init_17 : decode cX2_init 17 = .ok (.bipush 20, 2) := by decide +kernel
theorem dX2_init_19 : decode cX2_init 19 = .ok (.putfield 18, 3) := by decide +kernel
theorem dX2_init_22 : decode cX2_init 22 = .ok (.aload_n 0, 1) := by decide +kernel
theorem dX2_init_23 : decode cX2_init 23 = .ok (.iconst 0, 1) := by decide +kernel
theorem dX2_init_24 : decode cX2_init 24 = .ok (.putfield 21, 3) := by decide +kernel
theorem dX2_init_27 : decode cX2_init 27 = .ok (.aload_n 0, 1) := by decide +kernel
theorem dX2_init_28 : decode cX2_init 28 = .ok (.bipush 11, 2) := by decide +kernel
theorem dX2_init_30 : decode cX2_init 30 = .ok (.putfield 24, 3) := by decide +kernel
theorem dX2_init_33 : decode cX2_init 33 = .ok (.aload_n 0, 1) := by decide +kernel
theorem dX2_init_34 : decode cX2_init 34 = .ok (.bipush 40, 2) := by decide +kernel
theorem dX2_init_36 : decode cX2_init 36 = .ok (.putfield 27, 3) := by decide +kernel
theorem dX2_init_39 : decode cX2_init 39 = .ok (.aload_n 0, 1) := by decide +kernel
theorem dX2_init_40 : decode cX2_init 40 = .ok (.bipush 10, 2) := by decide +kernel
theorem dX2_init_42 : decode cX2_init 42 = .ok (.putfield 30, 3) := by decide +kernel
theorem dX2_init_45 : decode cX2_init 45 = .ok (.aload_n 0, 1) := by decide +kernel
theorem dX2_init_46 : decode cX2_init 46 = .ok (.iconst 0, 1) := by decide +kernel
theorem dX2_init_47 : decode cX2_init 47 = .ok (.putfield 33, 3) := by decide +kernel
theorem dX2_init_50 : decode cX2_init 50 = .ok (.aload_n 0, 1) := by decide +kernel
theorem dX2_init_51 : decode cX2_init 51 = .ok (.iconst 0, 1) := by decide +kernel
theorem dX2_init_52 : decode cX2_init 52 = .ok (.putfield 36, 3) := by decide +kernel
theorem dX2_init_55 : decode cX2_init 55 = .ok (.aload_n 0, 1) := by decide +kernel
theorem dX2_init_56 : decode cX2_init 56 = .ok (.iconst 0, 1) := by decide +kernel
theorem dX2_init_57 : decode cX2_init 57 = .ok (.putfield 39, 3) := by decide +kernel
theorem dX2_init_60 : decode cX2_init 60 = .ok (.aload_n 0, 1) := by decide +kernel
theorem dX2_init_61 : decode cX2_init 61 = .ok (.bipush 6, 2) := by decide +kernel
theorem dX2_init_63 : decode cX2_init 63 = .ok (.newarray .int, 2) := by decide +kernel
theorem dX2_init_65 : decode cX2_init 65 = .ok (.putfield 42, 3) := by decide +kernel
theorem dX2_init_68 : decode cX2_init 68 = .ok (.aload_n 0, 1) := by decide +kernel
theorem dX2_init_69 : decode cX2_init 69 = .ok (.bipush 6, 2) := by decide +kernel
theorem dX2_init_71 : decode cX2_init 71 = .ok (.newarray .int, 2) := by decide +kernel
theorem dX2_init_73 : decode cX2_init 73 = .ok (.putfield 46, 3) := by decide +kernel
theorem dX2_init_76 : decode cX2_init 76 = .ok (.aload_n 0, 1) := by decide +kernel
theorem dX2_init_77 : decode cX2_init 77 = .ok (.bipush 6, 2) := by decide +kernel
theorem dX2_init_79 : decode cX2_init 79 = .ok (.newarray .int, 2) := by decide +kernel
theorem dX2_init_81 : decode cX2_init 81 = .ok (.putfield 49, 3) := by decide +kernel
theorem dX2_init_84 : decode cX2_init 84 = .ok (.aload_n 0, 1) := by decide +kernel
theorem dX2_init_85 : decode cX2_init 85 = .ok (.bipush 6, 2) := by decide +kernel
theorem dX2_init_87 : decode cX2_init 87 = .ok (.newarray .int, 2) := by decide +kernel
theorem dX2_init_89 : decode cX2_init 89 = .ok (.putfield 52, 3) := by decide +kernel
theorem dX2_init_92 : decode cX2_init 92 = .ok (.aload_n 0, 1) := by decide +kernel
theorem dX2_init_93 : decode cX2_init 93 = .ok (.iload_n 1, 1) := by decide +kernel
theorem dX2_init_94 : decode cX2_init 94 = .ok (.putfield 55, 3) := by decide +kernel
theorem dX2_init_97 : decode cX2_init 97 = .ok (.aload_n 0, 1) := by decide +kernel
theorem dX2_init_98 : decode cX2_init 98 = .ok (.aload_n 2, 1) := by decide +kernel
theorem dX2_init_99 : decode cX2_init 99 = .ok (.putfield 58, 3) := by decide +kernel
theorem dX2_init_102 : decode cX2_init 102 = .ok (.return_, 1) := by decide +kernel
theorem dX2_copyFrom_0 : decode cX2_copyFrom 0 = .ok (.aload_n 0, 1) := by decide +kernel
theorem dX2_copyFrom_1 : decode cX2_copyFrom 1 = .ok (.aload_n 1, 1) := by decide +kernel
theorem dX2_copyFrom_2 : decode cX2_copyFrom 2 = .ok (.getfield 9, 3) := by decide +kernel
theorem dX2_copyFrom_5 : decode cX2_copyFrom 5 = .ok (.putfield 9, 3) := by decide +kernel
theorem dX2_copyFrom_8 : decode cX2_copyFrom 8 = .ok (.aload_n 0, 1) := by decide +kernel
theorem dX2_copyFrom_9 : decode cX2_copyFrom 9 = .ok (.aload_n 1, 1) := by decide +kernel
theorem dX2_copyFrom_10 : decode cX2_copyFrom 10 = .ok (.getfield 15, 3) := by decide +kernel
theorem dX2_copyFrom_13 : decode cX2_copyFrom 13 = .ok (.putfield 15, 3) := by decide +kernel
theorem dX2_copyFrom_16 : decode cX2_copyFrom 16 = .ok (.aload_n 0, 1) := by decide +kernel
theorem dX2_copyFrom_17 : decode cX2_copyFrom 17 = .ok (.aload_n 1, 1) := by decide +kernel
theorem dX2_copyFrom_18 : decode cX2_copyFrom 18 = .ok (.getfield 18, 3) := by decide +kernel
theorem dX2_copyFrom_21 : decode cX2_copyFrom 21 = .ok (.putfield 18, 3) := by decide +kernel
theorem dX2_copyFrom_24 : decode cX2_copyFrom 24 = .ok (.aload_n 0, 1) := by decide +kernel
theorem dX2_copyFrom_25 : decode cX2_copyFrom 25 = .ok (.aload_n 1, 1) := by decide +kernel
theorem dX2_copyFrom_26 : decode cX2_copyFrom 26 = .ok (.getfield 21, 3) := by decide +kernel
theorem dX2_copyFrom_29 : decode cX2_copyFrom 29 = .ok (.putfield 21, 3) := by decide +kernel
theorem dX2_copyFrom_32 : decode cX2_copyFrom 32 = .ok (.aload_n 0, 1) := by decide +kernel
theorem dX2_copyFrom_33 : decode cX2_copyFrom 33 = .ok (.aload_n 1, 1) := by decide +kernel
theorem dX2_copyFrom_34 : decode cX2_copyFrom 34 = .ok (.getfield 24, 3) := by decide +kernel
theorem dX2_copyFrom_37 : decode cX2_copyFrom 37 = .ok (.putfield 24, 3) := by decide +kernel
theorem dX2_copyFrom_40 : decode cX2_copyFrom 40 = .ok (.aload_n 0, 1) := by decide +kernel
theorem dX2_copyFrom_41 : decode cX2_copyFrom 41 = .ok (.aload_n 1, 1) := by decide +kernel
theorem dX2_copyFrom_42 : decode cX2_copyFrom 42 = .ok (.getfield 27, 3) := by decide +kernel
theorem dX2_copyFrom_45 : decode cX2_copyFrom 45 = .ok (.putfield 27, 3) := by decide +kernel
theorem dX2_copyFrom_48 : decode cX2_copyFrom 48 = .ok (.aload_n 0, 1) := by decide +kernel
theorem dX2_copyFrom_49 : decode cX2_copyFrom 49 = .ok (.aload_n 1, 1) := by decide +kernel
theorem dX2_copyFrom_50 : decode cX2_copyFrom 50 = .ok (.getfield 30, 3) := by decide +kernel
theorem dX2_copyFrom_53 : decode cX2_copyFrom 53 = .ok (.putfield 30, 3) := by decide +kernel
theorem dX2_copyFrom_56 : decode cX2_copyFrom 56 = .ok (.aload_n 0, 1) := by decide +kernel
theorem dX2_copyFrom_57 : decode cX2_copyFrom 57 = .ok (.aload_n 1, 1) := by decide +kernel
theorem dX2_copyFrom_58 : decode cX2_copyFrom 58 = .ok (.getfield 33, 3) := by decide +kernel
theorem dX2_copyFrom_61 : decode cX2_copyFrom 61 = .ok (.putfield 33, 3) := by decide +kernel
theorem dX2_copyFrom_64 : decode cX2_copyFrom 64 = .ok (.aload_n 0, 1) := by decide +kernel
theorem dX2_copyFrom_65 : decode cX2_copyFrom 65 = .ok (.aload_n 1, 1) := by decide +kernel
theorem dX2_copyFrom_66 : decode cX2_copyFrom 66 = .ok (.getfield 36, 3) := by decide +kernel
theorem dX2_copyFrom_69 : decode cX2_copyFrom 69 = .ok (.putfield 36, 3) := by decide +kernel
theorem dX2_copyFrom_72 : decode cX2_copyFrom 72 = .ok (.aload_n 0, 1) := by decide +kernel
theorem dX2_copyFrom_73 : decode cX2_copyFrom 73 = .ok (.aload_n 1, 1) := by decide +kernel
theorem dX2_copyFrom_74 : decode cX2_copyFrom 74 = .ok (.getfield 39, 3) := by decide +kernel
theorem dX2_copyFrom_77 : decode cX2_copyFrom 77 = .ok (.putfield 39, 3) := by decide +kernel
theorem dX2_copyFrom_80 : decode cX2_copyFrom 80 = .ok (.iconst 0, 1) := by decide +kernel
theorem dX2_copyFrom_81 : decode cX2_copyFrom 81 = .ok (.istore_n 2, 1) := by decide +kernel
theorem dX2_copyFrom_82 : decode cX2_copyFrom 82 = .ok (.iload_n 2, 1) := by decide +kernel
theorem dX2_copyFrom_83 : decode cX2_copyFrom 83 = .ok (.bipush 6, 2) := by decide +kernel
theorem dX2_copyFrom_85 : decode cX2_copyFrom 85 = .ok (.if_icmp .ge 57, 3) := by decide +kernel
theorem dX2_copyFrom_88 : decode cX2_copyFrom 88 = .ok (.aload_n 0, 1) := by decide +kernel
theorem dX2_copyFrom_89 : decode cX2_copyFrom 89 = .ok (.getfield 42, 3) := by decide +kernel
theorem dX2_copyFrom_92 : decode cX2_copyFrom 92 = .ok (.iload_n 2, 1) := by decide +kernel
theorem dX2_copyFrom_93 : decode cX2_copyFrom 93 = .ok (.aload_n 1, 1) := by decide +kernel
theorem dX2_copyFrom_94 : decode cX2_copyFrom 94 = .ok (.getfield 42, 3) := by decide +kernel
theorem dX2_copyFrom_97 : decode cX2_copyFrom 97 = .ok (.iload_n 2, 1) := by decide +kernel
theorem dX2_copyFrom_98 : decode cX2_copyFrom 98 = .ok (.iaload, 1) := by decide +kernel
theorem dX2_copyFrom_99 : decode cX2_copyFrom 99 = .ok (.iastore, 1) := by decide +kernel
theorem dX2_copyFrom_100 : decode cX2_copyFrom 100 = .ok (.aload_n 0, 1) := by decide +kernel
theorem dX2_copyFrom_101 : decode cX2_copyFrom 101 = .ok (.getfield 46, 3) := by decide +kernel
theorem dX2_copyFrom_104 : decode cX2_copyFrom 104 = .ok (.iload_n 2, 1) := by decide +kernel
theorem dX2_copyFrom_105 : decode cX2_copyFrom 105 = .ok (.aload_n 1, 1) := by decide +kernel
theorem dX2_copyFrom_106 : decode cX2_copyFrom 106 = .ok (.getfield 46, 3) := by decide +kernel
theorem dX2_copyFrom_109 : decode cX2_copyFrom 109 = .ok (.iload_n 2, 1) := by decide +kernel
theorem dX2_copyFrom_110 : decode cX2_copyFrom 110 = .ok (.iaload, 1) := by decide +kernel
theorem dX2_copyFrom_111 : decode cX2_copyFrom 111 = .ok (.iastore, 1) := by decide +kernel
theorem dX2_copyFrom_112 : decode cX2_copyFrom 112 = .ok (.aload_n 0, 1) := by decide +kernel
theorem dX2_copyFrom_113 : decode cX2_copyFrom 113 = .ok (.getfield 49, 3) := by decide +kernel
theorem dX2_copyFrom_116 : decode cX2_copyFrom 116 = .ok (.iload_n 2, 1) := by decide +kernel
theorem dX2_copyFrom_117 : decode cX2_copyFrom 117 = .ok (.aload_n 1, 1) := by decide +kernel
theorem dX2_copyFrom_118 : decode cX2_copyFrom 118 = .ok (.getfield 49, 3) := by decide +kernel
theorem dX2_copyFrom_121 : decode cX2_copyFrom 121 = .ok (.iload_n 2, 1) := by decide +kernel
theorem dX2_copyFrom_122 : decode cX2_copyFrom 122 = .ok (.iaload, 1) := by decide +kernel
theorem dX2_copyFrom_123 : decode cX2_copyFrom 123 = .ok (.iastore, 1) := by decide +kernel
theorem dX2_copyFrom_124 : decode cX2_copyFrom 124 = .ok (.aload_n 0, 1) := by decide +kernel
theorem dX2_copyFrom_125 : decode cX2_copyFrom 125 = .ok (.getfield 52, 3) := by decide +kernel
theorem dX2_copyFrom_128 : decode cX2_copyFrom 128 = .ok (.iload_n 2, 1) := by decide +kernel
theorem dX2_copyFrom_129 : decode cX2_copyFrom 129 = .ok (.aload_n 1, 1) := by decide +kernel
theorem dX2_copyFrom_130 : decode cX2_copyFrom 130 = .ok (.getfield 52, 3) := by decide +kernel
theorem dX2_copyFrom_133 : decode cX2_copyFrom 133 = .ok (.iload_n 2, 1) := by decide +kernel
theorem dX2_copyFrom_134 : decode cX2_copyFrom 134 = .ok (.iaload, 1) := by decide +kernel
theorem dX2_copyFrom_135 : decode cX2_copyFrom 135 = .ok (.iastore, 1) := by decide +kernel
theorem dX2_copyFrom_136 : decode cX2_copyFrom 136 = .ok (.iinc 2 1, 3) := by decide +kernel
theorem dX2_copyFrom_139 : decode cX2_copyFrom 139 = .ok (.goto (-57), 3) := by decide +kernel
theorem dX2_copyFrom_142 : decode cX2_copyFrom 142 = .ok (.return_, 1) := by decide +kernel
theorem dX2_headAt_0 : decode cX2_headAt 0 = .ok (.aload_n 0, 1) := by decide +kernel
theorem dX2_headAt_1 : decode cX2_headAt 1 = .ok (.getfield 9, 3) := by decide +kernel
theorem dX2_headAt_4 : decode cX2_headAt 4 = .ok (.ifCond .le 18, 3) := by decide +kernel
theorem dX2_headAt_7 : decode cX2_headAt 7 = .ok (.aload_n 0, 1) := by decide +kernel
theorem dX2_headAt_8 : decode cX2_headAt 8 = .ok (.getfield 15, 3) := by decide +kernel
theorem dX2_headAt_11 : decode cX2_headAt 11 = .ok (.bipush 100, 2) := by decide +kernel
theorem dX2_headAt_13 : decode cX2_headAt 13 = .ok (.imul, 1) := by decide +kernel
theorem dX2_headAt_14 : decode cX2_headAt 14 = .ok (.aload_n 0, 1) := by decide +kernel
theorem dX2_headAt_15 : decode cX2_headAt 15 = .ok (.getfield 9, 3) := by decide +kernel
theorem dX2_headAt_18 : decode cX2_headAt 18 = .ok (.idiv, 1) := by decide +kernel
theorem dX2_headAt_19 : decode cX2_headAt 19 = .ok (.goto 4, 3) := by decide +kernel
theorem dX2_headAt_22 : decode cX2_headAt 22 = .ok (.iconst 0, 1) := by decide +kernel
theorem dX2_headAt_23 : decode cX2_headAt 23 = .ok (.istore_n 2, 1) := by decide +kernel
theorem dX2_headAt_24 : decode cX2_headAt 24 = .ok (.iload_n 2, 1) := by decide +kernel
theorem dX2_headAt_25 : decode cX2_headAt 25 = .ok (.iload_n 1, 1) := by decide +kernel
theorem dX2_headAt_26 : decode cX2_headAt 26 = .ok (.isub, 1) := by decide +kernel
theorem dX2_headAt_27 : decode cX2_headAt 27 = .ok (.ireturn, 1) := by decide +kernel
theorem dX2_turnsOfStone_0 : decode cX2_turnsOfStone 0 = .ok (.aload_n 0, 1) := by decide +kernel
theorem dX2_turnsOfStone_1 : decode cX2_turnsOfStone 1 = .ok (.getfield 30, 3) := by decide +kernel
theorem dX2_turnsOfStone_4 : decode cX2_turnsOfStone 4 = .ok (.ifCond .le 17, 3) := by decide +kernel
theorem dX2_turnsOfStone_7 : decode cX2_turnsOfStone 7 = .ok (.iload_n 1, 1) := by decide +kernel
theorem dX2_turnsOfStone_8 : decode cX2_turnsOfStone 8 = .ok (.aload_n 0, 1) := by decide +kernel
theorem dX2_turnsOfStone_9 : decode cX2_turnsOfStone 9 = .ok (.getfield 27, 3) := by decide +kernel
theorem dX2_turnsOfStone_12 : decode cX2_turnsOfStone 12 = .ok (.imul, 1) := by decide +kernel
theorem dX2_turnsOfStone_13 : decode cX2_turnsOfStone 13 = .ok (.aload_n 0, 1) := by decide +kernel
theorem dX2_turnsOfStone_14 : decode cX2_turnsOfStone 14 = .ok (.getfield 30, 3) := by decide +kernel
theorem dX2_turnsOfStone_17 : decode cX2_turnsOfStone 17 = .ok (.idiv, 1) := by decide +kernel
theorem dX2_turnsOfStone_18 : decode cX2_turnsOfStone 18 = .ok (.goto 4, 3) := by decide +kernel
theorem dX2_turnsOfStone_21 : decode cX2_turnsOfStone 21 = .ok (.iconst 0, 1) := by decide +kernel
theorem dX2_turnsOfStone_22 : decode cX2_turnsOfStone 22 = .ok (.ireturn, 1) := by decide +kernel
theorem dX2_letIn_0 : decode cX2_letIn 0 = .ok (.iload_n 1, 1) := by decide +kernel
theorem dX2_letIn_1 : decode cX2_letIn 1 = .ok (.bipush 12, 2) := by decide +kernel
theorem dX2_letIn_3 : decode cX2_letIn 3 = .ok (.irem, 1) := by decide +kernel
theorem dX2_letIn_4 : decode cX2_letIn 4 = .ok (.istore_n 3, 1) := by decide +kernel
theorem dX2_letIn_5 : decode cX2_letIn 5 = .ok (.iload_n 3, 1) := by decide +kernel
theorem dX2_letIn_6 : decode cX2_letIn 6 = .ok (.aload_n 0, 1) := by decide +kernel
theorem dX2_letIn_7 : decode cX2_letIn 7 = .ok (.getfield 21, 3) := by decide +kernel
theorem dX2_letIn_10 : decode cX2_letIn 10 = .ok (.if_icmp .lt 19, 3) := by decide +kernel
theorem dX2_letIn_13 : decode cX2_letIn 13 = .ok (.iload_n 3, 1) := by decide +kernel
theorem dX2_letIn_14 : decode cX2_letIn 14 = .ok (.aload_n 0, 1) := by decide +kernel
theorem dX2_letIn_15 : decode cX2_letIn 15 = .ok (.getfield 24, 3) := by decide +kernel
theorem dX2_letIn_18 : decode cX2_letIn 18 = .ok (.if_icmp .gt 11, 3) := by decide +kernel
theorem dX2_letIn_21 : decode cX2_letIn 21 = .ok (.iload_n 2, 1) := by decide +kernel
theorem dX2_letIn_22 : decode cX2_letIn 22 = .ok (.aload_n 0, 1) := by decide +kernel
theorem dX2_letIn_23 : decode cX2_letIn 23 = .ok (.getfield 18, 3) := by decide +kernel
theorem dX2_letIn_26 : decode cX2_letIn 26 = .ok (.if_icmp .gt 5, 3) := by decide +kernel
theorem dX2_letIn_29 : decode cX2_letIn 29 = .ok (.iconst 0, 1) := by decide +kernel
theorem dX2_letIn_30 : decode cX2_letIn 30 = .ok (.ireturn, 1) := by decide +kernel
theorem dX2_letIn_31 : decode cX2_letIn 31 = .ok (.iconst 2, 1) := by decide +kernel
theorem dX2_letIn_32 : decode cX2_letIn 32 = .ok (.iload_n 2, 1) := by decide +kernel
theorem dX2_letIn_33 : decode cX2_letIn 33 = .ok (.aload_n 0, 1) := by decide +kernel
theorem dX2_letIn_34 : decode cX2_letIn 34 = .ok (.getfield 18, 3) := by decide +kernel
theorem dX2_letIn_37 : decode cX2_letIn 37 = .ok (.isub, 1) := by decide +kernel
theorem dX2_letIn_38 : decode cX2_letIn 38 = .ok (.imul, 1) := by decide +kernel
theorem dX2_letIn_39 : decode cX2_letIn 39 = .ok (.aload_n 0, 1) := by decide +kernel
theorem dX2_letIn_40 : decode cX2_letIn 40 = .ok (.getfield 9, 3) := by decide +kernel
theorem dX2_letIn_43 : decode cX2_letIn 43 = .ok (.aload_n 0, 1) := by decide +kernel
theorem dX2_letIn_44 : decode cX2_letIn 44 = .ok (.getfield 15, 3) := by decide +kernel
theorem dX2_letIn_47 : decode cX2_letIn 47 = .ok (.isub, 1) := by decide +kernel
theorem dX2_letIn_48 : decode cX2_letIn 48 = .ok (.invokestatic 62, 3) := by decide +kernel
theorem dX2_letIn_51 : decode cX2_letIn 51 = .ok (.istore 4, 2) := by decide +kernel
theorem dX2_letIn_53 : decode cX2_letIn 53 = .ok (.aload_n 0, 1) := by decide +kernel
theorem dX2_letIn_54 : decode cX2_letIn 54 = .ok (.dup, 1) := by decide +kernel
theorem dX2_letIn_55 : decode cX2_letIn 55 = .ok (.getfield 15, 3) := by decide +kernel
theorem dX2_letIn_58 : decode cX2_letIn 58 = .ok (.iload 4, 2) := by decide +kernel
theorem dX2_letIn_60 : decode cX2_letIn 60 = .ok (.iadd, 1) := by decide +kernel
theorem dX2_letIn_61 : decode cX2_letIn 61 = .ok (.putfield 15, 3) := by decide +kernel
theorem dX2_letIn_64 : decode cX2_letIn 64 = .ok (.iload 4, 2) := by decide +kernel
theorem dX2_letIn_66 : decode cX2_letIn 66 = .ok (.ireturn, 1) := by decide +kernel
theorem dX2_numberAt_0 : decode cX2_numberAt 0 = .ok (.aload_n 0, 1) := by decide +kernel
theorem dX2_numberAt_1 : decode cX2_numberAt 1 = .ok (.iload_n 1, 1) := by decide +kernel
theorem dX2_numberAt_2 : decode cX2_numberAt 2 = .ok (.invokevirtual 68, 3) := by decide +kernel
theorem dX2_numberAt_5 : decode cX2_numberAt 5 = .ok (.ifCond .eq 12, 3) := by decide +kernel
theorem dX2_numberAt_8 : decode cX2_numberAt 8 = .ok (.aload_n 0, 1) := by decide +kernel
theorem dX2_numberAt_9 : decode cX2_numberAt 9 = .ok (.getfield 42, 3) := by decide +kernel
theorem dX2_numberAt_12 : decode cX2_numberAt 12 = .ok (.iload_n 1, 1) := by decide +kernel
theorem dX2_numberAt_13 : decode cX2_numberAt 13 = .ok (.iaload, 1) := by decide +kernel
theorem dX2_numberAt_14 : decode cX2_numberAt 14 = .ok (.goto 4, 3) := by decide +kernel
theorem dX2_numberAt_17 : decode cX2_numberAt 17 = .ok (.iconst (-1), 1) := by decide +kernel
theorem dX2_numberAt_18 : decode cX2_numberAt 18 = .ok (.ireturn, 1) := by decide +kernel
theorem dX2_hardnessAt_0 : decode cX2_hardnessAt 0 = .ok (.aload_n 0, 1) := by decide +kernel
theorem dX2_hardnessAt_1 : decode cX2_hardnessAt 1 = .ok (.iload_n 1, 1) := by decide +kernel
theorem dX2_hardnessAt_2 : decode cX2_hardnessAt 2 = .ok (.invokevirtual 68, 3) := by decide +kernel
theorem dX2_hardnessAt_5 : decode cX2_hardnessAt 5 = .ok (.ifCond .eq 12, 3) := by decide +kernel
theorem dX2_hardnessAt_8 : decode cX2_hardnessAt 8 = .ok (.aload_n 0, 1) := by decide +kernel
theorem dX2_hardnessAt_9 : decode cX2_hardnessAt 9 = .ok (.getfield 46, 3) := by decide +kernel
theorem dX2_hardnessAt_12 : decode cX2_hardnessAt 12 = .ok (.iload_n 1, 1) := by decide +kernel
theorem dX2_hardnessAt_13 : decode cX2_hardnessAt 13 = .ok (.iaload, 1) := by decide +kernel
theorem dX2_hardnessAt_14 : decode cX2_hardnessAt 14 = .ok (.goto 4, 3) := by decide +kernel
theorem dX2_hardnessAt_17 : decode cX2_hardnessAt 17 = .ok (.iconst (-1), 1) := by decide +kernel
theorem dX2_hardnessAt_18 : decode cX2_hardnessAt 18 = .ok (.ireturn, 1) := by decide +kernel
theorem dX2_restAt_0 : decode cX2_restAt 0 = .ok (.aload_n 0, 1) := by decide +kernel
theorem dX2_restAt_1 : decode cX2_restAt 1 = .ok (.iload_n 1, 1) := by decide +kernel
theorem dX2_restAt_2 : decode cX2_restAt 2 = .ok (.invokevirtual 68, 3) := by decide +kernel
theorem dX2_restAt_5 : decode cX2_restAt 5 = .ok (.ifCond .eq 12, 3) := by decide +kernel
theorem dX2_restAt_8 : decode cX2_restAt 8 = .ok (.aload_n 0, 1) := by decide +kernel
theorem dX2_restAt_9 : decode cX2_restAt 9 = .ok (.getfield 49, 3) := by decide +kernel
theorem dX2_restAt_12 : decode cX2_restAt 12 = .ok (.iload_n 1, 1) := by decide +kernel
theorem dX2_restAt_13 : decode cX2_restAt 13 = .ok (.iaload, 1) := by decide +kernel
theorem dX2_restAt_14 : decode cX2_restAt 14 = .ok (.goto 4, 3) := by decide +kernel
theorem dX2_restAt_17 : decode cX2_restAt 17 = .ok (.iconst (-1), 1) := by decide +kernel
theorem dX2_restAt_18 : decode cX2_restAt 18 = .ok (.ireturn, 1) := by decide +kernel
theorem dX2_dueAt_0 : decode cX2_dueAt 0 = .ok (.aload_n 0, 1) := by decide +kernel
theorem dX2_dueAt_1 : decode cX2_dueAt 1 = .ok (.iload_n 1, 1) := by decide +kernel
theorem dX2_dueAt_2 : decode cX2_dueAt 2 = .ok (.invokevirtual 68, 3) := by decide +kernel
theorem dX2_dueAt_5 : decode cX2_dueAt 5 = .ok (.ifCond .eq 12, 3) := by decide +kernel
theorem dX2_dueAt_8 : decode cX2_dueAt 8 = .ok (.aload_n 0, 1) := by decide +kernel
theorem dX2_dueAt_9 : decode cX2_dueAt 9 = .ok (.getfield 52, 3) := by decide +kernel
theorem dX2_dueAt_12 : decode cX2_dueAt 12 = .ok (.iload_n 1, 1) := by decide +kernel
theorem dX2_dueAt_13 : decode cX2_dueAt 13 = .ok (.iaload, 1) := by decide +kernel
theorem dX2_dueAt_14 : decode cX2_dueAt 14 = .ok (.goto 4, 3) := by decide +kernel
theorem dX2_dueAt_17 : decode cX2_dueAt 17 = .ok (.iconst (-1), 1) := by decide +kernel
theorem dX2_dueAt_18 : decode cX2_dueAt 18 = .ok (.ireturn, 1) := by decide +kernel
theorem dX2_firstDue_0 : decode cX2_firstDue 0 = .ok (.aload_n 0, 1) := by decide +kernel
theorem dX2_firstDue_1 : decode cX2_firstDue 1 = .ok (.getfield 39, 3) := by decide +kernel
theorem dX2_firstDue_4 : decode cX2_firstDue 4 = .ok (.ifCond .le 12, 3) := by decide +kernel
theorem dX2_firstDue_7 : decode cX2_firstDue 7 = .ok (.aload_n 0, 1) := by decide +kernel
theorem dX2_firstDue_8 : decode cX2_firstDue 8 = .ok (.getfield 52, 3) := by decide +kernel
theorem dX2_firstDue_11 : decode cX2_firstDue 11 = .ok (.iconst 0, 1) := by decide +kernel
theorem dX2_firstDue_12 : decode cX2_firstDue 12 = .ok (.iaload, 1) := by decide +kernel
theorem dX2_firstDue_13 : decode cX2_firstDue 13 = .ok (.goto 4, 3) := by decide +kernel
theorem dX2_firstDue_16 : decode cX2_firstDue 16 = .ok (.iconst (-1), 1) := by decide +kernel
theorem dX2_firstDue_17 : decode cX2_firstDue 17 = .ok (.ireturn, 1) := by decide +kernel
theorem dX2_isPlace_0 : decode cX2_isPlace 0 = .ok (.iload_n 1, 1) := by decide +kernel
theorem dX2_isPlace_1 : decode cX2_isPlace 1 = .ok (.ifCond .lt 21, 3) := by decide +kernel
theorem dX2_isPlace_4 : decode cX2_isPlace 4 = .ok (.iload_n 1, 1) := by decide +kernel
theorem dX2_isPlace_5 : decode cX2_isPlace 5 = .ok (.aload_n 0, 1) := by decide +kernel
theorem dX2_isPlace_6 : decode cX2_isPlace 6 = .ok (.getfield 39, 3) := by decide +kernel
theorem dX2_isPlace_9 : decode cX2_isPlace 9 = .ok (.if_icmp .ge 13, 3) := by decide +kernel
theorem dX2_isPlace_12 : decode cX2_isPlace 12 = .ok (.iload_n 1, 1) := by decide +kernel
theorem dX2_isPlace_13 : decode cX2_isPlace 13 = .ok (.bipush 6, 2) := by decide +kernel
theorem dX2_isPlace_15 : decode cX2_isPlace 15 = .ok (.if_icmp .ge 7, 3) := by decide +kernel
theorem dX2_isPlace_18 : decode cX2_isPlace 18 = .ok (.iconst 1, 1) := by decide +kernel
theorem dX2_isPlace_19 : decode cX2_isPlace 19 = .ok (.goto 4, 3) := by decide +kernel
theorem dX2_isPlace_22 : decode cX2_isPlace 22 = .ok (.iconst 0, 1) := by decide +kernel
theorem dX2_isPlace_23 : decode cX2_isPlace 23 = .ok (.ireturn, 1) := by decide +kernel
theorem dX2_placeOf_0 : decode cX2_placeOf 0 = .ok (.iconst 0, 1) := by decide +kernel
theorem dX2_placeOf_1 : decode cX2_placeOf 1 = .ok (.istore_n 2, 1) := by decide +kernel
theorem dX2_placeOf_2 : decode cX2_placeOf 2 = .ok (.iload_n 2, 1) := by decide +kernel
theorem dX2_placeOf_3 : decode cX2_placeOf 3 = .ok (.aload_n 0, 1) := by decide +kernel
theorem dX2_placeOf_4 : decode cX2_placeOf 4 = .ok (.getfield 39, 3) := by decide +kernel
theorem dX2_placeOf_7 : decode cX2_placeOf 7 = .ok (.if_icmp .ge 27, 3) := by decide +kernel
theorem dX2_placeOf_10 : decode cX2_placeOf 10 = .ok (.iload_n 2, 1) := by decide +kernel
theorem dX2_placeOf_11 : decode cX2_placeOf 11 = .ok (.bipush 6, 2) := by decide +kernel
theorem dX2_placeOf_13 : decode cX2_placeOf 13 = .ok (.if_icmp .ge 21, 3) := by decide +kernel
theorem dX2_placeOf_16 : decode cX2_placeOf 16 = .ok (.aload_n 0, 1) := by decide +kernel
theorem dX2_placeOf_17 : decode cX2_placeOf 17 = .ok (.getfield 42, 3) := by decide +kernel
theorem dX2_placeOf_20 : decode cX2_placeOf 20 = .ok (.iload_n 2, 1) := by decide +kernel
theorem dX2_placeOf_21 : decode cX2_placeOf 21 = .ok (.iaload, 1) := by decide +kernel
theorem dX2_placeOf_22 : decode cX2_placeOf 22 = .ok (.iload_n 1, 1) := by decide +kernel
theorem dX2_placeOf_23 : decode cX2_placeOf 23 = .ok (.if_icmp .ne 5, 3) := by decide +kernel
theorem dX2_placeOf_26 : decode cX2_placeOf 26 = .ok (.iload_n 2, 1) := by decide +kernel
theorem dX2_placeOf_27 : decode cX2_placeOf 27 = .ok (.ireturn, 1) := by decide +kernel
theorem dX2_placeOf_28 : decode cX2_placeOf 28 = .ok (.iinc 2 1, 3) := by decide +kernel
theorem dX2_placeOf_31 : decode cX2_placeOf 31 = .ok (.goto (-29), 3) := by decide +kernel
theorem dX2_placeOf_34 : decode cX2_placeOf 34 = .ok (.iconst (-1), 1) := by decide +kernel
theorem dX2_placeOf_35 : decode cX2_placeOf 35 = .ok (.ireturn, 1) := by decide +kernel
theorem dX2_putSack_0 : decode cX2_putSack 0 = .ok (.aload_n 0, 1) := by decide +kernel
theorem dX2_putSack_1 : decode cX2_putSack 1 = .ok (.getfield 39, 3) := by decide +kernel
theorem dX2_putSack_4 : decode cX2_putSack 4 = .ok (.ifCond .lt 12, 3) := by decide +kernel
theorem dX2_putSack_7 : decode cX2_putSack 7 = .ok (.aload_n 0, 1) := by decide +kernel
theorem dX2_putSack_8 : decode cX2_putSack 8 = .ok (.getfield 39, 3) := by decide +kernel
theorem dX2_putSack_11 : decode cX2_putSack 11 = .ok (.bipush 6, 2) := by decide +kernel
theorem dX2_putSack_13 : decode cX2_putSack 13 = .ok (.if_icmp .lt 5, 3) := by decide +kernel
theorem dX2_putSack_16 : decode cX2_putSack 16 = .ok (.iconst (-1), 1) := by decide +kernel
theorem dX2_putSack_17 : decode cX2_putSack 17 = .ok (.ireturn, 1) := by decide +kernel
theorem dX2_putSack_18 : decode cX2_putSack 18 = .ok (.aload_n 0, 1) := by decide +kernel
theorem dX2_putSack_19 : decode cX2_putSack 19 = .ok (.iload_n 1, 1) := by decide +kernel
theorem dX2_putSack_20 : decode cX2_putSack 20 = .ok (.iload 4, 2) := by decide +kernel
theorem dX2_putSack_22 : decode cX2_putSack 22 = .ok (.invokevirtual 72, 3) := by decide +kernel
theorem dX2_putSack_25 : decode cX2_putSack 25 = .ok (.istore 5, 2) := by decide +kernel
theorem dX2_putSack_27 : decode cX2_putSack 27 = .ok (.aload_n 0, 1) := by decide +kernel
theorem dX2_putSack_28 : decode cX2_putSack 28 = .ok (.getfield 39, 3) := by decide +kernel
theorem dX2_putSack_31 : decode cX2_putSack 31 = .ok (.istore 6, 2) := by decide +kernel
theorem dX2_putSack_33 : decode cX2_putSack 33 = .ok (.iload 6, 2) := by decide +kernel
theorem dX2_putSack_35 : decode cX2_putSack 35 = .ok (.iload 5, 2) := by decide +kernel
theorem dX2_putSack_37 : decode cX2_putSack 37 = .ok (.if_icmp .le 19, 3) := by decide +kernel
theorem dX2_putSack_40 : decode cX2_putSack 40 = .ok (.aload_n 0, 1) := by decide +kernel
theorem dX2_putSack_41 : decode cX2_putSack 41 = .ok (.iload 6, 2) := by decide +kernel
theorem dX2_putSack_43 : decode cX2_putSack 43 = .ok (.iconst 1, 1) := by decide +kernel
theorem dX2_putSack_44 : decode cX2_putSack 44 = .ok (.isub, 1) := by decide +kernel
theorem dX2_putSack_45 : decode cX2_putSack 45 = .ok (.iload 6, 2) := by decide +kernel
theorem dX2_putSack_47 : decode cX2_putSack 47 = .ok (.invokevirtual 75, 3) := by decide +kernel
theorem dX2_putSack_50 : decode cX2_putSack 50 = .ok (.iinc 6 (-1), 3) := by decide +kernel
theorem dX2_putSack_53 : decode cX2_putSack 53 = .ok (.goto (-20), 3) := by decide +kernel
theorem dX2_putSack_56 : decode cX2_putSack 56 = .ok (.aload_n 0, 1) := by decide +kernel
theorem dX2_putSack_57 : decode cX2_putSack 57 = .ok (.dup, 1) := by decide +kernel
theorem dX2_putSack_58 : decode cX2_putSack 58 = .ok (.getfield 39, 3) := by decide +kernel
theorem dX2_putSack_61 : decode cX2_putSack 61 = .ok (.iconst 1, 1) := by decide +kernel
theorem dX2_putSack_62 : decode cX2_putSack 62 = .ok (.iadd, 1) := by decide +kernel
theorem dX2_putSack_63 : decode cX2_putSack 63 = .ok (.putfield 39, 3) := by decide +kernel
theorem dX2_putSack_66 : decode cX2_putSack 66 = .ok (.aload_n 0, 1) := by decide +kernel
theorem dX2_putSack_67 : decode cX2_putSack 67 = .ok (.iload 5, 2) := by decide +kernel
theorem dX2_putSack_69 : decode cX2_putSack 69 = .ok (.invokevirtual 68, 3) := by decide +kernel
theorem dX2_putSack_72 : decode cX2_putSack 72 = .ok (.ifCond .eq 36, 3) := by decide +kernel
theorem dX2_putSack_75 : decode cX2_putSack 75 = .ok (.aload_n 0, 1) := by decide +kernel
theorem dX2_putSack_76 : decode cX2_putSack 76 = .ok (.getfield 42, 3) := by decide +kernel
theorem dX2_putSack_79 : decode cX2_putSack 79 = .ok (.iload 5, 2) := by decide +kernel
theorem dX2_putSack_81 : decode cX2_putSack 81 = .ok (.iload_n 1, 1) := by decide +kernel
theorem dX2_putSack_82 : decode cX2_putSack 82 = .ok (.iastore, 1) := by decide +kernel
theorem dX2_putSack_83 : decode cX2_putSack 83 = .ok (.aload_n 0, 1) := by decide +kernel
theorem dX2_putSack_84 : decode cX2_putSack 84 = .ok (.getfield 46, 3) := by decide +kernel
theorem dX2_putSack_87 : decode cX2_putSack 87 = .ok (.iload 5, 2) := by decide +kernel
theorem dX2_putSack_89 : decode cX2_putSack 89 = .ok (.iload_n 2, 1) := by decide +kernel
theorem dX2_putSack_90 : decode cX2_putSack 90 = .ok (.iastore, 1) := by decide +kernel
theorem dX2_putSack_91 : decode cX2_putSack 91 = .ok (.aload_n 0, 1) := by decide +kernel
theorem dX2_putSack_92 : decode cX2_putSack 92 = .ok (.getfield 49, 3) := by decide +kernel
theorem dX2_putSack_95 : decode cX2_putSack 95 = .ok (.iload 5, 2) := by decide +kernel
theorem dX2_putSack_97 : decode cX2_putSack 97 = .ok (.iload_n 3, 1) := by decide +kernel
theorem dX2_putSack_98 : decode cX2_putSack 98 = .ok (.iastore, 1) := by decide +kernel
theorem dX2_putSack_99 : decode cX2_putSack 99 = .ok (.aload_n 0, 1) := by decide +kernel
theorem dX2_putSack_100 : decode cX2_putSack 100 = .ok (.getfield 52, 3) := by decide +kernel
theorem dX2_putSack_103 : decode cX2_putSack 103 = .ok (.iload 5, 2) := by decide +kernel
theorem dX2_putSack_105 : decode cX2_putSack 105 = .ok (.iload 4, 2) := by decide +kernel
theorem dX2_putSack_107 : decode cX2_putSack 107 = .ok (.iastore, 1) := by decide +kernel
theorem dX2_putSack_108 : decode cX2_putSack 108 = .ok (.iload 5, 2) := by decide +kernel
theorem dX2_putSack_110 : decode cX2_putSack 110 = .ok (.ireturn, 1) := by decide +kernel
theorem dX2_placeFor_0 : decode cX2_placeFor 0 = .ok (.iconst 0, 1) := by decide +kernel
theorem dX2_placeFor_1 : decode cX2_placeFor 1 = .ok (.istore_n 3, 1) := by decide +kernel
theorem dX2_placeFor_2 : decode cX2_placeFor 2 = .ok (.iload_n 3, 1) := by decide +kernel
theorem dX2_placeFor_3 : decode cX2_placeFor 3 = .ok (.aload_n 0, 1) := by decide +kernel
theorem dX2_placeFor_4 : decode cX2_placeFor 4 = .ok (.getfield 39, 3) := by decide +kernel
theorem dX2_placeFor_7 : decode cX2_placeFor 7 = .ok (.if_icmp .ge 45, 3) := by decide +kernel
theorem dX2_placeFor_10 : decode cX2_placeFor 10 = .ok (.iload_n 3, 1) := by decide +kernel
theorem dX2_placeFor_11 : decode cX2_placeFor 11 = .ok (.bipush 6, 2) := by decide +kernel
theorem dX2_placeFor_13 : decode cX2_placeFor 13 = .ok (.if_icmp .ge 39, 3) := by decide +kernel
theorem dX2_placeFor_16 : decode cX2_placeFor 16 = .ok (.aload_n 0, 1) := by decide +kernel
theorem dX2_placeFor_17 : decode cX2_placeFor 17 = .ok (.getfield 52, 3) := by decide +kernel
theorem dX2_placeFor_20 : decode cX2_placeFor 20 = .ok (.iload_n 3, 1) := by decide +kernel
theorem dX2_placeFor_21 : decode cX2_placeFor 21 = .ok (.iaload, 1) := by decide +kernel
theorem dX2_placeFor_22 : decode cX2_placeFor 22 = .ok (.iload_n 2, 1) := by decide +kernel
theorem dX2_placeFor_23 : decode cX2_placeFor 23 = .ok (.if_icmp .lt 23, 3) := by decide +kernel
theorem dX2_placeFor_26 : decode cX2_placeFor 26 = .ok (.aload_n 0, 1) := by decide +kernel
theorem dX2_placeFor_27 : decode cX2_placeFor 27 = .ok (.getfield 52, 3) := by decide +kernel
theorem dX2_placeFor_30 : decode cX2_placeFor 30 = .ok (.iload_n 3, 1) := by decide +kernel
theorem dX2_placeFor_31 : decode cX2_placeFor 31 = .ok (.iaload, 1) := by decide +kernel
theorem dX2_placeFor_32 : decode cX2_placeFor 32 = .ok (.iload_n 2, 1) := by decide +kernel
theorem dX2_placeFor_33 : decode cX2_placeFor 33 = .ok (.if_icmp .ne 19, 3) := by decide +kernel
theorem dX2_placeFor_36 : decode cX2_placeFor 36 = .ok (.aload_n 0, 1) := by decide +kernel
theorem dX2_placeFor_37 : decode cX2_placeFor 37 = .ok (.getfield 42, 3) := by decide +kernel
theorem dX2_placeFor_40 : decode cX2_placeFor 40 = .ok (.iload_n 3, 1) := by decide +kernel
theorem dX2_placeFor_41 : decode cX2_placeFor 41 = .ok (.iaload, 1) := by decide +kernel
theorem dX2_placeFor_42 : decode cX2_placeFor 42 = .ok (.iload_n 1, 1) := by decide +kernel
theorem dX2_placeFor_43 : decode cX2_placeFor 43 = .ok (.if_icmp .ge 9, 3) := by decide +kernel
theorem dX2_placeFor_46 : decode cX2_placeFor 46 = .ok (.iinc 3 1, 3) := by decide +kernel
theorem dX2_placeFor_49 : decode cX2_placeFor 49 = .ok (.goto (-47), 3) := by decide +kernel
theorem dX2_placeFor_52 : decode cX2_placeFor 52 = .ok (.iload_n 3, 1) := by decide +kernel
theorem dX2_placeFor_53 : decode cX2_placeFor 53 = .ok (.ireturn, 1) := by decide +kernel
theorem dX2_dropSack_0 : decode cX2_dropSack 0 = .ok (.aload_n 0, 1) := by decide +kernel
theorem dX2_dropSack_1 : decode cX2_dropSack 1 = .ok (.iload_n 1, 1) := by decide +kernel
theorem dX2_dropSack_2 : decode cX2_dropSack 2 = .ok (.invokevirtual 68, 3) := by decide +kernel
theorem dX2_dropSack_5 : decode cX2_dropSack 5 = .ok (.ifCond .ne 4, 3) := by decide +kernel
theorem dX2_dropSack_8 : decode cX2_dropSack 8 = .ok (.return_, 1) := by decide +kernel
theorem dX2_dropSack_9 : decode cX2_dropSack 9 = .ok (.iload_n 1, 1) := by decide +kernel
theorem dX2_dropSack_10 : decode cX2_dropSack 10 = .ok (.istore_n 2, 1) := by decide +kernel
theorem dX2_dropSack_11 : decode cX2_dropSack 11 = .ok (.iload_n 2, 1) := by decide +kernel
theorem dX2_dropSack_12 : decode cX2_dropSack 12 = .ok (.aload_n 0, 1) := by decide +kernel
theorem dX2_dropSack_13 : decode cX2_dropSack 13 = .ok (.getfield 39, 3) := by decide +kernel
theorem dX2_dropSack_16 : decode cX2_dropSack 16 = .ok (.iconst 1, 1) := by decide +kernel
theorem dX2_dropSack_17 : decode cX2_dropSack 17 = .ok (.isub, 1) := by decide +kernel
theorem dX2_dropSack_18 : decode cX2_dropSack 18 = .ok (.if_icmp .ge 17, 3) := by decide +kernel
theorem dX2_dropSack_21 : decode cX2_dropSack 21 = .ok (.aload_n 0, 1) := by decide +kernel
theorem dX2_dropSack_22 : decode cX2_dropSack 22 = .ok (.iload_n 2, 1) := by decide +kernel
theorem dX2_dropSack_23 : decode cX2_dropSack 23 = .ok (.iconst 1, 1) := by decide +kernel
theorem dX2_dropSack_24 : decode cX2_dropSack 24 = .ok (.iadd, 1) := by decide +kernel
theorem dX2_dropSack_25 : decode cX2_dropSack 25 = .ok (.iload_n 2, 1) := by decide +kernel
theorem dX2_dropSack_26 : decode cX2_dropSack 26 = .ok (.invokevirtual 75, 3) := by decide +kernel
theorem dX2_dropSack_29 : decode cX2_dropSack 29 = .ok (.iinc 2 1, 3) := by decide +kernel
theorem dX2_dropSack_32 : decode cX2_dropSack 32 = .ok (.goto (-21), 3) := by decide +kernel
theorem dX2_dropSack_35 : decode cX2_dropSack 35 = .ok (.aload_n 0, 1) := by decide +kernel
theorem dX2_dropSack_36 : decode cX2_dropSack 36 = .ok (.dup, 1) := by decide +kernel
theorem dX2_dropSack_37 : decode cX2_dropSack 37 = .ok (.getfield 39, 3) := by decide +kernel
theorem dX2_dropSack_40 : decode cX2_dropSack 40 = .ok (.iconst 1, 1) := by decide +kernel
theorem dX2_dropSack_41 : decode cX2_dropSack 41 = .ok (.isub, 1) := by decide +kernel
theorem dX2_dropSack_42 : decode cX2_dropSack 42 = .ok (.putfield 39, 3) := by decide +kernel
theorem dX2_dropSack_45 : decode cX2_dropSack 45 = .ok (.return_, 1) := by decide +kernel
theorem dX2_moveSack_0 : decode cX2_moveSack 0 = .ok (.iload_n 1, 1) := by decide +kernel
theorem dX2_moveSack_1 : decode cX2_moveSack 1 = .ok (.ifCond .lt 19, 3) := by decide +kernel
theorem dX2_moveSack_4 : decode cX2_moveSack 4 = .ok (.iload_n 1, 1) := by decide +kernel
theorem dX2_moveSack_5 : decode cX2_moveSack 5 = .ok (.bipush 6, 2) := by decide +kernel
theorem dX2_moveSack_7 : decode cX2_moveSack 7 = .ok (.if_icmp .ge 13, 3) := by decide +kernel
theorem dX2_moveSack_10 : decode cX2_moveSack 10 = .ok (.iload_n 2, 1) := by decide +kernel
theorem dX2_moveSack_11 : decode cX2_moveSack 11 = .ok (.ifCond .lt 9, 3) := by decide +kernel
theorem dX2_moveSack_14 : decode cX2_moveSack 14 = .ok (.iload_n 2, 1) := by decide +kernel
theorem dX2_moveSack_15 : decode cX2_moveSack 15 = .ok (.bipush 6, 2) := by decide +kernel
theorem dX2_moveSack_17 : decode cX2_moveSack 17 = .ok (.if_icmp .lt 4, 3) := by decide +kernel
theorem dX2_moveSack_20 : decode cX2_moveSack 20 = .ok (.return_, 1) := by decide +kernel
theorem dX2_moveSack_21 : decode cX2_moveSack 21 = .ok (.aload_n 0, 1) := by decide +kernel
theorem dX2_moveSack_22 : decode cX2_moveSack 22 = .ok (.getfield 42, 3) := by decide +kernel
theorem dX2_moveSack_25 : decode cX2_moveSack 25 = .ok (.iload_n 2, 1) := by decide +kernel
theorem dX2_moveSack_26 : decode cX2_moveSack 26 = .ok (.aload_n 0, 1) := by decide +kernel
theorem dX2_moveSack_27 : decode cX2_moveSack 27 = .ok (.getfield 42, 3) := by decide +kernel
theorem dX2_moveSack_30 : decode cX2_moveSack 30 = .ok (.iload_n 1, 1) := by decide +kernel
theorem dX2_moveSack_31 : decode cX2_moveSack 31 = .ok (.iaload, 1) := by decide +kernel
theorem dX2_moveSack_32 : decode cX2_moveSack 32 = .ok (.iastore, 1) := by decide +kernel
theorem dX2_moveSack_33 : decode cX2_moveSack 33 = .ok (.aload_n 0, 1) := by decide +kernel
theorem dX2_moveSack_34 : decode cX2_moveSack 34 = .ok (.getfield 46, 3) := by decide +kernel
theorem dX2_moveSack_37 : decode cX2_moveSack 37 = .ok (.iload_n 2, 1) := by decide +kernel
theorem dX2_moveSack_38 : decode cX2_moveSack 38 = .ok (.aload_n 0, 1) := by decide +kernel
theorem dX2_moveSack_39 : decode cX2_moveSack 39 = .ok (.getfield 46, 3) := by decide +kernel
theorem dX2_moveSack_42 : decode cX2_moveSack 42 = .ok (.iload_n 1, 1) := by decide +kernel
theorem dX2_moveSack_43 : decode cX2_moveSack 43 = .ok (.iaload, 1) := by decide +kernel
theorem dX2_moveSack_44 : decode cX2_moveSack 44 = .ok (.iastore, 1) := by decide +kernel
theorem dX2_moveSack_45 : decode cX2_moveSack 45 = .ok (.aload_n 0, 1) := by decide +kernel
theorem dX2_moveSack_46 : decode cX2_moveSack 46 = .ok (.getfield 49, 3) := by decide +kernel
theorem dX2_moveSack_49 : decode cX2_moveSack 49 = .ok (.iload_n 2, 1) := by decide +kernel
theorem dX2_moveSack_50 : decode cX2_moveSack 50 = .ok (.aload_n 0, 1) := by decide +kernel
theorem dX2_moveSack_51 : decode cX2_moveSack 51 = .ok (.getfield 49, 3) := by decide +kernel
theorem dX2_moveSack_54 : decode cX2_moveSack 54 = .ok (.iload_n 1, 1) := by decide +kernel
theorem dX2_moveSack_55 : decode cX2_moveSack 55 = .ok (.iaload, 1) := by decide +kernel
theorem dX2_moveSack_56 : decode cX2_moveSack 56 = .ok (.iastore, 1) := by decide +kernel
theorem dX2_moveSack_57 : decode cX2_moveSack 57 = .ok (.aload_n 0, 1) := by decide +kernel
theorem dX2_moveSack_58 : decode cX2_moveSack 58 = .ok (.getfield 52, 3) := by decide +kernel
theorem dX2_moveSack_61 : decode cX2_moveSack 61 = .ok (.iload_n 2, 1) := by decide +kernel
theorem dX2_moveSack_62 : decode cX2_moveSack 62 = .ok (.aload_n 0, 1) := by decide +kernel
theorem dX2_moveSack_63 : decode cX2_moveSack 63 = .ok (.getfield 52, 3) := by decide +kernel
theorem dX2_moveSack_66 : decode cX2_moveSack 66 = .ok (.iload_n 1, 1) := by decide +kernel
theorem dX2_moveSack_67 : decode cX2_moveSack 67 = .ok (.iaload, 1) := by decide +kernel
theorem dX2_moveSack_68 : decode cX2_moveSack 68 = .ok (.iastore, 1) := by decide +kernel
theorem dX2_moveSack_69 : decode cX2_moveSack 69 = .ok (.return_, 1) := by decide +kernel
theorem dX2_grindFirst_0 : decode cX2_grindFirst 0 = .ok (.aload_n 0, 1) := by decide +kernel
theorem dX2_grindFirst_1 : decode cX2_grindFirst 1 = .ok (.iconst 0, 1) := by decide +kernel
theorem dX2_grindFirst_2 : decode cX2_grindFirst 2 = .ok (.invokevirtual 68, 3) := by decide +kernel
theorem dX2_grindFirst_5 : decode cX2_grindFirst 5 = .ok (.ifCond .eq 13, 3) := by decide +kernel
theorem dX2_grindFirst_8 : decode cX2_grindFirst 8 = .ok (.aload_n 0, 1) := by decide +kernel
theorem dX2_grindFirst_9 : decode cX2_grindFirst 9 = .ok (.getfield 49, 3) := by decide +kernel
theorem dX2_grindFirst_12 : decode cX2_grindFirst 12 = .ok (.iconst 0, 1) := by decide +kernel
theorem dX2_grindFirst_13 : decode cX2_grindFirst 13 = .ok (.dup2, 1) := by decide +kernel
theorem dX2_grindFirst_14 : decode cX2_grindFirst 14 = .ok (.iaload, 1) := by decide +kernel
theorem dX2_grindFirst_15 : decode cX2_grindFirst 15 = .ok (.iload_n 1, 1) := by decide +kernel
theorem dX2_grindFirst_16 : decode cX2_grindFirst 16 = .ok (.isub, 1) := by decide +kernel
theorem dX2_grindFirst_17 : decode cX2_grindFirst 17 = .ok (.iastore, 1) := by decide +kernel
theorem dX2_grindFirst_18 : decode cX2_grindFirst 18 = .ok (.return_, 1) := by decide +kernel
theorem dX3_init_0 : decode cX3_init 0 = .ok (.aload_n 0, 1) := by decide +kernel
theorem dX3_init_1 : decode cX3_init 1 = .ok (.invokespecial 3, 3) := by decide +kernel
theorem dX3_init_4 : decode cX3_init 4 = .ok (.aload_n 0, 1) := by decide +kernel
theorem dX3_init_5 : decode cX3_init 5 = .ok (.iconst (-1), 1) := by decide +kernel
theorem dX3_init_6 : decode cX3_init 6 = .ok (.putfield 9, 3) := by decide +kernel
theorem dX3_init_9 : decode cX3_init 9 = .ok (.aload_n 0, 1) := by decide +kernel
theorem dX3_init_10 : decode cX3_init 10 = .ok (.iconst 3, 1) := by decide +kernel
theorem dX3_init_11 : decode cX3_init 11 = .ok (.newarray .int, 2) := by decide +kernel
theorem dX3_init_13 : decode cX3_init 13 = .ok (.putfield 15, 3) := by decide +kernel
theorem dX3_init_16 : decode cX3_init 16 = .ok (.aload_n 0, 1) := by decide +kernel
theorem dX3_init_17 : decode cX3_init 17 = .ok (.iconst 0, 1) := by decide +kernel
theorem dX3_init_18 : decode cX3_init 18 = .ok (.putfield 19, 3) := by decide +kernel
theorem dX3_init_21 : decode cX3_init 21 = .ok (.aload_n 0, 1) := by decide +kernel
theorem dX3_init_22 : decode cX3_init 22 = .ok (.iconst 0, 1) := by decide +kernel
theorem dX3_init_23 : decode cX3_init 23 = .ok (.putfield 22, 3) := by decide +kernel
theorem dX3_init_26 : decode cX3_init 26 = .ok (.return_, 1) := by decide +kernel
theorem dX3_begin_0 : decode cX3_begin 0 = .ok (.aload_n 0, 1) := by decide +kernel
theorem dX3_begin_1 : decode cX3_begin 1 = .ok (.iconst (-1), 1) := by decide +kernel
theorem dX3_begin_2 : decode cX3_begin 2 = .ok (.putfield 9, 3) := by decide +kernel
theorem dX3_begin_5 : decode cX3_begin 5 = .ok (.aload_n 0, 1) := by decide +kernel
theorem dX3_begin_6 : decode cX3_begin 6 = .ok (.iconst 0, 1) := by decide +kernel
theorem dX3_begin_7 : decode cX3_begin 7 = .ok (.invokevirtual 25, 3) := by decide +kernel
theorem dX3_begin_10 : decode cX3_begin 10 = .ok (.return_, 1) := by decide +kernel
theorem dX3_beginNumber_0 : decode cX3_beginNumber 0 = .ok (.aload_n 0, 1) := by decide +kernel
theorem dX3_beginNumber_1 : decode cX3_beginNumber 1 = .ok (.iload_n 1, 1) := by decide +kernel
theorem dX3_beginNumber_2 : decode cX3_beginNumber 2 = .ok (.putfield 19, 3) := by decide +kernel
theorem dX3_beginNumber_5 : decode cX3_beginNumber 5 = .ok (.aload_n 0, 1) := by decide +kernel
theorem dX3_beginNumber_6 : decode cX3_beginNumber 6 = .ok (.iconst 0, 1) := by decide +kernel
theorem dX3_beginNumber_7 : decode cX3_beginNumber 7 = .ok (.putfield 22, 3) := by decide +kernel
theorem dX3_beginNumber_10 : decode cX3_beginNumber 10 = .ok (.iload_n 1, 1) := by decide +kernel
theorem dX3_beginNumber_11 : decode cX3_beginNumber 11 = .ok (.ifCond .lt 15, 3) := by decide +kernel
theorem dX3_beginNumber_14 : decode cX3_beginNumber 14 = .ok (.iload_n 1, 1) := by decide +kernel
theorem dX3_beginNumber_15 : decode cX3_beginNumber 15 = .ok (.iconst 3, 1) := by decide +kernel
theorem dX3_beginNumber_16 : decode cX3_beginNumber 16 = .ok (.if_icmp .ge 10, 3) := by decide +kernel
theorem dX3_beginNumber_19 : decode cX3_beginNumber 19 = .ok (.aload_n 0, 1) := by decide +kernel
theorem dX3_beginNumber_20 : decode cX3_beginNumber 20 = .ok (.getfield 15, 3) := by decide +kernel
theorem dX3_beginNumber_23 : decode cX3_beginNumber 23 = .ok (.iload_n 1, 1) := by decide +kernel
theorem dX3_beginNumber_24 : decode cX3_beginNumber 24 = .ok (.iconst 0, 1) := by decide +kernel
theorem dX3_beginNumber_25 : decode cX3_beginNumber 25 = .ok (.iastore, 1) := by decide +kernel
theorem dX3_beginNumber_26 : decode cX3_beginNumber 26 = .ok (.return_, 1) := by decide +kernel
theorem dX3_numberAt_0 : decode cX3_numberAt 0 = .ok (.iload_n 1, 1) := by decide +kernel
theorem dX3_numberAt_1 : decode cX3_numberAt 1 = .ok (.ifCond .lt 17, 3) := by decide +kernel
theorem dX3_numberAt_4 : decode cX3_numberAt 4 = .ok (.iload_n 1, 1) := by decide +kernel
theorem dX3_numberAt_5 : decode cX3_numberAt 5 = .ok (.iconst 3, 1) := by decide +kernel
theorem dX3_numberAt_6 : decode cX3_numberAt 6 = .ok (.if_icmp .ge 12, 3) := by decide +kernel
theorem dX3_numberAt_9 : decode cX3_numberAt 9 = .ok (.aload_n 0, 1) := by decide +kernel
theorem dX3_numberAt_10 : decode cX3_numberAt 10 = .ok (.getfield 15, 3) := by decide +kernel
theorem dX3_numberAt_13 : decode cX3_numberAt 13 = .ok (.iload_n 1, 1) := by decide +kernel
theorem dX3_numberAt_14 : decode cX3_numberAt 14 = .ok (.iaload, 1) := by decide +kernel
theorem dX3_numberAt_15 : decode cX3_numberAt 15 = .ok (.goto 4, 3) := by decide +kernel
theorem dX3_numberAt_18 : decode cX3_numberAt 18 = .ok (.iconst (-1), 1) := by decide +kernel
theorem dX3_numberAt_19 : decode cX3_numberAt 19 = .ok (.ireturn, 1) := by decide +kernel
theorem dX3_take_0 : decode cX3_take 0 = .ok (.aload_n 0, 1) := by decide +kernel
theorem dX3_take_1 : decode cX3_take 1 = .ok (.getfield 9, 3) := by decide +kernel
theorem dX3_take_4 : decode cX3_take 4 = .ok (.iconst (-1), 1) := by decide +kernel
theorem dX3_take_5 : decode cX3_take 5 = .ok (.if_icmp .ne 9, 3) := by decide +kernel
theorem dX3_take_8 : decode cX3_take 8 = .ok (.aload_n 0, 1) := by decide +kernel
theorem dX3_take_9 : decode cX3_take 9 = .ok (.iload_n 1, 1) := by decide +kernel
theorem dX3_take_10 : decode cX3_take 10 = .ok (.invokevirtual 29, 3) := by decide +kernel
theorem dX3_take_13 : decode cX3_take 13 = .ok (.ireturn, 1) := by decide +kernel
theorem dX3_take_14 : decode cX3_take 14 = .ok (.iload_n 1, 1) := by decide +kernel
theorem dX3_take_15 : decode cX3_take 15 = .ok (.bipush 48, 2) := by decide +kernel
theorem dX3_take_17 : decode cX3_take 17 = .ok (.if_icmp .lt 18, 3) := by decide +kernel
theorem dX3_take_20 : decode cX3_take 20 = .ok (.iload_n 1, 1) := by decide +kernel
theorem dX3_take_21 : decode cX3_take 21 = .ok (.bipush 57, 2) := by decide +kernel
theorem dX3_take_23 : decode cX3_take 23 = .ok (.if_icmp .gt 12, 3) := by decide +kernel
theorem dX3_take_26 : decode cX3_take 26 = .ok (.aload_n 0, 1) := by decide +kernel
theorem dX3_take_27 : decode cX3_take 27 = .ok (.iload_n 1, 1) := by decide +kernel
theorem dX3_take_28 : decode cX3_take 28 = .ok (.bipush 48, 2) := by decide +kernel
theorem dX3_take_30 : decode cX3_take 30 = .ok (.isub, 1) := by decide +kernel
theorem dX3_take_31 : decode cX3_take 31 = .ok (.invokevirtual 33, 3) := by decide +kernel
theorem dX3_take_34 : decode cX3_take 34 = .ok (.ireturn, 1) := by decide +kernel
theorem dX3_take_35 : decode cX3_take 35 = .ok (.iload_n 1, 1) := by decide +kernel
theorem dX3_take_36 : decode cX3_take 36 = .ok (.bipush 44, 2) := by decide +kernel
theorem dX3_take_38 : decode cX3_take 38 = .ok (.if_icmp .ne 8, 3) := by decide +kernel
theorem dX3_take_41 : decode cX3_take 41 = .ok (.aload_n 0, 1) := by decide +kernel
theorem dX3_take_42 : decode cX3_take 42 = .ok (.invokevirtual 36, 3) := by decide +kernel
theorem dX3_take_45 : decode cX3_take 45 = .ok (.ireturn, 1) := by decide +kernel
theorem dX3_take_46 : decode cX3_take 46 = .ok (.iload_n 1, 1) := by decide +kernel
theorem dX3_take_47 : decode cX3_take 47 = .ok (.bipush 59, 2) := by decide +kernel
theorem dX3_take_49 : decode cX3_take 49 = .ok (.if_icmp .ne 14, 3) := by decide +kernel
theorem dX3_take_52 : decode cX3_take 52 = .ok (.aload_n 0, 1) := by decide +kernel
theorem dX3_take_53 : decode cX3_take 53 = .ok (.invokevirtual 40, 3) := by decide +kernel
theorem dX3_take_56 : decode cX3_take 56 = .ok (.ifCond .eq 7, 3) := by decide +kernel
theorem dX3_take_59 : decode cX3_take 59 = .ok (.iconst 1, 1) := by decide +kernel
theorem dX3_take_60 : decode cX3_take 60 = .ok (.goto 4, 3) := by decide +kernel
theorem dX3_take_63 : decode cX3_take 63 = .ok (.iconst 0, 1) := by decide +kernel
theorem dX3_take_64 : decode cX3_take 64 = .ok (.ireturn, 1) := by decide +kernel
theorem dX3_partIsWhole_0 : decode cX3_partIsWhole 0 = .ok (.aload_n 0, 1) := by decide +kernel
theorem dX3_partIsWhole_1 : decode cX3_partIsWhole 1 = .ok (.getfield 9, 3) := by decide +kernel
theorem dX3_partIsWhole_4 : decode cX3_partIsWhole 4 = .ok (.iconst (-1), 1) := by decide +kernel
theorem dX3_partIsWhole_5 : decode cX3_partIsWhole 5 = .ok (.if_icmp .eq 25, 3) := by decide +kernel
theorem dX3_partIsWhole_8 : decode cX3_partIsWhole 8 = .ok (.aload_n 0, 1) := by decide +kernel
theorem dX3_partIsWhole_9 : decode cX3_partIsWhole 9 = .ok (.getfield 19, 3) := by decide +kernel
theorem dX3_partIsWhole_12 : decode cX3_partIsWhole 12 = .ok (.aload_n 0, 1) := by decide +kernel
theorem dX3_partIsWhole_13 : decode cX3_partIsWhole 13 = .ok (.invokevirtual 43, 3) := by decide +kernel
theorem dX3_partIsWhole_16 : decode cX3_partIsWhole 16 = .ok (.if_icmp .ne 14, 3) := by decide +kernel
theorem dX3_partIsWhole_19 : decode cX3_partIsWhole 19 = .ok (.aload_n 0, 1) := by decide +kernel
theorem dX3_partIsWhole_20 : decode cX3_partIsWhole 20 = .ok (.invokevirtual 47, 3) := by decide +kernel
theorem dX3_partIsWhole_23 : decode cX3_partIsWhole 23 = .ok (.ifCond .eq 7, 3) := by decide +kernel
theorem dX3_partIsWhole_26 : decode cX3_partIsWhole 26 = .ok (.iconst 1, 1) := by decide +kernel
theorem dX3_partIsWhole_27 : decode cX3_partIsWhole 27 = .ok (.goto 4, 3) := by decide +kernel
theorem dX3_partIsWhole_30 : decode cX3_partIsWhole 30 = .ok (.iconst 0, 1) := by decide +kernel
theorem dX3_partIsWhole_31 : decode cX3_partIsWhole 31 = .ok (.ireturn, 1) := by decide +kernel
theorem dX3_takeKind_0 : decode cX3_takeKind 0 = .ok (.iload_n 1, 1) := by decide +kernel
theorem dX3_takeKind_1 : decode cX3_takeKind 1 = .ok (.bipush 115, 2) := by decide +kernel
theorem dX3_takeKind_3 : decode cX3_takeKind 3 = .ok (.if_icmp .eq 17, 3) := by decide +kernel
theorem dX3_takeKind_6 : decode cX3_takeKind 6 = .ok (.iload_n 1, 1) := by decide +kernel
theorem dX3_takeKind_7 : decode cX3_takeKind 7 = .ok (.bipush 103, 2) := by decide +kernel
theorem dX3_takeKind_9 : decode cX3_takeKind 9 = .ok (.if_icmp .eq 11, 3) := by decide +kernel
theorem dX3_takeKind_12 : decode cX3_takeKind 12 = .ok (.iload_n 1, 1) := by decide +kernel
theorem dX3_takeKind_13 : decode cX3_takeKind 13 = .ok (.bipush 43, 2) := by decide +kernel
theorem dX3_takeKind_15 : decode cX3_takeKind 15 = .ok (.if_icmp .eq 5, 3) := by decide +kernel
theorem dX3_takeKind_18 : decode cX3_takeKind 18 = .ok (.iconst 0, 1) := by decide +kernel
theorem dX3_takeKind_19 : decode cX3_takeKind 19 = .ok (.ireturn, 1) := by decide +kernel
theorem dX3_takeKind_20 : decode cX3_takeKind 20 = .ok (.aload_n 0, 1) := by decide +kernel
theorem dX3_takeKind_21 : decode cX3_takeKind 21 = .ok (.iload_n 1, 1) := by decide +kernel
theorem dX3_takeKind_22 : decode cX3_takeKind 22 = .ok (.putfield 9, 3) := by decide +kernel
theorem dX3_takeKind_25 : decode cX3_takeKind 25 = .ok (.iconst 1, 1) := by decide +kernel
theorem dX3_takeKind_26 : decode cX3_takeKind 26 = .ok (.ireturn, 1) := by decide +kernel
theorem dX3_takeDigit_0 : decode cX3_takeDigit 0 = .ok (.aload_n 0, 1) := by decide +kernel
theorem dX3_takeDigit_1 : decode cX3_takeDigit 1 = .ok (.aload_n 0, 1) := by decide +kernel
theorem dX3_takeDigit_2 : decode cX3_takeDigit 2 = .ok (.getfield 19, 3) := by decide +kernel
theorem dX3_takeDigit_5 : decode cX3_takeDigit 5 = .ok (.invokevirtual 50, 3) := by decide +kernel
theorem dX3_takeDigit_8 : decode cX3_takeDigit 8 = .ok (.istore_n 2, 1) := by decide +kernel
theorem dX3_takeDigit_9 : decode cX3_takeDigit 9 = .ok (.aload_n 0, 1) := by decide +kernel
theorem dX3_takeDigit_10 : decode cX3_takeDigit 10 = .ok (.getfield 22, 3) := by decide +kernel
theorem dX3_takeDigit_13 : decode cX3_takeDigit 13 = .ok (.ifCond .le 11, 3) := by decide +kernel
theorem dX3_takeDigit_16 : decode cX3_takeDigit 16 = .ok (.iload_n 2, 1) := by decide +kernel
theorem dX3_takeDigit_17 : decode cX3_takeDigit 17 = .ok (.ifCond .ne 7, 3) := by decide +kernel
theorem dX3_takeDigit_20 : decode cX3_takeDigit 20 = .ok (.iconst 1, 1) := by decide +kernel
theorem dX3_takeDigit_21 : decode cX3_takeDigit 21 = .ok (.goto 4, 3) := by decide +kernel
theorem dX3_takeDigit_24 : decode cX3_takeDigit 24 = .ok (.iconst 0, 1) := by decide +kernel
theorem dX3_takeDigit_25 : decode cX3_takeDigit 25 = .ok (.istore_n 3, 1) := by decide +kernel
theorem dX3_takeDigit_26 : decode cX3_takeDigit 26 = .ok (.iload_n 2, 1) := by decide +kernel
theorem dX3_takeDigit_27 : decode cX3_takeDigit 27 = .ok (.bipush 10, 2) := by decide +kernel
theorem dX3_takeDigit_29 : decode cX3_takeDigit 29 = .ok (.imul, 1) := by decide +kernel
theorem dX3_takeDigit_30 : decode cX3_takeDigit 30 = .ok (.iload_n 1, 1) := by decide +kernel
theorem dX3_takeDigit_31 : decode cX3_takeDigit 31 = .ok (.iadd, 1) := by decide +kernel
theorem dX3_takeDigit_32 : decode cX3_takeDigit 32 = .ok (.istore 4, 2) := by decide +kernel
theorem dX3_takeDigit_34 : decode cX3_takeDigit 34 = .ok (.iload_n 3, 1) := by decide +kernel
theorem dX3_takeDigit_35 : decode cX3_takeDigit 35 = .ok (.ifCond .ne 27, 3) := by decide +kernel
theorem dX3_takeDigit_38 : decode cX3_takeDigit 38 = .ok (.aload_n 0, 1) := by decide +kernel
theorem dX3_takeDigit_39 : decode cX3_takeDigit 39 = .ok (.iload 4, 2) := by decide +kernel
theorem dX3_takeDigit_41 : decode cX3_takeDigit 41 = .ok (.invokevirtual 54, 3) := by decide +kernel
theorem dX3_takeDigit_44 : decode cX3_takeDigit 44 = .ok (.ifCond .eq 18, 3) := by decide +kernel
theorem dX3_takeDigit_47 : decode cX3_takeDigit 47 = .ok (.aload_n 0, 1) := by decide +kernel
theorem dX3_takeDigit_48 : decode cX3_takeDigit 48 = .ok (.getfield 19, 3) := by decide +kernel
theorem dX3_takeDigit_51 : decode cX3_takeDigit 51 = .ok (.ifCond .lt 11, 3) := by decide +kernel
theorem dX3_takeDigit_54 : decode cX3_takeDigit 54 = .ok (.aload_n 0, 1) := by decide +kernel
theorem dX3_takeDigit_55 : decode cX3_takeDigit 55 = .ok (.getfield 19, 3) := by decide +kernel
theorem dX3_takeDigit_58 : decode cX3_takeDigit 58 = .ok (.iconst 3, 1) := by decide +kernel
theorem dX3_takeDigit_59 : decode cX3_takeDigit 59 = .ok (.if_icmp .lt 5, 3) := by decide +kernel
theorem dX3_takeDigit_62 : decode cX3_takeDigit 62 = .ok (.iconst 0, 1) := by decide +kernel
theorem dX3_takeDigit_63 : decode cX3_takeDigit 63 = .ok (.ireturn, 1) := by decide +kernel
theorem dX3_takeDigit_64 : decode cX3_takeDigit 64 = .ok (.aload_n 0, 1) := by decide +kernel
theorem dX3_takeDigit_65 : decode cX3_takeDigit 65 = .ok (.getfield 15, 3) := by decide +kernel
theorem dX3_takeDigit_68 : decode cX3_takeDigit 68 = .ok (.aload_n 0, 1) := by decide +kernel
theorem dX3_takeDigit_69 : decode cX3_takeDigit 69 = .ok (.getfield 19, 3) := by decide +kernel
theorem dX3_takeDigit_72 : decode cX3_takeDigit 72 = .ok (.iload 4, 2) := by decide +kernel
theorem dX3_takeDigit_74 : decode cX3_takeDigit 74 = .ok (.iastore, 1) := by decide +kernel
theorem dX3_takeDigit_75 : decode cX3_takeDigit 75 = .ok (.aload_n 0, 1) := by decide +kernel
theorem dX3_takeDigit_76 : decode cX3_takeDigit 76 = .ok (.dup, 1) := by decide +kernel
theorem dX3_takeDigit_77 : decode cX3_takeDigit 77 = .ok (.getfield 22, 3) := by decide +kernel
theorem dX3_takeDigit_80 : decode cX3_takeDigit 80 = .ok (.iconst 1, 1) := by decide +kernel
theorem dX3_takeDigit_81 : decode cX3_takeDigit 81 = .ok (.iadd, 1) := by decide +kernel
theorem dX3_takeDigit_82 : decode cX3_takeDigit 82 = .ok (.putfield 22, 3) := by decide +kernel
theorem dX3_takeDigit_85 : decode cX3_takeDigit 85 = .ok (.iconst 1, 1) := by decide +kernel
theorem dX3_takeDigit_86 : decode cX3_takeDigit 86 = .ok (.ireturn, 1) := by decide +kernel
theorem dX3_takeComma_0 : decode cX3_takeComma 0 = .ok (.aload_n 0, 1) := by decide +kernel
theorem dX3_takeComma_1 : decode cX3_takeComma 1 = .ok (.invokevirtual 47, 3) := by decide +kernel
theorem dX3_takeComma_4 : decode cX3_takeComma 4 = .ok (.ifCond .eq 14, 3) := by decide +kernel
theorem dX3_takeComma_7 : decode cX3_takeComma 7 = .ok (.aload_n 0, 1) := by decide +kernel
theorem dX3_takeComma_8 : decode cX3_takeComma 8 = .ok (.getfield 19, 3) := by decide +kernel
theorem dX3_takeComma_11 : decode cX3_takeComma 11 = .ok (.aload_n 0, 1) := by decide +kernel
theorem dX3_takeComma_12 : decode cX3_takeComma 12 = .ok (.invokevirtual 43, 3) := by decide +kernel
theorem dX3_takeComma_15 : decode cX3_takeComma 15 = .ok (.if_icmp .lt 5, 3) := by decide +kernel
theorem dX3_takeComma_18 : decode cX3_takeComma 18 = .ok (.iconst 0, 1) := by decide +kernel
theorem dX3_takeComma_19 : decode cX3_takeComma 19 = .ok (.ireturn, 1) := by decide +kernel
theorem dX3_takeComma_20 : decode cX3_takeComma 20 = .ok (.aload_n 0, 1) := by decide +kernel
theorem dX3_takeComma_21 : decode cX3_takeComma 21 = .ok (.aload_n 0, 1) := by decide +kernel
theorem dX3_takeComma_22 : decode cX3_takeComma 22 = .ok (.getfield 19, 3) := by decide +kernel
theorem dX3_takeComma_25 : decode cX3_takeComma 25 = .ok (.iconst 1, 1) := by decide +kernel
theorem dX3_takeComma_26 : decode cX3_takeComma 26 = .ok (.iadd, 1) := by decide +kernel
theorem dX3_takeComma_27 : decode cX3_takeComma 27 = .ok (.invokevirtual 25, 3) := by decide +kernel
theorem dX3_takeComma_30 : decode cX3_takeComma 30 = .ok (.iconst 1, 1) := by decide +kernel
theorem dX3_takeComma_31 : decode cX3_takeComma 31 = .ok (.ireturn, 1) := by decide +kernel
theorem dX3_takeSeparator_0 : decode cX3_takeSeparator 0 = .ok (.aload_n 0, 1) := by decide +kernel
theorem dX3_takeSeparator_1 : decode cX3_takeSeparator 1 = .ok (.invokevirtual 57, 3) := by decide +kernel
theorem dX3_takeSeparator_4 : decode cX3_takeSeparator 4 = .ok (.ifCond .ne 5, 3) := by decide +kernel
theorem dX3_takeSeparator_7 : decode cX3_takeSeparator 7 = .ok (.iconst 0, 1) := by decide +kernel
theorem dX3_takeSeparator_8 : decode cX3_takeSeparator 8 = .ok (.ireturn, 1) := by decide +kernel
theorem dX3_takeSeparator_9 : decode cX3_takeSeparator 9 = .ok (.aload_n 0, 1) := by decide +kernel
theorem dX3_takeSeparator_10 : decode cX3_takeSeparator 10 = .ok (.invokevirtual 60, 3) := by decide +kernel
theorem dX3_takeSeparator_13 : decode cX3_takeSeparator 13 = .ok (.iconst 1, 1) := by decide +kernel
theorem dX3_takeSeparator_14 : decode cX3_takeSeparator 14 = .ok (.ireturn, 1) := by decide +kernel
theorem dX3_numberIsWhole_0 : decode cX3_numberIsWhole 0 = .ok (.aload_n 0, 1) := by decide +kernel
theorem dX3_numberIsWhole_1 : decode cX3_numberIsWhole 1 = .ok (.aload_n 0, 1) := by decide +kernel
theorem dX3_numberIsWhole_2 : decode cX3_numberIsWhole 2 = .ok (.getfield 19, 3) := by decide +kernel
theorem dX3_numberIsWhole_5 : decode cX3_numberIsWhole 5 = .ok (.invokevirtual 50, 3) := by decide +kernel
theorem dX3_numberIsWhole_8 : decode cX3_numberIsWhole 8 = .ok (.istore_n 1, 1) := by decide +kernel
theorem dX3_numberIsWhole_9 : decode cX3_numberIsWhole 9 = .ok (.aload_n 0, 1) := by decide +kernel
theorem dX3_numberIsWhole_10 : decode cX3_numberIsWhole 10 = .ok (.getfield 22, 3) := by decide +kernel
theorem dX3_numberIsWhole_13 : decode cX3_numberIsWhole 13 = .ok (.ifCond .le 23, 3) := by decide +kernel
theorem dX3_numberIsWhole_16 : decode cX3_numberIsWhole 16 = .ok (.iload_n 1, 1) := by decide +kernel
theorem dX3_numberIsWhole_17 : decode cX3_numberIsWhole 17 = .ok (.aload_n 0, 1) := by decide +kernel
theorem dX3_numberIsWhole_18 : decode cX3_numberIsWhole 18 = .ok (.invokevirtual 63, 3) := by decide +kernel
theorem dX3_numberIsWhole_21 : decode cX3_numberIsWhole 21 = .ok (.if_icmp .lt 15, 3) := by decide +kernel
theorem dX3_numberIsWhole_24 : decode cX3_numberIsWhole 24 = .ok (.iload_n 1, 1) := by decide +kernel
theorem dX3_numberIsWhole_25 : decode cX3_numberIsWhole 25 = .ok (.aload_n 0, 1) := by decide +kernel
theorem dX3_numberIsWhole_26 : decode cX3_numberIsWhole 26 = .ok (.invokevirtual 66, 3) := by decide +kernel
theorem dX3_numberIsWhole_29 : decode cX3_numberIsWhole 29 = .ok (.if_icmp .gt 7, 3) := by decide +kernel
theorem dX3_numberIsWhole_32 : decode cX3_numberIsWhole 32 = .ok (.iconst 1, 1) := by decide +kernel
theorem dX3_numberIsWhole_33 : decode cX3_numberIsWhole 33 = .ok (.goto 4, 3) := by decide +kernel
theorem dX3_numberIsWhole_36 : decode cX3_numberIsWhole 36 = .ok (.iconst 0, 1) := by decide +kernel
theorem dX3_numberIsWhole_37 : decode cX3_numberIsWhole 37 = .ok (.ireturn, 1) := by decide +kernel
theorem dX3_canBecomeNumber_0 : decode cX3_canBecomeNumber 0 = .ok (.iload_n 1, 1) := by decide +kernel
theorem dX3_canBecomeNumber_1 : decode cX3_canBecomeNumber 1 = .ok (.ifCond .ne 16, 3) := by decide +kernel
theorem dX3_canBecomeNumber_4 : decode cX3_canBecomeNumber 4 = .ok (.aload_n 0, 1) := by decide +kernel
theorem dX3_canBecomeNumber_5 : decode cX3_canBecomeNumber 5 = .ok (.invokevirtual 63, 3) := by decide +kernel
theorem dX3_canBecomeNumber_8 : decode cX3_canBecomeNumber 8 = .ok (.ifCond .ne 7, 3) := by decide +kernel
theorem dX3_canBecomeNumber_11 : decode cX3_canBecomeNumber 11 = .ok (.iconst 1, 1) := by decide +kernel
theorem dX3_canBecomeNumber_12 : decode cX3_canBecomeNumber 12 = .ok (.goto 4, 3) := by decide +kernel
theorem dX3_canBecomeNumber_15 : decode cX3_canBecomeNumber 15 = .ok (.iconst 0, 1) := by decide +kernel
theorem dX3_canBecomeNumber_16 : decode cX3_canBecomeNumber 16 = .ok (.ireturn, 1) := by decide +kernel
theorem dX3_canBecomeNumber_17 : decode cX3_canBecomeNumber 17 = .ok (.iload_n 1, 1) := by decide +kernel
theorem dX3_canBecomeNumber_18 : decode cX3_canBecomeNumber 18 = .ok (.istore_n 2, 1) := by decide +kernel
theorem dX3_canBecomeNumber_19 : decode cX3_canBecomeNumber 19 = .ok (.iload_n 1, 1) := by decide +kernel
theorem dX3_canBecomeNumber_20 : decode cX3_canBecomeNumber 20 = .ok (.istore_n 3, 1) := by decide +kernel
theorem dX3_canBecomeNumber_21 : decode cX3_canBecomeNumber 21 = .ok (.iconst 0, 1) := by decide +kernel
theorem dX3_canBecomeNumber_22 : decode cX3_canBecomeNumber 22 = .ok (.istore 4, 2) := by decide +kernel
theorem dX3_canBecomeNumber_24 : decode cX3_canBecomeNumber 24 = .ok (.iload 4, 2) := by decide +kernel
theorem dX3_canBecomeNumber_26 : decode cX3_canBecomeNumber 26 = .ok (.iconst 4, 1) := by decide +kernel
theorem dX3_canBecomeNumber_27 : decode cX3_canBecomeNumber 27 = .ok (.if_icmp .ge 40, 3) := by decide +kernel
theorem dX3_canBecomeNumber_30 : decode cX3_canBecomeNumber 30 = .ok (.iload_n 2, 1) := by decide +kernel
theorem dX3_canBecomeNumber_31 : decode cX3_canBecomeNumber 31 = .ok (.aload_n 0, 1) := by decide +kernel
theorem dX3_canBecomeNumber_32 : decode cX3_canBecomeNumber 32 = .ok (.invokevirtual 66, 3) := by decide +kernel
theorem dX3_canBecomeNumber_35 : decode cX3_canBecomeNumber 35 = .ok (.if_icmp .gt 13, 3) := by decide +kernel
theorem dX3_canBecomeNumber_38 : decode cX3_canBecomeNumber 38 = .ok (.iload_n 3, 1) := by decide +kernel
theorem dX3_canBecomeNumber_39 : decode cX3_canBecomeNumber 39 = .ok (.aload_n 0, 1) := by decide +kernel
theorem dX3_canBecomeNumber_40 : decode cX3_canBecomeNumber 40 = .ok (.invokevirtual 63, 3) := by decide +kernel
theorem dX3_canBecomeNumber_43 : decode cX3_canBecomeNumber 43 = .ok (.if_icmp .lt 5, 3) := by decide +kernel
theorem dX3_canBecomeNumber_46 : decode cX3_canBecomeNumber 46 = .ok (.iconst 1, 1) := by decide +kernel
theorem dX3_canBecomeNumber_47 : decode cX3_canBecomeNumber 47 = .ok (.ireturn, 1) := by decide +kernel
theorem dX3_canBecomeNumber_48 : decode cX3_canBecomeNumber 48 = .ok (.iload_n 2, 1) := by decide +kernel
theorem dX3_canBecomeNumber_49 : decode cX3_canBecomeNumber 49 = .ok (.bipush 10, 2) := by decide +kernel
theorem dX3_canBecomeNumber_51 : decode cX3_canBecomeNumber 51 = .ok (.imul, 1) := by decide +kernel
theorem dX3_canBecomeNumber_52 : decode cX3_canBecomeNumber 52 = .ok (.istore_n 2, 1) := by decide +kernel
theorem dX3_canBecomeNumber_53 : decode cX3_canBecomeNumber 53 = .ok (.iload_n 3, 1) := by decide +kernel
theorem dX3_canBecomeNumber_54 : decode cX3_canBecomeNumber 54 = .ok (.bipush 10, 2) := by decide +kernel
theorem dX3_canBecomeNumber_56 : decode cX3_canBecomeNumber 56 = .ok (.imul, 1) := by decide +kernel
theorem dX3_canBecomeNumber_57 : decode cX3_canBecomeNumber 57 = .ok (.bipush 9, 2) := by decide +kernel
theorem dX3_canBecomeNumber_59 : decode cX3_canBecomeNumber 59 = .ok (.iadd, 1) := by decide +kernel
theorem dX3_canBecomeNumber_60 : decode cX3_canBecomeNumber 60 = .ok (.istore_n 3, 1) := by decide +kernel
theorem dX3_canBecomeNumber_61 : decode cX3_canBecomeNumber 61 = .ok (.iinc 4 1, 3) := by decide +kernel
theorem dX3_canBecomeNumber_64 : decode cX3_canBecomeNumber 64 = .ok (.goto (-40), 3) := by decide +kernel
theorem dX3_canBecomeNumber_67 : decode cX3_canBecomeNumber 67 = .ok (.iconst 0, 1) := by decide +kernel
theorem dX3_canBecomeNumber_68 : decode cX3_canBecomeNumber 68 = .ok (.ireturn, 1) := by decide +kernel
theorem dX3_lastNumber_0 : decode cX3_lastNumber 0 = .ok (.aload_n 0, 1) := by decide +kernel
theorem dX3_lastNumber_1 : decode cX3_lastNumber 1 = .ok (.getfield 9, 3) := by decide +kernel
theorem dX3_lastNumber_4 : decode cX3_lastNumber 4 = .ok (.bipush 43, 2) := by decide +kernel
theorem dX3_lastNumber_6 : decode cX3_lastNumber 6 = .ok (.if_icmp .ne 7, 3) := by decide +kernel
theorem dX3_lastNumber_9 : decode cX3_lastNumber 9 = .ok (.iconst 0, 1) := by decide +kernel
theorem dX3_lastNumber_10 : decode cX3_lastNumber 10 = .ok (.goto 4, 3) := by decide +kernel
theorem dX3_lastNumber_13 : decode cX3_lastNumber 13 = .ok (.iconst 2, 1) := by decide +kernel
theorem dX3_lastNumber_14 : decode cX3_lastNumber 14 = .ok (.ireturn, 1) := by decide +kernel
theorem dX3_least_0 : decode cX3_least 0 = .ok (.aload_n 0, 1) := by decide +kernel
theorem dX3_least_1 : decode cX3_least 1 = .ok (.getfield 9, 3) := by decide +kernel
theorem dX3_least_4 : decode cX3_least 4 = .ok (.bipush 43, 2) := by decide +kernel
theorem dX3_least_6 : decode cX3_least 6 = .ok (.if_icmp .ne 5, 3) := by decide +kernel
theorem dX3_least_9 : decode cX3_least 9 = .ok (.iconst 1, 1) := by decide +kernel
theorem dX3_least_10 : decode cX3_least 10 = .ok (.ireturn, 1) := by decide +kernel
theorem dX3_least_11 : decode cX3_least 11 = .ok (.aload_n 0, 1) := by decide +kernel
theorem dX3_least_12 : decode cX3_least 12 = .ok (.getfield 19, 3) := by decide +kernel
theorem dX3_least_15 : decode cX3_least 15 = .ok (.ifCond .ne 5, 3) := by decide +kernel
theorem dX3_least_18 : decode cX3_least 18 = .ok (.iconst 0, 1) := by decide +kernel
theorem dX3_least_19 : decode cX3_least 19 = .ok (.ireturn, 1) := by decide +kernel
theorem dX3_least_20 : decode cX3_least 20 = .ok (.aload_n 0, 1) := by decide +kernel
theorem dX3_least_21 : decode cX3_least 21 = .ok (.getfield 9, 3) := by decide +kernel
theorem dX3_least_24 : decode cX3_least 24 = .ok (.bipush 115, 2) := by decide +kernel
theorem dX3_least_26 : decode cX3_least 26 = .ok (.if_icmp .ne 7, 3) := by decide +kernel
theorem dX3_least_29 : decode cX3_least 29 = .ok (.iconst 1, 1) := by decide +kernel
theorem dX3_least_30 : decode cX3_least 30 = .ok (.goto 5, 3) := by decide +kernel
theorem dX3_least_33 : decode cX3_least 33 = .ok (.bipush 8, 2) := by decide +kernel
theorem dX3_least_35 : decode cX3_least 35 = .ok (.ireturn, 1) := by decide +kernel
theorem dX3_most_0 : decode cX3_most 0 = .ok (.aload_n 0, 1) := by decide +kernel
theorem dX3_most_1 : decode cX3_most 1 = .ok (.getfield 9, 3) := by decide +kernel
theorem dX3_most_4 : decode cX3_most 4 = .ok (.bipush 43, 2) := by decide +kernel
theorem dX3_most_6 : decode cX3_most 6 = .ok (.if_icmp .ne 6, 3) := by decide +kernel
theorem dX3_most_9 : decode cX3_most 9 = .ok (.bipush 48, 2) := by decide +kernel
theorem dX3_most_11 : decode cX3_most 11 = .ok (.ireturn, 1) := by decide +kernel
theorem dX3_most_12 : decode cX3_most 12 = .ok (.aload_n 0, 1) := by decide +kernel
theorem dX3_most_13 : decode cX3_most 13 = .ok (.getfield 19, 3) := by decide +kernel
theorem dX3_most_16 : decode cX3_most 16 = .ok (.ifCond .ne 5, 3) := by decide +kernel
theorem dX3_most_19 : decode cX3_most 19 = .ok (.iconst 4, 1) := by decide +kernel
theorem dX3_most_20 : decode cX3_most 20 = .ok (.ireturn, 1) := by decide +kernel
theorem dX3_most_21 : decode cX3_most 21 = .ok (.aload_n 0, 1) := by decide +kernel
theorem dX3_most_22 : decode cX3_most 22 = .ok (.getfield 9, 3) := by decide +kernel
theorem dX3_most_25 : decode cX3_most 25 = .ok (.bipush 103, 2) := by decide +kernel
theorem dX3_most_27 : decode cX3_most 27 = .ok (.if_icmp .ne 6, 3) := by decide +kernel
theorem dX3_most_30 : decode cX3_most 30 = .ok (.bipush 60, 2) := by decide +kernel
theorem dX3_most_32 : decode cX3_most 32 = .ok (.ireturn, 1) := by decide +kernel
theorem dX3_most_33 : decode cX3_most 33 = .ok (.aload_n 0, 1) := by decide +kernel
theorem dX3_most_34 : decode cX3_most 34 = .ok (.getfield 19, 3) := by decide +kernel
theorem dX3_most_37 : decode cX3_most 37 = .ok (.iconst 1, 1) := by decide +kernel
theorem dX3_most_38 : decode cX3_most 38 = .ok (.if_icmp .ne 9, 3) := by decide +kernel
theorem dX3_most_41 : decode cX3_most 41 = .ok (.sipush 999, 3) := by decide +kernel
theorem dX3_most_44 : decode cX3_most 44 = .ok (.goto 6, 3) := by decide +kernel
theorem dX3_most_47 : decode cX3_most 47 = .ok (.sipush 9999, 3) := by decide +kernel
theorem dX3_most_50 : decode cX3_most 50 = .ok (.ireturn, 1) := by decide +kernel
theorem dX4_init_0 : decode cX4_init 0 = .ok (.aload_n 0, 1) := by decide +kernel
theorem dX4_init_1 : decode cX4_init 1 = .ok (.invokespecial 1, 3) := by decide +kernel
theorem dX4_init_4 : decode cX4_init 4 = .ok (.aload_n 0, 1) := by decide +kernel
theorem dX4_init_5 : decode cX4_init 5 = .ok (.new 7, 3) := by decide +kernel
theorem dX4_init_8 : decode cX4_init 8 = .ok (.dup, 1) := by decide +kernel
theorem dX4_init_9 : decode cX4_init 9 = .ok (.invokespecial 9, 3) := by decide +kernel
theorem dX4_init_12 : decode cX4_init 12 = .ok (.putfield 10, 3) := by decide +kernel
theorem dX4_init_15 : decode cX4_init 15 = .ok (.aload_n 0, 1) := by decide +kernel
theorem dX4_init_16 : decode cX4_init 16 = .ok (.new 7, 3) := by decide +kernel
theorem dX4_init_19 : decode cX4_init 19 = .ok (.dup, 1) := by decide +kernel
theorem dX4_init_20 : decode cX4_init 20 = .ok (.invokespecial 9, 3) := by decide +kernel
theorem dX4_init_23 : decode cX4_init 23 = .ok (.putfield 16, 3) := by decide +kernel
theorem dX4_init_26 : decode cX4_init 26 = .ok (.aload_n 0, 1) := by decide +kernel
theorem dX4_init_27 : decode cX4_init 27 = .ok (.new 7, 3) := by decide +kernel
theorem dX4_init_30 : decode cX4_init 30 = .ok (.dup, 1) := by decide +kernel
theorem dX4_init_31 : decode cX4_init 31 = .ok (.invokespecial 9, 3) := by decide +kernel
theorem dX4_init_34 : decode cX4_init 34 = .ok (.putfield 19, 3) := by decide +kernel
theorem dX4_init_37 : decode cX4_init 37 = .ok (.aload_n 0, 1) := by decide +kernel
theorem dX4_init_38 : decode cX4_init 38 = .ok (.iconst 0, 1) := by decide +kernel
theorem dX4_init_39 : decode cX4_init 39 = .ok (.putfield 22, 3) := by decide +kernel
theorem dX4_init_42 : decode cX4_init 42 = .ok (.aload_n 0, 1) := by decide +kernel
theorem dX4_init_43 : decode cX4_init 43 = .ok (.new 26, 3) := by decide +kernel
theorem dX4_init_46 : decode cX4_init 46 = .ok (.dup, 1) := by decide +kernel
theorem dX4_init_47 : decode cX4_init 47 = .ok (.invokespecial 28, 3) := by decide +kernel
theorem dX4_init_50 : decode cX4_init 50 = .ok (.putfield 29, 3) := by decide +kernel
theorem dX4_init_53 : decode cX4_init 53 = .ok (.aload_n 0, 1) := by decide +kernel
theorem dX4_init_54 : decode cX4_init 54 = .ok (.bipush 60, 2) := by decide +kernel
theorem dX4_init_56 : decode cX4_init 56 = .ok (.newarray .int, 2) := by decide +kernel
theorem dX4_init_58 : decode cX4_init 58 = .ok (.putfield 33, 3) := by decide +kernel
theorem dX4_init_61 : decode cX4_init 61 = .ok (.aload_n 0, 1) := by decide +kernel
theorem dX4_init_62 : decode cX4_init 62 = .ok (.iconst 0, 1) := by decide +kernel
theorem dX4_init_63 : decode cX4_init 63 = .ok (.putfield 37, 3) := by decide +kernel
theorem dX4_init_66 : decode cX4_init 66 = .ok (.aload_n 0, 1) := by decide +kernel
theorem dX4_init_67 : decode cX4_init 67 = .ok (.new 41, 3) := by decide +kernel
theorem dX4_init_70 : decode cX4_init 70 = .ok (.dup, 1) := by decide +kernel
theorem dX4_init_71 : decode cX4_init 71 = .ok (.invokespecial 43, 3) := by decide +kernel
theorem dX4_init_74 : decode cX4_init 74 = .ok (.putfield 44, 3) := by decide +kernel
theorem dX4_init_77 : decode cX4_init 77 = .ok (.return_, 1) := by decide +kernel
theorem dX4_pond_0 : decode cX4_pond 0 = .ok (.aload_n 0, 1) := by decide +kernel
theorem dX4_pond_1 : decode cX4_pond 1 = .ok (.iload_n 1, 1) := by decide +kernel
theorem dX4_pond_2 : decode cX4_pond 2 = .ok (.invokevirtual 48, 3) := by decide +kernel
theorem dX4_pond_5 : decode cX4_pond 5 = .ok (.astore 4, 2) := by decide +kernel
theorem dX4_pond_7 : decode cX4_pond 7 = .ok (.iload_n 2, 1) := by decide +kernel
theorem dX4_pond_8 : decode cX4_pond 8 = .ok (.bipush 50, 2) := by decide +kernel
theorem dX4_pond_10 : decode cX4_pond 10 = .ok (.sipush 500, 3) := by decide +kernel
theorem dX4_pond_13 : decode cX4_pond 13 = .ok (.invokestatic 52, 3) := by decide +kernel
theorem dX4_pond_16 : decode cX4_pond 16 = .ok (.iload_n 3, 1) := by decide +kernel
theorem dX4_pond_17 : decode cX4_pond 17 = .ok (.iconst 0, 1) := by decide +kernel
theorem dX4_pond_18 : decode cX4_pond 18 = .ok (.bipush 60, 2) := by decide +kernel
theorem dX4_pond_20 : decode cX4_pond 20 = .ok (.invokestatic 52, 3) := by decide +kernel
theorem dX4_pond_23 : decode cX4_pond 23 = .ok (.aload 4, 2) := by decide +kernel
theorem dX4_pond_25 : decode cX4_pond 25 = .ok (.getfield 56, 3) := by decide +kernel
theorem dX4_pond_28 : decode cX4_pond 28 = .ok (.iload_n 2, 1) := by decide +kernel
theorem dX4_pond_29 : decode cX4_pond 29 = .ok (.if_icmp .gt 7, 3) := by decide +kernel
theorem dX4_pond_32 : decode cX4_pond 32 = .ok (.iconst 1, 1) := by decide +kernel
theorem dX4_pond_33 : decode cX4_pond 33 = .ok (.goto 4, 3) := by decide +kernel
theorem dX4_pond_36 : decode cX4_pond 36 = .ok (.iconst 0, 1) := by decide +kernel
theorem dX4_pond_37 : decode cX4_pond 37 = .ok (.invokestatic 61, 3) := by decide +kernel
theorem dX4_pond_40 : decode cX4_pond 40 = .ok (.aload_n 0, 1) := by decide +kernel
theorem dX4_pond_41 : decode cX4_pond 41 = .ok (.getfield 29, 3) := by decide +kernel
theorem dX4_pond_44 : decode cX4_pond 44 = .ok (.aload_n 0, 1) := by decide +kernel
theorem dX4_pond_45 : decode cX4_pond 45 = .ok (.getfield 10, 3) := by decide +kernel
theorem dX4_pond_48 : decode cX4_pond 48 = .ok (.invokevirtual 65, 3) := by decide +kernel
theorem dX4_pond_51 : decode cX4_pond 51 = .ok (.aload 4, 2) := by decide +kernel
theorem dX4_pond_53 : decode cX4_pond 53 = .ok (.getfield 69, 3) := by decide +kernel
theorem dX4_pond_56 : decode cX4_pond 56 = .ok (.istore 5, 2) := by decide +kernel
theorem dX4_pond_58 : decode cX4_pond 58 = .ok (.aload 4, 2) := by decide +kernel
theorem dX4_pond_60 : decode cX4_pond 60 = .ok (.iload_n 2, 1) := by decide +kernel
theorem dX4_pond_61 : decode cX4_pond 61 = .ok (.putfield 69, 3) := by decide +kernel
theorem dX4_pond_64 : decode cX4_pond 64 = .ok (.aload 4, 2) := by decide +kernel
theorem dX4_pond_66 : decode cX4_pond 66 = .ok (.iload_n 3, 1) := by decide +kernel
theorem dX4_pond_67 : decode cX4_pond 67 = .ok (.putfield 72, 3) := by decide +kernel
theorem dX4_pond_70 : decode cX4_pond 70 = .ok (.iload 5, 2) := by decide +kernel
theorem dX4_pond_72 : decode cX4_pond 72 = .ok (.ireturn, 1) := by decide +kernel
theorem dX4_gate_0 : decode cX4_gate 0 = .ok (.aload_n 0, 1) := by decide +kernel
theorem dX4_gate_1 : decode cX4_gate 1 = .ok (.iload_n 1, 1) := by decide +kernel
theorem dX4_gate_2 : decode cX4_gate 2 = .ok (.invokevirtual 48, 3) := by decide +kernel
theorem dX4_gate_5 : decode cX4_gate 5 = .ok (.astore 4, 2) := by decide +kernel
theorem dX4_gate_7 : decode cX4_gate 7 = .ok (.iload_n 2, 1) := by decide +kernel
theorem dX4_gate_8 : decode cX4_gate 8 = .ok (.iconst 0, 1) := by decide +kernel
theorem dX4_gate_9 : decode cX4_gate 9 = .ok (.bipush 11, 2) := by decide +kernel
theorem dX4_gate_11 : decode cX4_gate 11 = .ok (.invokestatic 52, 3) := by decide +kernel
theorem dX4_gate_14 : decode cX4_gate 14 = .ok (.iload_n 3, 1) := by decide +kernel
theorem dX4_gate_15 : decode cX4_gate 15 = .ok (.iload_n 2, 1) := by decide +kernel
theorem dX4_gate_16 : decode cX4_gate 16 = .ok (.bipush 11, 2) := by decide +kernel
theorem dX4_gate_18 : decode cX4_gate 18 = .ok (.invokestatic 52, 3) := by decide +kernel
theorem dX4_gate_21 : decode cX4_gate 21 = .ok (.aload_n 0, 1) := by decide +kernel
theorem dX4_gate_22 : decode cX4_gate 22 = .ok (.getfield 29, 3) := by decide +kernel
theorem dX4_gate_25 : decode cX4_gate 25 = .ok (.aload_n 0, 1) := by decide +kernel
theorem dX4_gate_26 : decode cX4_gate 26 = .ok (.getfield 10, 3) := by decide +kernel
theorem dX4_gate_29 : decode cX4_gate 29 = .ok (.invokevirtual 65, 3) := by decide +kernel
theorem dX4_gate_32 : decode cX4_gate 32 = .ok (.aload 4, 2) := by decide +kernel
theorem dX4_gate_34 : decode cX4_gate 34 = .ok (.getfield 75, 3) := by decide +kernel
theorem dX4_gate_37 : decode cX4_gate 37 = .ok (.aload 4, 2) := by decide +kernel
theorem dX4_gate_39 : decode cX4_gate 39 = .ok (.getfield 78, 3) := by decide +kernel
theorem dX4_gate_42 : decode cX4_gate 42 = .ok (.isub, 1) := by decide +kernel
theorem dX4_gate_43 : decode cX4_gate 43 = .ok (.iconst 1, 1) := by decide +kernel
theorem dX4_gate_44 : decode cX4_gate 44 = .ok (.iadd, 1) := by decide +kernel
theorem dX4_gate_45 : decode cX4_gate 45 = .ok (.istore 5, 2) := by decide +kernel
theorem dX4_gate_47 : decode cX4_gate 47 = .ok (.aload 4, 2) := by decide +kernel
theorem dX4_gate_49 : decode cX4_gate 49 = .ok (.iload_n 2, 1) := by decide +kernel
theorem dX4_gate_50 : decode cX4_gate 50 = .ok (.putfield 78, 3) := by decide +kernel
theorem dX4_gate_53 : decode cX4_gate 53 = .ok (.aload 4, 2) := by decide +kernel
theorem dX4_gate_55 : decode cX4_gate 55 = .ok (.iload_n 3, 1) := by decide +kernel
theorem dX4_gate_56 : decode cX4_gate 56 = .ok (.putfield 75, 3) := by decide +kernel
theorem dX4_gate_59 : decode cX4_gate 59 = .ok (.iload 5, 2) := by decide +kernel
theorem dX4_gate_61 : decode cX4_gate 61 = .ok (.ireturn, 1) := by decide +kernel
theorem dX4_gear_0 : decode cX4_gear 0 = .ok (.aload_n 0, 1) := by decide +kernel
theorem dX4_gear_1 : decode cX4_gear 1 = .ok (.iload_n 1, 1) := by decide +kernel
theorem dX4_gear_2 : decode cX4_gear 2 = .ok (.invokevirtual 48, 3) := by decide +kernel
theorem dX4_gear_5 : decode cX4_gear 5 = .ok (.astore 4, 2) := by decide +kernel
theorem dX4_gear_7 : decode cX4_gear 7 = .ok (.iload_n 2, 1) := by decide +kernel
theorem dX4_gear_8 : decode cX4_gear 8 = .ok (.bipush 8, 2) := by decide +kernel
theorem dX4_gear_10 : decode cX4_gear 10 = .ok (.bipush 60, 2) := by decide +kernel
theorem dX4_gear_12 : decode cX4_gear 12 = .ok (.invokestatic 52, 3) := by decide +kernel
theorem dX4_gear_15 : decode cX4_gear 15 = .ok (.iload_n 3, 1) := by decide +kernel
theorem dX4_gear_16 : decode cX4_gear 16 = .ok (.bipush 8, 2) := by decide +kernel
theorem dX4_gear_18 : decode cX4_gear 18 = .ok (.bipush 60, 2) := by decide +kernel
theorem dX4_gear_20 : decode cX4_gear 20 = .ok (.invokestatic 52, 3) := by decide +kernel
theorem dX4_gear_23 : decode cX4_gear 23 = .ok (.aload_n 0, 1) := by decide +kernel
theorem dX4_gear_24 : decode cX4_gear 24 = .ok (.getfield 29, 3) := by decide +kernel
theorem dX4_gear_27 : decode cX4_gear 27 = .ok (.aload_n 0, 1) := by decide +kernel
theorem dX4_gear_28 : decode cX4_gear 28 = .ok (.getfield 10, 3) := by decide +kernel
theorem dX4_gear_31 : decode cX4_gear 31 = .ok (.invokevirtual 65, 3) := by decide +kernel
theorem dX4_gear_34 : decode cX4_gear 34 = .ok (.aload 4, 2) := by decide +kernel
theorem dX4_gear_36 : decode cX4_gear 36 = .ok (.iload_n 2, 1) := by decide +kernel
theorem dX4_gear_37 : decode cX4_gear 37 = .ok (.putfield 81, 3) := by decide +kernel
theorem dX4_gear_40 : decode cX4_gear 40 = .ok (.aload 4, 2) := by decide +kernel
theorem dX4_gear_42 : decode cX4_gear 42 = .ok (.iload_n 3, 1) := by decide +kernel
theorem dX4_gear_43 : decode cX4_gear 43 = .ok (.putfield 84, 3) := by decide +kernel
theorem dX4_gear_46 : decode cX4_gear 46 = .ok (.aload 4, 2) := by decide +kernel
theorem dX4_gear_48 : decode cX4_gear 48 = .ok (.bipush 100, 2) := by decide +kernel
theorem dX4_gear_50 : decode cX4_gear 50 = .ok (.invokevirtual 87, 3) := by decide +kernel
theorem dX4_gear_53 : decode cX4_gear 53 = .ok (.ireturn, 1) := by decide +kernel
theorem dX4_set_0 : decode cX4_set 0 = .ok (.iload_n 1, 1) := by decide +kernel
theorem dX4_set_1 : decode cX4_set 1 = .ok (.ifCond .lt 8, 3) := by decide +kernel
theorem dX4_set_4 : decode cX4_set 4 = .ok (.iload_n 1, 1) := by decide +kernel
theorem dX4_set_5 : decode cX4_set 5 = .ok (.iconst 2, 1) := by decide +kernel
theorem dX4_set_6 : decode cX4_set 6 = .ok (.if_icmp .le 13, 3) := by decide +kernel
theorem dX4_set_9 : decode cX4_set 9 = .ok (.new 91, 3) := by decide +kernel
theorem dX4_set_12 : decode cX4_set 12 = .ok (.dup, 1) := by decide +kernel
theorem dX4_set_13 : decode cX4_set 13 = .ok (.ldc 93, 2) := by decide +kernel
theorem dX4_set_15 : decode cX4_set 15 = .ok (.invokespecial 95, 3) := by decide +kernel
theorem dX4_set_18 : decode cX4_set 18 = .ok (.athrow, 1) := by decide +kernel
theorem dX4_set_19 : decode cX4_set 19 = .ok (.iload_n 2, 1) := by decide +kernel
theorem dX4_set_20 : decode cX4_set 20 = .ok (.iload_n 1, 1) := by decide +kernel
theorem dX4_set_21 : decode cX4_set 21 = .ok (.invokestatic 98, 3) := by decide +kernel
theorem dX4_set_24 : decode cX4_set 24 = .ok (.iload_n 1, 1) := by decide +kernel
theorem dX4_set_25 : decode cX4_set 25 = .ok (.invokestatic 101, 3) := by decide +kernel
theorem dX4_set_28 : decode cX4_set 28 = .ok (.invokestatic 52, 3) := by decide +kernel
theorem dX4_set_31 : decode cX4_set 31 = .ok (.aload_n 0, 1) := by decide +kernel
theorem dX4_set_32 : decode cX4_set 32 = .ok (.getfield 29, 3) := by decide +kernel
theorem dX4_set_35 : decode cX4_set 35 = .ok (.aload_n 0, 1) := by decide +kernel
theorem dX4_set_36 : decode cX4_set 36 = .ok (.getfield 10, 3) := by decide +kernel
theorem dX4_set_39 : decode cX4_set 39 = .ok (.invokevirtual 65, 3) := by decide +kernel
theorem dX4_set_42 : decode cX4_set 42 = .ok (.aload_n 0, 1) := by decide +kernel
theorem dX4_set_43 : decode cX4_set 43 = .ok (.getfield 10, 3) := by decide +kernel
theorem dX4_set_46 : decode cX4_set 46 = .ok (.iload_n 1, 1) := by decide +kernel
theorem dX4_set_47 : decode cX4_set 47 = .ok (.invokevirtual 104, 3) := by decide +kernel
theorem dX4_set_50 : decode cX4_set 50 = .ok (.istore_n 3, 1) := by decide +kernel
theorem dX4_set_51 : decode cX4_set 51 = .ok (.aload_n 0, 1) := by decide +kernel
theorem dX4_set_52 : decode cX4_set 52 = .ok (.getfield 10, 3) := by decide +kernel
theorem dX4_set_55 : decode cX4_set 55 = .ok (.iload_n 1, 1) := by decide +kernel
theorem dX4_set_56 : decode cX4_set 56 = .ok (.iload_n 2, 1) := by decide +kernel
theorem dX4_set_57 : decode cX4_set 57 = .ok (.invokevirtual 107, 3) := by decide +kernel
theorem dX4_set_60 : decode cX4_set 60 = .ok (.iload_n 3, 1) := by decide +kernel
theorem dX4_set_61 : decode cX4_set 61 = .ok (.ireturn, 1) := by decide +kernel
theorem dX4_pass_0 : decode cX4_pass 0 = .ok (.iload_n 1, 1) := by decide +kernel
theorem dX4_pass_1 : decode cX4_pass 1 = .ok (.iconst 1, 1) := by decide +kernel
theorem dX4_pass_2 : decode cX4_pass 2 = .ok (.bipush 48, 2) := by decide +kernel
theorem dX4_pass_4 : decode cX4_pass 4 = .ok (.invokestatic 52, 3) := by decide +kernel
theorem dX4_pass_7 : decode cX4_pass 7 = .ok (.aload_n 0, 1) := by decide +kernel
theorem dX4_pass_8 : decode cX4_pass 8 = .ok (.getfield 29, 3) := by decide +kernel
theorem dX4_pass_11 : decode cX4_pass 11 = .ok (.aload_n 0, 1) := by decide +kernel
theorem dX4_pass_12 : decode cX4_pass 12 = .ok (.getfield 10, 3) := by decide +kernel
theorem dX4_pass_15 : decode cX4_pass 15 = .ok (.invokevirtual 65, 3) := by decide +kernel
theorem dX4_pass_18 : decode cX4_pass 18 = .ok (.aload_n 0, 1) := by decide +kernel
theorem dX4_pass_19 : decode cX4_pass 19 = .ok (.getfield 10, 3) := by decide +kernel
theorem dX4_pass_22 : decode cX4_pass 22 = .ok (.getfield 111, 3) := by decide +kernel
theorem dX4_pass_25 : decode cX4_pass 25 = .ok (.istore_n 2, 1) := by decide +kernel
theorem dX4_pass_26 : decode cX4_pass 26 = .ok (.aload_n 0, 1) := by decide +kernel
theorem dX4_pass_27 : decode cX4_pass 27 = .ok (.getfield 10, 3) := by decide +kernel
theorem dX4_pass_30 : decode cX4_pass 30 = .ok (.iload_n 1, 1) := by decide +kernel
theorem dX4_pass_31 : decode cX4_pass 31 = .ok (.invokevirtual 114, 3) := by decide +kernel
theorem dX4_pass_34 : decode cX4_pass 34 = .ok (.aload_n 0, 1) := by decide +kernel
theorem dX4_pass_35 : decode cX4_pass 35 = .ok (.getfield 10, 3) := by decide +kernel
theorem dX4_pass_38 : decode cX4_pass 38 = .ok (.getfield 111, 3) := by decide +kernel
theorem dX4_pass_41 : decode cX4_pass 41 = .ok (.iload_n 2, 1) := by decide +kernel
theorem dX4_pass_42 : decode cX4_pass 42 = .ok (.isub, 1) := by decide +kernel
theorem dX4_pass_43 : decode cX4_pass 43 = .ok (.ireturn, 1) := by decide +kernel
theorem dX4_sack_0 : decode cX4_sack 0 = .ok (.aload_n 0, 1) := by decide +kernel
theorem dX4_sack_1 : decode cX4_sack 1 = .ok (.iload_n 1, 1) := by decide +kernel
theorem dX4_sack_2 : decode cX4_sack 2 = .ok (.invokevirtual 48, 3) := by decide +kernel
theorem dX4_sack_5 : decode cX4_sack 5 = .ok (.astore 4, 2) := by decide +kernel
theorem dX4_sack_7 : decode cX4_sack 7 = .ok (.iload_n 2, 1) := by decide +kernel
theorem dX4_sack_8 : decode cX4_sack 8 = .ok (.iconst 1, 1) := by decide +kernel
theorem dX4_sack_9 : decode cX4_sack 9 = .ok (.sipush 999, 3) := by decide +kernel
theorem dX4_sack_12 : decode cX4_sack 12 = .ok (.invokestatic 52, 3) := by decide +kernel
theorem dX4_sack_15 : decode cX4_sack 15 = .ok (.iload_n 3, 1) := by decide +kernel
theorem dX4_sack_16 : decode cX4_sack 16 = .ok (.iconst 1, 1) := by decide +kernel
theorem dX4_sack_17 : decode cX4_sack 17 = .ok (.sipush 9999, 3) := by decide +kernel
theorem dX4_sack_20 : decode cX4_sack 20 = .ok (.invokestatic 52, 3) := by decide +kernel
theorem dX4_sack_23 : decode cX4_sack 23 = .ok (.aload_n 0, 1) := by decide +kernel
theorem dX4_sack_24 : decode cX4_sack 24 = .ok (.getfield 10, 3) := by decide +kernel
theorem dX4_sack_27 : decode cX4_sack 27 = .ok (.aload 4, 2) := by decide +kernel
theorem dX4_sack_29 : decode cX4_sack 29 = .ok (.invokevirtual 118, 3) := by decide +kernel
theorem dX4_sack_32 : decode cX4_sack 32 = .ok (.invokestatic 61, 3) := by decide +kernel
theorem dX4_sack_35 : decode cX4_sack 35 = .ok (.aload_n 0, 1) := by decide +kernel
theorem dX4_sack_36 : decode cX4_sack 36 = .ok (.getfield 29, 3) := by decide +kernel
theorem dX4_sack_39 : decode cX4_sack 39 = .ok (.aload_n 0, 1) := by decide +kernel
theorem dX4_sack_40 : decode cX4_sack 40 = .ok (.getfield 10, 3) := by decide +kernel
theorem dX4_sack_43 : decode cX4_sack 43 = .ok (.invokevirtual 65, 3) := by decide +kernel
theorem dX4_sack_46 : decode cX4_sack 46 = .ok (.aload_n 0, 1) := by decide +kernel
theorem dX4_sack_47 : decode cX4_sack 47 = .ok (.getfield 10, 3) := by decide +kernel
theorem dX4_sack_50 : decode cX4_sack 50 = .ok (.aload 4, 2) := by decide +kernel
theorem dX4_sack_52 : decode cX4_sack 52 = .ok (.iload_n 2, 1) := by decide +kernel
theorem dX4_sack_53 : decode cX4_sack 53 = .ok (.iload_n 3, 1) := by decide +kernel
theorem dX4_sack_54 : decode cX4_sack 54 = .ok (.invokevirtual 122, 3) := by decide +kernel
theorem dX4_sack_57 : decode cX4_sack 57 = .ok (.ireturn, 1) := by decide +kernel
theorem dX4_carry_0 : decode cX4_carry 0 = .ok (.aload_n 0, 1) := by decide +kernel
theorem dX4_carry_1 : decode cX4_carry 1 = .ok (.iload_n 2, 1) := by decide +kernel
theorem dX4_carry_2 : decode cX4_carry 2 = .ok (.invokevirtual 48, 3) := by decide +kernel
theorem dX4_carry_5 : decode cX4_carry 5 = .ok (.astore_n 3, 1) := by decide +kernel
theorem dX4_carry_6 : decode cX4_carry 6 = .ok (.aload_n 0, 1) := by decide +kernel
theorem dX4_carry_7 : decode cX4_carry 7 = .ok (.iload_n 1, 1) := by decide +kernel
theorem dX4_carry_8 : decode cX4_carry 8 = .ok (.invokevirtual 126, 3) := by decide +kernel
theorem dX4_carry_11 : decode cX4_carry 11 = .ok (.astore 4, 2) := by decide +kernel
theorem dX4_carry_13 : decode cX4_carry 13 = .ok (.aload 4, 2) := by decide +kernel
theorem dX4_carry_15 : decode cX4_carry 15 = .ok (.aload_n 3, 1) := by decide +kernel
theorem dX4_carry_16 : decode cX4_carry 16 = .ok (.if_acmp .eq 16, 3) := by decide +kernel
theorem dX4_carry_19 : decode cX4_carry 19 = .ok (.aload_n 3, 1) := by decide +kernel
theorem dX4_carry_20 : decode cX4_carry 20 = .ok (.getfield 129, 3) := by decide +kernel
theorem dX4_carry_23 : decode cX4_carry 23 = .ok (.bipush 6, 2) := by decide +kernel
theorem dX4_carry_25 : decode cX4_carry 25 = .ok (.if_icmp .ge 7, 3) := by decide +kernel
theorem dX4_carry_28 : decode cX4_carry 28 = .ok (.iconst 1, 1) := by decide +kernel
theorem dX4_carry_29 : decode cX4_carry 29 = .ok (.goto 4, 3) := by decide +kernel
theorem dX4_carry_32 : decode cX4_carry 32 = .ok (.iconst 0, 1) := by decide +kernel
theorem dX4_carry_33 : decode cX4_carry 33 = .ok (.invokestatic 61, 3) := by decide +kernel
theorem dX4_carry_36 : decode cX4_carry 36 = .ok (.aload_n 0, 1) := by decide +kernel
theorem dX4_carry_37 : decode cX4_carry 37 = .ok (.getfield 29, 3) := by decide +kernel
theorem dX4_carry_40 : decode cX4_carry 40 = .ok (.aload_n 0, 1) := by decide +kernel
theorem dX4_carry_41 : decode cX4_carry 41 = .ok (.getfield 10, 3) := by decide +kernel
theorem dX4_carry_44 : decode cX4_carry 44 = .ok (.invokevirtual 65, 3) := by decide +kernel
theorem dX4_carry_47 : decode cX4_carry 47 = .ok (.aload 4, 2) := by decide +kernel
theorem dX4_carry_49 : decode cX4_carry 49 = .ok (.iload_n 1, 1) := by decide +kernel
theorem dX4_carry_50 : decode cX4_carry 50 = .ok (.invokevirtual 132, 3) := by decide +kernel
theorem dX4_carry_53 : decode cX4_carry 53 = .ok (.istore 5, 2) := by decide +kernel
theorem dX4_carry_55 : decode cX4_carry 55 = .ok (.aload_n 3, 1) := by decide +kernel
theorem dX4_carry_56 : decode cX4_carry 56 = .ok (.iload_n 1, 1) := by decide +kernel
theorem dX4_carry_57 : decode cX4_carry 57 = .ok (.aload 4, 2) := by decide +kernel
theorem dX4_carry_59 : decode cX4_carry 59 = .ok (.iload 5, 2) := by decide +kernel
theorem dX4_carry_61 : decode cX4_carry 61 = .ok (.invokevirtual 135, 3) := by decide +kernel
theorem dX4_carry_64 : decode cX4_carry 64 = .ok (.aload 4, 2) := by decide +kernel
theorem dX4_carry_66 : decode cX4_carry 66 = .ok (.iload 5, 2) := by decide +kernel
theorem dX4_carry_68 : decode cX4_carry 68 = .ok (.invokevirtual 138, 3) := by decide +kernel
theorem dX4_carry_71 : decode cX4_carry 71 = .ok (.aload 4, 2) := by decide +kernel
theorem dX4_carry_73 : decode cX4_carry 73 = .ok (.iload 5, 2) := by decide +kernel
theorem dX4_carry_75 : decode cX4_carry 75 = .ok (.invokevirtual 141, 3) := by decide +kernel
theorem dX4_carry_78 : decode cX4_carry 78 = .ok (.invokevirtual 144, 3) := by decide +kernel
theorem dX4_carry_81 : decode cX4_carry 81 = .ok (.istore 6, 2) := by decide +kernel
theorem dX4_carry_83 : decode cX4_carry 83 = .ok (.aload 4, 2) := by decide +kernel
theorem dX4_carry_85 : decode cX4_carry 85 = .ok (.iload 5, 2) := by decide +kernel
theorem dX4_carry_87 : decode cX4_carry 87 = .ok (.invokevirtual 148, 3) := by decide +kernel
theorem dX4_carry_90 : decode cX4_carry 90 = .ok (.iload 6, 2) := by decide +kernel
theorem dX4_carry_92 : decode cX4_carry 92 = .ok (.ireturn, 1) := by decide +kernel
theorem dX4_back_0 : decode cX4_back 0 = .ok (.aload_n 0, 1) := by decide +kernel
theorem dX4_back_1 : decode cX4_back 1 = .ok (.iload_n 1, 1) := by decide +kernel
theorem dX4_back_2 : decode cX4_back 2 = .ok (.invokevirtual 126, 3) := by decide +kernel
theorem dX4_back_5 : decode cX4_back 5 = .ok (.astore_n 2, 1) := by decide +kernel
theorem dX4_back_6 : decode cX4_back 6 = .ok (.aload_n 0, 1) := by decide +kernel
theorem dX4_back_7 : decode cX4_back 7 = .ok (.getfield 29, 3) := by decide +kernel
theorem dX4_back_10 : decode cX4_back 10 = .ok (.aload_n 0, 1) := by decide +kernel
theorem dX4_back_11 : decode cX4_back 11 = .ok (.getfield 10, 3) := by decide +kernel
theorem dX4_back_14 : decode cX4_back 14 = .ok (.invokevirtual 65, 3) := by decide +kernel
theorem dX4_back_17 : decode cX4_back 17 = .ok (.aload_n 2, 1) := by decide +kernel
theorem dX4_back_18 : decode cX4_back 18 = .ok (.iload_n 1, 1) := by decide +kernel
theorem dX4_back_19 : decode cX4_back 19 = .ok (.invokevirtual 132, 3) := by decide +kernel
theorem dX4_back_22 : decode cX4_back 22 = .ok (.istore_n 3, 1) := by decide +kernel
theorem dX4_back_23 : decode cX4_back 23 = .ok (.aload_n 2, 1) := by decide +kernel
theorem dX4_back_24 : decode cX4_back 24 = .ok (.iload_n 3, 1) := by decide +kernel
theorem dX4_back_25 : decode cX4_back 25 = .ok (.invokevirtual 138, 3) := by decide +kernel
theorem dX4_back_28 : decode cX4_back 28 = .ok (.istore 4, 2) := by decide +kernel
theorem dX4_back_30 : decode cX4_back 30 = .ok (.aload_n 2, 1) := by decide +kernel
theorem dX4_back_31 : decode cX4_back 31 = .ok (.iload_n 3, 1) := by decide +kernel
theorem dX4_back_32 : decode cX4_back 32 = .ok (.invokevirtual 148, 3) := by decide +kernel
theorem dX4_back_35 : decode cX4_back 35 = .ok (.aload_n 0, 1) := by decide +kernel
theorem dX4_back_36 : decode cX4_back 36 = .ok (.getfield 10, 3) := by decide +kernel
theorem dX4_back_39 : decode cX4_back 39 = .ok (.dup, 1) := by decide +kernel
theorem dX4_back_40 : decode cX4_back 40 = .ok (.getfield 151, 3) := by decide +kernel
theorem dX4_back_43 : decode cX4_back 43 = .ok (.iconst 1, 1) := by decide +kernel
theorem dX4_back_44 : decode cX4_back 44 = .ok (.iadd, 1) := by decide +kernel
theorem dX4_back_45 : decode cX4_back 45 = .ok (.putfield 151, 3) := by decide +kernel
theorem dX4_back_48 : decode cX4_back 48 = .ok (.iload 4, 2) := by decide +kernel
theorem dX4_back_50 : decode cX4_back 50 = .ok (.ireturn, 1) := by decide +kernel
theorem dX4_append_0 : decode cX4_append 0 = .ok (.iload_n 1, 1) := by decide +kernel
theorem dX4_append_1 : decode cX4_append 1 = .ok (.bipush 33, 2) := by decide +kernel
theorem dX4_append_3 : decode cX4_append 3 = .ok (.bipush 126, 2) := by decide +kernel
theorem dX4_append_5 : decode cX4_append 5 = .ok (.invokestatic 52, 3) := by decide +kernel
theorem dX4_append_8 : decode cX4_append 8 = .ok (.aload_n 0, 1) := by decide +kernel
theorem dX4_append_9 : decode cX4_append 9 = .ok (.getfield 37, 3) := by decide +kernel
theorem dX4_append_12 : decode cX4_append 12 = .ok (.ifCond .lt 15, 3) := by decide +kernel
theorem dX4_append_15 : decode cX4_append 15 = .ok (.aload_n 0, 1) := by decide +kernel
theorem dX4_append_16 : decode cX4_append 16 = .ok (.getfield 37, 3) := by decide +kernel
theorem dX4_append_19 : decode cX4_append 19 = .ok (.aload_n 0, 1) := by decide +kernel
theorem dX4_append_20 : decode cX4_append 20 = .ok (.getfield 33, 3) := by decide +kernel
theorem dX4_append_23 : decode cX4_append 23 = .ok (.arraylength, 1) := by decide +kernel
theorem dX4_append_24 : decode cX4_append 24 = .ok (.if_icmp .lt 13, 3) := by decide +kernel
theorem dX4_append_27 : decode cX4_append 27 = .ok (.new 154, 3) := by decide +kernel
theorem dX4_append_30 : decode cX4_append 30 = .ok (.dup, 1) := by decide +kernel
theorem dX4_append_31 : decode cX4_append 31 = .ok (.ldc 156, 2) := by decide +kernel
theorem dX4_append_33 : decode cX4_append 33 = .ok (.invokespecial 158, 3) := by decide +kernel
theorem dX4_append_36 : decode cX4_append 36 = .ok (.athrow, 1) := by decide +kernel
theorem dX4_append_37 : decode cX4_append 37 = .ok (.aload_n 0, 1) := by decide +kernel
theorem dX4_append_38 : decode cX4_append 38 = .ok (.getfield 33, 3) := by decide +kernel
theorem dX4_append_41 : decode cX4_append 41 = .ok (.aload_n 0, 1) := by decide +kernel
theorem dX4_append_42 : decode cX4_append 42 = .ok (.getfield 37, 3) := by decide +kernel
theorem dX4_append_45 : decode cX4_append 45 = .ok (.iload_n 1, 1) := by decide +kernel
theorem dX4_append_46 : decode cX4_append 46 = .ok (.iastore, 1) := by decide +kernel
theorem dX4_append_47 : decode cX4_append 47 = .ok (.aload_n 0, 1) := by decide +kernel
theorem dX4_append_48 : decode cX4_append 48 = .ok (.dup, 1) := by decide +kernel
theorem dX4_append_49 : decode cX4_append 49 = .ok (.getfield 37, 3) := by decide +kernel
theorem dX4_append_52 : decode cX4_append 52 = .ok (.iconst 1, 1) := by decide +kernel
theorem dX4_append_53 : decode cX4_append 53 = .ok (.iadd, 1) := by decide +kernel
theorem dX4_append_54 : decode cX4_append 54 = .ok (.putfield 37, 3) := by decide +kernel
theorem dX4_append_57 : decode cX4_append 57 = .ok (.aload_n 0, 1) := by decide +kernel
theorem dX4_append_58 : decode cX4_append 58 = .ok (.getfield 37, 3) := by decide +kernel
theorem dX4_append_61 : decode cX4_append 61 = .ok (.ireturn, 1) := by decide +kernel
theorem dX4_clearBuffer_0 : decode cX4_clearBuffer 0 = .ok (.aload_n 0, 1) := by decide +kernel
theorem dX4_clearBuffer_1 : decode cX4_clearBuffer 1 = .ok (.getfield 37, 3) := by decide +kernel
theorem dX4_clearBuffer_4 : decode cX4_clearBuffer 4 = .ok (.istore_n 1, 1) := by decide +kernel
theorem dX4_clearBuffer_5 : decode cX4_clearBuffer 5 = .ok (.aload_n 0, 1) := by decide +kernel
theorem dX4_clearBuffer_6 : decode cX4_clearBuffer 6 = .ok (.iconst 0, 1) := by decide +kernel
theorem dX4_clearBuffer_7 : decode cX4_clearBuffer 7 = .ok (.putfield 37, 3) := by decide +kernel
theorem dX4_clearBuffer_10 : decode cX4_clearBuffer 10 = .ok (.iload_n 1, 1) := by decide +kernel
theorem dX4_clearBuffer_11 : decode cX4_clearBuffer 11 = .ok (.ireturn, 1) := by decide +kernel
theorem dX4_firstError_0 : decode cX4_firstError 0 = .ok (.aload_n 0, 1) := by decide +kernel
theorem dX4_firstError_1 : decode cX4_firstError 1 = .ok (.invokevirtual 159, 3) := by decide +kernel
theorem dX4_firstError_4 : decode cX4_firstError 4 = .ok (.ireturn, 1) := by decide +kernel
theorem dX4_play_0 : decode cX4_play 0 = .ok (.aload_n 0, 1) := by decide +kernel
theorem dX4_play_1 : decode cX4_play 1 = .ok (.invokevirtual 159, 3) := by decide +kernel
theorem dX4_play_4 : decode cX4_play 4 = .ok (.aload_n 0, 1) := by decide +kernel
theorem dX4_play_5 : decode cX4_play 5 = .ok (.getfield 37, 3) := by decide +kernel
theorem dX4_play_8 : decode cX4_play 8 = .ok (.if_icmp .lt 13, 3) := by decide +kernel
theorem dX4_play_11 : decode cX4_play 11 = .ok (.aload_n 0, 1) := by decide +kernel
theorem dX4_play_12 : decode cX4_play 12 = .ok (.getfield 44, 3) := by decide +kernel
theorem dX4_play_15 : decode cX4_play 15 = .ok (.invokevirtual 163, 3) := by decide +kernel
theorem dX4_play_18 : decode cX4_play 18 = .ok (.ifCond .ne 13, 3) := by decide +kernel
theorem dX4_play_21 : decode cX4_play 21 = .ok (.new 167, 3) := by decide +kernel
theorem dX4_play_24 : decode cX4_play 24 = .ok (.dup, 1) := by decide +kernel
theorem dX4_play_25 : decode cX4_play 25 = .ok (.ldc 169, 2) := by decide +kernel
theorem dX4_play_27 : decode cX4_play 27 = .ok (.invokespecial 171, 3) := by decide +kernel
theorem dX4_play_30 : decode cX4_play 30 = .ok (.athrow, 1) := by decide +kernel
theorem dX4_play_31 : decode cX4_play 31 = .ok (.aload_n 0, 1) := by decide +kernel
theorem dX4_play_32 : decode cX4_play 32 = .ok (.getfield 29, 3) := by decide +kernel
theorem dX4_play_35 : decode cX4_play 35 = .ok (.aload_n 0, 1) := by decide +kernel
theorem dX4_play_36 : decode cX4_play 36 = .ok (.getfield 10, 3) := by decide +kernel
theorem dX4_play_39 : decode cX4_play 39 = .ok (.invokevirtual 65, 3) := by decide +kernel
theorem dX4_play_42 : decode cX4_play 42 = .ok (.aload_n 0, 1) := by decide +kernel
theorem dX4_play_43 : decode cX4_play 43 = .ok (.invokevirtual 172, 3) := by decide +kernel
theorem dX4_play_46 : decode cX4_play 46 = .ok (.istore_n 1, 1) := by decide +kernel
theorem dX4_play_47 : decode cX4_play 47 = .ok (.aload_n 0, 1) := by decide +kernel
theorem dX4_play_48 : decode cX4_play 48 = .ok (.iconst 0, 1) := by decide +kernel
theorem dX4_play_49 : decode cX4_play 49 = .ok (.putfield 37, 3) := by decide +kernel
theorem dX4_play_52 : decode cX4_play 52 = .ok (.iload_n 1, 1) := by decide +kernel
theorem dX4_play_53 : decode cX4_play 53 = .ok (.ireturn, 1) := by decide +kernel
theorem dX4_undo_0 : decode cX4_undo 0 = .ok (.aload_n 0, 1) := by decide +kernel
theorem dX4_undo_1 : decode cX4_undo 1 = .ok (.getfield 29, 3) := by decide +kernel
theorem dX4_undo_4 : decode cX4_undo 4 = .ok (.getfield 175, 3) := by decide +kernel
theorem dX4_undo_7 : decode cX4_undo 7 = .ok (.ifCond .le 7, 3) := by decide +kernel
theorem dX4_undo_10 : decode cX4_undo 10 = .ok (.iconst 1, 1) := by decide +kernel
theorem dX4_undo_11 : decode cX4_undo 11 = .ok (.goto 4, 3) := by decide +kernel
theorem dX4_undo_14 : decode cX4_undo 14 = .ok (.iconst 0, 1) := by decide +kernel
theorem dX4_undo_15 : decode cX4_undo 15 = .ok (.invokestatic 61, 3) := by decide +kernel
theorem dX4_undo_18 : decode cX4_undo 18 = .ok (.aload_n 0, 1) := by decide +kernel
theorem dX4_undo_19 : decode cX4_undo 19 = .ok (.getfield 29, 3) := by decide +kernel
theorem dX4_undo_22 : decode cX4_undo 22 = .ok (.aload_n 0, 1) := by decide +kernel
theorem dX4_undo_23 : decode cX4_undo 23 = .ok (.getfield 10, 3) := by decide +kernel
theorem dX4_undo_26 : decode cX4_undo 26 = .ok (.invokevirtual 178, 3) := by decide +kernel
theorem dX4_undo_29 : decode cX4_undo 29 = .ok (.aload_n 0, 1) := by decide +kernel
theorem dX4_undo_30 : decode cX4_undo 30 = .ok (.getfield 29, 3) := by decide +kernel
theorem dX4_undo_33 : decode cX4_undo 33 = .ok (.getfield 175, 3) := by decide +kernel
theorem dX4_undo_36 : decode cX4_undo 36 = .ok (.ireturn, 1) := by decide +kernel
theorem dX4_keep_0 : decode cX4_keep 0 = .ok (.aload_n 0, 1) := by decide +kernel
theorem dX4_keep_1 : decode cX4_keep 1 = .ok (.getfield 19, 3) := by decide +kernel
theorem dX4_keep_4 : decode cX4_keep 4 = .ok (.aload_n 0, 1) := by decide +kernel
theorem dX4_keep_5 : decode cX4_keep 5 = .ok (.getfield 10, 3) := by decide +kernel
theorem dX4_keep_8 : decode cX4_keep 8 = .ok (.invokevirtual 181, 3) := by decide +kernel
theorem dX4_keep_11 : decode cX4_keep 11 = .ok (.aload_n 0, 1) := by decide +kernel
theorem dX4_keep_12 : decode cX4_keep 12 = .ok (.iconst 1, 1) := by decide +kernel
theorem dX4_keep_13 : decode cX4_keep 13 = .ok (.putfield 22, 3) := by decide +kernel
theorem dX4_keep_16 : decode cX4_keep 16 = .ok (.aload_n 0, 1) := by decide +kernel
theorem dX4_keep_17 : decode cX4_keep 17 = .ok (.getfield 10, 3) := by decide +kernel
theorem dX4_keep_20 : decode cX4_keep 20 = .ok (.getfield 184, 3) := by decide +kernel
theorem dX4_keep_23 : decode cX4_keep 23 = .ok (.ireturn, 1) := by decide +kernel
theorem dX4_restore_0 : decode cX4_restore 0 = .ok (.aload_n 0, 1) := by decide +kernel
theorem dX4_restore_1 : decode cX4_restore 1 = .ok (.getfield 22, 3) := by decide +kernel
theorem dX4_restore_4 : decode cX4_restore 4 = .ok (.invokestatic 61, 3) := by decide +kernel
theorem dX4_restore_7 : decode cX4_restore 7 = .ok (.aload_n 0, 1) := by decide +kernel
theorem dX4_restore_8 : decode cX4_restore 8 = .ok (.getfield 29, 3) := by decide +kernel
theorem dX4_restore_11 : decode cX4_restore 11 = .ok (.aload_n 0, 1) := by decide +kernel
theorem dX4_restore_12 : decode cX4_restore 12 = .ok (.getfield 10, 3) := by decide +kernel
theorem dX4_restore_15 : decode cX4_restore 15 = .ok (.invokevirtual 65, 3) := by decide +kernel
theorem dX4_restore_18 : decode cX4_restore 18 = .ok (.aload_n 0, 1) := by decide +kernel
theorem dX4_restore_19 : decode cX4_restore 19 = .ok (.getfield 10, 3) := by decide +kernel
theorem dX4_restore_22 : decode cX4_restore 22 = .ok (.aload_n 0, 1) := by decide +kernel
theorem dX4_restore_23 : decode cX4_restore 23 = .ok (.getfield 19, 3) := by decide +kernel
theorem dX4_restore_26 : decode cX4_restore 26 = .ok (.invokevirtual 181, 3) := by decide +kernel
theorem dX4_restore_29 : decode cX4_restore 29 = .ok (.aload_n 0, 1) := by decide +kernel
theorem dX4_restore_30 : decode cX4_restore 30 = .ok (.getfield 10, 3) := by decide +kernel
theorem dX4_restore_33 : decode cX4_restore 33 = .ok (.getfield 184, 3) := by decide +kernel
theorem dX4_restore_36 : decode cX4_restore 36 = .ok (.ireturn, 1) := by decide +kernel
theorem dX4_mill_0 : decode cX4_mill 0 = .ok (.aload_n 0, 1) := by decide +kernel
theorem dX4_mill_1 : decode cX4_mill 1 = .ok (.iload_n 1, 1) := by decide +kernel
theorem dX4_mill_2 : decode cX4_mill 2 = .ok (.invokevirtual 48, 3) := by decide +kernel
theorem dX4_mill_5 : decode cX4_mill 5 = .ok (.astore_n 3, 1) := by decide +kernel
theorem dX4_mill_6 : decode cX4_mill 6 = .ok (.iload_n 2, 1) := by decide +kernel
theorem dX4_mill_7 : decode cX4_mill 7 = .ok (.iconst 0, 1) := by decide +kernel
theorem dX4_mill_8 : decode cX4_mill 8 = .ok (.bipush 10, 2) := by decide +kernel
theorem dX4_mill_10 : decode cX4_mill 10 = .ok (.invokestatic 52, 3) := by decide +kernel
theorem dX4_mill_13 : decode cX4_mill 13 = .ok (.aload_n 0, 1) := by decide +kernel
theorem dX4_mill_14 : decode cX4_mill 14 = .ok (.aload_n 3, 1) := by decide +kernel
theorem dX4_mill_15 : decode cX4_mill 15 = .ok (.iload_n 2, 1) := by decide +kernel
theorem dX4_mill_16 : decode cX4_mill 16 = .ok (.invokevirtual 187, 3) := by decide +kernel
theorem dX4_mill_19 : decode cX4_mill 19 = .ok (.ireturn, 1) := by decide +kernel
theorem dX4_sackAt_0 : decode cX4_sackAt 0 = .ok (.aload_n 0, 1) := by decide +kernel
theorem dX4_sackAt_1 : decode cX4_sackAt 1 = .ok (.iload_n 1, 1) := by decide +kernel
theorem dX4_sackAt_2 : decode cX4_sackAt 2 = .ok (.invokevirtual 48, 3) := by decide +kernel
theorem dX4_sackAt_5 : decode cX4_sackAt 5 = .ok (.astore_n 3, 1) := by decide +kernel
theorem dX4_sackAt_6 : decode cX4_sackAt 6 = .ok (.iload_n 2, 1) := by decide +kernel
theorem dX4_sackAt_7 : decode cX4_sackAt 7 = .ok (.iconst 0, 1) := by decide +kernel
theorem dX4_sackAt_8 : decode cX4_sackAt 8 = .ok (.ldc 193, 2) := by decide +kernel
theorem dX4_sackAt_10 : decode cX4_sackAt 10 = .ok (.invokestatic 52, 3) := by decide +kernel
theorem dX4_sackAt_13 : decode cX4_sackAt 13 = .ok (.aload_n 3, 1) := by decide +kernel
theorem dX4_sackAt_14 : decode cX4_sackAt 14 = .ok (.iload_n 2, 1) := by decide +kernel
theorem dX4_sackAt_15 : decode cX4_sackAt 15 = .ok (.invokevirtual 194, 3) := by decide +kernel
theorem dX4_sackAt_18 : decode cX4_sackAt 18 = .ok (.ireturn, 1) := by decide +kernel
theorem dX4_sackOf_0 : decode cX4_sackOf 0 = .ok (.iload_n 2, 1) := by decide +kernel
theorem dX4_sackOf_1 : decode cX4_sackOf 1 = .ok (.iconst 0, 1) := by decide +kernel
theorem dX4_sackOf_2 : decode cX4_sackOf 2 = .ok (.iconst 4, 1) := by decide +kernel
theorem dX4_sackOf_3 : decode cX4_sackOf 3 = .ok (.invokestatic 52, 3) := by decide +kernel
theorem dX4_sackOf_6 : decode cX4_sackOf 6 = .ok (.aload_n 0, 1) := by decide +kernel
theorem dX4_sackOf_7 : decode cX4_sackOf 7 = .ok (.getfield 10, 3) := by decide +kernel
theorem dX4_sackOf_10 : decode cX4_sackOf 10 = .ok (.iload_n 1, 1) := by decide +kernel
theorem dX4_sackOf_11 : decode cX4_sackOf 11 = .ok (.invokevirtual 197, 3) := by decide +kernel
theorem dX4_sackOf_14 : decode cX4_sackOf 14 = .ok (.astore_n 3, 1) := by decide +kernel
theorem dX4_sackOf_15 : decode cX4_sackOf 15 = .ok (.aload_n 3, 1) := by decide +kernel
theorem dX4_sackOf_16 : decode cX4_sackOf 16 = .ok (.ifnonnull 7, 3) := by decide +kernel
theorem dX4_sackOf_19 : decode cX4_sackOf 19 = .ok (.iconst (-1), 1) := by decide +kernel
theorem dX4_sackOf_20 : decode cX4_sackOf 20 = .ok (.goto 13, 3) := by decide +kernel
theorem dX4_sackOf_23 : decode cX4_sackOf 23 = .ok (.aload_n 3, 1) := by decide +kernel
theorem dX4_sackOf_24 : decode cX4_sackOf 24 = .ok (.aload_n 3, 1) := by decide +kernel
theorem dX4_sackOf_25 : decode cX4_sackOf 25 = .ok (.iload_n 1, 1) := by decide +kernel
theorem dX4_sackOf_26 : decode cX4_sackOf 26 = .ok (.invokevirtual 132, 3) := by decide +kernel
theorem dX4_sackOf_29 : decode cX4_sackOf 29 = .ok (.iload_n 2, 1) := by decide +kernel
theorem dX4_sackOf_30 : decode cX4_sackOf 30 = .ok (.invokestatic 200, 3) := by decide +kernel
theorem dX4_sackOf_33 : decode cX4_sackOf 33 = .ok (.ireturn, 1) := by decide +kernel
theorem dX4_whyNot_0 : decode cX4_whyNot 0 = .ok (.aload_n 0, 1) := by decide +kernel
theorem dX4_whyNot_1 : decode cX4_whyNot 1 = .ok (.getfield 10, 3) := by decide +kernel
theorem dX4_whyNot_4 : decode cX4_whyNot 4 = .ok (.aload_n 0, 1) := by decide +kernel
theorem dX4_whyNot_5 : decode cX4_whyNot 5 = .ok (.iload_n 1, 1) := by decide +kernel
theorem dX4_whyNot_6 : decode cX4_whyNot 6 = .ok (.invokevirtual 48, 3) := by decide +kernel
theorem dX4_whyNot_9 : decode cX4_whyNot 9 = .ok (.invokevirtual 203, 3) := by decide +kernel
theorem dX4_whyNot_12 : decode cX4_whyNot 12 = .ok (.ireturn, 1) := by decide +kernel
theorem dX4_tide_0 : decode cX4_tide 0 = .ok (.iload_n 1, 1) := by decide +kernel
theorem dX4_tide_1 : decode cX4_tide 1 = .ok (.iconst 0, 1) := by decide +kernel
theorem dX4_tide_2 : decode cX4_tide 2 = .ok (.ldc 193, 2) := by decide +kernel
theorem dX4_tide_4 : decode cX4_tide 4 = .ok (.invokestatic 52, 3) := by decide +kernel
theorem dX4_tide_7 : decode cX4_tide 7 = .ok (.aload_n 0, 1) := by decide +kernel
theorem dX4_tide_8 : decode cX4_tide 8 = .ok (.getfield 10, 3) := by decide +kernel
theorem dX4_tide_11 : decode cX4_tide 11 = .ok (.iload_n 1, 1) := by decide +kernel
theorem dX4_tide_12 : decode cX4_tide 12 = .ok (.invokevirtual 207, 3) := by decide +kernel
theorem dX4_tide_15 : decode cX4_tide 15 = .ok (.ireturn, 1) := by decide +kernel
theorem dX4_count_0 : decode cX4_count 0 = .ok (.iload_n 1, 1) := by decide +kernel
theorem dX4_count_1 : decode cX4_count 1 = .ok (.iconst 0, 1) := by decide +kernel
theorem dX4_count_2 : decode cX4_count 2 = .ok (.bipush 14, 2) := by decide +kernel
theorem dX4_count_4 : decode cX4_count 4 = .ok (.invokestatic 52, 3) := by decide +kernel
theorem dX4_count_7 : decode cX4_count 7 = .ok (.aload_n 0, 1) := by decide +kernel
theorem dX4_count_8 : decode cX4_count 8 = .ok (.iload_n 1, 1) := by decide +kernel
theorem dX4_count_9 : decode cX4_count 9 = .ok (.invokevirtual 210, 3) := by decide +kernel
theorem dX4_count_12 : decode cX4_count 12 = .ok (.ireturn, 1) := by decide +kernel
theorem dX4_next_0 : decode cX4_next 0 = .ok (.iload_n 1, 1) := by decide +kernel
theorem dX4_next_1 : decode cX4_next 1 = .ok (.iconst 0, 1) := by decide +kernel
theorem dX4_next_2 : decode cX4_next 2 = .ok (.ldc 193, 2) := by decide +kernel
theorem dX4_next_4 : decode cX4_next 4 = .ok (.invokestatic 52, 3) := by decide +kernel
theorem dX4_next_7 : decode cX4_next 7 = .ok (.aload_n 0, 1) := by decide +kernel
theorem dX4_next_8 : decode cX4_next 8 = .ok (.iload_n 1, 1) := by decide +kernel
theorem dX4_next_9 : decode cX4_next 9 = .ok (.invokevirtual 213, 3) := by decide +kernel
theorem dX4_next_12 : decode cX4_next 12 = .ok (.ireturn, 1) := by decide +kernel
theorem dX4_chosen_0 : decode cX4_chosen 0 = .ok (.aload_n 0, 1) := by decide +kernel
theorem dX4_chosen_1 : decode cX4_chosen 1 = .ok (.getfield 10, 3) := by decide +kernel
theorem dX4_chosen_4 : decode cX4_chosen 4 = .ok (.invokevirtual 216, 3) := by decide +kernel
theorem dX4_chosen_7 : decode cX4_chosen 7 = .ok (.invokestatic 220, 3) := by decide +kernel
theorem dX4_chosen_10 : decode cX4_chosen 10 = .ok (.ireturn, 1) := by decide +kernel
theorem dX4_ifPassed_0 : decode cX4_ifPassed 0 = .ok (.iload_n 1, 1) := by decide +kernel
theorem dX4_ifPassed_1 : decode cX4_ifPassed 1 = .ok (.iconst 1, 1) := by decide +kernel
theorem dX4_ifPassed_2 : decode cX4_ifPassed 2 = .ok (.bipush 48, 2) := by decide +kernel
theorem dX4_ifPassed_4 : decode cX4_ifPassed 4 = .ok (.invokestatic 52, 3) := by decide +kernel
theorem dX4_ifPassed_7 : decode cX4_ifPassed 7 = .ok (.iload_n 2, 1) := by decide +kernel
theorem dX4_ifPassed_8 : decode cX4_ifPassed 8 = .ok (.iconst 0, 1) := by decide +kernel
theorem dX4_ifPassed_9 : decode cX4_ifPassed 9 = .ok (.iconst 3, 1) := by decide +kernel
theorem dX4_ifPassed_10 : decode cX4_ifPassed 10 = .ok (.invokestatic 52, 3) := by decide +kernel
theorem dX4_ifPassed_13 : decode cX4_ifPassed 13 = .ok (.aload_n 0, 1) := by decide +kernel
theorem dX4_ifPassed_14 : decode cX4_ifPassed 14 = .ok (.iload_n 1, 1) := by decide +kernel
theorem dX4_ifPassed_15 : decode cX4_ifPassed 15 = .ok (.iload_n 2, 1) := by decide +kernel
theorem dX4_ifPassed_16 : decode cX4_ifPassed 16 = .ok (.invokevirtual 223, 3) := by decide +kernel
theorem dX4_ifPassed_19 : decode cX4_ifPassed 19 = .ok (.ireturn, 1) := by decide +kernel
theorem dX4_groundIn_0 : decode cX4_groundIn 0 = .ok (.aload_n 0, 1) := by decide +kernel
theorem dX4_groundIn_1 : decode cX4_groundIn 1 = .ok (.iload_n 1, 1) := by decide +kernel
theorem dX4_groundIn_2 : decode cX4_groundIn 2 = .ok (.invokevirtual 227, 3) := by decide +kernel
theorem dX4_groundIn_5 : decode cX4_groundIn 5 = .ok (.ireturn, 1) := by decide +kernel
theorem dX4_bestStone_0 : decode cX4_bestStone 0 = .ok (.aload_n 0, 1) := by decide +kernel
theorem dX4_bestStone_1 : decode cX4_bestStone 1 = .ok (.aload_n 0, 1) := by decide +kernel
theorem dX4_bestStone_2 : decode cX4_bestStone 2 = .ok (.iload_n 1, 1) := by decide +kernel
theorem dX4_bestStone_3 : decode cX4_bestStone 3 = .ok (.invokevirtual 48, 3) := by decide +kernel
theorem dX4_bestStone_6 : decode cX4_bestStone 6 = .ok (.invokevirtual 230, 3) := by decide +kernel
theorem dX4_bestStone_9 : decode cX4_bestStone 9 = .ok (.ireturn, 1) := by decide +kernel
theorem dX4_inTime_0 : decode cX4_inTime 0 = .ok (.aload_n 0, 1) := by decide +kernel
theorem dX4_inTime_1 : decode cX4_inTime 1 = .ok (.invokevirtual 233, 3) := by decide +kernel
theorem dX4_inTime_4 : decode cX4_inTime 4 = .ok (.dreturn, 1) := by decide +kernel
theorem dX4_digest_0 : decode cX4_digest 0 = .ok (.ldc2_w 237, 3) := by decide +kernel
theorem dX4_digest_3 : decode cX4_digest 3 = .ok (.lstore_n 1, 1) := by decide +kernel
theorem dX4_digest_4 : decode cX4_digest 4 = .ok (.iconst 0, 1) := by decide +kernel
theorem dX4_digest_5 : decode cX4_digest 5 = .ok (.istore_n 3, 1) := by decide +kernel
theorem dX4_digest_6 : decode cX4_digest 6 = .ok (.iload_n 3, 1) := by decide +kernel
theorem dX4_digest_7 : decode cX4_digest 7 = .ok (.bipush 14, 2) := by decide +kernel
theorem dX4_digest_9 : decode cX4_digest 9 = .ok (.if_icmp .gt 22, 3) := by decide +kernel
theorem dX4_digest_12 : decode cX4_digest 12 = .ok (.ldc2_w 239, 3) := by decide +kernel
theorem dX4_digest_15 : decode cX4_digest 15 = .ok (.lload_n 1, 1) := by decide +kernel
theorem dX4_digest_16 : decode cX4_digest 16 = .ok (.lmul, 1) := by decide +kernel
theorem dX4_digest_17 : decode cX4_digest 17 = .ok (.aload_n 0, 1) := by decide +kernel
theorem dX4_digest_18 : decode cX4_digest 18 = .ok (.iload_n 3, 1) := by decide +kernel
theorem dX4_digest_19 : decode cX4_digest 19 = .ok (.invokevirtual 210, 3) := by decide +kernel
theorem dX4_digest_22 : decode cX4_digest 22 = .ok (.i2l, 1) := by decide +kernel
theorem dX4_digest_23 : decode cX4_digest 23 = .ok (.ladd, 1) := by decide +kernel
theorem dX4_digest_24 : decode cX4_digest 24 = .ok (.lstore_n 1, 1) := by decide +kernel
theorem dX4_digest_25 : decode cX4_digest 25 = .ok (.iinc 3 1, 3) := by decide +kernel
theorem dX4_digest_28 : decode cX4_digest 28 = .ok (.goto (-22), 3) := by decide +kernel
theorem dX4_digest_31 : decode cX4_digest 31 = .ok (.aload_n 0, 1) := by decide +kernel
theorem dX4_digest_32 : decode cX4_digest 32 = .ok (.getfield 10, 3) := by decide +kernel
theorem dX4_digest_35 : decode cX4_digest 35 = .ok (.getfield 241, 3) := by decide +kernel
theorem dX4_digest_38 : decode cX4_digest 38 = .ok (.astore_n 3, 1) := by decide +kernel
theorem dX4_digest_39 : decode cX4_digest 39 = .ok (.aload_n 3, 1) := by decide +kernel
theorem dX4_digest_40 : decode cX4_digest 40 = .ok (.ifnull 18, 3) := by decide +kernel
theorem dX4_digest_43 : decode cX4_digest 43 = .ok (.aload_n 0, 1) := by decide +kernel
theorem dX4_digest_44 : decode cX4_digest 44 = .ok (.lload_n 1, 1) := by decide +kernel
theorem dX4_digest_45 : decode cX4_digest 45 = .ok (.aload_n 3, 1) := by decide +kernel
theorem dX4_digest_46 : decode cX4_digest 46 = .ok (.invokevirtual 245, 3) := by decide +kernel
theorem dX4_digest_49 : decode cX4_digest 49 = .ok (.lstore_n 1, 1) := by decide +kernel
theorem dX4_digest_50 : decode cX4_digest 50 = .ok (.aload_n 3, 1) := by decide +kernel
theorem dX4_digest_51 : decode cX4_digest 51 = .ok (.getfield 249, 3) := by decide +kernel
theorem dX4_digest_54 : decode cX4_digest 54 = .ok (.astore_n 3, 1) := by decide +kernel
theorem dX4_digest_55 : decode cX4_digest 55 = .ok (.goto (-16), 3) := by decide +kernel
theorem dX4_digest_58 : decode cX4_digest 58 = .ok (.iconst 0, 1) := by decide +kernel
theorem dX4_digest_59 : decode cX4_digest 59 = .ok (.istore_n 3, 1) := by decide +kernel
theorem dX4_digest_60 : decode cX4_digest 60 = .ok (.iload_n 3, 1) := by decide +kernel
theorem dX4_digest_61 : decode cX4_digest 61 = .ok (.bipush 12, 2) := by decide +kernel
theorem dX4_digest_63 : decode cX4_digest 63 = .ok (.if_icmp .ge 25, 3) := by decide +kernel
theorem dX4_digest_66 : decode cX4_digest 66 = .ok (.ldc2_w 239, 3) := by decide +kernel
theorem dX4_digest_69 : decode cX4_digest 69 = .ok (.lload_n 1, 1) := by decide +kernel
theorem dX4_digest_70 : decode cX4_digest 70 = .ok (.lmul, 1) := by decide +kernel
theorem dX4_digest_71 : decode cX4_digest 71 = .ok (.aload_n 0, 1) := by decide +kernel
theorem dX4_digest_72 : decode cX4_digest 72 = .ok (.getfield 10, 3) := by decide +kernel
theorem dX4_digest_75 : decode cX4_digest 75 = .ok (.iload_n 3, 1) := by decide +kernel
theorem dX4_digest_76 : decode cX4_digest 76 = .ok (.invokevirtual 207, 3) := by decide +kernel
theorem dX4_digest_79 : decode cX4_digest 79 = .ok (.i2l, 1) := by decide +kernel
theorem dX4_digest_80 : decode cX4_digest 80 = .ok (.ladd, 1) := by decide +kernel
theorem dX4_digest_81 : decode cX4_digest 81 = .ok (.lstore_n 1, 1) := by decide +kernel
theorem dX4_digest_82 : decode cX4_digest 82 = .ok (.iinc 3 1, 3) := by decide +kernel
theorem dX4_digest_85 : decode cX4_digest 85 = .ok (.goto (-25), 3) := by decide +kernel
theorem dX4_digest_88 : decode cX4_digest 88 = .ok (.iconst 0, 1) := by decide +kernel
theorem dX4_digest_89 : decode cX4_digest 89 = .ok (.istore_n 3, 1) := by decide +kernel
theorem dX4_digest_90 : decode cX4_digest 90 = .ok (.iload_n 3, 1) := by decide +kernel
theorem dX4_digest_91 : decode cX4_digest 91 = .ok (.iconst 5, 1) := by decide +kernel
theorem dX4_digest_92 : decode cX4_digest 92 = .ok (.if_icmp .ge 22, 3) := by decide +kernel
theorem dX4_digest_95 : decode cX4_digest 95 = .ok (.ldc2_w 239, 3) := by decide +kernel
theorem dX4_digest_98 : decode cX4_digest 98 = .ok (.lload_n 1, 1) := by decide +kernel
theorem dX4_digest_99 : decode cX4_digest 99 = .ok (.lmul, 1) := by decide +kernel
theorem dX4_digest_100 : decode cX4_digest 100 = .ok (.aload_n 0, 1) := by decide +kernel
theorem dX4_digest_101 : decode cX4_digest 101 = .ok (.iload_n 3, 1) := by decide +kernel
theorem dX4_digest_102 : decode cX4_digest 102 = .ok (.invokevirtual 213, 3) := by decide +kernel
theorem dX4_digest_105 : decode cX4_digest 105 = .ok (.i2l, 1) := by decide +kernel
theorem dX4_digest_106 : decode cX4_digest 106 = .ok (.ladd, 1) := by decide +kernel
theorem dX4_digest_107 : decode cX4_digest 107 = .ok (.lstore_n 1, 1) := by decide +kernel
theorem dX4_digest_108 : decode cX4_digest 108 = .ok (.iinc 3 1, 3) := by decide +kernel
theorem dX4_digest_111 : decode cX4_digest 111 = .ok (.goto (-21), 3) := by decide +kernel
theorem dX4_digest_114 : decode cX4_digest 114 = .ok (.ldc2_w 239, 3) := by decide +kernel
theorem dX4_digest_117 : decode cX4_digest 117 = .ok (.lload_n 1, 1) := by decide +kernel
theorem dX4_digest_118 : decode cX4_digest 118 = .ok (.lmul, 1) := by decide +kernel
theorem dX4_digest_119 : decode cX4_digest 119 = .ok (.aload_n 0, 1) := by decide +kernel
theorem dX4_digest_120 : decode cX4_digest 120 = .ok (.getfield 10, 3) := by decide +kernel
theorem dX4_digest_123 : decode cX4_digest 123 = .ok (.invokevirtual 216, 3) := by decide +kernel
theorem dX4_digest_126 : decode cX4_digest 126 = .ok (.invokestatic 220, 3) := by decide +kernel
theorem dX4_digest_129 : decode cX4_digest 129 = .ok (.i2l, 1) := by decide +kernel
theorem dX4_digest_130 : decode cX4_digest 130 = .ok (.ladd, 1) := by decide +kernel
theorem dX4_digest_131 : decode cX4_digest 131 = .ok (.lstore_n 1, 1) := by decide +kernel
theorem dX4_digest_132 : decode cX4_digest 132 = .ok (.iconst 0, 1) := by decide +kernel
theorem dX4_digest_133 : decode cX4_digest 133 = .ok (.istore_n 3, 1) := by decide +kernel
theorem dX4_digest_134 : decode cX4_digest 134 = .ok (.iload_n 3, 1) := by decide +kernel
theorem dX4_digest_135 : decode cX4_digest 135 = .ok (.iconst 3, 1) := by decide +kernel
theorem dX4_digest_136 : decode cX4_digest 136 = .ok (.if_icmp .gt 24, 3) := by decide +kernel
theorem dX4_digest_139 : decode cX4_digest 139 = .ok (.ldc2_w 239, 3) := by decide +kernel
theorem dX4_digest_142 : decode cX4_digest 142 = .ok (.lload_n 1, 1) := by decide +kernel
theorem dX4_digest_143 : decode cX4_digest 143 = .ok (.lmul, 1) := by decide +kernel
theorem dX4_digest_144 : decode cX4_digest 144 = .ok (.aload_n 0, 1) := by decide +kernel
theorem dX4_digest_145 : decode cX4_digest 145 = .ok (.bipush 12, 2) := by decide +kernel
theorem dX4_digest_147 : decode cX4_digest 147 = .ok (.iload_n 3, 1) := by decide +kernel
theorem dX4_digest_148 : decode cX4_digest 148 = .ok (.invokevirtual 223, 3) := by decide +kernel
theorem dX4_digest_151 : decode cX4_digest 151 = .ok (.i2l, 1) := by decide +kernel
theorem dX4_digest_152 : decode cX4_digest 152 = .ok (.ladd, 1) := by decide +kernel
theorem dX4_digest_153 : decode cX4_digest 153 = .ok (.lstore_n 1, 1) := by decide +kernel
theorem dX4_digest_154 : decode cX4_digest 154 = .ok (.iinc 3 1, 3) := by decide +kernel
theorem dX4_digest_157 : decode cX4_digest 157 = .ok (.goto (-23), 3) := by decide +kernel
theorem dX4_digest_160 : decode cX4_digest 160 = .ok (.ldc2_w 239, 3) := by decide +kernel
theorem dX4_digest_163 : decode cX4_digest 163 = .ok (.lload_n 1, 1) := by decide +kernel
theorem dX4_digest_164 : decode cX4_digest 164 = .ok (.lmul, 1) := by decide +kernel
theorem dX4_digest_165 : decode cX4_digest 165 = .ok (.aload_n 0, 1) := by decide +kernel
theorem dX4_digest_166 : decode cX4_digest 166 = .ok (.invokevirtual 233, 3) := by decide +kernel
theorem dX4_digest_169 : decode cX4_digest 169 = .ok (.invokestatic 252, 3) := by decide +kernel
theorem dX4_digest_172 : decode cX4_digest 172 = .ok (.ladd, 1) := by decide +kernel
theorem dX4_digest_173 : decode cX4_digest 173 = .ok (.lstore_n 1, 1) := by decide +kernel
theorem dX4_digest_174 : decode cX4_digest 174 = .ok (.ldc2_w 239, 3) := by decide +kernel
theorem dX4_digest_177 : decode cX4_digest 177 = .ok (.lload_n 1, 1) := by decide +kernel
theorem dX4_digest_178 : decode cX4_digest 178 = .ok (.lmul, 1) := by decide +kernel
theorem dX4_digest_179 : decode cX4_digest 179 = .ok (.aload_n 0, 1) := by decide +kernel
theorem dX4_digest_180 : decode cX4_digest 180 = .ok (.getfield 37, 3) := by decide +kernel
theorem dX4_digest_183 : decode cX4_digest 183 = .ok (.i2l, 1) := by decide +kernel
theorem dX4_digest_184 : decode cX4_digest 184 = .ok (.ladd, 1) := by decide +kernel
theorem dX4_digest_185 : decode cX4_digest 185 = .ok (.lstore_n 1, 1) := by decide +kernel
theorem dX4_digest_186 : decode cX4_digest 186 = .ok (.iconst 0, 1) := by decide +kernel
theorem dX4_digest_187 : decode cX4_digest 187 = .ok (.istore_n 3, 1) := by decide +kernel
theorem dX4_digest_188 : decode cX4_digest 188 = .ok (.iload_n 3, 1) := by decide +kernel
theorem dX4_digest_189 : decode cX4_digest 189 = .ok (.aload_n 0, 1) := by decide +kernel
theorem dX4_digest_190 : decode cX4_digest 190 = .ok (.getfield 37, 3) := by decide +kernel
theorem dX4_digest_193 : decode cX4_digest 193 = .ok (.if_icmp .ge 32, 3) := by decide +kernel
theorem dX4_digest_196 : decode cX4_digest 196 = .ok (.iload_n 3, 1) := by decide +kernel
theorem dX4_digest_197 : decode cX4_digest 197 = .ok (.aload_n 0, 1) := by decide +kernel
theorem dX4_digest_198 : decode cX4_digest 198 = .ok (.getfield 33, 3) := by decide +kernel
theorem dX4_digest_201 : decode cX4_digest 201 = .ok (.arraylength, 1) := by decide +kernel
theorem dX4_digest_202 : decode cX4_digest 202 = .ok (.if_icmp .ge 23, 3) := by decide +kernel
theorem dX4_digest_205 : decode cX4_digest 205 = .ok (.ldc2_w 239, 3) := by decide +kernel
theorem dX4_digest_208 : decode cX4_digest 208 = .ok (.lload_n 1, 1) := by decide +kernel
theorem dX4_digest_209 : decode cX4_digest 209 = .ok (.lmul, 1) := by decide +kernel
theorem dX4_digest_210 : decode cX4_digest 210 = .ok (.aload_n 0, 1) := by decide +kernel
theorem dX4_digest_211 : decode cX4_digest 211 = .ok (.getfield 33, 3) := by decide +kernel
theorem dX4_digest_214 : decode cX4_digest 214 = .ok (.iload_n 3, 1) := by decide +kernel
theorem dX4_digest_215 : decode cX4_digest 215 = .ok (.iaload, 1) := by decide +kernel
theorem dX4_digest_216 : decode cX4_digest 216 = .ok (.i2l, 1) := by decide +kernel
theorem dX4_digest_217 : decode cX4_digest 217 = .ok (.ladd, 1) := by decide +kernel
theorem dX4_digest_218 : decode cX4_digest 218 = .ok (.lstore_n 1, 1) := by decide +kernel
theorem dX4_digest_219 : decode cX4_digest 219 = .ok (.iinc 3 1, 3) := by decide +kernel
theorem dX4_digest_222 : decode cX4_digest 222 = .ok (.goto (-34), 3) := by decide +kernel
theorem dX4_digest_225 : decode cX4_digest 225 = .ok (.lload_n 1, 1) := by decide +kernel
theorem dX4_digest_226 : decode cX4_digest 226 = .ok (.lreturn, 1) := by decide +kernel
theorem dX4_millOrThrow_0 : decode cX4_millOrThrow 0 = .ok (.aload_n 0, 1) := by decide +kernel
theorem dX4_millOrThrow_1 : decode cX4_millOrThrow 1 = .ok (.getfield 10, 3) := by decide +kernel
theorem dX4_millOrThrow_4 : decode cX4_millOrThrow 4 = .ok (.iload_n 1, 1) := by decide +kernel
theorem dX4_millOrThrow_5 : decode cX4_millOrThrow 5 = .ok (.invokevirtual 256, 3) := by decide +kernel
theorem dX4_millOrThrow_8 : decode cX4_millOrThrow 8 = .ok (.astore_n 2, 1) := by decide +kernel
theorem dX4_millOrThrow_9 : decode cX4_millOrThrow 9 = .ok (.aload_n 2, 1) := by decide +kernel
theorem dX4_millOrThrow_10 : decode cX4_millOrThrow 10 = .ok (.ifnonnull 14, 3) := by decide +kernel
theorem dX4_millOrThrow_13 : decode cX4_millOrThrow 13 = .ok (.new 91, 3) := by decide +kernel
theorem dX4_millOrThrow_16 : decode cX4_millOrThrow 16 = .ok (.dup, 1) := by decide +kernel
theorem dX4_millOrThrow_17 : decode cX4_millOrThrow 17 = .ok (.ldc_w 259, 3) := by decide +kernel
theorem dX4_millOrThrow_20 : decode cX4_millOrThrow 20 = .ok (.invokespecial 95, 3) := by decide +kernel
theorem dX4_millOrThrow_23 : decode cX4_millOrThrow 23 = .ok (.athrow, 1) := by decide +kernel
theorem dX4_millOrThrow_24 : decode cX4_millOrThrow 24 = .ok (.aload_n 2, 1) := by decide +kernel
theorem dX4_millOrThrow_25 : decode cX4_millOrThrow 25 = .ok (.areturn, 1) := by decide +kernel
theorem dX4_millOfSackOrThrow_0 : decode cX4_millOfSackOrThrow 0 = .ok (.aload_n 0, 1) := by decide +kernel
theorem dX4_millOfSackOrThrow_1 : decode cX4_millOfSackOrThrow 1 = .ok (.getfield 10, 3) := by decide +kernel
theorem dX4_millOfSackOrThrow_4 : decode cX4_millOfSackOrThrow 4 = .ok (.iload_n 1, 1) := by decide +kernel
theorem dX4_millOfSackOrThrow_5 : decode cX4_millOfSackOrThrow 5 = .ok (.invokevirtual 197, 3) := by decide +kernel
theorem dX4_millOfSackOrThrow_8 : decode cX4_millOfSackOrThrow 8 = .ok (.astore_n 2, 1) := by decide +kernel
theorem dX4_millOfSackOrThrow_9 : decode cX4_millOfSackOrThrow 9 = .ok (.aload_n 2, 1) := by decide +kernel
theorem dX4_millOfSackOrThrow_10 : decode cX4_millOfSackOrThrow 10 = .ok (.ifnonnull 14, 3) := by decide +kernel
theorem dX4_millOfSackOrThrow_13 : decode cX4_millOfSackOrThrow 13 = .ok (.new 154, 3) := by decide +kernel
theorem dX4_millOfSackOrThrow_16 : decode cX4_millOfSackOrThrow 16 = .ok (.dup, 1) := by decide +kernel
theorem dX4_millOfSackOrThrow_17 : decode cX4_millOfSackOrThrow 17 = .ok (.ldc_w 261, 3) := by decide +kernel
theorem dX4_millOfSackOrThrow_20 : decode cX4_millOfSackOrThrow 20 = .ok (.invokespecial 158, 3) := by decide +kernel
theorem dX4_millOfSackOrThrow_23 : decode cX4_millOfSackOrThrow 23 = .ok (.athrow, 1) := by decide +kernel
theorem dX4_millOfSackOrThrow_24 : decode cX4_millOfSackOrThrow 24 = .ok (.aload_n 2, 1) := by decide +kernel
theorem dX4_millOfSackOrThrow_25 : decode cX4_millOfSackOrThrow 25 = .ok (.areturn, 1) := by decide +kernel
theorem dX4_requireRange_0 : decode cX4_requireRange 0 = .ok (.iload_n 0, 1) := by decide +kernel
theorem dX4_requireRange_1 : decode cX4_requireRange 1 = .ok (.iload_n 1, 1) := by decide +kernel
theorem dX4_requireRange_2 : decode cX4_requireRange 2 = .ok (.if_icmp .lt 8, 3) := by decide +kernel
theorem dX4_requireRange_5 : decode cX4_requireRange 5 = .ok (.iload_n 0, 1) := by decide +kernel
theorem dX4_requireRange_6 : decode cX4_requireRange 6 = .ok (.iload_n 2, 1) := by decide +kernel
theorem dX4_requireRange_7 : decode cX4_requireRange 7 = .ok (.if_icmp .le 14, 3) := by decide +kernel
theorem dX4_requireRange_10 : decode cX4_requireRange 10 = .ok (.new 167, 3) := by decide +kernel
theorem dX4_requireRange_13 : decode cX4_requireRange 13 = .ok (.dup, 1) := by decide +kernel
theorem dX4_requireRange_14 : decode cX4_requireRange 14 = .ok (.ldc_w 263, 3) := by decide +kernel
theorem dX4_requireRange_17 : decode cX4_requireRange 17 = .ok (.invokespecial 171, 3) := by decide +kernel
theorem dX4_requireRange_20 : decode cX4_requireRange 20 = .ok (.athrow, 1) := by decide +kernel
theorem dX4_requireRange_21 : decode cX4_requireRange 21 = .ok (.return_, 1) := by decide +kernel
theorem dX4_requireState_0 : decode cX4_requireState 0 = .ok (.iload_n 0, 1) := by decide +kernel
theorem dX4_requireState_1 : decode cX4_requireState 1 = .ok (.ifCond .ne 14, 3) := by decide +kernel
theorem dX4_requireState_4 : decode cX4_requireState 4 = .ok (.new 154, 3) := by decide +kernel
theorem dX4_requireState_7 : decode cX4_requireState 7 = .ok (.dup, 1) := by decide +kernel
theorem dX4_requireState_8 : decode cX4_requireState 8 = .ok (.ldc_w 265, 3) := by decide +kernel
theorem dX4_requireState_11 : decode cX4_requireState 11 = .ok (.invokespecial 158, 3) := by decide +kernel
theorem dX4_requireState_14 : decode cX4_requireState 14 = .ok (.athrow, 1) := by decide +kernel
theorem dX4_requireState_15 : decode cX4_requireState 15 = .ok (.return_, 1) := by decide +kernel
theorem dX4_leastOfSetting_0 : decode cX4_leastOfSetting 0 = .ok (.iload_n 0, 1) := by decide +kernel
theorem dX4_leastOfSetting_1 : decode cX4_leastOfSetting 1 = .ok (.lookupswitch 31 #[(0, 27), (1, 29)], 27) := by decide +kernel
theorem dX4_leastOfSetting_28 : decode cX4_leastOfSetting 28 = .ok (.iconst 1, 1) := by decide +kernel
theorem dX4_leastOfSetting_29 : decode cX4_leastOfSetting 29 = .ok (.ireturn, 1) := by decide +kernel
theorem dX4_leastOfSetting_30 : decode cX4_leastOfSetting 30 = .ok (.iconst 0, 1) := by decide +kernel
theorem dX4_leastOfSetting_31 : decode cX4_leastOfSetting 31 = .ok (.ireturn, 1) := by decide +kernel
theorem dX4_leastOfSetting_32 : decode cX4_leastOfSetting 32 = .ok (.iconst 5, 1) := by decide +kernel
theorem dX4_leastOfSetting_33 : decode cX4_leastOfSetting 33 = .ok (.ireturn, 1) := by decide +kernel
theorem dX4_mostOfSetting_0 : decode cX4_mostOfSetting 0 = .ok (.iload_n 0, 1) := by decide +kernel
theorem dX4_mostOfSetting_1 : decode cX4_mostOfSetting 1 = .ok (.ifCond .ne 8, 3) := by decide +kernel
theorem dX4_mostOfSetting_4 : decode cX4_mostOfSetting 4 = .ok (.bipush 15, 2) := by decide +kernel
theorem dX4_mostOfSetting_6 : decode cX4_mostOfSetting 6 = .ok (.goto 5, 3) := by decide +kernel
theorem dX4_mostOfSetting_9 : decode cX4_mostOfSetting 9 = .ok (.bipush 100, 2) := by decide +kernel
theorem dX4_mostOfSetting_11 : decode cX4_mostOfSetting 11 = .ok (.ireturn, 1) := by decide +kernel
theorem dX4_numberOrNone_0 : decode cX4_numberOrNone 0 = .ok (.aload_n 0, 1) := by decide +kernel
theorem dX4_numberOrNone_1 : decode cX4_numberOrNone 1 = .ok (.ifnonnull 7, 3) := by decide +kernel
theorem dX4_numberOrNone_4 : decode cX4_numberOrNone 4 = .ok (.iconst (-1), 1) := by decide +kernel
theorem dX4_numberOrNone_5 : decode cX4_numberOrNone 5 = .ok (.goto 7, 3) := by decide +kernel
theorem dX4_numberOrNone_8 : decode cX4_numberOrNone 8 = .ok (.aload_n 0, 1) := by decide +kernel
theorem dX4_numberOrNone_9 : decode cX4_numberOrNone 9 = .ok (.getfield 267, 3) := by decide +kernel
theorem dX4_numberOrNone_12 : decode cX4_numberOrNone 12 = .ok (.ireturn, 1) := by decide +kernel
theorem dX4_readToError_0 : decode cX4_readToError 0 = .ok (.aload_n 0, 1) := by decide +kernel
theorem dX4_readToError_1 : decode cX4_readToError 1 = .ok (.getfield 44, 3) := by decide +kernel
theorem dX4_readToError_4 : decode cX4_readToError 4 = .ok (.invokevirtual 270, 3) := by decide +kernel
theorem dX4_readToError_7 : decode cX4_readToError 7 = .ok (.iconst 0, 1) := by decide +kernel
theorem dX4_readToError_8 : decode cX4_readToError 8 = .ok (.istore_n 1, 1) := by decide +kernel
theorem dX4_readToError_9 : decode cX4_readToError 9 = .ok (.iload_n 1, 1) := by decide +kernel
theorem dX4_readToError_10 : decode cX4_readToError 10 = .ok (.aload_n 0, 1) := by decide +kernel
theorem dX4_readToError_11 : decode cX4_readToError 11 = .ok (.getfield 37, 3) := by decide +kernel
theorem dX4_readToError_14 : decode cX4_readToError 14 = .ok (.if_icmp .ge 34, 3) := by decide +kernel
theorem dX4_readToError_17 : decode cX4_readToError 17 = .ok (.iload_n 1, 1) := by decide +kernel
theorem dX4_readToError_18 : decode cX4_readToError 18 = .ok (.aload_n 0, 1) := by decide +kernel
theorem dX4_readToError_19 : decode cX4_readToError 19 = .ok (.getfield 33, 3) := by decide +kernel
theorem dX4_readToError_22 : decode cX4_readToError 22 = .ok (.arraylength, 1) := by decide +kernel
theorem dX4_readToError_23 : decode cX4_readToError 23 = .ok (.if_icmp .ge 25, 3) := by decide +kernel
theorem dX4_readToError_26 : decode cX4_readToError 26 = .ok (.aload_n 0, 1) := by decide +kernel
theorem dX4_readToError_27 : decode cX4_readToError 27 = .ok (.getfield 44, 3) := by decide +kernel
theorem dX4_readToError_30 : decode cX4_readToError 30 = .ok (.aload_n 0, 1) := by decide +kernel
theorem dX4_readToError_31 : decode cX4_readToError 31 = .ok (.getfield 33, 3) := by decide +kernel
theorem dX4_readToError_34 : decode cX4_readToError 34 = .ok (.iload_n 1, 1) := by decide +kernel
theorem dX4_readToError_35 : decode cX4_readToError 35 = .ok (.iaload, 1) := by decide +kernel
theorem dX4_readToError_36 : decode cX4_readToError 36 = .ok (.invokevirtual 273, 3) := by decide +kernel
theorem dX4_readToError_39 : decode cX4_readToError 39 = .ok (.ifCond .eq 9, 3) := by decide +kernel
theorem dX4_readToError_42 : decode cX4_readToError 42 = .ok (.iinc 1 1, 3) := by decide +kernel
theorem dX4_readToError_45 : decode cX4_readToError 45 = .ok (.goto (-36), 3) := by decide +kernel
theorem dX4_readToError_48 : decode cX4_readToError 48 = .ok (.iload_n 1, 1) := by decide +kernel
theorem dX4_readToError_49 : decode cX4_readToError 49 = .ok (.ireturn, 1) := by decide +kernel
theorem dX4_doParts_0 : decode cX4_doParts 0 = .ok (.iconst 0, 1) := by decide +kernel
theorem dX4_doParts_1 : decode cX4_doParts 1 = .ok (.istore_n 1, 1) := by decide +kernel
theorem dX4_doParts_2 : decode cX4_doParts 2 = .ok (.aload_n 0, 1) := by decide +kernel
theorem dX4_doParts_3 : decode cX4_doParts 3 = .ok (.getfield 44, 3) := by decide +kernel
theorem dX4_doParts_6 : decode cX4_doParts 6 = .ok (.invokevirtual 270, 3) := by decide +kernel
theorem dX4_doParts_9 : decode cX4_doParts 9 = .ok (.iconst 0, 1) := by decide +kernel
theorem dX4_doParts_10 : decode cX4_doParts 10 = .ok (.istore_n 2, 1) := by decide +kernel
theorem dX4_doParts_11 : decode cX4_doParts 11 = .ok (.iload_n 2, 1) := by decide +kernel
theorem dX4_doParts_12 : decode cX4_doParts 12 = .ok (.aload_n 0, 1) := by decide +kernel
theorem dX4_doParts_13 : decode cX4_doParts 13 = .ok (.getfield 37, 3) := by decide +kernel
theorem dX4_doParts_16 : decode cX4_doParts 16 = .ok (.if_icmp .gt 73, 3) := by decide +kernel
theorem dX4_doParts_19 : decode cX4_doParts 19 = .ok (.iload_n 2, 1) := by decide +kernel
theorem dX4_doParts_20 : decode cX4_doParts 20 = .ok (.aload_n 0, 1) := by decide +kernel
theorem dX4_doParts_21 : decode cX4_doParts 21 = .ok (.getfield 37, 3) := by decide +kernel
theorem dX4_doParts_24 : decode cX4_doParts 24 = .ok (.if_icmp .ge 40, 3) := by decide +kernel
theorem dX4_doParts_27 : decode cX4_doParts 27 = .ok (.iload_n 2, 1) := by decide +kernel
theorem dX4_doParts_28 : decode cX4_doParts 28 = .ok (.aload_n 0, 1) := by decide +kernel
theorem dX4_doParts_29 : decode cX4_doParts 29 = .ok (.getfield 33, 3) := by decide +kernel
theorem dX4_doParts_32 : decode cX4_doParts 32 = .ok (.arraylength, 1) := by decide +kernel
theorem dX4_doParts_33 : decode cX4_doParts 33 = .ok (.if_icmp .ge 31, 3) := by decide +kernel
theorem dX4_doParts_36 : decode cX4_doParts 36 = .ok (.aload_n 0, 1) := by decide +kernel
theorem dX4_doParts_37 : decode cX4_doParts 37 = .ok (.getfield 33, 3) := by decide +kernel
theorem dX4_doParts_40 : decode cX4_doParts 40 = .ok (.iload_n 2, 1) := by decide +kernel
theorem dX4_doParts_41 : decode cX4_doParts 41 = .ok (.iaload, 1) := by decide +kernel
theorem dX4_doParts_42 : decode cX4_doParts 42 = .ok (.bipush 59, 2) := by decide +kernel
theorem dX4_doParts_44 : decode cX4_doParts 44 = .ok (.if_icmp .eq 20, 3) := by decide +kernel
theorem dX4_doParts_47 : decode cX4_doParts 47 = .ok (.aload_n 0, 1) := by decide +kernel
theorem dX4_doParts_48 : decode cX4_doParts 48 = .ok (.getfield 44, 3) := by decide +kernel
theorem dX4_doParts_51 : decode cX4_doParts 51 = .ok (.aload_n 0, 1) := by decide +kernel
theorem dX4_doParts_52 : decode cX4_doParts 52 = .ok (.getfield 33, 3) := by decide +kernel
theorem dX4_doParts_55 : decode cX4_doParts 55 = .ok (.iload_n 2, 1) := by decide +kernel
theorem dX4_doParts_56 : decode cX4_doParts 56 = .ok (.iaload, 1) := by decide +kernel
theorem dX4_doParts_57 : decode cX4_doParts 57 = .ok (.invokevirtual 273, 3) := by decide +kernel
theorem dX4_doParts_60 : decode cX4_doParts 60 = .ok (.pop, 1) := by decide +kernel
theorem dX4_doParts_61 : decode cX4_doParts 61 = .ok (.goto 22, 3) := by decide +kernel
theorem dX4_doParts_64 : decode cX4_doParts 64 = .ok (.aload_n 0, 1) := by decide +kernel
theorem dX4_doParts_65 : decode cX4_doParts 65 = .ok (.invokevirtual 277, 3) := by decide +kernel
theorem dX4_doParts_68 : decode cX4_doParts 68 = .ok (.ifCond .ne 5, 3) := by decide +kernel
theorem dX4_doParts_71 : decode cX4_doParts 71 = .ok (.iload_n 1, 1) := by decide +kernel
theorem dX4_doParts_72 : decode cX4_doParts 72 = .ok (.ireturn, 1) := by decide +kernel
theorem dX4_doParts_73 : decode cX4_doParts 73 = .ok (.iinc 1 1, 3) := by decide +kernel
theorem dX4_doParts_76 : decode cX4_doParts 76 = .ok (.aload_n 0, 1) := by decide +kernel
theorem dX4_doParts_77 : decode cX4_doParts 77 = .ok (.getfield 44, 3) := by decide +kernel
theorem dX4_doParts_80 : decode cX4_doParts 80 = .ok (.invokevirtual 270, 3) := by decide +kernel
theorem dX4_doParts_83 : decode cX4_doParts 83 = .ok (.iinc 2 1, 3) := by decide +kernel
theorem dX4_doParts_86 : decode cX4_doParts 86 = .ok (.goto (-75), 3) := by decide +kernel
theorem dX4_doParts_89 : decode cX4_doParts 89 = .ok (.iload_n 1, 1) := by decide +kernel
theorem dX4_doParts_90 : decode cX4_doParts 90 = .ok (.ireturn, 1) := by decide +kernel
theorem dX4_doPart_0 : decode cX4_doPart 0 = .ok (.aload_n 0, 1) := by decide +kernel
theorem dX4_doPart_1 : decode cX4_doPart 1 = .ok (.getfield 44, 3) := by decide +kernel
theorem dX4_doPart_4 : decode cX4_doPart 4 = .ok (.getfield 280, 3) := by decide +kernel
theorem dX4_doPart_7 : decode cX4_doPart 7 = .ok (.bipush 43, 2) := by decide +kernel
theorem dX4_doPart_9 : decode cX4_doPart 9 = .ok (.if_icmp .ne 20, 3) := by decide +kernel
theorem dX4_doPart_12 : decode cX4_doPart 12 = .ok (.aload_n 0, 1) := by decide +kernel
theorem dX4_doPart_13 : decode cX4_doPart 13 = .ok (.getfield 10, 3) := by decide +kernel
theorem dX4_doPart_16 : decode cX4_doPart 16 = .ok (.aload_n 0, 1) := by decide +kernel
theorem dX4_doPart_17 : decode cX4_doPart 17 = .ok (.getfield 44, 3) := by decide +kernel
theorem dX4_doPart_20 : decode cX4_doPart 20 = .ok (.iconst 0, 1) := by decide +kernel
theorem dX4_doPart_21 : decode cX4_doPart 21 = .ok (.invokevirtual 283, 3) := by decide +kernel
theorem dX4_doPart_24 : decode cX4_doPart 24 = .ok (.invokevirtual 114, 3) := by decide +kernel
theorem dX4_doPart_27 : decode cX4_doPart 27 = .ok (.iconst 1, 1) := by decide +kernel
theorem dX4_doPart_28 : decode cX4_doPart 28 = .ok (.ireturn, 1) := by decide +kernel
theorem dX4_doPart_29 : decode cX4_doPart 29 = .ok (.aload_n 0, 1) := by decide +kernel
theorem dX4_doPart_30 : decode cX4_doPart 30 = .ok (.getfield 10, 3) := by decide +kernel
theorem dX4_doPart_33 : decode cX4_doPart 33 = .ok (.aload_n 0, 1) := by decide +kernel
theorem dX4_doPart_34 : decode cX4_doPart 34 = .ok (.getfield 44, 3) := by decide +kernel
theorem dX4_doPart_37 : decode cX4_doPart 37 = .ok (.iconst 0, 1) := by decide +kernel
theorem dX4_doPart_38 : decode cX4_doPart 38 = .ok (.invokevirtual 283, 3) := by decide +kernel
theorem dX4_doPart_41 : decode cX4_doPart 41 = .ok (.invokevirtual 256, 3) := by decide +kernel
theorem dX4_doPart_44 : decode cX4_doPart 44 = .ok (.astore_n 1, 1) := by decide +kernel
theorem dX4_doPart_45 : decode cX4_doPart 45 = .ok (.aload_n 1, 1) := by decide +kernel
theorem dX4_doPart_46 : decode cX4_doPart 46 = .ok (.ifnonnull 5, 3) := by decide +kernel
theorem dX4_doPart_49 : decode cX4_doPart 49 = .ok (.iconst 0, 1) := by decide +kernel
theorem dX4_doPart_50 : decode cX4_doPart 50 = .ok (.ireturn, 1) := by decide +kernel
theorem dX4_doPart_51 : decode cX4_doPart 51 = .ok (.aload_n 0, 1) := by decide +kernel
theorem dX4_doPart_52 : decode cX4_doPart 52 = .ok (.getfield 44, 3) := by decide +kernel
theorem dX4_doPart_55 : decode cX4_doPart 55 = .ok (.getfield 280, 3) := by decide +kernel
theorem dX4_doPart_58 : decode cX4_doPart 58 = .ok (.bipush 103, 2) := by decide +kernel
theorem dX4_doPart_60 : decode cX4_doPart 60 = .ok (.if_icmp .ne 29, 3) := by decide +kernel
theorem dX4_doPart_63 : decode cX4_doPart 63 = .ok (.aload_n 1, 1) := by decide +kernel
theorem dX4_doPart_64 : decode cX4_doPart 64 = .ok (.aload_n 0, 1) := by decide +kernel
theorem dX4_doPart_65 : decode cX4_doPart 65 = .ok (.getfield 44, 3) := by decide +kernel
theorem dX4_doPart_68 : decode cX4_doPart 68 = .ok (.iconst 1, 1) := by decide +kernel
theorem dX4_doPart_69 : decode cX4_doPart 69 = .ok (.invokevirtual 283, 3) := by decide +kernel
theorem dX4_doPart_72 : decode cX4_doPart 72 = .ok (.putfield 81, 3) := by decide +kernel
theorem dX4_doPart_75 : decode cX4_doPart 75 = .ok (.aload_n 1, 1) := by decide +kernel
theorem dX4_doPart_76 : decode cX4_doPart 76 = .ok (.aload_n 0, 1) := by decide +kernel
theorem dX4_doPart_77 : decode cX4_doPart 77 = .ok (.getfield 44, 3) := by decide +kernel
theorem dX4_doPart_80 : decode cX4_doPart 80 = .ok (.iconst 2, 1) := by decide +kernel
theorem dX4_doPart_81 : decode cX4_doPart 81 = .ok (.invokevirtual 283, 3) := by decide +kernel
theorem dX4_doPart_84 : decode cX4_doPart 84 = .ok (.putfield 84, 3) := by decide +kernel
theorem dX4_doPart_87 : decode cX4_doPart 87 = .ok (.iconst 1, 1) := by decide +kernel
theorem dX4_doPart_88 : decode cX4_doPart 88 = .ok (.ireturn, 1) := by decide +kernel
theorem dX4_doPart_89 : decode cX4_doPart 89 = .ok (.aload_n 0, 1) := by decide +kernel
theorem dX4_doPart_90 : decode cX4_doPart 90 = .ok (.getfield 10, 3) := by decide +kernel
theorem dX4_doPart_93 : decode cX4_doPart 93 = .ok (.aload_n 1, 1) := by decide +kernel
theorem dX4_doPart_94 : decode cX4_doPart 94 = .ok (.aload_n 0, 1) := by decide +kernel
theorem dX4_doPart_95 : decode cX4_doPart 95 = .ok (.getfield 44, 3) := by decide +kernel
theorem dX4_doPart_98 : decode cX4_doPart 98 = .ok (.iconst 1, 1) := by decide +kernel
theorem dX4_doPart_99 : decode cX4_doPart 99 = .ok (.invokevirtual 283, 3) := by decide +kernel
theorem dX4_doPart_102 : decode cX4_doPart 102 = .ok (.aload_n 0, 1) := by decide +kernel
theorem dX4_doPart_103 : decode cX4_doPart 103 = .ok (.getfield 44, 3) := by decide +kernel
theorem dX4_doPart_106 : decode cX4_doPart 106 = .ok (.iconst 2, 1) := by decide +kernel
theorem dX4_doPart_107 : decode cX4_doPart 107 = .ok (.invokevirtual 283, 3) := by decide +kernel
theorem dX4_doPart_110 : decode cX4_doPart 110 = .ok (.invokevirtual 122, 3) := by decide +kernel
theorem dX4_doPart_113 : decode cX4_doPart 113 = .ok (.iconst (-1), 1) := by decide +kernel
theorem dX4_doPart_114 : decode cX4_doPart 114 = .ok (.if_icmp .eq 7, 3) := by decide +kernel
theorem dX4_doPart_117 : decode cX4_doPart 117 = .ok (.iconst 1, 1) := by decide +kernel
theorem dX4_doPart_118 : decode cX4_doPart 118 = .ok (.goto 4, 3) := by decide +kernel
theorem dX4_doPart_121 : decode cX4_doPart 121 = .ok (.iconst 0, 1) := by decide +kernel
theorem dX4_doPart_122 : decode cX4_doPart 122 = .ok (.ireturn, 1) := by decide +kernel
theorem dX4_numberOfMill_0 : decode cX4_numberOfMill 0 = .ok (.iload_n 2, 1) := by decide +kernel
theorem dX4_numberOfMill_1 : decode cX4_numberOfMill 1 = .ok (.tableswitch 123 0 9 #[55, 60, 65, 70, 75, 80, 85, 90, 95, 118], 55) := by decide +kernel
theorem dX4_numberOfMill_56 : decode cX4_numberOfMill 56 = .ok (.aload_n 1, 1) := by decide +kernel
theorem dX4_numberOfMill_57 : decode cX4_numberOfMill 57 = .ok (.getfield 69, 3) := by decide +kernel
theorem dX4_numberOfMill_60 : decode cX4_numberOfMill 60 = .ok (.ireturn, 1) := by decide +kernel
theorem dX4_numberOfMill_61 : decode cX4_numberOfMill 61 = .ok (.aload_n 1, 1) := by decide +kernel
theorem dX4_numberOfMill_62 : decode cX4_numberOfMill 62 = .ok (.getfield 56, 3) := by decide +kernel
theorem dX4_numberOfMill_65 : decode cX4_numberOfMill 65 = .ok (.ireturn, 1) := by decide +kernel
theorem dX4_numberOfMill_66 : decode cX4_numberOfMill 66 = .ok (.aload_n 1, 1) := by decide +kernel
theorem dX4_numberOfMill_67 : decode cX4_numberOfMill 67 = .ok (.getfield 72, 3) := by decide +kernel
theorem dX4_numberOfMill_70 : decode cX4_numberOfMill 70 = .ok (.ireturn, 1) := by decide +kernel
theorem dX4_numberOfMill_71 : decode cX4_numberOfMill 71 = .ok (.aload_n 1, 1) := by decide +kernel
theorem dX4_numberOfMill_72 : decode cX4_numberOfMill 72 = .ok (.getfield 78, 3) := by decide +kernel
theorem dX4_numberOfMill_75 : decode cX4_numberOfMill 75 = .ok (.ireturn, 1) := by decide +kernel
theorem dX4_numberOfMill_76 : decode cX4_numberOfMill 76 = .ok (.aload_n 1, 1) := by decide +kernel
theorem dX4_numberOfMill_77 : decode cX4_numberOfMill 77 = .ok (.getfield 75, 3) := by decide +kernel
theorem dX4_numberOfMill_80 : decode cX4_numberOfMill 80 = .ok (.ireturn, 1) := by decide +kernel
theorem dX4_numberOfMill_81 : decode cX4_numberOfMill 81 = .ok (.aload_n 1, 1) := by decide +kernel
theorem dX4_numberOfMill_82 : decode cX4_numberOfMill 82 = .ok (.getfield 81, 3) := by decide +kernel
theorem dX4_numberOfMill_85 : decode cX4_numberOfMill 85 = .ok (.ireturn, 1) := by decide +kernel
theorem dX4_numberOfMill_86 : decode cX4_numberOfMill 86 = .ok (.aload_n 1, 1) := by decide +kernel
theorem dX4_numberOfMill_87 : decode cX4_numberOfMill 87 = .ok (.getfield 84, 3) := by decide +kernel
theorem dX4_numberOfMill_90 : decode cX4_numberOfMill 90 = .ok (.ireturn, 1) := by decide +kernel
theorem dX4_numberOfMill_91 : decode cX4_numberOfMill 91 = .ok (.aload_n 1, 1) := by decide +kernel
theorem dX4_numberOfMill_92 : decode cX4_numberOfMill 92 = .ok (.getfield 129, 3) := by decide +kernel
theorem dX4_numberOfMill_95 : decode cX4_numberOfMill 95 = .ok (.ireturn, 1) := by decide +kernel
theorem dX4_numberOfMill_96 : decode cX4_numberOfMill 96 = .ok (.aload_n 1, 1) := by decide +kernel
theorem dX4_numberOfMill_97 : decode cX4_numberOfMill 97 = .ok (.aload_n 0, 1) := by decide +kernel
theorem dX4_numberOfMill_98 : decode cX4_numberOfMill 98 = .ok (.getfield 10, 3) := by decide +kernel
theorem dX4_numberOfMill_101 : decode cX4_numberOfMill 101 = .ok (.aload_n 0, 1) := by decide +kernel
theorem dX4_numberOfMill_102 : decode cX4_numberOfMill 102 = .ok (.getfield 10, 3) := by decide +kernel
theorem dX4_numberOfMill_105 : decode cX4_numberOfMill 105 = .ok (.getfield 184, 3) := by decide +kernel
theorem dX4_numberOfMill_108 : decode cX4_numberOfMill 108 = .ok (.invokevirtual 207, 3) := by decide +kernel
theorem dX4_numberOfMill_111 : decode cX4_numberOfMill 111 = .ok (.invokevirtual 284, 3) := by decide +kernel
theorem dX4_numberOfMill_114 : decode cX4_numberOfMill 114 = .ok (.sipush 1000, 3) := by decide +kernel
theorem dX4_numberOfMill_117 : decode cX4_numberOfMill 117 = .ok (.iadd, 1) := by decide +kernel
theorem dX4_numberOfMill_118 : decode cX4_numberOfMill 118 = .ok (.ireturn, 1) := by decide +kernel
theorem dX4_numberOfMill_119 : decode cX4_numberOfMill 119 = .ok (.aload_n 1, 1) := by decide +kernel
theorem dX4_numberOfMill_120 : decode cX4_numberOfMill 120 = .ok (.getfield 287, 3) := by decide +kernel
theorem dX4_numberOfMill_123 : decode cX4_numberOfMill 123 = .ok (.ireturn, 1) := by decide +kernel
theorem dX4_numberOfMill_124 : decode cX4_numberOfMill 124 = .ok (.aload_n 1, 1) := by decide +kernel
theorem dX4_numberOfMill_125 : decode cX4_numberOfMill 125 = .ok (.getfield 290, 3) := by decide +kernel
theorem dX4_numberOfMill_128 : decode cX4_numberOfMill 128 = .ok (.ireturn, 1) := by decide +kernel
theorem dX4_numberOfSack_0 : decode cX4_numberOfSack 0 = .ok (.iload_n 2, 1) := by decide +kernel
theorem dX4_numberOfSack_1 : decode cX4_numberOfSack 1 = .ok (.tableswitch 54 0 3 #[31, 36, 42, 48], 31) := by decide +kernel
theorem dX4_numberOfSack_32 : decode cX4_numberOfSack 32 = .ok (.aload_n 0, 1) := by decide +kernel
theorem dX4_numberOfSack_33 : decode cX4_numberOfSack 33 = .ok (.getfield 267, 3) := by decide +kernel
theorem dX4_numberOfSack_36 : decode cX4_numberOfSack 36 = .ok (.ireturn, 1) := by decide +kernel
theorem dX4_numberOfSack_37 : decode cX4_numberOfSack 37 = .ok (.aload_n 0, 1) := by decide +kernel
theorem dX4_numberOfSack_38 : decode cX4_numberOfSack 38 = .ok (.iload_n 1, 1) := by decide +kernel
theorem dX4_numberOfSack_39 : decode cX4_numberOfSack 39 = .ok (.invokevirtual 135, 3) := by decide +kernel
theorem dX4_numberOfSack_42 : decode cX4_numberOfSack 42 = .ok (.ireturn, 1) := by decide +kernel
theorem dX4_numberOfSack_43 : decode cX4_numberOfSack 43 = .ok (.aload_n 0, 1) := by decide +kernel
theorem dX4_numberOfSack_44 : decode cX4_numberOfSack 44 = .ok (.iload_n 1, 1) := by decide +kernel
theorem dX4_numberOfSack_45 : decode cX4_numberOfSack 45 = .ok (.invokevirtual 138, 3) := by decide +kernel
theorem dX4_numberOfSack_48 : decode cX4_numberOfSack 48 = .ok (.ireturn, 1) := by decide +kernel
theorem dX4_numberOfSack_49 : decode cX4_numberOfSack 49 = .ok (.aload_n 0, 1) := by decide +kernel
theorem dX4_numberOfSack_50 : decode cX4_numberOfSack 50 = .ok (.iload_n 1, 1) := by decide +kernel
theorem dX4_numberOfSack_51 : decode cX4_numberOfSack 51 = .ok (.invokevirtual 141, 3) := by decide +kernel
theorem dX4_numberOfSack_54 : decode cX4_numberOfSack 54 = .ok (.ireturn, 1) := by decide +kernel
theorem dX4_numberOfSack_55 : decode cX4_numberOfSack 55 = .ok (.iload_n 1, 1) := by decide +kernel
theorem dX4_numberOfSack_56 : decode cX4_numberOfSack 56 = .ok (.ireturn, 1) := by decide +kernel
theorem dX4_numberOfAll_0 : decode cX4_numberOfAll 0 = .ok (.iload_n 1, 1) := by decide +kernel
theorem dX4_numberOfAll_1 : decode cX4_numberOfAll 1 = .ok (.tableswitch 171 0 14 #[75, 83, 91, 99, 107, 115, 123, 131, 139, 147, 155, 171, 171, 171, 163], 75) := by decide +kernel
theorem dX4_numberOfAll_76 : decode cX4_numberOfAll 76 = .ok (.aload_n 0, 1) := by decide +kernel
theorem dX4_numberOfAll_77 : decode cX4_numberOfAll 77 = .ok (.getfield 10, 3) := by decide +kernel
theorem dX4_numberOfAll_80 : decode cX4_numberOfAll 80 = .ok (.getfield 184, 3) := by decide +kernel
theorem dX4_numberOfAll_83 : decode cX4_numberOfAll 83 = .ok (.ireturn, 1) := by decide +kernel
theorem dX4_numberOfAll_84 : decode cX4_numberOfAll 84 = .ok (.aload_n 0, 1) := by decide +kernel
theorem dX4_numberOfAll_85 : decode cX4_numberOfAll 85 = .ok (.getfield 10, 3) := by decide +kernel
theorem dX4_numberOfAll_88 : decode cX4_numberOfAll 88 = .ok (.getfield 291, 3) := by decide +kernel
theorem dX4_numberOfAll_91 : decode cX4_numberOfAll 91 = .ok (.ireturn, 1) := by decide +kernel
theorem dX4_numberOfAll_92 : decode cX4_numberOfAll 92 = .ok (.aload_n 0, 1) := by decide +kernel
theorem dX4_numberOfAll_93 : decode cX4_numberOfAll 93 = .ok (.getfield 10, 3) := by decide +kernel
theorem dX4_numberOfAll_96 : decode cX4_numberOfAll 96 = .ok (.getfield 294, 3) := by decide +kernel
theorem dX4_numberOfAll_99 : decode cX4_numberOfAll 99 = .ok (.ireturn, 1) := by decide +kernel
theorem dX4_numberOfAll_100 : decode cX4_numberOfAll 100 = .ok (.aload_n 0, 1) := by decide +kernel
theorem dX4_numberOfAll_101 : decode cX4_numberOfAll 101 = .ok (.getfield 10, 3) := by decide +kernel
theorem dX4_numberOfAll_104 : decode cX4_numberOfAll 104 = .ok (.getfield 297, 3) := by decide +kernel
theorem dX4_numberOfAll_107 : decode cX4_numberOfAll 107 = .ok (.ireturn, 1) := by decide +kernel
theorem dX4_numberOfAll_108 : decode cX4_numberOfAll 108 = .ok (.aload_n 0, 1) := by decide +kernel
theorem dX4_numberOfAll_109 : decode cX4_numberOfAll 109 = .ok (.getfield 10, 3) := by decide +kernel
theorem dX4_numberOfAll_112 : decode cX4_numberOfAll 112 = .ok (.getfield 300, 3) := by decide +kernel
theorem dX4_numberOfAll_115 : decode cX4_numberOfAll 115 = .ok (.ireturn, 1) := by decide +kernel
theorem dX4_numberOfAll_116 : decode cX4_numberOfAll 116 = .ok (.aload_n 0, 1) := by decide +kernel
theorem dX4_numberOfAll_117 : decode cX4_numberOfAll 117 = .ok (.getfield 10, 3) := by decide +kernel
theorem dX4_numberOfAll_120 : decode cX4_numberOfAll 120 = .ok (.invokevirtual 303, 3) := by decide +kernel
theorem dX4_numberOfAll_123 : decode cX4_numberOfAll 123 = .ok (.ireturn, 1) := by decide +kernel
theorem dX4_numberOfAll_124 : decode cX4_numberOfAll 124 = .ok (.aload_n 0, 1) := by decide +kernel
theorem dX4_numberOfAll_125 : decode cX4_numberOfAll 125 = .ok (.getfield 10, 3) := by decide +kernel
theorem dX4_numberOfAll_128 : decode cX4_numberOfAll 128 = .ok (.getfield 306, 3) := by decide +kernel
theorem dX4_numberOfAll_131 : decode cX4_numberOfAll 131 = .ok (.ireturn, 1) := by decide +kernel
theorem dX4_numberOfAll_132 : decode cX4_numberOfAll 132 = .ok (.aload_n 0, 1) := by decide +kernel
theorem dX4_numberOfAll_133 : decode cX4_numberOfAll 133 = .ok (.getfield 10, 3) := by decide +kernel
theorem dX4_numberOfAll_136 : decode cX4_numberOfAll 136 = .ok (.invokevirtual 309, 3) := by decide +kernel
theorem dX4_numberOfAll_139 : decode cX4_numberOfAll 139 = .ok (.ireturn, 1) := by decide +kernel
theorem dX4_numberOfAll_140 : decode cX4_numberOfAll 140 = .ok (.aload_n 0, 1) := by decide +kernel
theorem dX4_numberOfAll_141 : decode cX4_numberOfAll 141 = .ok (.getfield 10, 3) := by decide +kernel
theorem dX4_numberOfAll_144 : decode cX4_numberOfAll 144 = .ok (.getfield 111, 3) := by decide +kernel
theorem dX4_numberOfAll_147 : decode cX4_numberOfAll 147 = .ok (.ireturn, 1) := by decide +kernel
theorem dX4_numberOfAll_148 : decode cX4_numberOfAll 148 = .ok (.aload_n 0, 1) := by decide +kernel
theorem dX4_numberOfAll_149 : decode cX4_numberOfAll 149 = .ok (.getfield 10, 3) := by decide +kernel
theorem dX4_numberOfAll_152 : decode cX4_numberOfAll 152 = .ok (.getfield 312, 3) := by decide +kernel
theorem dX4_numberOfAll_155 : decode cX4_numberOfAll 155 = .ok (.ireturn, 1) := by decide +kernel
theorem dX4_numberOfAll_156 : decode cX4_numberOfAll 156 = .ok (.aload_n 0, 1) := by decide +kernel
theorem dX4_numberOfAll_157 : decode cX4_numberOfAll 157 = .ok (.getfield 10, 3) := by decide +kernel
theorem dX4_numberOfAll_160 : decode cX4_numberOfAll 160 = .ok (.getfield 151, 3) := by decide +kernel
theorem dX4_numberOfAll_163 : decode cX4_numberOfAll 163 = .ok (.ireturn, 1) := by decide +kernel
theorem dX4_numberOfAll_164 : decode cX4_numberOfAll 164 = .ok (.aload_n 0, 1) := by decide +kernel
theorem dX4_numberOfAll_165 : decode cX4_numberOfAll 165 = .ok (.getfield 29, 3) := by decide +kernel
theorem dX4_numberOfAll_168 : decode cX4_numberOfAll 168 = .ok (.getfield 175, 3) := by decide +kernel
theorem dX4_numberOfAll_171 : decode cX4_numberOfAll 171 = .ok (.ireturn, 1) := by decide +kernel
theorem dX4_numberOfAll_172 : decode cX4_numberOfAll 172 = .ok (.aload_n 0, 1) := by decide +kernel
theorem dX4_numberOfAll_173 : decode cX4_numberOfAll 173 = .ok (.getfield 10, 3) := by decide +kernel
theorem dX4_numberOfAll_176 : decode cX4_numberOfAll 176 = .ok (.iload_n 1, 1) := by decide +kernel
theorem dX4_numberOfAll_177 : decode cX4_numberOfAll 177 = .ok (.bipush 11, 2) := by decide +kernel
theorem dX4_numberOfAll_179 : decode cX4_numberOfAll 179 = .ok (.isub, 1) := by decide +kernel
theorem dX4_numberOfAll_180 : decode cX4_numberOfAll 180 = .ok (.invokevirtual 104, 3) := by decide +kernel
theorem dX4_numberOfAll_183 : decode cX4_numberOfAll 183 = .ok (.ireturn, 1) := by decide +kernel
theorem dX4_millOfRank_0 : decode cX4_millOfRank 0 = .ok (.iload_n 1, 1) := by decide +kernel
theorem dX4_millOfRank_1 : decode cX4_millOfRank 1 = .ok (.iconst 5, 1) := by decide +kernel
theorem dX4_millOfRank_2 : decode cX4_millOfRank 2 = .ok (.if_icmp .lt 5, 3) := by decide +kernel
theorem dX4_millOfRank_5 : decode cX4_millOfRank 5 = .ok (.iconst (-1), 1) := by decide +kernel
theorem dX4_millOfRank_6 : decode cX4_millOfRank 6 = .ok (.ireturn, 1) := by decide +kernel
theorem dX4_millOfRank_7 : decode cX4_millOfRank 7 = .ok (.aload_n 0, 1) := by decide +kernel
theorem dX4_millOfRank_8 : decode cX4_millOfRank 8 = .ok (.getfield 10, 3) := by decide +kernel
theorem dX4_millOfRank_11 : decode cX4_millOfRank 11 = .ok (.aconst_null, 1) := by decide +kernel
theorem dX4_millOfRank_12 : decode cX4_millOfRank 12 = .ok (.invokevirtual 315, 3) := by decide +kernel
theorem dX4_millOfRank_15 : decode cX4_millOfRank 15 = .ok (.astore_n 2, 1) := by decide +kernel
theorem dX4_millOfRank_16 : decode cX4_millOfRank 16 = .ok (.iconst 0, 1) := by decide +kernel
theorem dX4_millOfRank_17 : decode cX4_millOfRank 17 = .ok (.istore_n 3, 1) := by decide +kernel
theorem dX4_millOfRank_18 : decode cX4_millOfRank 18 = .ok (.iload_n 3, 1) := by decide +kernel
theorem dX4_millOfRank_19 : decode cX4_millOfRank 19 = .ok (.iload_n 1, 1) := by decide +kernel
theorem dX4_millOfRank_20 : decode cX4_millOfRank 20 = .ok (.if_icmp .ge 22, 3) := by decide +kernel
theorem dX4_millOfRank_23 : decode cX4_millOfRank 23 = .ok (.aload_n 2, 1) := by decide +kernel
theorem dX4_millOfRank_24 : decode cX4_millOfRank 24 = .ok (.ifnull 18, 3) := by decide +kernel
theorem dX4_millOfRank_27 : decode cX4_millOfRank 27 = .ok (.aload_n 0, 1) := by decide +kernel
theorem dX4_millOfRank_28 : decode cX4_millOfRank 28 = .ok (.getfield 10, 3) := by decide +kernel
theorem dX4_millOfRank_31 : decode cX4_millOfRank 31 = .ok (.aload_n 2, 1) := by decide +kernel
theorem dX4_millOfRank_32 : decode cX4_millOfRank 32 = .ok (.invokevirtual 315, 3) := by decide +kernel
theorem dX4_millOfRank_35 : decode cX4_millOfRank 35 = .ok (.astore_n 2, 1) := by decide +kernel
theorem dX4_millOfRank_36 : decode cX4_millOfRank 36 = .ok (.iinc 3 1, 3) := by decide +kernel
theorem dX4_millOfRank_39 : decode cX4_millOfRank 39 = .ok (.goto (-21), 3) := by decide +kernel
theorem dX4_millOfRank_42 : decode cX4_millOfRank 42 = .ok (.aload_n 2, 1) := by decide +kernel
theorem dX4_millOfRank_43 : decode cX4_millOfRank 43 = .ok (.invokestatic 220, 3) := by decide +kernel
theorem dX4_millOfRank_46 : decode cX4_millOfRank 46 = .ok (.ireturn, 1) := by decide +kernel
theorem dX4_foreseen_0 : decode cX4_foreseen 0 = .ok (.aload_n 0, 1) := by decide +kernel
theorem dX4_foreseen_1 : decode cX4_foreseen 1 = .ok (.getfield 16, 3) := by decide +kernel
theorem dX4_foreseen_4 : decode cX4_foreseen 4 = .ok (.aload_n 0, 1) := by decide +kernel
theorem dX4_foreseen_5 : decode cX4_foreseen 5 = .ok (.getfield 10, 3) := by decide +kernel
theorem dX4_foreseen_8 : decode cX4_foreseen 8 = .ok (.invokevirtual 181, 3) := by decide +kernel
theorem dX4_foreseen_11 : decode cX4_foreseen 11 = .ok (.aload_n 0, 1) := by decide +kernel
theorem dX4_foreseen_12 : decode cX4_foreseen 12 = .ok (.getfield 16, 3) := by decide +kernel
theorem dX4_foreseen_15 : decode cX4_foreseen 15 = .ok (.iload_n 1, 1) := by decide +kernel
theorem dX4_foreseen_16 : decode cX4_foreseen 16 = .ok (.invokevirtual 114, 3) := by decide +kernel
theorem dX4_foreseen_19 : decode cX4_foreseen 19 = .ok (.iload_n 2, 1) := by decide +kernel
theorem dX4_foreseen_20 : decode cX4_foreseen 20 = .ok (.tableswitch 76 0 2 #[28, 44, 60], 28) := by decide +kernel
theorem dX4_foreseen_48 : decode cX4_foreseen 48 = .ok (.aload_n 0, 1) := by decide +kernel
theorem dX4_foreseen_49 : decode cX4_foreseen 49 = .ok (.getfield 16, 3) := by decide +kernel
theorem dX4_foreseen_52 : decode cX4_foreseen 52 = .ok (.getfield 111, 3) := by decide +kernel
theorem dX4_foreseen_55 : decode cX4_foreseen 55 = .ok (.aload_n 0, 1) := by decide +kernel
theorem dX4_foreseen_56 : decode cX4_foreseen 56 = .ok (.getfield 10, 3) := by decide +kernel
theorem dX4_foreseen_59 : decode cX4_foreseen 59 = .ok (.getfield 111, 3) := by decide +kernel
theorem dX4_foreseen_62 : decode cX4_foreseen 62 = .ok (.isub, 1) := by decide +kernel
theorem dX4_foreseen_63 : decode cX4_foreseen 63 = .ok (.ireturn, 1) := by decide +kernel
theorem dX4_foreseen_64 : decode cX4_foreseen 64 = .ok (.aload_n 0, 1) := by decide +kernel
theorem dX4_foreseen_65 : decode cX4_foreseen 65 = .ok (.getfield 16, 3) := by decide +kernel
theorem dX4_foreseen_68 : decode cX4_foreseen 68 = .ok (.getfield 312, 3) := by decide +kernel
theorem dX4_foreseen_71 : decode cX4_foreseen 71 = .ok (.aload_n 0, 1) := by decide +kernel
theorem dX4_foreseen_72 : decode cX4_foreseen 72 = .ok (.getfield 10, 3) := by decide +kernel
theorem dX4_foreseen_75 : decode cX4_foreseen 75 = .ok (.getfield 312, 3) := by decide +kernel
theorem dX4_foreseen_78 : decode cX4_foreseen 78 = .ok (.isub, 1) := by decide +kernel
theorem dX4_foreseen_79 : decode cX4_foreseen 79 = .ok (.ireturn, 1) := by decide +kernel
theorem dX4_foreseen_80 : decode cX4_foreseen 80 = .ok (.aload_n 0, 1) := by decide +kernel
theorem dX4_foreseen_81 : decode cX4_foreseen 81 = .ok (.getfield 16, 3) := by decide +kernel
theorem dX4_foreseen_84 : decode cX4_foreseen 84 = .ok (.getfield 294, 3) := by decide +kernel
theorem dX4_foreseen_87 : decode cX4_foreseen 87 = .ok (.aload_n 0, 1) := by decide +kernel
theorem dX4_foreseen_88 : decode cX4_foreseen 88 = .ok (.getfield 10, 3) := by decide +kernel
theorem dX4_foreseen_91 : decode cX4_foreseen 91 = .ok (.getfield 294, 3) := by decide +kernel
theorem dX4_foreseen_94 : decode cX4_foreseen 94 = .ok (.isub, 1) := by decide +kernel
theorem dX4_foreseen_95 : decode cX4_foreseen 95 = .ok (.ireturn, 1) := by decide +kernel
theorem dX4_foreseen_96 : decode cX4_foreseen 96 = .ok (.aload_n 0, 1) := by decide +kernel
theorem dX4_foreseen_97 : decode cX4_foreseen 97 = .ok (.getfield 16, 3) := by decide +kernel
theorem dX4_foreseen_100 : decode cX4_foreseen 100 = .ok (.getfield 300, 3) := by decide +kernel
theorem dX4_foreseen_103 : decode cX4_foreseen 103 = .ok (.aload_n 0, 1) := by decide +kernel
theorem dX4_foreseen_104 : decode cX4_foreseen 104 = .ok (.getfield 10, 3) := by decide +kernel
theorem dX4_foreseen_107 : decode cX4_foreseen 107 = .ok (.getfield 300, 3) := by decide +kernel
theorem dX4_foreseen_110 : decode cX4_foreseen 110 = .ok (.isub, 1) := by decide +kernel
theorem dX4_foreseen_111 : decode cX4_foreseen 111 = .ok (.ireturn, 1) := by decide +kernel
theorem dX4_hoursToGround_0 : decode cX4_hoursToGround 0 = .ok (.aload_n 0, 1) := by decide +kernel
theorem dX4_hoursToGround_1 : decode cX4_hoursToGround 1 = .ok (.getfield 16, 3) := by decide +kernel
theorem dX4_hoursToGround_4 : decode cX4_hoursToGround 4 = .ok (.aload_n 0, 1) := by decide +kernel
theorem dX4_hoursToGround_5 : decode cX4_hoursToGround 5 = .ok (.getfield 10, 3) := by decide +kernel
theorem dX4_hoursToGround_8 : decode cX4_hoursToGround 8 = .ok (.invokevirtual 181, 3) := by decide +kernel
theorem dX4_hoursToGround_11 : decode cX4_hoursToGround 11 = .ok (.aload_n 0, 1) := by decide +kernel
theorem dX4_hoursToGround_12 : decode cX4_hoursToGround 12 = .ok (.getfield 16, 3) := by decide +kernel
theorem dX4_hoursToGround_15 : decode cX4_hoursToGround 15 = .ok (.iload_n 1, 1) := by decide +kernel
theorem dX4_hoursToGround_16 : decode cX4_hoursToGround 16 = .ok (.invokevirtual 197, 3) := by decide +kernel
theorem dX4_hoursToGround_19 : decode cX4_hoursToGround 19 = .ok (.astore_n 2, 1) := by decide +kernel
theorem dX4_hoursToGround_20 : decode cX4_hoursToGround 20 = .ok (.aload_n 2, 1) := by decide +kernel
theorem dX4_hoursToGround_21 : decode cX4_hoursToGround 21 = .ok (.ifnonnull 5, 3) := by decide +kernel
theorem dX4_hoursToGround_24 : decode cX4_hoursToGround 24 = .ok (.iconst (-1), 1) := by decide +kernel
theorem dX4_hoursToGround_25 : decode cX4_hoursToGround 25 = .ok (.ireturn, 1) := by decide +kernel
theorem dX4_hoursToGround_26 : decode cX4_hoursToGround 26 = .ok (.iconst 1, 1) := by decide +kernel
theorem dX4_hoursToGround_27 : decode cX4_hoursToGround 27 = .ok (.istore_n 3, 1) := by decide +kernel
theorem dX4_hoursToGround_28 : decode cX4_hoursToGround 28 = .ok (.iload_n 3, 1) := by decide +kernel
theorem dX4_hoursToGround_29 : decode cX4_hoursToGround 29 = .ok (.sipush 200, 3) := by decide +kernel
theorem dX4_hoursToGround_32 : decode cX4_hoursToGround 32 = .ok (.if_icmp .gt 28, 3) := by decide +kernel
theorem dX4_hoursToGround_35 : decode cX4_hoursToGround 35 = .ok (.aload_n 0, 1) := by decide +kernel
theorem dX4_hoursToGround_36 : decode cX4_hoursToGround 36 = .ok (.getfield 16, 3) := by decide +kernel
theorem dX4_hoursToGround_39 : decode cX4_hoursToGround 39 = .ok (.iconst 1, 1) := by decide +kernel
theorem dX4_hoursToGround_40 : decode cX4_hoursToGround 40 = .ok (.invokevirtual 114, 3) := by decide +kernel
theorem dX4_hoursToGround_43 : decode cX4_hoursToGround 43 = .ok (.aload_n 2, 1) := by decide +kernel
theorem dX4_hoursToGround_44 : decode cX4_hoursToGround 44 = .ok (.iload_n 1, 1) := by decide +kernel
theorem dX4_hoursToGround_45 : decode cX4_hoursToGround 45 = .ok (.invokevirtual 132, 3) := by decide +kernel
theorem dX4_hoursToGround_48 : decode cX4_hoursToGround 48 = .ok (.iconst (-1), 1) := by decide +kernel
theorem dX4_hoursToGround_49 : decode cX4_hoursToGround 49 = .ok (.if_icmp .ne 5, 3) := by decide +kernel
theorem dX4_hoursToGround_52 : decode cX4_hoursToGround 52 = .ok (.iload_n 3, 1) := by decide +kernel
theorem dX4_hoursToGround_53 : decode cX4_hoursToGround 53 = .ok (.ireturn, 1) := by decide +kernel
theorem dX4_hoursToGround_54 : decode cX4_hoursToGround 54 = .ok (.iinc 3 1, 3) := by decide +kernel
theorem dX4_hoursToGround_57 : decode cX4_hoursToGround 57 = .ok (.goto (-29), 3) := by decide +kernel
theorem dX4_hoursToGround_60 : decode cX4_hoursToGround 60 = .ok (.iconst (-1), 1) := by decide +kernel
theorem dX4_hoursToGround_61 : decode cX4_hoursToGround 61 = .ok (.ireturn, 1) := by decide +kernel
theorem dX4_stoneThatGrindsMost_0 : decode cX4_stoneThatGrindsMost 0 = .ok (.aload_n 1, 1) := by decide +kernel
theorem dX4_stoneThatGrindsMost_1 : decode cX4_stoneThatGrindsMost 1 = .ok (.getfield 129, 3) := by decide +kernel
theorem dX4_stoneThatGrindsMost_4 : decode cX4_stoneThatGrindsMost 4 = .ok (.ifCond .ne 6, 3) := by decide +kernel
theorem dX4_stoneThatGrindsMost_7 : decode cX4_stoneThatGrindsMost 7 = .ok (.bipush 60, 2) := by decide +kernel
theorem dX4_stoneThatGrindsMost_9 : decode cX4_stoneThatGrindsMost 9 = .ok (.ireturn, 1) := by decide +kernel
theorem dX4_stoneThatGrindsMost_10 : decode cX4_stoneThatGrindsMost 10 = .ok (.bipush 60, 2) := by decide +kernel
theorem dX4_stoneThatGrindsMost_12 : decode cX4_stoneThatGrindsMost 12 = .ok (.istore_n 2, 1) := by decide +kernel
theorem dX4_stoneThatGrindsMost_13 : decode cX4_stoneThatGrindsMost 13 = .ok (.ldc 193, 2) := by decide +kernel
theorem dX4_stoneThatGrindsMost_15 : decode cX4_stoneThatGrindsMost 15 = .ok (.istore_n 3, 1) := by decide +kernel
theorem dX4_stoneThatGrindsMost_16 : decode cX4_stoneThatGrindsMost 16 = .ok (.bipush 60, 2) := by decide +kernel
theorem dX4_stoneThatGrindsMost_18 : decode cX4_stoneThatGrindsMost 18 = .ok (.istore 4, 2) := by decide +kernel
theorem dX4_stoneThatGrindsMost_20 : decode cX4_stoneThatGrindsMost 20 = .ok (.iload 4, 2) := by decide +kernel
theorem dX4_stoneThatGrindsMost_22 : decode cX4_stoneThatGrindsMost 22 = .ok (.bipush 8, 2) := by decide +kernel
theorem dX4_stoneThatGrindsMost_24 : decode cX4_stoneThatGrindsMost 24 = .ok (.if_icmp .lt 63, 3) := by decide +kernel
theorem dX4_stoneThatGrindsMost_27 : decode cX4_stoneThatGrindsMost 27 = .ok (.aload_n 0, 1) := by decide +kernel
theorem dX4_stoneThatGrindsMost_28 : decode cX4_stoneThatGrindsMost 28 = .ok (.getfield 16, 3) := by decide +kernel
theorem dX4_stoneThatGrindsMost_31 : decode cX4_stoneThatGrindsMost 31 = .ok (.aload_n 0, 1) := by decide +kernel
theorem dX4_stoneThatGrindsMost_32 : decode cX4_stoneThatGrindsMost 32 = .ok (.getfield 10, 3) := by decide +kernel
theorem dX4_stoneThatGrindsMost_35 : decode cX4_stoneThatGrindsMost 35 = .ok (.invokevirtual 181, 3) := by decide +kernel
theorem dX4_stoneThatGrindsMost_38 : decode cX4_stoneThatGrindsMost 38 = .ok (.aload_n 0, 1) := by decide +kernel
theorem dX4_stoneThatGrindsMost_39 : decode cX4_stoneThatGrindsMost 39 = .ok (.getfield 16, 3) := by decide +kernel
theorem dX4_stoneThatGrindsMost_42 : decode cX4_stoneThatGrindsMost 42 = .ok (.aload_n 1, 1) := by decide +kernel
theorem dX4_stoneThatGrindsMost_43 : decode cX4_stoneThatGrindsMost 43 = .ok (.getfield 267, 3) := by decide +kernel
theorem dX4_stoneThatGrindsMost_46 : decode cX4_stoneThatGrindsMost 46 = .ok (.iload 4, 2) := by decide +kernel
theorem dX4_stoneThatGrindsMost_48 : decode cX4_stoneThatGrindsMost 48 = .ok (.invokevirtual 319, 3) := by decide +kernel
theorem dX4_stoneThatGrindsMost_51 : decode cX4_stoneThatGrindsMost 51 = .ok (.aload_n 0, 1) := by decide +kernel
theorem dX4_stoneThatGrindsMost_52 : decode cX4_stoneThatGrindsMost 52 = .ok (.getfield 16, 3) := by decide +kernel
theorem dX4_stoneThatGrindsMost_55 : decode cX4_stoneThatGrindsMost 55 = .ok (.bipush 24, 2) := by decide +kernel
theorem dX4_stoneThatGrindsMost_57 : decode cX4_stoneThatGrindsMost 57 = .ok (.invokevirtual 114, 3) := by decide +kernel
theorem dX4_stoneThatGrindsMost_60 : decode cX4_stoneThatGrindsMost 60 = .ok (.aload_n 0, 1) := by decide +kernel
theorem dX4_stoneThatGrindsMost_61 : decode cX4_stoneThatGrindsMost 61 = .ok (.getfield 16, 3) := by decide +kernel
theorem dX4_stoneThatGrindsMost_64 : decode cX4_stoneThatGrindsMost 64 = .ok (.invokevirtual 322, 3) := by decide +kernel
theorem dX4_stoneThatGrindsMost_67 : decode cX4_stoneThatGrindsMost 67 = .ok (.istore 5, 2) := by decide +kernel
theorem dX4_stoneThatGrindsMost_69 : decode cX4_stoneThatGrindsMost 69 = .ok (.iload 5, 2) := by decide +kernel
theorem dX4_stoneThatGrindsMost_71 : decode cX4_stoneThatGrindsMost 71 = .ok (.iload_n 3, 1) := by decide +kernel
theorem dX4_stoneThatGrindsMost_72 : decode cX4_stoneThatGrindsMost 72 = .ok (.if_icmp .ge 9, 3) := by decide +kernel
theorem dX4_stoneThatGrindsMost_75 : decode cX4_stoneThatGrindsMost 75 = .ok (.iload 5, 2) := by decide +kernel
theorem dX4_stoneThatGrindsMost_77 : decode cX4_stoneThatGrindsMost 77 = .ok (.istore_n 3, 1) := by decide +kernel
theorem dX4_stoneThatGrindsMost_78 : decode cX4_stoneThatGrindsMost 78 = .ok (.iload 4, 2) := by decide +kernel
theorem dX4_stoneThatGrindsMost_80 : decode cX4_stoneThatGrindsMost 80 = .ok (.istore_n 2, 1) := by decide +kernel
theorem dX4_stoneThatGrindsMost_81 : decode cX4_stoneThatGrindsMost 81 = .ok (.iinc 4 (-4), 3) := by decide +kernel
theorem dX4_stoneThatGrindsMost_84 : decode cX4_stoneThatGrindsMost 84 = .ok (.goto (-64), 3) := by decide +kernel
theorem dX4_stoneThatGrindsMost_87 : decode cX4_stoneThatGrindsMost 87 = .ok (.iload_n 2, 1) := by decide +kernel
theorem dX4_stoneThatGrindsMost_88 : decode cX4_stoneThatGrindsMost 88 = .ok (.ireturn, 1) := by decide +kernel
theorem dX4_shareInTime_0 : decode cX4_shareInTime 0 = .ok (.aload_n 0, 1) := by decide +kernel
theorem dX4_shareInTime_1 : decode cX4_shareInTime 1 = .ok (.getfield 10, 3) := by decide +kernel
theorem dX4_shareInTime_4 : decode cX4_shareInTime 4 = .ok (.getfield 111, 3) := by decide +kernel
theorem dX4_shareInTime_7 : decode cX4_shareInTime 7 = .ok (.istore_n 1, 1) := by decide +kernel
theorem dX4_shareInTime_8 : decode cX4_shareInTime 8 = .ok (.iload_n 1, 1) := by decide +kernel
theorem dX4_shareInTime_9 : decode cX4_shareInTime 9 = .ok (.ifCond .gt 5, 3) := by decide +kernel
theorem dX4_shareInTime_12 : decode cX4_shareInTime 12 = .ok (.dconst 1, 1) := by decide +kernel
theorem dX4_shareInTime_13 : decode cX4_shareInTime 13 = .ok (.dreturn, 1) := by decide +kernel
theorem dX4_shareInTime_14 : decode cX4_shareInTime 14 = .ok (.iload_n 1, 1) := by decide +kernel
theorem dX4_shareInTime_15 : decode cX4_shareInTime 15 = .ok (.aload_n 0, 1) := by decide +kernel
theorem dX4_shareInTime_16 : decode cX4_shareInTime 16 = .ok (.getfield 10, 3) := by decide +kernel
theorem dX4_shareInTime_19 : decode cX4_shareInTime 19 = .ok (.getfield 312, 3) := by decide +kernel
theorem dX4_shareInTime_22 : decode cX4_shareInTime 22 = .ok (.isub, 1) := by decide +kernel
theorem dX4_shareInTime_23 : decode cX4_shareInTime 23 = .ok (.i2d, 1) := by decide +kernel
theorem dX4_shareInTime_24 : decode cX4_shareInTime 24 = .ok (.iload_n 1, 1) := by decide +kernel
theorem dX4_shareInTime_25 : decode cX4_shareInTime 25 = .ok (.i2d, 1) := by decide +kernel
theorem dX4_shareInTime_26 : decode cX4_shareInTime 26 = .ok (.ddiv, 1) := by decide +kernel
theorem dX4_shareInTime_27 : decode cX4_shareInTime 27 = .ok (.dreturn, 1) := by decide +kernel
theorem dX4_withMill_0 : decode cX4_withMill 0 = .ok (.lload_n 1, 1) := by decide +kernel
theorem dX4_withMill_1 : decode cX4_withMill 1 = .ok (.lstore 4, 2) := by decide +kernel
theorem dX4_withMill_3 : decode cX4_withMill 3 = .ok (.iconst 0, 1) := by decide +kernel
theorem dX4_withMill_4 : decode cX4_withMill 4 = .ok (.istore 6, 2) := by decide +kernel
theorem dX4_withMill_6 : decode cX4_withMill 6 = .ok (.iload 6, 2) := by decide +kernel
theorem dX4_withMill_8 : decode cX4_withMill 8 = .ok (.bipush 10, 2) := by decide +kernel
theorem dX4_withMill_10 : decode cX4_withMill 10 = .ok (.if_icmp .gt 26, 3) := by decide +kernel
theorem dX4_withMill_13 : decode cX4_withMill 13 = .ok (.ldc2_w 239, 3) := by decide +kernel
theorem dX4_withMill_16 : decode cX4_withMill 16 = .ok (.lload 4, 2) := by decide +kernel
theorem dX4_withMill_18 : decode cX4_withMill 18 = .ok (.lmul, 1) := by decide +kernel
theorem dX4_withMill_19 : decode cX4_withMill 19 = .ok (.aload_n 0, 1) := by decide +kernel
theorem dX4_withMill_20 : decode cX4_withMill 20 = .ok (.aload_n 3, 1) := by decide +kernel
theorem dX4_withMill_21 : decode cX4_withMill 21 = .ok (.iload 6, 2) := by decide +kernel
theorem dX4_withMill_23 : decode cX4_withMill 23 = .ok (.invokevirtual 187, 3) := by decide +kernel
theorem dX4_withMill_26 : decode cX4_withMill 26 = .ok (.i2l, 1) := by decide +kernel
theorem dX4_withMill_27 : decode cX4_withMill 27 = .ok (.ladd, 1) := by decide +kernel
theorem dX4_withMill_28 : decode cX4_withMill 28 = .ok (.lstore 4, 2) := by decide +kernel
theorem dX4_withMill_30 : decode cX4_withMill 30 = .ok (.iinc 6 1, 3) := by decide +kernel
theorem dX4_withMill_33 : decode cX4_withMill 33 = .ok (.goto (-27), 3) := by decide +kernel
theorem dX4_withMill_36 : decode cX4_withMill 36 = .ok (.ldc2_w 239, 3) := by decide +kernel
theorem dX4_withMill_39 : decode cX4_withMill 39 = .ok (.lload 4, 2) := by decide +kernel
theorem dX4_withMill_41 : decode cX4_withMill 41 = .ok (.lmul, 1) := by decide +kernel
theorem dX4_withMill_42 : decode cX4_withMill 42 = .ok (.aload_n 0, 1) := by decide +kernel
theorem dX4_withMill_43 : decode cX4_withMill 43 = .ok (.getfield 10, 3) := by decide +kernel
theorem dX4_withMill_46 : decode cX4_withMill 46 = .ok (.aload_n 3, 1) := by decide +kernel
theorem dX4_withMill_47 : decode cX4_withMill 47 = .ok (.invokevirtual 203, 3) := by decide +kernel
theorem dX4_withMill_50 : decode cX4_withMill 50 = .ok (.i2l, 1) := by decide +kernel
theorem dX4_withMill_51 : decode cX4_withMill 51 = .ok (.ladd, 1) := by decide +kernel
theorem dX4_withMill_52 : decode cX4_withMill 52 = .ok (.lstore 4, 2) := by decide +kernel
theorem dX4_withMill_54 : decode cX4_withMill 54 = .ok (.iconst 0, 1) := by decide +kernel
theorem dX4_withMill_55 : decode cX4_withMill 55 = .ok (.istore 6, 2) := by decide +kernel
theorem dX4_withMill_57 : decode cX4_withMill 57 = .ok (.iload 6, 2) := by decide +kernel
theorem dX4_withMill_59 : decode cX4_withMill 59 = .ok (.aload_n 3, 1) := by decide +kernel
theorem dX4_withMill_60 : decode cX4_withMill 60 = .ok (.getfield 129, 3) := by decide +kernel
theorem dX4_withMill_63 : decode cX4_withMill 63 = .ok (.if_icmp .ge 41, 3) := by decide +kernel
theorem dX4_withMill_66 : decode cX4_withMill 66 = .ok (.ldc2_w 239, 3) := by decide +kernel
theorem dX4_withMill_69 : decode cX4_withMill 69 = .ok (.lload 4, 2) := by decide +kernel
theorem dX4_withMill_71 : decode cX4_withMill 71 = .ok (.lmul, 1) := by decide +kernel
theorem dX4_withMill_72 : decode cX4_withMill 72 = .ok (.aload_n 3, 1) := by decide +kernel
theorem dX4_withMill_73 : decode cX4_withMill 73 = .ok (.iload 6, 2) := by decide +kernel
theorem dX4_withMill_75 : decode cX4_withMill 75 = .ok (.invokevirtual 194, 3) := by decide +kernel
theorem dX4_withMill_78 : decode cX4_withMill 78 = .ok (.i2l, 1) := by decide +kernel
theorem dX4_withMill_79 : decode cX4_withMill 79 = .ok (.ladd, 1) := by decide +kernel
theorem dX4_withMill_80 : decode cX4_withMill 80 = .ok (.lstore 4, 2) := by decide +kernel
theorem dX4_withMill_82 : decode cX4_withMill 82 = .ok (.ldc2_w 239, 3) := by decide +kernel
theorem dX4_withMill_85 : decode cX4_withMill 85 = .ok (.lload 4, 2) := by decide +kernel
theorem dX4_withMill_87 : decode cX4_withMill 87 = .ok (.lmul, 1) := by decide +kernel
theorem dX4_withMill_88 : decode cX4_withMill 88 = .ok (.aload_n 3, 1) := by decide +kernel
theorem dX4_withMill_89 : decode cX4_withMill 89 = .ok (.iload 6, 2) := by decide +kernel
theorem dX4_withMill_91 : decode cX4_withMill 91 = .ok (.invokevirtual 138, 3) := by decide +kernel
theorem dX4_withMill_94 : decode cX4_withMill 94 = .ok (.i2l, 1) := by decide +kernel
theorem dX4_withMill_95 : decode cX4_withMill 95 = .ok (.ladd, 1) := by decide +kernel
theorem dX4_withMill_96 : decode cX4_withMill 96 = .ok (.lstore 4, 2) := by decide +kernel
theorem dX4_withMill_98 : decode cX4_withMill 98 = .ok (.iinc 6 1, 3) := by decide +kernel
theorem dX4_withMill_101 : decode cX4_withMill 101 = .ok (.goto (-44), 3) := by decide +kernel
theorem dX4_withMill_104 : decode cX4_withMill 104 = .ok (.aload_n 3, 1) := by decide +kernel
theorem dX4_withMill_105 : decode cX4_withMill 105 = .ok (.iconst 0, 1) := by decide +kernel
theorem dX4_withMill_106 : decode cX4_withMill 106 = .ok (.invokevirtual 194, 3) := by decide +kernel
theorem dX4_withMill_109 : decode cX4_withMill 109 = .ok (.istore 6, 2) := by decide +kernel
theorem dX4_withMill_111 : decode cX4_withMill 111 = .ok (.ldc2_w 239, 3) := by decide +kernel
theorem dX4_withMill_114 : decode cX4_withMill 114 = .ok (.lload 4, 2) := by decide +kernel
theorem dX4_withMill_116 : decode cX4_withMill 116 = .ok (.lmul, 1) := by decide +kernel
theorem dX4_withMill_117 : decode cX4_withMill 117 = .ok (.iload 6, 2) := by decide +kernel
theorem dX4_withMill_119 : decode cX4_withMill 119 = .ok (.iconst (-1), 1) := by decide +kernel
theorem dX4_withMill_120 : decode cX4_withMill 120 = .ok (.if_icmp .ne 7, 3) := by decide +kernel
theorem dX4_withMill_123 : decode cX4_withMill 123 = .ok (.iconst (-1), 1) := by decide +kernel
theorem dX4_withMill_124 : decode cX4_withMill 124 = .ok (.goto 9, 3) := by decide +kernel
theorem dX4_withMill_127 : decode cX4_withMill 127 = .ok (.aload_n 0, 1) := by decide +kernel
theorem dX4_withMill_128 : decode cX4_withMill 128 = .ok (.iload 6, 2) := by decide +kernel
theorem dX4_withMill_130 : decode cX4_withMill 130 = .ok (.invokevirtual 227, 3) := by decide +kernel
theorem dX4_withMill_133 : decode cX4_withMill 133 = .ok (.i2l, 1) := by decide +kernel
theorem dX4_withMill_134 : decode cX4_withMill 134 = .ok (.ladd, 1) := by decide +kernel
theorem dX4_withMill_135 : decode cX4_withMill 135 = .ok (.lstore 4, 2) := by decide +kernel
theorem dX4_withMill_137 : decode cX4_withMill 137 = .ok (.ldc2_w 239, 3) := by decide +kernel
theorem dX4_withMill_140 : decode cX4_withMill 140 = .ok (.lload 4, 2) := by decide +kernel
theorem dX4_withMill_142 : decode cX4_withMill 142 = .ok (.lmul, 1) := by decide +kernel
theorem dX4_withMill_143 : decode cX4_withMill 143 = .ok (.aload_n 0, 1) := by decide +kernel
theorem dX4_withMill_144 : decode cX4_withMill 144 = .ok (.aload_n 3, 1) := by decide +kernel
theorem dX4_withMill_145 : decode cX4_withMill 145 = .ok (.invokevirtual 230, 3) := by decide +kernel
theorem dX4_withMill_148 : decode cX4_withMill 148 = .ok (.i2l, 1) := by decide +kernel
theorem dX4_withMill_149 : decode cX4_withMill 149 = .ok (.ladd, 1) := by decide +kernel
theorem dX4_withMill_150 : decode cX4_withMill 150 = .ok (.lreturn, 1) := by decide +kernel
theorem dX4_bitsOfShare_0 : decode cX4_bitsOfShare 0 = .ok (.dload_n 0, 1) := by decide +kernel
theorem dX4_bitsOfShare_1 : decode cX4_bitsOfShare 1 = .ok (.dconst 0, 1) := by decide +kernel
theorem dX4_bitsOfShare_2 : decode cX4_bitsOfShare 2 = .ok (.dcmp .g, 1) := by decide +kernel
theorem dX4_bitsOfShare_3 : decode cX4_bitsOfShare 3 = .ok (.ifCond .gt 5, 3) := by decide +kernel
theorem dX4_bitsOfShare_6 : decode cX4_bitsOfShare 6 = .ok (.lconst 0, 1) := by decide +kernel
theorem dX4_bitsOfShare_7 : decode cX4_bitsOfShare 7 = .ok (.lreturn, 1) := by decide +kernel
theorem dX4_bitsOfShare_8 : decode cX4_bitsOfShare 8 = .ok (.dload_n 0, 1) := by decide +kernel
theorem dX4_bitsOfShare_9 : decode cX4_bitsOfShare 9 = .ok (.dstore_n 2, 1) := by decide +kernel
theorem dX4_bitsOfShare_10 : decode cX4_bitsOfShare 10 = .ok (.ldc2_w 325, 3) := by decide +kernel
theorem dX4_bitsOfShare_13 : decode cX4_bitsOfShare 13 = .ok (.lstore 4, 2) := by decide +kernel
theorem dX4_bitsOfShare_15 : decode cX4_bitsOfShare 15 = .ok (.iconst 0, 1) := by decide +kernel
theorem dX4_bitsOfShare_16 : decode cX4_bitsOfShare 16 = .ok (.istore 6, 2) := by decide +kernel
theorem dX4_bitsOfShare_18 : decode cX4_bitsOfShare 18 = .ok (.iload 6, 2) := by decide +kernel
theorem dX4_bitsOfShare_20 : decode cX4_bitsOfShare 20 = .ok (.sipush 1022, 3) := by decide +kernel
theorem dX4_bitsOfShare_23 : decode cX4_bitsOfShare 23 = .ok (.if_icmp .ge 27, 3) := by decide +kernel
theorem dX4_bitsOfShare_26 : decode cX4_bitsOfShare 26 = .ok (.dload_n 2, 1) := by decide +kernel
theorem dX4_bitsOfShare_27 : decode cX4_bitsOfShare 27 = .ok (.dconst 1, 1) := by decide +kernel
theorem dX4_bitsOfShare_28 : decode cX4_bitsOfShare 28 = .ok (.dcmp .g, 1) := by decide +kernel
theorem dX4_bitsOfShare_29 : decode cX4_bitsOfShare 29 = .ok (.ifCond .ge 21, 3) := by decide +kernel
theorem dX4_bitsOfShare_32 : decode cX4_bitsOfShare 32 = .ok (.dload_n 2, 1) := by decide +kernel
theorem dX4_bitsOfShare_33 : decode cX4_bitsOfShare 33 = .ok (.ldc2_w 327, 3) := by decide +kernel
theorem dX4_bitsOfShare_36 : decode cX4_bitsOfShare 36 = .ok (.dmul, 1) := by decide +kernel
theorem dX4_bitsOfShare_37 : decode cX4_bitsOfShare 37 = .ok (.dstore_n 2, 1) := by decide +kernel
theorem dX4_bitsOfShare_38 : decode cX4_bitsOfShare 38 = .ok (.lload 4, 2) := by decide +kernel
theorem dX4_bitsOfShare_40 : decode cX4_bitsOfShare 40 = .ok (.lconst 1, 1) := by decide +kernel
theorem dX4_bitsOfShare_41 : decode cX4_bitsOfShare 41 = .ok (.lsub, 1) := by decide +kernel
theorem dX4_bitsOfShare_42 : decode cX4_bitsOfShare 42 = .ok (.lstore 4, 2) := by decide +kernel
theorem dX4_bitsOfShare_44 : decode cX4_bitsOfShare 44 = .ok (.iinc 6 1, 3) := by decide +kernel
theorem dX4_bitsOfShare_47 : decode cX4_bitsOfShare 47 = .ok (.goto (-29), 3) := by decide +kernel
theorem dX4_bitsOfShare_50 : decode cX4_bitsOfShare 50 = .ok (.dload_n 2, 1) := by decide +kernel
theorem dX4_bitsOfShare_51 : decode cX4_bitsOfShare 51 = .ok (.dconst 1, 1) := by decide +kernel
theorem dX4_bitsOfShare_52 : decode cX4_bitsOfShare 52 = .ok (.dsub, 1) := by decide +kernel
theorem dX4_bitsOfShare_53 : decode cX4_bitsOfShare 53 = .ok (.ldc2_w 329, 3) := by decide +kernel
theorem dX4_bitsOfShare_56 : decode cX4_bitsOfShare 56 = .ok (.dmul, 1) := by decide +kernel
theorem dX4_bitsOfShare_57 : decode cX4_bitsOfShare 57 = .ok (.d2l, 1) := by decide +kernel
theorem dX4_bitsOfShare_58 : decode cX4_bitsOfShare 58 = .ok (.lstore 6, 2) := by decide +kernel
theorem dX4_bitsOfShare_60 : decode cX4_bitsOfShare 60 = .ok (.lload 4, 2) := by decide +kernel
theorem dX4_bitsOfShare_62 : decode cX4_bitsOfShare 62 = .ok (.bipush 52, 2) := by decide +kernel
theorem dX4_bitsOfShare_64 : decode cX4_bitsOfShare 64 = .ok (.lshl, 1) := by decide +kernel
theorem dX4_bitsOfShare_65 : decode cX4_bitsOfShare 65 = .ok (.lload 6, 2) := by decide +kernel
theorem dX4_bitsOfShare_67 : decode cX4_bitsOfShare 67 = .ok (.ladd, 1) := by decide +kernel
theorem dX4_bitsOfShare_68 : decode cX4_bitsOfShare 68 = .ok (.lreturn, 1) := by decide +kernel
theorem dX5_init_0 : decode cX5_init 0 = .ok (.aload_n 0, 1) := by decide +kernel
theorem dX5_init_1 : decode cX5_init 1 = .ok (.invokespecial 1, 3) := by decide +kernel
theorem dX5_init_4 : decode cX5_init 4 = .ok (.aload_n 0, 1) := by decide +kernel
theorem dX5_init_5 : decode cX5_init 5 = .ok (.sipush 182, 3) := by decide +kernel
theorem dX5_init_8 : decode cX5_init 8 = .ok (.newarray .int, 2) := by decide +kernel
theorem dX5_init_10 : decode cX5_init 10 = .ok (.putfield 7, 3) := by decide +kernel
theorem dX5_init_13 : decode cX5_init 13 = .ok (.aload_n 0, 1) := by decide +kernel
theorem dX5_init_14 : decode cX5_init 14 = .ok (.sipush 1092, 3) := by decide +kernel
theorem dX5_init_17 : decode cX5_init 17 = .ok (.newarray .int, 2) := by decide +kernel
theorem dX5_init_19 : decode cX5_init 19 = .ok (.putfield 13, 3) := by decide +kernel
theorem dX5_init_22 : decode cX5_init 22 = .ok (.aload_n 0, 1) := by decide +kernel
theorem dX5_init_23 : decode cX5_init 23 = .ok (.sipush 182, 3) := by decide +kernel
theorem dX5_init_26 : decode cX5_init 26 = .ok (.newarray .int, 2) := by decide +kernel
theorem dX5_init_28 : decode cX5_init 28 = .ok (.putfield 16, 3) := by decide +kernel
theorem dX5_init_31 : decode cX5_init 31 = .ok (.aload_n 0, 1) := by decide +kernel
theorem dX5_init_32 : decode cX5_init 32 = .ok (.sipush 182, 3) := by decide +kernel
theorem dX5_init_35 : decode cX5_init 35 = .ok (.newarray .int, 2) := by decide +kernel
theorem dX5_init_37 : decode cX5_init 37 = .ok (.putfield 19, 3) := by decide +kernel
theorem dX5_init_40 : decode cX5_init 40 = .ok (.aload_n 0, 1) := by decide +kernel
theorem dX5_init_41 : decode cX5_init 41 = .ok (.bipush 60, 2) := by decide +kernel
theorem dX5_init_43 : decode cX5_init 43 = .ok (.newarray .int, 2) := by decide +kernel
theorem dX5_init_45 : decode cX5_init 45 = .ok (.putfield 22, 3) := by decide +kernel
theorem dX5_init_48 : decode cX5_init 48 = .ok (.aload_n 0, 1) := by decide +kernel
theorem dX5_init_49 : decode cX5_init 49 = .ok (.iconst 3, 1) := by decide +kernel
theorem dX5_init_50 : decode cX5_init 50 = .ok (.newarray .int, 2) := by decide +kernel
theorem dX5_init_52 : decode cX5_init 52 = .ok (.putfield 25, 3) := by decide +kernel
theorem dX5_init_55 : decode cX5_init 55 = .ok (.aload_n 0, 1) := by decide +kernel
theorem dX5_init_56 : decode cX5_init 56 = .ok (.getfield 7, 3) := by decide +kernel
theorem dX5_init_59 : decode cX5_init 59 = .ok (.bipush 9, 2) := by decide +kernel
theorem dX5_init_61 : decode cX5_init 61 = .ok (.bipush 10, 2) := by decide +kernel
theorem dX5_init_63 : decode cX5_init 63 = .ok (.iastore, 1) := by decide +kernel
theorem dX5_init_64 : decode cX5_init 64 = .ok (.aload_n 0, 1) := by decide +kernel
theorem dX5_init_65 : decode cX5_init 65 = .ok (.getfield 7, 3) := by decide +kernel
theorem dX5_init_68 : decode cX5_init 68 = .ok (.bipush 10, 2) := by decide +kernel
theorem dX5_init_70 : decode cX5_init 70 = .ok (.bipush 20, 2) := by decide +kernel
theorem dX5_init_72 : decode cX5_init 72 = .ok (.iastore, 1) := by decide +kernel
theorem dX5_init_73 : decode cX5_init 73 = .ok (.aload_n 0, 1) := by decide +kernel
theorem dX5_init_74 : decode cX5_init 74 = .ok (.getfield 7, 3) := by decide +kernel
theorem dX5_init_77 : decode cX5_init 77 = .ok (.bipush 11, 2) := by decide +kernel
theorem dX5_init_79 : decode cX5_init 79 = .ok (.bipush 20, 2) := by decide +kernel
theorem dX5_init_81 : decode cX5_init 81 = .ok (.iastore, 1) := by decide +kernel
theorem dX5_init_82 : decode cX5_init 82 = .ok (.iconst 0, 1) := by decide +kernel
theorem dX5_init_83 : decode cX5_init 83 = .ok (.istore_n 1, 1) := by decide +kernel
theorem dX5_init_84 : decode cX5_init 84 = .ok (.iload_n 1, 1) := by decide +kernel
theorem dX5_init_85 : decode cX5_init 85 = .ok (.iconst 5, 1) := by decide +kernel
theorem dX5_init_86 : decode cX5_init 86 = .ok (.if_icmp .ge 51, 3) := by decide +kernel
theorem dX5_init_89 : decode cX5_init 89 = .ok (.aload_n 0, 1) := by decide +kernel
theorem dX5_init_90 : decode cX5_init 90 = .ok (.iload_n 1, 1) := by decide +kernel
theorem dX5_init_91 : decode cX5_init 91 = .ok (.iconst 0, 1) := by decide +kernel
theorem dX5_init_92 : decode cX5_init 92 = .ok (.sipush 200, 3) := by decide +kernel
theorem dX5_init_95 : decode cX5_init 95 = .ok (.invokevirtual 28, 3) := by decide +kernel
theorem dX5_init_98 : decode cX5_init 98 = .ok (.aload_n 0, 1) := by decide +kernel
theorem dX5_init_99 : decode cX5_init 99 = .ok (.iload_n 1, 1) := by decide +kernel
theorem dX5_init_100 : decode cX5_init 100 = .ok (.iconst 2, 1) := by decide +kernel
theorem dX5_init_101 : decode cX5_init 101 = .ok (.bipush 20, 2) := by decide +kernel
theorem dX5_init_103 : decode cX5_init 103 = .ok (.invokevirtual 28, 3) := by decide +kernel
theorem dX5_init_106 : decode cX5_init 106 = .ok (.aload_n 0, 1) := by decide +kernel
theorem dX5_init_107 : decode cX5_init 107 = .ok (.iload_n 1, 1) := by decide +kernel
theorem dX5_init_108 : decode cX5_init 108 = .ok (.iconst 4, 1) := by decide +kernel
theorem dX5_init_109 : decode cX5_init 109 = .ok (.bipush 11, 2) := by decide +kernel
theorem dX5_init_111 : decode cX5_init 111 = .ok (.invokevirtual 28, 3) := by decide +kernel
theorem dX5_init_114 : decode cX5_init 114 = .ok (.aload_n 0, 1) := by decide +kernel
theorem dX5_init_115 : decode cX5_init 115 = .ok (.iload_n 1, 1) := by decide +kernel
theorem dX5_init_116 : decode cX5_init 116 = .ok (.iconst 5, 1) := by decide +kernel
theorem dX5_init_117 : decode cX5_init 117 = .ok (.bipush 40, 2) := by decide +kernel
theorem dX5_init_119 : decode cX5_init 119 = .ok (.invokevirtual 28, 3) := by decide +kernel
theorem dX5_init_122 : decode cX5_init 122 = .ok (.aload_n 0, 1) := by decide +kernel
theorem dX5_init_123 : decode cX5_init 123 = .ok (.iload_n 1, 1) := by decide +kernel
theorem dX5_init_124 : decode cX5_init 124 = .ok (.bipush 6, 2) := by decide +kernel
theorem dX5_init_126 : decode cX5_init 126 = .ok (.bipush 10, 2) := by decide +kernel
theorem dX5_init_128 : decode cX5_init 128 = .ok (.invokevirtual 28, 3) := by decide +kernel
theorem dX5_init_131 : decode cX5_init 131 = .ok (.iinc 1 1, 3) := by decide +kernel
theorem dX5_init_134 : decode cX5_init 134 = .ok (.goto (-50), 3) := by decide +kernel
theorem dX5_init_137 : decode cX5_init 137 = .ok (.return_, 1) := by decide +kernel
theorem dX5_thrown_0 : decode cX5_thrown 0 = .ok (.aload_n 0, 1) := by decide +kernel
theorem dX5_thrown_1 : decode cX5_thrown 1 = .ok (.getfield 32, 3) := by decide +kernel
theorem dX5_thrown_4 : decode cX5_thrown 4 = .ok (.ireturn, 1) := by decide +kernel
theorem dX5_holds_0 : decode cX5_holds 0 = .ok (.aload_n 0, 1) := by decide +kernel
theorem dX5_holds_1 : decode cX5_holds 1 = .ok (.iload_n 1, 1) := by decide +kernel
theorem dX5_holds_2 : decode cX5_holds 2 = .ok (.putfield 32, 3) := by decide +kernel
theorem dX5_holds_5 : decode cX5_holds 5 = .ok (.iload_n 1, 1) := by decide +kernel
theorem dX5_holds_6 : decode cX5_holds 6 = .ok (.ifCond .ne 7, 3) := by decide +kernel
theorem dX5_holds_9 : decode cX5_holds 9 = .ok (.iconst 1, 1) := by decide +kernel
theorem dX5_holds_10 : decode cX5_holds 10 = .ok (.goto 4, 3) := by decide +kernel
theorem dX5_holds_13 : decode cX5_holds 13 = .ok (.iconst 0, 1) := by decide +kernel
theorem dX5_holds_14 : decode cX5_holds 14 = .ok (.ireturn, 1) := by decide +kernel
theorem dX5_in_0 : decode cX5_in 0 = .ok (.iload_n 0, 1) := by decide +kernel
theorem dX5_in_1 : decode cX5_in 1 = .ok (.iload_n 1, 1) := by decide +kernel
theorem dX5_in_2 : decode cX5_in 2 = .ok (.if_icmp .lt 12, 3) := by decide +kernel
theorem dX5_in_5 : decode cX5_in 5 = .ok (.iload_n 0, 1) := by decide +kernel
theorem dX5_in_6 : decode cX5_in 6 = .ok (.iload_n 2, 1) := by decide +kernel
theorem dX5_in_7 : decode cX5_in 7 = .ok (.if_icmp .gt 7, 3) := by decide +kernel
theorem dX5_in_10 : decode cX5_in 10 = .ok (.iconst 1, 1) := by decide +kernel
theorem dX5_in_11 : decode cX5_in 11 = .ok (.goto 4, 3) := by decide +kernel
theorem dX5_in_14 : decode cX5_in 14 = .ok (.iconst 0, 1) := by decide +kernel
theorem dX5_in_15 : decode cX5_in 15 = .ok (.ireturn, 1) := by decide +kernel
theorem dX5_isMill_0 : decode cX5_isMill 0 = .ok (.iload_n 0, 1) := by decide +kernel
theorem dX5_isMill_1 : decode cX5_isMill 1 = .ok (.iconst 0, 1) := by decide +kernel
theorem dX5_isMill_2 : decode cX5_isMill 2 = .ok (.iconst 4, 1) := by decide +kernel
theorem dX5_isMill_3 : decode cX5_isMill 3 = .ok (.invokestatic 36, 3) := by decide +kernel
theorem dX5_isMill_6 : decode cX5_isMill 6 = .ok (.ireturn, 1) := by decide +kernel
theorem dX5_of_0 : decode cX5_of 0 = .ok (.aload_n 0, 1) := by decide +kernel
theorem dX5_of_1 : decode cX5_of 1 = .ok (.getfield 7, 3) := by decide +kernel
theorem dX5_of_4 : decode cX5_of 4 = .ok (.bipush 12, 2) := by decide +kernel
theorem dX5_of_6 : decode cX5_of 6 = .ok (.bipush 34, 2) := by decide +kernel
theorem dX5_of_8 : decode cX5_of 8 = .ok (.iload_n 1, 1) := by decide +kernel
theorem dX5_of_9 : decode cX5_of 9 = .ok (.imul, 1) := by decide +kernel
theorem dX5_of_10 : decode cX5_of 10 = .ok (.iadd, 1) := by decide +kernel
theorem dX5_of_11 : decode cX5_of 11 = .ok (.iload_n 2, 1) := by decide +kernel
theorem dX5_of_12 : decode cX5_of 12 = .ok (.iadd, 1) := by decide +kernel
theorem dX5_of_13 : decode cX5_of 13 = .ok (.iaload, 1) := by decide +kernel
theorem dX5_of_14 : decode cX5_of 14 = .ok (.ireturn, 1) := by decide +kernel
theorem dX5_put_0 : decode cX5_put 0 = .ok (.aload_n 0, 1) := by decide +kernel
theorem dX5_put_1 : decode cX5_put 1 = .ok (.getfield 7, 3) := by decide +kernel
theorem dX5_put_4 : decode cX5_put 4 = .ok (.bipush 12, 2) := by decide +kernel
theorem dX5_put_6 : decode cX5_put 6 = .ok (.bipush 34, 2) := by decide +kernel
theorem dX5_put_8 : decode cX5_put 8 = .ok (.iload_n 1, 1) := by decide +kernel
theorem dX5_put_9 : decode cX5_put 9 = .ok (.imul, 1) := by decide +kernel
theorem dX5_put_10 : decode cX5_put 10 = .ok (.iadd, 1) := by decide +kernel
theorem dX5_put_11 : decode cX5_put 11 = .ok (.iload_n 2, 1) := by decide +kernel
theorem dX5_put_12 : decode cX5_put 12 = .ok (.iadd, 1) := by decide +kernel
theorem dX5_put_13 : decode cX5_put 13 = .ok (.iload_n 3, 1) := by decide +kernel
theorem dX5_put_14 : decode cX5_put 14 = .ok (.iastore, 1) := by decide +kernel
theorem dX5_put_15 : decode cX5_put 15 = .ok (.return_, 1) := by decide +kernel
theorem dX5_add_0 : decode cX5_add 0 = .ok (.aload_n 0, 1) := by decide +kernel
theorem dX5_add_1 : decode cX5_add 1 = .ok (.getfield 7, 3) := by decide +kernel
theorem dX5_add_4 : decode cX5_add 4 = .ok (.bipush 12, 2) := by decide +kernel
theorem dX5_add_6 : decode cX5_add 6 = .ok (.bipush 34, 2) := by decide +kernel
theorem dX5_add_8 : decode cX5_add 8 = .ok (.iload_n 1, 1) := by decide +kernel
theorem dX5_add_9 : decode cX5_add 9 = .ok (.imul, 1) := by decide +kernel
theorem dX5_add_10 : decode cX5_add 10 = .ok (.iadd, 1) := by decide +kernel
theorem dX5_add_11 : decode cX5_add 11 = .ok (.iload_n 2, 1) := by decide +kernel
theorem dX5_add_12 : decode cX5_add 12 = .ok (.iadd, 1) := by decide +kernel
theorem dX5_add_13 : decode cX5_add 13 = .ok (.dup2, 1) := by decide +kernel
theorem dX5_add_14 : decode cX5_add 14 = .ok (.iaload, 1) := by decide +kernel
theorem dX5_add_15 : decode cX5_add 15 = .ok (.iload_n 3, 1) := by decide +kernel
theorem dX5_add_16 : decode cX5_add 16 = .ok (.iadd, 1) := by decide +kernel
theorem dX5_add_17 : decode cX5_add 17 = .ok (.iastore, 1) := by decide +kernel
theorem dX5_add_18 : decode cX5_add 18 = .ok (.return_, 1) := by decide +kernel
theorem dX5_sackRow_0 : decode cX5_sackRow 0 = .ok (.bipush 12, 2) := by decide +kernel
theorem dX5_sackRow_2 : decode cX5_sackRow 2 = .ok (.bipush 34, 2) := by decide +kernel
theorem dX5_sackRow_4 : decode cX5_sackRow 4 = .ok (.iload_n 1, 1) := by decide +kernel
theorem dX5_sackRow_5 : decode cX5_sackRow 5 = .ok (.imul, 1) := by decide +kernel
theorem dX5_sackRow_6 : decode cX5_sackRow 6 = .ok (.iadd, 1) := by decide +kernel
theorem dX5_sackRow_7 : decode cX5_sackRow 7 = .ok (.bipush 10, 2) := by decide +kernel
theorem dX5_sackRow_9 : decode cX5_sackRow 9 = .ok (.iadd, 1) := by decide +kernel
theorem dX5_sackRow_10 : decode cX5_sackRow 10 = .ok (.iconst 4, 1) := by decide +kernel
theorem dX5_sackRow_11 : decode cX5_sackRow 11 = .ok (.iload_n 2, 1) := by decide +kernel
theorem dX5_sackRow_12 : decode cX5_sackRow 12 = .ok (.imul, 1) := by decide +kernel
theorem dX5_sackRow_13 : decode cX5_sackRow 13 = .ok (.iadd, 1) := by decide +kernel
theorem dX5_sackRow_14 : decode cX5_sackRow 14 = .ok (.ireturn, 1) := by decide +kernel
theorem dX5_copy_0 : decode cX5_copy 0 = .ok (.iconst 0, 1) := by decide +kernel
theorem dX5_copy_1 : decode cX5_copy 1 = .ok (.istore 4, 2) := by decide +kernel
theorem dX5_copy_3 : decode cX5_copy 3 = .ok (.iload 4, 2) := by decide +kernel
theorem dX5_copy_5 : decode cX5_copy 5 = .ok (.sipush 182, 3) := by decide +kernel
theorem dX5_copy_8 : decode cX5_copy 8 = .ok (.if_icmp .ge 21, 3) := by decide +kernel
theorem dX5_copy_11 : decode cX5_copy 11 = .ok (.aload_n 2, 1) := by decide +kernel
theorem dX5_copy_12 : decode cX5_copy 12 = .ok (.iload_n 3, 1) := by decide +kernel
theorem dX5_copy_13 : decode cX5_copy 13 = .ok (.iload 4, 2) := by decide +kernel
theorem dX5_copy_15 : decode cX5_copy 15 = .ok (.iadd, 1) := by decide +kernel
theorem dX5_copy_16 : decode cX5_copy 16 = .ok (.aload_n 0, 1) := by decide +kernel
theorem dX5_copy_17 : decode cX5_copy 17 = .ok (.iload_n 1, 1) := by decide +kernel
theorem dX5_copy_18 : decode cX5_copy 18 = .ok (.iload 4, 2) := by decide +kernel
theorem dX5_copy_20 : decode cX5_copy 20 = .ok (.iadd, 1) := by decide +kernel
theorem dX5_copy_21 : decode cX5_copy 21 = .ok (.iaload, 1) := by decide +kernel
theorem dX5_copy_22 : decode cX5_copy 22 = .ok (.iastore, 1) := by decide +kernel
theorem dX5_copy_23 : decode cX5_copy 23 = .ok (.iinc 4 1, 3) := by decide +kernel
theorem dX5_copy_26 : decode cX5_copy 26 = .ok (.goto (-23), 3) := by decide +kernel
theorem dX5_copy_29 : decode cX5_copy 29 = .ok (.return_, 1) := by decide +kernel
theorem dX5_save_0 : decode cX5_save 0 = .ok (.aload_n 0, 1) := by decide +kernel
theorem dX5_save_1 : decode cX5_save 1 = .ok (.getfield 40, 3) := by decide +kernel
theorem dX5_save_4 : decode cX5_save 4 = .ok (.bipush 6, 2) := by decide +kernel
theorem dX5_save_6 : decode cX5_save 6 = .ok (.if_icmp .ne 44, 3) := by decide +kernel
theorem dX5_save_9 : decode cX5_save 9 = .ok (.iconst 0, 1) := by decide +kernel
theorem dX5_save_10 : decode cX5_save 10 = .ok (.istore_n 1, 1) := by decide +kernel
theorem dX5_save_11 : decode cX5_save 11 = .ok (.iload_n 1, 1) := by decide +kernel
theorem dX5_save_12 : decode cX5_save 12 = .ok (.sipush 910, 3) := by decide +kernel
theorem dX5_save_15 : decode cX5_save 15 = .ok (.if_icmp .ge 25, 3) := by decide +kernel
theorem dX5_save_18 : decode cX5_save 18 = .ok (.aload_n 0, 1) := by decide +kernel
theorem dX5_save_19 : decode cX5_save 19 = .ok (.getfield 13, 3) := by decide +kernel
theorem dX5_save_22 : decode cX5_save 22 = .ok (.iload_n 1, 1) := by decide +kernel
theorem dX5_save_23 : decode cX5_save 23 = .ok (.aload_n 0, 1) := by decide +kernel
theorem dX5_save_24 : decode cX5_save 24 = .ok (.getfield 13, 3) := by decide +kernel
theorem dX5_save_27 : decode cX5_save 27 = .ok (.sipush 182, 3) := by decide +kernel
theorem dX5_save_30 : decode cX5_save 30 = .ok (.iload_n 1, 1) := by decide +kernel
theorem dX5_save_31 : decode cX5_save 31 = .ok (.iadd, 1) := by decide +kernel
theorem dX5_save_32 : decode cX5_save 32 = .ok (.iaload, 1) := by decide +kernel
theorem dX5_save_33 : decode cX5_save 33 = .ok (.iastore, 1) := by decide +kernel
theorem dX5_save_34 : decode cX5_save 34 = .ok (.iinc 1 1, 3) := by decide +kernel
theorem dX5_save_37 : decode cX5_save 37 = .ok (.goto (-26), 3) := by decide +kernel
theorem dX5_save_40 : decode cX5_save 40 = .ok (.aload_n 0, 1) := by decide +kernel
theorem dX5_save_41 : decode cX5_save 41 = .ok (.dup, 1) := by decide +kernel
theorem dX5_save_42 : decode cX5_save 42 = .ok (.getfield 40, 3) := by decide +kernel
theorem dX5_save_45 : decode cX5_save 45 = .ok (.iconst 1, 1) := by decide +kernel
theorem dX5_save_46 : decode cX5_save 46 = .ok (.isub, 1) := by decide +kernel
theorem dX5_save_47 : decode cX5_save 47 = .ok (.putfield 40, 3) := by decide +kernel
theorem dX5_save_50 : decode cX5_save 50 = .ok (.aload_n 0, 1) := by decide +kernel
theorem dX5_save_51 : decode cX5_save 51 = .ok (.getfield 7, 3) := by decide +kernel
theorem dX5_save_54 : decode cX5_save 54 = .ok (.iconst 0, 1) := by decide +kernel
theorem dX5_save_55 : decode cX5_save 55 = .ok (.aload_n 0, 1) := by decide +kernel
theorem dX5_save_56 : decode cX5_save 56 = .ok (.getfield 13, 3) := by decide +kernel
theorem dX5_save_59 : decode cX5_save 59 = .ok (.sipush 182, 3) := by decide +kernel
theorem dX5_save_62 : decode cX5_save 62 = .ok (.aload_n 0, 1) := by decide +kernel
theorem dX5_save_63 : decode cX5_save 63 = .ok (.getfield 40, 3) := by decide +kernel
theorem dX5_save_66 : decode cX5_save 66 = .ok (.imul, 1) := by decide +kernel
theorem dX5_save_67 : decode cX5_save 67 = .ok (.invokestatic 43, 3) := by decide +kernel
theorem dX5_save_70 : decode cX5_save 70 = .ok (.aload_n 0, 1) := by decide +kernel
theorem dX5_save_71 : decode cX5_save 71 = .ok (.dup, 1) := by decide +kernel
theorem dX5_save_72 : decode cX5_save 72 = .ok (.getfield 40, 3) := by decide +kernel
theorem dX5_save_75 : decode cX5_save 75 = .ok (.iconst 1, 1) := by decide +kernel
theorem dX5_save_76 : decode cX5_save 76 = .ok (.iadd, 1) := by decide +kernel
theorem dX5_save_77 : decode cX5_save 77 = .ok (.putfield 40, 3) := by decide +kernel
theorem dX5_save_80 : decode cX5_save 80 = .ok (.return_, 1) := by decide +kernel
theorem dX5_insert_0 : decode cX5_insert 0 = .ok (.aload_n 0, 1) := by decide +kernel
theorem dX5_insert_1 : decode cX5_insert 1 = .ok (.iload_n 1, 1) := by decide +kernel
theorem dX5_insert_2 : decode cX5_insert 2 = .ok (.bipush 9, 2) := by decide +kernel
theorem dX5_insert_4 : decode cX5_insert 4 = .ok (.invokevirtual 47, 3) := by decide +kernel
theorem dX5_insert_7 : decode cX5_insert 7 = .ok (.istore 6, 2) := by decide +kernel
theorem dX5_insert_9 : decode cX5_insert 9 = .ok (.iload 6, 2) := by decide +kernel
theorem dX5_insert_11 : decode cX5_insert 11 = .ok (.ifCond .le 75, 3) := by decide +kernel
theorem dX5_insert_14 : decode cX5_insert 14 = .ok (.aload_n 0, 1) := by decide +kernel
theorem dX5_insert_15 : decode cX5_insert 15 = .ok (.iload 5, 2) := by decide +kernel
theorem dX5_insert_17 : decode cX5_insert 17 = .ok (.iload_n 2, 1) := by decide +kernel
theorem dX5_insert_18 : decode cX5_insert 18 = .ok (.aload_n 0, 1) := by decide +kernel
theorem dX5_insert_19 : decode cX5_insert 19 = .ok (.iload_n 1, 1) := by decide +kernel
theorem dX5_insert_20 : decode cX5_insert 20 = .ok (.iload 6, 2) := by decide +kernel
theorem dX5_insert_22 : decode cX5_insert 22 = .ok (.iconst 1, 1) := by decide +kernel
theorem dX5_insert_23 : decode cX5_insert 23 = .ok (.isub, 1) := by decide +kernel
theorem dX5_insert_24 : decode cX5_insert 24 = .ok (.invokevirtual 51, 3) := by decide +kernel
theorem dX5_insert_27 : decode cX5_insert 27 = .ok (.invokevirtual 54, 3) := by decide +kernel
theorem dX5_insert_30 : decode cX5_insert 30 = .ok (.ifCond .eq 56, 3) := by decide +kernel
theorem dX5_insert_33 : decode cX5_insert 33 = .ok (.iconst 0, 1) := by decide +kernel
theorem dX5_insert_34 : decode cX5_insert 34 = .ok (.istore 7, 2) := by decide +kernel
theorem dX5_insert_36 : decode cX5_insert 36 = .ok (.iload 7, 2) := by decide +kernel
theorem dX5_insert_38 : decode cX5_insert 38 = .ok (.iconst 4, 1) := by decide +kernel
theorem dX5_insert_39 : decode cX5_insert 39 = .ok (.if_icmp .ge 41, 3) := by decide +kernel
theorem dX5_insert_42 : decode cX5_insert 42 = .ok (.aload_n 0, 1) := by decide +kernel
theorem dX5_insert_43 : decode cX5_insert 43 = .ok (.getfield 7, 3) := by decide +kernel
theorem dX5_insert_46 : decode cX5_insert 46 = .ok (.aload_n 0, 1) := by decide +kernel
theorem dX5_insert_47 : decode cX5_insert 47 = .ok (.iload_n 1, 1) := by decide +kernel
theorem dX5_insert_48 : decode cX5_insert 48 = .ok (.iload 6, 2) := by decide +kernel
theorem dX5_insert_50 : decode cX5_insert 50 = .ok (.invokevirtual 51, 3) := by decide +kernel
theorem dX5_insert_53 : decode cX5_insert 53 = .ok (.iload 7, 2) := by decide +kernel
theorem dX5_insert_55 : decode cX5_insert 55 = .ok (.iadd, 1) := by decide +kernel
theorem dX5_insert_56 : decode cX5_insert 56 = .ok (.aload_n 0, 1) := by decide +kernel
theorem dX5_insert_57 : decode cX5_insert 57 = .ok (.getfield 7, 3) := by decide +kernel
theorem dX5_insert_60 : decode cX5_insert 60 = .ok (.aload_n 0, 1) := by decide +kernel
theorem dX5_insert_61 : decode cX5_insert 61 = .ok (.iload_n 1, 1) := by decide +kernel
theorem dX5_insert_62 : decode cX5_insert 62 = .ok (.iload 6, 2) := by decide +kernel
theorem dX5_insert_64 : decode cX5_insert 64 = .ok (.iconst 1, 1) := by decide +kernel
theorem dX5_insert_65 : decode cX5_insert 65 = .ok (.isub, 1) := by decide +kernel
theorem dX5_insert_66 : decode cX5_insert 66 = .ok (.invokevirtual 51, 3) := by decide +kernel
theorem dX5_insert_69 : decode cX5_insert 69 = .ok (.iload 7, 2) := by decide +kernel
theorem dX5_insert_71 : decode cX5_insert 71 = .ok (.iadd, 1) := by decide +kernel
theorem dX5_insert_72 : decode cX5_insert 72 = .ok (.iaload, 1) := by decide +kernel
theorem dX5_insert_73 : decode cX5_insert 73 = .ok (.iastore, 1) := by decide +kernel
theorem dX5_insert_74 : decode cX5_insert 74 = .ok (.iinc 7 1, 3) := by decide +kernel
theorem dX5_insert_77 : decode cX5_insert 77 = .ok (.goto (-41), 3) := by decide +kernel
theorem dX5_insert_80 : decode cX5_insert 80 = .ok (.iinc 6 (-1), 3) := by decide +kernel
theorem dX5_insert_83 : decode cX5_insert 83 = .ok (.goto (-74), 3) := by decide +kernel
theorem dX5_insert_86 : decode cX5_insert 86 = .ok (.aload_n 0, 1) := by decide +kernel
theorem dX5_insert_87 : decode cX5_insert 87 = .ok (.iload_n 1, 1) := by decide +kernel
theorem dX5_insert_88 : decode cX5_insert 88 = .ok (.iload 6, 2) := by decide +kernel
theorem dX5_insert_90 : decode cX5_insert 90 = .ok (.invokevirtual 51, 3) := by decide +kernel
theorem dX5_insert_93 : decode cX5_insert 93 = .ok (.istore 7, 2) := by decide +kernel
theorem dX5_insert_95 : decode cX5_insert 95 = .ok (.aload_n 0, 1) := by decide +kernel
theorem dX5_insert_96 : decode cX5_insert 96 = .ok (.getfield 7, 3) := by decide +kernel
theorem dX5_insert_99 : decode cX5_insert 99 = .ok (.iload 7, 2) := by decide +kernel
theorem dX5_insert_101 : decode cX5_insert 101 = .ok (.iconst 0, 1) := by decide +kernel
theorem dX5_insert_102 : decode cX5_insert 102 = .ok (.iadd, 1) := by decide +kernel
theorem dX5_insert_103 : decode cX5_insert 103 = .ok (.iload_n 2, 1) := by decide +kernel
theorem dX5_insert_104 : decode cX5_insert 104 = .ok (.iastore, 1) := by decide +kernel
theorem dX5_insert_105 : decode cX5_insert 105 = .ok (.aload_n 0, 1) := by decide +kernel
theorem dX5_insert_106 : decode cX5_insert 106 = .ok (.getfield 7, 3) := by decide +kernel
theorem dX5_insert_109 : decode cX5_insert 109 = .ok (.iload 7, 2) := by decide +kernel
theorem dX5_insert_111 : decode cX5_insert 111 = .ok (.iconst 1, 1) := by decide +kernel
theorem dX5_insert_112 : decode cX5_insert 112 = .ok (.iadd, 1) := by decide +kernel
theorem dX5_insert_113 : decode cX5_insert 113 = .ok (.iload_n 3, 1) := by decide +kernel
theorem dX5_insert_114 : decode cX5_insert 114 = .ok (.iastore, 1) := by decide +kernel
theorem dX5_insert_115 : decode cX5_insert 115 = .ok (.aload_n 0, 1) := by decide +kernel
theorem dX5_insert_116 : decode cX5_insert 116 = .ok (.getfield 7, 3) := by decide +kernel
theorem dX5_insert_119 : decode cX5_insert 119 = .ok (.iload 7, 2) := by decide +kernel
theorem dX5_insert_121 : decode cX5_insert 121 = .ok (.iconst 2, 1) := by decide +kernel
theorem dX5_insert_122 : decode cX5_insert 122 = .ok (.iadd, 1) := by decide +kernel
theorem dX5_insert_123 : decode cX5_insert 123 = .ok (.iload 4, 2) := by decide +kernel
theorem dX5_insert_125 : decode cX5_insert 125 = .ok (.iastore, 1) := by decide +kernel
theorem dX5_insert_126 : decode cX5_insert 126 = .ok (.aload_n 0, 1) := by decide +kernel
theorem dX5_insert_127 : decode cX5_insert 127 = .ok (.getfield 7, 3) := by decide +kernel
theorem dX5_insert_130 : decode cX5_insert 130 = .ok (.iload 7, 2) := by decide +kernel
theorem dX5_insert_132 : decode cX5_insert 132 = .ok (.iconst 3, 1) := by decide +kernel
theorem dX5_insert_133 : decode cX5_insert 133 = .ok (.iadd, 1) := by decide +kernel
theorem dX5_insert_134 : decode cX5_insert 134 = .ok (.iload 5, 2) := by decide +kernel
theorem dX5_insert_136 : decode cX5_insert 136 = .ok (.iastore, 1) := by decide +kernel
theorem dX5_insert_137 : decode cX5_insert 137 = .ok (.aload_n 0, 1) := by decide +kernel
theorem dX5_insert_138 : decode cX5_insert 138 = .ok (.iload_n 1, 1) := by decide +kernel
theorem dX5_insert_139 : decode cX5_insert 139 = .ok (.bipush 9, 2) := by decide +kernel
theorem dX5_insert_141 : decode cX5_insert 141 = .ok (.iconst 1, 1) := by decide +kernel
theorem dX5_insert_142 : decode cX5_insert 142 = .ok (.invokevirtual 57, 3) := by decide +kernel
theorem dX5_insert_145 : decode cX5_insert 145 = .ok (.iload 6, 2) := by decide +kernel
theorem dX5_insert_147 : decode cX5_insert 147 = .ok (.ireturn, 1) := by decide +kernel
theorem dX5_comesAhead_0 : decode cX5_comesAhead 0 = .ok (.iload_n 1, 1) := by decide +kernel
theorem dX5_comesAhead_1 : decode cX5_comesAhead 1 = .ok (.aload_n 0, 1) := by decide +kernel
theorem dX5_comesAhead_2 : decode cX5_comesAhead 2 = .ok (.getfield 7, 3) := by decide +kernel
theorem dX5_comesAhead_5 : decode cX5_comesAhead 5 = .ok (.iload_n 3, 1) := by decide +kernel
theorem dX5_comesAhead_6 : decode cX5_comesAhead 6 = .ok (.iconst 3, 1) := by decide +kernel
theorem dX5_comesAhead_7 : decode cX5_comesAhead 7 = .ok (.iadd, 1) := by decide +kernel
theorem dX5_comesAhead_8 : decode cX5_comesAhead 8 = .ok (.iaload, 1) := by decide +kernel
theorem dX5_comesAhead_9 : decode cX5_comesAhead 9 = .ok (.if_icmp .lt 27, 3) := by decide +kernel
theorem dX5_comesAhead_12 : decode cX5_comesAhead 12 = .ok (.iload_n 1, 1) := by decide +kernel
theorem dX5_comesAhead_13 : decode cX5_comesAhead 13 = .ok (.aload_n 0, 1) := by decide +kernel
theorem dX5_comesAhead_14 : decode cX5_comesAhead 14 = .ok (.getfield 7, 3) := by decide +kernel
theorem dX5_comesAhead_17 : decode cX5_comesAhead 17 = .ok (.iload_n 3, 1) := by decide +kernel
theorem dX5_comesAhead_18 : decode cX5_comesAhead 18 = .ok (.iconst 3, 1) := by decide +kernel
theorem dX5_comesAhead_19 : decode cX5_comesAhead 19 = .ok (.iadd, 1) := by decide +kernel
theorem dX5_comesAhead_20 : decode cX5_comesAhead 20 = .ok (.iaload, 1) := by decide +kernel
theorem dX5_comesAhead_21 : decode cX5_comesAhead 21 = .ok (.if_icmp .ne 19, 3) := by decide +kernel
theorem dX5_comesAhead_24 : decode cX5_comesAhead 24 = .ok (.iload_n 2, 1) := by decide +kernel
theorem dX5_comesAhead_25 : decode cX5_comesAhead 25 = .ok (.aload_n 0, 1) := by decide +kernel
theorem dX5_comesAhead_26 : decode cX5_comesAhead 26 = .ok (.getfield 7, 3) := by decide +kernel
theorem dX5_comesAhead_29 : decode cX5_comesAhead 29 = .ok (.iload_n 3, 1) := by decide +kernel
theorem dX5_comesAhead_30 : decode cX5_comesAhead 30 = .ok (.iconst 0, 1) := by decide +kernel
theorem dX5_comesAhead_31 : decode cX5_comesAhead 31 = .ok (.iadd, 1) := by decide +kernel
theorem dX5_comesAhead_32 : decode cX5_comesAhead 32 = .ok (.iaload, 1) := by decide +kernel
theorem dX5_comesAhead_33 : decode cX5_comesAhead 33 = .ok (.if_icmp .ge 7, 3) := by decide +kernel
theorem dX5_comesAhead_36 : decode cX5_comesAhead 36 = .ok (.iconst 1, 1) := by decide +kernel
theorem dX5_comesAhead_37 : decode cX5_comesAhead 37 = .ok (.goto 4, 3) := by decide +kernel
theorem dX5_comesAhead_40 : decode cX5_comesAhead 40 = .ok (.iconst 0, 1) := by decide +kernel
theorem dX5_comesAhead_41 : decode cX5_comesAhead 41 = .ok (.ireturn, 1) := by decide +kernel
theorem dX5_remove_0 : decode cX5_remove 0 = .ok (.aload_n 0, 1) := by decide +kernel
theorem dX5_remove_1 : decode cX5_remove 1 = .ok (.iload_n 1, 1) := by decide +kernel
theorem dX5_remove_2 : decode cX5_remove 2 = .ok (.bipush 9, 2) := by decide +kernel
theorem dX5_remove_4 : decode cX5_remove 4 = .ok (.iconst (-1), 1) := by decide +kernel
theorem dX5_remove_5 : decode cX5_remove 5 = .ok (.invokevirtual 57, 3) := by decide +kernel
theorem dX5_remove_8 : decode cX5_remove 8 = .ok (.aload_n 0, 1) := by decide +kernel
theorem dX5_remove_9 : decode cX5_remove 9 = .ok (.iload_n 1, 1) := by decide +kernel
theorem dX5_remove_10 : decode cX5_remove 10 = .ok (.iload_n 2, 1) := by decide +kernel
theorem dX5_remove_11 : decode cX5_remove 11 = .ok (.invokevirtual 51, 3) := by decide +kernel
theorem dX5_remove_14 : decode cX5_remove 14 = .ok (.istore_n 3, 1) := by decide +kernel
theorem dX5_remove_15 : decode cX5_remove 15 = .ok (.iload_n 3, 1) := by decide +kernel
theorem dX5_remove_16 : decode cX5_remove 16 = .ok (.aload_n 0, 1) := by decide +kernel
theorem dX5_remove_17 : decode cX5_remove 17 = .ok (.iload_n 1, 1) := by decide +kernel
theorem dX5_remove_18 : decode cX5_remove 18 = .ok (.aload_n 0, 1) := by decide +kernel
theorem dX5_remove_19 : decode cX5_remove 19 = .ok (.iload_n 1, 1) := by decide +kernel
theorem dX5_remove_20 : decode cX5_remove 20 = .ok (.bipush 9, 2) := by decide +kernel
theorem dX5_remove_22 : decode cX5_remove 22 = .ok (.invokevirtual 47, 3) := by decide +kernel
theorem dX5_remove_25 : decode cX5_remove 25 = .ok (.invokevirtual 51, 3) := by decide +kernel
theorem dX5_remove_28 : decode cX5_remove 28 = .ok (.if_icmp .ge 23, 3) := by decide +kernel
theorem dX5_remove_31 : decode cX5_remove 31 = .ok (.aload_n 0, 1) := by decide +kernel
theorem dX5_remove_32 : decode cX5_remove 32 = .ok (.getfield 7, 3) := by decide +kernel
theorem dX5_remove_35 : decode cX5_remove 35 = .ok (.iload_n 3, 1) := by decide +kernel
theorem dX5_remove_36 : decode cX5_remove 36 = .ok (.aload_n 0, 1) := by decide +kernel
theorem dX5_remove_37 : decode cX5_remove 37 = .ok (.getfield 7, 3) := by decide +kernel
theorem dX5_remove_40 : decode cX5_remove 40 = .ok (.iload_n 3, 1) := by decide +kernel
theorem dX5_remove_41 : decode cX5_remove 41 = .ok (.iconst 4, 1) := by decide +kernel
theorem dX5_remove_42 : decode cX5_remove 42 = .ok (.iadd, 1) := by decide +kernel
theorem dX5_remove_43 : decode cX5_remove 43 = .ok (.iaload, 1) := by decide +kernel
theorem dX5_remove_44 : decode cX5_remove 44 = .ok (.iastore, 1) := by decide +kernel
theorem dX5_remove_45 : decode cX5_remove 45 = .ok (.iinc 3 1, 3) := by decide +kernel
theorem dX5_remove_48 : decode cX5_remove 48 = .ok (.goto (-33), 3) := by decide +kernel
theorem dX5_remove_51 : decode cX5_remove 51 = .ok (.return_, 1) := by decide +kernel
theorem dX5_whereIs_0 : decode cX5_whereIs 0 = .ok (.iconst 0, 1) := by decide +kernel
theorem dX5_whereIs_1 : decode cX5_whereIs 1 = .ok (.istore_n 2, 1) := by decide +kernel
theorem dX5_whereIs_2 : decode cX5_whereIs 2 = .ok (.iload_n 2, 1) := by decide +kernel
theorem dX5_whereIs_3 : decode cX5_whereIs 3 = .ok (.bipush 30, 2) := by decide +kernel
theorem dX5_whereIs_5 : decode cX5_whereIs 5 = .ok (.if_icmp .ge 51, 3) := by decide +kernel
theorem dX5_whereIs_8 : decode cX5_whereIs 8 = .ok (.iload_n 2, 1) := by decide +kernel
theorem dX5_whereIs_9 : decode cX5_whereIs 9 = .ok (.bipush 6, 2) := by decide +kernel
theorem dX5_whereIs_11 : decode cX5_whereIs 11 = .ok (.irem, 1) := by decide +kernel
theorem dX5_whereIs_12 : decode cX5_whereIs 12 = .ok (.aload_n 0, 1) := by decide +kernel
theorem dX5_whereIs_13 : decode cX5_whereIs 13 = .ok (.iload_n 2, 1) := by decide +kernel
theorem dX5_whereIs_14 : decode cX5_whereIs 14 = .ok (.bipush 6, 2) := by decide +kernel
theorem dX5_whereIs_16 : decode cX5_whereIs 16 = .ok (.idiv, 1) := by decide +kernel
theorem dX5_whereIs_17 : decode cX5_whereIs 17 = .ok (.bipush 9, 2) := by decide +kernel
theorem dX5_whereIs_19 : decode cX5_whereIs 19 = .ok (.invokevirtual 47, 3) := by decide +kernel
theorem dX5_whereIs_22 : decode cX5_whereIs 22 = .ok (.if_icmp .ge 28, 3) := by decide +kernel
theorem dX5_whereIs_25 : decode cX5_whereIs 25 = .ok (.aload_n 0, 1) := by decide +kernel
theorem dX5_whereIs_26 : decode cX5_whereIs 26 = .ok (.getfield 7, 3) := by decide +kernel
theorem dX5_whereIs_29 : decode cX5_whereIs 29 = .ok (.aload_n 0, 1) := by decide +kernel
theorem dX5_whereIs_30 : decode cX5_whereIs 30 = .ok (.iload_n 2, 1) := by decide +kernel
theorem dX5_whereIs_31 : decode cX5_whereIs 31 = .ok (.bipush 6, 2) := by decide +kernel
theorem dX5_whereIs_33 : decode cX5_whereIs 33 = .ok (.idiv, 1) := by decide +kernel
theorem dX5_whereIs_34 : decode cX5_whereIs 34 = .ok (.iload_n 2, 1) := by decide +kernel
theorem dX5_whereIs_35 : decode cX5_whereIs 35 = .ok (.bipush 6, 2) := by decide +kernel
theorem dX5_whereIs_37 : decode cX5_whereIs 37 = .ok (.irem, 1) := by decide +kernel
theorem dX5_whereIs_38 : decode cX5_whereIs 38 = .ok (.invokevirtual 51, 3) := by decide +kernel
theorem dX5_whereIs_41 : decode cX5_whereIs 41 = .ok (.iconst 0, 1) := by decide +kernel
theorem dX5_whereIs_42 : decode cX5_whereIs 42 = .ok (.iadd, 1) := by decide +kernel
theorem dX5_whereIs_43 : decode cX5_whereIs 43 = .ok (.iaload, 1) := by decide +kernel
theorem dX5_whereIs_44 : decode cX5_whereIs 44 = .ok (.iload_n 1, 1) := by decide +kernel
theorem dX5_whereIs_45 : decode cX5_whereIs 45 = .ok (.if_icmp .ne 5, 3) := by decide +kernel
theorem dX5_whereIs_48 : decode cX5_whereIs 48 = .ok (.iload_n 2, 1) := by decide +kernel
theorem dX5_whereIs_49 : decode cX5_whereIs 49 = .ok (.ireturn, 1) := by decide +kernel
theorem dX5_whereIs_50 : decode cX5_whereIs 50 = .ok (.iinc 2 1, 3) := by decide +kernel
theorem dX5_whereIs_53 : decode cX5_whereIs 53 = .ok (.goto (-51), 3) := by decide +kernel
theorem dX5_whereIs_56 : decode cX5_whereIs 56 = .ok (.iconst (-1), 1) := by decide +kernel
theorem dX5_whereIs_57 : decode cX5_whereIs 57 = .ok (.ireturn, 1) := by decide +kernel
theorem dX5_tideIn_0 : decode cX5_tideIn 0 = .ok (.bipush 6, 2) := by decide +kernel
theorem dX5_tideIn_2 : decode cX5_tideIn 2 = .ok (.iload_n 1, 1) := by decide +kernel
theorem dX5_tideIn_3 : decode cX5_tideIn 3 = .ok (.bipush 12, 2) := by decide +kernel
theorem dX5_tideIn_5 : decode cX5_tideIn 5 = .ok (.irem, 1) := by decide +kernel
theorem dX5_tideIn_6 : decode cX5_tideIn 6 = .ok (.isub, 1) := by decide +kernel
theorem dX5_tideIn_7 : decode cX5_tideIn 7 = .ok (.istore_n 2, 1) := by decide +kernel
theorem dX5_tideIn_8 : decode cX5_tideIn 8 = .ok (.aload_n 0, 1) := by decide +kernel
theorem dX5_tideIn_9 : decode cX5_tideIn 9 = .ok (.getfield 7, 3) := by decide +kernel
theorem dX5_tideIn_12 : decode cX5_tideIn 12 = .ok (.bipush 9, 2) := by decide +kernel
theorem dX5_tideIn_14 : decode cX5_tideIn 14 = .ok (.iaload, 1) := by decide +kernel
theorem dX5_tideIn_15 : decode cX5_tideIn 15 = .ok (.iload_n 2, 1) := by decide +kernel
theorem dX5_tideIn_16 : decode cX5_tideIn 16 = .ok (.ifCond .ge 8, 3) := by decide +kernel
theorem dX5_tideIn_19 : decode cX5_tideIn 19 = .ok (.iload_n 2, 1) := by decide +kernel
theorem dX5_tideIn_20 : decode cX5_tideIn 20 = .ok (.ineg, 1) := by decide +kernel
theorem dX5_tideIn_21 : decode cX5_tideIn 21 = .ok (.goto 4, 3) := by decide +kernel
theorem dX5_tideIn_24 : decode cX5_tideIn 24 = .ok (.iload_n 2, 1) := by decide +kernel
theorem dX5_tideIn_25 : decode cX5_tideIn 25 = .ok (.imul, 1) := by decide +kernel
theorem dX5_tideIn_26 : decode cX5_tideIn 26 = .ok (.ireturn, 1) := by decide +kernel
theorem dX5_head_0 : decode cX5_head 0 = .ok (.aload_n 0, 1) := by decide +kernel
theorem dX5_head_1 : decode cX5_head 1 = .ok (.iload_n 1, 1) := by decide +kernel
theorem dX5_head_2 : decode cX5_head 2 = .ok (.iconst 1, 1) := by decide +kernel
theorem dX5_head_3 : decode cX5_head 3 = .ok (.invokevirtual 47, 3) := by decide +kernel
theorem dX5_head_6 : decode cX5_head 6 = .ok (.bipush 100, 2) := by decide +kernel
theorem dX5_head_8 : decode cX5_head 8 = .ok (.imul, 1) := by decide +kernel
theorem dX5_head_9 : decode cX5_head 9 = .ok (.aload_n 0, 1) := by decide +kernel
theorem dX5_head_10 : decode cX5_head 10 = .ok (.iload_n 1, 1) := by decide +kernel
theorem dX5_head_11 : decode cX5_head 11 = .ok (.iconst 0, 1) := by decide +kernel
theorem dX5_head_12 : decode cX5_head 12 = .ok (.invokevirtual 47, 3) := by decide +kernel
theorem dX5_head_15 : decode cX5_head 15 = .ok (.idiv, 1) := by decide +kernel
theorem dX5_head_16 : decode cX5_head 16 = .ok (.aload_n 0, 1) := by decide +kernel
theorem dX5_head_17 : decode cX5_head 17 = .ok (.aload_n 0, 1) := by decide +kernel
theorem dX5_head_18 : decode cX5_head 18 = .ok (.getfield 7, 3) := by decide +kernel
theorem dX5_head_21 : decode cX5_head 21 = .ok (.iconst 0, 1) := by decide +kernel
theorem dX5_head_22 : decode cX5_head 22 = .ok (.iaload, 1) := by decide +kernel
theorem dX5_head_23 : decode cX5_head 23 = .ok (.invokevirtual 60, 3) := by decide +kernel
theorem dX5_head_26 : decode cX5_head 26 = .ok (.isub, 1) := by decide +kernel
theorem dX5_head_27 : decode cX5_head 27 = .ok (.ireturn, 1) := by decide +kernel
theorem dX5_fill_0 : decode cX5_fill 0 = .ok (.aload_n 0, 1) := by decide +kernel
theorem dX5_fill_1 : decode cX5_fill 1 = .ok (.aload_n 0, 1) := by decide +kernel
theorem dX5_fill_2 : decode cX5_fill 2 = .ok (.getfield 7, 3) := by decide +kernel
theorem dX5_fill_5 : decode cX5_fill 5 = .ok (.iconst 0, 1) := by decide +kernel
theorem dX5_fill_6 : decode cX5_fill 6 = .ok (.iaload, 1) := by decide +kernel
theorem dX5_fill_7 : decode cX5_fill 7 = .ok (.invokevirtual 60, 3) := by decide +kernel
theorem dX5_fill_10 : decode cX5_fill 10 = .ok (.aload_n 0, 1) := by decide +kernel
theorem dX5_fill_11 : decode cX5_fill 11 = .ok (.iload_n 1, 1) := by decide +kernel
theorem dX5_fill_12 : decode cX5_fill 12 = .ok (.iconst 2, 1) := by decide +kernel
theorem dX5_fill_13 : decode cX5_fill 13 = .ok (.invokevirtual 47, 3) := by decide +kernel
theorem dX5_fill_16 : decode cX5_fill 16 = .ok (.isub, 1) := by decide +kernel
theorem dX5_fill_17 : decode cX5_fill 17 = .ok (.istore_n 2, 1) := by decide +kernel
theorem dX5_fill_18 : decode cX5_fill 18 = .ok (.iload_n 2, 1) := by decide +kernel
theorem dX5_fill_19 : decode cX5_fill 19 = .ok (.ifCond .le 79, 3) := by decide +kernel
theorem dX5_fill_22 : decode cX5_fill 22 = .ok (.aload_n 0, 1) := by decide +kernel
theorem dX5_fill_23 : decode cX5_fill 23 = .ok (.getfield 7, 3) := by decide +kernel
theorem dX5_fill_26 : decode cX5_fill 26 = .ok (.iconst 0, 1) := by decide +kernel
theorem dX5_fill_27 : decode cX5_fill 27 = .ok (.iaload, 1) := by decide +kernel
theorem dX5_fill_28 : decode cX5_fill 28 = .ok (.bipush 12, 2) := by decide +kernel
theorem dX5_fill_30 : decode cX5_fill 30 = .ok (.irem, 1) := by decide +kernel
theorem dX5_fill_31 : decode cX5_fill 31 = .ok (.aload_n 0, 1) := by decide +kernel
theorem dX5_fill_32 : decode cX5_fill 32 = .ok (.iload_n 1, 1) := by decide +kernel
theorem dX5_fill_33 : decode cX5_fill 33 = .ok (.iconst 3, 1) := by decide +kernel
theorem dX5_fill_34 : decode cX5_fill 34 = .ok (.invokevirtual 47, 3) := by decide +kernel
theorem dX5_fill_37 : decode cX5_fill 37 = .ok (.aload_n 0, 1) := by decide +kernel
theorem dX5_fill_38 : decode cX5_fill 38 = .ok (.iload_n 1, 1) := by decide +kernel
theorem dX5_fill_39 : decode cX5_fill 39 = .ok (.iconst 4, 1) := by decide +kernel
theorem dX5_fill_40 : decode cX5_fill 40 = .ok (.invokevirtual 47, 3) := by decide +kernel
theorem dX5_fill_43 : decode cX5_fill 43 = .ok (.invokestatic 36, 3) := by decide +kernel
theorem dX5_fill_46 : decode cX5_fill 46 = .ok (.ifCond .eq 52, 3) := by decide +kernel
theorem dX5_fill_49 : decode cX5_fill 49 = .ok (.aload_n 0, 1) := by decide +kernel
theorem dX5_fill_50 : decode cX5_fill 50 = .ok (.iload_n 1, 1) := by decide +kernel
theorem dX5_fill_51 : decode cX5_fill 51 = .ok (.iconst 0, 1) := by decide +kernel
theorem dX5_fill_52 : decode cX5_fill 52 = .ok (.invokevirtual 47, 3) := by decide +kernel
theorem dX5_fill_55 : decode cX5_fill 55 = .ok (.aload_n 0, 1) := by decide +kernel
theorem dX5_fill_56 : decode cX5_fill 56 = .ok (.iload_n 1, 1) := by decide +kernel
theorem dX5_fill_57 : decode cX5_fill 57 = .ok (.iconst 1, 1) := by decide +kernel
theorem dX5_fill_58 : decode cX5_fill 58 = .ok (.invokevirtual 47, 3) := by decide +kernel
theorem dX5_fill_61 : decode cX5_fill 61 = .ok (.isub, 1) := by decide +kernel
theorem dX5_fill_62 : decode cX5_fill 62 = .ok (.istore_n 3, 1) := by decide +kernel
theorem dX5_fill_63 : decode cX5_fill 63 = .ok (.iconst 2, 1) := by decide +kernel
theorem dX5_fill_64 : decode cX5_fill 64 = .ok (.iload_n 2, 1) := by decide +kernel
theorem dX5_fill_65 : decode cX5_fill 65 = .ok (.imul, 1) := by decide +kernel
theorem dX5_fill_66 : decode cX5_fill 66 = .ok (.iload_n 3, 1) := by decide +kernel
theorem dX5_fill_67 : decode cX5_fill 67 = .ok (.if_icmp .ge 9, 3) := by decide +kernel
theorem dX5_fill_70 : decode cX5_fill 70 = .ok (.iconst 2, 1) := by decide +kernel
theorem dX5_fill_71 : decode cX5_fill 71 = .ok (.iload_n 2, 1) := by decide +kernel
theorem dX5_fill_72 : decode cX5_fill 72 = .ok (.imul, 1) := by decide +kernel
theorem dX5_fill_73 : decode cX5_fill 73 = .ok (.goto 4, 3) := by decide +kernel
theorem dX5_fill_76 : decode cX5_fill 76 = .ok (.iload_n 3, 1) := by decide +kernel
theorem dX5_fill_77 : decode cX5_fill 77 = .ok (.istore 4, 2) := by decide +kernel
theorem dX5_fill_79 : decode cX5_fill 79 = .ok (.aload_n 0, 1) := by decide +kernel
theorem dX5_fill_80 : decode cX5_fill 80 = .ok (.iload_n 1, 1) := by decide +kernel
theorem dX5_fill_81 : decode cX5_fill 81 = .ok (.iconst 1, 1) := by decide +kernel
theorem dX5_fill_82 : decode cX5_fill 82 = .ok (.iload 4, 2) := by decide +kernel
theorem dX5_fill_84 : decode cX5_fill 84 = .ok (.invokevirtual 57, 3) := by decide +kernel
theorem dX5_fill_87 : decode cX5_fill 87 = .ok (.aload_n 0, 1) := by decide +kernel
theorem dX5_fill_88 : decode cX5_fill 88 = .ok (.getfield 7, 3) := by decide +kernel
theorem dX5_fill_91 : decode cX5_fill 91 = .ok (.iconst 3, 1) := by decide +kernel
theorem dX5_fill_92 : decode cX5_fill 92 = .ok (.dup2, 1) := by decide +kernel
theorem dX5_fill_93 : decode cX5_fill 93 = .ok (.iaload, 1) := by decide +kernel
theorem dX5_fill_94 : decode cX5_fill 94 = .ok (.iload 4, 2) := by decide +kernel
theorem dX5_fill_96 : decode cX5_fill 96 = .ok (.iadd, 1) := by decide +kernel
theorem dX5_fill_97 : decode cX5_fill 97 = .ok (.iastore, 1) := by decide +kernel
theorem dX5_fill_98 : decode cX5_fill 98 = .ok (.return_, 1) := by decide +kernel
theorem dX5_reason_0 : decode cX5_reason 0 = .ok (.aload_n 0, 1) := by decide +kernel
theorem dX5_reason_1 : decode cX5_reason 1 = .ok (.iload_n 1, 1) := by decide +kernel
theorem dX5_reason_2 : decode cX5_reason 2 = .ok (.bipush 9, 2) := by decide +kernel
theorem dX5_reason_4 : decode cX5_reason 4 = .ok (.invokevirtual 47, 3) := by decide +kernel
theorem dX5_reason_7 : decode cX5_reason 7 = .ok (.ifCond .ne 5, 3) := by decide +kernel
theorem dX5_reason_10 : decode cX5_reason 10 = .ok (.iconst 1, 1) := by decide +kernel
theorem dX5_reason_11 : decode cX5_reason 11 = .ok (.ireturn, 1) := by decide +kernel
theorem dX5_reason_12 : decode cX5_reason 12 = .ok (.aload_n 0, 1) := by decide +kernel
theorem dX5_reason_13 : decode cX5_reason 13 = .ok (.iload_n 1, 1) := by decide +kernel
theorem dX5_reason_14 : decode cX5_reason 14 = .ok (.invokevirtual 64, 3) := by decide +kernel
theorem dX5_reason_17 : decode cX5_reason 17 = .ok (.aload_n 0, 1) := by decide +kernel
theorem dX5_reason_18 : decode cX5_reason 18 = .ok (.getfield 7, 3) := by decide +kernel
theorem dX5_reason_21 : decode cX5_reason 21 = .ok (.bipush 10, 2) := by decide +kernel
theorem dX5_reason_23 : decode cX5_reason 23 = .ok (.iaload, 1) := by decide +kernel
theorem dX5_reason_24 : decode cX5_reason 24 = .ok (.if_icmp .ge 7, 3) := by decide +kernel
theorem dX5_reason_27 : decode cX5_reason 27 = .ok (.iconst 2, 1) := by decide +kernel
theorem dX5_reason_28 : decode cX5_reason 28 = .ok (.goto 24, 3) := by decide +kernel
theorem dX5_reason_31 : decode cX5_reason 31 = .ok (.aload_n 0, 1) := by decide +kernel
theorem dX5_reason_32 : decode cX5_reason 32 = .ok (.iload_n 1, 1) := by decide +kernel
theorem dX5_reason_33 : decode cX5_reason 33 = .ok (.iconst 1, 1) := by decide +kernel
theorem dX5_reason_34 : decode cX5_reason 34 = .ok (.invokevirtual 47, 3) := by decide +kernel
theorem dX5_reason_37 : decode cX5_reason 37 = .ok (.aload_n 0, 1) := by decide +kernel
theorem dX5_reason_38 : decode cX5_reason 38 = .ok (.getfield 7, 3) := by decide +kernel
theorem dX5_reason_41 : decode cX5_reason 41 = .ok (.bipush 11, 2) := by decide +kernel
theorem dX5_reason_43 : decode cX5_reason 43 = .ok (.iaload, 1) := by decide +kernel
theorem dX5_reason_44 : decode cX5_reason 44 = .ok (.if_icmp .ge 7, 3) := by decide +kernel
theorem dX5_reason_47 : decode cX5_reason 47 = .ok (.iconst 3, 1) := by decide +kernel
theorem dX5_reason_48 : decode cX5_reason 48 = .ok (.goto 4, 3) := by decide +kernel
theorem dX5_reason_51 : decode cX5_reason 51 = .ok (.iconst 0, 1) := by decide +kernel
theorem dX5_reason_52 : decode cX5_reason 52 = .ok (.ireturn, 1) := by decide +kernel
theorem dX5_goesAhead_0 : decode cX5_goesAhead 0 = .ok (.aload_n 0, 1) := by decide +kernel
theorem dX5_goesAhead_1 : decode cX5_goesAhead 1 = .ok (.getfield 7, 3) := by decide +kernel
theorem dX5_goesAhead_4 : decode cX5_goesAhead 4 = .ok (.aload_n 0, 1) := by decide +kernel
theorem dX5_goesAhead_5 : decode cX5_goesAhead 5 = .ok (.iload_n 1, 1) := by decide +kernel
theorem dX5_goesAhead_6 : decode cX5_goesAhead 6 = .ok (.iconst 0, 1) := by decide +kernel
theorem dX5_goesAhead_7 : decode cX5_goesAhead 7 = .ok (.invokevirtual 51, 3) := by decide +kernel
theorem dX5_goesAhead_10 : decode cX5_goesAhead 10 = .ok (.iconst 3, 1) := by decide +kernel
theorem dX5_goesAhead_11 : decode cX5_goesAhead 11 = .ok (.iadd, 1) := by decide +kernel
end
section
theorem dX5_goesAhead_12 : decode cX5_goesAhead 12 = .ok (.iaload, 1) := by decide +kernel
theorem dX5_goesAhead_13 : decode cX5_goesAhead 13 = .ok (.istore_n 3, 1) := by decide +kernel
theorem dX5_goesAhead_14 : decode cX5_goesAhead 14 = .ok (.aload_n 0, 1) := by decide +kernel
theorem dX5_goesAhead_15 : decode cX5_goesAhead 15 = .ok (.getfield 7, 3) := by decide +kernel
theorem dX5_goesAhead_18 : decode cX5_goesAhead 18 = .ok (.aload_n 0, 1) := by decide +kernel
theorem dX5_goesAhead_19 : decode cX5_goesAhead 19 = .ok (.iload_n 2, 1) := by decide +kernel
theorem dX5_goesAhead_20 : decode cX5_goesAhead 20 = .ok (.iconst 0, 1) := by decide +kernel
theorem dX5_goesAhead_21 : decode cX5_goesAhead 21 = .ok (.invokevirtual 51, 3) := by decide +kernel
theorem dX5_goesAhead_24 : decode cX5_goesAhead 24 = .ok (.iconst 3, 1) := by decide +kernel
theorem dX5_goesAhead_25 : decode cX5_goesAhead 25 = .ok (.iadd, 1) := by decide +kernel
theorem dX5_goesAhead_26 : decode cX5_goesAhead 26 = .ok (.iaload, 1) := by decide +kernel
theorem dX5_goesAhead_27 : decode cX5_goesAhead 27 = .ok (.istore 4, 2) := by decide +kernel
theorem dX5_goesAhead_29 : decode cX5_goesAhead 29 = .ok (.iload_n 3, 1) := by decide +kernel
theorem dX5_goesAhead_30 : decode cX5_goesAhead 30 = .ok (.iload 4, 2) := by decide +kernel
theorem dX5_goesAhead_32 : decode cX5_goesAhead 32 = .ok (.if_icmp .eq 15, 3) := by decide +kernel
theorem dX5_goesAhead_35 : decode cX5_goesAhead 35 = .ok (.iload_n 3, 1) := by decide +kernel
theorem dX5_goesAhead_36 : decode cX5_goesAhead 36 = .ok (.iload 4, 2) := by decide +kernel
theorem dX5_goesAhead_38 : decode cX5_goesAhead 38 = .ok (.if_icmp .ge 7, 3) := by decide +kernel
theorem dX5_goesAhead_41 : decode cX5_goesAhead 41 = .ok (.iconst 1, 1) := by decide +kernel
theorem dX5_goesAhead_42 : decode cX5_goesAhead 42 = .ok (.goto 4, 3) := by decide +kernel
theorem dX5_goesAhead_45 : decode cX5_goesAhead 45 = .ok (.iconst 0, 1) := by decide +kernel
theorem dX5_goesAhead_46 : decode cX5_goesAhead 46 = .ok (.ireturn, 1) := by decide +kernel
theorem dX5_goesAhead_47 : decode cX5_goesAhead 47 = .ok (.aload_n 0, 1) := by decide +kernel
theorem dX5_goesAhead_48 : decode cX5_goesAhead 48 = .ok (.iload_n 1, 1) := by decide +kernel
theorem dX5_goesAhead_49 : decode cX5_goesAhead 49 = .ok (.invokevirtual 64, 3) := by decide +kernel
theorem dX5_goesAhead_52 : decode cX5_goesAhead 52 = .ok (.aload_n 0, 1) := by decide +kernel
theorem dX5_goesAhead_53 : decode cX5_goesAhead 53 = .ok (.iload_n 2, 1) := by decide +kernel
theorem dX5_goesAhead_54 : decode cX5_goesAhead 54 = .ok (.invokevirtual 64, 3) := by decide +kernel
theorem dX5_goesAhead_57 : decode cX5_goesAhead 57 = .ok (.if_icmp .eq 24, 3) := by decide +kernel
theorem dX5_goesAhead_60 : decode cX5_goesAhead 60 = .ok (.aload_n 0, 1) := by decide +kernel
theorem dX5_goesAhead_61 : decode cX5_goesAhead 61 = .ok (.iload_n 1, 1) := by decide +kernel
theorem dX5_goesAhead_62 : decode cX5_goesAhead 62 = .ok (.invokevirtual 64, 3) := by decide +kernel
theorem dX5_goesAhead_65 : decode cX5_goesAhead 65 = .ok (.aload_n 0, 1) := by decide +kernel
theorem dX5_goesAhead_66 : decode cX5_goesAhead 66 = .ok (.iload_n 2, 1) := by decide +kernel
theorem dX5_goesAhead_67 : decode cX5_goesAhead 67 = .ok (.invokevirtual 64, 3) := by decide +kernel
theorem dX5_goesAhead_70 : decode cX5_goesAhead 70 = .ok (.if_icmp .le 7, 3) := by decide +kernel
theorem dX5_goesAhead_73 : decode cX5_goesAhead 73 = .ok (.iconst 1, 1) := by decide +kernel
theorem dX5_goesAhead_74 : decode cX5_goesAhead 74 = .ok (.goto 17, 3) := by decide +kernel
theorem dX5_goesAhead_77 : decode cX5_goesAhead 77 = .ok (.iconst 0, 1) := by decide +kernel
theorem dX5_goesAhead_78 : decode cX5_goesAhead 78 = .ok (.goto 13, 3) := by decide +kernel
theorem dX5_goesAhead_81 : decode cX5_goesAhead 81 = .ok (.iload_n 1, 1) := by decide +kernel
theorem dX5_goesAhead_82 : decode cX5_goesAhead 82 = .ok (.iload_n 2, 1) := by decide +kernel
theorem dX5_goesAhead_83 : decode cX5_goesAhead 83 = .ok (.if_icmp .ge 7, 3) := by decide +kernel
theorem dX5_goesAhead_86 : decode cX5_goesAhead 86 = .ok (.iconst 1, 1) := by decide +kernel
theorem dX5_goesAhead_87 : decode cX5_goesAhead 87 = .ok (.goto 4, 3) := by decide +kernel
theorem dX5_goesAhead_90 : decode cX5_goesAhead 90 = .ok (.iconst 0, 1) := by decide +kernel
theorem dX5_goesAhead_91 : decode cX5_goesAhead 91 = .ok (.ireturn, 1) := by decide +kernel
theorem dX5_rankOf_0 : decode cX5_rankOf 0 = .ok (.aload_n 0, 1) := by decide +kernel
theorem dX5_rankOf_1 : decode cX5_rankOf 1 = .ok (.iload_n 1, 1) := by decide +kernel
theorem dX5_rankOf_2 : decode cX5_rankOf 2 = .ok (.invokevirtual 67, 3) := by decide +kernel
theorem dX5_rankOf_5 : decode cX5_rankOf 5 = .ok (.ifCond .le 5, 3) := by decide +kernel
theorem dX5_rankOf_8 : decode cX5_rankOf 8 = .ok (.iconst (-1), 1) := by decide +kernel
theorem dX5_rankOf_9 : decode cX5_rankOf 9 = .ok (.ireturn, 1) := by decide +kernel
theorem dX5_rankOf_10 : decode cX5_rankOf 10 = .ok (.iconst 0, 1) := by decide +kernel
theorem dX5_rankOf_11 : decode cX5_rankOf 11 = .ok (.istore_n 2, 1) := by decide +kernel
theorem dX5_rankOf_12 : decode cX5_rankOf 12 = .ok (.iconst 0, 1) := by decide +kernel
theorem dX5_rankOf_13 : decode cX5_rankOf 13 = .ok (.istore_n 3, 1) := by decide +kernel
theorem dX5_rankOf_14 : decode cX5_rankOf 14 = .ok (.iload_n 3, 1) := by decide +kernel
theorem dX5_rankOf_15 : decode cX5_rankOf 15 = .ok (.iconst 5, 1) := by decide +kernel
theorem dX5_rankOf_16 : decode cX5_rankOf 16 = .ok (.if_icmp .ge 39, 3) := by decide +kernel
theorem dX5_rankOf_19 : decode cX5_rankOf 19 = .ok (.iload_n 2, 1) := by decide +kernel
theorem dX5_rankOf_20 : decode cX5_rankOf 20 = .ok (.iload_n 3, 1) := by decide +kernel
theorem dX5_rankOf_21 : decode cX5_rankOf 21 = .ok (.iload_n 1, 1) := by decide +kernel
theorem dX5_rankOf_22 : decode cX5_rankOf 22 = .ok (.if_icmp .eq 24, 3) := by decide +kernel
theorem dX5_rankOf_25 : decode cX5_rankOf 25 = .ok (.aload_n 0, 1) := by decide +kernel
theorem dX5_rankOf_26 : decode cX5_rankOf 26 = .ok (.iload_n 3, 1) := by decide +kernel
theorem dX5_rankOf_27 : decode cX5_rankOf 27 = .ok (.invokevirtual 67, 3) := by decide +kernel
theorem dX5_rankOf_30 : decode cX5_rankOf 30 = .ok (.ifCond .ne 16, 3) := by decide +kernel
theorem dX5_rankOf_33 : decode cX5_rankOf 33 = .ok (.aload_n 0, 1) := by decide +kernel
theorem dX5_rankOf_34 : decode cX5_rankOf 34 = .ok (.iload_n 3, 1) := by decide +kernel
theorem dX5_rankOf_35 : decode cX5_rankOf 35 = .ok (.iload_n 1, 1) := by decide +kernel
theorem dX5_rankOf_36 : decode cX5_rankOf 36 = .ok (.invokevirtual 70, 3) := by decide +kernel
theorem dX5_rankOf_39 : decode cX5_rankOf 39 = .ok (.ifCond .eq 7, 3) := by decide +kernel
theorem dX5_rankOf_42 : decode cX5_rankOf 42 = .ok (.iconst 1, 1) := by decide +kernel
theorem dX5_rankOf_43 : decode cX5_rankOf 43 = .ok (.goto 4, 3) := by decide +kernel
theorem dX5_rankOf_46 : decode cX5_rankOf 46 = .ok (.iconst 0, 1) := by decide +kernel
theorem dX5_rankOf_47 : decode cX5_rankOf 47 = .ok (.iadd, 1) := by decide +kernel
theorem dX5_rankOf_48 : decode cX5_rankOf 48 = .ok (.istore_n 2, 1) := by decide +kernel
theorem dX5_rankOf_49 : decode cX5_rankOf 49 = .ok (.iinc 3 1, 3) := by decide +kernel
theorem dX5_rankOf_52 : decode cX5_rankOf 52 = .ok (.goto (-38), 3) := by decide +kernel
theorem dX5_rankOf_55 : decode cX5_rankOf 55 = .ok (.iload_n 2, 1) := by decide +kernel
theorem dX5_rankOf_56 : decode cX5_rankOf 56 = .ok (.ireturn, 1) := by decide +kernel
theorem dX5_ranked_0 : decode cX5_ranked 0 = .ok (.iconst 0, 1) := by decide +kernel
theorem dX5_ranked_1 : decode cX5_ranked 1 = .ok (.istore_n 2, 1) := by decide +kernel
theorem dX5_ranked_2 : decode cX5_ranked 2 = .ok (.iload_n 2, 1) := by decide +kernel
theorem dX5_ranked_3 : decode cX5_ranked 3 = .ok (.iconst 5, 1) := by decide +kernel
theorem dX5_ranked_4 : decode cX5_ranked 4 = .ok (.if_icmp .ge 20, 3) := by decide +kernel
theorem dX5_ranked_7 : decode cX5_ranked 7 = .ok (.aload_n 0, 1) := by decide +kernel
theorem dX5_ranked_8 : decode cX5_ranked 8 = .ok (.iload_n 2, 1) := by decide +kernel
theorem dX5_ranked_9 : decode cX5_ranked 9 = .ok (.invokevirtual 74, 3) := by decide +kernel
theorem dX5_ranked_12 : decode cX5_ranked 12 = .ok (.iload_n 1, 1) := by decide +kernel
theorem dX5_ranked_13 : decode cX5_ranked 13 = .ok (.if_icmp .ne 5, 3) := by decide +kernel
theorem dX5_ranked_16 : decode cX5_ranked 16 = .ok (.iload_n 2, 1) := by decide +kernel
theorem dX5_ranked_17 : decode cX5_ranked 17 = .ok (.ireturn, 1) := by decide +kernel
theorem dX5_ranked_18 : decode cX5_ranked 18 = .ok (.iinc 2 1, 3) := by decide +kernel
theorem dX5_ranked_21 : decode cX5_ranked 21 = .ok (.goto (-19), 3) := by decide +kernel
theorem dX5_ranked_24 : decode cX5_ranked 24 = .ok (.iconst (-1), 1) := by decide +kernel
theorem dX5_ranked_25 : decode cX5_ranked 25 = .ok (.ireturn, 1) := by decide +kernel
theorem dX5_turn_0 : decode cX5_turn 0 = .ok (.aload_n 0, 1) := by decide +kernel
theorem dX5_turn_1 : decode cX5_turn 1 = .ok (.iload_n 1, 1) := by decide +kernel
theorem dX5_turn_2 : decode cX5_turn 2 = .ok (.invokevirtual 64, 3) := by decide +kernel
theorem dX5_turn_5 : decode cX5_turn 5 = .ok (.aload_n 0, 1) := by decide +kernel
theorem dX5_turn_6 : decode cX5_turn 6 = .ok (.iload_n 1, 1) := by decide +kernel
theorem dX5_turn_7 : decode cX5_turn 7 = .ok (.iconst 5, 1) := by decide +kernel
theorem dX5_turn_8 : decode cX5_turn 8 = .ok (.invokevirtual 47, 3) := by decide +kernel
theorem dX5_turn_11 : decode cX5_turn 11 = .ok (.imul, 1) := by decide +kernel
theorem dX5_turn_12 : decode cX5_turn 12 = .ok (.aload_n 0, 1) := by decide +kernel
theorem dX5_turn_13 : decode cX5_turn 13 = .ok (.iload_n 1, 1) := by decide +kernel
theorem dX5_turn_14 : decode cX5_turn 14 = .ok (.bipush 6, 2) := by decide +kernel
theorem dX5_turn_16 : decode cX5_turn 16 = .ok (.invokevirtual 47, 3) := by decide +kernel
theorem dX5_turn_19 : decode cX5_turn 19 = .ok (.idiv, 1) := by decide +kernel
theorem dX5_turn_20 : decode cX5_turn 20 = .ok (.istore_n 2, 1) := by decide +kernel
theorem dX5_turn_21 : decode cX5_turn 21 = .ok (.aload_n 0, 1) := by decide +kernel
theorem dX5_turn_22 : decode cX5_turn 22 = .ok (.iload_n 1, 1) := by decide +kernel
theorem dX5_turn_23 : decode cX5_turn 23 = .ok (.iconst 1, 1) := by decide +kernel
theorem dX5_turn_24 : decode cX5_turn 24 = .ok (.aload_n 0, 1) := by decide +kernel
theorem dX5_turn_25 : decode cX5_turn 25 = .ok (.getfield 7, 3) := by decide +kernel
theorem dX5_turn_28 : decode cX5_turn 28 = .ok (.bipush 11, 2) := by decide +kernel
theorem dX5_turn_30 : decode cX5_turn 30 = .ok (.iaload, 1) := by decide +kernel
theorem dX5_turn_31 : decode cX5_turn 31 = .ok (.ineg, 1) := by decide +kernel
theorem dX5_turn_32 : decode cX5_turn 32 = .ok (.invokevirtual 57, 3) := by decide +kernel
theorem dX5_turn_35 : decode cX5_turn 35 = .ok (.aload_n 0, 1) := by decide +kernel
theorem dX5_turn_36 : decode cX5_turn 36 = .ok (.iload_n 1, 1) := by decide +kernel
theorem dX5_turn_37 : decode cX5_turn 37 = .ok (.bipush 7, 2) := by decide +kernel
theorem dX5_turn_39 : decode cX5_turn 39 = .ok (.iconst 1, 1) := by decide +kernel
theorem dX5_turn_40 : decode cX5_turn 40 = .ok (.invokevirtual 57, 3) := by decide +kernel
theorem dX5_turn_43 : decode cX5_turn 43 = .ok (.aload_n 0, 1) := by decide +kernel
theorem dX5_turn_44 : decode cX5_turn 44 = .ok (.getfield 7, 3) := by decide +kernel
theorem dX5_turn_47 : decode cX5_turn 47 = .ok (.iconst 4, 1) := by decide +kernel
theorem dX5_turn_48 : decode cX5_turn 48 = .ok (.dup2, 1) := by decide +kernel
theorem dX5_turn_49 : decode cX5_turn 49 = .ok (.iaload, 1) := by decide +kernel
theorem dX5_turn_50 : decode cX5_turn 50 = .ok (.aload_n 0, 1) := by decide +kernel
theorem dX5_turn_51 : decode cX5_turn 51 = .ok (.getfield 7, 3) := by decide +kernel
theorem dX5_turn_54 : decode cX5_turn 54 = .ok (.bipush 11, 2) := by decide +kernel
theorem dX5_turn_56 : decode cX5_turn 56 = .ok (.iaload, 1) := by decide +kernel
theorem dX5_turn_57 : decode cX5_turn 57 = .ok (.iadd, 1) := by decide +kernel
theorem dX5_turn_58 : decode cX5_turn 58 = .ok (.iastore, 1) := by decide +kernel
theorem dX5_turn_59 : decode cX5_turn 59 = .ok (.aload_n 0, 1) := by decide +kernel
theorem dX5_turn_60 : decode cX5_turn 60 = .ok (.iload_n 1, 1) := by decide +kernel
theorem dX5_turn_61 : decode cX5_turn 61 = .ok (.bipush 9, 2) := by decide +kernel
theorem dX5_turn_63 : decode cX5_turn 63 = .ok (.invokevirtual 47, 3) := by decide +kernel
theorem dX5_turn_66 : decode cX5_turn 66 = .ok (.ifCond .le 101, 3) := by decide +kernel
theorem dX5_turn_69 : decode cX5_turn 69 = .ok (.iload_n 2, 1) := by decide +kernel
theorem dX5_turn_70 : decode cX5_turn 70 = .ok (.aload_n 0, 1) := by decide +kernel
theorem dX5_turn_71 : decode cX5_turn 71 = .ok (.getfield 7, 3) := by decide +kernel
theorem dX5_turn_74 : decode cX5_turn 74 = .ok (.aload_n 0, 1) := by decide +kernel
theorem dX5_turn_75 : decode cX5_turn 75 = .ok (.iload_n 1, 1) := by decide +kernel
theorem dX5_turn_76 : decode cX5_turn 76 = .ok (.iconst 0, 1) := by decide +kernel
theorem dX5_turn_77 : decode cX5_turn 77 = .ok (.invokevirtual 51, 3) := by decide +kernel
theorem dX5_turn_80 : decode cX5_turn 80 = .ok (.iconst 2, 1) := by decide +kernel
theorem dX5_turn_81 : decode cX5_turn 81 = .ok (.iadd, 1) := by decide +kernel
theorem dX5_turn_82 : decode cX5_turn 82 = .ok (.iaload, 1) := by decide +kernel
theorem dX5_turn_83 : decode cX5_turn 83 = .ok (.if_icmp .lt 84, 3) := by decide +kernel
theorem dX5_turn_86 : decode cX5_turn 86 = .ok (.iload_n 2, 1) := by decide +kernel
theorem dX5_turn_87 : decode cX5_turn 87 = .ok (.aload_n 0, 1) := by decide +kernel
theorem dX5_turn_88 : decode cX5_turn 88 = .ok (.getfield 7, 3) := by decide +kernel
theorem dX5_turn_91 : decode cX5_turn 91 = .ok (.aload_n 0, 1) := by decide +kernel
theorem dX5_turn_92 : decode cX5_turn 92 = .ok (.iload_n 1, 1) := by decide +kernel
theorem dX5_turn_93 : decode cX5_turn 93 = .ok (.iconst 0, 1) := by decide +kernel
theorem dX5_turn_94 : decode cX5_turn 94 = .ok (.invokevirtual 51, 3) := by decide +kernel
theorem dX5_turn_97 : decode cX5_turn 97 = .ok (.iconst 2, 1) := by decide +kernel
theorem dX5_turn_98 : decode cX5_turn 98 = .ok (.iadd, 1) := by decide +kernel
theorem dX5_turn_99 : decode cX5_turn 99 = .ok (.iaload, 1) := by decide +kernel
theorem dX5_turn_100 : decode cX5_turn 100 = .ok (.isub, 1) := by decide +kernel
theorem dX5_turn_101 : decode cX5_turn 101 = .ok (.istore_n 2, 1) := by decide +kernel
theorem dX5_turn_102 : decode cX5_turn 102 = .ok (.aload_n 0, 1) := by decide +kernel
theorem dX5_turn_103 : decode cX5_turn 103 = .ok (.getfield 7, 3) := by decide +kernel
theorem dX5_turn_106 : decode cX5_turn 106 = .ok (.bipush 6, 2) := by decide +kernel
theorem dX5_turn_108 : decode cX5_turn 108 = .ok (.dup2, 1) := by decide +kernel
theorem dX5_turn_109 : decode cX5_turn 109 = .ok (.iaload, 1) := by decide +kernel
theorem dX5_turn_110 : decode cX5_turn 110 = .ok (.iconst 1, 1) := by decide +kernel
theorem dX5_turn_111 : decode cX5_turn 111 = .ok (.iadd, 1) := by decide +kernel
theorem dX5_turn_112 : decode cX5_turn 112 = .ok (.iastore, 1) := by decide +kernel
theorem dX5_turn_113 : decode cX5_turn 113 = .ok (.aload_n 0, 1) := by decide +kernel
theorem dX5_turn_114 : decode cX5_turn 114 = .ok (.getfield 7, 3) := by decide +kernel
theorem dX5_turn_117 : decode cX5_turn 117 = .ok (.bipush 7, 2) := by decide +kernel
theorem dX5_turn_119 : decode cX5_turn 119 = .ok (.dup2, 1) := by decide +kernel
theorem dX5_turn_120 : decode cX5_turn 120 = .ok (.iaload, 1) := by decide +kernel
theorem dX5_turn_121 : decode cX5_turn 121 = .ok (.aload_n 0, 1) := by decide +kernel
theorem dX5_turn_122 : decode cX5_turn 122 = .ok (.getfield 7, 3) := by decide +kernel
theorem dX5_turn_125 : decode cX5_turn 125 = .ok (.iconst 0, 1) := by decide +kernel
theorem dX5_turn_126 : decode cX5_turn 126 = .ok (.iaload, 1) := by decide +kernel
theorem dX5_turn_127 : decode cX5_turn 127 = .ok (.aload_n 0, 1) := by decide +kernel
theorem dX5_turn_128 : decode cX5_turn 128 = .ok (.getfield 7, 3) := by decide +kernel
theorem dX5_turn_131 : decode cX5_turn 131 = .ok (.aload_n 0, 1) := by decide +kernel
theorem dX5_turn_132 : decode cX5_turn 132 = .ok (.iload_n 1, 1) := by decide +kernel
theorem dX5_turn_133 : decode cX5_turn 133 = .ok (.iconst 0, 1) := by decide +kernel
theorem dX5_turn_134 : decode cX5_turn 134 = .ok (.invokevirtual 51, 3) := by decide +kernel
theorem dX5_turn_137 : decode cX5_turn 137 = .ok (.iconst 3, 1) := by decide +kernel
theorem dX5_turn_138 : decode cX5_turn 138 = .ok (.iadd, 1) := by decide +kernel
theorem dX5_turn_139 : decode cX5_turn 139 = .ok (.iaload, 1) := by decide +kernel
theorem dX5_turn_140 : decode cX5_turn 140 = .ok (.if_icmp .le 7, 3) := by decide +kernel
theorem dX5_turn_143 : decode cX5_turn 143 = .ok (.iconst 1, 1) := by decide +kernel
theorem dX5_turn_144 : decode cX5_turn 144 = .ok (.goto 4, 3) := by decide +kernel
theorem dX5_turn_147 : decode cX5_turn 147 = .ok (.iconst 0, 1) := by decide +kernel
theorem dX5_turn_148 : decode cX5_turn 148 = .ok (.iadd, 1) := by decide +kernel
theorem dX5_turn_149 : decode cX5_turn 149 = .ok (.iastore, 1) := by decide +kernel
theorem dX5_turn_150 : decode cX5_turn 150 = .ok (.aload_n 0, 1) := by decide +kernel
theorem dX5_turn_151 : decode cX5_turn 151 = .ok (.iload_n 1, 1) := by decide +kernel
theorem dX5_turn_152 : decode cX5_turn 152 = .ok (.bipush 8, 2) := by decide +kernel
theorem dX5_turn_154 : decode cX5_turn 154 = .ok (.iconst 1, 1) := by decide +kernel
theorem dX5_turn_155 : decode cX5_turn 155 = .ok (.invokevirtual 57, 3) := by decide +kernel
theorem dX5_turn_158 : decode cX5_turn 158 = .ok (.aload_n 0, 1) := by decide +kernel
theorem dX5_turn_159 : decode cX5_turn 159 = .ok (.iload_n 1, 1) := by decide +kernel
theorem dX5_turn_160 : decode cX5_turn 160 = .ok (.iconst 0, 1) := by decide +kernel
theorem dX5_turn_161 : decode cX5_turn 161 = .ok (.invokevirtual 77, 3) := by decide +kernel
theorem dX5_turn_164 : decode cX5_turn 164 = .ok (.goto (-105), 3) := by decide +kernel
theorem dX5_turn_167 : decode cX5_turn 167 = .ok (.aload_n 0, 1) := by decide +kernel
theorem dX5_turn_168 : decode cX5_turn 168 = .ok (.iload_n 1, 1) := by decide +kernel
theorem dX5_turn_169 : decode cX5_turn 169 = .ok (.bipush 9, 2) := by decide +kernel
theorem dX5_turn_171 : decode cX5_turn 171 = .ok (.invokevirtual 47, 3) := by decide +kernel
theorem dX5_turn_174 : decode cX5_turn 174 = .ok (.ifCond .le 20, 3) := by decide +kernel
theorem dX5_turn_177 : decode cX5_turn 177 = .ok (.aload_n 0, 1) := by decide +kernel
theorem dX5_turn_178 : decode cX5_turn 178 = .ok (.getfield 7, 3) := by decide +kernel
theorem dX5_turn_181 : decode cX5_turn 181 = .ok (.aload_n 0, 1) := by decide +kernel
theorem dX5_turn_182 : decode cX5_turn 182 = .ok (.iload_n 1, 1) := by decide +kernel
theorem dX5_turn_183 : decode cX5_turn 183 = .ok (.iconst 0, 1) := by decide +kernel
theorem dX5_turn_184 : decode cX5_turn 184 = .ok (.invokevirtual 51, 3) := by decide +kernel
theorem dX5_turn_187 : decode cX5_turn 187 = .ok (.iconst 2, 1) := by decide +kernel
theorem dX5_turn_188 : decode cX5_turn 188 = .ok (.iadd, 1) := by decide +kernel
theorem dX5_turn_189 : decode cX5_turn 189 = .ok (.dup2, 1) := by decide +kernel
theorem dX5_turn_190 : decode cX5_turn 190 = .ok (.iaload, 1) := by decide +kernel
theorem dX5_turn_191 : decode cX5_turn 191 = .ok (.iload_n 2, 1) := by decide +kernel
theorem dX5_turn_192 : decode cX5_turn 192 = .ok (.isub, 1) := by decide +kernel
theorem dX5_turn_193 : decode cX5_turn 193 = .ok (.iastore, 1) := by decide +kernel
theorem dX5_turn_194 : decode cX5_turn 194 = .ok (.return_, 1) := by decide +kernel
theorem dX5_hour_0 : decode cX5_hour 0 = .ok (.aload_n 0, 1) := by decide +kernel
theorem dX5_hour_1 : decode cX5_hour 1 = .ok (.getfield 7, 3) := by decide +kernel
theorem dX5_hour_4 : decode cX5_hour 4 = .ok (.iconst 0, 1) := by decide +kernel
theorem dX5_hour_5 : decode cX5_hour 5 = .ok (.dup2, 1) := by decide +kernel
theorem dX5_hour_6 : decode cX5_hour 6 = .ok (.iaload, 1) := by decide +kernel
theorem dX5_hour_7 : decode cX5_hour 7 = .ok (.iconst 1, 1) := by decide +kernel
theorem dX5_hour_8 : decode cX5_hour 8 = .ok (.iadd, 1) := by decide +kernel
theorem dX5_hour_9 : decode cX5_hour 9 = .ok (.iastore, 1) := by decide +kernel
theorem dX5_hour_10 : decode cX5_hour 10 = .ok (.iconst 0, 1) := by decide +kernel
theorem dX5_hour_11 : decode cX5_hour 11 = .ok (.istore_n 1, 1) := by decide +kernel
theorem dX5_hour_12 : decode cX5_hour 12 = .ok (.iload_n 1, 1) := by decide +kernel
theorem dX5_hour_13 : decode cX5_hour 13 = .ok (.iconst 5, 1) := by decide +kernel
theorem dX5_hour_14 : decode cX5_hour 14 = .ok (.if_icmp .ge 14, 3) := by decide +kernel
theorem dX5_hour_17 : decode cX5_hour 17 = .ok (.aload_n 0, 1) := by decide +kernel
theorem dX5_hour_18 : decode cX5_hour 18 = .ok (.iload_n 1, 1) := by decide +kernel
theorem dX5_hour_19 : decode cX5_hour 19 = .ok (.invokevirtual 81, 3) := by decide +kernel
theorem dX5_hour_22 : decode cX5_hour 22 = .ok (.iinc 1 1, 3) := by decide +kernel
theorem dX5_hour_25 : decode cX5_hour 25 = .ok (.goto (-13), 3) := by decide +kernel
theorem dX5_hour_28 : decode cX5_hour 28 = .ok (.aload_n 0, 1) := by decide +kernel
theorem dX5_hour_29 : decode cX5_hour 29 = .ok (.iconst 0, 1) := by decide +kernel
theorem dX5_hour_30 : decode cX5_hour 30 = .ok (.invokevirtual 85, 3) := by decide +kernel
theorem dX5_hour_33 : decode cX5_hour 33 = .ok (.istore_n 1, 1) := by decide +kernel
theorem dX5_hour_34 : decode cX5_hour 34 = .ok (.aload_n 0, 1) := by decide +kernel
theorem dX5_hour_35 : decode cX5_hour 35 = .ok (.getfield 7, 3) := by decide +kernel
theorem dX5_hour_38 : decode cX5_hour 38 = .ok (.iconst 1, 1) := by decide +kernel
theorem dX5_hour_39 : decode cX5_hour 39 = .ok (.iload_n 1, 1) := by decide +kernel
theorem dX5_hour_40 : decode cX5_hour 40 = .ok (.iconst 1, 1) := by decide +kernel
theorem dX5_hour_41 : decode cX5_hour 41 = .ok (.iadd, 1) := by decide +kernel
theorem dX5_hour_42 : decode cX5_hour 42 = .ok (.iastore, 1) := by decide +kernel
theorem dX5_hour_43 : decode cX5_hour 43 = .ok (.iload_n 1, 1) := by decide +kernel
theorem dX5_hour_44 : decode cX5_hour 44 = .ok (.iconst (-1), 1) := by decide +kernel
theorem dX5_hour_45 : decode cX5_hour 45 = .ok (.if_icmp .ne 16, 3) := by decide +kernel
theorem dX5_hour_48 : decode cX5_hour 48 = .ok (.aload_n 0, 1) := by decide +kernel
theorem dX5_hour_49 : decode cX5_hour 49 = .ok (.getfield 7, 3) := by decide +kernel
theorem dX5_hour_52 : decode cX5_hour 52 = .ok (.iconst 2, 1) := by decide +kernel
theorem dX5_hour_53 : decode cX5_hour 53 = .ok (.dup2, 1) := by decide +kernel
theorem dX5_hour_54 : decode cX5_hour 54 = .ok (.iaload, 1) := by decide +kernel
theorem dX5_hour_55 : decode cX5_hour 55 = .ok (.iconst 1, 1) := by decide +kernel
theorem dX5_hour_56 : decode cX5_hour 56 = .ok (.iadd, 1) := by decide +kernel
theorem dX5_hour_57 : decode cX5_hour 57 = .ok (.iastore, 1) := by decide +kernel
theorem dX5_hour_58 : decode cX5_hour 58 = .ok (.goto 8, 3) := by decide +kernel
theorem dX5_hour_61 : decode cX5_hour 61 = .ok (.aload_n 0, 1) := by decide +kernel
theorem dX5_hour_62 : decode cX5_hour 62 = .ok (.iload_n 1, 1) := by decide +kernel
theorem dX5_hour_63 : decode cX5_hour 63 = .ok (.invokevirtual 88, 3) := by decide +kernel
theorem dX5_hour_66 : decode cX5_hour 66 = .ok (.return_, 1) := by decide +kernel
theorem dX5_hours_0 : decode cX5_hours 0 = .ok (.aload_n 0, 1) := by decide +kernel
theorem dX5_hours_1 : decode cX5_hours 1 = .ok (.getfield 7, 3) := by decide +kernel
theorem dX5_hours_4 : decode cX5_hours 4 = .ok (.bipush 6, 2) := by decide +kernel
theorem dX5_hours_6 : decode cX5_hours 6 = .ok (.iaload, 1) := by decide +kernel
theorem dX5_hours_7 : decode cX5_hours 7 = .ok (.istore_n 2, 1) := by decide +kernel
theorem dX5_hours_8 : decode cX5_hours 8 = .ok (.iconst 0, 1) := by decide +kernel
theorem dX5_hours_9 : decode cX5_hours 9 = .ok (.istore_n 3, 1) := by decide +kernel
theorem dX5_hours_10 : decode cX5_hours 10 = .ok (.iload_n 3, 1) := by decide +kernel
theorem dX5_hours_11 : decode cX5_hours 11 = .ok (.iload_n 1, 1) := by decide +kernel
theorem dX5_hours_12 : decode cX5_hours 12 = .ok (.if_icmp .ge 13, 3) := by decide +kernel
theorem dX5_hours_15 : decode cX5_hours 15 = .ok (.aload_n 0, 1) := by decide +kernel
theorem dX5_hours_16 : decode cX5_hours 16 = .ok (.invokevirtual 91, 3) := by decide +kernel
theorem dX5_hours_19 : decode cX5_hours 19 = .ok (.iinc 3 1, 3) := by decide +kernel
theorem dX5_hours_22 : decode cX5_hours 22 = .ok (.goto (-12), 3) := by decide +kernel
theorem dX5_hours_25 : decode cX5_hours 25 = .ok (.aload_n 0, 1) := by decide +kernel
theorem dX5_hours_26 : decode cX5_hours 26 = .ok (.getfield 7, 3) := by decide +kernel
theorem dX5_hours_29 : decode cX5_hours 29 = .ok (.bipush 6, 2) := by decide +kernel
theorem dX5_hours_31 : decode cX5_hours 31 = .ok (.iaload, 1) := by decide +kernel
theorem dX5_hours_32 : decode cX5_hours 32 = .ok (.iload_n 2, 1) := by decide +kernel
theorem dX5_hours_33 : decode cX5_hours 33 = .ok (.isub, 1) := by decide +kernel
theorem dX5_hours_34 : decode cX5_hours 34 = .ok (.ireturn, 1) := by decide +kernel
theorem dX5_pond_0 : decode cX5_pond 0 = .ok (.iload_n 2, 1) := by decide +kernel
theorem dX5_pond_1 : decode cX5_pond 1 = .ok (.bipush 50, 2) := by decide +kernel
theorem dX5_pond_3 : decode cX5_pond 3 = .ok (.sipush 500, 3) := by decide +kernel
theorem dX5_pond_6 : decode cX5_pond 6 = .ok (.invokestatic 36, 3) := by decide +kernel
theorem dX5_pond_9 : decode cX5_pond 9 = .ok (.ifCond .eq 17, 3) := by decide +kernel
theorem dX5_pond_12 : decode cX5_pond 12 = .ok (.iload_n 3, 1) := by decide +kernel
theorem dX5_pond_13 : decode cX5_pond 13 = .ok (.iconst 0, 1) := by decide +kernel
theorem dX5_pond_14 : decode cX5_pond 14 = .ok (.bipush 60, 2) := by decide +kernel
theorem dX5_pond_16 : decode cX5_pond 16 = .ok (.invokestatic 36, 3) := by decide +kernel
theorem dX5_pond_19 : decode cX5_pond 19 = .ok (.ifCond .eq 7, 3) := by decide +kernel
theorem dX5_pond_22 : decode cX5_pond 22 = .ok (.iconst 1, 1) := by decide +kernel
theorem dX5_pond_23 : decode cX5_pond 23 = .ok (.goto 4, 3) := by decide +kernel
theorem dX5_pond_26 : decode cX5_pond 26 = .ok (.iconst 0, 1) := by decide +kernel
theorem dX5_pond_27 : decode cX5_pond 27 = .ok (.istore 4, 2) := by decide +kernel
theorem dX5_pond_29 : decode cX5_pond 29 = .ok (.aload_n 0, 1) := by decide +kernel
theorem dX5_pond_30 : decode cX5_pond 30 = .ok (.iload_n 1, 1) := by decide +kernel
theorem dX5_pond_31 : decode cX5_pond 31 = .ok (.invokestatic 94, 3) := by decide +kernel
theorem dX5_pond_34 : decode cX5_pond 34 = .ok (.ifCond .ne 7, 3) := by decide +kernel
theorem dX5_pond_37 : decode cX5_pond 37 = .ok (.iconst 1, 1) := by decide +kernel
theorem dX5_pond_38 : decode cX5_pond 38 = .ok (.goto 27, 3) := by decide +kernel
theorem dX5_pond_41 : decode cX5_pond 41 = .ok (.iload 4, 2) := by decide +kernel
theorem dX5_pond_43 : decode cX5_pond 43 = .ok (.ifCond .ne 7, 3) := by decide +kernel
theorem dX5_pond_46 : decode cX5_pond 46 = .ok (.iconst 2, 1) := by decide +kernel
theorem dX5_pond_47 : decode cX5_pond 47 = .ok (.goto 18, 3) := by decide +kernel
theorem dX5_pond_50 : decode cX5_pond 50 = .ok (.aload_n 0, 1) := by decide +kernel
theorem dX5_pond_51 : decode cX5_pond 51 = .ok (.iload_n 1, 1) := by decide +kernel
theorem dX5_pond_52 : decode cX5_pond 52 = .ok (.iconst 1, 1) := by decide +kernel
theorem dX5_pond_53 : decode cX5_pond 53 = .ok (.invokevirtual 47, 3) := by decide +kernel
theorem dX5_pond_56 : decode cX5_pond 56 = .ok (.iload_n 2, 1) := by decide +kernel
theorem dX5_pond_57 : decode cX5_pond 57 = .ok (.if_icmp .le 7, 3) := by decide +kernel
theorem dX5_pond_60 : decode cX5_pond 60 = .ok (.iconst 3, 1) := by decide +kernel
theorem dX5_pond_61 : decode cX5_pond 61 = .ok (.goto 4, 3) := by decide +kernel
theorem dX5_pond_64 : decode cX5_pond 64 = .ok (.iconst 0, 1) := by decide +kernel
theorem dX5_pond_65 : decode cX5_pond 65 = .ok (.invokevirtual 98, 3) := by decide +kernel
theorem dX5_pond_68 : decode cX5_pond 68 = .ok (.ifCond .ne 5, 3) := by decide +kernel
theorem dX5_pond_71 : decode cX5_pond 71 = .ok (.iconst 0, 1) := by decide +kernel
theorem dX5_pond_72 : decode cX5_pond 72 = .ok (.ireturn, 1) := by decide +kernel
theorem dX5_pond_73 : decode cX5_pond 73 = .ok (.aload_n 0, 1) := by decide +kernel
theorem dX5_pond_74 : decode cX5_pond 74 = .ok (.invokevirtual 101, 3) := by decide +kernel
theorem dX5_pond_77 : decode cX5_pond 77 = .ok (.aload_n 0, 1) := by decide +kernel
theorem dX5_pond_78 : decode cX5_pond 78 = .ok (.iload_n 1, 1) := by decide +kernel
theorem dX5_pond_79 : decode cX5_pond 79 = .ok (.iconst 0, 1) := by decide +kernel
theorem dX5_pond_80 : decode cX5_pond 80 = .ok (.invokevirtual 47, 3) := by decide +kernel
theorem dX5_pond_83 : decode cX5_pond 83 = .ok (.istore 5, 2) := by decide +kernel
theorem dX5_pond_85 : decode cX5_pond 85 = .ok (.aload_n 0, 1) := by decide +kernel
theorem dX5_pond_86 : decode cX5_pond 86 = .ok (.iload_n 1, 1) := by decide +kernel
theorem dX5_pond_87 : decode cX5_pond 87 = .ok (.iconst 0, 1) := by decide +kernel
theorem dX5_pond_88 : decode cX5_pond 88 = .ok (.iload_n 2, 1) := by decide +kernel
theorem dX5_pond_89 : decode cX5_pond 89 = .ok (.invokevirtual 28, 3) := by decide +kernel
theorem dX5_pond_92 : decode cX5_pond 92 = .ok (.aload_n 0, 1) := by decide +kernel
theorem dX5_pond_93 : decode cX5_pond 93 = .ok (.iload_n 1, 1) := by decide +kernel
theorem dX5_pond_94 : decode cX5_pond 94 = .ok (.iconst 2, 1) := by decide +kernel
theorem dX5_pond_95 : decode cX5_pond 95 = .ok (.iload_n 3, 1) := by decide +kernel
theorem dX5_pond_96 : decode cX5_pond 96 = .ok (.invokevirtual 28, 3) := by decide +kernel
theorem dX5_pond_99 : decode cX5_pond 99 = .ok (.iload 5, 2) := by decide +kernel
theorem dX5_pond_101 : decode cX5_pond 101 = .ok (.ireturn, 1) := by decide +kernel
theorem dX5_gate_0 : decode cX5_gate 0 = .ok (.aload_n 0, 1) := by decide +kernel
theorem dX5_gate_1 : decode cX5_gate 1 = .ok (.iload_n 1, 1) := by decide +kernel
theorem dX5_gate_2 : decode cX5_gate 2 = .ok (.invokestatic 94, 3) := by decide +kernel
theorem dX5_gate_5 : decode cX5_gate 5 = .ok (.ifCond .ne 7, 3) := by decide +kernel
theorem dX5_gate_8 : decode cX5_gate 8 = .ok (.iconst 1, 1) := by decide +kernel
theorem dX5_gate_9 : decode cX5_gate 9 = .ok (.goto 28, 3) := by decide +kernel
theorem dX5_gate_12 : decode cX5_gate 12 = .ok (.iload_n 2, 1) := by decide +kernel
theorem dX5_gate_13 : decode cX5_gate 13 = .ok (.iconst 0, 1) := by decide +kernel
theorem dX5_gate_14 : decode cX5_gate 14 = .ok (.bipush 11, 2) := by decide +kernel
theorem dX5_gate_16 : decode cX5_gate 16 = .ok (.invokestatic 36, 3) := by decide +kernel
theorem dX5_gate_19 : decode cX5_gate 19 = .ok (.ifCond .eq 13, 3) := by decide +kernel
theorem dX5_gate_22 : decode cX5_gate 22 = .ok (.iload_n 3, 1) := by decide +kernel
theorem dX5_gate_23 : decode cX5_gate 23 = .ok (.iload_n 2, 1) := by decide +kernel
theorem dX5_gate_24 : decode cX5_gate 24 = .ok (.bipush 11, 2) := by decide +kernel
theorem dX5_gate_26 : decode cX5_gate 26 = .ok (.invokestatic 36, 3) := by decide +kernel
theorem dX5_gate_29 : decode cX5_gate 29 = .ok (.ifCond .ne 7, 3) := by decide +kernel
theorem dX5_gate_32 : decode cX5_gate 32 = .ok (.iconst 2, 1) := by decide +kernel
theorem dX5_gate_33 : decode cX5_gate 33 = .ok (.goto 4, 3) := by decide +kernel
theorem dX5_gate_36 : decode cX5_gate 36 = .ok (.iconst 0, 1) := by decide +kernel
theorem dX5_gate_37 : decode cX5_gate 37 = .ok (.invokevirtual 98, 3) := by decide +kernel
theorem dX5_gate_40 : decode cX5_gate 40 = .ok (.ifCond .ne 5, 3) := by decide +kernel
theorem dX5_gate_43 : decode cX5_gate 43 = .ok (.iconst 0, 1) := by decide +kernel
theorem dX5_gate_44 : decode cX5_gate 44 = .ok (.ireturn, 1) := by decide +kernel
theorem dX5_gate_45 : decode cX5_gate 45 = .ok (.aload_n 0, 1) := by decide +kernel
theorem dX5_gate_46 : decode cX5_gate 46 = .ok (.invokevirtual 101, 3) := by decide +kernel
theorem dX5_gate_49 : decode cX5_gate 49 = .ok (.aload_n 0, 1) := by decide +kernel
theorem dX5_gate_50 : decode cX5_gate 50 = .ok (.iload_n 1, 1) := by decide +kernel
theorem dX5_gate_51 : decode cX5_gate 51 = .ok (.iconst 4, 1) := by decide +kernel
theorem dX5_gate_52 : decode cX5_gate 52 = .ok (.invokevirtual 47, 3) := by decide +kernel
theorem dX5_gate_55 : decode cX5_gate 55 = .ok (.aload_n 0, 1) := by decide +kernel
theorem dX5_gate_56 : decode cX5_gate 56 = .ok (.iload_n 1, 1) := by decide +kernel
theorem dX5_gate_57 : decode cX5_gate 57 = .ok (.iconst 3, 1) := by decide +kernel
theorem dX5_gate_58 : decode cX5_gate 58 = .ok (.invokevirtual 47, 3) := by decide +kernel
theorem dX5_gate_61 : decode cX5_gate 61 = .ok (.isub, 1) := by decide +kernel
theorem dX5_gate_62 : decode cX5_gate 62 = .ok (.iconst 1, 1) := by decide +kernel
theorem dX5_gate_63 : decode cX5_gate 63 = .ok (.iadd, 1) := by decide +kernel
theorem dX5_gate_64 : decode cX5_gate 64 = .ok (.istore 4, 2) := by decide +kernel
theorem dX5_gate_66 : decode cX5_gate 66 = .ok (.aload_n 0, 1) := by decide +kernel
theorem dX5_gate_67 : decode cX5_gate 67 = .ok (.iload_n 1, 1) := by decide +kernel
theorem dX5_gate_68 : decode cX5_gate 68 = .ok (.iconst 3, 1) := by decide +kernel
theorem dX5_gate_69 : decode cX5_gate 69 = .ok (.iload_n 2, 1) := by decide +kernel
theorem dX5_gate_70 : decode cX5_gate 70 = .ok (.invokevirtual 28, 3) := by decide +kernel
theorem dX5_gate_73 : decode cX5_gate 73 = .ok (.aload_n 0, 1) := by decide +kernel
theorem dX5_gate_74 : decode cX5_gate 74 = .ok (.iload_n 1, 1) := by decide +kernel
theorem dX5_gate_75 : decode cX5_gate 75 = .ok (.iconst 4, 1) := by decide +kernel
theorem dX5_gate_76 : decode cX5_gate 76 = .ok (.iload_n 3, 1) := by decide +kernel
theorem dX5_gate_77 : decode cX5_gate 77 = .ok (.invokevirtual 28, 3) := by decide +kernel
theorem dX5_gate_80 : decode cX5_gate 80 = .ok (.iload 4, 2) := by decide +kernel
theorem dX5_gate_82 : decode cX5_gate 82 = .ok (.ireturn, 1) := by decide +kernel
theorem dX5_gears_0 : decode cX5_gears 0 = .ok (.aload_n 0, 1) := by decide +kernel
theorem dX5_gears_1 : decode cX5_gears 1 = .ok (.iload_n 1, 1) := by decide +kernel
theorem dX5_gears_2 : decode cX5_gears 2 = .ok (.iconst 5, 1) := by decide +kernel
theorem dX5_gears_3 : decode cX5_gears 3 = .ok (.iload_n 2, 1) := by decide +kernel
theorem dX5_gears_4 : decode cX5_gears 4 = .ok (.invokevirtual 28, 3) := by decide +kernel
theorem dX5_gears_7 : decode cX5_gears 7 = .ok (.aload_n 0, 1) := by decide +kernel
theorem dX5_gears_8 : decode cX5_gears 8 = .ok (.iload_n 1, 1) := by decide +kernel
theorem dX5_gears_9 : decode cX5_gears 9 = .ok (.bipush 6, 2) := by decide +kernel
theorem dX5_gears_11 : decode cX5_gears 11 = .ok (.iload_n 3, 1) := by decide +kernel
theorem dX5_gears_12 : decode cX5_gears 12 = .ok (.invokevirtual 28, 3) := by decide +kernel
theorem dX5_gears_15 : decode cX5_gears 15 = .ok (.bipush 100, 2) := by decide +kernel
theorem dX5_gears_17 : decode cX5_gears 17 = .ok (.iload_n 2, 1) := by decide +kernel
theorem dX5_gears_18 : decode cX5_gears 18 = .ok (.imul, 1) := by decide +kernel
theorem dX5_gears_19 : decode cX5_gears 19 = .ok (.iload_n 3, 1) := by decide +kernel
theorem dX5_gears_20 : decode cX5_gears 20 = .ok (.idiv, 1) := by decide +kernel
theorem dX5_gears_21 : decode cX5_gears 21 = .ok (.ireturn, 1) := by decide +kernel
theorem dX5_gear_0 : decode cX5_gear 0 = .ok (.aload_n 0, 1) := by decide +kernel
theorem dX5_gear_1 : decode cX5_gear 1 = .ok (.iload_n 1, 1) := by decide +kernel
theorem dX5_gear_2 : decode cX5_gear 2 = .ok (.invokestatic 94, 3) := by decide +kernel
theorem dX5_gear_5 : decode cX5_gear 5 = .ok (.ifCond .ne 7, 3) := by decide +kernel
theorem dX5_gear_8 : decode cX5_gear 8 = .ok (.iconst 1, 1) := by decide +kernel
theorem dX5_gear_9 : decode cX5_gear 9 = .ok (.goto 30, 3) := by decide +kernel
theorem dX5_gear_12 : decode cX5_gear 12 = .ok (.iload_n 2, 1) := by decide +kernel
theorem dX5_gear_13 : decode cX5_gear 13 = .ok (.bipush 8, 2) := by decide +kernel
theorem dX5_gear_15 : decode cX5_gear 15 = .ok (.bipush 60, 2) := by decide +kernel
theorem dX5_gear_17 : decode cX5_gear 17 = .ok (.invokestatic 36, 3) := by decide +kernel
theorem dX5_gear_20 : decode cX5_gear 20 = .ok (.ifCond .eq 14, 3) := by decide +kernel
theorem dX5_gear_23 : decode cX5_gear 23 = .ok (.iload_n 3, 1) := by decide +kernel
theorem dX5_gear_24 : decode cX5_gear 24 = .ok (.bipush 8, 2) := by decide +kernel
theorem dX5_gear_26 : decode cX5_gear 26 = .ok (.bipush 60, 2) := by decide +kernel
theorem dX5_gear_28 : decode cX5_gear 28 = .ok (.invokestatic 36, 3) := by decide +kernel
theorem dX5_gear_31 : decode cX5_gear 31 = .ok (.ifCond .ne 7, 3) := by decide +kernel
theorem dX5_gear_34 : decode cX5_gear 34 = .ok (.iconst 2, 1) := by decide +kernel
theorem dX5_gear_35 : decode cX5_gear 35 = .ok (.goto 4, 3) := by decide +kernel
theorem dX5_gear_38 : decode cX5_gear 38 = .ok (.iconst 0, 1) := by decide +kernel
theorem dX5_gear_39 : decode cX5_gear 39 = .ok (.invokevirtual 98, 3) := by decide +kernel
theorem dX5_gear_42 : decode cX5_gear 42 = .ok (.ifCond .ne 5, 3) := by decide +kernel
theorem dX5_gear_45 : decode cX5_gear 45 = .ok (.iconst 0, 1) := by decide +kernel
theorem dX5_gear_46 : decode cX5_gear 46 = .ok (.ireturn, 1) := by decide +kernel
theorem dX5_gear_47 : decode cX5_gear 47 = .ok (.aload_n 0, 1) := by decide +kernel
theorem dX5_gear_48 : decode cX5_gear 48 = .ok (.invokevirtual 101, 3) := by decide +kernel
theorem dX5_gear_51 : decode cX5_gear 51 = .ok (.aload_n 0, 1) := by decide +kernel
theorem dX5_gear_52 : decode cX5_gear 52 = .ok (.iload_n 1, 1) := by decide +kernel
theorem dX5_gear_53 : decode cX5_gear 53 = .ok (.iload_n 2, 1) := by decide +kernel
theorem dX5_gear_54 : decode cX5_gear 54 = .ok (.iload_n 3, 1) := by decide +kernel
theorem dX5_gear_55 : decode cX5_gear 55 = .ok (.invokevirtual 104, 3) := by decide +kernel
theorem dX5_gear_58 : decode cX5_gear 58 = .ok (.ireturn, 1) := by decide +kernel
theorem dX5_set_0 : decode cX5_set 0 = .ok (.iload_n 1, 1) := by decide +kernel
theorem dX5_set_1 : decode cX5_set 1 = .ok (.ifCond .ne 13, 3) := by decide +kernel
theorem dX5_set_4 : decode cX5_set 4 = .ok (.iload_n 2, 1) := by decide +kernel
theorem dX5_set_5 : decode cX5_set 5 = .ok (.iconst 1, 1) := by decide +kernel
theorem dX5_set_6 : decode cX5_set 6 = .ok (.bipush 15, 2) := by decide +kernel
theorem dX5_set_8 : decode cX5_set 8 = .ok (.invokestatic 36, 3) := by decide +kernel
theorem dX5_set_11 : decode cX5_set 11 = .ok (.goto 25, 3) := by decide +kernel
theorem dX5_set_14 : decode cX5_set 14 = .ok (.iload_n 1, 1) := by decide +kernel
theorem dX5_set_15 : decode cX5_set 15 = .ok (.iconst 1, 1) := by decide +kernel
theorem dX5_set_16 : decode cX5_set 16 = .ok (.if_icmp .ne 13, 3) := by decide +kernel
theorem dX5_set_19 : decode cX5_set 19 = .ok (.iload_n 2, 1) := by decide +kernel
theorem dX5_set_20 : decode cX5_set 20 = .ok (.iconst 0, 1) := by decide +kernel
theorem dX5_set_21 : decode cX5_set 21 = .ok (.bipush 100, 2) := by decide +kernel
theorem dX5_set_23 : decode cX5_set 23 = .ok (.invokestatic 36, 3) := by decide +kernel
theorem dX5_set_26 : decode cX5_set 26 = .ok (.goto 10, 3) := by decide +kernel
theorem dX5_set_29 : decode cX5_set 29 = .ok (.iload_n 2, 1) := by decide +kernel
theorem dX5_set_30 : decode cX5_set 30 = .ok (.iconst 5, 1) := by decide +kernel
theorem dX5_set_31 : decode cX5_set 31 = .ok (.bipush 100, 2) := by decide +kernel
theorem dX5_set_33 : decode cX5_set 33 = .ok (.invokestatic 36, 3) := by decide +kernel
theorem dX5_set_36 : decode cX5_set 36 = .ok (.istore_n 3, 1) := by decide +kernel
theorem dX5_set_37 : decode cX5_set 37 = .ok (.aload_n 0, 1) := by decide +kernel
theorem dX5_set_38 : decode cX5_set 38 = .ok (.iload_n 1, 1) := by decide +kernel
theorem dX5_set_39 : decode cX5_set 39 = .ok (.iconst 0, 1) := by decide +kernel
theorem dX5_set_40 : decode cX5_set 40 = .ok (.iconst 2, 1) := by decide +kernel
theorem dX5_set_41 : decode cX5_set 41 = .ok (.invokestatic 36, 3) := by decide +kernel
theorem dX5_set_44 : decode cX5_set 44 = .ok (.ifCond .ne 7, 3) := by decide +kernel
theorem dX5_set_47 : decode cX5_set 47 = .ok (.iconst 1, 1) := by decide +kernel
theorem dX5_set_48 : decode cX5_set 48 = .ok (.goto 12, 3) := by decide +kernel
theorem dX5_set_51 : decode cX5_set 51 = .ok (.iload_n 3, 1) := by decide +kernel
theorem dX5_set_52 : decode cX5_set 52 = .ok (.ifCond .ne 7, 3) := by decide +kernel
theorem dX5_set_55 : decode cX5_set 55 = .ok (.iconst 2, 1) := by decide +kernel
theorem dX5_set_56 : decode cX5_set 56 = .ok (.goto 4, 3) := by decide +kernel
theorem dX5_set_59 : decode cX5_set 59 = .ok (.iconst 0, 1) := by decide +kernel
theorem dX5_set_60 : decode cX5_set 60 = .ok (.invokevirtual 98, 3) := by decide +kernel
theorem dX5_set_63 : decode cX5_set 63 = .ok (.ifCond .ne 5, 3) := by decide +kernel
theorem dX5_set_66 : decode cX5_set 66 = .ok (.iconst 0, 1) := by decide +kernel
theorem dX5_set_67 : decode cX5_set 67 = .ok (.ireturn, 1) := by decide +kernel
theorem dX5_set_68 : decode cX5_set 68 = .ok (.aload_n 0, 1) := by decide +kernel
theorem dX5_set_69 : decode cX5_set 69 = .ok (.invokevirtual 101, 3) := by decide +kernel
theorem dX5_set_72 : decode cX5_set 72 = .ok (.aload_n 0, 1) := by decide +kernel
theorem dX5_set_73 : decode cX5_set 73 = .ok (.getfield 7, 3) := by decide +kernel
theorem dX5_set_76 : decode cX5_set 76 = .ok (.bipush 9, 2) := by decide +kernel
theorem dX5_set_78 : decode cX5_set 78 = .ok (.iload_n 1, 1) := by decide +kernel
theorem dX5_set_79 : decode cX5_set 79 = .ok (.iadd, 1) := by decide +kernel
theorem dX5_set_80 : decode cX5_set 80 = .ok (.iaload, 1) := by decide +kernel
theorem dX5_set_81 : decode cX5_set 81 = .ok (.istore 4, 2) := by decide +kernel
theorem dX5_set_83 : decode cX5_set 83 = .ok (.aload_n 0, 1) := by decide +kernel
theorem dX5_set_84 : decode cX5_set 84 = .ok (.getfield 7, 3) := by decide +kernel
theorem dX5_set_87 : decode cX5_set 87 = .ok (.bipush 9, 2) := by decide +kernel
theorem dX5_set_89 : decode cX5_set 89 = .ok (.iload_n 1, 1) := by decide +kernel
theorem dX5_set_90 : decode cX5_set 90 = .ok (.iadd, 1) := by decide +kernel
theorem dX5_set_91 : decode cX5_set 91 = .ok (.iload_n 2, 1) := by decide +kernel
theorem dX5_set_92 : decode cX5_set 92 = .ok (.iastore, 1) := by decide +kernel
theorem dX5_set_93 : decode cX5_set 93 = .ok (.iload 4, 2) := by decide +kernel
theorem dX5_set_95 : decode cX5_set 95 = .ok (.ireturn, 1) := by decide +kernel
theorem dX5_pass_0 : decode cX5_pass 0 = .ok (.aload_n 0, 1) := by decide +kernel
theorem dX5_pass_1 : decode cX5_pass 1 = .ok (.iload_n 1, 1) := by decide +kernel
theorem dX5_pass_2 : decode cX5_pass 2 = .ok (.iconst 1, 1) := by decide +kernel
theorem dX5_pass_3 : decode cX5_pass 3 = .ok (.bipush 48, 2) := by decide +kernel
theorem dX5_pass_5 : decode cX5_pass 5 = .ok (.invokestatic 36, 3) := by decide +kernel
theorem dX5_pass_8 : decode cX5_pass 8 = .ok (.ifCond .eq 7, 3) := by decide +kernel
theorem dX5_pass_11 : decode cX5_pass 11 = .ok (.iconst 0, 1) := by decide +kernel
theorem dX5_pass_12 : decode cX5_pass 12 = .ok (.goto 4, 3) := by decide +kernel
theorem dX5_pass_15 : decode cX5_pass 15 = .ok (.iconst 1, 1) := by decide +kernel
theorem dX5_pass_16 : decode cX5_pass 16 = .ok (.invokevirtual 98, 3) := by decide +kernel
theorem dX5_pass_19 : decode cX5_pass 19 = .ok (.ifCond .ne 5, 3) := by decide +kernel
theorem dX5_pass_22 : decode cX5_pass 22 = .ok (.iconst 0, 1) := by decide +kernel
theorem dX5_pass_23 : decode cX5_pass 23 = .ok (.ireturn, 1) := by decide +kernel
theorem dX5_pass_24 : decode cX5_pass 24 = .ok (.aload_n 0, 1) := by decide +kernel
theorem dX5_pass_25 : decode cX5_pass 25 = .ok (.invokevirtual 101, 3) := by decide +kernel
theorem dX5_pass_28 : decode cX5_pass 28 = .ok (.aload_n 0, 1) := by decide +kernel
theorem dX5_pass_29 : decode cX5_pass 29 = .ok (.iload_n 1, 1) := by decide +kernel
theorem dX5_pass_30 : decode cX5_pass 30 = .ok (.invokevirtual 108, 3) := by decide +kernel
theorem dX5_pass_33 : decode cX5_pass 33 = .ok (.ireturn, 1) := by decide +kernel
theorem dX5_hasRoom_0 : decode cX5_hasRoom 0 = .ok (.aload_n 0, 1) := by decide +kernel
theorem dX5_hasRoom_1 : decode cX5_hasRoom 1 = .ok (.iload_n 1, 1) := by decide +kernel
theorem dX5_hasRoom_2 : decode cX5_hasRoom 2 = .ok (.bipush 9, 2) := by decide +kernel
theorem dX5_hasRoom_4 : decode cX5_hasRoom 4 = .ok (.invokevirtual 47, 3) := by decide +kernel
theorem dX5_hasRoom_7 : decode cX5_hasRoom 7 = .ok (.bipush 6, 2) := by decide +kernel
theorem dX5_hasRoom_9 : decode cX5_hasRoom 9 = .ok (.if_icmp .ge 19, 3) := by decide +kernel
theorem dX5_hasRoom_12 : decode cX5_hasRoom 12 = .ok (.aload_n 0, 1) := by decide +kernel
theorem dX5_hasRoom_13 : decode cX5_hasRoom 13 = .ok (.getfield 7, 3) := by decide +kernel
theorem dX5_hasRoom_16 : decode cX5_hasRoom 16 = .ok (.iconst 5, 1) := by decide +kernel
theorem dX5_hasRoom_17 : decode cX5_hasRoom 17 = .ok (.iaload, 1) := by decide +kernel
theorem dX5_hasRoom_18 : decode cX5_hasRoom 18 = .ok (.sipush 999, 3) := by decide +kernel
theorem dX5_hasRoom_21 : decode cX5_hasRoom 21 = .ok (.if_icmp .ge 7, 3) := by decide +kernel
theorem dX5_hasRoom_24 : decode cX5_hasRoom 24 = .ok (.iconst 1, 1) := by decide +kernel
theorem dX5_hasRoom_25 : decode cX5_hasRoom 25 = .ok (.goto 4, 3) := by decide +kernel
theorem dX5_hasRoom_28 : decode cX5_hasRoom 28 = .ok (.iconst 0, 1) := by decide +kernel
theorem dX5_hasRoom_29 : decode cX5_hasRoom 29 = .ok (.ireturn, 1) := by decide +kernel
theorem dX5_come_0 : decode cX5_come 0 = .ok (.aload_n 0, 1) := by decide +kernel
theorem dX5_come_1 : decode cX5_come 1 = .ok (.iload_n 1, 1) := by decide +kernel
theorem dX5_come_2 : decode cX5_come 2 = .ok (.aload_n 0, 1) := by decide +kernel
theorem dX5_come_3 : decode cX5_come 3 = .ok (.getfield 7, 3) := by decide +kernel
theorem dX5_come_6 : decode cX5_come 6 = .ok (.iconst 5, 1) := by decide +kernel
theorem dX5_come_7 : decode cX5_come 7 = .ok (.iaload, 1) := by decide +kernel
theorem dX5_come_8 : decode cX5_come 8 = .ok (.iload_n 2, 1) := by decide +kernel
theorem dX5_come_9 : decode cX5_come 9 = .ok (.iload_n 2, 1) := by decide +kernel
theorem dX5_come_10 : decode cX5_come 10 = .ok (.iload_n 3, 1) := by decide +kernel
theorem dX5_come_11 : decode cX5_come 11 = .ok (.invokevirtual 111, 3) := by decide +kernel
theorem dX5_come_14 : decode cX5_come 14 = .ok (.istore 4, 2) := by decide +kernel
theorem dX5_come_16 : decode cX5_come 16 = .ok (.aload_n 0, 1) := by decide +kernel
theorem dX5_come_17 : decode cX5_come 17 = .ok (.getfield 7, 3) := by decide +kernel
theorem dX5_come_20 : decode cX5_come 20 = .ok (.iconst 5, 1) := by decide +kernel
theorem dX5_come_21 : decode cX5_come 21 = .ok (.dup2, 1) := by decide +kernel
theorem dX5_come_22 : decode cX5_come 22 = .ok (.iaload, 1) := by decide +kernel
theorem dX5_come_23 : decode cX5_come 23 = .ok (.iload 4, 2) := by decide +kernel
theorem dX5_come_25 : decode cX5_come 25 = .ok (.ifCond .ge 7, 3) := by decide +kernel
theorem dX5_come_28 : decode cX5_come 28 = .ok (.iconst 0, 1) := by decide +kernel
theorem dX5_come_29 : decode cX5_come 29 = .ok (.goto 4, 3) := by decide +kernel
theorem dX5_come_32 : decode cX5_come 32 = .ok (.iconst 1, 1) := by decide +kernel
theorem dX5_come_33 : decode cX5_come 33 = .ok (.iadd, 1) := by decide +kernel
theorem dX5_come_34 : decode cX5_come 34 = .ok (.iastore, 1) := by decide +kernel
theorem dX5_come_35 : decode cX5_come 35 = .ok (.aload_n 0, 1) := by decide +kernel
theorem dX5_come_36 : decode cX5_come 36 = .ok (.getfield 7, 3) := by decide +kernel
theorem dX5_come_39 : decode cX5_come 39 = .ok (.iconst 5, 1) := by decide +kernel
theorem dX5_come_40 : decode cX5_come 40 = .ok (.iaload, 1) := by decide +kernel
theorem dX5_come_41 : decode cX5_come 41 = .ok (.iconst 1, 1) := by decide +kernel
theorem dX5_come_42 : decode cX5_come 42 = .ok (.isub, 1) := by decide +kernel
theorem dX5_come_43 : decode cX5_come 43 = .ok (.ireturn, 1) := by decide +kernel
theorem dX5_sack_0 : decode cX5_sack 0 = .ok (.iload_n 2, 1) := by decide +kernel
theorem dX5_sack_1 : decode cX5_sack 1 = .ok (.iconst 1, 1) := by decide +kernel
theorem dX5_sack_2 : decode cX5_sack 2 = .ok (.sipush 999, 3) := by decide +kernel
theorem dX5_sack_5 : decode cX5_sack 5 = .ok (.invokestatic 36, 3) := by decide +kernel
theorem dX5_sack_8 : decode cX5_sack 8 = .ok (.ifCond .eq 18, 3) := by decide +kernel
theorem dX5_sack_11 : decode cX5_sack 11 = .ok (.iload_n 3, 1) := by decide +kernel
theorem dX5_sack_12 : decode cX5_sack 12 = .ok (.iconst 1, 1) := by decide +kernel
theorem dX5_sack_13 : decode cX5_sack 13 = .ok (.sipush 9999, 3) := by decide +kernel
theorem dX5_sack_16 : decode cX5_sack 16 = .ok (.invokestatic 36, 3) := by decide +kernel
theorem dX5_sack_19 : decode cX5_sack 19 = .ok (.ifCond .eq 7, 3) := by decide +kernel
theorem dX5_sack_22 : decode cX5_sack 22 = .ok (.iconst 1, 1) := by decide +kernel
theorem dX5_sack_23 : decode cX5_sack 23 = .ok (.goto 4, 3) := by decide +kernel
theorem dX5_sack_26 : decode cX5_sack 26 = .ok (.iconst 0, 1) := by decide +kernel
theorem dX5_sack_27 : decode cX5_sack 27 = .ok (.istore 4, 2) := by decide +kernel
theorem dX5_sack_29 : decode cX5_sack 29 = .ok (.aload_n 0, 1) := by decide +kernel
theorem dX5_sack_30 : decode cX5_sack 30 = .ok (.iload_n 1, 1) := by decide +kernel
theorem dX5_sack_31 : decode cX5_sack 31 = .ok (.invokestatic 94, 3) := by decide +kernel
theorem dX5_sack_34 : decode cX5_sack 34 = .ok (.ifCond .ne 7, 3) := by decide +kernel
theorem dX5_sack_37 : decode cX5_sack 37 = .ok (.iconst 1, 1) := by decide +kernel
theorem dX5_sack_38 : decode cX5_sack 38 = .ok (.goto 25, 3) := by decide +kernel
theorem dX5_sack_41 : decode cX5_sack 41 = .ok (.iload 4, 2) := by decide +kernel
theorem dX5_sack_43 : decode cX5_sack 43 = .ok (.ifCond .ne 7, 3) := by decide +kernel
theorem dX5_sack_46 : decode cX5_sack 46 = .ok (.iconst 2, 1) := by decide +kernel
theorem dX5_sack_47 : decode cX5_sack 47 = .ok (.goto 16, 3) := by decide +kernel
theorem dX5_sack_50 : decode cX5_sack 50 = .ok (.aload_n 0, 1) := by decide +kernel
theorem dX5_sack_51 : decode cX5_sack 51 = .ok (.iload_n 1, 1) := by decide +kernel
theorem dX5_sack_52 : decode cX5_sack 52 = .ok (.invokevirtual 115, 3) := by decide +kernel
theorem dX5_sack_55 : decode cX5_sack 55 = .ok (.ifCond .eq 7, 3) := by decide +kernel
theorem dX5_sack_58 : decode cX5_sack 58 = .ok (.iconst 0, 1) := by decide +kernel
theorem dX5_sack_59 : decode cX5_sack 59 = .ok (.goto 4, 3) := by decide +kernel
theorem dX5_sack_62 : decode cX5_sack 62 = .ok (.iconst 3, 1) := by decide +kernel
theorem dX5_sack_63 : decode cX5_sack 63 = .ok (.invokevirtual 98, 3) := by decide +kernel
theorem dX5_sack_66 : decode cX5_sack 66 = .ok (.ifCond .ne 5, 3) := by decide +kernel
theorem dX5_sack_69 : decode cX5_sack 69 = .ok (.iconst 0, 1) := by decide +kernel
theorem dX5_sack_70 : decode cX5_sack 70 = .ok (.ireturn, 1) := by decide +kernel
theorem dX5_sack_71 : decode cX5_sack 71 = .ok (.aload_n 0, 1) := by decide +kernel
theorem dX5_sack_72 : decode cX5_sack 72 = .ok (.invokevirtual 101, 3) := by decide +kernel
theorem dX5_sack_75 : decode cX5_sack 75 = .ok (.aload_n 0, 1) := by decide +kernel
theorem dX5_sack_76 : decode cX5_sack 76 = .ok (.iload_n 1, 1) := by decide +kernel
theorem dX5_sack_77 : decode cX5_sack 77 = .ok (.iload_n 2, 1) := by decide +kernel
theorem dX5_sack_78 : decode cX5_sack 78 = .ok (.iload_n 3, 1) := by decide +kernel
theorem dX5_sack_79 : decode cX5_sack 79 = .ok (.invokevirtual 118, 3) := by decide +kernel
theorem dX5_sack_82 : decode cX5_sack 82 = .ok (.ireturn, 1) := by decide +kernel
theorem dX5_carry_0 : decode cX5_carry 0 = .ok (.iload_n 2, 1) := by decide +kernel
theorem dX5_carry_1 : decode cX5_carry 1 = .ok (.invokestatic 94, 3) := by decide +kernel
theorem dX5_carry_4 : decode cX5_carry 4 = .ok (.ifCond .eq 11, 3) := by decide +kernel
theorem dX5_carry_7 : decode cX5_carry 7 = .ok (.aload_n 0, 1) := by decide +kernel
theorem dX5_carry_8 : decode cX5_carry 8 = .ok (.iload_n 1, 1) := by decide +kernel
theorem dX5_carry_9 : decode cX5_carry 9 = .ok (.invokevirtual 121, 3) := by decide +kernel
theorem dX5_carry_12 : decode cX5_carry 12 = .ok (.goto 4, 3) := by decide +kernel
theorem dX5_carry_15 : decode cX5_carry 15 = .ok (.iconst (-1), 1) := by decide +kernel
theorem dX5_carry_16 : decode cX5_carry 16 = .ok (.istore_n 3, 1) := by decide +kernel
theorem dX5_carry_17 : decode cX5_carry 17 = .ok (.aload_n 0, 1) := by decide +kernel
theorem dX5_carry_18 : decode cX5_carry 18 = .ok (.iload_n 2, 1) := by decide +kernel
theorem dX5_carry_19 : decode cX5_carry 19 = .ok (.invokestatic 94, 3) := by decide +kernel
theorem dX5_carry_22 : decode cX5_carry 22 = .ok (.ifCond .ne 7, 3) := by decide +kernel
theorem dX5_carry_25 : decode cX5_carry 25 = .ok (.iconst 1, 1) := by decide +kernel
theorem dX5_carry_26 : decode cX5_carry 26 = .ok (.goto 33, 3) := by decide +kernel
theorem dX5_carry_29 : decode cX5_carry 29 = .ok (.iload_n 3, 1) := by decide +kernel
theorem dX5_carry_30 : decode cX5_carry 30 = .ok (.iconst (-1), 1) := by decide +kernel
theorem dX5_carry_31 : decode cX5_carry 31 = .ok (.if_icmp .eq 23, 3) := by decide +kernel
theorem dX5_carry_34 : decode cX5_carry 34 = .ok (.iload_n 3, 1) := by decide +kernel
theorem dX5_carry_35 : decode cX5_carry 35 = .ok (.bipush 6, 2) := by decide +kernel
theorem dX5_carry_37 : decode cX5_carry 37 = .ok (.idiv, 1) := by decide +kernel
theorem dX5_carry_38 : decode cX5_carry 38 = .ok (.iload_n 2, 1) := by decide +kernel
theorem dX5_carry_39 : decode cX5_carry 39 = .ok (.if_icmp .eq 15, 3) := by decide +kernel
theorem dX5_carry_42 : decode cX5_carry 42 = .ok (.aload_n 0, 1) := by decide +kernel
theorem dX5_carry_43 : decode cX5_carry 43 = .ok (.iload_n 2, 1) := by decide +kernel
theorem dX5_carry_44 : decode cX5_carry 44 = .ok (.bipush 9, 2) := by decide +kernel
theorem dX5_carry_46 : decode cX5_carry 46 = .ok (.invokevirtual 47, 3) := by decide +kernel
theorem dX5_carry_49 : decode cX5_carry 49 = .ok (.bipush 6, 2) := by decide +kernel
theorem dX5_carry_51 : decode cX5_carry 51 = .ok (.if_icmp .ne 7, 3) := by decide +kernel
theorem dX5_carry_54 : decode cX5_carry 54 = .ok (.iconst 2, 1) := by decide +kernel
theorem dX5_carry_55 : decode cX5_carry 55 = .ok (.goto 4, 3) := by decide +kernel
theorem dX5_carry_58 : decode cX5_carry 58 = .ok (.iconst 0, 1) := by decide +kernel
theorem dX5_carry_59 : decode cX5_carry 59 = .ok (.invokevirtual 98, 3) := by decide +kernel
theorem dX5_carry_62 : decode cX5_carry 62 = .ok (.ifCond .ne 5, 3) := by decide +kernel
theorem dX5_carry_65 : decode cX5_carry 65 = .ok (.iconst 0, 1) := by decide +kernel
theorem dX5_carry_66 : decode cX5_carry 66 = .ok (.ireturn, 1) := by decide +kernel
theorem dX5_carry_67 : decode cX5_carry 67 = .ok (.aload_n 0, 1) := by decide +kernel
theorem dX5_carry_68 : decode cX5_carry 68 = .ok (.invokevirtual 101, 3) := by decide +kernel
theorem dX5_carry_71 : decode cX5_carry 71 = .ok (.aload_n 0, 1) := by decide +kernel
theorem dX5_carry_72 : decode cX5_carry 72 = .ok (.iload_n 3, 1) := by decide +kernel
theorem dX5_carry_73 : decode cX5_carry 73 = .ok (.bipush 6, 2) := by decide +kernel
theorem dX5_carry_75 : decode cX5_carry 75 = .ok (.idiv, 1) := by decide +kernel
theorem dX5_carry_76 : decode cX5_carry 76 = .ok (.iload_n 3, 1) := by decide +kernel
theorem dX5_carry_77 : decode cX5_carry 77 = .ok (.bipush 6, 2) := by decide +kernel
theorem dX5_carry_79 : decode cX5_carry 79 = .ok (.irem, 1) := by decide +kernel
theorem dX5_carry_80 : decode cX5_carry 80 = .ok (.invokevirtual 51, 3) := by decide +kernel
theorem dX5_carry_83 : decode cX5_carry 83 = .ok (.istore 4, 2) := by decide +kernel
theorem dX5_carry_85 : decode cX5_carry 85 = .ok (.aload_n 0, 1) := by decide +kernel
theorem dX5_carry_86 : decode cX5_carry 86 = .ok (.getfield 7, 3) := by decide +kernel
theorem dX5_carry_89 : decode cX5_carry 89 = .ok (.iload 4, 2) := by decide +kernel
theorem dX5_carry_91 : decode cX5_carry 91 = .ok (.iconst 1, 1) := by decide +kernel
theorem dX5_carry_92 : decode cX5_carry 92 = .ok (.iadd, 1) := by decide +kernel
theorem dX5_carry_93 : decode cX5_carry 93 = .ok (.iaload, 1) := by decide +kernel
theorem dX5_carry_94 : decode cX5_carry 94 = .ok (.istore 5, 2) := by decide +kernel
theorem dX5_carry_96 : decode cX5_carry 96 = .ok (.aload_n 0, 1) := by decide +kernel
theorem dX5_carry_97 : decode cX5_carry 97 = .ok (.getfield 7, 3) := by decide +kernel
theorem dX5_carry_100 : decode cX5_carry 100 = .ok (.iload 4, 2) := by decide +kernel
theorem dX5_carry_102 : decode cX5_carry 102 = .ok (.iconst 2, 1) := by decide +kernel
theorem dX5_carry_103 : decode cX5_carry 103 = .ok (.iadd, 1) := by decide +kernel
theorem dX5_carry_104 : decode cX5_carry 104 = .ok (.iaload, 1) := by decide +kernel
theorem dX5_carry_105 : decode cX5_carry 105 = .ok (.istore 6, 2) := by decide +kernel
theorem dX5_carry_107 : decode cX5_carry 107 = .ok (.aload_n 0, 1) := by decide +kernel
theorem dX5_carry_108 : decode cX5_carry 108 = .ok (.getfield 7, 3) := by decide +kernel
theorem dX5_carry_111 : decode cX5_carry 111 = .ok (.iload 4, 2) := by decide +kernel
theorem dX5_carry_113 : decode cX5_carry 113 = .ok (.iconst 3, 1) := by decide +kernel
theorem dX5_carry_114 : decode cX5_carry 114 = .ok (.iadd, 1) := by decide +kernel
theorem dX5_carry_115 : decode cX5_carry 115 = .ok (.iaload, 1) := by decide +kernel
theorem dX5_carry_116 : decode cX5_carry 116 = .ok (.istore 7, 2) := by decide +kernel
theorem dX5_carry_118 : decode cX5_carry 118 = .ok (.aload_n 0, 1) := by decide +kernel
theorem dX5_carry_119 : decode cX5_carry 119 = .ok (.iload_n 3, 1) := by decide +kernel
theorem dX5_carry_120 : decode cX5_carry 120 = .ok (.bipush 6, 2) := by decide +kernel
theorem dX5_carry_122 : decode cX5_carry 122 = .ok (.idiv, 1) := by decide +kernel
theorem dX5_carry_123 : decode cX5_carry 123 = .ok (.iload_n 3, 1) := by decide +kernel
theorem dX5_carry_124 : decode cX5_carry 124 = .ok (.bipush 6, 2) := by decide +kernel
theorem dX5_carry_126 : decode cX5_carry 126 = .ok (.irem, 1) := by decide +kernel
theorem dX5_carry_127 : decode cX5_carry 127 = .ok (.invokevirtual 77, 3) := by decide +kernel
theorem dX5_carry_130 : decode cX5_carry 130 = .ok (.aload_n 0, 1) := by decide +kernel
theorem dX5_carry_131 : decode cX5_carry 131 = .ok (.iload_n 2, 1) := by decide +kernel
theorem dX5_carry_132 : decode cX5_carry 132 = .ok (.iload_n 1, 1) := by decide +kernel
theorem dX5_carry_133 : decode cX5_carry 133 = .ok (.iload 5, 2) := by decide +kernel
theorem dX5_carry_135 : decode cX5_carry 135 = .ok (.iload 6, 2) := by decide +kernel
theorem dX5_carry_137 : decode cX5_carry 137 = .ok (.iload 7, 2) := by decide +kernel
theorem dX5_carry_139 : decode cX5_carry 139 = .ok (.invokevirtual 111, 3) := by decide +kernel
theorem dX5_carry_142 : decode cX5_carry 142 = .ok (.ireturn, 1) := by decide +kernel
theorem dX5_back_0 : decode cX5_back 0 = .ok (.aload_n 0, 1) := by decide +kernel
theorem dX5_back_1 : decode cX5_back 1 = .ok (.iload_n 1, 1) := by decide +kernel
theorem dX5_back_2 : decode cX5_back 2 = .ok (.invokevirtual 121, 3) := by decide +kernel
theorem dX5_back_5 : decode cX5_back 5 = .ok (.istore_n 2, 1) := by decide +kernel
theorem dX5_back_6 : decode cX5_back 6 = .ok (.aload_n 0, 1) := by decide +kernel
theorem dX5_back_7 : decode cX5_back 7 = .ok (.iload_n 2, 1) := by decide +kernel
theorem dX5_back_8 : decode cX5_back 8 = .ok (.iconst (-1), 1) := by decide +kernel
theorem dX5_back_9 : decode cX5_back 9 = .ok (.if_icmp .ne 7, 3) := by decide +kernel
theorem dX5_back_12 : decode cX5_back 12 = .ok (.iconst 1, 1) := by decide +kernel
theorem dX5_back_13 : decode cX5_back 13 = .ok (.goto 4, 3) := by decide +kernel
theorem dX5_back_16 : decode cX5_back 16 = .ok (.iconst 0, 1) := by decide +kernel
theorem dX5_back_17 : decode cX5_back 17 = .ok (.invokevirtual 98, 3) := by decide +kernel
theorem dX5_back_20 : decode cX5_back 20 = .ok (.ifCond .ne 5, 3) := by decide +kernel
theorem dX5_back_23 : decode cX5_back 23 = .ok (.iconst 0, 1) := by decide +kernel
theorem dX5_back_24 : decode cX5_back 24 = .ok (.ireturn, 1) := by decide +kernel
theorem dX5_back_25 : decode cX5_back 25 = .ok (.aload_n 0, 1) := by decide +kernel
theorem dX5_back_26 : decode cX5_back 26 = .ok (.invokevirtual 101, 3) := by decide +kernel
theorem dX5_back_29 : decode cX5_back 29 = .ok (.aload_n 0, 1) := by decide +kernel
theorem dX5_back_30 : decode cX5_back 30 = .ok (.getfield 7, 3) := by decide +kernel
theorem dX5_back_33 : decode cX5_back 33 = .ok (.aload_n 0, 1) := by decide +kernel
theorem dX5_back_34 : decode cX5_back 34 = .ok (.iload_n 2, 1) := by decide +kernel
theorem dX5_back_35 : decode cX5_back 35 = .ok (.bipush 6, 2) := by decide +kernel
theorem dX5_back_37 : decode cX5_back 37 = .ok (.idiv, 1) := by decide +kernel
theorem dX5_back_38 : decode cX5_back 38 = .ok (.iload_n 2, 1) := by decide +kernel
theorem dX5_back_39 : decode cX5_back 39 = .ok (.bipush 6, 2) := by decide +kernel
theorem dX5_back_41 : decode cX5_back 41 = .ok (.irem, 1) := by decide +kernel
theorem dX5_back_42 : decode cX5_back 42 = .ok (.invokevirtual 51, 3) := by decide +kernel
theorem dX5_back_45 : decode cX5_back 45 = .ok (.iconst 2, 1) := by decide +kernel
theorem dX5_back_46 : decode cX5_back 46 = .ok (.iadd, 1) := by decide +kernel
theorem dX5_back_47 : decode cX5_back 47 = .ok (.iaload, 1) := by decide +kernel
theorem dX5_back_48 : decode cX5_back 48 = .ok (.istore_n 3, 1) := by decide +kernel
theorem dX5_back_49 : decode cX5_back 49 = .ok (.aload_n 0, 1) := by decide +kernel
theorem dX5_back_50 : decode cX5_back 50 = .ok (.iload_n 2, 1) := by decide +kernel
theorem dX5_back_51 : decode cX5_back 51 = .ok (.bipush 6, 2) := by decide +kernel
theorem dX5_back_53 : decode cX5_back 53 = .ok (.idiv, 1) := by decide +kernel
theorem dX5_back_54 : decode cX5_back 54 = .ok (.iload_n 2, 1) := by decide +kernel
theorem dX5_back_55 : decode cX5_back 55 = .ok (.bipush 6, 2) := by decide +kernel
theorem dX5_back_57 : decode cX5_back 57 = .ok (.irem, 1) := by decide +kernel
theorem dX5_back_58 : decode cX5_back 58 = .ok (.invokevirtual 77, 3) := by decide +kernel
theorem dX5_back_61 : decode cX5_back 61 = .ok (.aload_n 0, 1) := by decide +kernel
theorem dX5_back_62 : decode cX5_back 62 = .ok (.getfield 7, 3) := by decide +kernel
theorem dX5_back_65 : decode cX5_back 65 = .ok (.bipush 8, 2) := by decide +kernel
theorem dX5_back_67 : decode cX5_back 67 = .ok (.dup2, 1) := by decide +kernel
theorem dX5_back_68 : decode cX5_back 68 = .ok (.iaload, 1) := by decide +kernel
theorem dX5_back_69 : decode cX5_back 69 = .ok (.iconst 1, 1) := by decide +kernel
theorem dX5_back_70 : decode cX5_back 70 = .ok (.iadd, 1) := by decide +kernel
theorem dX5_back_71 : decode cX5_back 71 = .ok (.iastore, 1) := by decide +kernel
theorem dX5_back_72 : decode cX5_back 72 = .ok (.iload_n 3, 1) := by decide +kernel
theorem dX5_back_73 : decode cX5_back 73 = .ok (.ireturn, 1) := by decide +kernel
theorem dX5_append_0 : decode cX5_append 0 = .ok (.aload_n 0, 1) := by decide +kernel
theorem dX5_append_1 : decode cX5_append 1 = .ok (.iload_n 1, 1) := by decide +kernel
theorem dX5_append_2 : decode cX5_append 2 = .ok (.bipush 33, 2) := by decide +kernel
theorem dX5_append_4 : decode cX5_append 4 = .ok (.bipush 126, 2) := by decide +kernel
theorem dX5_append_6 : decode cX5_append 6 = .ok (.invokestatic 36, 3) := by decide +kernel
theorem dX5_append_9 : decode cX5_append 9 = .ok (.ifCond .ne 7, 3) := by decide +kernel
theorem dX5_append_12 : decode cX5_append 12 = .ok (.iconst 1, 1) := by decide +kernel
theorem dX5_append_13 : decode cX5_append 13 = .ok (.goto 17, 3) := by decide +kernel
theorem dX5_append_16 : decode cX5_append 16 = .ok (.aload_n 0, 1) := by decide +kernel
theorem dX5_append_17 : decode cX5_append 17 = .ok (.getfield 124, 3) := by decide +kernel
theorem dX5_append_20 : decode cX5_append 20 = .ok (.bipush 60, 2) := by decide +kernel
theorem dX5_append_22 : decode cX5_append 22 = .ok (.if_icmp .ne 7, 3) := by decide +kernel
theorem dX5_append_25 : decode cX5_append 25 = .ok (.iconst 2, 1) := by decide +kernel
theorem dX5_append_26 : decode cX5_append 26 = .ok (.goto 4, 3) := by decide +kernel
theorem dX5_append_29 : decode cX5_append 29 = .ok (.iconst 0, 1) := by decide +kernel
theorem dX5_append_30 : decode cX5_append 30 = .ok (.invokevirtual 98, 3) := by decide +kernel
theorem dX5_append_33 : decode cX5_append 33 = .ok (.ifCond .ne 5, 3) := by decide +kernel
theorem dX5_append_36 : decode cX5_append 36 = .ok (.iconst 0, 1) := by decide +kernel
theorem dX5_append_37 : decode cX5_append 37 = .ok (.ireturn, 1) := by decide +kernel
theorem dX5_append_38 : decode cX5_append 38 = .ok (.aload_n 0, 1) := by decide +kernel
theorem dX5_append_39 : decode cX5_append 39 = .ok (.getfield 22, 3) := by decide +kernel
theorem dX5_append_42 : decode cX5_append 42 = .ok (.aload_n 0, 1) := by decide +kernel
theorem dX5_append_43 : decode cX5_append 43 = .ok (.getfield 124, 3) := by decide +kernel
theorem dX5_append_46 : decode cX5_append 46 = .ok (.iload_n 1, 1) := by decide +kernel
theorem dX5_append_47 : decode cX5_append 47 = .ok (.iastore, 1) := by decide +kernel
theorem dX5_append_48 : decode cX5_append 48 = .ok (.aload_n 0, 1) := by decide +kernel
theorem dX5_append_49 : decode cX5_append 49 = .ok (.dup, 1) := by decide +kernel
theorem dX5_append_50 : decode cX5_append 50 = .ok (.getfield 124, 3) := by decide +kernel
theorem dX5_append_53 : decode cX5_append 53 = .ok (.iconst 1, 1) := by decide +kernel
theorem dX5_append_54 : decode cX5_append 54 = .ok (.iadd, 1) := by decide +kernel
theorem dX5_append_55 : decode cX5_append 55 = .ok (.putfield 124, 3) := by decide +kernel
theorem dX5_append_58 : decode cX5_append 58 = .ok (.aload_n 0, 1) := by decide +kernel
theorem dX5_append_59 : decode cX5_append 59 = .ok (.getfield 124, 3) := by decide +kernel
theorem dX5_append_62 : decode cX5_append 62 = .ok (.ireturn, 1) := by decide +kernel
theorem dX5_clearBuffer_0 : decode cX5_clearBuffer 0 = .ok (.aload_n 0, 1) := by decide +kernel
theorem dX5_clearBuffer_1 : decode cX5_clearBuffer 1 = .ok (.iconst 0, 1) := by decide +kernel
theorem dX5_clearBuffer_2 : decode cX5_clearBuffer 2 = .ok (.putfield 32, 3) := by decide +kernel
theorem dX5_clearBuffer_5 : decode cX5_clearBuffer 5 = .ok (.aload_n 0, 1) := by decide +kernel
theorem dX5_clearBuffer_6 : decode cX5_clearBuffer 6 = .ok (.getfield 124, 3) := by decide +kernel
theorem dX5_clearBuffer_9 : decode cX5_clearBuffer 9 = .ok (.istore_n 1, 1) := by decide +kernel
theorem dX5_clearBuffer_10 : decode cX5_clearBuffer 10 = .ok (.aload_n 0, 1) := by decide +kernel
theorem dX5_clearBuffer_11 : decode cX5_clearBuffer 11 = .ok (.iconst 0, 1) := by decide +kernel
theorem dX5_clearBuffer_12 : decode cX5_clearBuffer 12 = .ok (.putfield 124, 3) := by decide +kernel
theorem dX5_clearBuffer_15 : decode cX5_clearBuffer 15 = .ok (.iload_n 1, 1) := by decide +kernel
theorem dX5_clearBuffer_16 : decode cX5_clearBuffer 16 = .ok (.ireturn, 1) := by decide +kernel
theorem dX5_isNext_0 : decode cX5_isNext 0 = .ok (.aload_n 0, 1) := by decide +kernel
theorem dX5_isNext_1 : decode cX5_isNext 1 = .ok (.getfield 127, 3) := by decide +kernel
theorem dX5_isNext_4 : decode cX5_isNext 4 = .ok (.aload_n 0, 1) := by decide +kernel
theorem dX5_isNext_5 : decode cX5_isNext 5 = .ok (.getfield 124, 3) := by decide +kernel
theorem dX5_isNext_8 : decode cX5_isNext 8 = .ok (.if_icmp .ge 24, 3) := by decide +kernel
theorem dX5_isNext_11 : decode cX5_isNext 11 = .ok (.aload_n 0, 1) := by decide +kernel
theorem dX5_isNext_12 : decode cX5_isNext 12 = .ok (.getfield 22, 3) := by decide +kernel
theorem dX5_isNext_15 : decode cX5_isNext 15 = .ok (.aload_n 0, 1) := by decide +kernel
theorem dX5_isNext_16 : decode cX5_isNext 16 = .ok (.getfield 127, 3) := by decide +kernel
theorem dX5_isNext_19 : decode cX5_isNext 19 = .ok (.iaload, 1) := by decide +kernel
theorem dX5_isNext_20 : decode cX5_isNext 20 = .ok (.iload_n 1, 1) := by decide +kernel
theorem dX5_isNext_21 : decode cX5_isNext 21 = .ok (.iload_n 2, 1) := by decide +kernel
theorem dX5_isNext_22 : decode cX5_isNext 22 = .ok (.invokestatic 36, 3) := by decide +kernel
theorem dX5_isNext_25 : decode cX5_isNext 25 = .ok (.ifCond .eq 7, 3) := by decide +kernel
theorem dX5_isNext_28 : decode cX5_isNext 28 = .ok (.iconst 1, 1) := by decide +kernel
theorem dX5_isNext_29 : decode cX5_isNext 29 = .ok (.goto 4, 3) := by decide +kernel
theorem dX5_isNext_32 : decode cX5_isNext 32 = .ok (.iconst 0, 1) := by decide +kernel
theorem dX5_isNext_33 : decode cX5_isNext 33 = .ok (.ireturn, 1) := by decide +kernel
theorem dX5_takes_0 : decode cX5_takes 0 = .ok (.aload_n 0, 1) := by decide +kernel
theorem dX5_takes_1 : decode cX5_takes 1 = .ok (.iload_n 1, 1) := by decide +kernel
theorem dX5_takes_2 : decode cX5_takes 2 = .ok (.iload_n 1, 1) := by decide +kernel
theorem dX5_takes_3 : decode cX5_takes 3 = .ok (.invokevirtual 130, 3) := by decide +kernel
theorem dX5_takes_6 : decode cX5_takes 6 = .ok (.istore_n 2, 1) := by decide +kernel
theorem dX5_takes_7 : decode cX5_takes 7 = .ok (.aload_n 0, 1) := by decide +kernel
theorem dX5_takes_8 : decode cX5_takes 8 = .ok (.dup, 1) := by decide +kernel
theorem dX5_takes_9 : decode cX5_takes 9 = .ok (.getfield 127, 3) := by decide +kernel
theorem dX5_takes_12 : decode cX5_takes 12 = .ok (.iload_n 2, 1) := by decide +kernel
theorem dX5_takes_13 : decode cX5_takes 13 = .ok (.ifCond .eq 7, 3) := by decide +kernel
theorem dX5_takes_16 : decode cX5_takes 16 = .ok (.iconst 1, 1) := by decide +kernel
theorem dX5_takes_17 : decode cX5_takes 17 = .ok (.goto 4, 3) := by decide +kernel
theorem dX5_takes_20 : decode cX5_takes 20 = .ok (.iconst 0, 1) := by decide +kernel
theorem dX5_takes_21 : decode cX5_takes 21 = .ok (.iadd, 1) := by decide +kernel
theorem dX5_takes_22 : decode cX5_takes 22 = .ok (.putfield 127, 3) := by decide +kernel
theorem dX5_takes_25 : decode cX5_takes 25 = .ok (.iload_n 2, 1) := by decide +kernel
theorem dX5_takes_26 : decode cX5_takes 26 = .ok (.ireturn, 1) := by decide +kernel
theorem dX5_readNumber_0 : decode cX5_readNumber 0 = .ok (.aload_n 0, 1) := by decide +kernel
theorem dX5_readNumber_1 : decode cX5_readNumber 1 = .ok (.bipush 49, 2) := by decide +kernel
theorem dX5_readNumber_3 : decode cX5_readNumber 3 = .ok (.bipush 57, 2) := by decide +kernel
theorem dX5_readNumber_5 : decode cX5_readNumber 5 = .ok (.invokevirtual 130, 3) := by decide +kernel
theorem dX5_readNumber_8 : decode cX5_readNumber 8 = .ok (.ifCond .eq 18, 3) := by decide +kernel
theorem dX5_readNumber_11 : decode cX5_readNumber 11 = .ok (.aload_n 0, 1) := by decide +kernel
theorem dX5_readNumber_12 : decode cX5_readNumber 12 = .ok (.getfield 22, 3) := by decide +kernel
theorem dX5_readNumber_15 : decode cX5_readNumber 15 = .ok (.aload_n 0, 1) := by decide +kernel
theorem dX5_readNumber_16 : decode cX5_readNumber 16 = .ok (.getfield 127, 3) := by decide +kernel
theorem dX5_readNumber_19 : decode cX5_readNumber 19 = .ok (.iaload, 1) := by decide +kernel
theorem dX5_readNumber_20 : decode cX5_readNumber 20 = .ok (.bipush 48, 2) := by decide +kernel
theorem dX5_readNumber_22 : decode cX5_readNumber 22 = .ok (.isub, 1) := by decide +kernel
theorem dX5_readNumber_23 : decode cX5_readNumber 23 = .ok (.goto 4, 3) := by decide +kernel
theorem dX5_readNumber_26 : decode cX5_readNumber 26 = .ok (.iconst 0, 1) := by decide +kernel
theorem dX5_readNumber_27 : decode cX5_readNumber 27 = .ok (.istore 4, 2) := by decide +kernel
theorem dX5_readNumber_29 : decode cX5_readNumber 29 = .ok (.iload 4, 2) := by decide +kernel
theorem dX5_readNumber_31 : decode cX5_readNumber 31 = .ok (.ifCond .eq 18, 3) := by decide +kernel
theorem dX5_readNumber_34 : decode cX5_readNumber 34 = .ok (.iload 4, 2) := by decide +kernel
theorem dX5_readNumber_36 : decode cX5_readNumber 36 = .ok (.iload_n 2, 1) := by decide +kernel
theorem dX5_readNumber_37 : decode cX5_readNumber 37 = .ok (.if_icmp .ge 14, 3) := by decide +kernel
theorem dX5_readNumber_40 : decode cX5_readNumber 40 = .ok (.bipush 10, 2) := by decide +kernel
theorem dX5_readNumber_42 : decode cX5_readNumber 42 = .ok (.iload 4, 2) := by decide +kernel
theorem dX5_readNumber_44 : decode cX5_readNumber 44 = .ok (.imul, 1) := by decide +kernel
theorem dX5_readNumber_45 : decode cX5_readNumber 45 = .ok (.iload_n 3, 1) := by decide +kernel
theorem dX5_readNumber_46 : decode cX5_readNumber 46 = .ok (.if_icmp .le 5, 3) := by decide +kernel
theorem dX5_readNumber_49 : decode cX5_readNumber 49 = .ok (.iconst 0, 1) := by decide +kernel
theorem dX5_readNumber_50 : decode cX5_readNumber 50 = .ok (.ireturn, 1) := by decide +kernel
theorem dX5_readNumber_51 : decode cX5_readNumber 51 = .ok (.aload_n 0, 1) := by decide +kernel
theorem dX5_readNumber_52 : decode cX5_readNumber 52 = .ok (.dup, 1) := by decide +kernel
theorem dX5_readNumber_53 : decode cX5_readNumber 53 = .ok (.getfield 127, 3) := by decide +kernel
theorem dX5_readNumber_56 : decode cX5_readNumber 56 = .ok (.iconst 1, 1) := by decide +kernel
theorem dX5_readNumber_57 : decode cX5_readNumber 57 = .ok (.iadd, 1) := by decide +kernel
theorem dX5_readNumber_58 : decode cX5_readNumber 58 = .ok (.putfield 127, 3) := by decide +kernel
theorem dX5_readNumber_61 : decode cX5_readNumber 61 = .ok (.aload_n 0, 1) := by decide +kernel
theorem dX5_readNumber_62 : decode cX5_readNumber 62 = .ok (.bipush 48, 2) := by decide +kernel
theorem dX5_readNumber_64 : decode cX5_readNumber 64 = .ok (.bipush 57, 2) := by decide +kernel
theorem dX5_readNumber_66 : decode cX5_readNumber 66 = .ok (.invokevirtual 130, 3) := by decide +kernel
theorem dX5_readNumber_69 : decode cX5_readNumber 69 = .ok (.ifCond .eq 58, 3) := by decide +kernel
theorem dX5_readNumber_72 : decode cX5_readNumber 72 = .ok (.bipush 10, 2) := by decide +kernel
theorem dX5_readNumber_74 : decode cX5_readNumber 74 = .ok (.iload 4, 2) := by decide +kernel
theorem dX5_readNumber_76 : decode cX5_readNumber 76 = .ok (.imul, 1) := by decide +kernel
theorem dX5_readNumber_77 : decode cX5_readNumber 77 = .ok (.aload_n 0, 1) := by decide +kernel
theorem dX5_readNumber_78 : decode cX5_readNumber 78 = .ok (.getfield 22, 3) := by decide +kernel
theorem dX5_readNumber_81 : decode cX5_readNumber 81 = .ok (.aload_n 0, 1) := by decide +kernel
theorem dX5_readNumber_82 : decode cX5_readNumber 82 = .ok (.getfield 127, 3) := by decide +kernel
theorem dX5_readNumber_85 : decode cX5_readNumber 85 = .ok (.iaload, 1) := by decide +kernel
theorem dX5_readNumber_86 : decode cX5_readNumber 86 = .ok (.iadd, 1) := by decide +kernel
theorem dX5_readNumber_87 : decode cX5_readNumber 87 = .ok (.bipush 48, 2) := by decide +kernel
theorem dX5_readNumber_89 : decode cX5_readNumber 89 = .ok (.isub, 1) := by decide +kernel
theorem dX5_readNumber_90 : decode cX5_readNumber 90 = .ok (.iload_n 3, 1) := by decide +kernel
theorem dX5_readNumber_91 : decode cX5_readNumber 91 = .ok (.if_icmp .gt 36, 3) := by decide +kernel
theorem dX5_readNumber_94 : decode cX5_readNumber 94 = .ok (.bipush 10, 2) := by decide +kernel
theorem dX5_readNumber_96 : decode cX5_readNumber 96 = .ok (.iload 4, 2) := by decide +kernel
theorem dX5_readNumber_98 : decode cX5_readNumber 98 = .ok (.imul, 1) := by decide +kernel
theorem dX5_readNumber_99 : decode cX5_readNumber 99 = .ok (.aload_n 0, 1) := by decide +kernel
theorem dX5_readNumber_100 : decode cX5_readNumber 100 = .ok (.getfield 22, 3) := by decide +kernel
theorem dX5_readNumber_103 : decode cX5_readNumber 103 = .ok (.aload_n 0, 1) := by decide +kernel
theorem dX5_readNumber_104 : decode cX5_readNumber 104 = .ok (.getfield 127, 3) := by decide +kernel
theorem dX5_readNumber_107 : decode cX5_readNumber 107 = .ok (.iaload, 1) := by decide +kernel
theorem dX5_readNumber_108 : decode cX5_readNumber 108 = .ok (.iadd, 1) := by decide +kernel
theorem dX5_readNumber_109 : decode cX5_readNumber 109 = .ok (.bipush 48, 2) := by decide +kernel
theorem dX5_readNumber_111 : decode cX5_readNumber 111 = .ok (.isub, 1) := by decide +kernel
theorem dX5_readNumber_112 : decode cX5_readNumber 112 = .ok (.istore 4, 2) := by decide +kernel
theorem dX5_readNumber_114 : decode cX5_readNumber 114 = .ok (.aload_n 0, 1) := by decide +kernel
theorem dX5_readNumber_115 : decode cX5_readNumber 115 = .ok (.dup, 1) := by decide +kernel
theorem dX5_readNumber_116 : decode cX5_readNumber 116 = .ok (.getfield 127, 3) := by decide +kernel
theorem dX5_readNumber_119 : decode cX5_readNumber 119 = .ok (.iconst 1, 1) := by decide +kernel
theorem dX5_readNumber_120 : decode cX5_readNumber 120 = .ok (.iadd, 1) := by decide +kernel
theorem dX5_readNumber_121 : decode cX5_readNumber 121 = .ok (.putfield 127, 3) := by decide +kernel
theorem dX5_readNumber_124 : decode cX5_readNumber 124 = .ok (.goto (-63), 3) := by decide +kernel
theorem dX5_readNumber_127 : decode cX5_readNumber 127 = .ok (.aload_n 0, 1) := by decide +kernel
theorem dX5_readNumber_128 : decode cX5_readNumber 128 = .ok (.getfield 25, 3) := by decide +kernel
theorem dX5_readNumber_131 : decode cX5_readNumber 131 = .ok (.iload_n 1, 1) := by decide +kernel
theorem dX5_readNumber_132 : decode cX5_readNumber 132 = .ok (.iload 4, 2) := by decide +kernel
theorem dX5_readNumber_134 : decode cX5_readNumber 134 = .ok (.iastore, 1) := by decide +kernel
theorem dX5_readNumber_135 : decode cX5_readNumber 135 = .ok (.iload 4, 2) := by decide +kernel
theorem dX5_readNumber_137 : decode cX5_readNumber 137 = .ok (.iload_n 2, 1) := by decide +kernel
theorem dX5_readNumber_138 : decode cX5_readNumber 138 = .ok (.if_icmp .lt 7, 3) := by decide +kernel
theorem dX5_readNumber_141 : decode cX5_readNumber 141 = .ok (.iconst 1, 1) := by decide +kernel
theorem dX5_readNumber_142 : decode cX5_readNumber 142 = .ok (.goto 4, 3) := by decide +kernel
theorem dX5_readNumber_145 : decode cX5_readNumber 145 = .ok (.iconst 0, 1) := by decide +kernel
theorem dX5_readNumber_146 : decode cX5_readNumber 146 = .ok (.ireturn, 1) := by decide +kernel
theorem dX5_readMill_0 : decode cX5_readMill 0 = .ok (.aload_n 0, 1) := by decide +kernel
theorem dX5_readMill_1 : decode cX5_readMill 1 = .ok (.bipush 48, 2) := by decide +kernel
theorem dX5_readMill_3 : decode cX5_readMill 3 = .ok (.bipush 52, 2) := by decide +kernel
theorem dX5_readMill_5 : decode cX5_readMill 5 = .ok (.invokevirtual 130, 3) := by decide +kernel
theorem dX5_readMill_8 : decode cX5_readMill 8 = .ok (.istore_n 1, 1) := by decide +kernel
theorem dX5_readMill_9 : decode cX5_readMill 9 = .ok (.aload_n 0, 1) := by decide +kernel
theorem dX5_readMill_10 : decode cX5_readMill 10 = .ok (.getfield 25, 3) := by decide +kernel
theorem dX5_readMill_13 : decode cX5_readMill 13 = .ok (.iconst 0, 1) := by decide +kernel
theorem dX5_readMill_14 : decode cX5_readMill 14 = .ok (.iload_n 1, 1) := by decide +kernel
theorem dX5_readMill_15 : decode cX5_readMill 15 = .ok (.ifCond .eq 18, 3) := by decide +kernel
theorem dX5_readMill_18 : decode cX5_readMill 18 = .ok (.aload_n 0, 1) := by decide +kernel
theorem dX5_readMill_19 : decode cX5_readMill 19 = .ok (.getfield 22, 3) := by decide +kernel
theorem dX5_readMill_22 : decode cX5_readMill 22 = .ok (.aload_n 0, 1) := by decide +kernel
theorem dX5_readMill_23 : decode cX5_readMill 23 = .ok (.getfield 127, 3) := by decide +kernel
theorem dX5_readMill_26 : decode cX5_readMill 26 = .ok (.iaload, 1) := by decide +kernel
theorem dX5_readMill_27 : decode cX5_readMill 27 = .ok (.bipush 48, 2) := by decide +kernel
theorem dX5_readMill_29 : decode cX5_readMill 29 = .ok (.isub, 1) := by decide +kernel
theorem dX5_readMill_30 : decode cX5_readMill 30 = .ok (.goto 4, 3) := by decide +kernel
theorem dX5_readMill_33 : decode cX5_readMill 33 = .ok (.iconst 0, 1) := by decide +kernel
theorem dX5_readMill_34 : decode cX5_readMill 34 = .ok (.iastore, 1) := by decide +kernel
theorem dX5_readMill_35 : decode cX5_readMill 35 = .ok (.aload_n 0, 1) := by decide +kernel
theorem dX5_readMill_36 : decode cX5_readMill 36 = .ok (.dup, 1) := by decide +kernel
theorem dX5_readMill_37 : decode cX5_readMill 37 = .ok (.getfield 127, 3) := by decide +kernel
theorem dX5_readMill_40 : decode cX5_readMill 40 = .ok (.iload_n 1, 1) := by decide +kernel
theorem dX5_readMill_41 : decode cX5_readMill 41 = .ok (.ifCond .eq 7, 3) := by decide +kernel
theorem dX5_readMill_44 : decode cX5_readMill 44 = .ok (.iconst 1, 1) := by decide +kernel
theorem dX5_readMill_45 : decode cX5_readMill 45 = .ok (.goto 4, 3) := by decide +kernel
theorem dX5_readMill_48 : decode cX5_readMill 48 = .ok (.iconst 0, 1) := by decide +kernel
theorem dX5_readMill_49 : decode cX5_readMill 49 = .ok (.iadd, 1) := by decide +kernel
theorem dX5_readMill_50 : decode cX5_readMill 50 = .ok (.putfield 127, 3) := by decide +kernel
theorem dX5_readMill_53 : decode cX5_readMill 53 = .ok (.iload_n 1, 1) := by decide +kernel
theorem dX5_readMill_54 : decode cX5_readMill 54 = .ok (.ireturn, 1) := by decide +kernel
theorem dX5_readPart_0 : decode cX5_readPart 0 = .ok (.aload_n 0, 1) := by decide +kernel
theorem dX5_readPart_1 : decode cX5_readPart 1 = .ok (.aload_n 0, 1) := by decide +kernel
theorem dX5_readPart_2 : decode cX5_readPart 2 = .ok (.getfield 127, 3) := by decide +kernel
theorem dX5_readPart_5 : decode cX5_readPart 5 = .ok (.aload_n 0, 1) := by decide +kernel
theorem dX5_readPart_6 : decode cX5_readPart 6 = .ok (.getfield 124, 3) := by decide +kernel
theorem dX5_readPart_9 : decode cX5_readPart 9 = .ok (.if_icmp .ge 15, 3) := by decide +kernel
theorem dX5_readPart_12 : decode cX5_readPart 12 = .ok (.aload_n 0, 1) := by decide +kernel
theorem dX5_readPart_13 : decode cX5_readPart 13 = .ok (.getfield 22, 3) := by decide +kernel
theorem dX5_readPart_16 : decode cX5_readPart 16 = .ok (.aload_n 0, 1) := by decide +kernel
theorem dX5_readPart_17 : decode cX5_readPart 17 = .ok (.getfield 127, 3) := by decide +kernel
theorem dX5_readPart_20 : decode cX5_readPart 20 = .ok (.iaload, 1) := by decide +kernel
theorem dX5_readPart_21 : decode cX5_readPart 21 = .ok (.goto 4, 3) := by decide +kernel
theorem dX5_readPart_24 : decode cX5_readPart 24 = .ok (.iconst 0, 1) := by decide +kernel
theorem dX5_readPart_25 : decode cX5_readPart 25 = .ok (.putfield 133, 3) := by decide +kernel
theorem dX5_readPart_28 : decode cX5_readPart 28 = .ok (.aload_n 0, 1) := by decide +kernel
theorem dX5_readPart_29 : decode cX5_readPart 29 = .ok (.getfield 133, 3) := by decide +kernel
theorem dX5_readPart_32 : decode cX5_readPart 32 = .ok (.bipush 115, 2) := by decide +kernel
theorem dX5_readPart_34 : decode cX5_readPart 34 = .ok (.if_icmp .eq 23, 3) := by decide +kernel
theorem dX5_readPart_37 : decode cX5_readPart 37 = .ok (.aload_n 0, 1) := by decide +kernel
theorem dX5_readPart_38 : decode cX5_readPart 38 = .ok (.getfield 133, 3) := by decide +kernel
theorem dX5_readPart_41 : decode cX5_readPart 41 = .ok (.bipush 103, 2) := by decide +kernel
theorem dX5_readPart_43 : decode cX5_readPart 43 = .ok (.if_icmp .eq 14, 3) := by decide +kernel
theorem dX5_readPart_46 : decode cX5_readPart 46 = .ok (.aload_n 0, 1) := by decide +kernel
theorem dX5_readPart_47 : decode cX5_readPart 47 = .ok (.getfield 133, 3) := by decide +kernel
theorem dX5_readPart_50 : decode cX5_readPart 50 = .ok (.bipush 43, 2) := by decide +kernel
theorem dX5_readPart_52 : decode cX5_readPart 52 = .ok (.if_icmp .eq 5, 3) := by decide +kernel
theorem dX5_readPart_55 : decode cX5_readPart 55 = .ok (.iconst 0, 1) := by decide +kernel
theorem dX5_readPart_56 : decode cX5_readPart 56 = .ok (.ireturn, 1) := by decide +kernel
theorem dX5_readPart_57 : decode cX5_readPart 57 = .ok (.aload_n 0, 1) := by decide +kernel
theorem dX5_readPart_58 : decode cX5_readPart 58 = .ok (.dup, 1) := by decide +kernel
theorem dX5_readPart_59 : decode cX5_readPart 59 = .ok (.getfield 127, 3) := by decide +kernel
theorem dX5_readPart_62 : decode cX5_readPart 62 = .ok (.iconst 1, 1) := by decide +kernel
theorem dX5_readPart_63 : decode cX5_readPart 63 = .ok (.iadd, 1) := by decide +kernel
theorem dX5_readPart_64 : decode cX5_readPart 64 = .ok (.putfield 127, 3) := by decide +kernel
theorem dX5_readPart_67 : decode cX5_readPart 67 = .ok (.aload_n 0, 1) := by decide +kernel
theorem dX5_readPart_68 : decode cX5_readPart 68 = .ok (.getfield 133, 3) := by decide +kernel
theorem dX5_readPart_71 : decode cX5_readPart 71 = .ok (.bipush 43, 2) := by decide +kernel
theorem dX5_readPart_73 : decode cX5_readPart 73 = .ok (.if_icmp .ne 12, 3) := by decide +kernel
theorem dX5_readPart_76 : decode cX5_readPart 76 = .ok (.aload_n 0, 1) := by decide +kernel
theorem dX5_readPart_77 : decode cX5_readPart 77 = .ok (.iconst 0, 1) := by decide +kernel
theorem dX5_readPart_78 : decode cX5_readPart 78 = .ok (.iconst 1, 1) := by decide +kernel
theorem dX5_readPart_79 : decode cX5_readPart 79 = .ok (.bipush 48, 2) := by decide +kernel
theorem dX5_readPart_81 : decode cX5_readPart 81 = .ok (.invokevirtual 136, 3) := by decide +kernel
theorem dX5_readPart_84 : decode cX5_readPart 84 = .ok (.ireturn, 1) := by decide +kernel
theorem dX5_readPart_85 : decode cX5_readPart 85 = .ok (.aload_n 0, 1) := by decide +kernel
theorem dX5_readPart_86 : decode cX5_readPart 86 = .ok (.invokevirtual 139, 3) := by decide +kernel
theorem dX5_readPart_89 : decode cX5_readPart 89 = .ok (.ifCond .eq 12, 3) := by decide +kernel
theorem dX5_readPart_92 : decode cX5_readPart 92 = .ok (.aload_n 0, 1) := by decide +kernel
theorem dX5_readPart_93 : decode cX5_readPart 93 = .ok (.bipush 44, 2) := by decide +kernel
theorem dX5_readPart_95 : decode cX5_readPart 95 = .ok (.invokevirtual 143, 3) := by decide +kernel
theorem dX5_readPart_98 : decode cX5_readPart 98 = .ok (.ifCond .ne 5, 3) := by decide +kernel
theorem dX5_readPart_101 : decode cX5_readPart 101 = .ok (.iconst 0, 1) := by decide +kernel
theorem dX5_readPart_102 : decode cX5_readPart 102 = .ok (.ireturn, 1) := by decide +kernel
theorem dX5_readPart_103 : decode cX5_readPart 103 = .ok (.aload_n 0, 1) := by decide +kernel
theorem dX5_readPart_104 : decode cX5_readPart 104 = .ok (.getfield 133, 3) := by decide +kernel
theorem dX5_readPart_107 : decode cX5_readPart 107 = .ok (.bipush 115, 2) := by decide +kernel
theorem dX5_readPart_109 : decode cX5_readPart 109 = .ok (.if_icmp .ne 15, 3) := by decide +kernel
theorem dX5_readPart_112 : decode cX5_readPart 112 = .ok (.aload_n 0, 1) := by decide +kernel
theorem dX5_readPart_113 : decode cX5_readPart 113 = .ok (.iconst 1, 1) := by decide +kernel
theorem dX5_readPart_114 : decode cX5_readPart 114 = .ok (.iconst 1, 1) := by decide +kernel
theorem dX5_readPart_115 : decode cX5_readPart 115 = .ok (.sipush 999, 3) := by decide +kernel
theorem dX5_readPart_118 : decode cX5_readPart 118 = .ok (.invokevirtual 136, 3) := by decide +kernel
theorem dX5_readPart_121 : decode cX5_readPart 121 = .ok (.goto 12, 3) := by decide +kernel
theorem dX5_readPart_124 : decode cX5_readPart 124 = .ok (.aload_n 0, 1) := by decide +kernel
theorem dX5_readPart_125 : decode cX5_readPart 125 = .ok (.iconst 1, 1) := by decide +kernel
theorem dX5_readPart_126 : decode cX5_readPart 126 = .ok (.bipush 8, 2) := by decide +kernel
theorem dX5_readPart_128 : decode cX5_readPart 128 = .ok (.bipush 60, 2) := by decide +kernel
theorem dX5_readPart_130 : decode cX5_readPart 130 = .ok (.invokevirtual 136, 3) := by decide +kernel
theorem dX5_readPart_133 : decode cX5_readPart 133 = .ok (.istore_n 1, 1) := by decide +kernel
theorem dX5_readPart_134 : decode cX5_readPart 134 = .ok (.iload_n 1, 1) := by decide +kernel
theorem dX5_readPart_135 : decode cX5_readPart 135 = .ok (.ifCond .eq 52, 3) := by decide +kernel
theorem dX5_readPart_138 : decode cX5_readPart 138 = .ok (.aload_n 0, 1) := by decide +kernel
theorem dX5_readPart_139 : decode cX5_readPart 139 = .ok (.bipush 44, 2) := by decide +kernel
theorem dX5_readPart_141 : decode cX5_readPart 141 = .ok (.invokevirtual 143, 3) := by decide +kernel
theorem dX5_readPart_144 : decode cX5_readPart 144 = .ok (.ifCond .eq 43, 3) := by decide +kernel
theorem dX5_readPart_147 : decode cX5_readPart 147 = .ok (.aload_n 0, 1) := by decide +kernel
theorem dX5_readPart_148 : decode cX5_readPart 148 = .ok (.getfield 133, 3) := by decide +kernel
theorem dX5_readPart_151 : decode cX5_readPart 151 = .ok (.bipush 115, 2) := by decide +kernel
theorem dX5_readPart_153 : decode cX5_readPart 153 = .ok (.if_icmp .ne 18, 3) := by decide +kernel
theorem dX5_readPart_156 : decode cX5_readPart 156 = .ok (.aload_n 0, 1) := by decide +kernel
theorem dX5_readPart_157 : decode cX5_readPart 157 = .ok (.iconst 2, 1) := by decide +kernel
theorem dX5_readPart_158 : decode cX5_readPart 158 = .ok (.iconst 1, 1) := by decide +kernel
theorem dX5_readPart_159 : decode cX5_readPart 159 = .ok (.sipush 9999, 3) := by decide +kernel
theorem dX5_readPart_162 : decode cX5_readPart 162 = .ok (.invokevirtual 136, 3) := by decide +kernel
theorem dX5_readPart_165 : decode cX5_readPart 165 = .ok (.ifCond .eq 22, 3) := by decide +kernel
theorem dX5_readPart_168 : decode cX5_readPart 168 = .ok (.goto 15, 3) := by decide +kernel
theorem dX5_readPart_171 : decode cX5_readPart 171 = .ok (.aload_n 0, 1) := by decide +kernel
theorem dX5_readPart_172 : decode cX5_readPart 172 = .ok (.iconst 2, 1) := by decide +kernel
theorem dX5_readPart_173 : decode cX5_readPart 173 = .ok (.bipush 8, 2) := by decide +kernel
theorem dX5_readPart_175 : decode cX5_readPart 175 = .ok (.bipush 60, 2) := by decide +kernel
theorem dX5_readPart_177 : decode cX5_readPart 177 = .ok (.invokevirtual 136, 3) := by decide +kernel
theorem dX5_readPart_180 : decode cX5_readPart 180 = .ok (.ifCond .eq 7, 3) := by decide +kernel
theorem dX5_readPart_183 : decode cX5_readPart 183 = .ok (.iconst 1, 1) := by decide +kernel
theorem dX5_readPart_184 : decode cX5_readPart 184 = .ok (.goto 4, 3) := by decide +kernel
theorem dX5_readPart_187 : decode cX5_readPart 187 = .ok (.iconst 0, 1) := by decide +kernel
theorem dX5_readPart_188 : decode cX5_readPart 188 = .ok (.ireturn, 1) := by decide +kernel
theorem dX5_does_0 : decode cX5_does 0 = .ok (.aload_n 0, 1) := by decide +kernel
theorem dX5_does_1 : decode cX5_does 1 = .ok (.getfield 133, 3) := by decide +kernel
theorem dX5_does_4 : decode cX5_does 4 = .ok (.bipush 43, 2) := by decide +kernel
theorem dX5_does_6 : decode cX5_does 6 = .ok (.if_icmp .ne 22, 3) := by decide +kernel
theorem dX5_does_9 : decode cX5_does 9 = .ok (.aload_n 0, 1) := by decide +kernel
theorem dX5_does_10 : decode cX5_does 10 = .ok (.aload_n 0, 1) := by decide +kernel
theorem dX5_does_11 : decode cX5_does 11 = .ok (.getfield 25, 3) := by decide +kernel
theorem dX5_does_14 : decode cX5_does 14 = .ok (.iconst 0, 1) := by decide +kernel
theorem dX5_does_15 : decode cX5_does 15 = .ok (.iaload, 1) := by decide +kernel
theorem dX5_does_16 : decode cX5_does 16 = .ok (.invokevirtual 108, 3) := by decide +kernel
theorem dX5_does_19 : decode cX5_does 19 = .ok (.ifCond .lt 7, 3) := by decide +kernel
theorem dX5_does_22 : decode cX5_does 22 = .ok (.iconst 1, 1) := by decide +kernel
theorem dX5_does_23 : decode cX5_does 23 = .ok (.goto 4, 3) := by decide +kernel
theorem dX5_does_26 : decode cX5_does 26 = .ok (.iconst 0, 1) := by decide +kernel
theorem dX5_does_27 : decode cX5_does 27 = .ok (.ireturn, 1) := by decide +kernel
theorem dX5_does_28 : decode cX5_does 28 = .ok (.aload_n 0, 1) := by decide +kernel
theorem dX5_does_29 : decode cX5_does 29 = .ok (.getfield 133, 3) := by decide +kernel
theorem dX5_does_32 : decode cX5_does 32 = .ok (.bipush 103, 2) := by decide +kernel
theorem dX5_does_34 : decode cX5_does 34 = .ok (.if_icmp .ne 34, 3) := by decide +kernel
theorem dX5_does_37 : decode cX5_does 37 = .ok (.aload_n 0, 1) := by decide +kernel
theorem dX5_does_38 : decode cX5_does 38 = .ok (.aload_n 0, 1) := by decide +kernel
theorem dX5_does_39 : decode cX5_does 39 = .ok (.getfield 25, 3) := by decide +kernel
theorem dX5_does_42 : decode cX5_does 42 = .ok (.iconst 0, 1) := by decide +kernel
theorem dX5_does_43 : decode cX5_does 43 = .ok (.iaload, 1) := by decide +kernel
theorem dX5_does_44 : decode cX5_does 44 = .ok (.aload_n 0, 1) := by decide +kernel
theorem dX5_does_45 : decode cX5_does 45 = .ok (.getfield 25, 3) := by decide +kernel
theorem dX5_does_48 : decode cX5_does 48 = .ok (.iconst 1, 1) := by decide +kernel
theorem dX5_does_49 : decode cX5_does 49 = .ok (.iaload, 1) := by decide +kernel
theorem dX5_does_50 : decode cX5_does 50 = .ok (.aload_n 0, 1) := by decide +kernel
theorem dX5_does_51 : decode cX5_does 51 = .ok (.getfield 25, 3) := by decide +kernel
theorem dX5_does_54 : decode cX5_does 54 = .ok (.iconst 2, 1) := by decide +kernel
theorem dX5_does_55 : decode cX5_does 55 = .ok (.iaload, 1) := by decide +kernel
theorem dX5_does_56 : decode cX5_does 56 = .ok (.invokevirtual 104, 3) := by decide +kernel
theorem dX5_does_59 : decode cX5_does 59 = .ok (.ifCond .le 7, 3) := by decide +kernel
theorem dX5_does_62 : decode cX5_does 62 = .ok (.iconst 1, 1) := by decide +kernel
theorem dX5_does_63 : decode cX5_does 63 = .ok (.goto 4, 3) := by decide +kernel
theorem dX5_does_66 : decode cX5_does 66 = .ok (.iconst 0, 1) := by decide +kernel
theorem dX5_does_67 : decode cX5_does 67 = .ok (.ireturn, 1) := by decide +kernel
theorem dX5_does_68 : decode cX5_does 68 = .ok (.aload_n 0, 1) := by decide +kernel
theorem dX5_does_69 : decode cX5_does 69 = .ok (.aload_n 0, 1) := by decide +kernel
theorem dX5_does_70 : decode cX5_does 70 = .ok (.getfield 25, 3) := by decide +kernel
theorem dX5_does_73 : decode cX5_does 73 = .ok (.iconst 0, 1) := by decide +kernel
theorem dX5_does_74 : decode cX5_does 74 = .ok (.iaload, 1) := by decide +kernel
theorem dX5_does_75 : decode cX5_does 75 = .ok (.invokevirtual 115, 3) := by decide +kernel
theorem dX5_does_78 : decode cX5_does 78 = .ok (.ifCond .eq 32, 3) := by decide +kernel
theorem dX5_does_81 : decode cX5_does 81 = .ok (.aload_n 0, 1) := by decide +kernel
theorem dX5_does_82 : decode cX5_does 82 = .ok (.aload_n 0, 1) := by decide +kernel
theorem dX5_does_83 : decode cX5_does 83 = .ok (.getfield 25, 3) := by decide +kernel
theorem dX5_does_86 : decode cX5_does 86 = .ok (.iconst 0, 1) := by decide +kernel
theorem dX5_does_87 : decode cX5_does 87 = .ok (.iaload, 1) := by decide +kernel
theorem dX5_does_88 : decode cX5_does 88 = .ok (.aload_n 0, 1) := by decide +kernel
theorem dX5_does_89 : decode cX5_does 89 = .ok (.getfield 25, 3) := by decide +kernel
theorem dX5_does_92 : decode cX5_does 92 = .ok (.iconst 1, 1) := by decide +kernel
theorem dX5_does_93 : decode cX5_does 93 = .ok (.iaload, 1) := by decide +kernel
theorem dX5_does_94 : decode cX5_does 94 = .ok (.aload_n 0, 1) := by decide +kernel
theorem dX5_does_95 : decode cX5_does 95 = .ok (.getfield 25, 3) := by decide +kernel
theorem dX5_does_98 : decode cX5_does 98 = .ok (.iconst 2, 1) := by decide +kernel
theorem dX5_does_99 : decode cX5_does 99 = .ok (.iaload, 1) := by decide +kernel
theorem dX5_does_100 : decode cX5_does 100 = .ok (.invokevirtual 118, 3) := by decide +kernel
theorem dX5_does_103 : decode cX5_does 103 = .ok (.ifCond .lt 7, 3) := by decide +kernel
theorem dX5_does_106 : decode cX5_does 106 = .ok (.iconst 1, 1) := by decide +kernel
theorem dX5_does_107 : decode cX5_does 107 = .ok (.goto 4, 3) := by decide +kernel
theorem dX5_does_110 : decode cX5_does 110 = .ok (.iconst 0, 1) := by decide +kernel
theorem dX5_does_111 : decode cX5_does 111 = .ok (.ireturn, 1) := by decide +kernel
theorem dX5_readText_0 : decode cX5_readText 0 = .ok (.aload_n 0, 1) := by decide +kernel
theorem dX5_readText_1 : decode cX5_readText 1 = .ok (.iconst 0, 1) := by decide +kernel
theorem dX5_readText_2 : decode cX5_readText 2 = .ok (.putfield 127, 3) := by decide +kernel
theorem dX5_readText_5 : decode cX5_readText 5 = .ok (.aload_n 0, 1) := by decide +kernel
theorem dX5_readText_6 : decode cX5_readText 6 = .ok (.iconst 0, 1) := by decide +kernel
theorem dX5_readText_7 : decode cX5_readText 7 = .ok (.putfield 146, 3) := by decide +kernel
theorem dX5_readText_10 : decode cX5_readText 10 = .ok (.aload_n 0, 1) := by decide +kernel
theorem dX5_readText_11 : decode cX5_readText 11 = .ok (.invokevirtual 149, 3) := by decide +kernel
theorem dX5_readText_14 : decode cX5_readText 14 = .ok (.istore_n 2, 1) := by decide +kernel
theorem dX5_readText_15 : decode cX5_readText 15 = .ok (.iload_n 2, 1) := by decide +kernel
theorem dX5_readText_16 : decode cX5_readText 16 = .ok (.ifCond .eq 64, 3) := by decide +kernel
theorem dX5_readText_19 : decode cX5_readText 19 = .ok (.iload_n 1, 1) := by decide +kernel
theorem dX5_readText_20 : decode cX5_readText 20 = .ok (.ifCond .eq 12, 3) := by decide +kernel
theorem dX5_readText_23 : decode cX5_readText 23 = .ok (.aload_n 0, 1) := by decide +kernel
theorem dX5_readText_24 : decode cX5_readText 24 = .ok (.invokevirtual 152, 3) := by decide +kernel
theorem dX5_readText_27 : decode cX5_readText 27 = .ok (.ifCond .ne 5, 3) := by decide +kernel
theorem dX5_readText_30 : decode cX5_readText 30 = .ok (.iconst 1, 1) := by decide +kernel
theorem dX5_readText_31 : decode cX5_readText 31 = .ok (.ireturn, 1) := by decide +kernel
theorem dX5_readText_32 : decode cX5_readText 32 = .ok (.aload_n 0, 1) := by decide +kernel
theorem dX5_readText_33 : decode cX5_readText 33 = .ok (.dup, 1) := by decide +kernel
theorem dX5_readText_34 : decode cX5_readText 34 = .ok (.getfield 146, 3) := by decide +kernel
theorem dX5_readText_37 : decode cX5_readText 37 = .ok (.iconst 1, 1) := by decide +kernel
theorem dX5_readText_38 : decode cX5_readText 38 = .ok (.iadd, 1) := by decide +kernel
theorem dX5_readText_39 : decode cX5_readText 39 = .ok (.putfield 146, 3) := by decide +kernel
theorem dX5_readText_42 : decode cX5_readText 42 = .ok (.aload_n 0, 1) := by decide +kernel
theorem dX5_readText_43 : decode cX5_readText 43 = .ok (.getfield 127, 3) := by decide +kernel
theorem dX5_readText_46 : decode cX5_readText 46 = .ok (.aload_n 0, 1) := by decide +kernel
theorem dX5_readText_47 : decode cX5_readText 47 = .ok (.getfield 124, 3) := by decide +kernel
theorem dX5_readText_50 : decode cX5_readText 50 = .ok (.if_icmp .ne 5, 3) := by decide +kernel
theorem dX5_readText_53 : decode cX5_readText 53 = .ok (.iconst 1, 1) := by decide +kernel
theorem dX5_readText_54 : decode cX5_readText 54 = .ok (.ireturn, 1) := by decide +kernel
theorem dX5_readText_55 : decode cX5_readText 55 = .ok (.aload_n 0, 1) := by decide +kernel
theorem dX5_readText_56 : decode cX5_readText 56 = .ok (.bipush 59, 2) := by decide +kernel
theorem dX5_readText_58 : decode cX5_readText 58 = .ok (.invokevirtual 143, 3) := by decide +kernel
theorem dX5_readText_61 : decode cX5_readText 61 = .ok (.ifCond .eq 14, 3) := by decide +kernel
theorem dX5_readText_64 : decode cX5_readText 64 = .ok (.aload_n 0, 1) := by decide +kernel
theorem dX5_readText_65 : decode cX5_readText 65 = .ok (.invokevirtual 149, 3) := by decide +kernel
theorem dX5_readText_68 : decode cX5_readText 68 = .ok (.ifCond .eq 7, 3) := by decide +kernel
theorem dX5_readText_71 : decode cX5_readText 71 = .ok (.iconst 1, 1) := by decide +kernel
theorem dX5_readText_72 : decode cX5_readText 72 = .ok (.goto 4, 3) := by decide +kernel
theorem dX5_readText_75 : decode cX5_readText 75 = .ok (.iconst 0, 1) := by decide +kernel
theorem dX5_readText_76 : decode cX5_readText 76 = .ok (.istore_n 2, 1) := by decide +kernel
theorem dX5_readText_77 : decode cX5_readText 77 = .ok (.goto (-62), 3) := by decide +kernel
theorem dX5_readText_80 : decode cX5_readText 80 = .ok (.iconst 0, 1) := by decide +kernel
theorem dX5_readText_81 : decode cX5_readText 81 = .ok (.ireturn, 1) := by decide +kernel
theorem dX5_firstError_0 : decode cX5_firstError 0 = .ok (.aload_n 0, 1) := by decide +kernel
theorem dX5_firstError_1 : decode cX5_firstError 1 = .ok (.iconst 0, 1) := by decide +kernel
theorem dX5_firstError_2 : decode cX5_firstError 2 = .ok (.putfield 32, 3) := by decide +kernel
theorem dX5_firstError_5 : decode cX5_firstError 5 = .ok (.aload_n 0, 1) := by decide +kernel
theorem dX5_firstError_6 : decode cX5_firstError 6 = .ok (.iconst 0, 1) := by decide +kernel
theorem dX5_firstError_7 : decode cX5_firstError 7 = .ok (.invokevirtual 155, 3) := by decide +kernel
theorem dX5_firstError_10 : decode cX5_firstError 10 = .ok (.ifCond .eq 10, 3) := by decide +kernel
theorem dX5_firstError_13 : decode cX5_firstError 13 = .ok (.aload_n 0, 1) := by decide +kernel
theorem dX5_firstError_14 : decode cX5_firstError 14 = .ok (.getfield 124, 3) := by decide +kernel
theorem dX5_firstError_17 : decode cX5_firstError 17 = .ok (.goto 7, 3) := by decide +kernel
theorem dX5_firstError_20 : decode cX5_firstError 20 = .ok (.aload_n 0, 1) := by decide +kernel
theorem dX5_firstError_21 : decode cX5_firstError 21 = .ok (.getfield 127, 3) := by decide +kernel
theorem dX5_firstError_24 : decode cX5_firstError 24 = .ok (.ireturn, 1) := by decide +kernel
theorem dX5_play_0 : decode cX5_play 0 = .ok (.aload_n 0, 1) := by decide +kernel
theorem dX5_play_1 : decode cX5_play 1 = .ok (.aload_n 0, 1) := by decide +kernel
theorem dX5_play_2 : decode cX5_play 2 = .ok (.iconst 0, 1) := by decide +kernel
theorem dX5_play_3 : decode cX5_play 3 = .ok (.invokevirtual 155, 3) := by decide +kernel
theorem dX5_play_6 : decode cX5_play 6 = .ok (.ifCond .eq 7, 3) := by decide +kernel
theorem dX5_play_9 : decode cX5_play 9 = .ok (.iconst 0, 1) := by decide +kernel
theorem dX5_play_10 : decode cX5_play 10 = .ok (.goto 4, 3) := by decide +kernel
theorem dX5_play_13 : decode cX5_play 13 = .ok (.iconst 1, 1) := by decide +kernel
theorem dX5_play_14 : decode cX5_play 14 = .ok (.invokevirtual 98, 3) := by decide +kernel
theorem dX5_play_17 : decode cX5_play 17 = .ok (.ifCond .ne 5, 3) := by decide +kernel
theorem dX5_play_20 : decode cX5_play 20 = .ok (.iconst 0, 1) := by decide +kernel
theorem dX5_play_21 : decode cX5_play 21 = .ok (.ireturn, 1) := by decide +kernel
theorem dX5_play_22 : decode cX5_play 22 = .ok (.aload_n 0, 1) := by decide +kernel
theorem dX5_play_23 : decode cX5_play 23 = .ok (.invokevirtual 101, 3) := by decide +kernel
theorem dX5_play_26 : decode cX5_play 26 = .ok (.aload_n 0, 1) := by decide +kernel
theorem dX5_play_27 : decode cX5_play 27 = .ok (.iconst 1, 1) := by decide +kernel
theorem dX5_play_28 : decode cX5_play 28 = .ok (.invokevirtual 155, 3) := by decide +kernel
theorem dX5_play_31 : decode cX5_play 31 = .ok (.istore_n 1, 1) := by decide +kernel
theorem dX5_play_32 : decode cX5_play 32 = .ok (.aload_n 0, 1) := by decide +kernel
theorem dX5_play_33 : decode cX5_play 33 = .ok (.iconst 0, 1) := by decide +kernel
theorem dX5_play_34 : decode cX5_play 34 = .ok (.putfield 124, 3) := by decide +kernel
theorem dX5_play_37 : decode cX5_play 37 = .ok (.iload_n 1, 1) := by decide +kernel
theorem dX5_play_38 : decode cX5_play 38 = .ok (.ifCond .eq 10, 3) := by decide +kernel
theorem dX5_play_41 : decode cX5_play 41 = .ok (.aload_n 0, 1) := by decide +kernel
theorem dX5_play_42 : decode cX5_play 42 = .ok (.getfield 146, 3) := by decide +kernel
theorem dX5_play_45 : decode cX5_play 45 = .ok (.goto 4, 3) := by decide +kernel
theorem dX5_play_48 : decode cX5_play 48 = .ok (.iconst 0, 1) := by decide +kernel
theorem dX5_play_49 : decode cX5_play 49 = .ok (.ireturn, 1) := by decide +kernel
theorem dX5_undo_0 : decode cX5_undo 0 = .ok (.aload_n 0, 1) := by decide +kernel
theorem dX5_undo_1 : decode cX5_undo 1 = .ok (.aload_n 0, 1) := by decide +kernel
theorem dX5_undo_2 : decode cX5_undo 2 = .ok (.getfield 40, 3) := by decide +kernel
theorem dX5_undo_5 : decode cX5_undo 5 = .ok (.ifCond .le 7, 3) := by decide +kernel
theorem dX5_undo_8 : decode cX5_undo 8 = .ok (.iconst 0, 1) := by decide +kernel
theorem dX5_undo_9 : decode cX5_undo 9 = .ok (.goto 4, 3) := by decide +kernel
theorem dX5_undo_12 : decode cX5_undo 12 = .ok (.iconst 1, 1) := by decide +kernel
theorem dX5_undo_13 : decode cX5_undo 13 = .ok (.invokevirtual 98, 3) := by decide +kernel
theorem dX5_undo_16 : decode cX5_undo 16 = .ok (.ifCond .ne 5, 3) := by decide +kernel
theorem dX5_undo_19 : decode cX5_undo 19 = .ok (.iconst 0, 1) := by decide +kernel
theorem dX5_undo_20 : decode cX5_undo 20 = .ok (.ireturn, 1) := by decide +kernel
theorem dX5_undo_21 : decode cX5_undo 21 = .ok (.aload_n 0, 1) := by decide +kernel
theorem dX5_undo_22 : decode cX5_undo 22 = .ok (.dup, 1) := by decide +kernel
theorem dX5_undo_23 : decode cX5_undo 23 = .ok (.getfield 40, 3) := by decide +kernel
theorem dX5_undo_26 : decode cX5_undo 26 = .ok (.iconst 1, 1) := by decide +kernel
theorem dX5_undo_27 : decode cX5_undo 27 = .ok (.isub, 1) := by decide +kernel
theorem dX5_undo_28 : decode cX5_undo 28 = .ok (.putfield 40, 3) := by decide +kernel
theorem dX5_undo_31 : decode cX5_undo 31 = .ok (.aload_n 0, 1) := by decide +kernel
theorem dX5_undo_32 : decode cX5_undo 32 = .ok (.getfield 13, 3) := by decide +kernel
theorem dX5_undo_35 : decode cX5_undo 35 = .ok (.sipush 182, 3) := by decide +kernel
theorem dX5_undo_38 : decode cX5_undo 38 = .ok (.aload_n 0, 1) := by decide +kernel
theorem dX5_undo_39 : decode cX5_undo 39 = .ok (.getfield 40, 3) := by decide +kernel
theorem dX5_undo_42 : decode cX5_undo 42 = .ok (.imul, 1) := by decide +kernel
theorem dX5_undo_43 : decode cX5_undo 43 = .ok (.aload_n 0, 1) := by decide +kernel
theorem dX5_undo_44 : decode cX5_undo 44 = .ok (.getfield 7, 3) := by decide +kernel
theorem dX5_undo_47 : decode cX5_undo 47 = .ok (.iconst 0, 1) := by decide +kernel
theorem dX5_undo_48 : decode cX5_undo 48 = .ok (.invokestatic 43, 3) := by decide +kernel
theorem dX5_undo_51 : decode cX5_undo 51 = .ok (.aload_n 0, 1) := by decide +kernel
theorem dX5_undo_52 : decode cX5_undo 52 = .ok (.getfield 40, 3) := by decide +kernel
theorem dX5_undo_55 : decode cX5_undo 55 = .ok (.ireturn, 1) := by decide +kernel
theorem dX5_keep_0 : decode cX5_keep 0 = .ok (.aload_n 0, 1) := by decide +kernel
theorem dX5_keep_1 : decode cX5_keep 1 = .ok (.iconst 0, 1) := by decide +kernel
theorem dX5_keep_2 : decode cX5_keep 2 = .ok (.putfield 32, 3) := by decide +kernel
theorem dX5_keep_5 : decode cX5_keep 5 = .ok (.aload_n 0, 1) := by decide +kernel
theorem dX5_keep_6 : decode cX5_keep 6 = .ok (.getfield 7, 3) := by decide +kernel
theorem dX5_keep_9 : decode cX5_keep 9 = .ok (.iconst 0, 1) := by decide +kernel
theorem dX5_keep_10 : decode cX5_keep 10 = .ok (.aload_n 0, 1) := by decide +kernel
theorem dX5_keep_11 : decode cX5_keep 11 = .ok (.getfield 16, 3) := by decide +kernel
theorem dX5_keep_14 : decode cX5_keep 14 = .ok (.iconst 0, 1) := by decide +kernel
theorem dX5_keep_15 : decode cX5_keep 15 = .ok (.invokestatic 43, 3) := by decide +kernel
theorem dX5_keep_18 : decode cX5_keep 18 = .ok (.aload_n 0, 1) := by decide +kernel
theorem dX5_keep_19 : decode cX5_keep 19 = .ok (.iconst 1, 1) := by decide +kernel
theorem dX5_keep_20 : decode cX5_keep 20 = .ok (.putfield 159, 3) := by decide +kernel
theorem dX5_keep_23 : decode cX5_keep 23 = .ok (.aload_n 0, 1) := by decide +kernel
theorem dX5_keep_24 : decode cX5_keep 24 = .ok (.getfield 7, 3) := by decide +kernel
theorem dX5_keep_27 : decode cX5_keep 27 = .ok (.iconst 0, 1) := by decide +kernel
theorem dX5_keep_28 : decode cX5_keep 28 = .ok (.iaload, 1) := by decide +kernel
theorem dX5_keep_29 : decode cX5_keep 29 = .ok (.ireturn, 1) := by decide +kernel
theorem dX5_restore_0 : decode cX5_restore 0 = .ok (.aload_n 0, 1) := by decide +kernel
theorem dX5_restore_1 : decode cX5_restore 1 = .ok (.aload_n 0, 1) := by decide +kernel
theorem dX5_restore_2 : decode cX5_restore 2 = .ok (.getfield 159, 3) := by decide +kernel
theorem dX5_restore_5 : decode cX5_restore 5 = .ok (.ifCond .eq 7, 3) := by decide +kernel
theorem dX5_restore_8 : decode cX5_restore 8 = .ok (.iconst 0, 1) := by decide +kernel
theorem dX5_restore_9 : decode cX5_restore 9 = .ok (.goto 4, 3) := by decide +kernel
theorem dX5_restore_12 : decode cX5_restore 12 = .ok (.iconst 1, 1) := by decide +kernel
theorem dX5_restore_13 : decode cX5_restore 13 = .ok (.invokevirtual 98, 3) := by decide +kernel
theorem dX5_restore_16 : decode cX5_restore 16 = .ok (.ifCond .ne 5, 3) := by decide +kernel
theorem dX5_restore_19 : decode cX5_restore 19 = .ok (.iconst 0, 1) := by decide +kernel
theorem dX5_restore_20 : decode cX5_restore 20 = .ok (.ireturn, 1) := by decide +kernel
theorem dX5_restore_21 : decode cX5_restore 21 = .ok (.aload_n 0, 1) := by decide +kernel
theorem dX5_restore_22 : decode cX5_restore 22 = .ok (.invokevirtual 101, 3) := by decide +kernel
theorem dX5_restore_25 : decode cX5_restore 25 = .ok (.aload_n 0, 1) := by decide +kernel
theorem dX5_restore_26 : decode cX5_restore 26 = .ok (.getfield 16, 3) := by decide +kernel
theorem dX5_restore_29 : decode cX5_restore 29 = .ok (.iconst 0, 1) := by decide +kernel
theorem dX5_restore_30 : decode cX5_restore 30 = .ok (.aload_n 0, 1) := by decide +kernel
theorem dX5_restore_31 : decode cX5_restore 31 = .ok (.getfield 7, 3) := by decide +kernel
theorem dX5_restore_34 : decode cX5_restore 34 = .ok (.iconst 0, 1) := by decide +kernel
theorem dX5_restore_35 : decode cX5_restore 35 = .ok (.invokestatic 43, 3) := by decide +kernel
theorem dX5_restore_38 : decode cX5_restore 38 = .ok (.aload_n 0, 1) := by decide +kernel
theorem dX5_restore_39 : decode cX5_restore 39 = .ok (.getfield 7, 3) := by decide +kernel
theorem dX5_restore_42 : decode cX5_restore 42 = .ok (.iconst 0, 1) := by decide +kernel
theorem dX5_restore_43 : decode cX5_restore 43 = .ok (.iaload, 1) := by decide +kernel
theorem dX5_restore_44 : decode cX5_restore 44 = .ok (.ireturn, 1) := by decide +kernel
theorem dX5_millTold_0 : decode cX5_millTold 0 = .ok (.iload_n 2, 1) := by decide +kernel
theorem dX5_millTold_1 : decode cX5_millTold 1 = .ok (.tableswitch 65 7 10 #[31, 39, 49, 57], 31) := by decide +kernel
theorem dX5_millTold_32 : decode cX5_millTold 32 = .ok (.aload_n 0, 1) := by decide +kernel
theorem dX5_millTold_33 : decode cX5_millTold 33 = .ok (.iload_n 1, 1) := by decide +kernel
theorem dX5_millTold_34 : decode cX5_millTold 34 = .ok (.bipush 9, 2) := by decide +kernel
theorem dX5_millTold_36 : decode cX5_millTold 36 = .ok (.invokevirtual 47, 3) := by decide +kernel
theorem dX5_millTold_39 : decode cX5_millTold 39 = .ok (.ireturn, 1) := by decide +kernel
theorem dX5_millTold_40 : decode cX5_millTold 40 = .ok (.aload_n 0, 1) := by decide +kernel
theorem dX5_millTold_41 : decode cX5_millTold 41 = .ok (.iload_n 1, 1) := by decide +kernel
theorem dX5_millTold_42 : decode cX5_millTold 42 = .ok (.invokevirtual 64, 3) := by decide +kernel
theorem dX5_millTold_45 : decode cX5_millTold 45 = .ok (.sipush 1000, 3) := by decide +kernel
theorem dX5_millTold_48 : decode cX5_millTold 48 = .ok (.iadd, 1) := by decide +kernel
theorem dX5_millTold_49 : decode cX5_millTold 49 = .ok (.ireturn, 1) := by decide +kernel
theorem dX5_millTold_50 : decode cX5_millTold 50 = .ok (.aload_n 0, 1) := by decide +kernel
theorem dX5_millTold_51 : decode cX5_millTold 51 = .ok (.iload_n 1, 1) := by decide +kernel
theorem dX5_millTold_52 : decode cX5_millTold 52 = .ok (.bipush 7, 2) := by decide +kernel
theorem dX5_millTold_54 : decode cX5_millTold 54 = .ok (.invokevirtual 47, 3) := by decide +kernel
theorem dX5_millTold_57 : decode cX5_millTold 57 = .ok (.ireturn, 1) := by decide +kernel
theorem dX5_millTold_58 : decode cX5_millTold 58 = .ok (.aload_n 0, 1) := by decide +kernel
theorem dX5_millTold_59 : decode cX5_millTold 59 = .ok (.iload_n 1, 1) := by decide +kernel
theorem dX5_millTold_60 : decode cX5_millTold 60 = .ok (.bipush 8, 2) := by decide +kernel
theorem dX5_millTold_62 : decode cX5_millTold 62 = .ok (.invokevirtual 47, 3) := by decide +kernel
theorem dX5_millTold_65 : decode cX5_millTold 65 = .ok (.ireturn, 1) := by decide +kernel
theorem dX5_millTold_66 : decode cX5_millTold 66 = .ok (.aload_n 0, 1) := by decide +kernel
theorem dX5_millTold_67 : decode cX5_millTold 67 = .ok (.iload_n 1, 1) := by decide +kernel
theorem dX5_millTold_68 : decode cX5_millTold 68 = .ok (.iload_n 2, 1) := by decide +kernel
theorem dX5_millTold_69 : decode cX5_millTold 69 = .ok (.invokevirtual 47, 3) := by decide +kernel
theorem dX5_millTold_72 : decode cX5_millTold 72 = .ok (.ireturn, 1) := by decide +kernel
theorem dX5_mill_0 : decode cX5_mill 0 = .ok (.aload_n 0, 1) := by decide +kernel
theorem dX5_mill_1 : decode cX5_mill 1 = .ok (.iload_n 1, 1) := by decide +kernel
theorem dX5_mill_2 : decode cX5_mill 2 = .ok (.invokestatic 94, 3) := by decide +kernel
theorem dX5_mill_5 : decode cX5_mill 5 = .ok (.ifCond .ne 7, 3) := by decide +kernel
theorem dX5_mill_8 : decode cX5_mill 8 = .ok (.iconst 1, 1) := by decide +kernel
theorem dX5_mill_9 : decode cX5_mill 9 = .ok (.goto 18, 3) := by decide +kernel
theorem dX5_mill_12 : decode cX5_mill 12 = .ok (.iload_n 2, 1) := by decide +kernel
theorem dX5_mill_13 : decode cX5_mill 13 = .ok (.iconst 0, 1) := by decide +kernel
theorem dX5_mill_14 : decode cX5_mill 14 = .ok (.bipush 10, 2) := by decide +kernel
theorem dX5_mill_16 : decode cX5_mill 16 = .ok (.invokestatic 36, 3) := by decide +kernel
theorem dX5_mill_19 : decode cX5_mill 19 = .ok (.ifCond .ne 7, 3) := by decide +kernel
theorem dX5_mill_22 : decode cX5_mill 22 = .ok (.iconst 2, 1) := by decide +kernel
theorem dX5_mill_23 : decode cX5_mill 23 = .ok (.goto 4, 3) := by decide +kernel
theorem dX5_mill_26 : decode cX5_mill 26 = .ok (.iconst 0, 1) := by decide +kernel
theorem dX5_mill_27 : decode cX5_mill 27 = .ok (.invokevirtual 98, 3) := by decide +kernel
theorem dX5_mill_30 : decode cX5_mill 30 = .ok (.ifCond .eq 12, 3) := by decide +kernel
theorem dX5_mill_33 : decode cX5_mill 33 = .ok (.aload_n 0, 1) := by decide +kernel
theorem dX5_mill_34 : decode cX5_mill 34 = .ok (.iload_n 1, 1) := by decide +kernel
theorem dX5_mill_35 : decode cX5_mill 35 = .ok (.iload_n 2, 1) := by decide +kernel
theorem dX5_mill_36 : decode cX5_mill 36 = .ok (.invokevirtual 163, 3) := by decide +kernel
theorem dX5_mill_39 : decode cX5_mill 39 = .ok (.goto 4, 3) := by decide +kernel
theorem dX5_mill_42 : decode cX5_mill 42 = .ok (.iconst 0, 1) := by decide +kernel
theorem dX5_mill_43 : decode cX5_mill 43 = .ok (.ireturn, 1) := by decide +kernel
theorem dX5_sackTold_0 : decode cX5_sackTold 0 = .ok (.iload_n 2, 1) := by decide +kernel
theorem dX5_sackTold_1 : decode cX5_sackTold 1 = .ok (.aload_n 0, 1) := by decide +kernel
theorem dX5_sackTold_2 : decode cX5_sackTold 2 = .ok (.iload_n 1, 1) := by decide +kernel
theorem dX5_sackTold_3 : decode cX5_sackTold 3 = .ok (.bipush 9, 2) := by decide +kernel
theorem dX5_sackTold_5 : decode cX5_sackTold 5 = .ok (.invokevirtual 47, 3) := by decide +kernel
theorem dX5_sackTold_8 : decode cX5_sackTold 8 = .ok (.if_icmp .ge 19, 3) := by decide +kernel
theorem dX5_sackTold_11 : decode cX5_sackTold 11 = .ok (.aload_n 0, 1) := by decide +kernel
theorem dX5_sackTold_12 : decode cX5_sackTold 12 = .ok (.getfield 7, 3) := by decide +kernel
theorem dX5_sackTold_15 : decode cX5_sackTold 15 = .ok (.aload_n 0, 1) := by decide +kernel
theorem dX5_sackTold_16 : decode cX5_sackTold 16 = .ok (.iload_n 1, 1) := by decide +kernel
theorem dX5_sackTold_17 : decode cX5_sackTold 17 = .ok (.iload_n 2, 1) := by decide +kernel
theorem dX5_sackTold_18 : decode cX5_sackTold 18 = .ok (.invokevirtual 51, 3) := by decide +kernel
theorem dX5_sackTold_21 : decode cX5_sackTold 21 = .ok (.iload_n 3, 1) := by decide +kernel
theorem dX5_sackTold_22 : decode cX5_sackTold 22 = .ok (.iadd, 1) := by decide +kernel
theorem dX5_sackTold_23 : decode cX5_sackTold 23 = .ok (.iaload, 1) := by decide +kernel
theorem dX5_sackTold_24 : decode cX5_sackTold 24 = .ok (.goto 4, 3) := by decide +kernel
theorem dX5_sackTold_27 : decode cX5_sackTold 27 = .ok (.iconst (-1), 1) := by decide +kernel
theorem dX5_sackTold_28 : decode cX5_sackTold 28 = .ok (.ireturn, 1) := by decide +kernel
theorem dX5_sackAt_0 : decode cX5_sackAt 0 = .ok (.aload_n 0, 1) := by decide +kernel
theorem dX5_sackAt_1 : decode cX5_sackAt 1 = .ok (.iload_n 1, 1) := by decide +kernel
theorem dX5_sackAt_2 : decode cX5_sackAt 2 = .ok (.invokestatic 94, 3) := by decide +kernel
theorem dX5_sackAt_5 : decode cX5_sackAt 5 = .ok (.ifCond .ne 7, 3) := by decide +kernel
theorem dX5_sackAt_8 : decode cX5_sackAt 8 = .ok (.iconst 1, 1) := by decide +kernel
theorem dX5_sackAt_9 : decode cX5_sackAt 9 = .ok (.goto 12, 3) := by decide +kernel
theorem dX5_sackAt_12 : decode cX5_sackAt 12 = .ok (.iload_n 2, 1) := by decide +kernel
theorem dX5_sackAt_13 : decode cX5_sackAt 13 = .ok (.ifCond .ge 7, 3) := by decide +kernel
theorem dX5_sackAt_16 : decode cX5_sackAt 16 = .ok (.iconst 2, 1) := by decide +kernel
theorem dX5_sackAt_17 : decode cX5_sackAt 17 = .ok (.goto 4, 3) := by decide +kernel
theorem dX5_sackAt_20 : decode cX5_sackAt 20 = .ok (.iconst 0, 1) := by decide +kernel
theorem dX5_sackAt_21 : decode cX5_sackAt 21 = .ok (.invokevirtual 98, 3) := by decide +kernel
theorem dX5_sackAt_24 : decode cX5_sackAt 24 = .ok (.ifCond .eq 13, 3) := by decide +kernel
theorem dX5_sackAt_27 : decode cX5_sackAt 27 = .ok (.aload_n 0, 1) := by decide +kernel
theorem dX5_sackAt_28 : decode cX5_sackAt 28 = .ok (.iload_n 1, 1) := by decide +kernel
theorem dX5_sackAt_29 : decode cX5_sackAt 29 = .ok (.iload_n 2, 1) := by decide +kernel
theorem dX5_sackAt_30 : decode cX5_sackAt 30 = .ok (.iconst 0, 1) := by decide +kernel
theorem dX5_sackAt_31 : decode cX5_sackAt 31 = .ok (.invokevirtual 166, 3) := by decide +kernel
theorem dX5_sackAt_34 : decode cX5_sackAt 34 = .ok (.goto 4, 3) := by decide +kernel
theorem dX5_sackAt_37 : decode cX5_sackAt 37 = .ok (.iconst 0, 1) := by decide +kernel
theorem dX5_sackAt_38 : decode cX5_sackAt 38 = .ok (.ireturn, 1) := by decide +kernel
theorem dX5_sackOf_0 : decode cX5_sackOf 0 = .ok (.aload_n 0, 1) := by decide +kernel
theorem dX5_sackOf_1 : decode cX5_sackOf 1 = .ok (.iload_n 2, 1) := by decide +kernel
theorem dX5_sackOf_2 : decode cX5_sackOf 2 = .ok (.iconst 0, 1) := by decide +kernel
theorem dX5_sackOf_3 : decode cX5_sackOf 3 = .ok (.iconst 4, 1) := by decide +kernel
theorem dX5_sackOf_4 : decode cX5_sackOf 4 = .ok (.invokestatic 36, 3) := by decide +kernel
theorem dX5_sackOf_7 : decode cX5_sackOf 7 = .ok (.ifCond .eq 7, 3) := by decide +kernel
theorem dX5_sackOf_10 : decode cX5_sackOf 10 = .ok (.iconst 0, 1) := by decide +kernel
theorem dX5_sackOf_11 : decode cX5_sackOf 11 = .ok (.goto 4, 3) := by decide +kernel
theorem dX5_sackOf_14 : decode cX5_sackOf 14 = .ok (.iconst 1, 1) := by decide +kernel
theorem dX5_sackOf_15 : decode cX5_sackOf 15 = .ok (.invokevirtual 98, 3) := by decide +kernel
theorem dX5_sackOf_18 : decode cX5_sackOf 18 = .ok (.ifCond .ne 5, 3) := by decide +kernel
theorem dX5_sackOf_21 : decode cX5_sackOf 21 = .ok (.iconst 0, 1) := by decide +kernel
theorem dX5_sackOf_22 : decode cX5_sackOf 22 = .ok (.ireturn, 1) := by decide +kernel
theorem dX5_sackOf_23 : decode cX5_sackOf 23 = .ok (.aload_n 0, 1) := by decide +kernel
theorem dX5_sackOf_24 : decode cX5_sackOf 24 = .ok (.iload_n 1, 1) := by decide +kernel
theorem dX5_sackOf_25 : decode cX5_sackOf 25 = .ok (.invokevirtual 121, 3) := by decide +kernel
theorem dX5_sackOf_28 : decode cX5_sackOf 28 = .ok (.istore_n 3, 1) := by decide +kernel
theorem dX5_sackOf_29 : decode cX5_sackOf 29 = .ok (.iload_n 3, 1) := by decide +kernel
theorem dX5_sackOf_30 : decode cX5_sackOf 30 = .ok (.iconst (-1), 1) := by decide +kernel
theorem dX5_sackOf_31 : decode cX5_sackOf 31 = .ok (.if_icmp .ne 5, 3) := by decide +kernel
theorem dX5_sackOf_34 : decode cX5_sackOf 34 = .ok (.iconst (-1), 1) := by decide +kernel
theorem dX5_sackOf_35 : decode cX5_sackOf 35 = .ok (.ireturn, 1) := by decide +kernel
theorem dX5_sackOf_36 : decode cX5_sackOf 36 = .ok (.iload_n 2, 1) := by decide +kernel
theorem dX5_sackOf_37 : decode cX5_sackOf 37 = .ok (.ifCond .ne 10, 3) := by decide +kernel
theorem dX5_sackOf_40 : decode cX5_sackOf 40 = .ok (.iload_n 3, 1) := by decide +kernel
theorem dX5_sackOf_41 : decode cX5_sackOf 41 = .ok (.bipush 6, 2) := by decide +kernel
theorem dX5_sackOf_43 : decode cX5_sackOf 43 = .ok (.idiv, 1) := by decide +kernel
theorem dX5_sackOf_44 : decode cX5_sackOf 44 = .ok (.goto 28, 3) := by decide +kernel
theorem dX5_sackOf_47 : decode cX5_sackOf 47 = .ok (.iload_n 2, 1) := by decide +kernel
theorem dX5_sackOf_48 : decode cX5_sackOf 48 = .ok (.iconst 4, 1) := by decide +kernel
theorem dX5_sackOf_49 : decode cX5_sackOf 49 = .ok (.if_icmp .ne 10, 3) := by decide +kernel
theorem dX5_sackOf_52 : decode cX5_sackOf 52 = .ok (.iload_n 3, 1) := by decide +kernel
theorem dX5_sackOf_53 : decode cX5_sackOf 53 = .ok (.bipush 6, 2) := by decide +kernel
theorem dX5_sackOf_55 : decode cX5_sackOf 55 = .ok (.irem, 1) := by decide +kernel
theorem dX5_sackOf_56 : decode cX5_sackOf 56 = .ok (.goto 16, 3) := by decide +kernel
theorem dX5_sackOf_59 : decode cX5_sackOf 59 = .ok (.aload_n 0, 1) := by decide +kernel
theorem dX5_sackOf_60 : decode cX5_sackOf 60 = .ok (.iload_n 3, 1) := by decide +kernel
theorem dX5_sackOf_61 : decode cX5_sackOf 61 = .ok (.bipush 6, 2) := by decide +kernel
theorem dX5_sackOf_63 : decode cX5_sackOf 63 = .ok (.idiv, 1) := by decide +kernel
theorem dX5_sackOf_64 : decode cX5_sackOf 64 = .ok (.iload_n 3, 1) := by decide +kernel
theorem dX5_sackOf_65 : decode cX5_sackOf 65 = .ok (.bipush 6, 2) := by decide +kernel
theorem dX5_sackOf_67 : decode cX5_sackOf 67 = .ok (.irem, 1) := by decide +kernel
theorem dX5_sackOf_68 : decode cX5_sackOf 68 = .ok (.iload_n 2, 1) := by decide +kernel
theorem dX5_sackOf_69 : decode cX5_sackOf 69 = .ok (.invokevirtual 166, 3) := by decide +kernel
theorem dX5_sackOf_72 : decode cX5_sackOf 72 = .ok (.ireturn, 1) := by decide +kernel
theorem dX5_whyNot_0 : decode cX5_whyNot 0 = .ok (.aload_n 0, 1) := by decide +kernel
theorem dX5_whyNot_1 : decode cX5_whyNot 1 = .ok (.iload_n 1, 1) := by decide +kernel
theorem dX5_whyNot_2 : decode cX5_whyNot 2 = .ok (.invokestatic 94, 3) := by decide +kernel
theorem dX5_whyNot_5 : decode cX5_whyNot 5 = .ok (.ifCond .eq 7, 3) := by decide +kernel
theorem dX5_whyNot_8 : decode cX5_whyNot 8 = .ok (.iconst 0, 1) := by decide +kernel
theorem dX5_whyNot_9 : decode cX5_whyNot 9 = .ok (.goto 4, 3) := by decide +kernel
theorem dX5_whyNot_12 : decode cX5_whyNot 12 = .ok (.iconst 1, 1) := by decide +kernel
theorem dX5_whyNot_13 : decode cX5_whyNot 13 = .ok (.invokevirtual 98, 3) := by decide +kernel
theorem dX5_whyNot_16 : decode cX5_whyNot 16 = .ok (.ifCond .eq 11, 3) := by decide +kernel
theorem dX5_whyNot_19 : decode cX5_whyNot 19 = .ok (.aload_n 0, 1) := by decide +kernel
theorem dX5_whyNot_20 : decode cX5_whyNot 20 = .ok (.iload_n 1, 1) := by decide +kernel
theorem dX5_whyNot_21 : decode cX5_whyNot 21 = .ok (.invokevirtual 67, 3) := by decide +kernel
theorem dX5_whyNot_24 : decode cX5_whyNot 24 = .ok (.goto 4, 3) := by decide +kernel
theorem dX5_whyNot_27 : decode cX5_whyNot 27 = .ok (.iconst 0, 1) := by decide +kernel
theorem dX5_whyNot_28 : decode cX5_whyNot 28 = .ok (.ireturn, 1) := by decide +kernel
theorem dX5_tide_0 : decode cX5_tide 0 = .ok (.aload_n 0, 1) := by decide +kernel
theorem dX5_tide_1 : decode cX5_tide 1 = .ok (.iload_n 1, 1) := by decide +kernel
theorem dX5_tide_2 : decode cX5_tide 2 = .ok (.ifCond .ge 7, 3) := by decide +kernel
theorem dX5_tide_5 : decode cX5_tide 5 = .ok (.iconst 1, 1) := by decide +kernel
theorem dX5_tide_6 : decode cX5_tide 6 = .ok (.goto 4, 3) := by decide +kernel
theorem dX5_tide_9 : decode cX5_tide 9 = .ok (.iconst 0, 1) := by decide +kernel
theorem dX5_tide_10 : decode cX5_tide 10 = .ok (.invokevirtual 98, 3) := by decide +kernel
theorem dX5_tide_13 : decode cX5_tide 13 = .ok (.ifCond .eq 11, 3) := by decide +kernel
theorem dX5_tide_16 : decode cX5_tide 16 = .ok (.aload_n 0, 1) := by decide +kernel
theorem dX5_tide_17 : decode cX5_tide 17 = .ok (.iload_n 1, 1) := by decide +kernel
theorem dX5_tide_18 : decode cX5_tide 18 = .ok (.invokevirtual 60, 3) := by decide +kernel
theorem dX5_tide_21 : decode cX5_tide 21 = .ok (.goto 4, 3) := by decide +kernel
theorem dX5_tide_24 : decode cX5_tide 24 = .ok (.iconst 0, 1) := by decide +kernel
theorem dX5_tide_25 : decode cX5_tide 25 = .ok (.ireturn, 1) := by decide +kernel
theorem dX5_sum_0 : decode cX5_sum 0 = .ok (.iconst 0, 1) := by decide +kernel
theorem dX5_sum_1 : decode cX5_sum 1 = .ok (.istore_n 2, 1) := by decide +kernel
theorem dX5_sum_2 : decode cX5_sum 2 = .ok (.iconst 0, 1) := by decide +kernel
theorem dX5_sum_3 : decode cX5_sum 3 = .ok (.istore_n 3, 1) := by decide +kernel
theorem dX5_sum_4 : decode cX5_sum 4 = .ok (.iload_n 3, 1) := by decide +kernel
theorem dX5_sum_5 : decode cX5_sum 5 = .ok (.iconst 5, 1) := by decide +kernel
theorem dX5_sum_6 : decode cX5_sum 6 = .ok (.if_icmp .ge 18, 3) := by decide +kernel
theorem dX5_sum_9 : decode cX5_sum 9 = .ok (.iload_n 2, 1) := by decide +kernel
theorem dX5_sum_10 : decode cX5_sum 10 = .ok (.aload_n 0, 1) := by decide +kernel
theorem dX5_sum_11 : decode cX5_sum 11 = .ok (.iload_n 3, 1) := by decide +kernel
theorem dX5_sum_12 : decode cX5_sum 12 = .ok (.iload_n 1, 1) := by decide +kernel
theorem dX5_sum_13 : decode cX5_sum 13 = .ok (.invokevirtual 47, 3) := by decide +kernel
theorem dX5_sum_16 : decode cX5_sum 16 = .ok (.iadd, 1) := by decide +kernel
theorem dX5_sum_17 : decode cX5_sum 17 = .ok (.istore_n 2, 1) := by decide +kernel
theorem dX5_sum_18 : decode cX5_sum 18 = .ok (.iinc 3 1, 3) := by decide +kernel
theorem dX5_sum_21 : decode cX5_sum 21 = .ok (.goto (-17), 3) := by decide +kernel
theorem dX5_sum_24 : decode cX5_sum 24 = .ok (.iload_n 2, 1) := by decide +kernel
theorem dX5_sum_25 : decode cX5_sum 25 = .ok (.ireturn, 1) := by decide +kernel
theorem dX5_countTold_0 : decode cX5_countTold 0 = .ok (.iload_n 1, 1) := by decide +kernel
theorem dX5_countTold_1 : decode cX5_countTold 1 = .ok (.tableswitch 140 0 13 #[71, 78, 87, 87, 87, 94, 100, 107, 114, 114, 114, 127, 127, 127], 71) := by decide +kernel
theorem dX5_countTold_72 : decode cX5_countTold 72 = .ok (.aload_n 0, 1) := by decide +kernel
theorem dX5_countTold_73 : decode cX5_countTold 73 = .ok (.getfield 7, 3) := by decide +kernel
theorem dX5_countTold_76 : decode cX5_countTold 76 = .ok (.iconst 0, 1) := by decide +kernel
theorem dX5_countTold_77 : decode cX5_countTold 77 = .ok (.iaload, 1) := by decide +kernel
theorem dX5_countTold_78 : decode cX5_countTold 78 = .ok (.ireturn, 1) := by decide +kernel
theorem dX5_countTold_79 : decode cX5_countTold 79 = .ok (.aload_n 0, 1) := by decide +kernel
theorem dX5_countTold_80 : decode cX5_countTold 80 = .ok (.getfield 7, 3) := by decide +kernel
theorem dX5_countTold_83 : decode cX5_countTold 83 = .ok (.iconst 1, 1) := by decide +kernel
theorem dX5_countTold_84 : decode cX5_countTold 84 = .ok (.iaload, 1) := by decide +kernel
theorem dX5_countTold_85 : decode cX5_countTold 85 = .ok (.iconst 1, 1) := by decide +kernel
theorem dX5_countTold_86 : decode cX5_countTold 86 = .ok (.isub, 1) := by decide +kernel
theorem dX5_countTold_87 : decode cX5_countTold 87 = .ok (.ireturn, 1) := by decide +kernel
theorem dX5_countTold_88 : decode cX5_countTold 88 = .ok (.aload_n 0, 1) := by decide +kernel
theorem dX5_countTold_89 : decode cX5_countTold 89 = .ok (.getfield 7, 3) := by decide +kernel
theorem dX5_countTold_92 : decode cX5_countTold 92 = .ok (.iload_n 1, 1) := by decide +kernel
theorem dX5_countTold_93 : decode cX5_countTold 93 = .ok (.iaload, 1) := by decide +kernel
theorem dX5_countTold_94 : decode cX5_countTold 94 = .ok (.ireturn, 1) := by decide +kernel
theorem dX5_countTold_95 : decode cX5_countTold 95 = .ok (.aload_n 0, 1) := by decide +kernel
theorem dX5_countTold_96 : decode cX5_countTold 96 = .ok (.iconst 1, 1) := by decide +kernel
theorem dX5_countTold_97 : decode cX5_countTold 97 = .ok (.invokevirtual 169, 3) := by decide +kernel
theorem dX5_countTold_100 : decode cX5_countTold 100 = .ok (.ireturn, 1) := by decide +kernel
theorem dX5_countTold_101 : decode cX5_countTold 101 = .ok (.aload_n 0, 1) := by decide +kernel
theorem dX5_countTold_102 : decode cX5_countTold 102 = .ok (.getfield 7, 3) := by decide +kernel
theorem dX5_countTold_105 : decode cX5_countTold 105 = .ok (.iconst 5, 1) := by decide +kernel
theorem dX5_countTold_106 : decode cX5_countTold 106 = .ok (.iaload, 1) := by decide +kernel
theorem dX5_countTold_107 : decode cX5_countTold 107 = .ok (.ireturn, 1) := by decide +kernel
theorem dX5_countTold_108 : decode cX5_countTold 108 = .ok (.aload_n 0, 1) := by decide +kernel
theorem dX5_countTold_109 : decode cX5_countTold 109 = .ok (.bipush 9, 2) := by decide +kernel
theorem dX5_countTold_111 : decode cX5_countTold 111 = .ok (.invokevirtual 169, 3) := by decide +kernel
theorem dX5_countTold_114 : decode cX5_countTold 114 = .ok (.ireturn, 1) := by decide +kernel
theorem dX5_countTold_115 : decode cX5_countTold 115 = .ok (.aload_n 0, 1) := by decide +kernel
theorem dX5_countTold_116 : decode cX5_countTold 116 = .ok (.getfield 7, 3) := by decide +kernel
theorem dX5_countTold_119 : decode cX5_countTold 119 = .ok (.bipush 6, 2) := by decide +kernel
theorem dX5_countTold_121 : decode cX5_countTold 121 = .ok (.iload_n 1, 1) := by decide +kernel
theorem dX5_countTold_122 : decode cX5_countTold 122 = .ok (.iadd, 1) := by decide +kernel
theorem dX5_countTold_123 : decode cX5_countTold 123 = .ok (.bipush 8, 2) := by decide +kernel
theorem dX5_countTold_125 : decode cX5_countTold 125 = .ok (.isub, 1) := by decide +kernel
theorem dX5_countTold_126 : decode cX5_countTold 126 = .ok (.iaload, 1) := by decide +kernel
theorem dX5_countTold_127 : decode cX5_countTold 127 = .ok (.ireturn, 1) := by decide +kernel
theorem dX5_countTold_128 : decode cX5_countTold 128 = .ok (.aload_n 0, 1) := by decide +kernel
theorem dX5_countTold_129 : decode cX5_countTold 129 = .ok (.getfield 7, 3) := by decide +kernel
theorem dX5_countTold_132 : decode cX5_countTold 132 = .ok (.bipush 9, 2) := by decide +kernel
theorem dX5_countTold_134 : decode cX5_countTold 134 = .ok (.iload_n 1, 1) := by decide +kernel
theorem dX5_countTold_135 : decode cX5_countTold 135 = .ok (.iadd, 1) := by decide +kernel
theorem dX5_countTold_136 : decode cX5_countTold 136 = .ok (.bipush 11, 2) := by decide +kernel
theorem dX5_countTold_138 : decode cX5_countTold 138 = .ok (.isub, 1) := by decide +kernel
theorem dX5_countTold_139 : decode cX5_countTold 139 = .ok (.iaload, 1) := by decide +kernel
theorem dX5_countTold_140 : decode cX5_countTold 140 = .ok (.ireturn, 1) := by decide +kernel
theorem dX5_countTold_141 : decode cX5_countTold 141 = .ok (.aload_n 0, 1) := by decide +kernel
theorem dX5_countTold_142 : decode cX5_countTold 142 = .ok (.getfield 40, 3) := by decide +kernel
theorem dX5_countTold_145 : decode cX5_countTold 145 = .ok (.ireturn, 1) := by decide +kernel
theorem dX5_count_0 : decode cX5_count 0 = .ok (.aload_n 0, 1) := by decide +kernel
theorem dX5_count_1 : decode cX5_count 1 = .ok (.iload_n 1, 1) := by decide +kernel
theorem dX5_count_2 : decode cX5_count 2 = .ok (.iconst 0, 1) := by decide +kernel
theorem dX5_count_3 : decode cX5_count 3 = .ok (.bipush 14, 2) := by decide +kernel
theorem dX5_count_5 : decode cX5_count 5 = .ok (.invokestatic 36, 3) := by decide +kernel
theorem dX5_count_8 : decode cX5_count 8 = .ok (.ifCond .eq 7, 3) := by decide +kernel
theorem dX5_count_11 : decode cX5_count 11 = .ok (.iconst 0, 1) := by decide +kernel
theorem dX5_count_12 : decode cX5_count 12 = .ok (.goto 4, 3) := by decide +kernel
theorem dX5_count_15 : decode cX5_count 15 = .ok (.iconst 1, 1) := by decide +kernel
theorem dX5_count_16 : decode cX5_count 16 = .ok (.invokevirtual 98, 3) := by decide +kernel
theorem dX5_count_19 : decode cX5_count 19 = .ok (.ifCond .eq 11, 3) := by decide +kernel
theorem dX5_count_22 : decode cX5_count 22 = .ok (.aload_n 0, 1) := by decide +kernel
theorem dX5_count_23 : decode cX5_count 23 = .ok (.iload_n 1, 1) := by decide +kernel
theorem dX5_count_24 : decode cX5_count 24 = .ok (.invokevirtual 172, 3) := by decide +kernel
theorem dX5_count_27 : decode cX5_count 27 = .ok (.goto 4, 3) := by decide +kernel
theorem dX5_count_30 : decode cX5_count 30 = .ok (.iconst 0, 1) := by decide +kernel
theorem dX5_count_31 : decode cX5_count 31 = .ok (.ireturn, 1) := by decide +kernel
theorem dX5_next_0 : decode cX5_next 0 = .ok (.aload_n 0, 1) := by decide +kernel
theorem dX5_next_1 : decode cX5_next 1 = .ok (.iload_n 1, 1) := by decide +kernel
theorem dX5_next_2 : decode cX5_next 2 = .ok (.ifCond .ge 7, 3) := by decide +kernel
theorem dX5_next_5 : decode cX5_next 5 = .ok (.iconst 1, 1) := by decide +kernel
theorem dX5_next_6 : decode cX5_next 6 = .ok (.goto 4, 3) := by decide +kernel
theorem dX5_next_9 : decode cX5_next 9 = .ok (.iconst 0, 1) := by decide +kernel
theorem dX5_next_10 : decode cX5_next 10 = .ok (.invokevirtual 98, 3) := by decide +kernel
theorem dX5_next_13 : decode cX5_next 13 = .ok (.ifCond .eq 11, 3) := by decide +kernel
theorem dX5_next_16 : decode cX5_next 16 = .ok (.aload_n 0, 1) := by decide +kernel
theorem dX5_next_17 : decode cX5_next 17 = .ok (.iload_n 1, 1) := by decide +kernel
theorem dX5_next_18 : decode cX5_next 18 = .ok (.invokevirtual 85, 3) := by decide +kernel
theorem dX5_next_21 : decode cX5_next 21 = .ok (.goto 4, 3) := by decide +kernel
theorem dX5_next_24 : decode cX5_next 24 = .ok (.iconst 0, 1) := by decide +kernel
theorem dX5_next_25 : decode cX5_next 25 = .ok (.ireturn, 1) := by decide +kernel
theorem dX5_chosen_0 : decode cX5_chosen 0 = .ok (.aload_n 0, 1) := by decide +kernel
theorem dX5_chosen_1 : decode cX5_chosen 1 = .ok (.iconst 0, 1) := by decide +kernel
theorem dX5_chosen_2 : decode cX5_chosen 2 = .ok (.putfield 32, 3) := by decide +kernel
theorem dX5_chosen_5 : decode cX5_chosen 5 = .ok (.aload_n 0, 1) := by decide +kernel
theorem dX5_chosen_6 : decode cX5_chosen 6 = .ok (.iconst 0, 1) := by decide +kernel
theorem dX5_chosen_7 : decode cX5_chosen 7 = .ok (.invokevirtual 85, 3) := by decide +kernel
theorem dX5_chosen_10 : decode cX5_chosen 10 = .ok (.ireturn, 1) := by decide +kernel
theorem dX5_wouldBring_0 : decode cX5_wouldBring 0 = .ok (.iload_n 2, 1) := by decide +kernel
theorem dX5_wouldBring_1 : decode cX5_wouldBring 1 = .ok (.ifCond .ne 8, 3) := by decide +kernel
theorem dX5_wouldBring_4 : decode cX5_wouldBring 4 = .ok (.bipush 6, 2) := by decide +kernel
theorem dX5_wouldBring_6 : decode cX5_wouldBring 6 = .ok (.goto 23, 3) := by decide +kernel
theorem dX5_wouldBring_9 : decode cX5_wouldBring 9 = .ok (.iload_n 2, 1) := by decide +kernel
theorem dX5_wouldBring_10 : decode cX5_wouldBring 10 = .ok (.iconst 1, 1) := by decide +kernel
theorem dX5_wouldBring_11 : decode cX5_wouldBring 11 = .ok (.if_icmp .ne 8, 3) := by decide +kernel
theorem dX5_wouldBring_14 : decode cX5_wouldBring 14 = .ok (.bipush 7, 2) := by decide +kernel
theorem dX5_wouldBring_16 : decode cX5_wouldBring 16 = .ok (.goto 13, 3) := by decide +kernel
theorem dX5_wouldBring_19 : decode cX5_wouldBring 19 = .ok (.iload_n 2, 1) := by decide +kernel
theorem dX5_wouldBring_20 : decode cX5_wouldBring 20 = .ok (.iconst 2, 1) := by decide +kernel
theorem dX5_wouldBring_21 : decode cX5_wouldBring 21 = .ok (.if_icmp .ne 7, 3) := by decide +kernel
theorem dX5_wouldBring_24 : decode cX5_wouldBring 24 = .ok (.iconst 2, 1) := by decide +kernel
theorem dX5_wouldBring_25 : decode cX5_wouldBring 25 = .ok (.goto 4, 3) := by decide +kernel
theorem dX5_wouldBring_28 : decode cX5_wouldBring 28 = .ok (.iconst 4, 1) := by decide +kernel
theorem dX5_wouldBring_29 : decode cX5_wouldBring 29 = .ok (.istore_n 3, 1) := by decide +kernel
theorem dX5_wouldBring_30 : decode cX5_wouldBring 30 = .ok (.aload_n 0, 1) := by decide +kernel
theorem dX5_wouldBring_31 : decode cX5_wouldBring 31 = .ok (.getfield 7, 3) := by decide +kernel
theorem dX5_wouldBring_34 : decode cX5_wouldBring 34 = .ok (.iconst 0, 1) := by decide +kernel
theorem dX5_wouldBring_35 : decode cX5_wouldBring 35 = .ok (.aload_n 0, 1) := by decide +kernel
theorem dX5_wouldBring_36 : decode cX5_wouldBring 36 = .ok (.getfield 19, 3) := by decide +kernel
theorem dX5_wouldBring_39 : decode cX5_wouldBring 39 = .ok (.iconst 0, 1) := by decide +kernel
theorem dX5_wouldBring_40 : decode cX5_wouldBring 40 = .ok (.invokestatic 43, 3) := by decide +kernel
theorem dX5_wouldBring_43 : decode cX5_wouldBring 43 = .ok (.iconst 0, 1) := by decide +kernel
theorem dX5_wouldBring_44 : decode cX5_wouldBring 44 = .ok (.istore 4, 2) := by decide +kernel
theorem dX5_wouldBring_46 : decode cX5_wouldBring 46 = .ok (.iload 4, 2) := by decide +kernel
theorem dX5_wouldBring_48 : decode cX5_wouldBring 48 = .ok (.iload_n 1, 1) := by decide +kernel
theorem dX5_wouldBring_49 : decode cX5_wouldBring 49 = .ok (.if_icmp .ge 13, 3) := by decide +kernel
theorem dX5_wouldBring_52 : decode cX5_wouldBring 52 = .ok (.aload_n 0, 1) := by decide +kernel
theorem dX5_wouldBring_53 : decode cX5_wouldBring 53 = .ok (.invokevirtual 91, 3) := by decide +kernel
theorem dX5_wouldBring_56 : decode cX5_wouldBring 56 = .ok (.iinc 4 1, 3) := by decide +kernel
theorem dX5_wouldBring_59 : decode cX5_wouldBring 59 = .ok (.goto (-13), 3) := by decide +kernel
theorem dX5_wouldBring_62 : decode cX5_wouldBring 62 = .ok (.aload_n 0, 1) := by decide +kernel
theorem dX5_wouldBring_63 : decode cX5_wouldBring 63 = .ok (.getfield 7, 3) := by decide +kernel
theorem dX5_wouldBring_66 : decode cX5_wouldBring 66 = .ok (.iload_n 3, 1) := by decide +kernel
theorem dX5_wouldBring_67 : decode cX5_wouldBring 67 = .ok (.iaload, 1) := by decide +kernel
theorem dX5_wouldBring_68 : decode cX5_wouldBring 68 = .ok (.aload_n 0, 1) := by decide +kernel
theorem dX5_wouldBring_69 : decode cX5_wouldBring 69 = .ok (.getfield 19, 3) := by decide +kernel
theorem dX5_wouldBring_72 : decode cX5_wouldBring 72 = .ok (.iload_n 3, 1) := by decide +kernel
theorem dX5_wouldBring_73 : decode cX5_wouldBring 73 = .ok (.iaload, 1) := by decide +kernel
theorem dX5_wouldBring_74 : decode cX5_wouldBring 74 = .ok (.isub, 1) := by decide +kernel
theorem dX5_wouldBring_75 : decode cX5_wouldBring 75 = .ok (.istore 4, 2) := by decide +kernel
theorem dX5_wouldBring_77 : decode cX5_wouldBring 77 = .ok (.aload_n 0, 1) := by decide +kernel
theorem dX5_wouldBring_78 : decode cX5_wouldBring 78 = .ok (.getfield 19, 3) := by decide +kernel
theorem dX5_wouldBring_81 : decode cX5_wouldBring 81 = .ok (.iconst 0, 1) := by decide +kernel
theorem dX5_wouldBring_82 : decode cX5_wouldBring 82 = .ok (.aload_n 0, 1) := by decide +kernel
theorem dX5_wouldBring_83 : decode cX5_wouldBring 83 = .ok (.getfield 7, 3) := by decide +kernel
theorem dX5_wouldBring_86 : decode cX5_wouldBring 86 = .ok (.iconst 0, 1) := by decide +kernel
theorem dX5_wouldBring_87 : decode cX5_wouldBring 87 = .ok (.invokestatic 43, 3) := by decide +kernel
theorem dX5_wouldBring_90 : decode cX5_wouldBring 90 = .ok (.iload 4, 2) := by decide +kernel
theorem dX5_wouldBring_92 : decode cX5_wouldBring 92 = .ok (.ireturn, 1) := by decide +kernel
theorem dX5_ifPassed_0 : decode cX5_ifPassed 0 = .ok (.aload_n 0, 1) := by decide +kernel
theorem dX5_ifPassed_1 : decode cX5_ifPassed 1 = .ok (.iload_n 1, 1) := by decide +kernel
theorem dX5_ifPassed_2 : decode cX5_ifPassed 2 = .ok (.iconst 1, 1) := by decide +kernel
theorem dX5_ifPassed_3 : decode cX5_ifPassed 3 = .ok (.bipush 48, 2) := by decide +kernel
theorem dX5_ifPassed_5 : decode cX5_ifPassed 5 = .ok (.invokestatic 36, 3) := by decide +kernel
theorem dX5_ifPassed_8 : decode cX5_ifPassed 8 = .ok (.ifCond .eq 16, 3) := by decide +kernel
theorem dX5_ifPassed_11 : decode cX5_ifPassed 11 = .ok (.iload_n 2, 1) := by decide +kernel
theorem dX5_ifPassed_12 : decode cX5_ifPassed 12 = .ok (.iconst 0, 1) := by decide +kernel
theorem dX5_ifPassed_13 : decode cX5_ifPassed 13 = .ok (.iconst 3, 1) := by decide +kernel
theorem dX5_ifPassed_14 : decode cX5_ifPassed 14 = .ok (.invokestatic 36, 3) := by decide +kernel
theorem dX5_ifPassed_17 : decode cX5_ifPassed 17 = .ok (.ifCond .eq 7, 3) := by decide +kernel
theorem dX5_ifPassed_20 : decode cX5_ifPassed 20 = .ok (.iconst 0, 1) := by decide +kernel
theorem dX5_ifPassed_21 : decode cX5_ifPassed 21 = .ok (.goto 4, 3) := by decide +kernel
theorem dX5_ifPassed_24 : decode cX5_ifPassed 24 = .ok (.iconst 1, 1) := by decide +kernel
theorem dX5_ifPassed_25 : decode cX5_ifPassed 25 = .ok (.invokevirtual 98, 3) := by decide +kernel
theorem dX5_ifPassed_28 : decode cX5_ifPassed 28 = .ok (.ifCond .eq 12, 3) := by decide +kernel
theorem dX5_ifPassed_31 : decode cX5_ifPassed 31 = .ok (.aload_n 0, 1) := by decide +kernel
theorem dX5_ifPassed_32 : decode cX5_ifPassed 32 = .ok (.iload_n 1, 1) := by decide +kernel
theorem dX5_ifPassed_33 : decode cX5_ifPassed 33 = .ok (.iload_n 2, 1) := by decide +kernel
theorem dX5_ifPassed_34 : decode cX5_ifPassed 34 = .ok (.invokevirtual 175, 3) := by decide +kernel
theorem dX5_ifPassed_37 : decode cX5_ifPassed 37 = .ok (.goto 4, 3) := by decide +kernel
theorem dX5_ifPassed_40 : decode cX5_ifPassed 40 = .ok (.iconst 0, 1) := by decide +kernel
theorem dX5_ifPassed_41 : decode cX5_ifPassed 41 = .ok (.ireturn, 1) := by decide +kernel
theorem dX5_groundBehind_0 : decode cX5_groundBehind 0 = .ok (.aload_n 0, 1) := by decide +kernel
theorem dX5_groundBehind_1 : decode cX5_groundBehind 1 = .ok (.iload_n 1, 1) := by decide +kernel
theorem dX5_groundBehind_2 : decode cX5_groundBehind 2 = .ok (.invokevirtual 121, 3) := by decide +kernel
theorem dX5_groundBehind_5 : decode cX5_groundBehind 5 = .ok (.iconst (-1), 1) := by decide +kernel
theorem dX5_groundBehind_6 : decode cX5_groundBehind 6 = .ok (.if_icmp .ne 5, 3) := by decide +kernel
theorem dX5_groundBehind_9 : decode cX5_groundBehind 9 = .ok (.iconst (-1), 1) := by decide +kernel
theorem dX5_groundBehind_10 : decode cX5_groundBehind 10 = .ok (.ireturn, 1) := by decide +kernel
theorem dX5_groundBehind_11 : decode cX5_groundBehind 11 = .ok (.aload_n 0, 1) := by decide +kernel
theorem dX5_groundBehind_12 : decode cX5_groundBehind 12 = .ok (.getfield 7, 3) := by decide +kernel
theorem dX5_groundBehind_15 : decode cX5_groundBehind 15 = .ok (.iconst 0, 1) := by decide +kernel
theorem dX5_groundBehind_16 : decode cX5_groundBehind 16 = .ok (.aload_n 0, 1) := by decide +kernel
theorem dX5_groundBehind_17 : decode cX5_groundBehind 17 = .ok (.getfield 19, 3) := by decide +kernel
theorem dX5_groundBehind_20 : decode cX5_groundBehind 20 = .ok (.iconst 0, 1) := by decide +kernel
theorem dX5_groundBehind_21 : decode cX5_groundBehind 21 = .ok (.invokestatic 43, 3) := by decide +kernel
theorem dX5_groundBehind_24 : decode cX5_groundBehind 24 = .ok (.iconst 0, 1) := by decide +kernel
theorem dX5_groundBehind_25 : decode cX5_groundBehind 25 = .ok (.istore_n 2, 1) := by decide +kernel
theorem dX5_groundBehind_26 : decode cX5_groundBehind 26 = .ok (.iload_n 2, 1) := by decide +kernel
theorem dX5_groundBehind_27 : decode cX5_groundBehind 27 = .ok (.sipush 200, 3) := by decide +kernel
theorem dX5_groundBehind_30 : decode cX5_groundBehind 30 = .ok (.if_icmp .ge 22, 3) := by decide +kernel
theorem dX5_groundBehind_33 : decode cX5_groundBehind 33 = .ok (.aload_n 0, 1) := by decide +kernel
theorem dX5_groundBehind_34 : decode cX5_groundBehind 34 = .ok (.iload_n 1, 1) := by decide +kernel
theorem dX5_groundBehind_35 : decode cX5_groundBehind 35 = .ok (.invokevirtual 121, 3) := by decide +kernel
theorem dX5_groundBehind_38 : decode cX5_groundBehind 38 = .ok (.iconst (-1), 1) := by decide +kernel
theorem dX5_groundBehind_39 : decode cX5_groundBehind 39 = .ok (.if_icmp .eq 13, 3) := by decide +kernel
theorem dX5_groundBehind_42 : decode cX5_groundBehind 42 = .ok (.aload_n 0, 1) := by decide +kernel
theorem dX5_groundBehind_43 : decode cX5_groundBehind 43 = .ok (.invokevirtual 91, 3) := by decide +kernel
theorem dX5_groundBehind_46 : decode cX5_groundBehind 46 = .ok (.iinc 2 1, 3) := by decide +kernel
theorem dX5_groundBehind_49 : decode cX5_groundBehind 49 = .ok (.goto (-23), 3) := by decide +kernel
theorem dX5_groundBehind_52 : decode cX5_groundBehind 52 = .ok (.aload_n 0, 1) := by decide +kernel
theorem dX5_groundBehind_53 : decode cX5_groundBehind 53 = .ok (.iload_n 1, 1) := by decide +kernel
theorem dX5_groundBehind_54 : decode cX5_groundBehind 54 = .ok (.invokevirtual 121, 3) := by decide +kernel
theorem dX5_groundBehind_57 : decode cX5_groundBehind 57 = .ok (.iconst (-1), 1) := by decide +kernel
theorem dX5_groundBehind_58 : decode cX5_groundBehind 58 = .ok (.if_icmp .ne 7, 3) := by decide +kernel
theorem dX5_groundBehind_61 : decode cX5_groundBehind 61 = .ok (.iconst 1, 1) := by decide +kernel
theorem dX5_groundBehind_62 : decode cX5_groundBehind 62 = .ok (.goto 4, 3) := by decide +kernel
theorem dX5_groundBehind_65 : decode cX5_groundBehind 65 = .ok (.iconst 0, 1) := by decide +kernel
theorem dX5_groundBehind_66 : decode cX5_groundBehind 66 = .ok (.istore_n 3, 1) := by decide +kernel
theorem dX5_groundBehind_67 : decode cX5_groundBehind 67 = .ok (.aload_n 0, 1) := by decide +kernel
theorem dX5_groundBehind_68 : decode cX5_groundBehind 68 = .ok (.getfield 19, 3) := by decide +kernel
theorem dX5_groundBehind_71 : decode cX5_groundBehind 71 = .ok (.iconst 0, 1) := by decide +kernel
theorem dX5_groundBehind_72 : decode cX5_groundBehind 72 = .ok (.aload_n 0, 1) := by decide +kernel
theorem dX5_groundBehind_73 : decode cX5_groundBehind 73 = .ok (.getfield 7, 3) := by decide +kernel
theorem dX5_groundBehind_76 : decode cX5_groundBehind 76 = .ok (.iconst 0, 1) := by decide +kernel
theorem dX5_groundBehind_77 : decode cX5_groundBehind 77 = .ok (.invokestatic 43, 3) := by decide +kernel
theorem dX5_groundBehind_80 : decode cX5_groundBehind 80 = .ok (.iload_n 3, 1) := by decide +kernel
theorem dX5_groundBehind_81 : decode cX5_groundBehind 81 = .ok (.ifCond .eq 7, 3) := by decide +kernel
theorem dX5_groundBehind_84 : decode cX5_groundBehind 84 = .ok (.iload_n 2, 1) := by decide +kernel
theorem dX5_groundBehind_85 : decode cX5_groundBehind 85 = .ok (.goto 4, 3) := by decide +kernel
theorem dX5_groundBehind_88 : decode cX5_groundBehind 88 = .ok (.iconst (-1), 1) := by decide +kernel
theorem dX5_groundBehind_89 : decode cX5_groundBehind 89 = .ok (.ireturn, 1) := by decide +kernel
theorem dX5_groundIn_0 : decode cX5_groundIn 0 = .ok (.aload_n 0, 1) := by decide +kernel
theorem dX5_groundIn_1 : decode cX5_groundIn 1 = .ok (.iconst 0, 1) := by decide +kernel
theorem dX5_groundIn_2 : decode cX5_groundIn 2 = .ok (.putfield 32, 3) := by decide +kernel
theorem dX5_groundIn_5 : decode cX5_groundIn 5 = .ok (.aload_n 0, 1) := by decide +kernel
theorem dX5_groundIn_6 : decode cX5_groundIn 6 = .ok (.iload_n 1, 1) := by decide +kernel
theorem dX5_groundIn_7 : decode cX5_groundIn 7 = .ok (.invokevirtual 178, 3) := by decide +kernel
theorem dX5_groundIn_10 : decode cX5_groundIn 10 = .ok (.ireturn, 1) := by decide +kernel
theorem dX5_rests_0 : decode cX5_rests 0 = .ok (.iconst 0, 1) := by decide +kernel
theorem dX5_rests_1 : decode cX5_rests 1 = .ok (.istore_n 1, 1) := by decide +kernel
theorem dX5_rests_2 : decode cX5_rests 2 = .ok (.iconst 0, 1) := by decide +kernel
theorem dX5_rests_3 : decode cX5_rests 3 = .ok (.istore_n 2, 1) := by decide +kernel
theorem dX5_rests_4 : decode cX5_rests 4 = .ok (.iload_n 2, 1) := by decide +kernel
theorem dX5_rests_5 : decode cX5_rests 5 = .ok (.bipush 30, 2) := by decide +kernel
theorem dX5_rests_7 : decode cX5_rests 7 = .ok (.if_icmp .ge 52, 3) := by decide +kernel
theorem dX5_rests_10 : decode cX5_rests 10 = .ok (.iload_n 1, 1) := by decide +kernel
theorem dX5_rests_11 : decode cX5_rests 11 = .ok (.iload_n 2, 1) := by decide +kernel
theorem dX5_rests_12 : decode cX5_rests 12 = .ok (.bipush 6, 2) := by decide +kernel
theorem dX5_rests_14 : decode cX5_rests 14 = .ok (.irem, 1) := by decide +kernel
theorem dX5_rests_15 : decode cX5_rests 15 = .ok (.aload_n 0, 1) := by decide +kernel
theorem dX5_rests_16 : decode cX5_rests 16 = .ok (.iload_n 2, 1) := by decide +kernel
theorem dX5_rests_17 : decode cX5_rests 17 = .ok (.bipush 6, 2) := by decide +kernel
theorem dX5_rests_19 : decode cX5_rests 19 = .ok (.idiv, 1) := by decide +kernel
theorem dX5_rests_20 : decode cX5_rests 20 = .ok (.bipush 9, 2) := by decide +kernel
theorem dX5_rests_22 : decode cX5_rests 22 = .ok (.invokevirtual 47, 3) := by decide +kernel
theorem dX5_rests_25 : decode cX5_rests 25 = .ok (.if_icmp .ge 25, 3) := by decide +kernel
theorem dX5_rests_28 : decode cX5_rests 28 = .ok (.aload_n 0, 1) := by decide +kernel
theorem dX5_rests_29 : decode cX5_rests 29 = .ok (.getfield 7, 3) := by decide +kernel
theorem dX5_rests_32 : decode cX5_rests 32 = .ok (.aload_n 0, 1) := by decide +kernel
theorem dX5_rests_33 : decode cX5_rests 33 = .ok (.iload_n 2, 1) := by decide +kernel
theorem dX5_rests_34 : decode cX5_rests 34 = .ok (.bipush 6, 2) := by decide +kernel
theorem dX5_rests_36 : decode cX5_rests 36 = .ok (.idiv, 1) := by decide +kernel
theorem dX5_rests_37 : decode cX5_rests 37 = .ok (.iload_n 2, 1) := by decide +kernel
theorem dX5_rests_38 : decode cX5_rests 38 = .ok (.bipush 6, 2) := by decide +kernel
theorem dX5_rests_40 : decode cX5_rests 40 = .ok (.irem, 1) := by decide +kernel
theorem dX5_rests_41 : decode cX5_rests 41 = .ok (.invokevirtual 51, 3) := by decide +kernel
theorem dX5_rests_44 : decode cX5_rests 44 = .ok (.iconst 2, 1) := by decide +kernel
theorem dX5_rests_45 : decode cX5_rests 45 = .ok (.iadd, 1) := by decide +kernel
theorem dX5_rests_46 : decode cX5_rests 46 = .ok (.iaload, 1) := by decide +kernel
theorem dX5_rests_47 : decode cX5_rests 47 = .ok (.goto 4, 3) := by decide +kernel
theorem dX5_rests_50 : decode cX5_rests 50 = .ok (.iconst 0, 1) := by decide +kernel
theorem dX5_rests_51 : decode cX5_rests 51 = .ok (.iadd, 1) := by decide +kernel
theorem dX5_rests_52 : decode cX5_rests 52 = .ok (.istore_n 1, 1) := by decide +kernel
theorem dX5_rests_53 : decode cX5_rests 53 = .ok (.iinc 2 1, 3) := by decide +kernel
theorem dX5_rests_56 : decode cX5_rests 56 = .ok (.goto (-52), 3) := by decide +kernel
theorem dX5_rests_59 : decode cX5_rests 59 = .ok (.iload_n 1, 1) := by decide +kernel
theorem dX5_rests_60 : decode cX5_rests 60 = .ok (.ireturn, 1) := by decide +kernel
theorem dX5_bestFor_0 : decode cX5_bestFor 0 = .ok (.iconst 0, 1) := by decide +kernel
theorem dX5_bestFor_1 : decode cX5_bestFor 1 = .ok (.istore_n 2, 1) := by decide +kernel
theorem dX5_bestFor_2 : decode cX5_bestFor 2 = .ok (.iconst 0, 1) := by decide +kernel
theorem dX5_bestFor_3 : decode cX5_bestFor 3 = .ok (.istore_n 3, 1) := by decide +kernel
theorem dX5_bestFor_4 : decode cX5_bestFor 4 = .ok (.aload_n 0, 1) := by decide +kernel
theorem dX5_bestFor_5 : decode cX5_bestFor 5 = .ok (.getfield 7, 3) := by decide +kernel
theorem dX5_bestFor_8 : decode cX5_bestFor 8 = .ok (.iconst 0, 1) := by decide +kernel
theorem dX5_bestFor_9 : decode cX5_bestFor 9 = .ok (.aload_n 0, 1) := by decide +kernel
theorem dX5_bestFor_10 : decode cX5_bestFor 10 = .ok (.getfield 19, 3) := by decide +kernel
theorem dX5_bestFor_13 : decode cX5_bestFor 13 = .ok (.iconst 0, 1) := by decide +kernel
theorem dX5_bestFor_14 : decode cX5_bestFor 14 = .ok (.invokestatic 43, 3) := by decide +kernel
theorem dX5_bestFor_17 : decode cX5_bestFor 17 = .ok (.bipush 60, 2) := by decide +kernel
theorem dX5_bestFor_19 : decode cX5_bestFor 19 = .ok (.istore 4, 2) := by decide +kernel
theorem dX5_bestFor_21 : decode cX5_bestFor 21 = .ok (.iload 4, 2) := by decide +kernel
theorem dX5_bestFor_23 : decode cX5_bestFor 23 = .ok (.bipush 8, 2) := by decide +kernel
theorem dX5_bestFor_25 : decode cX5_bestFor 25 = .ok (.if_icmp .lt 98, 3) := by decide +kernel
theorem dX5_bestFor_28 : decode cX5_bestFor 28 = .ok (.aload_n 0, 1) := by decide +kernel
theorem dX5_bestFor_29 : decode cX5_bestFor 29 = .ok (.iload_n 1, 1) := by decide +kernel
theorem dX5_bestFor_30 : decode cX5_bestFor 30 = .ok (.bipush 6, 2) := by decide +kernel
theorem dX5_bestFor_32 : decode cX5_bestFor 32 = .ok (.iload 4, 2) := by decide +kernel
theorem dX5_bestFor_34 : decode cX5_bestFor 34 = .ok (.invokevirtual 28, 3) := by decide +kernel
theorem dX5_bestFor_37 : decode cX5_bestFor 37 = .ok (.iconst 0, 1) := by decide +kernel
theorem dX5_bestFor_38 : decode cX5_bestFor 38 = .ok (.istore 5, 2) := by decide +kernel
theorem dX5_bestFor_40 : decode cX5_bestFor 40 = .ok (.iload 5, 2) := by decide +kernel
theorem dX5_bestFor_42 : decode cX5_bestFor 42 = .ok (.bipush 24, 2) := by decide +kernel
theorem dX5_bestFor_44 : decode cX5_bestFor 44 = .ok (.if_icmp .ge 13, 3) := by decide +kernel
theorem dX5_bestFor_47 : decode cX5_bestFor 47 = .ok (.aload_n 0, 1) := by decide +kernel
theorem dX5_bestFor_48 : decode cX5_bestFor 48 = .ok (.invokevirtual 91, 3) := by decide +kernel
theorem dX5_bestFor_51 : decode cX5_bestFor 51 = .ok (.iinc 5 1, 3) := by decide +kernel
theorem dX5_bestFor_54 : decode cX5_bestFor 54 = .ok (.goto (-14), 3) := by decide +kernel
theorem dX5_bestFor_57 : decode cX5_bestFor 57 = .ok (.aload_n 0, 1) := by decide +kernel
theorem dX5_bestFor_58 : decode cX5_bestFor 58 = .ok (.invokevirtual 181, 3) := by decide +kernel
theorem dX5_bestFor_61 : decode cX5_bestFor 61 = .ok (.istore 5, 2) := by decide +kernel
theorem dX5_bestFor_63 : decode cX5_bestFor 63 = .ok (.iload_n 2, 1) := by decide +kernel
theorem dX5_bestFor_64 : decode cX5_bestFor 64 = .ok (.ifCond .eq 9, 3) := by decide +kernel
theorem dX5_bestFor_67 : decode cX5_bestFor 67 = .ok (.iload 5, 2) := by decide +kernel
theorem dX5_bestFor_69 : decode cX5_bestFor 69 = .ok (.iload_n 3, 1) := by decide +kernel
theorem dX5_bestFor_70 : decode cX5_bestFor 70 = .ok (.if_icmp .ge 7, 3) := by decide +kernel
theorem dX5_bestFor_73 : decode cX5_bestFor 73 = .ok (.iconst 1, 1) := by decide +kernel
theorem dX5_bestFor_74 : decode cX5_bestFor 74 = .ok (.goto 4, 3) := by decide +kernel
theorem dX5_bestFor_77 : decode cX5_bestFor 77 = .ok (.iconst 0, 1) := by decide +kernel
theorem dX5_bestFor_78 : decode cX5_bestFor 78 = .ok (.istore 6, 2) := by decide +kernel
theorem dX5_bestFor_80 : decode cX5_bestFor 80 = .ok (.iload 6, 2) := by decide +kernel
theorem dX5_bestFor_82 : decode cX5_bestFor 82 = .ok (.ifCond .eq 8, 3) := by decide +kernel
theorem dX5_bestFor_85 : decode cX5_bestFor 85 = .ok (.iload 4, 2) := by decide +kernel
theorem dX5_bestFor_87 : decode cX5_bestFor 87 = .ok (.goto 4, 3) := by decide +kernel
theorem dX5_bestFor_90 : decode cX5_bestFor 90 = .ok (.iload_n 2, 1) := by decide +kernel
theorem dX5_bestFor_91 : decode cX5_bestFor 91 = .ok (.istore_n 2, 1) := by decide +kernel
theorem dX5_bestFor_92 : decode cX5_bestFor 92 = .ok (.iload 6, 2) := by decide +kernel
theorem dX5_bestFor_94 : decode cX5_bestFor 94 = .ok (.ifCond .eq 8, 3) := by decide +kernel
theorem dX5_bestFor_97 : decode cX5_bestFor 97 = .ok (.iload 5, 2) := by decide +kernel
theorem dX5_bestFor_99 : decode cX5_bestFor 99 = .ok (.goto 4, 3) := by decide +kernel
theorem dX5_bestFor_102 : decode cX5_bestFor 102 = .ok (.iload_n 3, 1) := by decide +kernel
theorem dX5_bestFor_103 : decode cX5_bestFor 103 = .ok (.istore_n 3, 1) := by decide +kernel
theorem dX5_bestFor_104 : decode cX5_bestFor 104 = .ok (.aload_n 0, 1) := by decide +kernel
theorem dX5_bestFor_105 : decode cX5_bestFor 105 = .ok (.getfield 19, 3) := by decide +kernel
theorem dX5_bestFor_108 : decode cX5_bestFor 108 = .ok (.iconst 0, 1) := by decide +kernel
theorem dX5_bestFor_109 : decode cX5_bestFor 109 = .ok (.aload_n 0, 1) := by decide +kernel
theorem dX5_bestFor_110 : decode cX5_bestFor 110 = .ok (.getfield 7, 3) := by decide +kernel
theorem dX5_bestFor_113 : decode cX5_bestFor 113 = .ok (.iconst 0, 1) := by decide +kernel
theorem dX5_bestFor_114 : decode cX5_bestFor 114 = .ok (.invokestatic 43, 3) := by decide +kernel
theorem dX5_bestFor_117 : decode cX5_bestFor 117 = .ok (.iinc 4 (-4), 3) := by decide +kernel
theorem dX5_bestFor_120 : decode cX5_bestFor 120 = .ok (.goto (-99), 3) := by decide +kernel
theorem dX5_bestFor_123 : decode cX5_bestFor 123 = .ok (.iload_n 2, 1) := by decide +kernel
theorem dX5_bestFor_124 : decode cX5_bestFor 124 = .ok (.ireturn, 1) := by decide +kernel
theorem dX5_bestStone_0 : decode cX5_bestStone 0 = .ok (.aload_n 0, 1) := by decide +kernel
theorem dX5_bestStone_1 : decode cX5_bestStone 1 = .ok (.iload_n 1, 1) := by decide +kernel
theorem dX5_bestStone_2 : decode cX5_bestStone 2 = .ok (.invokestatic 94, 3) := by decide +kernel
theorem dX5_bestStone_5 : decode cX5_bestStone 5 = .ok (.ifCond .eq 7, 3) := by decide +kernel
theorem dX5_bestStone_8 : decode cX5_bestStone 8 = .ok (.iconst 0, 1) := by decide +kernel
theorem dX5_bestStone_9 : decode cX5_bestStone 9 = .ok (.goto 4, 3) := by decide +kernel
theorem dX5_bestStone_12 : decode cX5_bestStone 12 = .ok (.iconst 1, 1) := by decide +kernel
theorem dX5_bestStone_13 : decode cX5_bestStone 13 = .ok (.invokevirtual 98, 3) := by decide +kernel
theorem dX5_bestStone_16 : decode cX5_bestStone 16 = .ok (.ifCond .eq 11, 3) := by decide +kernel
theorem dX5_bestStone_19 : decode cX5_bestStone 19 = .ok (.aload_n 0, 1) := by decide +kernel
theorem dX5_bestStone_20 : decode cX5_bestStone 20 = .ok (.iload_n 1, 1) := by decide +kernel
theorem dX5_bestStone_21 : decode cX5_bestStone 21 = .ok (.invokevirtual 185, 3) := by decide +kernel
theorem dX5_bestStone_24 : decode cX5_bestStone 24 = .ok (.goto 4, 3) := by decide +kernel
theorem dX5_bestStone_27 : decode cX5_bestStone 27 = .ok (.iconst 0, 1) := by decide +kernel
theorem dX5_bestStone_28 : decode cX5_bestStone 28 = .ok (.ireturn, 1) := by decide +kernel
theorem dX5_shareInTime_0 : decode cX5_shareInTime 0 = .ok (.aload_n 0, 1) := by decide +kernel
theorem dX5_shareInTime_1 : decode cX5_shareInTime 1 = .ok (.getfield 7, 3) := by decide +kernel
theorem dX5_shareInTime_4 : decode cX5_shareInTime 4 = .ok (.bipush 6, 2) := by decide +kernel
theorem dX5_shareInTime_6 : decode cX5_shareInTime 6 = .ok (.iaload, 1) := by decide +kernel
theorem dX5_shareInTime_7 : decode cX5_shareInTime 7 = .ok (.ifCond .ne 7, 3) := by decide +kernel
theorem dX5_shareInTime_10 : decode cX5_shareInTime 10 = .ok (.dconst 1, 1) := by decide +kernel
theorem dX5_shareInTime_11 : decode cX5_shareInTime 11 = .ok (.goto 28, 3) := by decide +kernel
theorem dX5_shareInTime_14 : decode cX5_shareInTime 14 = .ok (.aload_n 0, 1) := by decide +kernel
theorem dX5_shareInTime_15 : decode cX5_shareInTime 15 = .ok (.getfield 7, 3) := by decide +kernel
theorem dX5_shareInTime_18 : decode cX5_shareInTime 18 = .ok (.bipush 6, 2) := by decide +kernel
theorem dX5_shareInTime_20 : decode cX5_shareInTime 20 = .ok (.iaload, 1) := by decide +kernel
theorem dX5_shareInTime_21 : decode cX5_shareInTime 21 = .ok (.aload_n 0, 1) := by decide +kernel
theorem dX5_shareInTime_22 : decode cX5_shareInTime 22 = .ok (.getfield 7, 3) := by decide +kernel
theorem dX5_shareInTime_25 : decode cX5_shareInTime 25 = .ok (.bipush 7, 2) := by decide +kernel
theorem dX5_shareInTime_27 : decode cX5_shareInTime 27 = .ok (.iaload, 1) := by decide +kernel
theorem dX5_shareInTime_28 : decode cX5_shareInTime 28 = .ok (.isub, 1) := by decide +kernel
theorem dX5_shareInTime_29 : decode cX5_shareInTime 29 = .ok (.i2d, 1) := by decide +kernel
theorem dX5_shareInTime_30 : decode cX5_shareInTime 30 = .ok (.aload_n 0, 1) := by decide +kernel
theorem dX5_shareInTime_31 : decode cX5_shareInTime 31 = .ok (.getfield 7, 3) := by decide +kernel
theorem dX5_shareInTime_34 : decode cX5_shareInTime 34 = .ok (.bipush 6, 2) := by decide +kernel
theorem dX5_shareInTime_36 : decode cX5_shareInTime 36 = .ok (.iaload, 1) := by decide +kernel
theorem dX5_shareInTime_37 : decode cX5_shareInTime 37 = .ok (.i2d, 1) := by decide +kernel
theorem dX5_shareInTime_38 : decode cX5_shareInTime 38 = .ok (.ddiv, 1) := by decide +kernel
theorem dX5_shareInTime_39 : decode cX5_shareInTime 39 = .ok (.dreturn, 1) := by decide +kernel
theorem dX5_inTime_0 : decode cX5_inTime 0 = .ok (.aload_n 0, 1) := by decide +kernel
theorem dX5_inTime_1 : decode cX5_inTime 1 = .ok (.iconst 0, 1) := by decide +kernel
theorem dX5_inTime_2 : decode cX5_inTime 2 = .ok (.putfield 32, 3) := by decide +kernel
theorem dX5_inTime_5 : decode cX5_inTime 5 = .ok (.aload_n 0, 1) := by decide +kernel
theorem dX5_inTime_6 : decode cX5_inTime 6 = .ok (.invokevirtual 188, 3) := by decide +kernel
theorem dX5_inTime_9 : decode cX5_inTime 9 = .ok (.dreturn, 1) := by decide +kernel
theorem dX5_bitsOf_0 : decode cX5_bitsOf 0 = .ok (.dload_n 0, 1) := by decide +kernel
theorem dX5_bitsOf_1 : decode cX5_bitsOf 1 = .ok (.dconst 0, 1) := by decide +kernel
theorem dX5_bitsOf_2 : decode cX5_bitsOf 2 = .ok (.dcmp .l, 1) := by decide +kernel
theorem dX5_bitsOf_3 : decode cX5_bitsOf 3 = .ok (.ifCond .ne 5, 3) := by decide +kernel
theorem dX5_bitsOf_6 : decode cX5_bitsOf 6 = .ok (.lconst 0, 1) := by decide +kernel
theorem dX5_bitsOf_7 : decode cX5_bitsOf 7 = .ok (.lreturn, 1) := by decide +kernel
theorem dX5_bitsOf_8 : decode cX5_bitsOf 8 = .ok (.ldc2_w 192, 3) := by decide +kernel
theorem dX5_bitsOf_11 : decode cX5_bitsOf 11 = .ok (.lstore_n 2, 1) := by decide +kernel
theorem dX5_bitsOf_12 : decode cX5_bitsOf 12 = .ok (.dload_n 0, 1) := by decide +kernel
theorem dX5_bitsOf_13 : decode cX5_bitsOf 13 = .ok (.dstore 4, 2) := by decide +kernel
theorem dX5_bitsOf_15 : decode cX5_bitsOf 15 = .ok (.dload 4, 2) := by decide +kernel
theorem dX5_bitsOf_17 : decode cX5_bitsOf 17 = .ok (.dconst 1, 1) := by decide +kernel
theorem dX5_bitsOf_18 : decode cX5_bitsOf 18 = .ok (.dcmp .g, 1) := by decide +kernel
theorem dX5_bitsOf_19 : decode cX5_bitsOf 19 = .ok (.ifCond .ge 18, 3) := by decide +kernel
theorem dX5_bitsOf_22 : decode cX5_bitsOf 22 = .ok (.dload 4, 2) := by decide +kernel
theorem dX5_bitsOf_24 : decode cX5_bitsOf 24 = .ok (.ldc2_w 194, 3) := by decide +kernel
theorem dX5_bitsOf_27 : decode cX5_bitsOf 27 = .ok (.dmul, 1) := by decide +kernel
theorem dX5_bitsOf_28 : decode cX5_bitsOf 28 = .ok (.dstore 4, 2) := by decide +kernel
theorem dX5_bitsOf_30 : decode cX5_bitsOf 30 = .ok (.lload_n 2, 1) := by decide +kernel
theorem dX5_bitsOf_31 : decode cX5_bitsOf 31 = .ok (.lconst 1, 1) := by decide +kernel
theorem dX5_bitsOf_32 : decode cX5_bitsOf 32 = .ok (.lsub, 1) := by decide +kernel
theorem dX5_bitsOf_33 : decode cX5_bitsOf 33 = .ok (.lstore_n 2, 1) := by decide +kernel
theorem dX5_bitsOf_34 : decode cX5_bitsOf 34 = .ok (.goto (-19), 3) := by decide +kernel
theorem dX5_bitsOf_37 : decode cX5_bitsOf 37 = .ok (.lload_n 2, 1) := by decide +kernel
theorem dX5_bitsOf_38 : decode cX5_bitsOf 38 = .ok (.ldc2_w 196, 3) := by decide +kernel
theorem dX5_bitsOf_41 : decode cX5_bitsOf 41 = .ok (.lmul, 1) := by decide +kernel
theorem dX5_bitsOf_42 : decode cX5_bitsOf 42 = .ok (.dload 4, 2) := by decide +kernel
theorem dX5_bitsOf_44 : decode cX5_bitsOf 44 = .ok (.dconst 1, 1) := by decide +kernel
theorem dX5_bitsOf_45 : decode cX5_bitsOf 45 = .ok (.dsub, 1) := by decide +kernel
theorem dX5_bitsOf_46 : decode cX5_bitsOf 46 = .ok (.ldc2_w 198, 3) := by decide +kernel
theorem dX5_bitsOf_49 : decode cX5_bitsOf 49 = .ok (.dmul, 1) := by decide +kernel
theorem dX5_bitsOf_50 : decode cX5_bitsOf 50 = .ok (.d2l, 1) := by decide +kernel
theorem dX5_bitsOf_51 : decode cX5_bitsOf 51 = .ok (.ladd, 1) := by decide +kernel
theorem dX5_bitsOf_52 : decode cX5_bitsOf 52 = .ok (.lreturn, 1) := by decide +kernel
theorem dX5_mix_0 : decode cX5_mix 0 = .ok (.aload_n 0, 1) := by decide +kernel
theorem dX5_mix_1 : decode cX5_mix 1 = .ok (.ldc2_w 200, 3) := by decide +kernel
theorem dX5_mix_4 : decode cX5_mix 4 = .ok (.aload_n 0, 1) := by decide +kernel
theorem dX5_mix_5 : decode cX5_mix 5 = .ok (.getfield 202, 3) := by decide +kernel
theorem dX5_mix_8 : decode cX5_mix 8 = .ok (.lmul, 1) := by decide +kernel
theorem dX5_mix_9 : decode cX5_mix 9 = .ok (.lload_n 1, 1) := by decide +kernel
theorem dX5_mix_10 : decode cX5_mix 10 = .ok (.ladd, 1) := by decide +kernel
theorem dX5_mix_11 : decode cX5_mix 11 = .ok (.putfield 202, 3) := by decide +kernel
theorem dX5_mix_14 : decode cX5_mix 14 = .ok (.return_, 1) := by decide +kernel
theorem dX5_mixMill_0 : decode cX5_mixMill 0 = .ok (.iconst 0, 1) := by decide +kernel
theorem dX5_mixMill_1 : decode cX5_mixMill 1 = .ok (.istore_n 2, 1) := by decide +kernel
theorem dX5_mixMill_2 : decode cX5_mixMill 2 = .ok (.iload_n 2, 1) := by decide +kernel
theorem dX5_mixMill_3 : decode cX5_mixMill 3 = .ok (.bipush 11, 2) := by decide +kernel
theorem dX5_mixMill_5 : decode cX5_mixMill 5 = .ok (.if_icmp .ge 20, 3) := by decide +kernel
theorem dX5_mixMill_8 : decode cX5_mixMill 8 = .ok (.aload_n 0, 1) := by decide +kernel
theorem dX5_mixMill_9 : decode cX5_mixMill 9 = .ok (.aload_n 0, 1) := by decide +kernel
theorem dX5_mixMill_10 : decode cX5_mixMill 10 = .ok (.iload_n 1, 1) := by decide +kernel
theorem dX5_mixMill_11 : decode cX5_mixMill 11 = .ok (.iload_n 2, 1) := by decide +kernel
theorem dX5_mixMill_12 : decode cX5_mixMill 12 = .ok (.invokevirtual 163, 3) := by decide +kernel
theorem dX5_mixMill_15 : decode cX5_mixMill 15 = .ok (.i2l, 1) := by decide +kernel
theorem dX5_mixMill_16 : decode cX5_mixMill 16 = .ok (.invokevirtual 206, 3) := by decide +kernel
theorem dX5_mixMill_19 : decode cX5_mixMill 19 = .ok (.iinc 2 1, 3) := by decide +kernel
theorem dX5_mixMill_22 : decode cX5_mixMill 22 = .ok (.goto (-20), 3) := by decide +kernel
theorem dX5_mixMill_25 : decode cX5_mixMill 25 = .ok (.aload_n 0, 1) := by decide +kernel
theorem dX5_mixMill_26 : decode cX5_mixMill 26 = .ok (.aload_n 0, 1) := by decide +kernel
theorem dX5_mixMill_27 : decode cX5_mixMill 27 = .ok (.iload_n 1, 1) := by decide +kernel
theorem dX5_mixMill_28 : decode cX5_mixMill 28 = .ok (.invokevirtual 67, 3) := by decide +kernel
theorem dX5_mixMill_31 : decode cX5_mixMill 31 = .ok (.i2l, 1) := by decide +kernel
theorem dX5_mixMill_32 : decode cX5_mixMill 32 = .ok (.invokevirtual 206, 3) := by decide +kernel
theorem dX5_mixMill_35 : decode cX5_mixMill 35 = .ok (.iconst 0, 1) := by decide +kernel
theorem dX5_mixMill_36 : decode cX5_mixMill 36 = .ok (.istore_n 2, 1) := by decide +kernel
theorem dX5_mixMill_37 : decode cX5_mixMill 37 = .ok (.iload_n 2, 1) := by decide +kernel
theorem dX5_mixMill_38 : decode cX5_mixMill 38 = .ok (.aload_n 0, 1) := by decide +kernel
theorem dX5_mixMill_39 : decode cX5_mixMill 39 = .ok (.iload_n 1, 1) := by decide +kernel
theorem dX5_mixMill_40 : decode cX5_mixMill 40 = .ok (.bipush 9, 2) := by decide +kernel
theorem dX5_mixMill_42 : decode cX5_mixMill 42 = .ok (.invokevirtual 47, 3) := by decide +kernel
theorem dX5_mixMill_45 : decode cX5_mixMill 45 = .ok (.if_icmp .ge 33, 3) := by decide +kernel
theorem dX5_mixMill_48 : decode cX5_mixMill 48 = .ok (.aload_n 0, 1) := by decide +kernel
theorem dX5_mixMill_49 : decode cX5_mixMill 49 = .ok (.aload_n 0, 1) := by decide +kernel
theorem dX5_mixMill_50 : decode cX5_mixMill 50 = .ok (.iload_n 1, 1) := by decide +kernel
theorem dX5_mixMill_51 : decode cX5_mixMill 51 = .ok (.iload_n 2, 1) := by decide +kernel
theorem dX5_mixMill_52 : decode cX5_mixMill 52 = .ok (.iconst 0, 1) := by decide +kernel
theorem dX5_mixMill_53 : decode cX5_mixMill 53 = .ok (.invokevirtual 166, 3) := by decide +kernel
theorem dX5_mixMill_56 : decode cX5_mixMill 56 = .ok (.i2l, 1) := by decide +kernel
theorem dX5_mixMill_57 : decode cX5_mixMill 57 = .ok (.invokevirtual 206, 3) := by decide +kernel
theorem dX5_mixMill_60 : decode cX5_mixMill 60 = .ok (.aload_n 0, 1) := by decide +kernel
theorem dX5_mixMill_61 : decode cX5_mixMill 61 = .ok (.aload_n 0, 1) := by decide +kernel
theorem dX5_mixMill_62 : decode cX5_mixMill 62 = .ok (.iload_n 1, 1) := by decide +kernel
theorem dX5_mixMill_63 : decode cX5_mixMill 63 = .ok (.iload_n 2, 1) := by decide +kernel
theorem dX5_mixMill_64 : decode cX5_mixMill 64 = .ok (.iconst 2, 1) := by decide +kernel
theorem dX5_mixMill_65 : decode cX5_mixMill 65 = .ok (.invokevirtual 166, 3) := by decide +kernel
theorem dX5_mixMill_68 : decode cX5_mixMill 68 = .ok (.i2l, 1) := by decide +kernel
theorem dX5_mixMill_69 : decode cX5_mixMill 69 = .ok (.invokevirtual 206, 3) := by decide +kernel
theorem dX5_mixMill_72 : decode cX5_mixMill 72 = .ok (.iinc 2 1, 3) := by decide +kernel
theorem dX5_mixMill_75 : decode cX5_mixMill 75 = .ok (.goto (-38), 3) := by decide +kernel
theorem dX5_mixMill_78 : decode cX5_mixMill 78 = .ok (.aload_n 0, 1) := by decide +kernel
theorem dX5_mixMill_79 : decode cX5_mixMill 79 = .ok (.aload_n 0, 1) := by decide +kernel
theorem dX5_mixMill_80 : decode cX5_mixMill 80 = .ok (.iload_n 1, 1) := by decide +kernel
theorem dX5_mixMill_81 : decode cX5_mixMill 81 = .ok (.bipush 9, 2) := by decide +kernel
theorem dX5_mixMill_83 : decode cX5_mixMill 83 = .ok (.invokevirtual 47, 3) := by decide +kernel
theorem dX5_mixMill_86 : decode cX5_mixMill 86 = .ok (.ifCond .ne 9, 3) := by decide +kernel
theorem dX5_mixMill_89 : decode cX5_mixMill 89 = .ok (.ldc2_w 210, 3) := by decide +kernel
theorem dX5_mixMill_92 : decode cX5_mixMill 92 = .ok (.goto 15, 3) := by decide +kernel
theorem dX5_mixMill_95 : decode cX5_mixMill 95 = .ok (.aload_n 0, 1) := by decide +kernel
theorem dX5_mixMill_96 : decode cX5_mixMill 96 = .ok (.aload_n 0, 1) := by decide +kernel
theorem dX5_mixMill_97 : decode cX5_mixMill 97 = .ok (.iload_n 1, 1) := by decide +kernel
theorem dX5_mixMill_98 : decode cX5_mixMill 98 = .ok (.iconst 0, 1) := by decide +kernel
theorem dX5_mixMill_99 : decode cX5_mixMill 99 = .ok (.iconst 0, 1) := by decide +kernel
theorem dX5_mixMill_100 : decode cX5_mixMill 100 = .ok (.invokevirtual 166, 3) := by decide +kernel
theorem dX5_mixMill_103 : decode cX5_mixMill 103 = .ok (.invokevirtual 178, 3) := by decide +kernel
theorem dX5_mixMill_106 : decode cX5_mixMill 106 = .ok (.i2l, 1) := by decide +kernel
theorem dX5_mixMill_107 : decode cX5_mixMill 107 = .ok (.invokevirtual 206, 3) := by decide +kernel
theorem dX5_mixMill_110 : decode cX5_mixMill 110 = .ok (.aload_n 0, 1) := by decide +kernel
theorem dX5_mixMill_111 : decode cX5_mixMill 111 = .ok (.aload_n 0, 1) := by decide +kernel
theorem dX5_mixMill_112 : decode cX5_mixMill 112 = .ok (.iload_n 1, 1) := by decide +kernel
theorem dX5_mixMill_113 : decode cX5_mixMill 113 = .ok (.invokevirtual 185, 3) := by decide +kernel
theorem dX5_mixMill_116 : decode cX5_mixMill 116 = .ok (.i2l, 1) := by decide +kernel
theorem dX5_mixMill_117 : decode cX5_mixMill 117 = .ok (.invokevirtual 206, 3) := by decide +kernel
theorem dX5_mixMill_120 : decode cX5_mixMill 120 = .ok (.return_, 1) := by decide +kernel
theorem dX5_digest_0 : decode cX5_digest 0 = .ok (.aload_n 0, 1) := by decide +kernel
theorem dX5_digest_1 : decode cX5_digest 1 = .ok (.iconst 0, 1) := by decide +kernel
theorem dX5_digest_2 : decode cX5_digest 2 = .ok (.putfield 32, 3) := by decide +kernel
theorem dX5_digest_5 : decode cX5_digest 5 = .ok (.aload_n 0, 1) := by decide +kernel
theorem dX5_digest_6 : decode cX5_digest 6 = .ok (.ldc2_w 212, 3) := by decide +kernel
theorem dX5_digest_9 : decode cX5_digest 9 = .ok (.putfield 202, 3) := by decide +kernel
theorem dX5_digest_12 : decode cX5_digest 12 = .ok (.iconst 0, 1) := by decide +kernel
theorem dX5_digest_13 : decode cX5_digest 13 = .ok (.istore_n 1, 1) := by decide +kernel
theorem dX5_digest_14 : decode cX5_digest 14 = .ok (.iload_n 1, 1) := by decide +kernel
theorem dX5_digest_15 : decode cX5_digest 15 = .ok (.bipush 15, 2) := by decide +kernel
theorem dX5_digest_17 : decode cX5_digest 17 = .ok (.if_icmp .ge 19, 3) := by decide +kernel
theorem dX5_digest_20 : decode cX5_digest 20 = .ok (.aload_n 0, 1) := by decide +kernel
theorem dX5_digest_21 : decode cX5_digest 21 = .ok (.aload_n 0, 1) := by decide +kernel
theorem dX5_digest_22 : decode cX5_digest 22 = .ok (.iload_n 1, 1) := by decide +kernel
theorem dX5_digest_23 : decode cX5_digest 23 = .ok (.invokevirtual 172, 3) := by decide +kernel
theorem dX5_digest_26 : decode cX5_digest 26 = .ok (.i2l, 1) := by decide +kernel
theorem dX5_digest_27 : decode cX5_digest 27 = .ok (.invokevirtual 206, 3) := by decide +kernel
theorem dX5_digest_30 : decode cX5_digest 30 = .ok (.iinc 1 1, 3) := by decide +kernel
theorem dX5_digest_33 : decode cX5_digest 33 = .ok (.goto (-19), 3) := by decide +kernel
theorem dX5_digest_36 : decode cX5_digest 36 = .ok (.iconst 0, 1) := by decide +kernel
theorem dX5_digest_37 : decode cX5_digest 37 = .ok (.istore_n 1, 1) := by decide +kernel
theorem dX5_digest_38 : decode cX5_digest 38 = .ok (.iload_n 1, 1) := by decide +kernel
theorem dX5_digest_39 : decode cX5_digest 39 = .ok (.iconst 5, 1) := by decide +kernel
theorem dX5_digest_40 : decode cX5_digest 40 = .ok (.if_icmp .ge 14, 3) := by decide +kernel
theorem dX5_digest_43 : decode cX5_digest 43 = .ok (.aload_n 0, 1) := by decide +kernel
theorem dX5_digest_44 : decode cX5_digest 44 = .ok (.iload_n 1, 1) := by decide +kernel
theorem dX5_digest_45 : decode cX5_digest 45 = .ok (.invokevirtual 214, 3) := by decide +kernel
theorem dX5_digest_48 : decode cX5_digest 48 = .ok (.iinc 1 1, 3) := by decide +kernel
theorem dX5_digest_51 : decode cX5_digest 51 = .ok (.goto (-13), 3) := by decide +kernel
theorem dX5_digest_54 : decode cX5_digest 54 = .ok (.iconst 0, 1) := by decide +kernel
theorem dX5_digest_55 : decode cX5_digest 55 = .ok (.istore_n 1, 1) := by decide +kernel
theorem dX5_digest_56 : decode cX5_digest 56 = .ok (.iload_n 1, 1) := by decide +kernel
theorem dX5_digest_57 : decode cX5_digest 57 = .ok (.bipush 12, 2) := by decide +kernel
theorem dX5_digest_59 : decode cX5_digest 59 = .ok (.if_icmp .ge 19, 3) := by decide +kernel
theorem dX5_digest_62 : decode cX5_digest 62 = .ok (.aload_n 0, 1) := by decide +kernel
theorem dX5_digest_63 : decode cX5_digest 63 = .ok (.aload_n 0, 1) := by decide +kernel
theorem dX5_digest_64 : decode cX5_digest 64 = .ok (.iload_n 1, 1) := by decide +kernel
theorem dX5_digest_65 : decode cX5_digest 65 = .ok (.invokevirtual 60, 3) := by decide +kernel
theorem dX5_digest_68 : decode cX5_digest 68 = .ok (.i2l, 1) := by decide +kernel
theorem dX5_digest_69 : decode cX5_digest 69 = .ok (.invokevirtual 206, 3) := by decide +kernel
theorem dX5_digest_72 : decode cX5_digest 72 = .ok (.iinc 1 1, 3) := by decide +kernel
theorem dX5_digest_75 : decode cX5_digest 75 = .ok (.goto (-19), 3) := by decide +kernel
theorem dX5_digest_78 : decode cX5_digest 78 = .ok (.iconst 0, 1) := by decide +kernel
theorem dX5_digest_79 : decode cX5_digest 79 = .ok (.istore_n 1, 1) := by decide +kernel
theorem dX5_digest_80 : decode cX5_digest 80 = .ok (.iload_n 1, 1) := by decide +kernel
theorem dX5_digest_81 : decode cX5_digest 81 = .ok (.iconst 5, 1) := by decide +kernel
theorem dX5_digest_82 : decode cX5_digest 82 = .ok (.if_icmp .ge 19, 3) := by decide +kernel
theorem dX5_digest_85 : decode cX5_digest 85 = .ok (.aload_n 0, 1) := by decide +kernel
theorem dX5_digest_86 : decode cX5_digest 86 = .ok (.aload_n 0, 1) := by decide +kernel
theorem dX5_digest_87 : decode cX5_digest 87 = .ok (.iload_n 1, 1) := by decide +kernel
theorem dX5_digest_88 : decode cX5_digest 88 = .ok (.invokevirtual 85, 3) := by decide +kernel
theorem dX5_digest_91 : decode cX5_digest 91 = .ok (.i2l, 1) := by decide +kernel
theorem dX5_digest_92 : decode cX5_digest 92 = .ok (.invokevirtual 206, 3) := by decide +kernel
theorem dX5_digest_95 : decode cX5_digest 95 = .ok (.iinc 1 1, 3) := by decide +kernel
theorem dX5_digest_98 : decode cX5_digest 98 = .ok (.goto (-18), 3) := by decide +kernel
theorem dX5_digest_101 : decode cX5_digest 101 = .ok (.aload_n 0, 1) := by decide +kernel
theorem dX5_digest_102 : decode cX5_digest 102 = .ok (.aload_n 0, 1) := by decide +kernel
theorem dX5_digest_103 : decode cX5_digest 103 = .ok (.iconst 0, 1) := by decide +kernel
theorem dX5_digest_104 : decode cX5_digest 104 = .ok (.invokevirtual 85, 3) := by decide +kernel
theorem dX5_digest_107 : decode cX5_digest 107 = .ok (.i2l, 1) := by decide +kernel
theorem dX5_digest_108 : decode cX5_digest 108 = .ok (.invokevirtual 206, 3) := by decide +kernel
theorem dX5_digest_111 : decode cX5_digest 111 = .ok (.iconst 0, 1) := by decide +kernel
theorem dX5_digest_112 : decode cX5_digest 112 = .ok (.istore_n 1, 1) := by decide +kernel
theorem dX5_digest_113 : decode cX5_digest 113 = .ok (.iload_n 1, 1) := by decide +kernel
theorem dX5_digest_114 : decode cX5_digest 114 = .ok (.iconst 4, 1) := by decide +kernel
theorem dX5_digest_115 : decode cX5_digest 115 = .ok (.if_icmp .ge 21, 3) := by decide +kernel
theorem dX5_digest_118 : decode cX5_digest 118 = .ok (.aload_n 0, 1) := by decide +kernel
theorem dX5_digest_119 : decode cX5_digest 119 = .ok (.aload_n 0, 1) := by decide +kernel
theorem dX5_digest_120 : decode cX5_digest 120 = .ok (.bipush 12, 2) := by decide +kernel
theorem dX5_digest_122 : decode cX5_digest 122 = .ok (.iload_n 1, 1) := by decide +kernel
theorem dX5_digest_123 : decode cX5_digest 123 = .ok (.invokevirtual 175, 3) := by decide +kernel
theorem dX5_digest_126 : decode cX5_digest 126 = .ok (.i2l, 1) := by decide +kernel
theorem dX5_digest_127 : decode cX5_digest 127 = .ok (.invokevirtual 206, 3) := by decide +kernel
theorem dX5_digest_130 : decode cX5_digest 130 = .ok (.iinc 1 1, 3) := by decide +kernel
theorem dX5_digest_133 : decode cX5_digest 133 = .ok (.goto (-20), 3) := by decide +kernel
theorem dX5_digest_136 : decode cX5_digest 136 = .ok (.aload_n 0, 1) := by decide +kernel
theorem dX5_digest_137 : decode cX5_digest 137 = .ok (.aload_n 0, 1) := by decide +kernel
theorem dX5_digest_138 : decode cX5_digest 138 = .ok (.invokevirtual 188, 3) := by decide +kernel
theorem dX5_digest_141 : decode cX5_digest 141 = .ok (.invokestatic 217, 3) := by decide +kernel
theorem dX5_digest_144 : decode cX5_digest 144 = .ok (.invokevirtual 206, 3) := by decide +kernel
theorem dX5_digest_147 : decode cX5_digest 147 = .ok (.aload_n 0, 1) := by decide +kernel
theorem dX5_digest_148 : decode cX5_digest 148 = .ok (.aload_n 0, 1) := by decide +kernel
theorem dX5_digest_149 : decode cX5_digest 149 = .ok (.getfield 124, 3) := by decide +kernel
theorem dX5_digest_152 : decode cX5_digest 152 = .ok (.i2l, 1) := by decide +kernel
theorem dX5_digest_153 : decode cX5_digest 153 = .ok (.invokevirtual 206, 3) := by decide +kernel
theorem dX5_digest_156 : decode cX5_digest 156 = .ok (.iconst 0, 1) := by decide +kernel
theorem dX5_digest_157 : decode cX5_digest 157 = .ok (.istore_n 1, 1) := by decide +kernel
theorem dX5_digest_158 : decode cX5_digest 158 = .ok (.iload_n 1, 1) := by decide +kernel
theorem dX5_digest_159 : decode cX5_digest 159 = .ok (.aload_n 0, 1) := by decide +kernel
theorem dX5_digest_160 : decode cX5_digest 160 = .ok (.getfield 124, 3) := by decide +kernel
theorem dX5_digest_163 : decode cX5_digest 163 = .ok (.if_icmp .ge 20, 3) := by decide +kernel
theorem dX5_digest_166 : decode cX5_digest 166 = .ok (.aload_n 0, 1) := by decide +kernel
theorem dX5_digest_167 : decode cX5_digest 167 = .ok (.aload_n 0, 1) := by decide +kernel
theorem dX5_digest_168 : decode cX5_digest 168 = .ok (.getfield 22, 3) := by decide +kernel
theorem dX5_digest_171 : decode cX5_digest 171 = .ok (.iload_n 1, 1) := by decide +kernel
theorem dX5_digest_172 : decode cX5_digest 172 = .ok (.iaload, 1) := by decide +kernel
theorem dX5_digest_173 : decode cX5_digest 173 = .ok (.i2l, 1) := by decide +kernel
theorem dX5_digest_174 : decode cX5_digest 174 = .ok (.invokevirtual 206, 3) := by decide +kernel
theorem dX5_digest_177 : decode cX5_digest 177 = .ok (.iinc 1 1, 3) := by decide +kernel
theorem dX5_digest_180 : decode cX5_digest 180 = .ok (.goto (-22), 3) := by decide +kernel
theorem dX5_digest_183 : decode cX5_digest 183 = .ok (.aload_n 0, 1) := by decide +kernel
theorem dX5_digest_184 : decode cX5_digest 184 = .ok (.getfield 202, 3) := by decide +kernel
theorem dX5_digest_187 : decode cX5_digest 187 = .ok (.lreturn, 1) := by decide +kernel
theorem dJ9_abs_0f7a4_0 : decode cJ9_abs_0f7a4 0 = .ok (.iload_n 0, 1) := by decide +kernel
theorem dJ9_abs_0f7a4_1 : decode cJ9_abs_0f7a4 1 = .ok (.ifCond .ge 8, 3) := by decide +kernel
theorem dJ9_abs_0f7a4_4 : decode cJ9_abs_0f7a4 4 = .ok (.iload_n 0, 1) := by decide +kernel
theorem dJ9_abs_0f7a4_5 : decode cJ9_abs_0f7a4 5 = .ok (.ineg, 1) := by decide +kernel
theorem dJ9_abs_0f7a4_6 : decode cJ9_abs_0f7a4 6 = .ok (.goto 4, 3) := by decide +kernel
theorem dJ9_abs_0f7a4_9 : decode cJ9_abs_0f7a4 9 = .ok (.iload_n 0, 1) := by decide +kernel
theorem dJ9_abs_0f7a4_10 : decode cJ9_abs_0f7a4 10 = .ok (.ireturn, 1) := by decide +kernel
theorem dJ9_min_7cf53_0 : decode cJ9_min_7cf53 0 = .ok (.iload_n 0, 1) := by decide +kernel
theorem dJ9_min_7cf53_1 : decode cJ9_min_7cf53 1 = .ok (.iload_n 1, 1) := by decide +kernel
theorem dJ9_min_7cf53_2 : decode cJ9_min_7cf53 2 = .ok (.if_icmp .gt 7, 3) := by decide +kernel
theorem dJ9_min_7cf53_5 : decode cJ9_min_7cf53 5 = .ok (.iload_n 0, 1) := by decide +kernel
theorem dJ9_min_7cf53_6 : decode cJ9_min_7cf53 6 = .ok (.goto 4, 3) := by decide +kernel
theorem dJ9_min_7cf53_9 : decode cJ9_min_7cf53 9 = .ok (.iload_n 1, 1) := by decide +kernel
theorem dJ9_min_7cf53_10 : decode cJ9_min_7cf53 10 = .ok (.ireturn, 1) := by decide +kernel
theorem dL_pond_0 : decode cL_pond 0 = .ok (.aload 4, 2) := by decide +kernel
theorem dL_pond_2 : decode cL_pond 2 = .ok (.iconst 0, 1) := by decide +kernel
theorem dL_pond_3 : decode cL_pond 3 = .ok (.aload_n 0, 1) := by decide +kernel
theorem dL_pond_4 : decode cL_pond 4 = .ok (.iload_n 1, 1) := by decide +kernel
theorem dL_pond_5 : decode cL_pond 5 = .ok (.iload_n 2, 1) := by decide +kernel
theorem dL_pond_6 : decode cL_pond 6 = .ok (.iload_n 3, 1) := by decide +kernel
theorem dL_pond_7 : decode cL_pond 7 = .ok (.invokevirtual 7, 3) := by decide +kernel
theorem dL_pond_10 : decode cL_pond 10 = .ok (.i2l, 1) := by decide +kernel
theorem dL_pond_11 : decode cL_pond 11 = .ok (.lastore, 1) := by decide +kernel
theorem dL_pond_12 : decode cL_pond 12 = .ok (.goto 15, 3) := by decide +kernel
theorem dL_pond_15 : decode cL_pond 15 = .ok (.astore 5, 2) := by decide +kernel
theorem dL_pond_17 : decode cL_pond 17 = .ok (.iconst 1, 1) := by decide +kernel
theorem dL_pond_18 : decode cL_pond 18 = .ok (.ireturn, 1) := by decide +kernel
theorem dL_pond_19 : decode cL_pond 19 = .ok (.astore 5, 2) := by decide +kernel
theorem dL_pond_21 : decode cL_pond 21 = .ok (.iconst 2, 1) := by decide +kernel
theorem dL_pond_22 : decode cL_pond 22 = .ok (.ireturn, 1) := by decide +kernel
theorem dL_pond_23 : decode cL_pond 23 = .ok (.astore 5, 2) := by decide +kernel
theorem dL_pond_25 : decode cL_pond 25 = .ok (.iconst 3, 1) := by decide +kernel
theorem dL_pond_26 : decode cL_pond 26 = .ok (.ireturn, 1) := by decide +kernel
theorem dL_pond_27 : decode cL_pond 27 = .ok (.iconst 0, 1) := by decide +kernel
theorem dL_pond_28 : decode cL_pond 28 = .ok (.ireturn, 1) := by decide +kernel
theorem dL_gate_0 : decode cL_gate 0 = .ok (.aload 4, 2) := by decide +kernel
theorem dL_gate_2 : decode cL_gate 2 = .ok (.iconst 0, 1) := by decide +kernel
theorem dL_gate_3 : decode cL_gate 3 = .ok (.aload_n 0, 1) := by decide +kernel
theorem dL_gate_4 : decode cL_gate 4 = .ok (.iload_n 1, 1) := by decide +kernel
theorem dL_gate_5 : decode cL_gate 5 = .ok (.iload_n 2, 1) := by decide +kernel
theorem dL_gate_6 : decode cL_gate 6 = .ok (.iload_n 3, 1) := by decide +kernel
theorem dL_gate_7 : decode cL_gate 7 = .ok (.invokevirtual 19, 3) := by decide +kernel
theorem dL_gate_10 : decode cL_gate 10 = .ok (.i2l, 1) := by decide +kernel
theorem dL_gate_11 : decode cL_gate 11 = .ok (.lastore, 1) := by decide +kernel
theorem dL_gate_12 : decode cL_gate 12 = .ok (.goto 11, 3) := by decide +kernel
theorem dL_gate_15 : decode cL_gate 15 = .ok (.astore 5, 2) := by decide +kernel
theorem dL_gate_17 : decode cL_gate 17 = .ok (.iconst 1, 1) := by decide +kernel
theorem dL_gate_18 : decode cL_gate 18 = .ok (.ireturn, 1) := by decide +kernel
theorem dL_gate_19 : decode cL_gate 19 = .ok (.astore 5, 2) := by decide +kernel
theorem dL_gate_21 : decode cL_gate 21 = .ok (.iconst 2, 1) := by decide +kernel
theorem dL_gate_22 : decode cL_gate 22 = .ok (.ireturn, 1) := by decide +kernel
theorem dL_gate_23 : decode cL_gate 23 = .ok (.iconst 0, 1) := by decide +kernel
theorem dL_gate_24 : decode cL_gate 24 = .ok (.ireturn, 1) := by decide +kernel
theorem dL_gear_0 : decode cL_gear 0 = .ok (.aload 4, 2) := by decide +kernel
theorem dL_gear_2 : decode cL_gear 2 = .ok (.iconst 0, 1) := by decide +kernel
theorem dL_gear_3 : decode cL_gear 3 = .ok (.aload_n 0, 1) := by decide +kernel
theorem dL_gear_4 : decode cL_gear 4 = .ok (.iload_n 1, 1) := by decide +kernel
theorem dL_gear_5 : decode cL_gear 5 = .ok (.iload_n 2, 1) := by decide +kernel
theorem dL_gear_6 : decode cL_gear 6 = .ok (.iload_n 3, 1) := by decide +kernel
theorem dL_gear_7 : decode cL_gear 7 = .ok (.invokevirtual 22, 3) := by decide +kernel
theorem dL_gear_10 : decode cL_gear 10 = .ok (.i2l, 1) := by decide +kernel
theorem dL_gear_11 : decode cL_gear 11 = .ok (.lastore, 1) := by decide +kernel
theorem dL_gear_12 : decode cL_gear 12 = .ok (.goto 11, 3) := by decide +kernel
theorem dL_gear_15 : decode cL_gear 15 = .ok (.astore 5, 2) := by decide +kernel
theorem dL_gear_17 : decode cL_gear 17 = .ok (.iconst 1, 1) := by decide +kernel
theorem dL_gear_18 : decode cL_gear 18 = .ok (.ireturn, 1) := by decide +kernel
theorem dL_gear_19 : decode cL_gear 19 = .ok (.astore 5, 2) := by decide +kernel
theorem dL_gear_21 : decode cL_gear 21 = .ok (.iconst 2, 1) := by decide +kernel
theorem dL_gear_22 : decode cL_gear 22 = .ok (.ireturn, 1) := by decide +kernel
theorem dL_gear_23 : decode cL_gear 23 = .ok (.iconst 0, 1) := by decide +kernel
theorem dL_gear_24 : decode cL_gear 24 = .ok (.ireturn, 1) := by decide +kernel
theorem dL_set_0 : decode cL_set 0 = .ok (.aload_n 3, 1) := by decide +kernel
theorem dL_set_1 : decode cL_set 1 = .ok (.iconst 0, 1) := by decide +kernel
theorem dL_set_2 : decode cL_set 2 = .ok (.aload_n 0, 1) := by decide +kernel
theorem dL_set_3 : decode cL_set 3 = .ok (.iload_n 1, 1) := by decide +kernel
theorem dL_set_4 : decode cL_set 4 = .ok (.iload_n 2, 1) := by decide +kernel
theorem dL_set_5 : decode cL_set 5 = .ok (.invokevirtual 25, 3) := by decide +kernel
theorem dL_set_8 : decode cL_set 8 = .ok (.i2l, 1) := by decide +kernel
theorem dL_set_9 : decode cL_set 9 = .ok (.lastore, 1) := by decide +kernel
theorem dL_set_10 : decode cL_set 10 = .ok (.goto 11, 3) := by decide +kernel
theorem dL_set_13 : decode cL_set 13 = .ok (.astore 4, 2) := by decide +kernel
theorem dL_set_15 : decode cL_set 15 = .ok (.iconst 1, 1) := by decide +kernel
theorem dL_set_16 : decode cL_set 16 = .ok (.ireturn, 1) := by decide +kernel
theorem dL_set_17 : decode cL_set 17 = .ok (.astore 4, 2) := by decide +kernel
theorem dL_set_19 : decode cL_set 19 = .ok (.iconst 2, 1) := by decide +kernel
theorem dL_set_20 : decode cL_set 20 = .ok (.ireturn, 1) := by decide +kernel
theorem dL_set_21 : decode cL_set 21 = .ok (.iconst 0, 1) := by decide +kernel
theorem dL_set_22 : decode cL_set 22 = .ok (.ireturn, 1) := by decide +kernel
theorem dL_pass_0 : decode cL_pass 0 = .ok (.aload_n 2, 1) := by decide +kernel
theorem dL_pass_1 : decode cL_pass 1 = .ok (.iconst 0, 1) := by decide +kernel
theorem dL_pass_2 : decode cL_pass 2 = .ok (.aload_n 0, 1) := by decide +kernel
theorem dL_pass_3 : decode cL_pass 3 = .ok (.iload_n 1, 1) := by decide +kernel
theorem dL_pass_4 : decode cL_pass 4 = .ok (.invokevirtual 29, 3) := by decide +kernel
theorem dL_pass_7 : decode cL_pass 7 = .ok (.i2l, 1) := by decide +kernel
theorem dL_pass_8 : decode cL_pass 8 = .ok (.lastore, 1) := by decide +kernel
theorem dL_pass_9 : decode cL_pass 9 = .ok (.goto 6, 3) := by decide +kernel
theorem dL_pass_12 : decode cL_pass 12 = .ok (.astore_n 3, 1) := by decide +kernel
theorem dL_pass_13 : decode cL_pass 13 = .ok (.iconst 1, 1) := by decide +kernel
theorem dL_pass_14 : decode cL_pass 14 = .ok (.ireturn, 1) := by decide +kernel
theorem dL_pass_15 : decode cL_pass 15 = .ok (.iconst 0, 1) := by decide +kernel
theorem dL_pass_16 : decode cL_pass 16 = .ok (.ireturn, 1) := by decide +kernel
theorem dL_sack_0 : decode cL_sack 0 = .ok (.aload 4, 2) := by decide +kernel
theorem dL_sack_2 : decode cL_sack 2 = .ok (.iconst 0, 1) := by decide +kernel
theorem dL_sack_3 : decode cL_sack 3 = .ok (.aload_n 0, 1) := by decide +kernel
theorem dL_sack_4 : decode cL_sack 4 = .ok (.iload_n 1, 1) := by decide +kernel
theorem dL_sack_5 : decode cL_sack 5 = .ok (.iload_n 2, 1) := by decide +kernel
theorem dL_sack_6 : decode cL_sack 6 = .ok (.iload_n 3, 1) := by decide +kernel
theorem dL_sack_7 : decode cL_sack 7 = .ok (.invokevirtual 33, 3) := by decide +kernel
theorem dL_sack_10 : decode cL_sack 10 = .ok (.i2l, 1) := by decide +kernel
theorem dL_sack_11 : decode cL_sack 11 = .ok (.lastore, 1) := by decide +kernel
theorem dL_sack_12 : decode cL_sack 12 = .ok (.goto 15, 3) := by decide +kernel
theorem dL_sack_15 : decode cL_sack 15 = .ok (.astore 5, 2) := by decide +kernel
theorem dL_sack_17 : decode cL_sack 17 = .ok (.iconst 1, 1) := by decide +kernel
theorem dL_sack_18 : decode cL_sack 18 = .ok (.ireturn, 1) := by decide +kernel
theorem dL_sack_19 : decode cL_sack 19 = .ok (.astore 5, 2) := by decide +kernel
theorem dL_sack_21 : decode cL_sack 21 = .ok (.iconst 2, 1) := by decide +kernel
theorem dL_sack_22 : decode cL_sack 22 = .ok (.ireturn, 1) := by decide +kernel
theorem dL_sack_23 : decode cL_sack 23 = .ok (.astore 5, 2) := by decide +kernel
theorem dL_sack_25 : decode cL_sack 25 = .ok (.iconst 3, 1) := by decide +kernel
theorem dL_sack_26 : decode cL_sack 26 = .ok (.ireturn, 1) := by decide +kernel
theorem dL_sack_27 : decode cL_sack 27 = .ok (.iconst 0, 1) := by decide +kernel
theorem dL_sack_28 : decode cL_sack 28 = .ok (.ireturn, 1) := by decide +kernel
theorem dL_carry_0 : decode cL_carry 0 = .ok (.aload_n 3, 1) := by decide +kernel
theorem dL_carry_1 : decode cL_carry 1 = .ok (.iconst 0, 1) := by decide +kernel
theorem dL_carry_2 : decode cL_carry 2 = .ok (.aload_n 0, 1) := by decide +kernel
theorem dL_carry_3 : decode cL_carry 3 = .ok (.iload_n 1, 1) := by decide +kernel
theorem dL_carry_4 : decode cL_carry 4 = .ok (.iload_n 2, 1) := by decide +kernel
theorem dL_carry_5 : decode cL_carry 5 = .ok (.invokevirtual 36, 3) := by decide +kernel
theorem dL_carry_8 : decode cL_carry 8 = .ok (.i2l, 1) := by decide +kernel
theorem dL_carry_9 : decode cL_carry 9 = .ok (.lastore, 1) := by decide +kernel
theorem dL_carry_10 : decode cL_carry 10 = .ok (.goto 11, 3) := by decide +kernel
theorem dL_carry_13 : decode cL_carry 13 = .ok (.astore 4, 2) := by decide +kernel
theorem dL_carry_15 : decode cL_carry 15 = .ok (.iconst 1, 1) := by decide +kernel
theorem dL_carry_16 : decode cL_carry 16 = .ok (.ireturn, 1) := by decide +kernel
theorem dL_carry_17 : decode cL_carry 17 = .ok (.astore 4, 2) := by decide +kernel
theorem dL_carry_19 : decode cL_carry 19 = .ok (.iconst 2, 1) := by decide +kernel
theorem dL_carry_20 : decode cL_carry 20 = .ok (.ireturn, 1) := by decide +kernel
theorem dL_carry_21 : decode cL_carry 21 = .ok (.iconst 0, 1) := by decide +kernel
theorem dL_carry_22 : decode cL_carry 22 = .ok (.ireturn, 1) := by decide +kernel
theorem dL_back_0 : decode cL_back 0 = .ok (.aload_n 2, 1) := by decide +kernel
theorem dL_back_1 : decode cL_back 1 = .ok (.iconst 0, 1) := by decide +kernel
theorem dL_back_2 : decode cL_back 2 = .ok (.aload_n 0, 1) := by decide +kernel
theorem dL_back_3 : decode cL_back 3 = .ok (.iload_n 1, 1) := by decide +kernel
theorem dL_back_4 : decode cL_back 4 = .ok (.invokevirtual 39, 3) := by decide +kernel
theorem dL_back_7 : decode cL_back 7 = .ok (.i2l, 1) := by decide +kernel
theorem dL_back_8 : decode cL_back 8 = .ok (.lastore, 1) := by decide +kernel
theorem dL_back_9 : decode cL_back 9 = .ok (.goto 6, 3) := by decide +kernel
theorem dL_back_12 : decode cL_back 12 = .ok (.astore_n 3, 1) := by decide +kernel
theorem dL_back_13 : decode cL_back 13 = .ok (.iconst 1, 1) := by decide +kernel
theorem dL_back_14 : decode cL_back 14 = .ok (.ireturn, 1) := by decide +kernel
theorem dL_back_15 : decode cL_back 15 = .ok (.iconst 0, 1) := by decide +kernel
theorem dL_back_16 : decode cL_back 16 = .ok (.ireturn, 1) := by decide +kernel
theorem dL_append_0 : decode cL_append 0 = .ok (.aload_n 2, 1) := by decide +kernel
theorem dL_append_1 : decode cL_append 1 = .ok (.iconst 0, 1) := by decide +kernel
theorem dL_append_2 : decode cL_append 2 = .ok (.aload_n 0, 1) := by decide +kernel
theorem dL_append_3 : decode cL_append 3 = .ok (.iload_n 1, 1) := by decide +kernel
theorem dL_append_4 : decode cL_append 4 = .ok (.invokevirtual 42, 3) := by decide +kernel
theorem dL_append_7 : decode cL_append 7 = .ok (.i2l, 1) := by decide +kernel
theorem dL_append_8 : decode cL_append 8 = .ok (.lastore, 1) := by decide +kernel
theorem dL_append_9 : decode cL_append 9 = .ok (.goto 9, 3) := by decide +kernel
theorem dL_append_12 : decode cL_append 12 = .ok (.astore_n 3, 1) := by decide +kernel
theorem dL_append_13 : decode cL_append 13 = .ok (.iconst 1, 1) := by decide +kernel
theorem dL_append_14 : decode cL_append 14 = .ok (.ireturn, 1) := by decide +kernel
theorem dL_append_15 : decode cL_append 15 = .ok (.astore_n 3, 1) := by decide +kernel
theorem dL_append_16 : decode cL_append 16 = .ok (.iconst 2, 1) := by decide +kernel
theorem dL_append_17 : decode cL_append 17 = .ok (.ireturn, 1) := by decide +kernel
theorem dL_append_18 : decode cL_append 18 = .ok (.iconst 0, 1) := by decide +kernel
theorem dL_append_19 : decode cL_append 19 = .ok (.ireturn, 1) := by decide +kernel
theorem dL_play_0 : decode cL_play 0 = .ok (.aload_n 1, 1) := by decide +kernel
theorem dL_play_1 : decode cL_play 1 = .ok (.iconst 0, 1) := by decide +kernel
theorem dL_play_2 : decode cL_play 2 = .ok (.aload_n 0, 1) := by decide +kernel
theorem dL_play_3 : decode cL_play 3 = .ok (.invokevirtual 45, 3) := by decide +kernel
theorem dL_play_6 : decode cL_play 6 = .ok (.i2l, 1) := by decide +kernel
theorem dL_play_7 : decode cL_play 7 = .ok (.lastore, 1) := by decide +kernel
theorem dL_play_8 : decode cL_play 8 = .ok (.goto 6, 3) := by decide +kernel
theorem dL_play_11 : decode cL_play 11 = .ok (.astore_n 2, 1) := by decide +kernel
theorem dL_play_12 : decode cL_play 12 = .ok (.iconst 1, 1) := by decide +kernel
theorem dL_play_13 : decode cL_play 13 = .ok (.ireturn, 1) := by decide +kernel
theorem dL_play_14 : decode cL_play 14 = .ok (.iconst 0, 1) := by decide +kernel
theorem dL_play_15 : decode cL_play 15 = .ok (.ireturn, 1) := by decide +kernel
theorem dL_undo_0 : decode cL_undo 0 = .ok (.aload_n 1, 1) := by decide +kernel
theorem dL_undo_1 : decode cL_undo 1 = .ok (.iconst 0, 1) := by decide +kernel
theorem dL_undo_2 : decode cL_undo 2 = .ok (.aload_n 0, 1) := by decide +kernel
theorem dL_undo_3 : decode cL_undo 3 = .ok (.invokevirtual 49, 3) := by decide +kernel
theorem dL_undo_6 : decode cL_undo 6 = .ok (.i2l, 1) := by decide +kernel
theorem dL_undo_7 : decode cL_undo 7 = .ok (.lastore, 1) := by decide +kernel
theorem dL_undo_8 : decode cL_undo 8 = .ok (.goto 6, 3) := by decide +kernel
theorem dL_undo_11 : decode cL_undo 11 = .ok (.astore_n 2, 1) := by decide +kernel
theorem dL_undo_12 : decode cL_undo 12 = .ok (.iconst 1, 1) := by decide +kernel
theorem dL_undo_13 : decode cL_undo 13 = .ok (.ireturn, 1) := by decide +kernel
theorem dL_undo_14 : decode cL_undo 14 = .ok (.iconst 0, 1) := by decide +kernel
theorem dL_undo_15 : decode cL_undo 15 = .ok (.ireturn, 1) := by decide +kernel
theorem dL_restore_0 : decode cL_restore 0 = .ok (.aload_n 1, 1) := by decide +kernel
theorem dL_restore_1 : decode cL_restore 1 = .ok (.iconst 0, 1) := by decide +kernel
theorem dL_restore_2 : decode cL_restore 2 = .ok (.aload_n 0, 1) := by decide +kernel
theorem dL_restore_3 : decode cL_restore 3 = .ok (.invokevirtual 52, 3) := by decide +kernel
theorem dL_restore_6 : decode cL_restore 6 = .ok (.i2l, 1) := by decide +kernel
theorem dL_restore_7 : decode cL_restore 7 = .ok (.lastore, 1) := by decide +kernel
theorem dL_restore_8 : decode cL_restore 8 = .ok (.goto 6, 3) := by decide +kernel
theorem dL_restore_11 : decode cL_restore 11 = .ok (.astore_n 2, 1) := by decide +kernel
theorem dL_restore_12 : decode cL_restore 12 = .ok (.iconst 1, 1) := by decide +kernel
theorem dL_restore_13 : decode cL_restore 13 = .ok (.ireturn, 1) := by decide +kernel
theorem dL_restore_14 : decode cL_restore 14 = .ok (.iconst 0, 1) := by decide +kernel
theorem dL_restore_15 : decode cL_restore 15 = .ok (.ireturn, 1) := by decide +kernel
theorem dL_mill_0 : decode cL_mill 0 = .ok (.aload_n 3, 1) := by decide +kernel
theorem dL_mill_1 : decode cL_mill 1 = .ok (.iconst 0, 1) := by decide +kernel
theorem dL_mill_2 : decode cL_mill 2 = .ok (.aload_n 0, 1) := by decide +kernel
theorem dL_mill_3 : decode cL_mill 3 = .ok (.iload_n 1, 1) := by decide +kernel
theorem dL_mill_4 : decode cL_mill 4 = .ok (.iload_n 2, 1) := by decide +kernel
theorem dL_mill_5 : decode cL_mill 5 = .ok (.invokevirtual 55, 3) := by decide +kernel
theorem dL_mill_8 : decode cL_mill 8 = .ok (.i2l, 1) := by decide +kernel
theorem dL_mill_9 : decode cL_mill 9 = .ok (.lastore, 1) := by decide +kernel
theorem dL_mill_10 : decode cL_mill 10 = .ok (.goto 11, 3) := by decide +kernel
theorem dL_mill_13 : decode cL_mill 13 = .ok (.astore 4, 2) := by decide +kernel
theorem dL_mill_15 : decode cL_mill 15 = .ok (.iconst 1, 1) := by decide +kernel
theorem dL_mill_16 : decode cL_mill 16 = .ok (.ireturn, 1) := by decide +kernel
theorem dL_mill_17 : decode cL_mill 17 = .ok (.astore 4, 2) := by decide +kernel
theorem dL_mill_19 : decode cL_mill 19 = .ok (.iconst 2, 1) := by decide +kernel
theorem dL_mill_20 : decode cL_mill 20 = .ok (.ireturn, 1) := by decide +kernel
theorem dL_mill_21 : decode cL_mill 21 = .ok (.iconst 0, 1) := by decide +kernel
theorem dL_mill_22 : decode cL_mill 22 = .ok (.ireturn, 1) := by decide +kernel
theorem dL_sackAt_0 : decode cL_sackAt 0 = .ok (.aload_n 3, 1) := by decide +kernel
theorem dL_sackAt_1 : decode cL_sackAt 1 = .ok (.iconst 0, 1) := by decide +kernel
theorem dL_sackAt_2 : decode cL_sackAt 2 = .ok (.aload_n 0, 1) := by decide +kernel
theorem dL_sackAt_3 : decode cL_sackAt 3 = .ok (.iload_n 1, 1) := by decide +kernel
theorem dL_sackAt_4 : decode cL_sackAt 4 = .ok (.iload_n 2, 1) := by decide +kernel
theorem dL_sackAt_5 : decode cL_sackAt 5 = .ok (.invokevirtual 58, 3) := by decide +kernel
theorem dL_sackAt_8 : decode cL_sackAt 8 = .ok (.i2l, 1) := by decide +kernel
theorem dL_sackAt_9 : decode cL_sackAt 9 = .ok (.lastore, 1) := by decide +kernel
theorem dL_sackAt_10 : decode cL_sackAt 10 = .ok (.goto 11, 3) := by decide +kernel
theorem dL_sackAt_13 : decode cL_sackAt 13 = .ok (.astore 4, 2) := by decide +kernel
theorem dL_sackAt_15 : decode cL_sackAt 15 = .ok (.iconst 1, 1) := by decide +kernel
theorem dL_sackAt_16 : decode cL_sackAt 16 = .ok (.ireturn, 1) := by decide +kernel
theorem dL_sackAt_17 : decode cL_sackAt 17 = .ok (.astore 4, 2) := by decide +kernel
theorem dL_sackAt_19 : decode cL_sackAt 19 = .ok (.iconst 2, 1) := by decide +kernel
theorem dL_sackAt_20 : decode cL_sackAt 20 = .ok (.ireturn, 1) := by decide +kernel
theorem dL_sackAt_21 : decode cL_sackAt 21 = .ok (.iconst 0, 1) := by decide +kernel
theorem dL_sackAt_22 : decode cL_sackAt 22 = .ok (.ireturn, 1) := by decide +kernel
theorem dL_sackOf_0 : decode cL_sackOf 0 = .ok (.aload_n 3, 1) := by decide +kernel
theorem dL_sackOf_1 : decode cL_sackOf 1 = .ok (.iconst 0, 1) := by decide +kernel
theorem dL_sackOf_2 : decode cL_sackOf 2 = .ok (.aload_n 0, 1) := by decide +kernel
theorem dL_sackOf_3 : decode cL_sackOf 3 = .ok (.iload_n 1, 1) := by decide +kernel
theorem dL_sackOf_4 : decode cL_sackOf 4 = .ok (.iload_n 2, 1) := by decide +kernel
theorem dL_sackOf_5 : decode cL_sackOf 5 = .ok (.invokevirtual 61, 3) := by decide +kernel
theorem dL_sackOf_8 : decode cL_sackOf 8 = .ok (.i2l, 1) := by decide +kernel
theorem dL_sackOf_9 : decode cL_sackOf 9 = .ok (.lastore, 1) := by decide +kernel
theorem dL_sackOf_10 : decode cL_sackOf 10 = .ok (.goto 7, 3) := by decide +kernel
theorem dL_sackOf_13 : decode cL_sackOf 13 = .ok (.astore 4, 2) := by decide +kernel
theorem dL_sackOf_15 : decode cL_sackOf 15 = .ok (.iconst 1, 1) := by decide +kernel
theorem dL_sackOf_16 : decode cL_sackOf 16 = .ok (.ireturn, 1) := by decide +kernel
theorem dL_sackOf_17 : decode cL_sackOf 17 = .ok (.iconst 0, 1) := by decide +kernel
theorem dL_sackOf_18 : decode cL_sackOf 18 = .ok (.ireturn, 1) := by decide +kernel
theorem dL_whyNot_0 : decode cL_whyNot 0 = .ok (.aload_n 2, 1) := by decide +kernel
theorem dL_whyNot_1 : decode cL_whyNot 1 = .ok (.iconst 0, 1) := by decide +kernel
theorem dL_whyNot_2 : decode cL_whyNot 2 = .ok (.aload_n 0, 1) := by decide +kernel
theorem dL_whyNot_3 : decode cL_whyNot 3 = .ok (.iload_n 1, 1) := by decide +kernel
theorem dL_whyNot_4 : decode cL_whyNot 4 = .ok (.invokevirtual 64, 3) := by decide +kernel
theorem dL_whyNot_7 : decode cL_whyNot 7 = .ok (.i2l, 1) := by decide +kernel
theorem dL_whyNot_8 : decode cL_whyNot 8 = .ok (.lastore, 1) := by decide +kernel
theorem dL_whyNot_9 : decode cL_whyNot 9 = .ok (.goto 6, 3) := by decide +kernel
theorem dL_whyNot_12 : decode cL_whyNot 12 = .ok (.astore_n 3, 1) := by decide +kernel
theorem dL_whyNot_13 : decode cL_whyNot 13 = .ok (.iconst 1, 1) := by decide +kernel
theorem dL_whyNot_14 : decode cL_whyNot 14 = .ok (.ireturn, 1) := by decide +kernel
theorem dL_whyNot_15 : decode cL_whyNot 15 = .ok (.iconst 0, 1) := by decide +kernel
theorem dL_whyNot_16 : decode cL_whyNot 16 = .ok (.ireturn, 1) := by decide +kernel
theorem dL_tide_0 : decode cL_tide 0 = .ok (.aload_n 2, 1) := by decide +kernel
theorem dL_tide_1 : decode cL_tide 1 = .ok (.iconst 0, 1) := by decide +kernel
theorem dL_tide_2 : decode cL_tide 2 = .ok (.aload_n 0, 1) := by decide +kernel
theorem dL_tide_3 : decode cL_tide 3 = .ok (.iload_n 1, 1) := by decide +kernel
theorem dL_tide_4 : decode cL_tide 4 = .ok (.invokevirtual 67, 3) := by decide +kernel
theorem dL_tide_7 : decode cL_tide 7 = .ok (.i2l, 1) := by decide +kernel
theorem dL_tide_8 : decode cL_tide 8 = .ok (.lastore, 1) := by decide +kernel
theorem dL_tide_9 : decode cL_tide 9 = .ok (.goto 6, 3) := by decide +kernel
theorem dL_tide_12 : decode cL_tide 12 = .ok (.astore_n 3, 1) := by decide +kernel
theorem dL_tide_13 : decode cL_tide 13 = .ok (.iconst 1, 1) := by decide +kernel
theorem dL_tide_14 : decode cL_tide 14 = .ok (.ireturn, 1) := by decide +kernel
theorem dL_tide_15 : decode cL_tide 15 = .ok (.iconst 0, 1) := by decide +kernel
theorem dL_tide_16 : decode cL_tide 16 = .ok (.ireturn, 1) := by decide +kernel
theorem dL_count_0 : decode cL_count 0 = .ok (.aload_n 2, 1) := by decide +kernel
theorem dL_count_1 : decode cL_count 1 = .ok (.iconst 0, 1) := by decide +kernel
theorem dL_count_2 : decode cL_count 2 = .ok (.aload_n 0, 1) := by decide +kernel
theorem dL_count_3 : decode cL_count 3 = .ok (.iload_n 1, 1) := by decide +kernel
theorem dL_count_4 : decode cL_count 4 = .ok (.invokevirtual 70, 3) := by decide +kernel
theorem dL_count_7 : decode cL_count 7 = .ok (.i2l, 1) := by decide +kernel
theorem dL_count_8 : decode cL_count 8 = .ok (.lastore, 1) := by decide +kernel
theorem dL_count_9 : decode cL_count 9 = .ok (.goto 6, 3) := by decide +kernel
theorem dL_count_12 : decode cL_count 12 = .ok (.astore_n 3, 1) := by decide +kernel
theorem dL_count_13 : decode cL_count 13 = .ok (.iconst 1, 1) := by decide +kernel
theorem dL_count_14 : decode cL_count 14 = .ok (.ireturn, 1) := by decide +kernel
theorem dL_count_15 : decode cL_count 15 = .ok (.iconst 0, 1) := by decide +kernel
theorem dL_count_16 : decode cL_count 16 = .ok (.ireturn, 1) := by decide +kernel
theorem dL_next_0 : decode cL_next 0 = .ok (.aload_n 2, 1) := by decide +kernel
theorem dL_next_1 : decode cL_next 1 = .ok (.iconst 0, 1) := by decide +kernel
theorem dL_next_2 : decode cL_next 2 = .ok (.aload_n 0, 1) := by decide +kernel
theorem dL_next_3 : decode cL_next 3 = .ok (.iload_n 1, 1) := by decide +kernel
theorem dL_next_4 : decode cL_next 4 = .ok (.invokevirtual 73, 3) := by decide +kernel
theorem dL_next_7 : decode cL_next 7 = .ok (.i2l, 1) := by decide +kernel
theorem dL_next_8 : decode cL_next 8 = .ok (.lastore, 1) := by decide +kernel
theorem dL_next_9 : decode cL_next 9 = .ok (.goto 6, 3) := by decide +kernel
theorem dL_next_12 : decode cL_next 12 = .ok (.astore_n 3, 1) := by decide +kernel
theorem dL_next_13 : decode cL_next 13 = .ok (.iconst 1, 1) := by decide +kernel
theorem dL_next_14 : decode cL_next 14 = .ok (.ireturn, 1) := by decide +kernel
theorem dL_next_15 : decode cL_next 15 = .ok (.iconst 0, 1) := by decide +kernel
theorem dL_next_16 : decode cL_next 16 = .ok (.ireturn, 1) := by decide +kernel
theorem dL_ifPassed_0 : decode cL_ifPassed 0 = .ok (.aload_n 3, 1) := by decide +kernel
theorem dL_ifPassed_1 : decode cL_ifPassed 1 = .ok (.iconst 0, 1) := by decide +kernel
theorem dL_ifPassed_2 : decode cL_ifPassed 2 = .ok (.aload_n 0, 1) := by decide +kernel
theorem dL_ifPassed_3 : decode cL_ifPassed 3 = .ok (.iload_n 1, 1) := by decide +kernel
theorem dL_ifPassed_4 : decode cL_ifPassed 4 = .ok (.iload_n 2, 1) := by decide +kernel
theorem dL_ifPassed_5 : decode cL_ifPassed 5 = .ok (.invokevirtual 76, 3) := by decide +kernel
theorem dL_ifPassed_8 : decode cL_ifPassed 8 = .ok (.i2l, 1) := by decide +kernel
theorem dL_ifPassed_9 : decode cL_ifPassed 9 = .ok (.lastore, 1) := by decide +kernel
theorem dL_ifPassed_10 : decode cL_ifPassed 10 = .ok (.goto 7, 3) := by decide +kernel
theorem dL_ifPassed_13 : decode cL_ifPassed 13 = .ok (.astore 4, 2) := by decide +kernel
theorem dL_ifPassed_15 : decode cL_ifPassed 15 = .ok (.iconst 1, 1) := by decide +kernel
theorem dL_ifPassed_16 : decode cL_ifPassed 16 = .ok (.ireturn, 1) := by decide +kernel
theorem dL_ifPassed_17 : decode cL_ifPassed 17 = .ok (.iconst 0, 1) := by decide +kernel
theorem dL_ifPassed_18 : decode cL_ifPassed 18 = .ok (.ireturn, 1) := by decide +kernel
theorem dL_bestStone_0 : decode cL_bestStone 0 = .ok (.aload_n 2, 1) := by decide +kernel
theorem dL_bestStone_1 : decode cL_bestStone 1 = .ok (.iconst 0, 1) := by decide +kernel
theorem dL_bestStone_2 : decode cL_bestStone 2 = .ok (.aload_n 0, 1) := by decide +kernel
theorem dL_bestStone_3 : decode cL_bestStone 3 = .ok (.iload_n 1, 1) := by decide +kernel
theorem dL_bestStone_4 : decode cL_bestStone 4 = .ok (.invokevirtual 79, 3) := by decide +kernel
theorem dL_bestStone_7 : decode cL_bestStone 7 = .ok (.i2l, 1) := by decide +kernel
theorem dL_bestStone_8 : decode cL_bestStone 8 = .ok (.lastore, 1) := by decide +kernel
theorem dL_bestStone_9 : decode cL_bestStone 9 = .ok (.goto 6, 3) := by decide +kernel
theorem dL_bestStone_12 : decode cL_bestStone 12 = .ok (.astore_n 3, 1) := by decide +kernel
theorem dL_bestStone_13 : decode cL_bestStone 13 = .ok (.iconst 1, 1) := by decide +kernel
theorem dL_bestStone_14 : decode cL_bestStone 14 = .ok (.ireturn, 1) := by decide +kernel
theorem dL_bestStone_15 : decode cL_bestStone 15 = .ok (.iconst 0, 1) := by decide +kernel
theorem dL_bestStone_16 : decode cL_bestStone 16 = .ok (.ireturn, 1) := by decide +kernel
theorem dL_law_0 : decode cL_law 0 = .ok (.new 8, 3) := by decide +kernel
theorem dL_law_3 : decode cL_law 3 = .ok (.dup, 1) := by decide +kernel
theorem dL_law_4 : decode cL_law 4 = .ok (.invokespecial 82, 3) := by decide +kernel
theorem dL_law_7 : decode cL_law 7 = .ok (.astore_n 1, 1) := by decide +kernel
theorem dL_law_8 : decode cL_law 8 = .ok (.new 83, 3) := by decide +kernel
theorem dL_law_11 : decode cL_law 11 = .ok (.dup, 1) := by decide +kernel
theorem dL_law_12 : decode cL_law 12 = .ok (.invokespecial 85, 3) := by decide +kernel
theorem dL_law_15 : decode cL_law 15 = .ok (.astore_n 2, 1) := by decide +kernel
theorem dL_law_16 : decode cL_law 16 = .ok (.iconst 1, 1) := by decide +kernel
theorem dL_law_17 : decode cL_law 17 = .ok (.newarray .long, 2) := by decide +kernel
theorem dL_law_19 : decode cL_law 19 = .ok (.astore_n 3, 1) := by decide +kernel
theorem dL_law_20 : decode cL_law 20 = .ok (.iconst 0, 1) := by decide +kernel
theorem dL_law_21 : decode cL_law 21 = .ok (.istore 4, 2) := by decide +kernel
theorem dL_law_23 : decode cL_law 23 = .ok (.iload 4, 2) := by decide +kernel
theorem dL_law_25 : decode cL_law 25 = .ok (.aload_n 0, 1) := by decide +kernel
theorem dL_law_26 : decode cL_law 26 = .ok (.arraylength, 1) := by decide +kernel
theorem dL_law_27 : decode cL_law 27 = .ok (.iconst 4, 1) := by decide +kernel
theorem dL_law_28 : decode cL_law 28 = .ok (.isub, 1) := by decide +kernel
theorem dL_law_29 : decode cL_law 29 = .ok (.if_icmp .gt 1581, 3) := by decide +kernel
theorem dL_law_32 : decode cL_law 32 = .ok (.aload_n 0, 1) := by decide +kernel
theorem dL_law_33 : decode cL_law 33 = .ok (.iload 4, 2) := by decide +kernel
theorem dL_law_35 : decode cL_law 35 = .ok (.iaload, 1) := by decide +kernel
theorem dL_law_36 : decode cL_law 36 = .ok (.bipush 31, 2) := by decide +kernel
theorem dL_law_38 : decode cL_law 38 = .ok (.iand, 1) := by decide +kernel
theorem dL_law_39 : decode cL_law 39 = .ok (.tableswitch 1565 0 27 #[125, 205, 285, 365, 433, 489, 569, 637, 693, 749, 762, 775, 819, 863, 876, 920, 988, 1056, 1124, 1180, 1236, 1292, 1348, 1361, 1429, 1454, 1510, 1551], 125) := by decide +kernel
theorem dL_law_164 : decode cL_law 164 = .ok (.aload_n 1, 1) := by decide +kernel
theorem dL_law_165 : decode cL_law 165 = .ok (.aload_n 0, 1) := by decide +kernel
theorem dL_law_166 : decode cL_law 166 = .ok (.iload 4, 2) := by decide +kernel
theorem dL_law_168 : decode cL_law 168 = .ok (.iconst 1, 1) := by decide +kernel
theorem dL_law_169 : decode cL_law 169 = .ok (.iadd, 1) := by decide +kernel
theorem dL_law_170 : decode cL_law 170 = .ok (.iaload, 1) := by decide +kernel
theorem dL_law_171 : decode cL_law 171 = .ok (.aload_n 0, 1) := by decide +kernel
theorem dL_law_172 : decode cL_law 172 = .ok (.iload 4, 2) := by decide +kernel
theorem dL_law_174 : decode cL_law 174 = .ok (.iconst 2, 1) := by decide +kernel
theorem dL_law_175 : decode cL_law 175 = .ok (.iadd, 1) := by decide +kernel
theorem dL_law_176 : decode cL_law 176 = .ok (.iaload, 1) := by decide +kernel
theorem dL_law_177 : decode cL_law 177 = .ok (.aload_n 0, 1) := by decide +kernel
theorem dL_law_178 : decode cL_law 178 = .ok (.iload 4, 2) := by decide +kernel
theorem dL_law_180 : decode cL_law 180 = .ok (.iconst 3, 1) := by decide +kernel
theorem dL_law_181 : decode cL_law 181 = .ok (.iadd, 1) := by decide +kernel
theorem dL_law_182 : decode cL_law 182 = .ok (.iaload, 1) := by decide +kernel
theorem dL_law_183 : decode cL_law 183 = .ok (.aload_n 3, 1) := by decide +kernel
theorem dL_law_184 : decode cL_law 184 = .ok (.invokestatic 86, 3) := by decide +kernel
theorem dL_law_187 : decode cL_law 187 = .ok (.istore 5, 2) := by decide +kernel
theorem dL_law_189 : decode cL_law 189 = .ok (.aload_n 2, 1) := by decide +kernel
theorem dL_law_190 : decode cL_law 190 = .ok (.aload_n 0, 1) := by decide +kernel
theorem dL_law_191 : decode cL_law 191 = .ok (.iload 4, 2) := by decide +kernel
theorem dL_law_193 : decode cL_law 193 = .ok (.iconst 1, 1) := by decide +kernel
theorem dL_law_194 : decode cL_law 194 = .ok (.iadd, 1) := by decide +kernel
theorem dL_law_195 : decode cL_law 195 = .ok (.iaload, 1) := by decide +kernel
theorem dL_law_196 : decode cL_law 196 = .ok (.aload_n 0, 1) := by decide +kernel
theorem dL_law_197 : decode cL_law 197 = .ok (.iload 4, 2) := by decide +kernel
theorem dL_law_199 : decode cL_law 199 = .ok (.iconst 2, 1) := by decide +kernel
theorem dL_law_200 : decode cL_law 200 = .ok (.iadd, 1) := by decide +kernel
theorem dL_law_201 : decode cL_law 201 = .ok (.iaload, 1) := by decide +kernel
theorem dL_law_202 : decode cL_law 202 = .ok (.aload_n 0, 1) := by decide +kernel
theorem dL_law_203 : decode cL_law 203 = .ok (.iload 4, 2) := by decide +kernel
theorem dL_law_205 : decode cL_law 205 = .ok (.iconst 3, 1) := by decide +kernel
theorem dL_law_206 : decode cL_law 206 = .ok (.iadd, 1) := by decide +kernel
theorem dL_law_207 : decode cL_law 207 = .ok (.iaload, 1) := by decide +kernel
theorem dL_law_208 : decode cL_law 208 = .ok (.invokevirtual 91, 3) := by decide +kernel
theorem dL_law_211 : decode cL_law 211 = .ok (.istore 6, 2) := by decide +kernel
theorem dL_law_213 : decode cL_law 213 = .ok (.aload_n 2, 1) := by decide +kernel
theorem dL_law_214 : decode cL_law 214 = .ok (.invokevirtual 92, 3) := by decide +kernel
theorem dL_law_217 : decode cL_law 217 = .ok (.iload 5, 2) := by decide +kernel
theorem dL_law_219 : decode cL_law 219 = .ok (.if_icmp .eq 5, 3) := by decide +kernel
theorem dL_law_222 : decode cL_law 222 = .ok (.iconst 0, 1) := by decide +kernel
theorem dL_law_223 : decode cL_law 223 = .ok (.ireturn, 1) := by decide +kernel
theorem dL_law_224 : decode cL_law 224 = .ok (.iload 5, 2) := by decide +kernel
theorem dL_law_226 : decode cL_law 226 = .ok (.ifCond .ne 15, 3) := by decide +kernel
theorem dL_law_229 : decode cL_law 229 = .ok (.aload_n 3, 1) := by decide +kernel
theorem dL_law_230 : decode cL_law 230 = .ok (.iconst 0, 1) := by decide +kernel
theorem dL_law_231 : decode cL_law 231 = .ok (.laload, 1) := by decide +kernel
theorem dL_law_232 : decode cL_law 232 = .ok (.iload 6, 2) := by decide +kernel
theorem dL_law_234 : decode cL_law 234 = .ok (.i2l, 1) := by decide +kernel
theorem dL_law_235 : decode cL_law 235 = .ok (.lcmp, 1) := by decide +kernel
theorem dL_law_236 : decode cL_law 236 = .ok (.ifCond .eq 5, 3) := by decide +kernel
theorem dL_law_239 : decode cL_law 239 = .ok (.iconst 0, 1) := by decide +kernel
theorem dL_law_240 : decode cL_law 240 = .ok (.ireturn, 1) := by decide +kernel
theorem dL_law_241 : decode cL_law 241 = .ok (.goto 1363, 3) := by decide +kernel
theorem dL_law_244 : decode cL_law 244 = .ok (.aload_n 1, 1) := by decide +kernel
theorem dL_law_245 : decode cL_law 245 = .ok (.aload_n 0, 1) := by decide +kernel
theorem dL_law_246 : decode cL_law 246 = .ok (.iload 4, 2) := by decide +kernel
theorem dL_law_248 : decode cL_law 248 = .ok (.iconst 1, 1) := by decide +kernel
theorem dL_law_249 : decode cL_law 249 = .ok (.iadd, 1) := by decide +kernel
theorem dL_law_250 : decode cL_law 250 = .ok (.iaload, 1) := by decide +kernel
theorem dL_law_251 : decode cL_law 251 = .ok (.aload_n 0, 1) := by decide +kernel
theorem dL_law_252 : decode cL_law 252 = .ok (.iload 4, 2) := by decide +kernel
theorem dL_law_254 : decode cL_law 254 = .ok (.iconst 2, 1) := by decide +kernel
theorem dL_law_255 : decode cL_law 255 = .ok (.iadd, 1) := by decide +kernel
theorem dL_law_256 : decode cL_law 256 = .ok (.iaload, 1) := by decide +kernel
theorem dL_law_257 : decode cL_law 257 = .ok (.aload_n 0, 1) := by decide +kernel
theorem dL_law_258 : decode cL_law 258 = .ok (.iload 4, 2) := by decide +kernel
theorem dL_law_260 : decode cL_law 260 = .ok (.iconst 3, 1) := by decide +kernel
theorem dL_law_261 : decode cL_law 261 = .ok (.iadd, 1) := by decide +kernel
theorem dL_law_262 : decode cL_law 262 = .ok (.iaload, 1) := by decide +kernel
theorem dL_law_263 : decode cL_law 263 = .ok (.aload_n 3, 1) := by decide +kernel
theorem dL_law_264 : decode cL_law 264 = .ok (.invokestatic 95, 3) := by decide +kernel
theorem dL_law_267 : decode cL_law 267 = .ok (.istore 5, 2) := by decide +kernel
theorem dL_law_269 : decode cL_law 269 = .ok (.aload_n 2, 1) := by decide +kernel
theorem dL_law_270 : decode cL_law 270 = .ok (.aload_n 0, 1) := by decide +kernel
theorem dL_law_271 : decode cL_law 271 = .ok (.iload 4, 2) := by decide +kernel
theorem dL_law_273 : decode cL_law 273 = .ok (.iconst 1, 1) := by decide +kernel
theorem dL_law_274 : decode cL_law 274 = .ok (.iadd, 1) := by decide +kernel
theorem dL_law_275 : decode cL_law 275 = .ok (.iaload, 1) := by decide +kernel
theorem dL_law_276 : decode cL_law 276 = .ok (.aload_n 0, 1) := by decide +kernel
theorem dL_law_277 : decode cL_law 277 = .ok (.iload 4, 2) := by decide +kernel
theorem dL_law_279 : decode cL_law 279 = .ok (.iconst 2, 1) := by decide +kernel
theorem dL_law_280 : decode cL_law 280 = .ok (.iadd, 1) := by decide +kernel
theorem dL_law_281 : decode cL_law 281 = .ok (.iaload, 1) := by decide +kernel
theorem dL_law_282 : decode cL_law 282 = .ok (.aload_n 0, 1) := by decide +kernel
theorem dL_law_283 : decode cL_law 283 = .ok (.iload 4, 2) := by decide +kernel
theorem dL_law_285 : decode cL_law 285 = .ok (.iconst 3, 1) := by decide +kernel
theorem dL_law_286 : decode cL_law 286 = .ok (.iadd, 1) := by decide +kernel
theorem dL_law_287 : decode cL_law 287 = .ok (.iaload, 1) := by decide +kernel
theorem dL_law_288 : decode cL_law 288 = .ok (.invokevirtual 97, 3) := by decide +kernel
theorem dL_law_291 : decode cL_law 291 = .ok (.istore 6, 2) := by decide +kernel
theorem dL_law_293 : decode cL_law 293 = .ok (.aload_n 2, 1) := by decide +kernel
theorem dL_law_294 : decode cL_law 294 = .ok (.invokevirtual 92, 3) := by decide +kernel
theorem dL_law_297 : decode cL_law 297 = .ok (.iload 5, 2) := by decide +kernel
theorem dL_law_299 : decode cL_law 299 = .ok (.if_icmp .eq 5, 3) := by decide +kernel
theorem dL_law_302 : decode cL_law 302 = .ok (.iconst 0, 1) := by decide +kernel
theorem dL_law_303 : decode cL_law 303 = .ok (.ireturn, 1) := by decide +kernel
theorem dL_law_304 : decode cL_law 304 = .ok (.iload 5, 2) := by decide +kernel
theorem dL_law_306 : decode cL_law 306 = .ok (.ifCond .ne 15, 3) := by decide +kernel
theorem dL_law_309 : decode cL_law 309 = .ok (.aload_n 3, 1) := by decide +kernel
theorem dL_law_310 : decode cL_law 310 = .ok (.iconst 0, 1) := by decide +kernel
theorem dL_law_311 : decode cL_law 311 = .ok (.laload, 1) := by decide +kernel
theorem dL_law_312 : decode cL_law 312 = .ok (.iload 6, 2) := by decide +kernel
theorem dL_law_314 : decode cL_law 314 = .ok (.i2l, 1) := by decide +kernel
theorem dL_law_315 : decode cL_law 315 = .ok (.lcmp, 1) := by decide +kernel
theorem dL_law_316 : decode cL_law 316 = .ok (.ifCond .eq 5, 3) := by decide +kernel
theorem dL_law_319 : decode cL_law 319 = .ok (.iconst 0, 1) := by decide +kernel
theorem dL_law_320 : decode cL_law 320 = .ok (.ireturn, 1) := by decide +kernel
theorem dL_law_321 : decode cL_law 321 = .ok (.goto 1283, 3) := by decide +kernel
theorem dL_law_324 : decode cL_law 324 = .ok (.aload_n 1, 1) := by decide +kernel
theorem dL_law_325 : decode cL_law 325 = .ok (.aload_n 0, 1) := by decide +kernel
theorem dL_law_326 : decode cL_law 326 = .ok (.iload 4, 2) := by decide +kernel
theorem dL_law_328 : decode cL_law 328 = .ok (.iconst 1, 1) := by decide +kernel
theorem dL_law_329 : decode cL_law 329 = .ok (.iadd, 1) := by decide +kernel
theorem dL_law_330 : decode cL_law 330 = .ok (.iaload, 1) := by decide +kernel
theorem dL_law_331 : decode cL_law 331 = .ok (.aload_n 0, 1) := by decide +kernel
theorem dL_law_332 : decode cL_law 332 = .ok (.iload 4, 2) := by decide +kernel
theorem dL_law_334 : decode cL_law 334 = .ok (.iconst 2, 1) := by decide +kernel
theorem dL_law_335 : decode cL_law 335 = .ok (.iadd, 1) := by decide +kernel
theorem dL_law_336 : decode cL_law 336 = .ok (.iaload, 1) := by decide +kernel
theorem dL_law_337 : decode cL_law 337 = .ok (.aload_n 0, 1) := by decide +kernel
theorem dL_law_338 : decode cL_law 338 = .ok (.iload 4, 2) := by decide +kernel
theorem dL_law_340 : decode cL_law 340 = .ok (.iconst 3, 1) := by decide +kernel
theorem dL_law_341 : decode cL_law 341 = .ok (.iadd, 1) := by decide +kernel
theorem dL_law_342 : decode cL_law 342 = .ok (.iaload, 1) := by decide +kernel
theorem dL_law_343 : decode cL_law 343 = .ok (.aload_n 3, 1) := by decide +kernel
theorem dL_law_344 : decode cL_law 344 = .ok (.invokestatic 98, 3) := by decide +kernel
theorem dL_law_347 : decode cL_law 347 = .ok (.istore 5, 2) := by decide +kernel
theorem dL_law_349 : decode cL_law 349 = .ok (.aload_n 2, 1) := by decide +kernel
theorem dL_law_350 : decode cL_law 350 = .ok (.aload_n 0, 1) := by decide +kernel
theorem dL_law_351 : decode cL_law 351 = .ok (.iload 4, 2) := by decide +kernel
theorem dL_law_353 : decode cL_law 353 = .ok (.iconst 1, 1) := by decide +kernel
theorem dL_law_354 : decode cL_law 354 = .ok (.iadd, 1) := by decide +kernel
theorem dL_law_355 : decode cL_law 355 = .ok (.iaload, 1) := by decide +kernel
theorem dL_law_356 : decode cL_law 356 = .ok (.aload_n 0, 1) := by decide +kernel
theorem dL_law_357 : decode cL_law 357 = .ok (.iload 4, 2) := by decide +kernel
theorem dL_law_359 : decode cL_law 359 = .ok (.iconst 2, 1) := by decide +kernel
theorem dL_law_360 : decode cL_law 360 = .ok (.iadd, 1) := by decide +kernel
theorem dL_law_361 : decode cL_law 361 = .ok (.iaload, 1) := by decide +kernel
theorem dL_law_362 : decode cL_law 362 = .ok (.aload_n 0, 1) := by decide +kernel
theorem dL_law_363 : decode cL_law 363 = .ok (.iload 4, 2) := by decide +kernel
theorem dL_law_365 : decode cL_law 365 = .ok (.iconst 3, 1) := by decide +kernel
theorem dL_law_366 : decode cL_law 366 = .ok (.iadd, 1) := by decide +kernel
theorem dL_law_367 : decode cL_law 367 = .ok (.iaload, 1) := by decide +kernel
theorem dL_law_368 : decode cL_law 368 = .ok (.invokevirtual 100, 3) := by decide +kernel
theorem dL_law_371 : decode cL_law 371 = .ok (.istore 6, 2) := by decide +kernel
theorem dL_law_373 : decode cL_law 373 = .ok (.aload_n 2, 1) := by decide +kernel
theorem dL_law_374 : decode cL_law 374 = .ok (.invokevirtual 92, 3) := by decide +kernel
theorem dL_law_377 : decode cL_law 377 = .ok (.iload 5, 2) := by decide +kernel
theorem dL_law_379 : decode cL_law 379 = .ok (.if_icmp .eq 5, 3) := by decide +kernel
theorem dL_law_382 : decode cL_law 382 = .ok (.iconst 0, 1) := by decide +kernel
theorem dL_law_383 : decode cL_law 383 = .ok (.ireturn, 1) := by decide +kernel
theorem dL_law_384 : decode cL_law 384 = .ok (.iload 5, 2) := by decide +kernel
theorem dL_law_386 : decode cL_law 386 = .ok (.ifCond .ne 15, 3) := by decide +kernel
theorem dL_law_389 : decode cL_law 389 = .ok (.aload_n 3, 1) := by decide +kernel
theorem dL_law_390 : decode cL_law 390 = .ok (.iconst 0, 1) := by decide +kernel
theorem dL_law_391 : decode cL_law 391 = .ok (.laload, 1) := by decide +kernel
theorem dL_law_392 : decode cL_law 392 = .ok (.iload 6, 2) := by decide +kernel
theorem dL_law_394 : decode cL_law 394 = .ok (.i2l, 1) := by decide +kernel
theorem dL_law_395 : decode cL_law 395 = .ok (.lcmp, 1) := by decide +kernel
theorem dL_law_396 : decode cL_law 396 = .ok (.ifCond .eq 5, 3) := by decide +kernel
theorem dL_law_399 : decode cL_law 399 = .ok (.iconst 0, 1) := by decide +kernel
theorem dL_law_400 : decode cL_law 400 = .ok (.ireturn, 1) := by decide +kernel
theorem dL_law_401 : decode cL_law 401 = .ok (.goto 1203, 3) := by decide +kernel
theorem dL_law_404 : decode cL_law 404 = .ok (.aload_n 1, 1) := by decide +kernel
theorem dL_law_405 : decode cL_law 405 = .ok (.aload_n 0, 1) := by decide +kernel
theorem dL_law_406 : decode cL_law 406 = .ok (.iload 4, 2) := by decide +kernel
theorem dL_law_408 : decode cL_law 408 = .ok (.iconst 1, 1) := by decide +kernel
theorem dL_law_409 : decode cL_law 409 = .ok (.iadd, 1) := by decide +kernel
theorem dL_law_410 : decode cL_law 410 = .ok (.iaload, 1) := by decide +kernel
theorem dL_law_411 : decode cL_law 411 = .ok (.aload_n 0, 1) := by decide +kernel
theorem dL_law_412 : decode cL_law 412 = .ok (.iload 4, 2) := by decide +kernel
theorem dL_law_414 : decode cL_law 414 = .ok (.iconst 2, 1) := by decide +kernel
theorem dL_law_415 : decode cL_law 415 = .ok (.iadd, 1) := by decide +kernel
theorem dL_law_416 : decode cL_law 416 = .ok (.iaload, 1) := by decide +kernel
theorem dL_law_417 : decode cL_law 417 = .ok (.aload_n 3, 1) := by decide +kernel
theorem dL_law_418 : decode cL_law 418 = .ok (.invokestatic 101, 3) := by decide +kernel
theorem dL_law_421 : decode cL_law 421 = .ok (.istore 5, 2) := by decide +kernel
theorem dL_law_423 : decode cL_law 423 = .ok (.aload_n 2, 1) := by decide +kernel
theorem dL_law_424 : decode cL_law 424 = .ok (.aload_n 0, 1) := by decide +kernel
theorem dL_law_425 : decode cL_law 425 = .ok (.iload 4, 2) := by decide +kernel
theorem dL_law_427 : decode cL_law 427 = .ok (.iconst 1, 1) := by decide +kernel
theorem dL_law_428 : decode cL_law 428 = .ok (.iadd, 1) := by decide +kernel
theorem dL_law_429 : decode cL_law 429 = .ok (.iaload, 1) := by decide +kernel
theorem dL_law_430 : decode cL_law 430 = .ok (.aload_n 0, 1) := by decide +kernel
theorem dL_law_431 : decode cL_law 431 = .ok (.iload 4, 2) := by decide +kernel
theorem dL_law_433 : decode cL_law 433 = .ok (.iconst 2, 1) := by decide +kernel
theorem dL_law_434 : decode cL_law 434 = .ok (.iadd, 1) := by decide +kernel
theorem dL_law_435 : decode cL_law 435 = .ok (.iaload, 1) := by decide +kernel
theorem dL_law_436 : decode cL_law 436 = .ok (.invokevirtual 104, 3) := by decide +kernel
theorem dL_law_439 : decode cL_law 439 = .ok (.istore 6, 2) := by decide +kernel
theorem dL_law_441 : decode cL_law 441 = .ok (.aload_n 2, 1) := by decide +kernel
theorem dL_law_442 : decode cL_law 442 = .ok (.invokevirtual 92, 3) := by decide +kernel
theorem dL_law_445 : decode cL_law 445 = .ok (.iload 5, 2) := by decide +kernel
theorem dL_law_447 : decode cL_law 447 = .ok (.if_icmp .eq 5, 3) := by decide +kernel
theorem dL_law_450 : decode cL_law 450 = .ok (.iconst 0, 1) := by decide +kernel
theorem dL_law_451 : decode cL_law 451 = .ok (.ireturn, 1) := by decide +kernel
theorem dL_law_452 : decode cL_law 452 = .ok (.iload 5, 2) := by decide +kernel
theorem dL_law_454 : decode cL_law 454 = .ok (.ifCond .ne 15, 3) := by decide +kernel
theorem dL_law_457 : decode cL_law 457 = .ok (.aload_n 3, 1) := by decide +kernel
theorem dL_law_458 : decode cL_law 458 = .ok (.iconst 0, 1) := by decide +kernel
theorem dL_law_459 : decode cL_law 459 = .ok (.laload, 1) := by decide +kernel
theorem dL_law_460 : decode cL_law 460 = .ok (.iload 6, 2) := by decide +kernel
theorem dL_law_462 : decode cL_law 462 = .ok (.i2l, 1) := by decide +kernel
theorem dL_law_463 : decode cL_law 463 = .ok (.lcmp, 1) := by decide +kernel
theorem dL_law_464 : decode cL_law 464 = .ok (.ifCond .eq 5, 3) := by decide +kernel
theorem dL_law_467 : decode cL_law 467 = .ok (.iconst 0, 1) := by decide +kernel
theorem dL_law_468 : decode cL_law 468 = .ok (.ireturn, 1) := by decide +kernel
theorem dL_law_469 : decode cL_law 469 = .ok (.goto 1135, 3) := by decide +kernel
theorem dL_law_472 : decode cL_law 472 = .ok (.aload_n 1, 1) := by decide +kernel
theorem dL_law_473 : decode cL_law 473 = .ok (.aload_n 0, 1) := by decide +kernel
theorem dL_law_474 : decode cL_law 474 = .ok (.iload 4, 2) := by decide +kernel
theorem dL_law_476 : decode cL_law 476 = .ok (.iconst 1, 1) := by decide +kernel
theorem dL_law_477 : decode cL_law 477 = .ok (.iadd, 1) := by decide +kernel
theorem dL_law_478 : decode cL_law 478 = .ok (.iaload, 1) := by decide +kernel
theorem dL_law_479 : decode cL_law 479 = .ok (.aload_n 3, 1) := by decide +kernel
theorem dL_law_480 : decode cL_law 480 = .ok (.invokestatic 105, 3) := by decide +kernel
theorem dL_law_483 : decode cL_law 483 = .ok (.istore 5, 2) := by decide +kernel
theorem dL_law_485 : decode cL_law 485 = .ok (.aload_n 2, 1) := by decide +kernel
theorem dL_law_486 : decode cL_law 486 = .ok (.aload_n 0, 1) := by decide +kernel
theorem dL_law_487 : decode cL_law 487 = .ok (.iload 4, 2) := by decide +kernel
theorem dL_law_489 : decode cL_law 489 = .ok (.iconst 1, 1) := by decide +kernel
theorem dL_law_490 : decode cL_law 490 = .ok (.iadd, 1) := by decide +kernel
theorem dL_law_491 : decode cL_law 491 = .ok (.iaload, 1) := by decide +kernel
theorem dL_law_492 : decode cL_law 492 = .ok (.invokevirtual 108, 3) := by decide +kernel
theorem dL_law_495 : decode cL_law 495 = .ok (.istore 6, 2) := by decide +kernel
theorem dL_law_497 : decode cL_law 497 = .ok (.aload_n 2, 1) := by decide +kernel
theorem dL_law_498 : decode cL_law 498 = .ok (.invokevirtual 92, 3) := by decide +kernel
theorem dL_law_501 : decode cL_law 501 = .ok (.iload 5, 2) := by decide +kernel
theorem dL_law_503 : decode cL_law 503 = .ok (.if_icmp .eq 5, 3) := by decide +kernel
theorem dL_law_506 : decode cL_law 506 = .ok (.iconst 0, 1) := by decide +kernel
theorem dL_law_507 : decode cL_law 507 = .ok (.ireturn, 1) := by decide +kernel
theorem dL_law_508 : decode cL_law 508 = .ok (.iload 5, 2) := by decide +kernel
theorem dL_law_510 : decode cL_law 510 = .ok (.ifCond .ne 15, 3) := by decide +kernel
theorem dL_law_513 : decode cL_law 513 = .ok (.aload_n 3, 1) := by decide +kernel
theorem dL_law_514 : decode cL_law 514 = .ok (.iconst 0, 1) := by decide +kernel
theorem dL_law_515 : decode cL_law 515 = .ok (.laload, 1) := by decide +kernel
theorem dL_law_516 : decode cL_law 516 = .ok (.iload 6, 2) := by decide +kernel
theorem dL_law_518 : decode cL_law 518 = .ok (.i2l, 1) := by decide +kernel
theorem dL_law_519 : decode cL_law 519 = .ok (.lcmp, 1) := by decide +kernel
theorem dL_law_520 : decode cL_law 520 = .ok (.ifCond .eq 5, 3) := by decide +kernel
theorem dL_law_523 : decode cL_law 523 = .ok (.iconst 0, 1) := by decide +kernel
theorem dL_law_524 : decode cL_law 524 = .ok (.ireturn, 1) := by decide +kernel
theorem dL_law_525 : decode cL_law 525 = .ok (.goto 1079, 3) := by decide +kernel
theorem dL_law_528 : decode cL_law 528 = .ok (.aload_n 1, 1) := by decide +kernel
theorem dL_law_529 : decode cL_law 529 = .ok (.aload_n 0, 1) := by decide +kernel
theorem dL_law_530 : decode cL_law 530 = .ok (.iload 4, 2) := by decide +kernel
theorem dL_law_532 : decode cL_law 532 = .ok (.iconst 1, 1) := by decide +kernel
theorem dL_law_533 : decode cL_law 533 = .ok (.iadd, 1) := by decide +kernel
theorem dL_law_534 : decode cL_law 534 = .ok (.iaload, 1) := by decide +kernel
theorem dL_law_535 : decode cL_law 535 = .ok (.aload_n 0, 1) := by decide +kernel
theorem dL_law_536 : decode cL_law 536 = .ok (.iload 4, 2) := by decide +kernel
theorem dL_law_538 : decode cL_law 538 = .ok (.iconst 2, 1) := by decide +kernel
theorem dL_law_539 : decode cL_law 539 = .ok (.iadd, 1) := by decide +kernel
theorem dL_law_540 : decode cL_law 540 = .ok (.iaload, 1) := by decide +kernel
theorem dL_law_541 : decode cL_law 541 = .ok (.aload_n 0, 1) := by decide +kernel
theorem dL_law_542 : decode cL_law 542 = .ok (.iload 4, 2) := by decide +kernel
theorem dL_law_544 : decode cL_law 544 = .ok (.iconst 3, 1) := by decide +kernel
theorem dL_law_545 : decode cL_law 545 = .ok (.iadd, 1) := by decide +kernel
theorem dL_law_546 : decode cL_law 546 = .ok (.iaload, 1) := by decide +kernel
theorem dL_law_547 : decode cL_law 547 = .ok (.aload_n 3, 1) := by decide +kernel
theorem dL_law_548 : decode cL_law 548 = .ok (.invokestatic 109, 3) := by decide +kernel
theorem dL_law_551 : decode cL_law 551 = .ok (.istore 5, 2) := by decide +kernel
theorem dL_law_553 : decode cL_law 553 = .ok (.aload_n 2, 1) := by decide +kernel
theorem dL_law_554 : decode cL_law 554 = .ok (.aload_n 0, 1) := by decide +kernel
theorem dL_law_555 : decode cL_law 555 = .ok (.iload 4, 2) := by decide +kernel
theorem dL_law_557 : decode cL_law 557 = .ok (.iconst 1, 1) := by decide +kernel
theorem dL_law_558 : decode cL_law 558 = .ok (.iadd, 1) := by decide +kernel
theorem dL_law_559 : decode cL_law 559 = .ok (.iaload, 1) := by decide +kernel
theorem dL_law_560 : decode cL_law 560 = .ok (.aload_n 0, 1) := by decide +kernel
theorem dL_law_561 : decode cL_law 561 = .ok (.iload 4, 2) := by decide +kernel
theorem dL_law_563 : decode cL_law 563 = .ok (.iconst 2, 1) := by decide +kernel
theorem dL_law_564 : decode cL_law 564 = .ok (.iadd, 1) := by decide +kernel
theorem dL_law_565 : decode cL_law 565 = .ok (.iaload, 1) := by decide +kernel
theorem dL_law_566 : decode cL_law 566 = .ok (.aload_n 0, 1) := by decide +kernel
theorem dL_law_567 : decode cL_law 567 = .ok (.iload 4, 2) := by decide +kernel
theorem dL_law_569 : decode cL_law 569 = .ok (.iconst 3, 1) := by decide +kernel
theorem dL_law_570 : decode cL_law 570 = .ok (.iadd, 1) := by decide +kernel
theorem dL_law_571 : decode cL_law 571 = .ok (.iaload, 1) := by decide +kernel
theorem dL_law_572 : decode cL_law 572 = .ok (.invokevirtual 111, 3) := by decide +kernel
theorem dL_law_575 : decode cL_law 575 = .ok (.istore 6, 2) := by decide +kernel
theorem dL_law_577 : decode cL_law 577 = .ok (.aload_n 2, 1) := by decide +kernel
theorem dL_law_578 : decode cL_law 578 = .ok (.invokevirtual 92, 3) := by decide +kernel
theorem dL_law_581 : decode cL_law 581 = .ok (.iload 5, 2) := by decide +kernel
theorem dL_law_583 : decode cL_law 583 = .ok (.if_icmp .eq 5, 3) := by decide +kernel
theorem dL_law_586 : decode cL_law 586 = .ok (.iconst 0, 1) := by decide +kernel
theorem dL_law_587 : decode cL_law 587 = .ok (.ireturn, 1) := by decide +kernel
theorem dL_law_588 : decode cL_law 588 = .ok (.iload 5, 2) := by decide +kernel
theorem dL_law_590 : decode cL_law 590 = .ok (.ifCond .ne 15, 3) := by decide +kernel
theorem dL_law_593 : decode cL_law 593 = .ok (.aload_n 3, 1) := by decide +kernel
theorem dL_law_594 : decode cL_law 594 = .ok (.iconst 0, 1) := by decide +kernel
theorem dL_law_595 : decode cL_law 595 = .ok (.laload, 1) := by decide +kernel
theorem dL_law_596 : decode cL_law 596 = .ok (.iload 6, 2) := by decide +kernel
theorem dL_law_598 : decode cL_law 598 = .ok (.i2l, 1) := by decide +kernel
theorem dL_law_599 : decode cL_law 599 = .ok (.lcmp, 1) := by decide +kernel
theorem dL_law_600 : decode cL_law 600 = .ok (.ifCond .eq 5, 3) := by decide +kernel
theorem dL_law_603 : decode cL_law 603 = .ok (.iconst 0, 1) := by decide +kernel
theorem dL_law_604 : decode cL_law 604 = .ok (.ireturn, 1) := by decide +kernel
theorem dL_law_605 : decode cL_law 605 = .ok (.goto 999, 3) := by decide +kernel
theorem dL_law_608 : decode cL_law 608 = .ok (.aload_n 1, 1) := by decide +kernel
theorem dL_law_609 : decode cL_law 609 = .ok (.aload_n 0, 1) := by decide +kernel
theorem dL_law_610 : decode cL_law 610 = .ok (.iload 4, 2) := by decide +kernel
theorem dL_law_612 : decode cL_law 612 = .ok (.iconst 1, 1) := by decide +kernel
theorem dL_law_613 : decode cL_law 613 = .ok (.iadd, 1) := by decide +kernel
theorem dL_law_614 : decode cL_law 614 = .ok (.iaload, 1) := by decide +kernel
theorem dL_law_615 : decode cL_law 615 = .ok (.aload_n 0, 1) := by decide +kernel
theorem dL_law_616 : decode cL_law 616 = .ok (.iload 4, 2) := by decide +kernel
theorem dL_law_618 : decode cL_law 618 = .ok (.iconst 2, 1) := by decide +kernel
theorem dL_law_619 : decode cL_law 619 = .ok (.iadd, 1) := by decide +kernel
theorem dL_law_620 : decode cL_law 620 = .ok (.iaload, 1) := by decide +kernel
theorem dL_law_621 : decode cL_law 621 = .ok (.aload_n 3, 1) := by decide +kernel
theorem dL_law_622 : decode cL_law 622 = .ok (.invokestatic 112, 3) := by decide +kernel
theorem dL_law_625 : decode cL_law 625 = .ok (.istore 5, 2) := by decide +kernel
theorem dL_law_627 : decode cL_law 627 = .ok (.aload_n 2, 1) := by decide +kernel
theorem dL_law_628 : decode cL_law 628 = .ok (.aload_n 0, 1) := by decide +kernel
theorem dL_law_629 : decode cL_law 629 = .ok (.iload 4, 2) := by decide +kernel
theorem dL_law_631 : decode cL_law 631 = .ok (.iconst 1, 1) := by decide +kernel
theorem dL_law_632 : decode cL_law 632 = .ok (.iadd, 1) := by decide +kernel
theorem dL_law_633 : decode cL_law 633 = .ok (.iaload, 1) := by decide +kernel
theorem dL_law_634 : decode cL_law 634 = .ok (.aload_n 0, 1) := by decide +kernel
theorem dL_law_635 : decode cL_law 635 = .ok (.iload 4, 2) := by decide +kernel
theorem dL_law_637 : decode cL_law 637 = .ok (.iconst 2, 1) := by decide +kernel
theorem dL_law_638 : decode cL_law 638 = .ok (.iadd, 1) := by decide +kernel
theorem dL_law_639 : decode cL_law 639 = .ok (.iaload, 1) := by decide +kernel
theorem dL_law_640 : decode cL_law 640 = .ok (.invokevirtual 114, 3) := by decide +kernel
theorem dL_law_643 : decode cL_law 643 = .ok (.istore 6, 2) := by decide +kernel
theorem dL_law_645 : decode cL_law 645 = .ok (.aload_n 2, 1) := by decide +kernel
theorem dL_law_646 : decode cL_law 646 = .ok (.invokevirtual 92, 3) := by decide +kernel
theorem dL_law_649 : decode cL_law 649 = .ok (.iload 5, 2) := by decide +kernel
theorem dL_law_651 : decode cL_law 651 = .ok (.if_icmp .eq 5, 3) := by decide +kernel
theorem dL_law_654 : decode cL_law 654 = .ok (.iconst 0, 1) := by decide +kernel
theorem dL_law_655 : decode cL_law 655 = .ok (.ireturn, 1) := by decide +kernel
theorem dL_law_656 : decode cL_law 656 = .ok (.iload 5, 2) := by decide +kernel
theorem dL_law_658 : decode cL_law 658 = .ok (.ifCond .ne 15, 3) := by decide +kernel
theorem dL_law_661 : decode cL_law 661 = .ok (.aload_n 3, 1) := by decide +kernel
theorem dL_law_662 : decode cL_law 662 = .ok (.iconst 0, 1) := by decide +kernel
theorem dL_law_663 : decode cL_law 663 = .ok (.laload, 1) := by decide +kernel
theorem dL_law_664 : decode cL_law 664 = .ok (.iload 6, 2) := by decide +kernel
theorem dL_law_666 : decode cL_law 666 = .ok (.i2l, 1) := by decide +kernel
theorem dL_law_667 : decode cL_law 667 = .ok (.lcmp, 1) := by decide +kernel
theorem dL_law_668 : decode cL_law 668 = .ok (.ifCond .eq 5, 3) := by decide +kernel
theorem dL_law_671 : decode cL_law 671 = .ok (.iconst 0, 1) := by decide +kernel
theorem dL_law_672 : decode cL_law 672 = .ok (.ireturn, 1) := by decide +kernel
theorem dL_law_673 : decode cL_law 673 = .ok (.goto 931, 3) := by decide +kernel
theorem dL_law_676 : decode cL_law 676 = .ok (.aload_n 1, 1) := by decide +kernel
theorem dL_law_677 : decode cL_law 677 = .ok (.aload_n 0, 1) := by decide +kernel
theorem dL_law_678 : decode cL_law 678 = .ok (.iload 4, 2) := by decide +kernel
theorem dL_law_680 : decode cL_law 680 = .ok (.iconst 1, 1) := by decide +kernel
theorem dL_law_681 : decode cL_law 681 = .ok (.iadd, 1) := by decide +kernel
theorem dL_law_682 : decode cL_law 682 = .ok (.iaload, 1) := by decide +kernel
theorem dL_law_683 : decode cL_law 683 = .ok (.aload_n 3, 1) := by decide +kernel
theorem dL_law_684 : decode cL_law 684 = .ok (.invokestatic 115, 3) := by decide +kernel
theorem dL_law_687 : decode cL_law 687 = .ok (.istore 5, 2) := by decide +kernel
theorem dL_law_689 : decode cL_law 689 = .ok (.aload_n 2, 1) := by decide +kernel
theorem dL_law_690 : decode cL_law 690 = .ok (.aload_n 0, 1) := by decide +kernel
theorem dL_law_691 : decode cL_law 691 = .ok (.iload 4, 2) := by decide +kernel
theorem dL_law_693 : decode cL_law 693 = .ok (.iconst 1, 1) := by decide +kernel
theorem dL_law_694 : decode cL_law 694 = .ok (.iadd, 1) := by decide +kernel
theorem dL_law_695 : decode cL_law 695 = .ok (.iaload, 1) := by decide +kernel
theorem dL_law_696 : decode cL_law 696 = .ok (.invokevirtual 117, 3) := by decide +kernel
theorem dL_law_699 : decode cL_law 699 = .ok (.istore 6, 2) := by decide +kernel
theorem dL_law_701 : decode cL_law 701 = .ok (.aload_n 2, 1) := by decide +kernel
theorem dL_law_702 : decode cL_law 702 = .ok (.invokevirtual 92, 3) := by decide +kernel
theorem dL_law_705 : decode cL_law 705 = .ok (.iload 5, 2) := by decide +kernel
theorem dL_law_707 : decode cL_law 707 = .ok (.if_icmp .eq 5, 3) := by decide +kernel
theorem dL_law_710 : decode cL_law 710 = .ok (.iconst 0, 1) := by decide +kernel
theorem dL_law_711 : decode cL_law 711 = .ok (.ireturn, 1) := by decide +kernel
theorem dL_law_712 : decode cL_law 712 = .ok (.iload 5, 2) := by decide +kernel
theorem dL_law_714 : decode cL_law 714 = .ok (.ifCond .ne 15, 3) := by decide +kernel
theorem dL_law_717 : decode cL_law 717 = .ok (.aload_n 3, 1) := by decide +kernel
theorem dL_law_718 : decode cL_law 718 = .ok (.iconst 0, 1) := by decide +kernel
theorem dL_law_719 : decode cL_law 719 = .ok (.laload, 1) := by decide +kernel
theorem dL_law_720 : decode cL_law 720 = .ok (.iload 6, 2) := by decide +kernel
theorem dL_law_722 : decode cL_law 722 = .ok (.i2l, 1) := by decide +kernel
theorem dL_law_723 : decode cL_law 723 = .ok (.lcmp, 1) := by decide +kernel
theorem dL_law_724 : decode cL_law 724 = .ok (.ifCond .eq 5, 3) := by decide +kernel
theorem dL_law_727 : decode cL_law 727 = .ok (.iconst 0, 1) := by decide +kernel
theorem dL_law_728 : decode cL_law 728 = .ok (.ireturn, 1) := by decide +kernel
theorem dL_law_729 : decode cL_law 729 = .ok (.goto 875, 3) := by decide +kernel
theorem dL_law_732 : decode cL_law 732 = .ok (.aload_n 1, 1) := by decide +kernel
theorem dL_law_733 : decode cL_law 733 = .ok (.aload_n 0, 1) := by decide +kernel
theorem dL_law_734 : decode cL_law 734 = .ok (.iload 4, 2) := by decide +kernel
theorem dL_law_736 : decode cL_law 736 = .ok (.iconst 1, 1) := by decide +kernel
theorem dL_law_737 : decode cL_law 737 = .ok (.iadd, 1) := by decide +kernel
theorem dL_law_738 : decode cL_law 738 = .ok (.iaload, 1) := by decide +kernel
theorem dL_law_739 : decode cL_law 739 = .ok (.aload_n 3, 1) := by decide +kernel
theorem dL_law_740 : decode cL_law 740 = .ok (.invokestatic 118, 3) := by decide +kernel
theorem dL_law_743 : decode cL_law 743 = .ok (.istore 5, 2) := by decide +kernel
theorem dL_law_745 : decode cL_law 745 = .ok (.aload_n 2, 1) := by decide +kernel
theorem dL_law_746 : decode cL_law 746 = .ok (.aload_n 0, 1) := by decide +kernel
theorem dL_law_747 : decode cL_law 747 = .ok (.iload 4, 2) := by decide +kernel
theorem dL_law_749 : decode cL_law 749 = .ok (.iconst 1, 1) := by decide +kernel
theorem dL_law_750 : decode cL_law 750 = .ok (.iadd, 1) := by decide +kernel
theorem dL_law_751 : decode cL_law 751 = .ok (.iaload, 1) := by decide +kernel
theorem dL_law_752 : decode cL_law 752 = .ok (.invokevirtual 120, 3) := by decide +kernel
theorem dL_law_755 : decode cL_law 755 = .ok (.istore 6, 2) := by decide +kernel
theorem dL_law_757 : decode cL_law 757 = .ok (.aload_n 2, 1) := by decide +kernel
theorem dL_law_758 : decode cL_law 758 = .ok (.invokevirtual 92, 3) := by decide +kernel
theorem dL_law_761 : decode cL_law 761 = .ok (.iload 5, 2) := by decide +kernel
theorem dL_law_763 : decode cL_law 763 = .ok (.if_icmp .eq 5, 3) := by decide +kernel
theorem dL_law_766 : decode cL_law 766 = .ok (.iconst 0, 1) := by decide +kernel
theorem dL_law_767 : decode cL_law 767 = .ok (.ireturn, 1) := by decide +kernel
theorem dL_law_768 : decode cL_law 768 = .ok (.iload 5, 2) := by decide +kernel
theorem dL_law_770 : decode cL_law 770 = .ok (.ifCond .ne 15, 3) := by decide +kernel
theorem dL_law_773 : decode cL_law 773 = .ok (.aload_n 3, 1) := by decide +kernel
theorem dL_law_774 : decode cL_law 774 = .ok (.iconst 0, 1) := by decide +kernel
theorem dL_law_775 : decode cL_law 775 = .ok (.laload, 1) := by decide +kernel
theorem dL_law_776 : decode cL_law 776 = .ok (.iload 6, 2) := by decide +kernel
theorem dL_law_778 : decode cL_law 778 = .ok (.i2l, 1) := by decide +kernel
theorem dL_law_779 : decode cL_law 779 = .ok (.lcmp, 1) := by decide +kernel
theorem dL_law_780 : decode cL_law 780 = .ok (.ifCond .eq 5, 3) := by decide +kernel
theorem dL_law_783 : decode cL_law 783 = .ok (.iconst 0, 1) := by decide +kernel
theorem dL_law_784 : decode cL_law 784 = .ok (.ireturn, 1) := by decide +kernel
theorem dL_law_785 : decode cL_law 785 = .ok (.goto 819, 3) := by decide +kernel
theorem dL_law_788 : decode cL_law 788 = .ok (.aload_n 1, 1) := by decide +kernel
theorem dL_law_789 : decode cL_law 789 = .ok (.invokevirtual 121, 3) := by decide +kernel
theorem dL_law_792 : decode cL_law 792 = .ok (.aload_n 2, 1) := by decide +kernel
theorem dL_law_793 : decode cL_law 793 = .ok (.invokevirtual 124, 3) := by decide +kernel
theorem dL_law_796 : decode cL_law 796 = .ok (.if_icmp .eq 808, 3) := by decide +kernel
theorem dL_law_799 : decode cL_law 799 = .ok (.iconst 0, 1) := by decide +kernel
theorem dL_law_800 : decode cL_law 800 = .ok (.ireturn, 1) := by decide +kernel
theorem dL_law_801 : decode cL_law 801 = .ok (.aload_n 1, 1) := by decide +kernel
theorem dL_law_802 : decode cL_law 802 = .ok (.invokevirtual 125, 3) := by decide +kernel
theorem dL_law_805 : decode cL_law 805 = .ok (.aload_n 2, 1) := by decide +kernel
theorem dL_law_806 : decode cL_law 806 = .ok (.invokevirtual 128, 3) := by decide +kernel
theorem dL_law_809 : decode cL_law 809 = .ok (.if_icmp .eq 795, 3) := by decide +kernel
theorem dL_law_812 : decode cL_law 812 = .ok (.iconst 0, 1) := by decide +kernel
theorem dL_law_813 : decode cL_law 813 = .ok (.ireturn, 1) := by decide +kernel
theorem dL_law_814 : decode cL_law 814 = .ok (.aload_n 1, 1) := by decide +kernel
theorem dL_law_815 : decode cL_law 815 = .ok (.aload_n 3, 1) := by decide +kernel
theorem dL_law_816 : decode cL_law 816 = .ok (.invokestatic 129, 3) := by decide +kernel
theorem dL_law_819 : decode cL_law 819 = .ok (.istore 5, 2) := by decide +kernel
theorem dL_law_821 : decode cL_law 821 = .ok (.aload_n 2, 1) := by decide +kernel
theorem dL_law_822 : decode cL_law 822 = .ok (.invokevirtual 132, 3) := by decide +kernel
theorem dL_law_825 : decode cL_law 825 = .ok (.istore 6, 2) := by decide +kernel
theorem dL_law_827 : decode cL_law 827 = .ok (.aload_n 2, 1) := by decide +kernel
theorem dL_law_828 : decode cL_law 828 = .ok (.invokevirtual 92, 3) := by decide +kernel
theorem dL_law_831 : decode cL_law 831 = .ok (.iload 5, 2) := by decide +kernel
theorem dL_law_833 : decode cL_law 833 = .ok (.if_icmp .eq 5, 3) := by decide +kernel
theorem dL_law_836 : decode cL_law 836 = .ok (.iconst 0, 1) := by decide +kernel
theorem dL_law_837 : decode cL_law 837 = .ok (.ireturn, 1) := by decide +kernel
theorem dL_law_838 : decode cL_law 838 = .ok (.iload 5, 2) := by decide +kernel
theorem dL_law_840 : decode cL_law 840 = .ok (.ifCond .ne 15, 3) := by decide +kernel
theorem dL_law_843 : decode cL_law 843 = .ok (.aload_n 3, 1) := by decide +kernel
theorem dL_law_844 : decode cL_law 844 = .ok (.iconst 0, 1) := by decide +kernel
theorem dL_law_845 : decode cL_law 845 = .ok (.laload, 1) := by decide +kernel
theorem dL_law_846 : decode cL_law 846 = .ok (.iload 6, 2) := by decide +kernel
theorem dL_law_848 : decode cL_law 848 = .ok (.i2l, 1) := by decide +kernel
theorem dL_law_849 : decode cL_law 849 = .ok (.lcmp, 1) := by decide +kernel
theorem dL_law_850 : decode cL_law 850 = .ok (.ifCond .eq 5, 3) := by decide +kernel
theorem dL_law_853 : decode cL_law 853 = .ok (.iconst 0, 1) := by decide +kernel
theorem dL_law_854 : decode cL_law 854 = .ok (.ireturn, 1) := by decide +kernel
theorem dL_law_855 : decode cL_law 855 = .ok (.goto 749, 3) := by decide +kernel
theorem dL_law_858 : decode cL_law 858 = .ok (.aload_n 1, 1) := by decide +kernel
theorem dL_law_859 : decode cL_law 859 = .ok (.aload_n 3, 1) := by decide +kernel
theorem dL_law_860 : decode cL_law 860 = .ok (.invokestatic 133, 3) := by decide +kernel
theorem dL_law_863 : decode cL_law 863 = .ok (.istore 5, 2) := by decide +kernel
theorem dL_law_865 : decode cL_law 865 = .ok (.aload_n 2, 1) := by decide +kernel
theorem dL_law_866 : decode cL_law 866 = .ok (.invokevirtual 135, 3) := by decide +kernel
theorem dL_law_869 : decode cL_law 869 = .ok (.istore 6, 2) := by decide +kernel
theorem dL_law_871 : decode cL_law 871 = .ok (.aload_n 2, 1) := by decide +kernel
theorem dL_law_872 : decode cL_law 872 = .ok (.invokevirtual 92, 3) := by decide +kernel
theorem dL_law_875 : decode cL_law 875 = .ok (.iload 5, 2) := by decide +kernel
theorem dL_law_877 : decode cL_law 877 = .ok (.if_icmp .eq 5, 3) := by decide +kernel
theorem dL_law_880 : decode cL_law 880 = .ok (.iconst 0, 1) := by decide +kernel
theorem dL_law_881 : decode cL_law 881 = .ok (.ireturn, 1) := by decide +kernel
theorem dL_law_882 : decode cL_law 882 = .ok (.iload 5, 2) := by decide +kernel
theorem dL_law_884 : decode cL_law 884 = .ok (.ifCond .ne 15, 3) := by decide +kernel
theorem dL_law_887 : decode cL_law 887 = .ok (.aload_n 3, 1) := by decide +kernel
theorem dL_law_888 : decode cL_law 888 = .ok (.iconst 0, 1) := by decide +kernel
theorem dL_law_889 : decode cL_law 889 = .ok (.laload, 1) := by decide +kernel
theorem dL_law_890 : decode cL_law 890 = .ok (.iload 6, 2) := by decide +kernel
theorem dL_law_892 : decode cL_law 892 = .ok (.i2l, 1) := by decide +kernel
theorem dL_law_893 : decode cL_law 893 = .ok (.lcmp, 1) := by decide +kernel
theorem dL_law_894 : decode cL_law 894 = .ok (.ifCond .eq 5, 3) := by decide +kernel
theorem dL_law_897 : decode cL_law 897 = .ok (.iconst 0, 1) := by decide +kernel
theorem dL_law_898 : decode cL_law 898 = .ok (.ireturn, 1) := by decide +kernel
theorem dL_law_899 : decode cL_law 899 = .ok (.goto 705, 3) := by decide +kernel
theorem dL_law_902 : decode cL_law 902 = .ok (.aload_n 1, 1) := by decide +kernel
theorem dL_law_903 : decode cL_law 903 = .ok (.invokevirtual 136, 3) := by decide +kernel
theorem dL_law_906 : decode cL_law 906 = .ok (.aload_n 2, 1) := by decide +kernel
theorem dL_law_907 : decode cL_law 907 = .ok (.invokevirtual 139, 3) := by decide +kernel
theorem dL_law_910 : decode cL_law 910 = .ok (.if_icmp .eq 694, 3) := by decide +kernel
theorem dL_law_913 : decode cL_law 913 = .ok (.iconst 0, 1) := by decide +kernel
theorem dL_law_914 : decode cL_law 914 = .ok (.ireturn, 1) := by decide +kernel
theorem dL_law_915 : decode cL_law 915 = .ok (.aload_n 1, 1) := by decide +kernel
theorem dL_law_916 : decode cL_law 916 = .ok (.aload_n 3, 1) := by decide +kernel
theorem dL_law_917 : decode cL_law 917 = .ok (.invokestatic 140, 3) := by decide +kernel
theorem dL_law_920 : decode cL_law 920 = .ok (.istore 5, 2) := by decide +kernel
theorem dL_law_922 : decode cL_law 922 = .ok (.aload_n 2, 1) := by decide +kernel
theorem dL_law_923 : decode cL_law 923 = .ok (.invokevirtual 142, 3) := by decide +kernel
theorem dL_law_926 : decode cL_law 926 = .ok (.istore 6, 2) := by decide +kernel
theorem dL_law_928 : decode cL_law 928 = .ok (.aload_n 2, 1) := by decide +kernel
theorem dL_law_929 : decode cL_law 929 = .ok (.invokevirtual 92, 3) := by decide +kernel
theorem dL_law_932 : decode cL_law 932 = .ok (.iload 5, 2) := by decide +kernel
theorem dL_law_934 : decode cL_law 934 = .ok (.if_icmp .eq 5, 3) := by decide +kernel
theorem dL_law_937 : decode cL_law 937 = .ok (.iconst 0, 1) := by decide +kernel
theorem dL_law_938 : decode cL_law 938 = .ok (.ireturn, 1) := by decide +kernel
theorem dL_law_939 : decode cL_law 939 = .ok (.iload 5, 2) := by decide +kernel
theorem dL_law_941 : decode cL_law 941 = .ok (.ifCond .ne 15, 3) := by decide +kernel
theorem dL_law_944 : decode cL_law 944 = .ok (.aload_n 3, 1) := by decide +kernel
theorem dL_law_945 : decode cL_law 945 = .ok (.iconst 0, 1) := by decide +kernel
theorem dL_law_946 : decode cL_law 946 = .ok (.laload, 1) := by decide +kernel
theorem dL_law_947 : decode cL_law 947 = .ok (.iload 6, 2) := by decide +kernel
theorem dL_law_949 : decode cL_law 949 = .ok (.i2l, 1) := by decide +kernel
theorem dL_law_950 : decode cL_law 950 = .ok (.lcmp, 1) := by decide +kernel
theorem dL_law_951 : decode cL_law 951 = .ok (.ifCond .eq 5, 3) := by decide +kernel
theorem dL_law_954 : decode cL_law 954 = .ok (.iconst 0, 1) := by decide +kernel
theorem dL_law_955 : decode cL_law 955 = .ok (.ireturn, 1) := by decide +kernel
theorem dL_law_956 : decode cL_law 956 = .ok (.goto 648, 3) := by decide +kernel
theorem dL_law_959 : decode cL_law 959 = .ok (.aload_n 1, 1) := by decide +kernel
theorem dL_law_960 : decode cL_law 960 = .ok (.aload_n 0, 1) := by decide +kernel
theorem dL_law_961 : decode cL_law 961 = .ok (.iload 4, 2) := by decide +kernel
theorem dL_law_963 : decode cL_law 963 = .ok (.iconst 1, 1) := by decide +kernel
theorem dL_law_964 : decode cL_law 964 = .ok (.iadd, 1) := by decide +kernel
theorem dL_law_965 : decode cL_law 965 = .ok (.iaload, 1) := by decide +kernel
theorem dL_law_966 : decode cL_law 966 = .ok (.aload_n 0, 1) := by decide +kernel
theorem dL_law_967 : decode cL_law 967 = .ok (.iload 4, 2) := by decide +kernel
theorem dL_law_969 : decode cL_law 969 = .ok (.iconst 2, 1) := by decide +kernel
theorem dL_law_970 : decode cL_law 970 = .ok (.iadd, 1) := by decide +kernel
theorem dL_law_971 : decode cL_law 971 = .ok (.iaload, 1) := by decide +kernel
theorem dL_law_972 : decode cL_law 972 = .ok (.aload_n 3, 1) := by decide +kernel
theorem dL_law_973 : decode cL_law 973 = .ok (.invokestatic 143, 3) := by decide +kernel
theorem dL_law_976 : decode cL_law 976 = .ok (.istore 5, 2) := by decide +kernel
theorem dL_law_978 : decode cL_law 978 = .ok (.aload_n 2, 1) := by decide +kernel
theorem dL_law_979 : decode cL_law 979 = .ok (.aload_n 0, 1) := by decide +kernel
theorem dL_law_980 : decode cL_law 980 = .ok (.iload 4, 2) := by decide +kernel
theorem dL_law_982 : decode cL_law 982 = .ok (.iconst 1, 1) := by decide +kernel
theorem dL_law_983 : decode cL_law 983 = .ok (.iadd, 1) := by decide +kernel
theorem dL_law_984 : decode cL_law 984 = .ok (.iaload, 1) := by decide +kernel
theorem dL_law_985 : decode cL_law 985 = .ok (.aload_n 0, 1) := by decide +kernel
theorem dL_law_986 : decode cL_law 986 = .ok (.iload 4, 2) := by decide +kernel
theorem dL_law_988 : decode cL_law 988 = .ok (.iconst 2, 1) := by decide +kernel
theorem dL_law_989 : decode cL_law 989 = .ok (.iadd, 1) := by decide +kernel
theorem dL_law_990 : decode cL_law 990 = .ok (.iaload, 1) := by decide +kernel
theorem dL_law_991 : decode cL_law 991 = .ok (.invokevirtual 145, 3) := by decide +kernel
theorem dL_law_994 : decode cL_law 994 = .ok (.istore 6, 2) := by decide +kernel
theorem dL_law_996 : decode cL_law 996 = .ok (.aload_n 2, 1) := by decide +kernel
theorem dL_law_997 : decode cL_law 997 = .ok (.invokevirtual 92, 3) := by decide +kernel
theorem dL_law_1000 : decode cL_law 1000 = .ok (.iload 5, 2) := by decide +kernel
theorem dL_law_1002 : decode cL_law 1002 = .ok (.if_icmp .eq 5, 3) := by decide +kernel
theorem dL_law_1005 : decode cL_law 1005 = .ok (.iconst 0, 1) := by decide +kernel
theorem dL_law_1006 : decode cL_law 1006 = .ok (.ireturn, 1) := by decide +kernel
theorem dL_law_1007 : decode cL_law 1007 = .ok (.iload 5, 2) := by decide +kernel
theorem dL_law_1009 : decode cL_law 1009 = .ok (.ifCond .ne 15, 3) := by decide +kernel
theorem dL_law_1012 : decode cL_law 1012 = .ok (.aload_n 3, 1) := by decide +kernel
theorem dL_law_1013 : decode cL_law 1013 = .ok (.iconst 0, 1) := by decide +kernel
theorem dL_law_1014 : decode cL_law 1014 = .ok (.laload, 1) := by decide +kernel
theorem dL_law_1015 : decode cL_law 1015 = .ok (.iload 6, 2) := by decide +kernel
theorem dL_law_1017 : decode cL_law 1017 = .ok (.i2l, 1) := by decide +kernel
theorem dL_law_1018 : decode cL_law 1018 = .ok (.lcmp, 1) := by decide +kernel
theorem dL_law_1019 : decode cL_law 1019 = .ok (.ifCond .eq 5, 3) := by decide +kernel
theorem dL_law_1022 : decode cL_law 1022 = .ok (.iconst 0, 1) := by decide +kernel
theorem dL_law_1023 : decode cL_law 1023 = .ok (.ireturn, 1) := by decide +kernel
theorem dL_law_1024 : decode cL_law 1024 = .ok (.goto 580, 3) := by decide +kernel
theorem dL_law_1027 : decode cL_law 1027 = .ok (.aload_n 1, 1) := by decide +kernel
theorem dL_law_1028 : decode cL_law 1028 = .ok (.aload_n 0, 1) := by decide +kernel
theorem dL_law_1029 : decode cL_law 1029 = .ok (.iload 4, 2) := by decide +kernel
theorem dL_law_1031 : decode cL_law 1031 = .ok (.iconst 1, 1) := by decide +kernel
theorem dL_law_1032 : decode cL_law 1032 = .ok (.iadd, 1) := by decide +kernel
theorem dL_law_1033 : decode cL_law 1033 = .ok (.iaload, 1) := by decide +kernel
theorem dL_law_1034 : decode cL_law 1034 = .ok (.aload_n 0, 1) := by decide +kernel
theorem dL_law_1035 : decode cL_law 1035 = .ok (.iload 4, 2) := by decide +kernel
theorem dL_law_1037 : decode cL_law 1037 = .ok (.iconst 2, 1) := by decide +kernel
theorem dL_law_1038 : decode cL_law 1038 = .ok (.iadd, 1) := by decide +kernel
theorem dL_law_1039 : decode cL_law 1039 = .ok (.iaload, 1) := by decide +kernel
theorem dL_law_1040 : decode cL_law 1040 = .ok (.aload_n 3, 1) := by decide +kernel
theorem dL_law_1041 : decode cL_law 1041 = .ok (.invokestatic 146, 3) := by decide +kernel
theorem dL_law_1044 : decode cL_law 1044 = .ok (.istore 5, 2) := by decide +kernel
theorem dL_law_1046 : decode cL_law 1046 = .ok (.aload_n 2, 1) := by decide +kernel
theorem dL_law_1047 : decode cL_law 1047 = .ok (.aload_n 0, 1) := by decide +kernel
theorem dL_law_1048 : decode cL_law 1048 = .ok (.iload 4, 2) := by decide +kernel
theorem dL_law_1050 : decode cL_law 1050 = .ok (.iconst 1, 1) := by decide +kernel
theorem dL_law_1051 : decode cL_law 1051 = .ok (.iadd, 1) := by decide +kernel
theorem dL_law_1052 : decode cL_law 1052 = .ok (.iaload, 1) := by decide +kernel
theorem dL_law_1053 : decode cL_law 1053 = .ok (.aload_n 0, 1) := by decide +kernel
theorem dL_law_1054 : decode cL_law 1054 = .ok (.iload 4, 2) := by decide +kernel
theorem dL_law_1056 : decode cL_law 1056 = .ok (.iconst 2, 1) := by decide +kernel
theorem dL_law_1057 : decode cL_law 1057 = .ok (.iadd, 1) := by decide +kernel
theorem dL_law_1058 : decode cL_law 1058 = .ok (.iaload, 1) := by decide +kernel
theorem dL_law_1059 : decode cL_law 1059 = .ok (.invokevirtual 148, 3) := by decide +kernel
theorem dL_law_1062 : decode cL_law 1062 = .ok (.istore 6, 2) := by decide +kernel
theorem dL_law_1064 : decode cL_law 1064 = .ok (.aload_n 2, 1) := by decide +kernel
theorem dL_law_1065 : decode cL_law 1065 = .ok (.invokevirtual 92, 3) := by decide +kernel
theorem dL_law_1068 : decode cL_law 1068 = .ok (.iload 5, 2) := by decide +kernel
theorem dL_law_1070 : decode cL_law 1070 = .ok (.if_icmp .eq 5, 3) := by decide +kernel
theorem dL_law_1073 : decode cL_law 1073 = .ok (.iconst 0, 1) := by decide +kernel
theorem dL_law_1074 : decode cL_law 1074 = .ok (.ireturn, 1) := by decide +kernel
theorem dL_law_1075 : decode cL_law 1075 = .ok (.iload 5, 2) := by decide +kernel
theorem dL_law_1077 : decode cL_law 1077 = .ok (.ifCond .ne 15, 3) := by decide +kernel
theorem dL_law_1080 : decode cL_law 1080 = .ok (.aload_n 3, 1) := by decide +kernel
theorem dL_law_1081 : decode cL_law 1081 = .ok (.iconst 0, 1) := by decide +kernel
theorem dL_law_1082 : decode cL_law 1082 = .ok (.laload, 1) := by decide +kernel
theorem dL_law_1083 : decode cL_law 1083 = .ok (.iload 6, 2) := by decide +kernel
theorem dL_law_1085 : decode cL_law 1085 = .ok (.i2l, 1) := by decide +kernel
theorem dL_law_1086 : decode cL_law 1086 = .ok (.lcmp, 1) := by decide +kernel
theorem dL_law_1087 : decode cL_law 1087 = .ok (.ifCond .eq 5, 3) := by decide +kernel
theorem dL_law_1090 : decode cL_law 1090 = .ok (.iconst 0, 1) := by decide +kernel
theorem dL_law_1091 : decode cL_law 1091 = .ok (.ireturn, 1) := by decide +kernel
theorem dL_law_1092 : decode cL_law 1092 = .ok (.goto 512, 3) := by decide +kernel
theorem dL_law_1095 : decode cL_law 1095 = .ok (.aload_n 1, 1) := by decide +kernel
theorem dL_law_1096 : decode cL_law 1096 = .ok (.aload_n 0, 1) := by decide +kernel
theorem dL_law_1097 : decode cL_law 1097 = .ok (.iload 4, 2) := by decide +kernel
theorem dL_law_1099 : decode cL_law 1099 = .ok (.iconst 1, 1) := by decide +kernel
theorem dL_law_1100 : decode cL_law 1100 = .ok (.iadd, 1) := by decide +kernel
theorem dL_law_1101 : decode cL_law 1101 = .ok (.iaload, 1) := by decide +kernel
theorem dL_law_1102 : decode cL_law 1102 = .ok (.aload_n 0, 1) := by decide +kernel
theorem dL_law_1103 : decode cL_law 1103 = .ok (.iload 4, 2) := by decide +kernel
theorem dL_law_1105 : decode cL_law 1105 = .ok (.iconst 2, 1) := by decide +kernel
theorem dL_law_1106 : decode cL_law 1106 = .ok (.iadd, 1) := by decide +kernel
theorem dL_law_1107 : decode cL_law 1107 = .ok (.iaload, 1) := by decide +kernel
theorem dL_law_1108 : decode cL_law 1108 = .ok (.aload_n 3, 1) := by decide +kernel
theorem dL_law_1109 : decode cL_law 1109 = .ok (.invokestatic 149, 3) := by decide +kernel
theorem dL_law_1112 : decode cL_law 1112 = .ok (.istore 5, 2) := by decide +kernel
theorem dL_law_1114 : decode cL_law 1114 = .ok (.aload_n 2, 1) := by decide +kernel
theorem dL_law_1115 : decode cL_law 1115 = .ok (.aload_n 0, 1) := by decide +kernel
theorem dL_law_1116 : decode cL_law 1116 = .ok (.iload 4, 2) := by decide +kernel
theorem dL_law_1118 : decode cL_law 1118 = .ok (.iconst 1, 1) := by decide +kernel
theorem dL_law_1119 : decode cL_law 1119 = .ok (.iadd, 1) := by decide +kernel
theorem dL_law_1120 : decode cL_law 1120 = .ok (.iaload, 1) := by decide +kernel
theorem dL_law_1121 : decode cL_law 1121 = .ok (.aload_n 0, 1) := by decide +kernel
theorem dL_law_1122 : decode cL_law 1122 = .ok (.iload 4, 2) := by decide +kernel
theorem dL_law_1124 : decode cL_law 1124 = .ok (.iconst 2, 1) := by decide +kernel
theorem dL_law_1125 : decode cL_law 1125 = .ok (.iadd, 1) := by decide +kernel
theorem dL_law_1126 : decode cL_law 1126 = .ok (.iaload, 1) := by decide +kernel
theorem dL_law_1127 : decode cL_law 1127 = .ok (.invokevirtual 151, 3) := by decide +kernel
theorem dL_law_1130 : decode cL_law 1130 = .ok (.istore 6, 2) := by decide +kernel
theorem dL_law_1132 : decode cL_law 1132 = .ok (.aload_n 2, 1) := by decide +kernel
theorem dL_law_1133 : decode cL_law 1133 = .ok (.invokevirtual 92, 3) := by decide +kernel
theorem dL_law_1136 : decode cL_law 1136 = .ok (.iload 5, 2) := by decide +kernel
theorem dL_law_1138 : decode cL_law 1138 = .ok (.if_icmp .eq 5, 3) := by decide +kernel
theorem dL_law_1141 : decode cL_law 1141 = .ok (.iconst 0, 1) := by decide +kernel
theorem dL_law_1142 : decode cL_law 1142 = .ok (.ireturn, 1) := by decide +kernel
theorem dL_law_1143 : decode cL_law 1143 = .ok (.iload 5, 2) := by decide +kernel
theorem dL_law_1145 : decode cL_law 1145 = .ok (.ifCond .ne 15, 3) := by decide +kernel
theorem dL_law_1148 : decode cL_law 1148 = .ok (.aload_n 3, 1) := by decide +kernel
theorem dL_law_1149 : decode cL_law 1149 = .ok (.iconst 0, 1) := by decide +kernel
theorem dL_law_1150 : decode cL_law 1150 = .ok (.laload, 1) := by decide +kernel
theorem dL_law_1151 : decode cL_law 1151 = .ok (.iload 6, 2) := by decide +kernel
theorem dL_law_1153 : decode cL_law 1153 = .ok (.i2l, 1) := by decide +kernel
theorem dL_law_1154 : decode cL_law 1154 = .ok (.lcmp, 1) := by decide +kernel
theorem dL_law_1155 : decode cL_law 1155 = .ok (.ifCond .eq 5, 3) := by decide +kernel
theorem dL_law_1158 : decode cL_law 1158 = .ok (.iconst 0, 1) := by decide +kernel
theorem dL_law_1159 : decode cL_law 1159 = .ok (.ireturn, 1) := by decide +kernel
theorem dL_law_1160 : decode cL_law 1160 = .ok (.goto 444, 3) := by decide +kernel
theorem dL_law_1163 : decode cL_law 1163 = .ok (.aload_n 1, 1) := by decide +kernel
theorem dL_law_1164 : decode cL_law 1164 = .ok (.aload_n 0, 1) := by decide +kernel
theorem dL_law_1165 : decode cL_law 1165 = .ok (.iload 4, 2) := by decide +kernel
theorem dL_law_1167 : decode cL_law 1167 = .ok (.iconst 1, 1) := by decide +kernel
theorem dL_law_1168 : decode cL_law 1168 = .ok (.iadd, 1) := by decide +kernel
theorem dL_law_1169 : decode cL_law 1169 = .ok (.iaload, 1) := by decide +kernel
theorem dL_law_1170 : decode cL_law 1170 = .ok (.aload_n 3, 1) := by decide +kernel
theorem dL_law_1171 : decode cL_law 1171 = .ok (.invokestatic 152, 3) := by decide +kernel
theorem dL_law_1174 : decode cL_law 1174 = .ok (.istore 5, 2) := by decide +kernel
theorem dL_law_1176 : decode cL_law 1176 = .ok (.aload_n 2, 1) := by decide +kernel
theorem dL_law_1177 : decode cL_law 1177 = .ok (.aload_n 0, 1) := by decide +kernel
theorem dL_law_1178 : decode cL_law 1178 = .ok (.iload 4, 2) := by decide +kernel
theorem dL_law_1180 : decode cL_law 1180 = .ok (.iconst 1, 1) := by decide +kernel
theorem dL_law_1181 : decode cL_law 1181 = .ok (.iadd, 1) := by decide +kernel
theorem dL_law_1182 : decode cL_law 1182 = .ok (.iaload, 1) := by decide +kernel
theorem dL_law_1183 : decode cL_law 1183 = .ok (.invokevirtual 154, 3) := by decide +kernel
theorem dL_law_1186 : decode cL_law 1186 = .ok (.istore 6, 2) := by decide +kernel
theorem dL_law_1188 : decode cL_law 1188 = .ok (.aload_n 2, 1) := by decide +kernel
theorem dL_law_1189 : decode cL_law 1189 = .ok (.invokevirtual 92, 3) := by decide +kernel
theorem dL_law_1192 : decode cL_law 1192 = .ok (.iload 5, 2) := by decide +kernel
theorem dL_law_1194 : decode cL_law 1194 = .ok (.if_icmp .eq 5, 3) := by decide +kernel
theorem dL_law_1197 : decode cL_law 1197 = .ok (.iconst 0, 1) := by decide +kernel
theorem dL_law_1198 : decode cL_law 1198 = .ok (.ireturn, 1) := by decide +kernel
theorem dL_law_1199 : decode cL_law 1199 = .ok (.iload 5, 2) := by decide +kernel
theorem dL_law_1201 : decode cL_law 1201 = .ok (.ifCond .ne 15, 3) := by decide +kernel
theorem dL_law_1204 : decode cL_law 1204 = .ok (.aload_n 3, 1) := by decide +kernel
theorem dL_law_1205 : decode cL_law 1205 = .ok (.iconst 0, 1) := by decide +kernel
theorem dL_law_1206 : decode cL_law 1206 = .ok (.laload, 1) := by decide +kernel
theorem dL_law_1207 : decode cL_law 1207 = .ok (.iload 6, 2) := by decide +kernel
theorem dL_law_1209 : decode cL_law 1209 = .ok (.i2l, 1) := by decide +kernel
theorem dL_law_1210 : decode cL_law 1210 = .ok (.lcmp, 1) := by decide +kernel
theorem dL_law_1211 : decode cL_law 1211 = .ok (.ifCond .eq 5, 3) := by decide +kernel
theorem dL_law_1214 : decode cL_law 1214 = .ok (.iconst 0, 1) := by decide +kernel
theorem dL_law_1215 : decode cL_law 1215 = .ok (.ireturn, 1) := by decide +kernel
theorem dL_law_1216 : decode cL_law 1216 = .ok (.goto 388, 3) := by decide +kernel
theorem dL_law_1219 : decode cL_law 1219 = .ok (.aload_n 1, 1) := by decide +kernel
theorem dL_law_1220 : decode cL_law 1220 = .ok (.aload_n 0, 1) := by decide +kernel
theorem dL_law_1221 : decode cL_law 1221 = .ok (.iload 4, 2) := by decide +kernel
theorem dL_law_1223 : decode cL_law 1223 = .ok (.iconst 1, 1) := by decide +kernel
theorem dL_law_1224 : decode cL_law 1224 = .ok (.iadd, 1) := by decide +kernel
theorem dL_law_1225 : decode cL_law 1225 = .ok (.iaload, 1) := by decide +kernel
theorem dL_law_1226 : decode cL_law 1226 = .ok (.aload_n 3, 1) := by decide +kernel
theorem dL_law_1227 : decode cL_law 1227 = .ok (.invokestatic 155, 3) := by decide +kernel
theorem dL_law_1230 : decode cL_law 1230 = .ok (.istore 5, 2) := by decide +kernel
theorem dL_law_1232 : decode cL_law 1232 = .ok (.aload_n 2, 1) := by decide +kernel
theorem dL_law_1233 : decode cL_law 1233 = .ok (.aload_n 0, 1) := by decide +kernel
theorem dL_law_1234 : decode cL_law 1234 = .ok (.iload 4, 2) := by decide +kernel
theorem dL_law_1236 : decode cL_law 1236 = .ok (.iconst 1, 1) := by decide +kernel
theorem dL_law_1237 : decode cL_law 1237 = .ok (.iadd, 1) := by decide +kernel
theorem dL_law_1238 : decode cL_law 1238 = .ok (.iaload, 1) := by decide +kernel
theorem dL_law_1239 : decode cL_law 1239 = .ok (.invokevirtual 157, 3) := by decide +kernel
theorem dL_law_1242 : decode cL_law 1242 = .ok (.istore 6, 2) := by decide +kernel
theorem dL_law_1244 : decode cL_law 1244 = .ok (.aload_n 2, 1) := by decide +kernel
theorem dL_law_1245 : decode cL_law 1245 = .ok (.invokevirtual 92, 3) := by decide +kernel
theorem dL_law_1248 : decode cL_law 1248 = .ok (.iload 5, 2) := by decide +kernel
theorem dL_law_1250 : decode cL_law 1250 = .ok (.if_icmp .eq 5, 3) := by decide +kernel
theorem dL_law_1253 : decode cL_law 1253 = .ok (.iconst 0, 1) := by decide +kernel
theorem dL_law_1254 : decode cL_law 1254 = .ok (.ireturn, 1) := by decide +kernel
theorem dL_law_1255 : decode cL_law 1255 = .ok (.iload 5, 2) := by decide +kernel
theorem dL_law_1257 : decode cL_law 1257 = .ok (.ifCond .ne 15, 3) := by decide +kernel
theorem dL_law_1260 : decode cL_law 1260 = .ok (.aload_n 3, 1) := by decide +kernel
theorem dL_law_1261 : decode cL_law 1261 = .ok (.iconst 0, 1) := by decide +kernel
theorem dL_law_1262 : decode cL_law 1262 = .ok (.laload, 1) := by decide +kernel
theorem dL_law_1263 : decode cL_law 1263 = .ok (.iload 6, 2) := by decide +kernel
theorem dL_law_1265 : decode cL_law 1265 = .ok (.i2l, 1) := by decide +kernel
theorem dL_law_1266 : decode cL_law 1266 = .ok (.lcmp, 1) := by decide +kernel
theorem dL_law_1267 : decode cL_law 1267 = .ok (.ifCond .eq 5, 3) := by decide +kernel
theorem dL_law_1270 : decode cL_law 1270 = .ok (.iconst 0, 1) := by decide +kernel
theorem dL_law_1271 : decode cL_law 1271 = .ok (.ireturn, 1) := by decide +kernel
theorem dL_law_1272 : decode cL_law 1272 = .ok (.goto 332, 3) := by decide +kernel
theorem dL_law_1275 : decode cL_law 1275 = .ok (.aload_n 1, 1) := by decide +kernel
theorem dL_law_1276 : decode cL_law 1276 = .ok (.aload_n 0, 1) := by decide +kernel
theorem dL_law_1277 : decode cL_law 1277 = .ok (.iload 4, 2) := by decide +kernel
theorem dL_law_1279 : decode cL_law 1279 = .ok (.iconst 1, 1) := by decide +kernel
theorem dL_law_1280 : decode cL_law 1280 = .ok (.iadd, 1) := by decide +kernel
theorem dL_law_1281 : decode cL_law 1281 = .ok (.iaload, 1) := by decide +kernel
theorem dL_law_1282 : decode cL_law 1282 = .ok (.aload_n 3, 1) := by decide +kernel
theorem dL_law_1283 : decode cL_law 1283 = .ok (.invokestatic 158, 3) := by decide +kernel
theorem dL_law_1286 : decode cL_law 1286 = .ok (.istore 5, 2) := by decide +kernel
theorem dL_law_1288 : decode cL_law 1288 = .ok (.aload_n 2, 1) := by decide +kernel
theorem dL_law_1289 : decode cL_law 1289 = .ok (.aload_n 0, 1) := by decide +kernel
theorem dL_law_1290 : decode cL_law 1290 = .ok (.iload 4, 2) := by decide +kernel
theorem dL_law_1292 : decode cL_law 1292 = .ok (.iconst 1, 1) := by decide +kernel
theorem dL_law_1293 : decode cL_law 1293 = .ok (.iadd, 1) := by decide +kernel
theorem dL_law_1294 : decode cL_law 1294 = .ok (.iaload, 1) := by decide +kernel
theorem dL_law_1295 : decode cL_law 1295 = .ok (.invokevirtual 160, 3) := by decide +kernel
theorem dL_law_1298 : decode cL_law 1298 = .ok (.istore 6, 2) := by decide +kernel
theorem dL_law_1300 : decode cL_law 1300 = .ok (.aload_n 2, 1) := by decide +kernel
theorem dL_law_1301 : decode cL_law 1301 = .ok (.invokevirtual 92, 3) := by decide +kernel
theorem dL_law_1304 : decode cL_law 1304 = .ok (.iload 5, 2) := by decide +kernel
theorem dL_law_1306 : decode cL_law 1306 = .ok (.if_icmp .eq 5, 3) := by decide +kernel
theorem dL_law_1309 : decode cL_law 1309 = .ok (.iconst 0, 1) := by decide +kernel
theorem dL_law_1310 : decode cL_law 1310 = .ok (.ireturn, 1) := by decide +kernel
theorem dL_law_1311 : decode cL_law 1311 = .ok (.iload 5, 2) := by decide +kernel
theorem dL_law_1313 : decode cL_law 1313 = .ok (.ifCond .ne 15, 3) := by decide +kernel
theorem dL_law_1316 : decode cL_law 1316 = .ok (.aload_n 3, 1) := by decide +kernel
theorem dL_law_1317 : decode cL_law 1317 = .ok (.iconst 0, 1) := by decide +kernel
theorem dL_law_1318 : decode cL_law 1318 = .ok (.laload, 1) := by decide +kernel
theorem dL_law_1319 : decode cL_law 1319 = .ok (.iload 6, 2) := by decide +kernel
theorem dL_law_1321 : decode cL_law 1321 = .ok (.i2l, 1) := by decide +kernel
theorem dL_law_1322 : decode cL_law 1322 = .ok (.lcmp, 1) := by decide +kernel
theorem dL_law_1323 : decode cL_law 1323 = .ok (.ifCond .eq 5, 3) := by decide +kernel
theorem dL_law_1326 : decode cL_law 1326 = .ok (.iconst 0, 1) := by decide +kernel
theorem dL_law_1327 : decode cL_law 1327 = .ok (.ireturn, 1) := by decide +kernel
theorem dL_law_1328 : decode cL_law 1328 = .ok (.goto 276, 3) := by decide +kernel
theorem dL_law_1331 : decode cL_law 1331 = .ok (.aload_n 1, 1) := by decide +kernel
theorem dL_law_1332 : decode cL_law 1332 = .ok (.aload_n 0, 1) := by decide +kernel
theorem dL_law_1333 : decode cL_law 1333 = .ok (.iload 4, 2) := by decide +kernel
theorem dL_law_1335 : decode cL_law 1335 = .ok (.iconst 1, 1) := by decide +kernel
theorem dL_law_1336 : decode cL_law 1336 = .ok (.iadd, 1) := by decide +kernel
theorem dL_law_1337 : decode cL_law 1337 = .ok (.iaload, 1) := by decide +kernel
theorem dL_law_1338 : decode cL_law 1338 = .ok (.aload_n 3, 1) := by decide +kernel
theorem dL_law_1339 : decode cL_law 1339 = .ok (.invokestatic 161, 3) := by decide +kernel
theorem dL_law_1342 : decode cL_law 1342 = .ok (.istore 5, 2) := by decide +kernel
theorem dL_law_1344 : decode cL_law 1344 = .ok (.aload_n 2, 1) := by decide +kernel
theorem dL_law_1345 : decode cL_law 1345 = .ok (.aload_n 0, 1) := by decide +kernel
theorem dL_law_1346 : decode cL_law 1346 = .ok (.iload 4, 2) := by decide +kernel
theorem dL_law_1348 : decode cL_law 1348 = .ok (.iconst 1, 1) := by decide +kernel
theorem dL_law_1349 : decode cL_law 1349 = .ok (.iadd, 1) := by decide +kernel
theorem dL_law_1350 : decode cL_law 1350 = .ok (.iaload, 1) := by decide +kernel
theorem dL_law_1351 : decode cL_law 1351 = .ok (.invokevirtual 163, 3) := by decide +kernel
theorem dL_law_1354 : decode cL_law 1354 = .ok (.istore 6, 2) := by decide +kernel
theorem dL_law_1356 : decode cL_law 1356 = .ok (.aload_n 2, 1) := by decide +kernel
theorem dL_law_1357 : decode cL_law 1357 = .ok (.invokevirtual 92, 3) := by decide +kernel
theorem dL_law_1360 : decode cL_law 1360 = .ok (.iload 5, 2) := by decide +kernel
theorem dL_law_1362 : decode cL_law 1362 = .ok (.if_icmp .eq 5, 3) := by decide +kernel
theorem dL_law_1365 : decode cL_law 1365 = .ok (.iconst 0, 1) := by decide +kernel
theorem dL_law_1366 : decode cL_law 1366 = .ok (.ireturn, 1) := by decide +kernel
theorem dL_law_1367 : decode cL_law 1367 = .ok (.iload 5, 2) := by decide +kernel
theorem dL_law_1369 : decode cL_law 1369 = .ok (.ifCond .ne 15, 3) := by decide +kernel
theorem dL_law_1372 : decode cL_law 1372 = .ok (.aload_n 3, 1) := by decide +kernel
theorem dL_law_1373 : decode cL_law 1373 = .ok (.iconst 0, 1) := by decide +kernel
theorem dL_law_1374 : decode cL_law 1374 = .ok (.laload, 1) := by decide +kernel
theorem dL_law_1375 : decode cL_law 1375 = .ok (.iload 6, 2) := by decide +kernel
theorem dL_law_1377 : decode cL_law 1377 = .ok (.i2l, 1) := by decide +kernel
theorem dL_law_1378 : decode cL_law 1378 = .ok (.lcmp, 1) := by decide +kernel
theorem dL_law_1379 : decode cL_law 1379 = .ok (.ifCond .eq 5, 3) := by decide +kernel
theorem dL_law_1382 : decode cL_law 1382 = .ok (.iconst 0, 1) := by decide +kernel
theorem dL_law_1383 : decode cL_law 1383 = .ok (.ireturn, 1) := by decide +kernel
theorem dL_law_1384 : decode cL_law 1384 = .ok (.goto 220, 3) := by decide +kernel
theorem dL_law_1387 : decode cL_law 1387 = .ok (.aload_n 1, 1) := by decide +kernel
theorem dL_law_1388 : decode cL_law 1388 = .ok (.invokevirtual 164, 3) := by decide +kernel
theorem dL_law_1391 : decode cL_law 1391 = .ok (.aload_n 2, 1) := by decide +kernel
theorem dL_law_1392 : decode cL_law 1392 = .ok (.invokevirtual 167, 3) := by decide +kernel
theorem dL_law_1395 : decode cL_law 1395 = .ok (.if_icmp .eq 209, 3) := by decide +kernel
theorem dL_law_1398 : decode cL_law 1398 = .ok (.iconst 0, 1) := by decide +kernel
theorem dL_law_1399 : decode cL_law 1399 = .ok (.ireturn, 1) := by decide +kernel
theorem dL_law_1400 : decode cL_law 1400 = .ok (.aload_n 1, 1) := by decide +kernel
theorem dL_law_1401 : decode cL_law 1401 = .ok (.aload_n 0, 1) := by decide +kernel
theorem dL_law_1402 : decode cL_law 1402 = .ok (.iload 4, 2) := by decide +kernel
theorem dL_law_1404 : decode cL_law 1404 = .ok (.iconst 1, 1) := by decide +kernel
theorem dL_law_1405 : decode cL_law 1405 = .ok (.iadd, 1) := by decide +kernel
theorem dL_law_1406 : decode cL_law 1406 = .ok (.iaload, 1) := by decide +kernel
theorem dL_law_1407 : decode cL_law 1407 = .ok (.aload_n 0, 1) := by decide +kernel
theorem dL_law_1408 : decode cL_law 1408 = .ok (.iload 4, 2) := by decide +kernel
theorem dL_law_1410 : decode cL_law 1410 = .ok (.iconst 2, 1) := by decide +kernel
theorem dL_law_1411 : decode cL_law 1411 = .ok (.iadd, 1) := by decide +kernel
theorem dL_law_1412 : decode cL_law 1412 = .ok (.iaload, 1) := by decide +kernel
theorem dL_law_1413 : decode cL_law 1413 = .ok (.aload_n 3, 1) := by decide +kernel
theorem dL_law_1414 : decode cL_law 1414 = .ok (.invokestatic 168, 3) := by decide +kernel
theorem dL_law_1417 : decode cL_law 1417 = .ok (.istore 5, 2) := by decide +kernel
theorem dL_law_1419 : decode cL_law 1419 = .ok (.aload_n 2, 1) := by decide +kernel
theorem dL_law_1420 : decode cL_law 1420 = .ok (.aload_n 0, 1) := by decide +kernel
theorem dL_law_1421 : decode cL_law 1421 = .ok (.iload 4, 2) := by decide +kernel
theorem dL_law_1423 : decode cL_law 1423 = .ok (.iconst 1, 1) := by decide +kernel
theorem dL_law_1424 : decode cL_law 1424 = .ok (.iadd, 1) := by decide +kernel
theorem dL_law_1425 : decode cL_law 1425 = .ok (.iaload, 1) := by decide +kernel
theorem dL_law_1426 : decode cL_law 1426 = .ok (.aload_n 0, 1) := by decide +kernel
theorem dL_law_1427 : decode cL_law 1427 = .ok (.iload 4, 2) := by decide +kernel
theorem dL_law_1429 : decode cL_law 1429 = .ok (.iconst 2, 1) := by decide +kernel
theorem dL_law_1430 : decode cL_law 1430 = .ok (.iadd, 1) := by decide +kernel
theorem dL_law_1431 : decode cL_law 1431 = .ok (.iaload, 1) := by decide +kernel
theorem dL_law_1432 : decode cL_law 1432 = .ok (.invokevirtual 170, 3) := by decide +kernel
theorem dL_law_1435 : decode cL_law 1435 = .ok (.istore 6, 2) := by decide +kernel
theorem dL_law_1437 : decode cL_law 1437 = .ok (.aload_n 2, 1) := by decide +kernel
theorem dL_law_1438 : decode cL_law 1438 = .ok (.invokevirtual 92, 3) := by decide +kernel
theorem dL_law_1441 : decode cL_law 1441 = .ok (.iload 5, 2) := by decide +kernel
theorem dL_law_1443 : decode cL_law 1443 = .ok (.if_icmp .eq 5, 3) := by decide +kernel
theorem dL_law_1446 : decode cL_law 1446 = .ok (.iconst 0, 1) := by decide +kernel
theorem dL_law_1447 : decode cL_law 1447 = .ok (.ireturn, 1) := by decide +kernel
theorem dL_law_1448 : decode cL_law 1448 = .ok (.iload 5, 2) := by decide +kernel
theorem dL_law_1450 : decode cL_law 1450 = .ok (.ifCond .ne 15, 3) := by decide +kernel
theorem dL_law_1453 : decode cL_law 1453 = .ok (.aload_n 3, 1) := by decide +kernel
theorem dL_law_1454 : decode cL_law 1454 = .ok (.iconst 0, 1) := by decide +kernel
theorem dL_law_1455 : decode cL_law 1455 = .ok (.laload, 1) := by decide +kernel
theorem dL_law_1456 : decode cL_law 1456 = .ok (.iload 6, 2) := by decide +kernel
theorem dL_law_1458 : decode cL_law 1458 = .ok (.i2l, 1) := by decide +kernel
theorem dL_law_1459 : decode cL_law 1459 = .ok (.lcmp, 1) := by decide +kernel
theorem dL_law_1460 : decode cL_law 1460 = .ok (.ifCond .eq 5, 3) := by decide +kernel
theorem dL_law_1463 : decode cL_law 1463 = .ok (.iconst 0, 1) := by decide +kernel
theorem dL_law_1464 : decode cL_law 1464 = .ok (.ireturn, 1) := by decide +kernel
theorem dL_law_1465 : decode cL_law 1465 = .ok (.goto 139, 3) := by decide +kernel
theorem dL_law_1468 : decode cL_law 1468 = .ok (.aload_n 1, 1) := by decide +kernel
theorem dL_law_1469 : decode cL_law 1469 = .ok (.aload_n 0, 1) := by decide +kernel
theorem dL_law_1470 : decode cL_law 1470 = .ok (.iload 4, 2) := by decide +kernel
theorem dL_law_1472 : decode cL_law 1472 = .ok (.iconst 1, 1) := by decide +kernel
theorem dL_law_1473 : decode cL_law 1473 = .ok (.iadd, 1) := by decide +kernel
theorem dL_law_1474 : decode cL_law 1474 = .ok (.iaload, 1) := by decide +kernel
theorem dL_law_1475 : decode cL_law 1475 = .ok (.invokevirtual 171, 3) := by decide +kernel
theorem dL_law_1478 : decode cL_law 1478 = .ok (.aload_n 2, 1) := by decide +kernel
theorem dL_law_1479 : decode cL_law 1479 = .ok (.aload_n 0, 1) := by decide +kernel
theorem dL_law_1480 : decode cL_law 1480 = .ok (.iload 4, 2) := by decide +kernel
theorem dL_law_1482 : decode cL_law 1482 = .ok (.iconst 1, 1) := by decide +kernel
theorem dL_law_1483 : decode cL_law 1483 = .ok (.iadd, 1) := by decide +kernel
theorem dL_law_1484 : decode cL_law 1484 = .ok (.iaload, 1) := by decide +kernel
theorem dL_law_1485 : decode cL_law 1485 = .ok (.invokevirtual 174, 3) := by decide +kernel
theorem dL_law_1488 : decode cL_law 1488 = .ok (.if_icmp .eq 116, 3) := by decide +kernel
theorem dL_law_1491 : decode cL_law 1491 = .ok (.iconst 0, 1) := by decide +kernel
theorem dL_law_1492 : decode cL_law 1492 = .ok (.ireturn, 1) := by decide +kernel
theorem dL_law_1493 : decode cL_law 1493 = .ok (.aload_n 1, 1) := by decide +kernel
theorem dL_law_1494 : decode cL_law 1494 = .ok (.aload_n 0, 1) := by decide +kernel
theorem dL_law_1495 : decode cL_law 1495 = .ok (.iload 4, 2) := by decide +kernel
theorem dL_law_1497 : decode cL_law 1497 = .ok (.iconst 1, 1) := by decide +kernel
theorem dL_law_1498 : decode cL_law 1498 = .ok (.iadd, 1) := by decide +kernel
theorem dL_law_1499 : decode cL_law 1499 = .ok (.iaload, 1) := by decide +kernel
theorem dL_law_1500 : decode cL_law 1500 = .ok (.aload_n 3, 1) := by decide +kernel
theorem dL_law_1501 : decode cL_law 1501 = .ok (.invokestatic 175, 3) := by decide +kernel
theorem dL_law_1504 : decode cL_law 1504 = .ok (.istore 5, 2) := by decide +kernel
theorem dL_law_1506 : decode cL_law 1506 = .ok (.aload_n 2, 1) := by decide +kernel
theorem dL_law_1507 : decode cL_law 1507 = .ok (.aload_n 0, 1) := by decide +kernel
theorem dL_law_1508 : decode cL_law 1508 = .ok (.iload 4, 2) := by decide +kernel
theorem dL_law_1510 : decode cL_law 1510 = .ok (.iconst 1, 1) := by decide +kernel
theorem dL_law_1511 : decode cL_law 1511 = .ok (.iadd, 1) := by decide +kernel
theorem dL_law_1512 : decode cL_law 1512 = .ok (.iaload, 1) := by decide +kernel
theorem dL_law_1513 : decode cL_law 1513 = .ok (.invokevirtual 177, 3) := by decide +kernel
theorem dL_law_1516 : decode cL_law 1516 = .ok (.istore 6, 2) := by decide +kernel
theorem dL_law_1518 : decode cL_law 1518 = .ok (.aload_n 2, 1) := by decide +kernel
theorem dL_law_1519 : decode cL_law 1519 = .ok (.invokevirtual 92, 3) := by decide +kernel
theorem dL_law_1522 : decode cL_law 1522 = .ok (.iload 5, 2) := by decide +kernel
theorem dL_law_1524 : decode cL_law 1524 = .ok (.if_icmp .eq 5, 3) := by decide +kernel
theorem dL_law_1527 : decode cL_law 1527 = .ok (.iconst 0, 1) := by decide +kernel
theorem dL_law_1528 : decode cL_law 1528 = .ok (.ireturn, 1) := by decide +kernel
theorem dL_law_1529 : decode cL_law 1529 = .ok (.iload 5, 2) := by decide +kernel
theorem dL_law_1531 : decode cL_law 1531 = .ok (.ifCond .ne 15, 3) := by decide +kernel
theorem dL_law_1534 : decode cL_law 1534 = .ok (.aload_n 3, 1) := by decide +kernel
theorem dL_law_1535 : decode cL_law 1535 = .ok (.iconst 0, 1) := by decide +kernel
theorem dL_law_1536 : decode cL_law 1536 = .ok (.laload, 1) := by decide +kernel
theorem dL_law_1537 : decode cL_law 1537 = .ok (.iload 6, 2) := by decide +kernel
theorem dL_law_1539 : decode cL_law 1539 = .ok (.i2l, 1) := by decide +kernel
theorem dL_law_1540 : decode cL_law 1540 = .ok (.lcmp, 1) := by decide +kernel
theorem dL_law_1541 : decode cL_law 1541 = .ok (.ifCond .eq 5, 3) := by decide +kernel
theorem dL_law_1544 : decode cL_law 1544 = .ok (.iconst 0, 1) := by decide +kernel
theorem dL_law_1545 : decode cL_law 1545 = .ok (.ireturn, 1) := by decide +kernel
theorem dL_law_1546 : decode cL_law 1546 = .ok (.goto 58, 3) := by decide +kernel
theorem dL_law_1549 : decode cL_law 1549 = .ok (.aload_n 1, 1) := by decide +kernel
theorem dL_law_1550 : decode cL_law 1550 = .ok (.invokevirtual 178, 3) := by decide +kernel
theorem dL_law_1553 : decode cL_law 1553 = .ok (.dstore 5, 2) := by decide +kernel
theorem dL_law_1555 : decode cL_law 1555 = .ok (.aload_n 2, 1) := by decide +kernel
theorem dL_law_1556 : decode cL_law 1556 = .ok (.invokevirtual 182, 3) := by decide +kernel
theorem dL_law_1559 : decode cL_law 1559 = .ok (.dstore 7, 2) := by decide +kernel
theorem dL_law_1561 : decode cL_law 1561 = .ok (.dload 5, 2) := by decide +kernel
theorem dL_law_1563 : decode cL_law 1563 = .ok (.dload 7, 2) := by decide +kernel
theorem dL_law_1565 : decode cL_law 1565 = .ok (.dcmp .l, 1) := by decide +kernel
theorem dL_law_1566 : decode cL_law 1566 = .ok (.ifCond .eq 21, 3) := by decide +kernel
theorem dL_law_1569 : decode cL_law 1569 = .ok (.dload 5, 2) := by decide +kernel
theorem dL_law_1571 : decode cL_law 1571 = .ok (.dload 5, 2) := by decide +kernel
theorem dL_law_1573 : decode cL_law 1573 = .ok (.dcmp .l, 1) := by decide +kernel
theorem dL_law_1574 : decode cL_law 1574 = .ok (.ifCond .eq 11, 3) := by decide +kernel
theorem dL_law_1577 : decode cL_law 1577 = .ok (.dload 7, 2) := by decide +kernel
theorem dL_law_1579 : decode cL_law 1579 = .ok (.dload 7, 2) := by decide +kernel
theorem dL_law_1581 : decode cL_law 1581 = .ok (.dcmp .l, 1) := by decide +kernel
theorem dL_law_1582 : decode cL_law 1582 = .ok (.ifCond .ne 5, 3) := by decide +kernel
theorem dL_law_1585 : decode cL_law 1585 = .ok (.iconst 0, 1) := by decide +kernel
theorem dL_law_1586 : decode cL_law 1586 = .ok (.ireturn, 1) := by decide +kernel
theorem dL_law_1587 : decode cL_law 1587 = .ok (.goto 17, 3) := by decide +kernel
theorem dL_law_1590 : decode cL_law 1590 = .ok (.aload_n 1, 1) := by decide +kernel
theorem dL_law_1591 : decode cL_law 1591 = .ok (.invokevirtual 183, 3) := by decide +kernel
theorem dL_law_1594 : decode cL_law 1594 = .ok (.aload_n 2, 1) := by decide +kernel
theorem dL_law_1595 : decode cL_law 1595 = .ok (.invokevirtual 187, 3) := by decide +kernel
theorem dL_law_1598 : decode cL_law 1598 = .ok (.lcmp, 1) := by decide +kernel
theorem dL_law_1599 : decode cL_law 1599 = .ok (.ifCond .eq 5, 3) := by decide +kernel
theorem dL_law_1602 : decode cL_law 1602 = .ok (.iconst 0, 1) := by decide +kernel
theorem dL_law_1603 : decode cL_law 1603 = .ok (.ireturn, 1) := by decide +kernel
theorem dL_law_1604 : decode cL_law 1604 = .ok (.iinc 4 4, 3) := by decide +kernel
theorem dL_law_1607 : decode cL_law 1607 = .ok (.goto (-1584), 3) := by decide +kernel
theorem dL_law_1610 : decode cL_law 1610 = .ok (.iconst 1, 1) := by decide +kernel
theorem dL_law_1611 : decode cL_law 1611 = .ok (.ireturn, 1) := by decide +kernel
end
