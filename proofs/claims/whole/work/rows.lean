section
-- ===== PART A: goes FIRST, ahead of the names: the tables' words, and 'selects' of the private methods out of them =====
/-- a private method of a class that the tables say can be made, by its rows of tables_1 -/
def lw_okq (q : MethodName × Nat) : Prop := (q.1.cls ≠ "java/lang/invoke/MethodHandle" ∧ q.1.cls ≠ "java/lang/invoke/VarHandle") ∧ Cond.instantiable q.1.cls q.2 ∈ tables_1 ∧ Cond.privateMethod q.1 ∈ tables_1 ∧ Cond.instanceMethod q.1 ∈ tables_1
theorem lw_p0 : lw_okq (⟨"TowerPrisoner$Text", "begin", "(LTowerPrisoner$Told;)V"⟩, 10) := ⟨⟨by decide +kernel, by decide +kernel⟩, List.mem_of_getElem? (i := 21) (by decide +kernel), List.mem_of_getElem? (i := 264) (by decide +kernel), List.mem_of_getElem? (i := 265) (by decide +kernel)⟩
theorem lw_p1 : lw_okq (⟨"TowerPrisoner$Text", "nextToken", "()V"⟩, 10) := ⟨⟨by decide +kernel, by decide +kernel⟩, List.mem_of_getElem? (i := 21) (by decide +kernel), List.mem_of_getElem? (i := 269) (by decide +kernel), List.mem_of_getElem? (i := 270) (by decide +kernel)⟩
theorem lw_p2 : lw_okq (⟨"TowerPrisoner$Text", "byteAt", "(I)I"⟩, 10) := ⟨⟨by decide +kernel, by decide +kernel⟩, List.mem_of_getElem? (i := 21) (by decide +kernel), List.mem_of_getElem? (i := 273) (by decide +kernel), List.mem_of_getElem? (i := 274) (by decide +kernel)⟩
theorem lw_p3 : lw_okq (⟨"TowerPrisoner$Text", "takeLetters", "(I)V"⟩, 10) := ⟨⟨by decide +kernel, by decide +kernel⟩, List.mem_of_getElem? (i := 21) (by decide +kernel), List.mem_of_getElem? (i := 280) (by decide +kernel), List.mem_of_getElem? (i := 281) (by decide +kernel)⟩
theorem lw_p4 : lw_okq (⟨"TowerPrisoner$Text", "takeNumber", "(I)V"⟩, 10) := ⟨⟨by decide +kernel, by decide +kernel⟩, List.mem_of_getElem? (i := 21) (by decide +kernel), List.mem_of_getElem? (i := 287) (by decide +kernel), List.mem_of_getElem? (i := 288) (by decide +kernel)⟩
theorem lw_p5 : lw_okq (⟨"TowerPrisoner$Text", "readDay", "(LTowerPrisoner$Told;)V"⟩, 10) := ⟨⟨by decide +kernel, by decide +kernel⟩, List.mem_of_getElem? (i := 21) (by decide +kernel), List.mem_of_getElem? (i := 294) (by decide +kernel), List.mem_of_getElem? (i := 295) (by decide +kernel)⟩
theorem lw_p6 : lw_okq (⟨"TowerPrisoner$Text", "refuseIf", "(Z)V"⟩, 10) := ⟨⟨by decide +kernel, by decide +kernel⟩, List.mem_of_getElem? (i := 21) (by decide +kernel), List.mem_of_getElem? (i := 298) (by decide +kernel), List.mem_of_getElem? (i := 299) (by decide +kernel)⟩
theorem lw_p7 : lw_okq (⟨"TowerPrisoner$Text", "number", "(II)I"⟩, 10) := ⟨⟨by decide +kernel, by decide +kernel⟩, List.mem_of_getElem? (i := 21) (by decide +kernel), List.mem_of_getElem? (i := 302) (by decide +kernel), List.mem_of_getElem? (i := 303) (by decide +kernel)⟩
theorem lw_p8 : lw_okq (⟨"TowerPrisoner$Text", "stops", "()Z"⟩, 10) := ⟨⟨by decide +kernel, by decide +kernel⟩, List.mem_of_getElem? (i := 21) (by decide +kernel), List.mem_of_getElem? (i := 306) (by decide +kernel), List.mem_of_getElem? (i := 307) (by decide +kernel)⟩
theorem lw_p9 : lw_okq (⟨"TowerPrisoner$Text", "readBribe", "(LTowerPrisoner$Told;)V"⟩, 10) := ⟨⟨by decide +kernel, by decide +kernel⟩, List.mem_of_getElem? (i := 21) (by decide +kernel), List.mem_of_getElem? (i := 314) (by decide +kernel), List.mem_of_getElem? (i := 315) (by decide +kernel)⟩
theorem lw_p10 : lw_okq (⟨"TowerPrisoner$Text", "readTrade", "(LTowerPrisoner$Told;)V"⟩, 10) := ⟨⟨by decide +kernel, by decide +kernel⟩, List.mem_of_getElem? (i := 21) (by decide +kernel), List.mem_of_getElem? (i := 322) (by decide +kernel), List.mem_of_getElem? (i := 323) (by decide +kernel)⟩
theorem lw_p11 : lw_okq (⟨"TowerPrisoner$Text", "readRest", "(LTowerPrisoner$Told;)V"⟩, 10) := ⟨⟨by decide +kernel, by decide +kernel⟩, List.mem_of_getElem? (i := 21) (by decide +kernel), List.mem_of_getElem? (i := 330) (by decide +kernel), List.mem_of_getElem? (i := 331) (by decide +kernel)⟩
theorem lw_p12 : lw_okq (⟨"TowerPrisoner$Text", "readLimit", "(LTowerPrisoner$Told;)V"⟩, 10) := ⟨⟨by decide +kernel, by decide +kernel⟩, List.mem_of_getElem? (i := 21) (by decide +kernel), List.mem_of_getElem? (i := 334) (by decide +kernel), List.mem_of_getElem? (i := 335) (by decide +kernel)⟩
theorem lw_p13 : lw_okq (⟨"TowerPrisoner$Text", "readAdded", "(LTowerPrisoner$Told;)V"⟩, 10) := ⟨⟨by decide +kernel, by decide +kernel⟩, List.mem_of_getElem? (i := 21) (by decide +kernel), List.mem_of_getElem? (i := 338) (by decide +kernel), List.mem_of_getElem? (i := 339) (by decide +kernel)⟩
theorem lw_p14 : lw_okq (⟨"TowerPrisoner$Story", "remember", "()V"⟩, 3) := ⟨⟨by decide +kernel, by decide +kernel⟩, List.mem_of_getElem? (i := 117) (by decide +kernel), List.mem_of_getElem? (i := 415) (by decide +kernel), List.mem_of_getElem? (i := 416) (by decide +kernel)⟩
theorem lw_p15 : lw_okq (⟨"TowerPrisoner$Story", "setHarm", "(II)V"⟩, 3) := ⟨⟨by decide +kernel, by decide +kernel⟩, List.mem_of_getElem? (i := 117) (by decide +kernel), List.mem_of_getElem? (i := 442) (by decide +kernel), List.mem_of_getElem? (i := 443) (by decide +kernel)⟩
def lw_privs_1 : List (MethodName × Nat) := [(⟨"TowerPrisoner$Text", "begin", "(LTowerPrisoner$Told;)V"⟩, 10), (⟨"TowerPrisoner$Text", "nextToken", "()V"⟩, 10), (⟨"TowerPrisoner$Text", "byteAt", "(I)I"⟩, 10), (⟨"TowerPrisoner$Text", "takeLetters", "(I)V"⟩, 10), (⟨"TowerPrisoner$Text", "takeNumber", "(I)V"⟩, 10), (⟨"TowerPrisoner$Text", "readDay", "(LTowerPrisoner$Told;)V"⟩, 10), (⟨"TowerPrisoner$Text", "refuseIf", "(Z)V"⟩, 10), (⟨"TowerPrisoner$Text", "number", "(II)I"⟩, 10), (⟨"TowerPrisoner$Text", "stops", "()Z"⟩, 10), (⟨"TowerPrisoner$Text", "readBribe", "(LTowerPrisoner$Told;)V"⟩, 10), (⟨"TowerPrisoner$Text", "readTrade", "(LTowerPrisoner$Told;)V"⟩, 10), (⟨"TowerPrisoner$Text", "readRest", "(LTowerPrisoner$Told;)V"⟩, 10), (⟨"TowerPrisoner$Text", "readLimit", "(LTowerPrisoner$Told;)V"⟩, 10), (⟨"TowerPrisoner$Text", "readAdded", "(LTowerPrisoner$Told;)V"⟩, 10), (⟨"TowerPrisoner$Story", "remember", "()V"⟩, 3), (⟨"TowerPrisoner$Story", "setHarm", "(II)V"⟩, 3)]
theorem lw_r1 : ∀ q ∈ lw_privs_1, lw_okq q := List.forall_mem_cons.mpr ⟨lw_p0, List.forall_mem_cons.mpr ⟨lw_p1, List.forall_mem_cons.mpr ⟨lw_p2, List.forall_mem_cons.mpr ⟨lw_p3, List.forall_mem_cons.mpr ⟨lw_p4, List.forall_mem_cons.mpr ⟨lw_p5, List.forall_mem_cons.mpr ⟨lw_p6, List.forall_mem_cons.mpr ⟨lw_p7, List.forall_mem_cons.mpr ⟨lw_p8, List.forall_mem_cons.mpr ⟨lw_p9, List.forall_mem_cons.mpr ⟨lw_p10, List.forall_mem_cons.mpr ⟨lw_p11, List.forall_mem_cons.mpr ⟨lw_p12, List.forall_mem_cons.mpr ⟨lw_p13, List.forall_mem_cons.mpr ⟨lw_p14, List.forall_mem_cons.mpr ⟨lw_p15, fun _ h => absurd h List.not_mem_nil⟩⟩⟩⟩⟩⟩⟩⟩⟩⟩⟩⟩⟩⟩⟩⟩
theorem lw_p16 : lw_okq (⟨"TowerPrisoner$Story", "check", "(LTowerPrisoner$Told;)I"⟩, 3) := ⟨⟨by decide +kernel, by decide +kernel⟩, List.mem_of_getElem? (i := 117) (by decide +kernel), List.mem_of_getElem? (i := 455) (by decide +kernel), List.mem_of_getElem? (i := 456) (by decide +kernel)⟩
theorem lw_p17 : lw_okq (⟨"TowerPrisoner$Odds", "fillRow", "(LTowerPrisoner$Told;II)V"⟩, 5) := ⟨⟨by decide +kernel, by decide +kernel⟩, List.mem_of_getElem? (i := 159) (by decide +kernel), List.mem_of_getElem? (i := 534) (by decide +kernel), List.mem_of_getElem? (i := 535) (by decide +kernel)⟩
theorem lw_p18 : lw_okq (⟨"TowerPrisoner$Odds", "put", "(III)V"⟩, 5) := ⟨⟨by decide +kernel, by decide +kernel⟩, List.mem_of_getElem? (i := 159) (by decide +kernel), List.mem_of_getElem? (i := 538) (by decide +kernel), List.mem_of_getElem? (i := 539) (by decide +kernel)⟩
theorem lw_p19 : lw_okq (⟨"TowerPrisoner$Odds", "best", "(LTowerPrisoner$Told;III)I"⟩, 5) := ⟨⟨by decide +kernel, by decide +kernel⟩, List.mem_of_getElem? (i := 159) (by decide +kernel), List.mem_of_getElem? (i := 542) (by decide +kernel), List.mem_of_getElem? (i := 543) (by decide +kernel)⟩
theorem lw_p20 : lw_okq (⟨"TowerPrisoner$Odds", "turned", "(LTowerPrisoner$Told;III)I"⟩, 5) := ⟨⟨by decide +kernel, by decide +kernel⟩, List.mem_of_getElem? (i := 159) (by decide +kernel), List.mem_of_getElem? (i := 546) (by decide +kernel), List.mem_of_getElem? (i := 547) (by decide +kernel)⟩
theorem lw_p21 : lw_okq (⟨"TowerPrisoner$Odds", "laterAt", "(II)I"⟩, 5) := ⟨⟨by decide +kernel, by decide +kernel⟩, List.mem_of_getElem? (i := 159) (by decide +kernel), List.mem_of_getElem? (i := 552) (by decide +kernel), List.mem_of_getElem? (i := 553) (by decide +kernel)⟩
theorem lw_p22 : lw_okq (⟨"TowerPrisoner$Odds", "swapRows", "()V"⟩, 5) := ⟨⟨by decide +kernel, by decide +kernel⟩, List.mem_of_getElem? (i := 159) (by decide +kernel), List.mem_of_getElem? (i := 558) (by decide +kernel), List.mem_of_getElem? (i := 559) (by decide +kernel)⟩
theorem lw_p23 : lw_okq (⟨"TowerPrisoner$Odds", "reduce", "()V"⟩, 5) := ⟨⟨by decide +kernel, by decide +kernel⟩, List.mem_of_getElem? (i := 159) (by decide +kernel), List.mem_of_getElem? (i := 565) (by decide +kernel), List.mem_of_getElem? (i := 566) (by decide +kernel)⟩
theorem lw_p24 : lw_okq (⟨"TowerPrisoner$Plan", "make", "(LTowerPrisoner$Told;LTowerPrisoner$Story;I)V"⟩, 5) := ⟨⟨by decide +kernel, by decide +kernel⟩, List.mem_of_getElem? (i := 135) (by decide +kernel), List.mem_of_getElem? (i := 578) (by decide +kernel), List.mem_of_getElem? (i := 579) (by decide +kernel)⟩
theorem lw_p25 : lw_okq (⟨"TowerPrisoner$Plan", "put", "(II)V"⟩, 5) := ⟨⟨by decide +kernel, by decide +kernel⟩, List.mem_of_getElem? (i := 135) (by decide +kernel), List.mem_of_getElem? (i := 589) (by decide +kernel), List.mem_of_getElem? (i := 590) (by decide +kernel)⟩
theorem lw_p26 : lw_okq (⟨"TowerPrisoner$Plan", "swapRows", "()V"⟩, 5) := ⟨⟨by decide +kernel, by decide +kernel⟩, List.mem_of_getElem? (i := 135) (by decide +kernel), List.mem_of_getElem? (i := 593) (by decide +kernel), List.mem_of_getElem? (i := 594) (by decide +kernel)⟩
theorem lw_p27 : lw_okq (⟨"TowerPrisoner$Plan", "best", "(LTowerPrisoner$Told;II)I"⟩, 5) := ⟨⟨by decide +kernel, by decide +kernel⟩, List.mem_of_getElem? (i := 135) (by decide +kernel), List.mem_of_getElem? (i := 598) (by decide +kernel), List.mem_of_getElem? (i := 599) (by decide +kernel)⟩
theorem lw_p28 : lw_okq (⟨"TowerPrisoner$Plan", "gain", "(LTowerPrisoner$Told;III)I"⟩, 5) := ⟨⟨by decide +kernel, by decide +kernel⟩, List.mem_of_getElem? (i := 135) (by decide +kernel), List.mem_of_getElem? (i := 602) (by decide +kernel), List.mem_of_getElem? (i := 603) (by decide +kernel)⟩
theorem lw_p29 : lw_okq (⟨"TowerPrisoner$Plan", "laterAt", "(I)I"⟩, 5) := ⟨⟨by decide +kernel, by decide +kernel⟩, List.mem_of_getElem? (i := 135) (by decide +kernel), List.mem_of_getElem? (i := 607) (by decide +kernel), List.mem_of_getElem? (i := 608) (by decide +kernel)⟩
theorem lw_p30 : lw_okq (⟨"TowerPrisoner$Hearsay", "allowedBehind", "(I)I"⟩, 4) := ⟨⟨by decide +kernel, by decide +kernel⟩, List.mem_of_getElem? (i := 184) (by decide +kernel), List.mem_of_getElem? (i := 662) (by decide +kernel), List.mem_of_getElem? (i := 663) (by decide +kernel)⟩
theorem lw_p31 : lw_okq (⟨"TowerPrisoner$Hearsay", "rowsFrom", "(II)I"⟩, 4) := ⟨⟨by decide +kernel, by decide +kernel⟩, List.mem_of_getElem? (i := 184) (by decide +kernel), List.mem_of_getElem? (i := 677) (by decide +kernel), List.mem_of_getElem? (i := 678) (by decide +kernel)⟩
def lw_privs_2 : List (MethodName × Nat) := [(⟨"TowerPrisoner$Story", "check", "(LTowerPrisoner$Told;)I"⟩, 3), (⟨"TowerPrisoner$Odds", "fillRow", "(LTowerPrisoner$Told;II)V"⟩, 5), (⟨"TowerPrisoner$Odds", "put", "(III)V"⟩, 5), (⟨"TowerPrisoner$Odds", "best", "(LTowerPrisoner$Told;III)I"⟩, 5), (⟨"TowerPrisoner$Odds", "turned", "(LTowerPrisoner$Told;III)I"⟩, 5), (⟨"TowerPrisoner$Odds", "laterAt", "(II)I"⟩, 5), (⟨"TowerPrisoner$Odds", "swapRows", "()V"⟩, 5), (⟨"TowerPrisoner$Odds", "reduce", "()V"⟩, 5), (⟨"TowerPrisoner$Plan", "make", "(LTowerPrisoner$Told;LTowerPrisoner$Story;I)V"⟩, 5), (⟨"TowerPrisoner$Plan", "put", "(II)V"⟩, 5), (⟨"TowerPrisoner$Plan", "swapRows", "()V"⟩, 5), (⟨"TowerPrisoner$Plan", "best", "(LTowerPrisoner$Told;II)I"⟩, 5), (⟨"TowerPrisoner$Plan", "gain", "(LTowerPrisoner$Told;III)I"⟩, 5), (⟨"TowerPrisoner$Plan", "laterAt", "(I)I"⟩, 5), (⟨"TowerPrisoner$Hearsay", "allowedBehind", "(I)I"⟩, 4), (⟨"TowerPrisoner$Hearsay", "rowsFrom", "(II)I"⟩, 4)]
theorem lw_r2 : ∀ q ∈ lw_privs_2, lw_okq q := List.forall_mem_cons.mpr ⟨lw_p16, List.forall_mem_cons.mpr ⟨lw_p17, List.forall_mem_cons.mpr ⟨lw_p18, List.forall_mem_cons.mpr ⟨lw_p19, List.forall_mem_cons.mpr ⟨lw_p20, List.forall_mem_cons.mpr ⟨lw_p21, List.forall_mem_cons.mpr ⟨lw_p22, List.forall_mem_cons.mpr ⟨lw_p23, List.forall_mem_cons.mpr ⟨lw_p24, List.forall_mem_cons.mpr ⟨lw_p25, List.forall_mem_cons.mpr ⟨lw_p26, List.forall_mem_cons.mpr ⟨lw_p27, List.forall_mem_cons.mpr ⟨lw_p28, List.forall_mem_cons.mpr ⟨lw_p29, List.forall_mem_cons.mpr ⟨lw_p30, List.forall_mem_cons.mpr ⟨lw_p31, fun _ h => absurd h List.not_mem_nil⟩⟩⟩⟩⟩⟩⟩⟩⟩⟩⟩⟩⟩⟩⟩⟩
theorem lw_p32 : lw_okq (⟨"TowerPrisoner$Hearsay", "laterAt", "(I)I"⟩, 4) := ⟨⟨by decide +kernel, by decide +kernel⟩, List.mem_of_getElem? (i := 184) (by decide +kernel), List.mem_of_getElem? (i := 681) (by decide +kernel), List.mem_of_getElem? (i := 682) (by decide +kernel)⟩
theorem lw_p33 : lw_okq (⟨"TowerPrisoner$Hearsay", "put", "(II)V"⟩, 4) := ⟨⟨by decide +kernel, by decide +kernel⟩, List.mem_of_getElem? (i := 184) (by decide +kernel), List.mem_of_getElem? (i := 686) (by decide +kernel), List.mem_of_getElem? (i := 687) (by decide +kernel)⟩
theorem lw_p34 : lw_okq (⟨"TowerPrisoner$Hearsay", "swapRows", "()V"⟩, 4) := ⟨⟨by decide +kernel, by decide +kernel⟩, List.mem_of_getElem? (i := 184) (by decide +kernel), List.mem_of_getElem? (i := 690) (by decide +kernel), List.mem_of_getElem? (i := 691) (by decide +kernel)⟩
theorem lw_p35 : lw_okq (⟨"TowerPrisoner", "asTrade", "(I)I"⟩, 10) := ⟨⟨by decide +kernel, by decide +kernel⟩, List.mem_of_getElem? (i := 13) (by decide +kernel), List.mem_of_getElem? (i := 713) (by decide +kernel), List.mem_of_getElem? (i := 714) (by decide +kernel)⟩
theorem lw_p36 : lw_okq (⟨"TowerPrisoner", "asBaker", "(I)I"⟩, 10) := ⟨⟨by decide +kernel, by decide +kernel⟩, List.mem_of_getElem? (i := 13) (by decide +kernel), List.mem_of_getElem? (i := 717) (by decide +kernel), List.mem_of_getElem? (i := 718) (by decide +kernel)⟩
theorem lw_p37 : lw_okq (⟨"TowerPrisoner", "asCourt", "(I)I"⟩, 10) := ⟨⟨by decide +kernel, by decide +kernel⟩, List.mem_of_getElem? (i := 13) (by decide +kernel), List.mem_of_getElem? (i := 722) (by decide +kernel), List.mem_of_getElem? (i := 723) (by decide +kernel)⟩
theorem lw_p38 : lw_okq (⟨"TowerPrisoner", "asSweetheart", "(I)I"⟩, 10) := ⟨⟨by decide +kernel, by decide +kernel⟩, List.mem_of_getElem? (i := 13) (by decide +kernel), List.mem_of_getElem? (i := 727) (by decide +kernel), List.mem_of_getElem? (i := 728) (by decide +kernel)⟩
theorem lw_p39 : lw_okq (⟨"TowerPrisoner", "asWife", "(I)I"⟩, 10) := ⟨⟨by decide +kernel, by decide +kernel⟩, List.mem_of_getElem? (i := 13) (by decide +kernel), List.mem_of_getElem? (i := 732) (by decide +kernel), List.mem_of_getElem? (i := 733) (by decide +kernel)⟩
theorem lw_p40 : lw_okq (⟨"TowerPrisoner", "asHen", "(I)I"⟩, 10) := ⟨⟨by decide +kernel, by decide +kernel⟩, List.mem_of_getElem? (i := 13) (by decide +kernel), List.mem_of_getElem? (i := 737) (by decide +kernel), List.mem_of_getElem? (i := 738) (by decide +kernel)⟩
theorem lw_p41 : lw_okq (⟨"TowerPrisonerModel", "next", "()V"⟩, 35) := ⟨⟨by decide +kernel, by decide +kernel⟩, List.mem_of_getElem? (i := 762) (by decide +kernel), List.mem_of_getElem? (i := 890) (by decide +kernel), List.mem_of_getElem? (i := 891) (by decide +kernel)⟩
theorem lw_p42 : lw_okq (⟨"TowerPrisonerModel", "letterAt", "(I)I"⟩, 35) := ⟨⟨by decide +kernel, by decide +kernel⟩, List.mem_of_getElem? (i := 762) (by decide +kernel), List.mem_of_getElem? (i := 894) (by decide +kernel), List.mem_of_getElem? (i := 895) (by decide +kernel)⟩
theorem lw_p43 : lw_okq (⟨"TowerPrisonerModel", "readItem", "()V"⟩, 35) := ⟨⟨by decide +kernel, by decide +kernel⟩, List.mem_of_getElem? (i := 762) (by decide +kernel), List.mem_of_getElem? (i := 904) (by decide +kernel), List.mem_of_getElem? (i := 905) (by decide +kernel)⟩
theorem lw_p44 : lw_okq (⟨"TowerPrisonerModel", "mayBegin", "(I)Z"⟩, 35) := ⟨⟨by decide +kernel, by decide +kernel⟩, List.mem_of_getElem? (i := 762) (by decide +kernel), List.mem_of_getElem? (i := 908) (by decide +kernel), List.mem_of_getElem? (i := 909) (by decide +kernel)⟩
theorem lw_p45 : lw_okq (⟨"TowerPrisonerModel", "readBody", "(I)V"⟩, 35) := ⟨⟨by decide +kernel, by decide +kernel⟩, List.mem_of_getElem? (i := 762) (by decide +kernel), List.mem_of_getElem? (i := 912) (by decide +kernel), List.mem_of_getElem? (i := 913) (by decide +kernel)⟩
theorem lw_p46 : lw_okq (⟨"TowerPrisonerModel", "takesNumber", "(II)I"⟩, 35) := ⟨⟨by decide +kernel, by decide +kernel⟩, List.mem_of_getElem? (i := 762) (by decide +kernel), List.mem_of_getElem? (i := 916) (by decide +kernel), List.mem_of_getElem? (i := 917) (by decide +kernel)⟩
theorem lw_p47 : lw_okq (⟨"TowerPrisonerModel", "readBribe", "()V"⟩, 35) := ⟨⟨by decide +kernel, by decide +kernel⟩, List.mem_of_getElem? (i := 762) (by decide +kernel), List.mem_of_getElem? (i := 920) (by decide +kernel), List.mem_of_getElem? (i := 921) (by decide +kernel)⟩
def lw_privs_3 : List (MethodName × Nat) := [(⟨"TowerPrisoner$Hearsay", "laterAt", "(I)I"⟩, 4), (⟨"TowerPrisoner$Hearsay", "put", "(II)V"⟩, 4), (⟨"TowerPrisoner$Hearsay", "swapRows", "()V"⟩, 4), (⟨"TowerPrisoner", "asTrade", "(I)I"⟩, 10), (⟨"TowerPrisoner", "asBaker", "(I)I"⟩, 10), (⟨"TowerPrisoner", "asCourt", "(I)I"⟩, 10), (⟨"TowerPrisoner", "asSweetheart", "(I)I"⟩, 10), (⟨"TowerPrisoner", "asWife", "(I)I"⟩, 10), (⟨"TowerPrisoner", "asHen", "(I)I"⟩, 10), (⟨"TowerPrisonerModel", "next", "()V"⟩, 35), (⟨"TowerPrisonerModel", "letterAt", "(I)I"⟩, 35), (⟨"TowerPrisonerModel", "readItem", "()V"⟩, 35), (⟨"TowerPrisonerModel", "mayBegin", "(I)Z"⟩, 35), (⟨"TowerPrisonerModel", "readBody", "(I)V"⟩, 35), (⟨"TowerPrisonerModel", "takesNumber", "(II)I"⟩, 35), (⟨"TowerPrisonerModel", "readBribe", "()V"⟩, 35)]
theorem lw_r3 : ∀ q ∈ lw_privs_3, lw_okq q := List.forall_mem_cons.mpr ⟨lw_p32, List.forall_mem_cons.mpr ⟨lw_p33, List.forall_mem_cons.mpr ⟨lw_p34, List.forall_mem_cons.mpr ⟨lw_p35, List.forall_mem_cons.mpr ⟨lw_p36, List.forall_mem_cons.mpr ⟨lw_p37, List.forall_mem_cons.mpr ⟨lw_p38, List.forall_mem_cons.mpr ⟨lw_p39, List.forall_mem_cons.mpr ⟨lw_p40, List.forall_mem_cons.mpr ⟨lw_p41, List.forall_mem_cons.mpr ⟨lw_p42, List.forall_mem_cons.mpr ⟨lw_p43, List.forall_mem_cons.mpr ⟨lw_p44, List.forall_mem_cons.mpr ⟨lw_p45, List.forall_mem_cons.mpr ⟨lw_p46, List.forall_mem_cons.mpr ⟨lw_p47, fun _ h => absurd h List.not_mem_nil⟩⟩⟩⟩⟩⟩⟩⟩⟩⟩⟩⟩⟩⟩⟩⟩
theorem lw_p48 : lw_okq (⟨"TowerPrisonerModel", "settles", "()V"⟩, 35) := ⟨⟨by decide +kernel, by decide +kernel⟩, List.mem_of_getElem? (i := 762) (by decide +kernel), List.mem_of_getElem? (i := 924) (by decide +kernel), List.mem_of_getElem? (i := 925) (by decide +kernel)⟩
theorem lw_p49 : lw_okq (⟨"TowerPrisonerModel", "isTrade", "(I)Z"⟩, 35) := ⟨⟨by decide +kernel, by decide +kernel⟩, List.mem_of_getElem? (i := 762) (by decide +kernel), List.mem_of_getElem? (i := 941) (by decide +kernel), List.mem_of_getElem? (i := 942) (by decide +kernel)⟩
theorem lw_p50 : lw_okq (⟨"TowerPrisonerModel", "isDone", "()Z"⟩, 35) := ⟨⟨by decide +kernel, by decide +kernel⟩, List.mem_of_getElem? (i := 762) (by decide +kernel), List.mem_of_getElem? (i := 952) (by decide +kernel), List.mem_of_getElem? (i := 953) (by decide +kernel)⟩
theorem lw_p51 : lw_okq (⟨"TowerPrisonerModel", "isOver", "()Z"⟩, 35) := ⟨⟨by decide +kernel, by decide +kernel⟩, List.mem_of_getElem? (i := 762) (by decide +kernel), List.mem_of_getElem? (i := 956) (by decide +kernel), List.mem_of_getElem? (i := 957) (by decide +kernel)⟩
theorem lw_p52 : lw_okq (⟨"TowerPrisonerModel", "isFree", "()Z"⟩, 35) := ⟨⟨by decide +kernel, by decide +kernel⟩, List.mem_of_getElem? (i := 762) (by decide +kernel), List.mem_of_getElem? (i := 960) (by decide +kernel), List.mem_of_getElem? (i := 961) (by decide +kernel)⟩
theorem lw_p53 : lw_okq (⟨"TowerPrisonerModel", "remembers", "()V"⟩, 35) := ⟨⟨by decide +kernel, by decide +kernel⟩, List.mem_of_getElem? (i := 762) (by decide +kernel), List.mem_of_getElem? (i := 967) (by decide +kernel), List.mem_of_getElem? (i := 968) (by decide +kernel)⟩
theorem lw_p54 : lw_okq (⟨"TowerPrisonerModel", "candlesBy", "(II)I"⟩, 35) := ⟨⟨by decide +kernel, by decide +kernel⟩, List.mem_of_getElem? (i := 762) (by decide +kernel), List.mem_of_getElem? (i := 974) (by decide +kernel), List.mem_of_getElem? (i := 975) (by decide +kernel)⟩
theorem lw_p55 : lw_okq (⟨"TowerPrisonerModel", "harmOf", "(II)I"⟩, 35) := ⟨⟨by decide +kernel, by decide +kernel⟩, List.mem_of_getElem? (i := 762) (by decide +kernel), List.mem_of_getElem? (i := 981) (by decide +kernel), List.mem_of_getElem? (i := 982) (by decide +kernel)⟩
theorem lw_p56 : lw_okq (⟨"TowerPrisonerModel", "checks", "()I"⟩, 35) := ⟨⟨by decide +kernel, by decide +kernel⟩, List.mem_of_getElem? (i := 762) (by decide +kernel), List.mem_of_getElem? (i := 990) (by decide +kernel), List.mem_of_getElem? (i := 991) (by decide +kernel)⟩
theorem lw_p57 : lw_okq (⟨"TowerPrisonerModel", "daysOf", "(I)I"⟩, 35) := ⟨⟨by decide +kernel, by decide +kernel⟩, List.mem_of_getElem? (i := 762) (by decide +kernel), List.mem_of_getElem? (i := 1022) (by decide +kernel), List.mem_of_getElem? (i := 1023) (by decide +kernel)⟩
theorem lw_p58 : lw_okq (⟨"TowerPrisonerModel", "findWorths", "(II)V"⟩, 35) := ⟨⟨by decide +kernel, by decide +kernel⟩, List.mem_of_getElem? (i := 762) (by decide +kernel), List.mem_of_getElem? (i := 1026) (by decide +kernel), List.mem_of_getElem? (i := 1027) (by decide +kernel)⟩
theorem lw_p59 : lw_okq (⟨"TowerPrisonerModel", "bestOf", "(IIII)I"⟩, 35) := ⟨⟨by decide +kernel, by decide +kernel⟩, List.mem_of_getElem? (i := 762) (by decide +kernel), List.mem_of_getElem? (i := 1033) (by decide +kernel), List.mem_of_getElem? (i := 1034) (by decide +kernel)⟩
theorem lw_p60 : lw_okq (⟨"TowerPrisonerModel", "worthBy", "(IIIII)I"⟩, 35) := ⟨⟨by decide +kernel, by decide +kernel⟩, List.mem_of_getElem? (i := 762) (by decide +kernel), List.mem_of_getElem? (i := 1040) (by decide +kernel), List.mem_of_getElem? (i := 1041) (by decide +kernel)⟩
theorem lw_p61 : lw_okq (⟨"TowerPrisonerModel", "harmBy", "(I)I"⟩, 35) := ⟨⟨by decide +kernel, by decide +kernel⟩, List.mem_of_getElem? (i := 762) (by decide +kernel), List.mem_of_getElem? (i := 1044) (by decide +kernel), List.mem_of_getElem? (i := 1045) (by decide +kernel)⟩
theorem lw_p62 : lw_okq (⟨"TowerPrisonerModel", "paceBy", "(I)I"⟩, 35) := ⟨⟨by decide +kernel, by decide +kernel⟩, List.mem_of_getElem? (i := 762) (by decide +kernel), List.mem_of_getElem? (i := 1048) (by decide +kernel), List.mem_of_getElem? (i := 1049) (by decide +kernel)⟩
theorem lw_p63 : lw_okq (⟨"TowerPrisonerModel", "findHeard", "(Z)V"⟩, 35) := ⟨⟨by decide +kernel, by decide +kernel⟩, List.mem_of_getElem? (i := 762) (by decide +kernel), List.mem_of_getElem? (i := 1079) (by decide +kernel), List.mem_of_getElem? (i := 1080) (by decide +kernel)⟩
def lw_privs_4 : List (MethodName × Nat) := [(⟨"TowerPrisonerModel", "settles", "()V"⟩, 35), (⟨"TowerPrisonerModel", "isTrade", "(I)Z"⟩, 35), (⟨"TowerPrisonerModel", "isDone", "()Z"⟩, 35), (⟨"TowerPrisonerModel", "isOver", "()Z"⟩, 35), (⟨"TowerPrisonerModel", "isFree", "()Z"⟩, 35), (⟨"TowerPrisonerModel", "remembers", "()V"⟩, 35), (⟨"TowerPrisonerModel", "candlesBy", "(II)I"⟩, 35), (⟨"TowerPrisonerModel", "harmOf", "(II)I"⟩, 35), (⟨"TowerPrisonerModel", "checks", "()I"⟩, 35), (⟨"TowerPrisonerModel", "daysOf", "(I)I"⟩, 35), (⟨"TowerPrisonerModel", "findWorths", "(II)V"⟩, 35), (⟨"TowerPrisonerModel", "bestOf", "(IIII)I"⟩, 35), (⟨"TowerPrisonerModel", "worthBy", "(IIIII)I"⟩, 35), (⟨"TowerPrisonerModel", "harmBy", "(I)I"⟩, 35), (⟨"TowerPrisonerModel", "paceBy", "(I)I"⟩, 35), (⟨"TowerPrisonerModel", "findHeard", "(Z)V"⟩, 35)]
theorem lw_r4 : ∀ q ∈ lw_privs_4, lw_okq q := List.forall_mem_cons.mpr ⟨lw_p48, List.forall_mem_cons.mpr ⟨lw_p49, List.forall_mem_cons.mpr ⟨lw_p50, List.forall_mem_cons.mpr ⟨lw_p51, List.forall_mem_cons.mpr ⟨lw_p52, List.forall_mem_cons.mpr ⟨lw_p53, List.forall_mem_cons.mpr ⟨lw_p54, List.forall_mem_cons.mpr ⟨lw_p55, List.forall_mem_cons.mpr ⟨lw_p56, List.forall_mem_cons.mpr ⟨lw_p57, List.forall_mem_cons.mpr ⟨lw_p58, List.forall_mem_cons.mpr ⟨lw_p59, List.forall_mem_cons.mpr ⟨lw_p60, List.forall_mem_cons.mpr ⟨lw_p61, List.forall_mem_cons.mpr ⟨lw_p62, List.forall_mem_cons.mpr ⟨lw_p63, fun _ h => absurd h List.not_mem_nil⟩⟩⟩⟩⟩⟩⟩⟩⟩⟩⟩⟩⟩⟩⟩⟩
theorem lw_p64 : lw_okq (⟨"TowerPrisonerModel", "comeTo", "(II)I"⟩, 35) := ⟨⟨by decide +kernel, by decide +kernel⟩, List.mem_of_getElem? (i := 762) (by decide +kernel), List.mem_of_getElem? (i := 1083) (by decide +kernel), List.mem_of_getElem? (i := 1084) (by decide +kernel)⟩
theorem lw_p65 : lw_okq (⟨"TowerPrisonerModel", "isHeard", "(II)Z"⟩, 35) := ⟨⟨by decide +kernel, by decide +kernel⟩, List.mem_of_getElem? (i := 762) (by decide +kernel), List.mem_of_getElem? (i := 1087) (by decide +kernel), List.mem_of_getElem? (i := 1088) (by decide +kernel)⟩
theorem lw_p66 : lw_okq (⟨"TowerPrisonerModel", "goFrom", "(II)I"⟩, 35) := ⟨⟨by decide +kernel, by decide +kernel⟩, List.mem_of_getElem? (i := 762) (by decide +kernel), List.mem_of_getElem? (i := 1092) (by decide +kernel), List.mem_of_getElem? (i := 1093) (by decide +kernel)⟩
theorem lw_p67 : lw_okq (⟨"TowerPrisonerModel", "couldOf", "(I)I"⟩, 35) := ⟨⟨by decide +kernel, by decide +kernel⟩, List.mem_of_getElem? (i := 762) (by decide +kernel), List.mem_of_getElem? (i := 1096) (by decide +kernel), List.mem_of_getElem? (i := 1097) (by decide +kernel)⟩
def lw_privs_5 : List (MethodName × Nat) := [(⟨"TowerPrisonerModel", "comeTo", "(II)I"⟩, 35), (⟨"TowerPrisonerModel", "isHeard", "(II)Z"⟩, 35), (⟨"TowerPrisonerModel", "goFrom", "(II)I"⟩, 35), (⟨"TowerPrisonerModel", "couldOf", "(I)I"⟩, 35)]
theorem lw_r5 : ∀ q ∈ lw_privs_5, lw_okq q := List.forall_mem_cons.mpr ⟨lw_p64, List.forall_mem_cons.mpr ⟨lw_p65, List.forall_mem_cons.mpr ⟨lw_p66, List.forall_mem_cons.mpr ⟨lw_p67, fun _ h => absurd h List.not_mem_nil⟩⟩⟩⟩
def lw_privs : List (MethodName × Nat) := lw_privs_1 ++ (lw_privs_2 ++ (lw_privs_3 ++ (lw_privs_4 ++ (lw_privs_5))))
def lw_tbl : List Cond := k2_sels lw_privs ++ tables_1
theorem lw_privs_ok : ∀ q ∈ lw_privs, lw_okq q := by
  show ∀ q ∈ lw_privs_1 ++ (lw_privs_2 ++ (lw_privs_3 ++ (lw_privs_4 ++ (lw_privs_5)))), lw_okq q
  exact List.forall_mem_append.mpr ⟨lw_r1, List.forall_mem_append.mpr ⟨lw_r2, List.forall_mem_append.mpr ⟨lw_r3, List.forall_mem_append.mpr ⟨lw_r4, lw_r5⟩⟩⟩⟩
end
section
theorem goodIn_r {big : List Cond} (ws : List Cond) (ps : List Nat) (hp : ws = ps.filterMap (fun i => big[i]?)) (h : ws.all goodWord = true) : GoodIn big ws := by
  intro w hw
  have h1 := List.all_eq_true.mp h w hw
  rw [hp] at hw
  obtain ⟨i, -, hi⟩ := List.mem_filterMap.mp hw
  have hm : w ∈ big := by first | exact List.mem_of_getElem? hi | exact List.getElem?_mem hi
  exact ⟨hm, good_of_word h1⟩
def RX0 : String := "TowerPrisoner$Hearsay"
def TX0 : u_T := fun k => match k with
  | 0 => ("TowerPrisoner$Hearsay", "allowed", "[I", true)
  | 1 => ("TowerPrisoner$Hearsay", "here", "[I", false)
  | 2 => ("TowerPrisoner$Hearsay", "later", "[I", false)
  | _ => ("TowerPrisoner$Hearsay", "heard", "I", false)
def tyX0 : Nat → FieldType := fun k => match k with
  | 0 => .array .int
  | 1 => .array .int
  | 2 => .array .int
  | _ => .int
abbrev wsX00 : List Cond := u_ws RX0 TX0 4
theorem nmX0 : ∀ a, a < 4 → ∀ b, b < 4 → a ≠ b → (TX0 a).2.1 ≠ (TX0 b).2.1 := by decide +kernel
theorem tyX0_ok : ∀ k, k < 4 → parseFieldDescriptor (TX0 k).2.2.1 = some (tyX0 k) := by decide +kernel
abbrev cX0_init : ByteArray := prog_2_method_1_code
def yX0_init : MethodName := ⟨RX0, "<init>", "()V"⟩
abbrev cX0_drop : ByteArray := prog_2_method_2_code
def yX0_drop : MethodName := ⟨RX0, "drop", "()V"⟩
abbrev cX0_add : ByteArray := prog_2_method_3_code
def yX0_add : MethodName := ⟨RX0, "add", "(III)Z"⟩
abbrev cX0_errorsBehind : ByteArray := prog_2_method_4_code
def yX0_errorsBehind : MethodName := ⟨RX0, "errorsBehind", "(I)I"⟩
abbrev cX0_widestDay : ByteArray := prog_2_method_5_code
def yX0_widestDay : MethodName := ⟨RX0, "widestDay", "()I"⟩
abbrev cX0_rows : ByteArray := prog_2_method_6_code
def yX0_rows : MethodName := ⟨RX0, "rows", "()I"⟩
abbrev cX0_rowsFrom : ByteArray := prog_2_method_7_code
def yX0_rowsFrom : MethodName := ⟨RX0, "rowsFrom", "(II)I"⟩
abbrev cX0_allowedBehind : ByteArray := prog_2_method_8_code
def yX0_allowedBehind : MethodName := ⟨RX0, "allowedBehind", "(I)I"⟩
abbrev cX0_within : ByteArray := prog_2_method_9_code
def yX0_within : MethodName := ⟨RX0, "within", "(II)I"⟩
abbrev cX0_aDayOn : ByteArray := prog_2_method_10_code
def yX0_aDayOn : MethodName := ⟨RX0, "aDayOn", "(I)I"⟩
abbrev cX0_aDayBack : ByteArray := prog_2_method_11_code
def yX0_aDayBack : MethodName := ⟨RX0, "aDayBack", "(I)I"⟩
abbrev cX0_swapRows : ByteArray := prog_2_method_12_code
def yX0_swapRows : MethodName := ⟨RX0, "swapRows", "()V"⟩
abbrev cX0_laterAt : ByteArray := prog_2_method_13_code
def yX0_laterAt : MethodName := ⟨RX0, "laterAt", "(I)I"⟩
abbrev cX0_put : ByteArray := prog_2_method_14_code
def yX0_put : MethodName := ⟨RX0, "put", "(II)V"⟩
def RX1 : String := "TowerPrisoner$Odds"
def TX1 : u_T := fun k => match k with
  | 0 => ("TowerPrisoner$Odds", "here", "[I", false)
  | 1 => ("TowerPrisoner$Odds", "later", "[I", false)
  | 2 => ("TowerPrisoner$Odds", "upper", "I", false)
  | 3 => ("TowerPrisoner$Odds", "lower", "I", false)
  | _ => ("TowerPrisoner$Odds", "pace", "I", false)
def tyX1 : Nat → FieldType := fun k => match k with
  | 0 => .array .int
  | 1 => .array .int
  | 2 => .int
  | 3 => .int
  | _ => .int
abbrev wsX10 : List Cond := u_ws RX1 TX1 5
theorem nmX1 : ∀ a, a < 5 → ∀ b, b < 5 → a ≠ b → (TX1 a).2.1 ≠ (TX1 b).2.1 := by decide +kernel
theorem tyX1_ok : ∀ k, k < 5 → parseFieldDescriptor (TX1 k).2.2.1 = some (tyX1 k) := by decide +kernel
abbrev cX1_init : ByteArray := prog_3_method_1_code
def yX1_init : MethodName := ⟨RX1, "<init>", "()V"⟩
abbrev cX1_weigh : ByteArray := prog_3_method_2_code
def yX1_weigh : MethodName := ⟨RX1, "weigh", "(LTowerPrisoner$Told;LTowerPrisoner$Story;I)V"⟩
abbrev cX1_fillRow : ByteArray := prog_3_method_3_code
def yX1_fillRow : MethodName := ⟨RX1, "fillRow", "(LTowerPrisoner$Told;II)V"⟩
abbrev cX1_best : ByteArray := prog_3_method_4_code
def yX1_best : MethodName := ⟨RX1, "best", "(LTowerPrisoner$Told;III)I"⟩
abbrev cX1_turned : ByteArray := prog_3_method_5_code
def yX1_turned : MethodName := ⟨RX1, "turned", "(LTowerPrisoner$Told;III)I"⟩
abbrev cX1_reduce : ByteArray := prog_3_method_6_code
def yX1_reduce : MethodName := ⟨RX1, "reduce", "()V"⟩
abbrev cX1_swapRows : ByteArray := prog_3_method_7_code
def yX1_swapRows : MethodName := ⟨RX1, "swapRows", "()V"⟩
abbrev cX1_laterAt : ByteArray := prog_3_method_8_code
def yX1_laterAt : MethodName := ⟨RX1, "laterAt", "(II)I"⟩
abbrev cX1_put : ByteArray := prog_3_method_9_code
def yX1_put : MethodName := ⟨RX1, "put", "(III)V"⟩
def RX2 : String := "TowerPrisoner$Plan"
def TX2 : u_T := fun k => match k with
  | 0 => ("TowerPrisoner$Plan", "here", "[I", false)
  | 1 => ("TowerPrisoner$Plan", "later", "[I", false)
  | 2 => ("TowerPrisoner$Plan", "taking", "Z", false)
  | 3 => ("TowerPrisoner$Plan", "most", "I", false)
  | _ => ("TowerPrisoner$Plan", "pace", "I", false)
def tyX2 : Nat → FieldType := fun k => match k with
  | 0 => .array .int
  | 1 => .array .int
  | 2 => .boolean
  | 3 => .int
  | _ => .int
abbrev wsX20 : List Cond := u_ws RX2 TX2 5
theorem nmX2 : ∀ a, a < 5 → ∀ b, b < 5 → a ≠ b → (TX2 a).2.1 ≠ (TX2 b).2.1 := by decide +kernel
theorem tyX2_ok : ∀ k, k < 5 → parseFieldDescriptor (TX2 k).2.2.1 = some (tyX2 k) := by decide +kernel
abbrev cX2_init : ByteArray := prog_4_method_1_code
def yX2_init : MethodName := ⟨RX2, "<init>", "()V"⟩
abbrev cX2_forCandles : ByteArray := prog_4_method_2_code
def yX2_forCandles : MethodName := ⟨RX2, "forCandles", "(LTowerPrisoner$Told;LTowerPrisoner$Story;)V"⟩
abbrev cX2_forFreedom : ByteArray := prog_4_method_3_code
def yX2_forFreedom : MethodName := ⟨RX2, "forFreedom", "(LTowerPrisoner$Told;LTowerPrisoner$Story;I)V"⟩
abbrev cX2_make : ByteArray := prog_4_method_4_code
def yX2_make : MethodName := ⟨RX2, "make", "(LTowerPrisoner$Told;LTowerPrisoner$Story;I)V"⟩
abbrev cX2_restBehind : ByteArray := prog_4_method_5_code
def yX2_restBehind : MethodName := ⟨RX2, "restBehind", "(LTowerPrisoner$Story;II)I"⟩
abbrev cX2_best : ByteArray := prog_4_method_6_code
def yX2_best : MethodName := ⟨RX2, "best", "(LTowerPrisoner$Told;II)I"⟩
abbrev cX2_gain : ByteArray := prog_4_method_7_code
def yX2_gain : MethodName := ⟨RX2, "gain", "(LTowerPrisoner$Told;III)I"⟩
abbrev cX2_swapRows : ByteArray := prog_4_method_8_code
def yX2_swapRows : MethodName := ⟨RX2, "swapRows", "()V"⟩
abbrev cX2_laterAt : ByteArray := prog_4_method_9_code
def yX2_laterAt : MethodName := ⟨RX2, "laterAt", "(I)I"⟩
abbrev cX2_put : ByteArray := prog_4_method_10_code
def yX2_put : MethodName := ⟨RX2, "put", "(II)V"⟩
def RX3 : String := "TowerPrisoner$Story"
def TX3 : u_T := fun k => match k with
  | 0 => ("TowerPrisoner$Story", "moments", "[I", true)
  | 1 => ("TowerPrisoner$Story", "known", "I", false)
  | _ => ("TowerPrisoner$Story", "kept", "Z", false)
def tyX3 : Nat → FieldType := fun k => match k with
  | 0 => .array .int
  | 1 => .int
  | _ => .boolean
abbrev wsX30 : List Cond := u_ws RX3 TX3 3
theorem nmX3 : ∀ a, a < 3 → ∀ b, b < 3 → a ≠ b → (TX3 a).2.1 ≠ (TX3 b).2.1 := by decide +kernel
theorem tyX3_ok : ∀ k, k < 3 → parseFieldDescriptor (TX3 k).2.2.1 = some (tyX3 k) := by decide +kernel
abbrev cX3_init : ByteArray := prog_5_method_1_code
def yX3_init : MethodName := ⟨RX3, "<init>", "()V"⟩
abbrev cX3_begin : ByteArray := prog_5_method_2_code
def yX3_begin : MethodName := ⟨RX3, "begin", "(I)V"⟩
abbrev cX3_copy : ByteArray := prog_5_method_3_code
def yX3_copy : MethodName := ⟨RX3, "copy", "(LTowerPrisoner$Story;)V"⟩
abbrev cX3_day : ByteArray := prog_5_method_4_code
def yX3_day : MethodName := ⟨RX3, "day", "()I"⟩
abbrev cX3_rest : ByteArray := prog_5_method_5_code
def yX3_rest : MethodName := ⟨RX3, "rest", "()I"⟩
abbrev cX3_error : ByteArray := prog_5_method_6_code
def yX3_error : MethodName := ⟨RX3, "error", "()I"⟩
abbrev cX3_candles : ByteArray := prog_5_method_7_code
def yX3_candles : MethodName := ⟨RX3, "candles", "()I"⟩
abbrev cX3_found : ByteArray := prog_5_method_8_code
def yX3_found : MethodName := ⟨RX3, "found", "()I"⟩
abbrev cX3_harmOf : ByteArray := prog_5_method_9_code
def yX3_harmOf : MethodName := ⟨RX3, "harmOf", "(I)I"⟩
abbrev cX3_harmOfAll : ByteArray := prog_5_method_10_code
def yX3_harmOfAll : MethodName := ⟨RX3, "harmOfAll", "()I"⟩
abbrev cX3_isOver : ByteArray := prog_5_method_11_code
def yX3_isOver : MethodName := ⟨RX3, "isOver", "(LTowerPrisoner$Told;)Z"⟩
abbrev cX3_isFree : ByteArray := prog_5_method_12_code
def yX3_isFree : MethodName := ⟨RX3, "isFree", "()Z"⟩
abbrev cX3_isEnded : ByteArray := prog_5_method_13_code
def yX3_isEnded : MethodName := ⟨RX3, "isEnded", "(LTowerPrisoner$Told;)Z"⟩
abbrev cX3_daysLeft : ByteArray := prog_5_method_14_code
def yX3_daysLeft : MethodName := ⟨RX3, "daysLeft", "(LTowerPrisoner$Told;)I"⟩
abbrev cX3_turn : ByteArray := prog_5_method_15_code
def yX3_turn : MethodName := ⟨RX3, "turn", "(LTowerPrisoner$Told;II)I"⟩
abbrev cX3_watch : ByteArray := prog_5_method_16_code
def yX3_watch : MethodName := ⟨RX3, "watch", "(LTowerPrisoner$Told;)I"⟩
abbrev cX3_pay : ByteArray := prog_5_method_17_code
def yX3_pay : MethodName := ⟨RX3, "pay", "(II)I"⟩
abbrev cX3_correct : ByteArray := prog_5_method_18_code
def yX3_correct : MethodName := ⟨RX3, "correct", "(I)I"⟩
abbrev cX3_recall : ByteArray := prog_5_method_19_code
def yX3_recall : MethodName := ⟨RX3, "recall", "()Z"⟩
abbrev cX3_soonestFree : ByteArray := prog_5_method_20_code
def yX3_soonestFree : MethodName := ⟨RX3, "soonestFree", "(LTowerPrisoner$Told;)I"⟩
abbrev cX3_caughtBehind : ByteArray := prog_5_method_21_code
def yX3_caughtBehind : MethodName := ⟨RX3, "caughtBehind", "(LTowerPrisoner$Told;I)I"⟩
abbrev cX3_check : ByteArray := prog_5_method_22_code
def yX3_check : MethodName := ⟨RX3, "check", "(LTowerPrisoner$Told;)I"⟩
abbrev cX3_remember : ByteArray := prog_5_method_23_code
def yX3_remember : MethodName := ⟨RX3, "remember", "()V"⟩
abbrev cX3_setHarm : ByteArray := prog_5_method_24_code
def yX3_setHarm : MethodName := ⟨RX3, "setHarm", "(II)V"⟩
abbrev cX3_draw : ByteArray := prog_5_method_25_code
def yX3_draw : MethodName := ⟨RX3, "draw", "(II)I"⟩
def RX4 : String := "TowerPrisoner$Text"
def TX4 : u_T := fun k => match k with
  | 0 => ("TowerPrisoner$Text", "bytes", "[I", true)
  | 1 => ("TowerPrisoner$Text", "length", "I", false)
  | 2 => ("TowerPrisoner$Text", "place", "I", false)
  | 3 => ("TowerPrisoner$Text", "start", "I", false)
  | 4 => ("TowerPrisoner$Text", "kind", "I", false)
  | 5 => ("TowerPrisoner$Text", "value", "I", false)
  | 6 => ("TowerPrisoner$Text", "fault", "I", false)
  | 7 => ("TowerPrisoner$Text", "restTold", "Z", false)
  | 8 => ("TowerPrisoner$Text", "limitTold", "Z", false)
  | _ => ("TowerPrisoner$Text", "addedTold", "Z", false)
def tyX4 : Nat → FieldType := fun k => match k with
  | 0 => .array .int
  | 1 => .int
  | 2 => .int
  | 3 => .int
  | 4 => .int
  | 5 => .int
  | 6 => .int
  | 7 => .boolean
  | 8 => .boolean
  | _ => .boolean
abbrev wsX40 : List Cond := u_ws RX4 TX4 10
theorem nmX4 : ∀ a, a < 10 → ∀ b, b < 10 → a ≠ b → (TX4 a).2.1 ≠ (TX4 b).2.1 := by decide +kernel
theorem tyX4_ok : ∀ k, k < 10 → parseFieldDescriptor (TX4 k).2.2.1 = some (tyX4 k) := by decide +kernel
abbrev cX4_init : ByteArray := prog_6_method_1_code
def yX4_init : MethodName := ⟨RX4, "<init>", "()V"⟩
abbrev cX4_add : ByteArray := prog_6_method_2_code
def yX4_add : MethodName := ⟨RX4, "add", "(I)Z"⟩
abbrev cX4_readInto : ByteArray := prog_6_method_3_code
def yX4_readInto : MethodName := ⟨RX4, "readInto", "(LTowerPrisoner$Told;)I"⟩
abbrev cX4_begin : ByteArray := prog_6_method_4_code
def yX4_begin : MethodName := ⟨RX4, "begin", "(LTowerPrisoner$Told;)V"⟩
abbrev cX4_readDay : ByteArray := prog_6_method_5_code
def yX4_readDay : MethodName := ⟨RX4, "readDay", "(LTowerPrisoner$Told;)V"⟩
abbrev cX4_readBribe : ByteArray := prog_6_method_6_code
def yX4_readBribe : MethodName := ⟨RX4, "readBribe", "(LTowerPrisoner$Told;)V"⟩
abbrev cX4_readTrade : ByteArray := prog_6_method_7_code
def yX4_readTrade : MethodName := ⟨RX4, "readTrade", "(LTowerPrisoner$Told;)V"⟩
abbrev cX4_readRest : ByteArray := prog_6_method_8_code
def yX4_readRest : MethodName := ⟨RX4, "readRest", "(LTowerPrisoner$Told;)V"⟩
abbrev cX4_readLimit : ByteArray := prog_6_method_9_code
def yX4_readLimit : MethodName := ⟨RX4, "readLimit", "(LTowerPrisoner$Told;)V"⟩
abbrev cX4_readAdded : ByteArray := prog_6_method_10_code
def yX4_readAdded : MethodName := ⟨RX4, "readAdded", "(LTowerPrisoner$Told;)V"⟩
abbrev cX4_refuseIf : ByteArray := prog_6_method_11_code
def yX4_refuseIf : MethodName := ⟨RX4, "refuseIf", "(Z)V"⟩
abbrev cX4_number : ByteArray := prog_6_method_12_code
def yX4_number : MethodName := ⟨RX4, "number", "(II)I"⟩
abbrev cX4_stops : ByteArray := prog_6_method_13_code
def yX4_stops : MethodName := ⟨RX4, "stops", "()Z"⟩
abbrev cX4_nextToken : ByteArray := prog_6_method_14_code
def yX4_nextToken : MethodName := ⟨RX4, "nextToken", "()V"⟩
abbrev cX4_takeLetters : ByteArray := prog_6_method_15_code
def yX4_takeLetters : MethodName := ⟨RX4, "takeLetters", "(I)V"⟩
abbrev cX4_takeNumber : ByteArray := prog_6_method_16_code
def yX4_takeNumber : MethodName := ⟨RX4, "takeNumber", "(I)V"⟩
abbrev cX4_byteAt : ByteArray := prog_6_method_17_code
def yX4_byteAt : MethodName := ⟨RX4, "byteAt", "(I)I"⟩
abbrev cX4_isLetter : ByteArray := prog_6_method_18_code
def yX4_isLetter : MethodName := ⟨RX4, "isLetter", "(I)Z"⟩
abbrev cX4_isDigit : ByteArray := prog_6_method_19_code
def yX4_isDigit : MethodName := ⟨RX4, "isDigit", "(I)Z"⟩
def RX5 : String := "TowerPrisoner$Told"
def TX5 : u_T := fun k => match k with
  | 0 => ("TowerPrisoner$Told", "suns", "[I", true)
  | 1 => ("TowerPrisoner$Told", "bribes", "[I", true)
  | 2 => ("TowerPrisoner$Told", "trades", "[I", true)
  | 3 => ("TowerPrisoner$Told", "days", "I", false)
  | 4 => ("TowerPrisoner$Told", "bribesTold", "I", false)
  | 5 => ("TowerPrisoner$Told", "tradesTold", "I", false)
  | 6 => ("TowerPrisoner$Told", "rest", "I", false)
  | 7 => ("TowerPrisoner$Told", "limit", "I", false)
  | _ => ("TowerPrisoner$Told", "added", "I", false)
def tyX5 : Nat → FieldType := fun k => match k with
  | 0 => .array .int
  | 1 => .array .int
  | 2 => .array .int
  | 3 => .int
  | 4 => .int
  | 5 => .int
  | 6 => .int
  | 7 => .int
  | _ => .int
abbrev wsX50 : List Cond := u_ws RX5 TX5 9
theorem nmX5 : ∀ a, a < 9 → ∀ b, b < 9 → a ≠ b → (TX5 a).2.1 ≠ (TX5 b).2.1 := by decide +kernel
theorem tyX5_ok : ∀ k, k < 9 → parseFieldDescriptor (TX5 k).2.2.1 = some (tyX5 k) := by decide +kernel
abbrev cX5_init : ByteArray := prog_7_method_1_code
def yX5_init : MethodName := ⟨RX5, "<init>", "()V"⟩
abbrev cX5_wipe : ByteArray := prog_7_method_2_code
def yX5_wipe : MethodName := ⟨RX5, "wipe", "()V"⟩
abbrev cX5_hasTrade : ByteArray := prog_7_method_3_code
def yX5_hasTrade : MethodName := ⟨RX5, "hasTrade", "(I)Z"⟩
abbrev cX5_sunOf : ByteArray := prog_7_method_4_code
def yX5_sunOf : MethodName := ⟨RX5, "sunOf", "(I)I"⟩
abbrev cX5_ofBribe : ByteArray := prog_7_method_5_code
def yX5_ofBribe : MethodName := ⟨RX5, "ofBribe", "(II)I"⟩
abbrev cX5_ofTrade : ByteArray := prog_7_method_6_code
def yX5_ofTrade : MethodName := ⟨RX5, "ofTrade", "(II)I"⟩
abbrev cX5_addDay : ByteArray := prog_7_method_7_code
def yX5_addDay : MethodName := ⟨RX5, "addDay", "(I)V"⟩
abbrev cX5_addBribe : ByteArray := prog_7_method_8_code
def yX5_addBribe : MethodName := ⟨RX5, "addBribe", "(IIII)V"⟩
abbrev cX5_addTrade : ByteArray := prog_7_method_9_code
def yX5_addTrade : MethodName := ⟨RX5, "addTrade", "(II)V"⟩
abbrev cX5_candlesFor : ByteArray := prog_7_method_10_code
def yX5_candlesFor : MethodName := ⟨RX5, "candlesFor", "(II)I"⟩
abbrev cX5_harmTo : ByteArray := prog_7_method_11_code
def yX5_harmTo : MethodName := ⟨RX5, "harmTo", "(II)I"⟩
abbrev cX5_harmToAll : ByteArray := prog_7_method_12_code
def yX5_harmToAll : MethodName := ⟨RX5, "harmToAll", "(I)I"⟩
def RX6 : String := "TowerPrisoner"
def TX6 : u_T := fun k => match k with
  | 0 => ("TowerPrisoner", "text", "LTowerPrisoner$Text;", true)
  | 1 => ("TowerPrisoner", "told", "LTowerPrisoner$Told;", false)
  | 2 => ("TowerPrisoner", "spare", "LTowerPrisoner$Told;", false)
  | 3 => ("TowerPrisoner", "story", "LTowerPrisoner$Story;", true)
  | 4 => ("TowerPrisoner", "firstImage", "LTowerPrisoner$Story;", true)
  | 5 => ("TowerPrisoner", "secondImage", "LTowerPrisoner$Story;", true)
  | 6 => ("TowerPrisoner", "plan", "LTowerPrisoner$Plan;", true)
  | 7 => ("TowerPrisoner", "odds", "LTowerPrisoner$Odds;", true)
  | 8 => ("TowerPrisoner", "hearsay", "LTowerPrisoner$Hearsay;", true)
  | _ => ("TowerPrisoner", "asked", "J", false)
def tyX6 : Nat → FieldType := fun k => match k with
  | 0 => .object "TowerPrisoner$Text"
  | 1 => .object "TowerPrisoner$Told"
  | 2 => .object "TowerPrisoner$Told"
  | 3 => .object "TowerPrisoner$Story"
  | 4 => .object "TowerPrisoner$Story"
  | 5 => .object "TowerPrisoner$Story"
  | 6 => .object "TowerPrisoner$Plan"
  | 7 => .object "TowerPrisoner$Odds"
  | 8 => .object "TowerPrisoner$Hearsay"
  | _ => .long
abbrev wsX60 : List Cond := u_ws RX6 TX6 10
theorem nmX6 : ∀ a, a < 10 → ∀ b, b < 10 → a ≠ b → (TX6 a).2.1 ≠ (TX6 b).2.1 := by decide +kernel
theorem tyX6_ok : ∀ k, k < 10 → parseFieldDescriptor (TX6 k).2.2.1 = some (tyX6 k) := by decide +kernel
abbrev cX6_init : ByteArray := prog_1_method_1_code
def yX6_init : MethodName := ⟨RX6, "<init>", "()V"⟩
abbrev cX6_type : ByteArray := prog_1_method_2_code
def yX6_type : MethodName := ⟨RX6, "type", "(I)I"⟩
abbrev cX6_clear : ByteArray := prog_1_method_3_code
def yX6_clear : MethodName := ⟨RX6, "clear", "()I"⟩
abbrev cX6_sentence : ByteArray := prog_1_method_4_code
def yX6_sentence : MethodName := ⟨RX6, "sentence", "()I"⟩
abbrev cX6_sun : ByteArray := prog_1_method_5_code
def yX6_sun : MethodName := ⟨RX6, "sun", "(I)I"⟩
abbrev cX6_bribe : ByteArray := prog_1_method_6_code
def yX6_bribe : MethodName := ⟨RX6, "bribe", "(II)I"⟩
abbrev cX6_trade : ByteArray := prog_1_method_7_code
def yX6_trade : MethodName := ⟨RX6, "trade", "(II)I"⟩
abbrev cX6_winds : ByteArray := prog_1_method_8_code
def yX6_winds : MethodName := ⟨RX6, "winds", "(II)I"⟩
abbrev cX6_watches : ByteArray := prog_1_method_9_code
def yX6_watches : MethodName := ⟨RX6, "watches", "()I"⟩
abbrev cX6_pays : ByteArray := prog_1_method_10_code
def yX6_pays : MethodName := ⟨RX6, "pays", "(II)I"⟩
abbrev cX6_corrects : ByteArray := prog_1_method_11_code
def yX6_corrects : MethodName := ⟨RX6, "corrects", "(I)I"⟩
abbrev cX6_undo : ByteArray := prog_1_method_12_code
def yX6_undo : MethodName := ⟨RX6, "undo", "()I"⟩
abbrev cX6_now : ByteArray := prog_1_method_13_code
def yX6_now : MethodName := ⟨RX6, "now", "(I)I"⟩
abbrev cX6_soonest : ByteArray := prog_1_method_14_code
def yX6_soonest : MethodName := ⟨RX6, "soonest", "()I"⟩
abbrev cX6_chance : ByteArray := prog_1_method_15_code
def yX6_chance : MethodName := ⟨RX6, "chance", "(II)I"⟩
abbrev cX6_safe : ByteArray := prog_1_method_16_code
def yX6_safe : MethodName := ⟨RX6, "safe", "(I)I"⟩
abbrev cX6_least : ByteArray := prog_1_method_17_code
def yX6_least : MethodName := ⟨RX6, "least", "(II)I"⟩
abbrev cX6_catches : ByteArray := prog_1_method_18_code
def yX6_catches : MethodName := ⟨RX6, "catches", "(I)I"⟩
abbrev cX6_hears : ByteArray := prog_1_method_19_code
def yX6_hears : MethodName := ⟨RX6, "hears", "(III)I"⟩
abbrev cX6_forget : ByteArray := prog_1_method_20_code
def yX6_forget : MethodName := ⟨RX6, "forget", "()I"⟩
abbrev cX6_could : ByteArray := prog_1_method_21_code
def yX6_could : MethodName := ⟨RX6, "could", "(I)I"⟩
abbrev cX6_ways : ByteArray := prog_1_method_22_code
def yX6_ways : MethodName := ⟨RX6, "ways", "()I"⟩
abbrev cX6_ask : ByteArray := prog_1_method_23_code
def yX6_ask : MethodName := ⟨RX6, "ask", "()I"⟩
abbrev cX6_mark : ByteArray := prog_1_method_24_code
def yX6_mark : MethodName := ⟨RX6, "mark", "(II)I"⟩
abbrev cX6_keep : ByteArray := prog_1_method_25_code
def yX6_keep : MethodName := ⟨RX6, "keep", "(I)I"⟩
abbrev cX6_back : ByteArray := prog_1_method_26_code
def yX6_back : MethodName := ⟨RX6, "back", "(I)I"⟩
abbrev cX6_count : ByteArray := prog_1_method_27_code
def yX6_count : MethodName := ⟨RX6, "count", "(I)I"⟩
abbrev cX6_trace : ByteArray := prog_1_method_28_code
def yX6_trace : MethodName := ⟨RX6, "trace", "()J"⟩
abbrev cX6_asTrade : ByteArray := prog_1_method_29_code
def yX6_asTrade : MethodName := ⟨RX6, "asTrade", "(I)I"⟩
abbrev cX6_asBaker : ByteArray := prog_1_method_30_code
def yX6_asBaker : MethodName := ⟨RX6, "asBaker", "(I)I"⟩
abbrev cX6_asCourt : ByteArray := prog_1_method_31_code
def yX6_asCourt : MethodName := ⟨RX6, "asCourt", "(I)I"⟩
abbrev cX6_asSweetheart : ByteArray := prog_1_method_32_code
def yX6_asSweetheart : MethodName := ⟨RX6, "asSweetheart", "(I)I"⟩
abbrev cX6_asWife : ByteArray := prog_1_method_33_code
def yX6_asWife : MethodName := ⟨RX6, "asWife", "(I)I"⟩
abbrev cX6_asHen : ByteArray := prog_1_method_34_code
def yX6_asHen : MethodName := ⟨RX6, "asHen", "(I)I"⟩
abbrev cX6_isPace : ByteArray := prog_1_method_35_code
def yX6_isPace : MethodName := ⟨RX6, "isPace", "(I)Z"⟩
abbrev cX6_isBeyond : ByteArray := prog_1_method_36_code
def yX6_isBeyond : MethodName := ⟨RX6, "isBeyond", "(I)Z"⟩
def RX7 : String := "TowerPrisonerModel"
def TX7 : u_T := fun k => match k with
  | 0 => ("TowerPrisonerModel", "days", "I", false)
  | 1 => ("TowerPrisonerModel", "suns", "[I", true)
  | 2 => ("TowerPrisonerModel", "bribes", "I", false)
  | 3 => ("TowerPrisonerModel", "bribe", "[I", true)
  | 4 => ("TowerPrisonerModel", "trades", "I", false)
  | 5 => ("TowerPrisonerModel", "trade", "[I", true)
  | 6 => ("TowerPrisonerModel", "limit", "I", false)
  | 7 => ("TowerPrisonerModel", "added", "I", false)
  | 8 => ("TowerPrisonerModel", "st", "[I", true)
  | 9 => ("TowerPrisonerModel", "images", "[I", true)
  | 10 => ("TowerPrisonerModel", "isKept", "[Z", true)
  | 11 => ("TowerPrisonerModel", "heardMany", "I", false)
  | 12 => ("TowerPrisonerModel", "heard", "[I", true)
  | 13 => ("TowerPrisonerModel", "trace", "J", false)
  | 14 => ("TowerPrisonerModel", "text", "[I", true)
  | 15 => ("TowerPrisonerModel", "texted", "I", false)
  | 16 => ("TowerPrisonerModel", "cursor", "I", false)
  | 17 => ("TowerPrisonerModel", "start", "I", false)
  | 18 => ("TowerPrisonerModel", "token", "I", false)
  | 19 => ("TowerPrisonerModel", "number", "I", false)
  | 20 => ("TowerPrisonerModel", "isWrong", "Z", false)
  | 21 => ("TowerPrisonerModel", "items", "I", false)
  | 22 => ("TowerPrisonerModel", "saidDays", "I", false)
  | 23 => ("TowerPrisonerModel", "saidSun", "[I", true)
  | 24 => ("TowerPrisonerModel", "saidBribes", "I", false)
  | 25 => ("TowerPrisonerModel", "saidBribe", "[I", true)
  | 26 => ("TowerPrisonerModel", "saidTrades", "I", false)
  | 27 => ("TowerPrisonerModel", "saidTrade", "[I", true)
  | 28 => ("TowerPrisonerModel", "saidRest", "I", false)
  | 29 => ("TowerPrisonerModel", "saidLimit", "I", false)
  | 30 => ("TowerPrisonerModel", "saidAdded", "I", false)
  | 31 => ("TowerPrisonerModel", "worth", "[I", true)
  | 32 => ("TowerPrisonerModel", "then", "[I", true)
  | 33 => ("TowerPrisonerModel", "come", "[I", true)
  | _ => ("TowerPrisonerModel", "go", "[I", true)
def tyX7 : Nat → FieldType := fun k => match k with
  | 0 => .int
  | 1 => .array .int
  | 2 => .int
  | 3 => .array .int
  | 4 => .int
  | 5 => .array .int
  | 6 => .int
  | 7 => .int
  | 8 => .array .int
  | 9 => .array .int
  | 10 => .array .boolean
  | 11 => .int
  | 12 => .array .int
  | 13 => .long
  | 14 => .array .int
  | 15 => .int
  | 16 => .int
  | 17 => .int
  | 18 => .int
  | 19 => .int
  | 20 => .boolean
  | 21 => .int
  | 22 => .int
  | 23 => .array .int
  | 24 => .int
  | 25 => .array .int
  | 26 => .int
  | 27 => .array .int
  | 28 => .int
  | 29 => .int
  | 30 => .int
  | 31 => .array .int
  | 32 => .array .int
  | 33 => .array .int
  | _ => .array .int
abbrev wsX70 : List Cond := u_ws RX7 TX7 35
theorem nmX7 : ∀ a, a < 35 → ∀ b, b < 35 → a ≠ b → (TX7 a).2.1 ≠ (TX7 b).2.1 := by decide +kernel
theorem tyX7_ok : ∀ k, k < 35 → parseFieldDescriptor (TX7 k).2.2.1 = some (tyX7 k) := by decide +kernel
abbrev cX7_init : ByteArray := prog_9_method_1_code
def yX7_init : MethodName := ⟨RX7, "<init>", "()V"⟩
abbrev cX7_in : ByteArray := prog_9_method_3_code
def yX7_in : MethodName := ⟨RX7, "in", "(III)Z"⟩
abbrev cX7_size : ByteArray := prog_9_method_5_code
def yX7_size : MethodName := ⟨RX7, "size", "(I)I"⟩
abbrev cX7_isTrade : ByteArray := prog_9_method_6_code
def yX7_isTrade : MethodName := ⟨RX7, "isTrade", "(I)Z"⟩
abbrev cX7_isPace : ByteArray := prog_9_method_7_code
def yX7_isPace : MethodName := ⟨RX7, "isPace", "(I)Z"⟩
abbrev cX7_type : ByteArray := prog_9_method_8_code
def yX7_type : MethodName := ⟨RX7, "type", "(I)I"⟩
abbrev cX7_clear : ByteArray := prog_9_method_9_code
def yX7_clear : MethodName := ⟨RX7, "clear", "()I"⟩
abbrev cX7_letterAt : ByteArray := prog_9_method_10_code
def yX7_letterAt : MethodName := ⟨RX7, "letterAt", "(I)I"⟩
abbrev cX7_isFigure : ByteArray := prog_9_method_11_code
def yX7_isFigure : MethodName := ⟨RX7, "isFigure", "(I)Z"⟩
abbrev cX7_isLetter : ByteArray := prog_9_method_12_code
def yX7_isLetter : MethodName := ⟨RX7, "isLetter", "(I)Z"⟩
abbrev cX7_next : ByteArray := prog_9_method_13_code
def yX7_next : MethodName := ⟨RX7, "next", "()V"⟩
abbrev cX7_takesNumber : ByteArray := prog_9_method_14_code
def yX7_takesNumber : MethodName := ⟨RX7, "takesNumber", "(II)I"⟩
abbrev cX7_readBribe : ByteArray := prog_9_method_15_code
def yX7_readBribe : MethodName := ⟨RX7, "readBribe", "()V"⟩
abbrev cX7_mayBegin : ByteArray := prog_9_method_16_code
def yX7_mayBegin : MethodName := ⟨RX7, "mayBegin", "(I)Z"⟩
abbrev cX7_readBody : ByteArray := prog_9_method_17_code
def yX7_readBody : MethodName := ⟨RX7, "readBody", "(I)V"⟩
abbrev cX7_readItem : ByteArray := prog_9_method_18_code
def yX7_readItem : MethodName := ⟨RX7, "readItem", "()V"⟩
abbrev cX7_sentence : ByteArray := prog_9_method_19_code
def yX7_sentence : MethodName := ⟨RX7, "sentence", "()I"⟩
abbrev cX7_settles : ByteArray := prog_9_method_20_code
def yX7_settles : MethodName := ⟨RX7, "settles", "()V"⟩
abbrev cX7_sun : ByteArray := prog_9_method_21_code
def yX7_sun : MethodName := ⟨RX7, "sun", "(I)I"⟩
abbrev cX7_bribe : ByteArray := prog_9_method_22_code
def yX7_bribe : MethodName := ⟨RX7, "bribe", "(II)I"⟩
abbrev cX7_trade : ByteArray := prog_9_method_23_code
def yX7_trade : MethodName := ⟨RX7, "trade", "(II)I"⟩
abbrev cX7_isOver : ByteArray := prog_9_method_24_code
def yX7_isOver : MethodName := ⟨RX7, "isOver", "()Z"⟩
abbrev cX7_isFree : ByteArray := prog_9_method_25_code
def yX7_isFree : MethodName := ⟨RX7, "isFree", "()Z"⟩
abbrev cX7_isDone : ByteArray := prog_9_method_26_code
def yX7_isDone : MethodName := ⟨RX7, "isDone", "()Z"⟩
abbrev cX7_candlesBy : ByteArray := prog_9_method_27_code
def yX7_candlesBy : MethodName := ⟨RX7, "candlesBy", "(II)I"⟩
abbrev cX7_harmOf : ByteArray := prog_9_method_28_code
def yX7_harmOf : MethodName := ⟨RX7, "harmOf", "(II)I"⟩
abbrev cX7_harmBy : ByteArray := prog_9_method_29_code
def yX7_harmBy : MethodName := ⟨RX7, "harmBy", "(I)I"⟩
abbrev cX7_lesser : ByteArray := prog_9_method_30_code
def yX7_lesser : MethodName := ⟨RX7, "lesser", "(II)I"⟩
abbrev cX7_restBehind : ByteArray := prog_9_method_31_code
def yX7_restBehind : MethodName := ⟨RX7, "restBehind", "(II)I"⟩
abbrev cX7_remembers : ByteArray := prog_9_method_32_code
def yX7_remembers : MethodName := ⟨RX7, "remembers", "()V"⟩
abbrev cX7_checks : ByteArray := prog_9_method_33_code
def yX7_checks : MethodName := ⟨RX7, "checks", "()I"⟩
abbrev cX7_winds : ByteArray := prog_9_method_34_code
def yX7_winds : MethodName := ⟨RX7, "winds", "(II)I"⟩
abbrev cX7_watches : ByteArray := prog_9_method_35_code
def yX7_watches : MethodName := ⟨RX7, "watches", "()I"⟩
abbrev cX7_pays : ByteArray := prog_9_method_36_code
def yX7_pays : MethodName := ⟨RX7, "pays", "(II)I"⟩
abbrev cX7_corrects : ByteArray := prog_9_method_37_code
def yX7_corrects : MethodName := ⟨RX7, "corrects", "(I)I"⟩
abbrev cX7_undo : ByteArray := prog_9_method_38_code
def yX7_undo : MethodName := ⟨RX7, "undo", "()I"⟩
abbrev cX7_now : ByteArray := prog_9_method_39_code
def yX7_now : MethodName := ⟨RX7, "now", "(I)I"⟩
abbrev cX7_at : ByteArray := prog_9_method_40_code
def yX7_at : MethodName := ⟨RX7, "at", "(II)I"⟩
abbrev cX7_worthBy : ByteArray := prog_9_method_41_code
def yX7_worthBy : MethodName := ⟨RX7, "worthBy", "(IIIII)I"⟩
abbrev cX7_mayTurn : ByteArray := prog_9_method_42_code
def yX7_mayTurn : MethodName := ⟨RX7, "mayTurn", "(II)Z"⟩
abbrev cX7_bestOf : ByteArray := prog_9_method_43_code
def yX7_bestOf : MethodName := ⟨RX7, "bestOf", "(IIII)I"⟩
abbrev cX7_findWorths : ByteArray := prog_9_method_44_code
def yX7_findWorths : MethodName := ⟨RX7, "findWorths", "(II)V"⟩
abbrev cX7_paceBy : ByteArray := prog_9_method_45_code
def yX7_paceBy : MethodName := ⟨RX7, "paceBy", "(I)I"⟩
abbrev cX7_daysOf : ByteArray := prog_9_method_46_code
def yX7_daysOf : MethodName := ⟨RX7, "daysOf", "(I)I"⟩
abbrev cX7_soonest : ByteArray := prog_9_method_47_code
def yX7_soonest : MethodName := ⟨RX7, "soonest", "()I"⟩
abbrev cX7_lowest : ByteArray := prog_9_method_48_code
def yX7_lowest : MethodName := ⟨RX7, "lowest", "(III)I"⟩
abbrev cX7_chance : ByteArray := prog_9_method_49_code
def yX7_chance : MethodName := ⟨RX7, "chance", "(II)I"⟩
abbrev cX7_safe : ByteArray := prog_9_method_50_code
def yX7_safe : MethodName := ⟨RX7, "safe", "(I)I"⟩
abbrev cX7_least : ByteArray := prog_9_method_51_code
def yX7_least : MethodName := ⟨RX7, "least", "(II)I"⟩
abbrev cX7_catches : ByteArray := prog_9_method_52_code
def yX7_catches : MethodName := ⟨RX7, "catches", "(I)I"⟩
abbrev cX7_hears : ByteArray := prog_9_method_53_code
def yX7_hears : MethodName := ⟨RX7, "hears", "(III)I"⟩
abbrev cX7_forget : ByteArray := prog_9_method_54_code
def yX7_forget : MethodName := ⟨RX7, "forget", "()I"⟩
abbrev cX7_isHeard : ByteArray := prog_9_method_55_code
def yX7_isHeard : MethodName := ⟨RX7, "isHeard", "(II)Z"⟩
abbrev cX7_comeTo : ByteArray := prog_9_method_56_code
def yX7_comeTo : MethodName := ⟨RX7, "comeTo", "(II)I"⟩
abbrev cX7_goFrom : ByteArray := prog_9_method_57_code
def yX7_goFrom : MethodName := ⟨RX7, "goFrom", "(II)I"⟩
abbrev cX7_findHeard : ByteArray := prog_9_method_58_code
def yX7_findHeard : MethodName := ⟨RX7, "findHeard", "(Z)V"⟩
abbrev cX7_couldOf : ByteArray := prog_9_method_59_code
def yX7_couldOf : MethodName := ⟨RX7, "couldOf", "(I)I"⟩
abbrev cX7_could : ByteArray := prog_9_method_60_code
def yX7_could : MethodName := ⟨RX7, "could", "(I)I"⟩
abbrev cX7_ways : ByteArray := prog_9_method_61_code
def yX7_ways : MethodName := ⟨RX7, "ways", "()I"⟩
abbrev cX7_ask : ByteArray := prog_9_method_62_code
def yX7_ask : MethodName := ⟨RX7, "ask", "()I"⟩
abbrev cX7_mark : ByteArray := prog_9_method_63_code
def yX7_mark : MethodName := ⟨RX7, "mark", "(II)I"⟩
abbrev cX7_keep : ByteArray := prog_9_method_64_code
def yX7_keep : MethodName := ⟨RX7, "keep", "(I)I"⟩
abbrev cX7_back : ByteArray := prog_9_method_65_code
def yX7_back : MethodName := ⟨RX7, "back", "(I)I"⟩
abbrev cX7_count : ByteArray := prog_9_method_66_code
def yX7_count : MethodName := ⟨RX7, "count", "(I)I"⟩
abbrev cX7_trace : ByteArray := prog_9_method_67_code
def yX7_trace : MethodName := ⟨RX7, "trace", "()J"⟩
def RJ6 : String := "java/lang/Integer"
abbrev cJ6_bitCount_0f7a4 : ByteArray := prog_10_method_49_code
def yJ6_bitCount_0f7a4 : MethodName := ⟨RJ6, "bitCount", "(I)I"⟩
def RJ9 : String := "java/lang/Math"
abbrev cJ9_abs_0f7a4 : ByteArray := prog_11_method_59_code
def yJ9_abs_0f7a4 : MethodName := ⟨RJ9, "abs", "(I)I"⟩
abbrev cJ9_max_7cf53 : ByteArray := prog_11_method_65_code
def yJ9_max_7cf53 : MethodName := ⟨RJ9, "max", "(II)I"⟩
abbrev cJ9_min_7cf53 : ByteArray := prog_11_method_69_code
def yJ9_min_7cf53 : MethodName := ⟨RJ9, "min", "(II)I"⟩
def RJ10 : String := "java/lang/System"
def RL : String := "TowerPrisonerLaw"
end
section
/-! THE SMALL MACHINE: whole numbers instead of words, a heap as a list of cells, one method's instructions run till a jump, a call, a return. -/
abbrev mV : Type := Int ⊕ (Int ⊕ Option Nat)
abbrev mC : Type := (Nat × List mV) ⊕ (Bool × Nat × (Nat → Int))
abbrev mH : Type := List mC
abbrev mL : Type := List (Option mV)
abbrev mI : Type := Instr × Nat × Nat
def iN (z : Int) : Int32 := Int32.ofInt z
def jN (z : Int) : Int64 := Int64.ofInt z
abbrev inI (z : Int) : Prop := -2147483648 ≤ z ∧ z ≤ 2147483647
abbrev inJ (z : Int) : Prop := 0 ≤ z ∧ z < 9223372036854775808
abbrev mi (z : Int) : mV := .inl z
abbrev ml (z : Int) : mV := .inr (.inl z)
abbrev mr (k : Nat) : mV := .inr (.inr (some k))
def cV (ad : Nat → Nat) : mV → Value
  | .inl z => .int (iN z)
  | .inr (.inl z) => .long (jN z)
  | .inr (.inr none) => .null
  | .inr (.inr (some k)) => .ref (ad k)
def cC (ad : Nat → Nat) (cI cZ : ClassId) : mC → va_E
  | .inl (ci, fs) => .inr (ci, fs.map (cV ad))
  | .inr (b, n, f) => .inl (cond b cZ cI, n, .inl (fun j => iN (f j)))
def cW (ad : Nat → Nat) (cI cZ : ClassId) (h : mH) : va_W := h.mapIdx (fun k c => (ad k, cC ad cI cZ c))
def mup (f : Nat → Int) (k : Nat) (v : Int) : Nat → Int := fun j => if j = k then v else f j
/-! numbers -/
theorem iN_add (a b : Int) : iN a + iN b = iN (a + b) := (Int32.ofInt_add a b).symm
theorem iN_sub (a b : Int) : iN a - iN b = iN (a - b) := (Int32.ofInt_sub a b).symm
theorem iN_mul (a b : Int) : iN a * iN b = iN (a * b) := (Int32.ofInt_mul a b).symm
theorem iN_neg (a : Int) : -iN a = iN (-a) := Int32.neg_ofInt
theorem iN_t {a : Int} (h : inI a) : (iN a).toInt = a := Int32.toInt_ofInt_of_le h.1 (by have := h.2; omega)
theorem iN_x (x : Int32) : iN x.toInt = x := Int32.ofInt_toInt x
theorem iN_n (n : Nat) : iN (n : Int) = nI n := Int32.ofInt_eq_ofNat
theorem iN_of {a : Int} (h : 0 ≤ a) : iN a = nI a.toNat := by
  have e : ((a.toNat : Nat) : Int) = a := Int.toNat_of_nonneg h
  rw [← iN_n, e]
theorem iN_cl {a : Int} (h : inI a) : (iN a).toNatClampNeg = a.toNat := by
  rw [← Int32.toNat_toInt, iN_t h]
theorem iN_lt {a b : Int} (ha : inI a) (hb : inI b) : iN a < iN b ↔ a < b := by
  rw [Int32.lt_iff_toInt_lt, iN_t ha, iN_t hb]
theorem iN_le {a b : Int} (ha : inI a) (hb : inI b) : iN a ≤ iN b ↔ a ≤ b := by
  rw [Int32.le_iff_toInt_le, iN_t ha, iN_t hb]
theorem iN_eq {a b : Int} (ha : inI a) (hb : inI b) : iN a = iN b ↔ a = b := by
  constructor
  · intro h
    have := congrArg Int32.toInt h
    rwa [iN_t ha, iN_t hb] at this
  · intro h; rw [h]
theorem iN_0 : iN 0 = 0 := rfl
theorem iN_in {i : Int} {n : Nat} (h0 : 0 ≤ i) (h1 : i < n) (hn : n < 65536) : vp_in (iN i) n ∧ (iN i).toNatClampNeg = i.toNat := by
  have hI : inI i := ⟨by omega, by omega⟩
  refine ⟨fun q => ?_, iN_cl hI⟩
  rcases q with q | q
  · rw [← iN_0, iN_lt hI ⟨by omega, by omega⟩] at q; omega
  · rw [iN_cl hI] at q; omega
theorem iN_div {a b : Int} (ha : 0 ≤ a ∧ a ≤ 2147483647) (hb : 0 < b ∧ b ≤ 2147483647) : iN a / iN b = iN (a / b) := by
  obtain ⟨m, rfl⟩ := Int.eq_ofNat_of_zero_le ha.1
  obtain ⟨n, rfl⟩ := Int.eq_ofNat_of_zero_le (Int.le_of_lt hb.1)
  have e : ((m : Int) / (n : Int)) = ((m / n : Nat) : Int) := rfl
  rw [e, iN_n, iN_n, iN_n]
  exact pk_div (by omega) (by omega) (by omega)
theorem iN_rem {a b : Int} (ha : 0 ≤ a ∧ a ≤ 2147483647) (hb : 0 < b ∧ b ≤ 2147483647) : iN a - iN a / iN b * iN b = iN (a % b) := by
  obtain ⟨m, rfl⟩ := Int.eq_ofNat_of_zero_le ha.1
  obtain ⟨n, rfl⟩ := Int.eq_ofNat_of_zero_le (Int.le_of_lt hb.1)
  have e : ((m : Int) % (n : Int)) = ((m % n : Nat) : Int) := rfl
  rw [e, iN_n, iN_n, iN_n]
  exact pk_rem (by omega) (by omega) (by omega)
theorem iN_ne0 {b : Int} (hb : 0 < b ∧ b ≤ 2147483647) : ¬ iN b = 0 := by
  rw [← iN_0, iN_eq ⟨by omega, by omega⟩ ⟨by omega, by omega⟩]; omega
theorem sN_k : ∀ k, k < 32 → ((nI k &&& 31).toBitVec.smod 32).toNat = k := by decide +kernel
theorem uN_k : ∀ k, k < 32 → (((nI k).toUInt32 &&& Int32.toUInt32 31).toBitVec % 32).toNat = k := by decide +kernel
theorem iN_shl {a s : Int} (ha : 0 ≤ a) (hs : 0 ≤ s ∧ s < 31) (hr : a * (2 : Int) ^ s.toNat ≤ 2147483647) : iN a <<< (iN s &&& 31) = iN (a * (2 : Int) ^ s.toNat) := by
  obtain ⟨m, rfl⟩ := Int.eq_ofNat_of_zero_le ha
  obtain ⟨k, rfl⟩ := Int.eq_ofNat_of_zero_le hs.1
  have e : ((m : Int) * (2 : Int) ^ (k : Int).toNat) = ((m * 2 ^ k : Nat) : Int) := by
    rw [Int.toNat_natCast]; simp
  rw [e] at hr ⊢
  rw [iN_n, iN_n, iN_n]
  exact pk_shlN _ k (sN_k k (by omega)) (by omega)
theorem iN_shr {a s : Int} (ha : 0 ≤ a ∧ a ≤ 2147483647) (hs : 0 ≤ s ∧ s < 31) : iN a >>> (iN s &&& 31) = iN (a / (2 : Int) ^ s.toNat) := by
  obtain ⟨m, rfl⟩ := Int.eq_ofNat_of_zero_le ha.1
  obtain ⟨k, rfl⟩ := Int.eq_ofNat_of_zero_le hs.1
  have e : ((m : Int) / (2 : Int) ^ (k : Int).toNat) = ((m / 2 ^ k : Nat) : Int) := by
    rw [Int.toNat_natCast]; simp
  rw [e, iN_n, iN_n, iN_n]
  exact pk_shrN (by omega) _ k (sN_k k (by omega))
theorem iN_ushr {a s : Int} (ha : 0 ≤ a ∧ a ≤ 2147483647) (hs : 0 ≤ s ∧ s < 31) : ((iN a).toUInt32 >>> ((iN s).toUInt32 &&& Int32.toUInt32 31)).toInt32 = iN (a / (2 : Int) ^ s.toNat) := by
  obtain ⟨m, rfl⟩ := Int.eq_ofNat_of_zero_le ha.1
  obtain ⟨k, rfl⟩ := Int.eq_ofNat_of_zero_le hs.1
  have e : ((m : Int) / (2 : Int) ^ (k : Int).toNat) = ((m / 2 ^ k : Nat) : Int) := by
    rw [Int.toNat_natCast]; simp
  rw [e, iN_n, iN_n, iN_n]
  exact pk_ushrN (by omega) _ k (uN_k k (by omega))
def zand (a b : Int) : Int := ((a.toNat &&& b.toNat : Nat) : Int)
def zor (a b : Int) : Int := ((a.toNat ||| b.toNat : Nat) : Int)
theorem nI_bv (n : Nat) : (nI n).toBitVec = BitVec.ofNat 32 n := rfl
theorem iN_and {a b : Int} (ha : 0 ≤ a) (hb : 0 ≤ b) : iN a &&& iN b = iN (zand a b) := by
  rw [iN_of ha, iN_of hb, zand, iN_n]
  apply Int32.toBitVec.inj
  rw [Int32.toBitVec_and, nI_bv, nI_bv, nI_bv]
  apply BitVec.eq_of_getLsbD_eq
  intro i hi
  simp [hi]
theorem iN_or {a b : Int} (ha : 0 ≤ a) (hb : 0 ≤ b) : iN a ||| iN b = iN (zor a b) := by
  rw [iN_of ha, iN_of hb, zor, iN_n]
  apply Int32.toBitVec.inj
  rw [Int32.toBitVec_or, nI_bv, nI_bv, nI_bv]
  apply BitVec.eq_of_getLsbD_eq
  intro i hi
  simp [hi]
theorem jN_add (a b : Int) : jN a + jN b = jN (a + b) := (Int64.ofInt_add a b).symm
theorem jN_mul (a b : Int) : jN a * jN b = jN (a * b) := (Int64.ofInt_mul a b).symm
theorem jN_n (n : Nat) : jN (n : Int) = lN n := Int64.ofInt_eq_ofNat
theorem jN_i {a : Int} (h : inI a) : (iN a).toInt64 = jN a := by
  show Int32.toInt64 (iN a) = Int64.ofInt a
  rw [← Int64.ofInt_int32ToInt, iN_t h]
theorem jN_t32 {a : Int} (h : inI a) : (jN a).toInt32 = iN a := by
  show Int64.toInt32 (jN a) = Int32.ofInt a
  rw [← Int32.ofInt_int64ToInt, jN, Int64.toInt_ofInt_of_le (by have := h.1; omega) (by have := h.2; omega)]
theorem jN_div {a b : Int} (ha : inJ a) (hb : inJ b) (h0 : 0 < b) : jN a / jN b = jN (a / b) := by
  obtain ⟨m, rfl⟩ := Int.eq_ofNat_of_zero_le ha.1
  obtain ⟨n, rfl⟩ := Int.eq_ofNat_of_zero_le hb.1
  have e : ((m : Int) / (n : Int)) = ((m / n : Nat) : Int) := rfl
  rw [e, jN_n, jN_n, jN_n]
  exact pk_lDiv (by have := ha.2; omega) (by omega) (by have := hb.2; omega)
theorem jN_rem {a b : Int} (ha : inJ a) (hb : inJ b) (h0 : 0 < b) : jN a - jN a / jN b * jN b = jN (a % b) := by
  obtain ⟨m, rfl⟩ := Int.eq_ofNat_of_zero_le ha.1
  obtain ⟨n, rfl⟩ := Int.eq_ofNat_of_zero_le hb.1
  have e : ((m : Int) % (n : Int)) = ((m % n : Nat) : Int) := rfl
  rw [e, jN_n, jN_n, jN_n]
  exact pk_lRem (by have := ha.2; omega) (by omega) (by have := hb.2; omega)
theorem jN_ne0 {b : Int} (hb : inJ b) (h0 : 0 < b) : ¬ jN b = 0 := by
  obtain ⟨n, rfl⟩ := Int.eq_ofNat_of_zero_le hb.1
  intro h
  have h2 : lN n = lN 0 := by rw [← jN_n, h]; rfl
  rw [pk_lEQ (by have := hb.2; omega) (by omega)] at h2
  omega
/-! the world of a heap -/
theorem cW_get {ad : Nat → Nat} {cI cZ : ClassId} {h : mH} {k : Nat} {c : mC} (e : h[k]? = some c) : (cW ad cI cZ h)[k]? = some (ad k, cC ad cI cZ c) := by
  unfold cW
  rw [List.getElem?_mapIdx, e]; rfl
theorem cW_set {ad : Nat → Nat} {cI cZ : ClassId} {h : mH} {k : Nat} {c : mC} : cW ad cI cZ (h.set k c) = (cW ad cI cZ h).set k (ad k, cC ad cI cZ c) := by
  unfold cW
  apply List.ext_getElem?
  intro j
  rw [List.getElem?_mapIdx, List.getElem?_set, List.getElem?_set, List.getElem?_mapIdx, List.length_mapIdx]
  by_cases hj : k = j
  · subst hj
    by_cases hl : k < h.length <;> simp [hl]
  · simp [hj]
theorem cC_arr {ad : Nat → Nat} {cI cZ : ClassId} {b : Bool} {n : Nat} {f : Nat → Int} {i : Nat} {v : Int} : cC ad cI cZ (.inr (b, n, mup f i v)) = .inl (cond b cZ cI, n, .inl (upd (fun j => iN (f j)) i (iN v))) := by
  have e : (fun j => iN (mup f i v j)) = upd (fun j => iN (f j)) i (iN v) := by
    funext j
    show iN (mup f i v j) = if j = i then iN v else iN (f j)
    unfold mup
    by_cases hj : j = i <;> simp [hj]
  show (Sum.inl _ : va_E) = _
  rw [e]
end
section
/-! one instruction; a stretch of them -/
def m1 (st : List mV) (f : Int → List mV → Prop) : Prop := match st with
  | .inl a :: r => f a r
  | _ => False
def m2 (st : List mV) (f : Int → Int → List mV → Prop) : Prop := match st with
  | .inl b :: .inl a :: r => f a b r
  | _ => False
def n1 (st : List mV) (f : Int → List mV → Prop) : Prop := match st with
  | .inr (.inl a) :: r => f a r
  | _ => False
def n2 (st : List mV) (f : Int → Int → List mV → Prop) : Prop := match st with
  | .inr (.inl b) :: .inr (.inl a) :: r => f a b r
  | _ => False
def mclr (L : mL) (i : Nat) : mL := match i with
  | 0 => L
  | k + 1 => match L[k]? with
    | some (some (.inr (.inl _))) => L.set k none
    | _ => L
def mst (L : mL) (i : Nat) (v : mV) : mL := (mclr L i).set i (some v)
def mstl (L : mL) (i : Nat) (v : mV) : mL := ((mclr L i).set (i + 1) none).set i (some v)
def mldi (L : mL) (i : Nat) (f : Int → Prop) : Prop := match L[i]? with
  | some (some (.inl z)) => f z
  | _ => False
def mldl (L : mL) (i : Nat) (f : Int → Prop) : Prop := match L[i]? with
  | some (some (.inr (.inl z))) => f z
  | _ => False
def mlda (L : mL) (i : Nat) (f : Nat → Prop) : Prop := match L[i]? with
  | some (some (.inr (.inr (some z)))) => f z
  | _ => False
def mtsw (pc : Nat) (lo : Int) (z : Int) (g : Nat → Prop) : List Int → Prop
  | [] => True
  | o :: os => (z = lo → g ((pc : Int) + o).toNat) ∧ mtsw pc (lo + 1) z g os
def mlsw (pc : Nat) (z : Int) (g : Nat → Prop) : List (Int × Int) → Prop
  | [] => True
  | o :: os => (z = o.1 → g ((pc : Int) + o.2).toNat) ∧ mlsw pc z g os
def mfit (tg : Nat) (v : mV) : Prop := match tg, v with
  | 0, .inl _ => True
  | 1, .inl z => z = 0 ∨ z = 1
  | 2, .inr (.inl _) => True
  | 3, .inr (.inr (some _)) => True
  | _, _ => False
/-- one instruction: K goes on behind it, G at a place that is jumped to, and where the walk stops -/
def stp (fT : Nat → Option (Nat × Nat × Nat)) (kT kJ : Nat → Option Int) (i : Instr) (tg pc : Nat) (L : mL) (st : List mV) (h : mH) (K : mL → List mV → mH → Prop) (G : Nat → mL → List mV → mH → Prop) : Prop := match i with
  | .iconst n => K L (.inl n :: st) h
  | .bipush n => K L (.inl n :: st) h
  | .sipush n => K L (.inl n :: st) h
  | .ldc x => match kT x with
    | some z => K L (.inl z :: st) h
    | none => False
  | .lconst n => K L (.inr (.inl ((n : Nat) : Int)) :: st) h
  | .ldc2_w x => match kJ x with
    | some z => K L (.inr (.inl z) :: st) h
    | none => False
  | .iload n => mldi L n fun z => K L (.inl z :: st) h
  | .iload_n n => mldi L n fun z => K L (.inl z :: st) h
  | .lload n => mldl L n fun z => K L (.inr (.inl z) :: st) h
  | .lload_n n => mldl L n fun z => K L (.inr (.inl z) :: st) h
  | .aload n => mlda L n fun z => K L (.inr (.inr (some z)) :: st) h
  | .aload_n n => mlda L n fun z => K L (.inr (.inr (some z)) :: st) h
  | .istore n => m1 st fun a r => K (mst L n (.inl a)) r h
  | .istore_n n => m1 st fun a r => K (mst L n (.inl a)) r h
  | .lstore n => n1 st fun a r => K (mstl L n (.inr (.inl a))) r h
  | .lstore_n n => n1 st fun a r => K (mstl L n (.inr (.inl a))) r h
  | .astore n => match st with
    | .inr (.inr (some a)) :: r => K (mst L n (.inr (.inr (some a)))) r h
    | _ => False
  | .astore_n n => match st with
    | .inr (.inr (some a)) :: r => K (mst L n (.inr (.inr (some a)))) r h
    | _ => False
  | .iinc n d => mldi L n fun z => K (mst L n (.inl (z + d))) st h
  | .iadd => m2 st fun a b r => K L (.inl (a + b) :: r) h
  | .isub => m2 st fun a b r => K L (.inl (a - b) :: r) h
  | .imul => m2 st fun a b r => K L (.inl (a * b) :: r) h
  | .ineg => m1 st fun a r => K L (.inl (-a) :: r) h
  | .idiv => m2 st fun a b r => ((0 ≤ a ∧ a ≤ 2147483647) ∧ 0 < b ∧ b ≤ 2147483647) ∧ K L (.inl (a / b) :: r) h
  | .irem => m2 st fun a b r => ((0 ≤ a ∧ a ≤ 2147483647) ∧ 0 < b ∧ b ≤ 2147483647) ∧ K L (.inl (a % b) :: r) h
  | .ishl => m2 st fun a b r => (0 ≤ a ∧ (0 ≤ b ∧ b < 31) ∧ a * (2 : Int) ^ b.toNat ≤ 2147483647) ∧ K L (.inl (a * (2 : Int) ^ b.toNat) :: r) h
  | .ishr => m2 st fun a b r => ((0 ≤ a ∧ a ≤ 2147483647) ∧ 0 ≤ b ∧ b < 31) ∧ K L (.inl (a / (2 : Int) ^ b.toNat) :: r) h
  | .iushr => m2 st fun a b r => ((0 ≤ a ∧ a ≤ 2147483647) ∧ 0 ≤ b ∧ b < 31) ∧ K L (.inl (a / (2 : Int) ^ b.toNat) :: r) h
  | .iand => m2 st fun a b r => (0 ≤ a ∧ 0 ≤ b) ∧ K L (.inl (zand a b) :: r) h
  | .ior => m2 st fun a b r => (0 ≤ a ∧ 0 ≤ b) ∧ K L (.inl (zor a b) :: r) h
  | .i2l => m1 st fun a r => inI a ∧ K L (.inr (.inl a) :: r) h
  | .l2i => n1 st fun a r => inI a ∧ K L (.inl a :: r) h
  | .ladd => n2 st fun a b r => K L (.inr (.inl (a + b)) :: r) h
  | .lmul => n2 st fun a b r => K L (.inr (.inl (a * b)) :: r) h
  | .ldiv => n2 st fun a b r => (inJ a ∧ inJ b ∧ 0 < b) ∧ K L (.inr (.inl (a / b)) :: r) h
  | .lrem => n2 st fun a b r => (inJ a ∧ inJ b ∧ 0 < b) ∧ K L (.inr (.inl (a % b)) :: r) h
  | .dup => match st with
    | .inl a :: r => K L (.inl a :: .inl a :: r) h
    | .inr (.inr a) :: r => K L (.inr (.inr a) :: .inr (.inr a) :: r) h
    | _ => False
  | .dup2 => match st with
    | .inl b :: .inr (.inr a) :: r => K L (.inl b :: .inr (.inr a) :: .inl b :: .inr (.inr a) :: r) h
    | _ => False
  | .getfield x => match fT x, st with
    | some (ci, k, _), .inr (.inr (some a)) :: r => match h[a]? with
      | some (.inl (cj, fs)) => match fs[k]? with
        | some v => cj = ci ∧ K L (v :: r) h
        | none => False
      | _ => False
    | _, _ => False
  | .putfield x => match fT x, st with
    | some (ci, k, tg), v :: .inr (.inr (some a)) :: r => match h[a]? with
      | some (.inl (cj, fs)) => (cj = ci ∧ k < fs.length ∧ mfit tg v) ∧ K L r (h.set a (.inl (cj, fs.set k v)))
      | _ => False
    | _, _ => False
  | .iaload => match st with
    | .inl i :: .inr (.inr (some a)) :: r => match h[a]? with
      | some (.inr (false, n, f)) => (n < 65536 ∧ 0 ≤ i ∧ i < n) ∧ K L (.inl (f i.toNat) :: r) h
      | _ => False
    | _ => False
  | .iastore => match st with
    | .inl v :: .inl i :: .inr (.inr (some a)) :: r => match h[a]? with
      | some (.inr (false, n, f)) => (n < 65536 ∧ 0 ≤ i ∧ i < n) ∧ K L r (h.set a (.inr (false, n, mup f i.toNat v)))
      | _ => False
    | _ => False
  | .baload => match st with
    | .inl i :: .inr (.inr (some a)) :: r => match h[a]? with
      | some (.inr (true, n, f)) => (n < 65536 ∧ 0 ≤ i ∧ i < n) ∧ K L (.inl (f i.toNat) :: r) h
      | _ => False
    | _ => False
  | .bastore => match st with
    | .inl v :: .inl i :: .inr (.inr (some a)) :: r => match h[a]? with
      | some (.inr (true, n, f)) => ((v = 0 ∨ v = 1) ∧ n < 65536 ∧ 0 ≤ i ∧ i < n) ∧ K L r (h.set a (.inr (true, n, mup f i.toNat v)))
      | _ => False
    | _ => False
  | .arraylength => match st with
    | .inr (.inr (some a)) :: r => match h[a]? with
      | some (.inr (_, n, _)) => n < 65536 ∧ K L (.inl (n : Int) :: r) h
      | _ => False
    | _ => False
  | .goto _ => G tg L st h
  | .ifCond c _ => m1 st fun a r => inI a ∧ (match c with
    | .eq => (a = 0 → G tg L r h) ∧ (¬ a = 0 → K L r h)
    | .ne => (¬ a = 0 → G tg L r h) ∧ (a = 0 → K L r h)
    | .lt => (a < 0 → G tg L r h) ∧ (¬ a < 0 → K L r h)
    | .ge => (0 ≤ a → G tg L r h) ∧ (¬ 0 ≤ a → K L r h)
    | .gt => (0 < a → G tg L r h) ∧ (¬ 0 < a → K L r h)
    | .le => (a ≤ 0 → G tg L r h) ∧ (¬ a ≤ 0 → K L r h))
  | .if_icmp c _ => m2 st fun a b r => (inI a ∧ inI b) ∧ (match c with
    | .eq => (a = b → G tg L r h) ∧ (¬ a = b → K L r h)
    | .ne => (¬ a = b → G tg L r h) ∧ (a = b → K L r h)
    | .lt => (a < b → G tg L r h) ∧ (¬ a < b → K L r h)
    | .ge => (b ≤ a → G tg L r h) ∧ (¬ b ≤ a → K L r h)
    | .gt => (b < a → G tg L r h) ∧ (¬ b < a → K L r h)
    | .le => (a ≤ b → G tg L r h) ∧ (¬ a ≤ b → K L r h))
  | .tableswitch d lo hi os => m1 st fun z r => inI z ∧ (z < lo ∨ hi < z → G ((pc : Int) + d).toNat L r h) ∧ mtsw pc lo z (fun t => G t L r h) os.toList
  | .lookupswitch d ps => m1 st fun z r => inI z ∧ ((∀ q ∈ ps.toList, z ≠ q.1) → G ((pc : Int) + d).toNat L r h) ∧ mlsw pc z (fun t => G t L r h) ps.toList
  | _ => G pc L st h
def blk (fT : Nat → Option (Nat × Nat × Nat)) (kT kJ : Nat → Option Int) (G : Nat → mL → List mV → mH → Prop) : Nat → List mI → mL → List mV → mH → Prop
  | pc, [], L, st, h => G pc L st h
  | pc, (i, len, tg) :: r, L, st, h => stp fT kT kJ i tg pc L st h (fun L st h => blk fT kT kJ G (pc + len) r L st h) G
def sfx : Nat → List mI → Nat → List mI
  | _, [], _ => []
  | pc, (i, len, tg) :: r, t => match Nat.beq pc t with
    | true => (i, len, tg) :: r
    | false => sfx (pc + len) r t
/-- an instruction's length, its goal, its numbers, as the rows want them -/
def sane (pc : Nat) (i : Instr) (len tg : Nat) : Bool := match i with
  | .bipush n => len == 2 && decide (-128 ≤ n ∧ n ≤ 127)
  | .sipush n => len == 3 && decide (-32768 ≤ n ∧ n ≤ 32767)
  | .ldc _ => len == 2
  | .ldc2_w _ => len == 3
  | .iload _ => len == 2
  | .lload _ => len == 2
  | .aload _ => len == 2
  | .istore _ => len == 2
  | .lstore _ => len == 2
  | .astore _ => len == 2
  | .iinc _ _ => len == 3
  | .getfield _ => len == 3
  | .putfield _ => len == 3
  | .goto o => len == 3 && decide ((pc : Int) + o = (tg : Int))
  | .ifCond _ o => len == 3 && decide ((pc : Int) + o = (tg : Int))
  | .if_icmp _ o => len == 3 && decide ((pc : Int) + o = (tg : Int))
  | .tableswitch d lo hi os => decide (0 ≤ (pc : Int) + d ∧ inI lo ∧ inI hi ∧ hi - lo + 1 = os.size ∧ ∀ o ∈ os.toList, 0 ≤ (pc : Int) + o)
  | .lookupswitch d ps => decide (0 ≤ (pc : Int) + d ∧ ∀ o ∈ ps.toList, 0 ≤ (pc : Int) + o.2 ∧ inI o.1) && (ps.toList.zip (ps.toList.drop 1)).all (fun (a, next) => a.1 < next.1)
  | .invokevirtual _ => len == 3
  | .invokespecial _ => len == 3
  | .invokestatic _ => len == 3
  | .new _ => len == 3
  | .newarray _ => len == 2
  | _ => len == 1
def okb (cc : ByteArray) : Nat → List mI → Bool
  | _, [] => true
  | pc, (i, len, tg) :: r => decide (decode cc pc = .ok (i, len)) && (sane pc i len tg && okb cc (pc + len) r)
theorem okb_sfx {cc : ByteArray} {t : Nat} : ∀ {pc : Nat} {l : List mI}, okb cc pc l = true → okb cc t (sfx pc l t) = true
  | _, [], _ => rfl
  | pc, (i, len, tg) :: r, h => by
    unfold sfx
    split
    · rename_i e
      have e := Nat.eq_of_beq_eq_true e
      subst e; exact h
    · simp only [okb, Bool.and_eq_true] at h
      exact okb_sfx h.2.2
theorem okb_head {cc : ByteArray} {pc len tg : Nat} {i : Instr} {r : List mI} (h : okb cc pc ((i, len, tg) :: r) = true) : decode cc pc = .ok (i, len) ∧ sane pc i len tg = true ∧ okb cc (pc + len) r = true := by
  simp only [okb, Bool.and_eq_true, decide_eq_true_eq] at h
  exact h
end
