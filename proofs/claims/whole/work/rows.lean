section
-- ===== PART A: goes FIRST, ahead of the names: the tables' words, and 'selects' of the private methods out of them =====
/-- a private method of a class that the tables say can be made, by its rows of tables_1 -/
def lw_okq (q : MethodName × Nat) : Prop := (q.1.cls ≠ "java/lang/invoke/MethodHandle" ∧ q.1.cls ≠ "java/lang/invoke/VarHandle") ∧ Cond.instantiable q.1.cls q.2 ∈ tables_1 ∧ Cond.privateMethod q.1 ∈ tables_1 ∧ Cond.instanceMethod q.1 ∈ tables_1
theorem lw_p0 : lw_okq (⟨"TowerPrisoner$Text", "begin", "(LTowerPrisoner$Told;)V"⟩, 10) := ⟨⟨by decide +kernel, by decide +kernel⟩, List.mem_of_getElem? (i := 21) (by decide +kernel), List.mem_of_getElem? (i := 264) (by decide +kernel), List.mem_of_getElem? (i := 265) (by decide +kernel)⟩
theorem lw_p1 : lw_okq (⟨"TowerPrisoner$Text", "nextToken", "()V"⟩, 10) := ⟨⟨by decide +kernel, by decide +kernel⟩, List.mem_of_getElem? (i := 21) (by decide +kernel), List.mem_of_getElem? (i := 269) (by decide +kernel), List.mem_of_getElem? (i := 270) (by decide +kernel)⟩
theorem lw_p2 : lw_okq (⟨"TowerPrisoner$Text", "byteAt", "(I)I"⟩, 10) := ⟨⟨by decide +kernel, by decide +kernel⟩, List.mem_of_getElem? (i := 21) (by decide +kernel), List.mem_of_getElem? (i := 273) (by decide +kernel), List.mem_of_getElem? (i := 274) (by decide +kernel)⟩
theorem lw_p3 : lw_okq (⟨"TowerPrisoner$Text", "takeLetters", "(I)V"⟩, 10) := ⟨⟨by decide +kernel, by decide +kernel⟩, List.mem_of_getElem? (i := 21) (by decide +kernel), List.mem_of_getElem? (i := 280) (by decide +kernel), List.mem_of_getElem? (i := 281) (by decide +kernel)⟩
theorem lw_p4 : lw_okq (⟨"TowerPrisoner$Text", "takeNumber", "(I)V"⟩, 10) := ⟨⟨by decide +kernel, by decide +kernel⟩, List.mem_of_getElem? (i := 21) (by decide +kernel), List.mem_of_getElem? (i := 287) (by decide +kernel), List.mem_of_getElem? (i := 288) (by decide +kernel)⟩
theorem lw_p5 : lw_okq (⟨"TowerPrisoner$Text", "readDay", "(LTowerPrisoner$Told;)V"⟩, 10) := ⟨⟨by decide +kernel, by decide +kernel⟩, List.mem_of_getElem? (i := 21) (by decide +kernel), List.mem_of_getElem? (i := 294) (by decide +kernel), List.mem_of_getElem? (i := 295) (by decide +kernel)⟩
theorem lw_p6 : lw_okq (⟨"TowerPrisoner$Text", "refuseIf", "(Z)V"⟩, 10) := ⟨⟨by decide +kernel, by decide +kernel⟩, List.mem_of_getElem? (i := 21) (by decide +kernel), List.mem_of_getElem? (i := 298) (by decide +kernel), List.mem_of_getElem? (i := 299) (by decide +kernel)⟩
theorem lw_p7 : lw_okq (⟨"TowerPrisoner$Text", "number", "(II)I"⟩, 10) := ⟨⟨by decide +kernel, by decide +kernel⟩, List.mem_of_getElem? (i := 21) (by decide +kernel), List.mem_of_getElem? (i := 302) (by decide +kernel), List.mem_of_getElem? (i := 303) (by decide +kernel)⟩
theorem lw_p8 : lw_okq (⟨"TowerPrisoner$Text", "stops", "()Z"⟩, 10) := ⟨⟨by decide +kernel, by decide +kernel⟩, List.mem_of_getElem? (i := 21) (by decide +kernel), List.mem_of_getElem? (i := 306) (by decide +kernel), List.mem_of_getElem? (i := 307) (by decide +kernel)⟩
theorem lw_p9 : lw_okq (⟨"TowerPrisoner$Text", "readBribe", "(LTowerPrisoner$Told;)V"⟩, 10) := ⟨⟨by decide +kernel, by decide +kernel⟩, List.mem_of_getElem? (i := 21) (by decide +kernel), List.mem_of_getElem? (i := 314) (by decide +kernel), List.mem_of_getElem? (i := 315) (by decide +kernel)⟩
theorem lw_p10 : lw_okq (⟨"TowerPrisoner$Text", "readTrade", "(LTowerPrisoner$Told;)V"⟩, 10) := ⟨⟨by decide +kernel, by decide +kernel⟩, List.mem_of_getElem? (i := 21) (by decide +kernel), List.mem_of_getElem? (i := 322) (by decide +kernel), List.mem_of_getElem? (i := 323) (by decide +kernel)⟩
theorem lw_p11 : lw_okq (⟨"TowerPrisoner$Text", "readRest", "(LTowerPrisoner$Told;)V"⟩, 10) := ⟨⟨by decide +kernel, by decide +kernel⟩, List.mem_of_getElem? (i := 21) (by decide +kernel), List.mem_of_getElem? (i := 330) (by decide +kernel), List.mem_of_getElem? (i := 331) (by decide +kernel)⟩
theorem lw_p12 : lw_okq (⟨"TowerPrisoner$Text", "readLimit", "(LTowerPrisoner$Told;)V"⟩, 10) := ⟨⟨by decide +kernel, by decide +kernel⟩, List.mem_of_getElem? (i := 21) (by decide +kernel), List.mem_of_getElem? (i := 334) (by decide +kernel), List.mem_of_getElem? (i := 335) (by decide +kernel)⟩
theorem lw_p13 : lw_okq (⟨"TowerPrisoner$Text", "readAdded", "(LTowerPrisoner$Told;)V"⟩, 10) := ⟨⟨by decide +kernel, by decide +kernel⟩, List.mem_of_getElem? (i := 21) (by decide +kernel), List.mem_of_getElem? (i := 338) (by decide +kernel), List.mem_of_getElem? (i := 339) (by decide +kernel)⟩
theorem lw_p14 : lw_okq (⟨"TowerPrisoner$Story", "remember", "()V"⟩, 3) := ⟨⟨by decide +kernel, by decide +kernel⟩, List.mem_of_getElem? (i := 117) (by decide +kernel), List.mem_of_getElem? (i := 415) (by decide +kernel), List.mem_of_getElem? (i := 416) (by decide +kernel)⟩
theorem lw_p15 : lw_okq (⟨"TowerPrisoner$Story", "setHarm", "(II)V"⟩, 3) := ⟨⟨by decide +kernel, by decide +kernel⟩, List.mem_of_getElem? (i := 117) (by decide +kernel), List.mem_of_getElem? (i := 442) (by decide +kernel), List.mem_of_getElem? (i := 443) (by decide +kernel)⟩
def lw_privs_1 : List (MethodName × Nat) := [(⟨"TowerPrisoner$Text", "begin", "(LTowerPrisoner$Told;)V"⟩, 10), (⟨"TowerPrisoner$Text", "nextToken", "()V"⟩, 10), (⟨"TowerPrisoner$Text", "byteAt", "(I)I"⟩, 10), (⟨"TowerPrisoner$Text", "takeLetters", "(I)V"⟩, 10), (⟨"TowerPrisoner$Text", "takeNumber", "(I)V"⟩, 10), (⟨"TowerPrisoner$Text", "readDay", "(LTowerPrisoner$Told;)V"⟩, 10), (⟨"TowerPrisoner$Text", "refuseIf", "(Z)V"⟩, 10), (⟨"TowerPrisoner$Text", "number", "(II)I"⟩, 10), (⟨"TowerPrisoner$Text", "stops", "()Z"⟩, 10), (⟨"TowerPrisoner$Text", "readBribe", "(LTowerPrisoner$Told;)V"⟩, 10), (⟨"TowerPrisoner$Text", "readTrade", "(LTowerPrisoner$Told;)V"⟩, 10), (⟨"TowerPrisoner$Text", "readRest", "(LTowerPrisoner$Told;)V"⟩, 10), (⟨"TowerPrisoner$Text", "readLimit", "(LTowerPrisoner$Told;)V"⟩, 10), (⟨"TowerPrisoner$Text", "readAdded", "(LTowerPrisoner$Told;)V"⟩, 10), (⟨"TowerPrisoner$Story", "remember", "()V"⟩, 3), (⟨"TowerPrisoner$Story", "setHarm", "(II)V"⟩, 3)]
theorem lw_r1 : ∀ q ∈ lw_privs_1, lw_okq q := List.forall_mem_cons.mpr ⟨lw_p0, List.forall_mem_cons.mpr ⟨lw_p1, List.forall_mem_cons.mpr ⟨lw_p2, List.forall_mem_cons.mpr ⟨lw_p3, List.forall_mem_cons.mpr ⟨lw_p4, List.forall_mem_cons.mpr ⟨lw_p5, List.forall_mem_cons.mpr ⟨lw_p6, List.forall_mem_cons.mpr ⟨lw_p7, List.forall_mem_cons.mpr ⟨lw_p8, List.forall_mem_cons.mpr ⟨lw_p9, List.forall_mem_cons.mpr ⟨lw_p10, List.forall_mem_cons.mpr ⟨lw_p11, List.forall_mem_cons.mpr ⟨lw_p12, List.forall_mem_cons.mpr ⟨lw_p13, List.forall_mem_cons.mpr ⟨lw_p14, List.forall_mem_cons.mpr ⟨lw_p15, fun _ h => absurd h List.not_mem_nil⟩⟩⟩⟩⟩⟩⟩⟩⟩⟩⟩⟩⟩⟩⟩⟩
theorem lw_p16 : lw_okq (⟨"TowerPrisoner$Story", "check", "(LTowerPrisoner$Told;)I"⟩, 3) := ⟨⟨by decide +kernel, by decide +kernel⟩, List.mem_of_getElem? (i := 117) (by decide +kernel), List.mem_of_getElem? (i := 455) (by decide +kernel), List.mem_of_getElem? (i := 456) (by decide +kernel)⟩
theorem lw_p17 : lw_okq (⟨"TowerPrisoner$Odds", "fillRow", "(LTowerPrisoner$Told;II)V"⟩, 5) := ⟨⟨by decide +kernel, by decide +kernel⟩, List.mem_of_getElem? (i := 159) (by decide +kernel), List.mem_of_getElem? (i := 534) (by decide +kernel), List.mem_of_getElem? (i := 535) (by decide +kernel)⟩
theorem lw_p18 : lw_okq (⟨"TowerPrisoner$Odds", "put", "(III)V"⟩, 5) := ⟨⟨by decide +kernel, by decide +kernel⟩, List.mem_of_getElem? (i := 159) (by decide +kernel), List.mem_of_getElem? (i := 538) (by decide +kernel), List.mem_of_getElem? (i := 539) (by decide +kernel)⟩
theorem lw_p19 : lw_okq (⟨"TowerPrisoner$Odds", "best", "(LTowerPrisoner$Told;III)I"⟩, 5) := ⟨⟨by decide +kernel, by decide +kernel⟩, List.mem_of_getElem? (i := 159) (by decide +kernel), List.mem_of_getElem? (i := 542) (by decide +kernel), List.mem_of_getElem? (i := 543) (by decide +kernel)⟩
theorem lw_p20 : lw_okq (⟨"TowerPrisoner$Odds", "turned", "(LTowerPrisoner$Told;III)I"⟩, 5) := ⟨⟨by decide +kernel, by decide +kernel⟩, List.mem_of_getElem? (i := 159) (by decide +kernel), List.mem_of_getElem? (i := 546) (by decide +kernel), List.mem_of_getElem? (i := 547) (by decide +kernel)⟩
theorem lw_p21 : lw_okq (⟨"TowerPrisoner$Odds", "laterAt", "(II)I"⟩, 5) := ⟨⟨by decide +kernel, by decide +kernel⟩, List.mem_of_getElem? (i := 159) (by decide +kernel), List.mem_of_getElem? (i := 552) (by decide +kernel), List.mem_of_getElem? (i := 553) (by decide +kernel)⟩
theorem lw_p22 : lw_okq (⟨"TowerPrisoner$Odds", "swapRows", "()V"⟩, 5) := ⟨⟨by decide +kernel, by decide +kernel⟩, List.mem_of_getElem? (i := 159) (by decide +kernel), List.mem_of_getElem? (i := 558) (by decide +kernel), List.mem_of_getElem? (i := 559) (by decide +kernel)⟩
theorem lw_p23 : lw_okq (⟨"TowerPrisoner$Odds", "reduce", "()V"⟩, 5) := ⟨⟨by decide +kernel, by decide +kernel⟩, List.mem_of_getElem? (i := 159) (by decide +kernel), List.mem_of_getElem? (i := 565) (by decide +kernel), List.mem_of_getElem? (i := 566) (by decide +kernel)⟩
theorem lw_p24 : lw_okq (⟨"TowerPrisoner$Plan", "make", "(LTowerPrisoner$Told;LTowerPrisoner$Story;I)V"⟩, 5) := ⟨⟨by decide +kernel, by decide +kernel⟩, List.mem_of_getElem? (i := 135) (by decide +kernel), List.mem_of_getElem? (i := 578) (by decide +kernel), List.mem_of_getElem? (i := 579) (by decide +kernel)⟩
theorem lw_p25 : lw_okq (⟨"TowerPrisoner$Plan", "put", "(II)V"⟩, 5) := ⟨⟨by decide +kernel, by decide +kernel⟩, List.mem_of_getElem? (i := 135) (by decide +kernel), List.mem_of_getElem? (i := 589) (by decide +kernel), List.mem_of_getElem? (i := 590) (by decide +kernel)⟩
theorem lw_p26 : lw_okq (⟨"TowerPrisoner$Plan", "swapRows", "()V"⟩, 5) := ⟨⟨by decide +kernel, by decide +kernel⟩, List.mem_of_getElem? (i := 135) (by decide +kernel), List.mem_of_getElem? (i := 593) (by decide +kernel), List.mem_of_getElem? (i := 594) (by decide +kernel)⟩
theorem lw_p27 : lw_okq (⟨"TowerPrisoner$Plan", "best", "(LTowerPrisoner$Told;II)I"⟩, 5) := ⟨⟨by decide +kernel, by decide +kernel⟩, List.mem_of_getElem? (i := 135) (by decide +kernel), List.mem_of_getElem? (i := 598) (by decide +kernel), List.mem_of_getElem? (i := 599) (by decide +kernel)⟩
theorem lw_p28 : lw_okq (⟨"TowerPrisoner$Plan", "gain", "(LTowerPrisoner$Told;III)I"⟩, 5) := ⟨⟨by decide +kernel, by decide +kernel⟩, List.mem_of_getElem? (i := 135) (by decide +kernel), List.mem_of_getElem? (i := 602) (by decide +kernel), List.mem_of_getElem? (i := 603) (by decide +kernel)⟩
theorem lw_p29 : lw_okq (⟨"TowerPrisoner$Plan", "laterAt", "(I)I"⟩, 5) := ⟨⟨by decide +kernel, by decide +kernel⟩, List.mem_of_getElem? (i := 135) (by decide +kernel), List.mem_of_getElem? (i := 607) (by decide +kernel), List.mem_of_getElem? (i := 608) (by decide +kernel)⟩
theorem lw_p30 : lw_okq (⟨"TowerPrisoner$Hearsay", "allowedBehind", "(I)I"⟩, 4) := ⟨⟨by decide +kernel, by decide +kernel⟩, List.mem_of_getElem? (i := 184) (by decide +kernel), List.mem_of_getElem? (i := 662) (by decide +kernel), List.mem_of_getElem? (i := 663) (by decide +kernel)⟩
theorem lw_p31 : lw_okq (⟨"TowerPrisoner$Hearsay", "rowsFrom", "(II)I"⟩, 4) := ⟨⟨by decide +kernel, by decide +kernel⟩, List.mem_of_getElem? (i := 184) (by decide +kernel), List.mem_of_getElem? (i := 677) (by decide +kernel), List.mem_of_getElem? (i := 678) (by decide +kernel)⟩
def lw_privs_2 : List (MethodName × Nat) := [(⟨"TowerPrisoner$Story", "check", "(LTowerPrisoner$Told;)I"⟩, 3), (⟨"TowerPrisoner$Odds", "fillRow", "(LTowerPrisoner$Told;II)V"⟩, 5), (⟨"TowerPrisoner$Odds", "put", "(III)V"⟩, 5), (⟨"TowerPrisoner$Odds", "best", "(LTowerPrisoner$Told;III)I"⟩, 5), (⟨"TowerPrisoner$Odds", "turned", "(LTowerPrisoner$Told;III)I"⟩, 5), (⟨"TowerPrisoner$Odds", "laterAt", "(II)I"⟩, 5), (⟨"TowerPrisoner$Odds", "swapRows", "()V"⟩, 5), (⟨"TowerPrisoner$Odds", "reduce", "()V"⟩, 5), (⟨"TowerPrisoner$Plan", "make", "(LTowerPrisoner$Told;LTowerPrisoner$Story;I)V"⟩, 5), (⟨"TowerPrisoner$Plan", "put", "(II)V"⟩, 5), (⟨"TowerPrisoner$Plan", "swapRows", "()V"⟩, 5), (⟨"TowerPrisoner$Plan", "best", "(LTowerPrisoner$Told;II)I"⟩, 5), (⟨"TowerPrisoner$Plan", "gain", "(LTowerPrisoner$Told;III)I"⟩, 5), (⟨"TowerPrisoner$Plan", "laterAt", "(I)I"⟩, 5), (⟨"TowerPrisoner$Hearsay", "allowedBehind", "(I)I"⟩, 4), (⟨"TowerPrisoner$Hearsay", "rowsFrom", "(II)I"⟩, 4)]
theorem lw_r2 : ∀ q ∈ lw_privs_2, lw_okq q := List.forall_mem_cons.mpr ⟨lw_p16, List.forall_mem_cons.mpr ⟨lw_p17, List.forall_mem_cons.mpr ⟨lw_p18, List.forall_mem_cons.mpr ⟨lw_p19, List.forall_mem_cons.mpr ⟨lw_p20, List.forall_mem_cons.mpr ⟨lw_p21, List.forall_mem_cons.mpr ⟨lw_p22, List.forall_mem_cons.mpr ⟨lw_p23, List.forall_mem_cons.mpr ⟨lw_p24, List.forall_mem_cons.mpr ⟨lw_p25, List.forall_mem_cons.mpr ⟨lw_p26, List.forall_mem_cons.mpr ⟨lw_p27, List.forall_mem_cons.mpr ⟨lw_p28, List.forall_mem_cons.mpr ⟨lw_p29, List.forall_mem_cons.mpr ⟨lw_p30, List.forall_mem_cons.mpr ⟨lw_p31, fun _ h => absurd h List.not_mem_nil⟩⟩⟩⟩⟩⟩⟩⟩⟩⟩⟩⟩⟩⟩⟩⟩
theorem lw_p32 : lw_okq (⟨"TowerPrisoner$Hearsay", "laterAt", "(I)I"⟩, 4) := ⟨⟨by decide +kernel, by decide +kernel⟩, List.mem_of_getElem? (i := 184) (by decide +kernel), List.mem_of_getElem? (i := 681) (by decide +kernel), List.mem_of_getElem? (i := 682) (by decide +kernel)⟩
theorem lw_p33 : lw_okq (⟨"TowerPrisoner$Hearsay", "put", "(II)V"⟩, 4) := ⟨⟨by decide +kernel, by decide +kernel⟩, List.mem_of_getElem? (i := 184) (by decide +kernel), List.mem_of_getElem? (i := 686) (by decide +kernel), List.mem_of_getElem? (i := 687) (by decide +kernel)⟩
theorem lw_p34 : lw_okq (⟨"TowerPrisoner$Hearsay", "swapRows", "()V"⟩, 4) := ⟨⟨by decide +kernel, by decide +kernel⟩, List.mem_of_getElem? (i := 184) (by decide +kernel), List.mem_of_getElem? (i := 690) (by decide +kernel), List.mem_of_getElem? (i := 691) (by decide +kernel)⟩
theorem lw_p35 : lw_okq (⟨"TowerPrisoner", "asTrade", "(I)I"⟩, 10) := ⟨⟨by decide +kernel, by decide +kernel⟩, List.mem_of_getElem? (i := 13) (by decide +kernel), List.mem_of_getElem? (i := 713) (by decide +kernel), List.mem_of_getElem? (i := 714) (by decide +kernel)⟩
theorem lw_p36 : lw_okq (⟨"TowerPrisoner", "asBaker", "(I)I"⟩, 10) := ⟨⟨by decide +kernel, by decide +kernel⟩, List.mem_of_getElem? (i := 13) (by decide +kernel), List.mem_of_getElem? (i := 717) (by decide +kernel), List.mem_of_getElem? (i := 718) (by decide +kernel)⟩
theorem lw_p37 : lw_okq (⟨"TowerPrisoner", "asCourt", "(I)I"⟩, 10) := ⟨⟨by decide +kernel, by decide +kernel⟩, List.mem_of_getElem? (i := 13) (by decide +kernel), List.mem_of_getElem? (i := 722) (by decide +kernel), List.mem_of_getElem? (i := 723) (by decide +kernel)⟩
theorem lw_p38 : lw_okq (⟨"TowerPrisoner", "asSweetheart", "(I)I"⟩, 10) := ⟨⟨by decide +kernel, by decide +kernel⟩, List.mem_of_getElem? (i := 13) (by decide +kernel), List.mem_of_getElem? (i := 727) (by decide +kernel), List.mem_of_getElem? (i := 728) (by decide +kernel)⟩
theorem lw_p39 : lw_okq (⟨"TowerPrisoner", "asWife", "(I)I"⟩, 10) := ⟨⟨by decide +kernel, by decide +kernel⟩, List.mem_of_getElem? (i := 13) (by decide +kernel), List.mem_of_getElem? (i := 732) (by decide +kernel), List.mem_of_getElem? (i := 733) (by decide +kernel)⟩
theorem lw_p40 : lw_okq (⟨"TowerPrisoner", "asHen", "(I)I"⟩, 10) := ⟨⟨by decide +kernel, by decide +kernel⟩, List.mem_of_getElem? (i := 13) (by decide +kernel), List.mem_of_getElem? (i := 737) (by decide +kernel), List.mem_of_getElem? (i := 738) (by decide +kernel)⟩
theorem lw_p41 : lw_okq (⟨"TowerPrisonerModel", "next", "()V"⟩, 35) := ⟨⟨by decide +kernel, by decide +kernel⟩, List.mem_of_getElem? (i := 762) (by decide +kernel), List.mem_of_getElem? (i := 890) (by decide +kernel), List.mem_of_getElem? (i := 891) (by decide +kernel)⟩
theorem lw_p42 : lw_okq (⟨"TowerPrisonerModel", "letterAt", "(I)I"⟩, 35) := ⟨⟨by decide +kernel, by decide +kernel⟩, List.mem_of_getElem? (i := 762) (by decide +kernel), List.mem_of_getElem? (i := 894) (by decide +kernel), List.mem_of_getElem? (i := 895) (by decide +kernel)⟩
theorem lw_p43 : lw_okq (⟨"TowerPrisonerModel", "readItem", "()V"⟩, 35) := ⟨⟨by decide +kernel, by decide +kernel⟩, List.mem_of_getElem? (i := 762) (by decide +kernel), List.mem_of_getElem? (i := 904) (by decide +kernel), List.mem_of_getElem? (i := 905) (by decide +kernel)⟩
theorem lw_p44 : lw_okq (⟨"TowerPrisonerModel", "mayBegin", "(I)Z"⟩, 35) := ⟨⟨by decide +kernel, by decide +kernel⟩, List.mem_of_getElem? (i := 762) (by decide +kernel), List.mem_of_getElem? (i := 908) (by decide +kernel), List.mem_of_getElem? (i := 909) (by decide +kernel)⟩
theorem lw_p45 : lw_okq (⟨"TowerPrisonerModel", "readBody", "(I)V"⟩, 35) := ⟨⟨by decide +kernel, by decide +kernel⟩, List.mem_of_getElem? (i := 762) (by decide +kernel), List.mem_of_getElem? (i := 912) (by decide +kernel), List.mem_of_getElem? (i := 913) (by decide +kernel)⟩
theorem lw_p46 : lw_okq (⟨"TowerPrisonerModel", "takesNumber", "(II)I"⟩, 35) := ⟨⟨by decide +kernel, by decide +kernel⟩, List.mem_of_getElem? (i := 762) (by decide +kernel), List.mem_of_getElem? (i := 916) (by decide +kernel), List.mem_of_getElem? (i := 917) (by decide +kernel)⟩
theorem lw_p47 : lw_okq (⟨"TowerPrisonerModel", "readBribe", "()V"⟩, 35) := ⟨⟨by decide +kernel, by decide +kernel⟩, List.mem_of_getElem? (i := 762) (by decide +kernel), List.mem_of_getElem? (i := 920) (by decide +kernel), List.mem_of_getElem? (i := 921) (by decide +kernel)⟩
def lw_privs_3 : List (MethodName × Nat) := [(⟨"TowerPrisoner$Hearsay", "laterAt", "(I)I"⟩, 4), (⟨"TowerPrisoner$Hearsay", "put", "(II)V"⟩, 4), (⟨"TowerPrisoner$Hearsay", "swapRows", "()V"⟩, 4), (⟨"TowerPrisoner", "asTrade", "(I)I"⟩, 10), (⟨"TowerPrisoner", "asBaker", "(I)I"⟩, 10), (⟨"TowerPrisoner", "asCourt", "(I)I"⟩, 10), (⟨"TowerPrisoner", "asSweetheart", "(I)I"⟩, 10), (⟨"TowerPrisoner", "asWife", "(I)I"⟩, 10), (⟨"TowerPrisoner", "asHen", "(I)I"⟩, 10), (⟨"TowerPrisonerModel", "next", "()V"⟩, 35), (⟨"TowerPrisonerModel", "letterAt", "(I)I"⟩, 35), (⟨"TowerPrisonerModel", "readItem", "()V"⟩, 35), (⟨"TowerPrisonerModel", "mayBegin", "(I)Z"⟩, 35), (⟨"TowerPrisonerModel", "readBody", "(I)V"⟩, 35), (⟨"TowerPrisonerModel", "takesNumber", "(II)I"⟩, 35), (⟨"TowerPrisonerModel", "readBribe", "()V"⟩, 35)]
theorem lw_r3 : ∀ q ∈ lw_privs_3, lw_okq q := List.forall_mem_cons.mpr ⟨lw_p32, List.forall_mem_cons.mpr ⟨lw_p33, List.forall_mem_cons.mpr ⟨lw_p34, List.forall_mem_cons.mpr ⟨lw_p35, List.forall_mem_cons.mpr ⟨lw_p36, List.forall_mem_cons.mpr ⟨lw_p37, List.forall_mem_cons.mpr ⟨lw_p38, List.forall_mem_cons.mpr ⟨lw_p39, List.forall_mem_cons.mpr ⟨lw_p40, List.forall_mem_cons.mpr ⟨lw_p41, List.forall_mem_cons.mpr ⟨lw_p42, List.forall_mem_cons.mpr ⟨lw_p43, List.forall_mem_cons.mpr ⟨lw_p44, List.forall_mem_cons.mpr ⟨lw_p45, List.forall_mem_cons.mpr ⟨lw_p46, List.forall_mem_cons.mpr ⟨lw_p47, fun _ h => absurd h List.not_mem_nil⟩⟩⟩⟩⟩⟩⟩⟩⟩⟩⟩⟩⟩⟩⟩⟩
theorem lw_p48 : lw_okq (⟨"TowerPrisonerModel", "settles", "()V"⟩, 35) := ⟨⟨by decide +kernel, by decide +kernel⟩, List.mem_of_getElem? (i := 762) (by decide +kernel), List.mem_of_getElem? (i := 924) (by decide +kernel), List.mem_of_getElem? (i := 925) (by decide +kernel)⟩
theorem lw_p49 : lw_okq (⟨"TowerPrisonerModel", "isTrade", "(I)Z"⟩, 35) := ⟨⟨by decide +kernel, by decide +kernel⟩, List.mem_of_getElem? (i := 762) (by decide +kernel), List.mem_of_getElem? (i := 941) (by decide +kernel), List.mem_of_getElem? (i := 942) (by decide +kernel)⟩
theorem lw_p50 : lw_okq (⟨"TowerPrisonerModel", "isDone", "()Z"⟩, 35) := ⟨⟨by decide +kernel, by decide +kernel⟩, List.mem_of_getElem? (i := 762) (by decide +kernel), List.mem_of_getElem? (i := 952) (by decide +kernel), List.mem_of_getElem? (i := 953) (by decide +kernel)⟩
theorem lw_p51 : lw_okq (⟨"TowerPrisonerModel", "isOver", "()Z"⟩, 35) := ⟨⟨by decide +kernel, by decide +kernel⟩, List.mem_of_getElem? (i := 762) (by decide +kernel), List.mem_of_getElem? (i := 956) (by decide +kernel), List.mem_of_getElem? (i := 957) (by decide +kernel)⟩
theorem lw_p52 : lw_okq (⟨"TowerPrisonerModel", "isFree", "()Z"⟩, 35) := ⟨⟨by decide +kernel, by decide +kernel⟩, List.mem_of_getElem? (i := 762) (by decide +kernel), List.mem_of_getElem? (i := 960) (by decide +kernel), List.mem_of_getElem? (i := 961) (by decide +kernel)⟩
theorem lw_p53 : lw_okq (⟨"TowerPrisonerModel", "remembers", "()V"⟩, 35) := ⟨⟨by decide +kernel, by decide +kernel⟩, List.mem_of_getElem? (i := 762) (by decide +kernel), List.mem_of_getElem? (i := 967) (by decide +kernel), List.mem_of_getElem? (i := 968) (by decide +kernel)⟩
theorem lw_p54 : lw_okq (⟨"TowerPrisonerModel", "candlesBy", "(II)I"⟩, 35) := ⟨⟨by decide +kernel, by decide +kernel⟩, List.mem_of_getElem? (i := 762) (by decide +kernel), List.mem_of_getElem? (i := 974) (by decide +kernel), List.mem_of_getElem? (i := 975) (by decide +kernel)⟩
theorem lw_p55 : lw_okq (⟨"TowerPrisonerModel", "harmOf", "(II)I"⟩, 35) := ⟨⟨by decide +kernel, by decide +kernel⟩, List.mem_of_getElem? (i := 762) (by decide +kernel), List.mem_of_getElem? (i := 981) (by decide +kernel), List.mem_of_getElem? (i := 982) (by decide +kernel)⟩
theorem lw_p56 : lw_okq (⟨"TowerPrisonerModel", "checks", "()I"⟩, 35) := ⟨⟨by decide +kernel, by decide +kernel⟩, List.mem_of_getElem? (i := 762) (by decide +kernel), List.mem_of_getElem? (i := 990) (by decide +kernel), List.mem_of_getElem? (i := 991) (by decide +kernel)⟩
theorem lw_p57 : lw_okq (⟨"TowerPrisonerModel", "daysOf", "(I)I"⟩, 35) := ⟨⟨by decide +kernel, by decide +kernel⟩, List.mem_of_getElem? (i := 762) (by decide +kernel), List.mem_of_getElem? (i := 1022) (by decide +kernel), List.mem_of_getElem? (i := 1023) (by decide +kernel)⟩
theorem lw_p58 : lw_okq (⟨"TowerPrisonerModel", "findWorths", "(II)V"⟩, 35) := ⟨⟨by decide +kernel, by decide +kernel⟩, List.mem_of_getElem? (i := 762) (by decide +kernel), List.mem_of_getElem? (i := 1026) (by decide +kernel), List.mem_of_getElem? (i := 1027) (by decide +kernel)⟩
theorem lw_p59 : lw_okq (⟨"TowerPrisonerModel", "bestOf", "(IIII)I"⟩, 35) := ⟨⟨by decide +kernel, by decide +kernel⟩, List.mem_of_getElem? (i := 762) (by decide +kernel), List.mem_of_getElem? (i := 1033) (by decide +kernel), List.mem_of_getElem? (i := 1034) (by decide +kernel)⟩
theorem lw_p60 : lw_okq (⟨"TowerPrisonerModel", "worthBy", "(IIIII)I"⟩, 35) := ⟨⟨by decide +kernel, by decide +kernel⟩, List.mem_of_getElem? (i := 762) (by decide +kernel), List.mem_of_getElem? (i := 1040) (by decide +kernel), List.mem_of_getElem? (i := 1041) (by decide +kernel)⟩
theorem lw_p61 : lw_okq (⟨"TowerPrisonerModel", "harmBy", "(I)I"⟩, 35) := ⟨⟨by decide +kernel, by decide +kernel⟩, List.mem_of_getElem? (i := 762) (by decide +kernel), List.mem_of_getElem? (i := 1044) (by decide +kernel), List.mem_of_getElem? (i := 1045) (by decide +kernel)⟩
theorem lw_p62 : lw_okq (⟨"TowerPrisonerModel", "paceBy", "(I)I"⟩, 35) := ⟨⟨by decide +kernel, by decide +kernel⟩, List.mem_of_getElem? (i := 762) (by decide +kernel), List.mem_of_getElem? (i := 1048) (by decide +kernel), List.mem_of_getElem? (i := 1049) (by decide +kernel)⟩
theorem lw_p63 : lw_okq (⟨"TowerPrisonerModel", "findHeard", "(Z)V"⟩, 35) := ⟨⟨by decide +kernel, by decide +kernel⟩, List.mem_of_getElem? (i := 762) (by decide +kernel), List.mem_of_getElem? (i := 1079) (by decide +kernel), List.mem_of_getElem? (i := 1080) (by decide +kernel)⟩
def lw_privs_4 : List (MethodName × Nat) := [(⟨"TowerPrisonerModel", "settles", "()V"⟩, 35), (⟨"TowerPrisonerModel", "isTrade", "(I)Z"⟩, 35), (⟨"TowerPrisonerModel", "isDone", "()Z"⟩, 35), (⟨"TowerPrisonerModel", "isOver", "()Z"⟩, 35), (⟨"TowerPrisonerModel", "isFree", "()Z"⟩, 35), (⟨"TowerPrisonerModel", "remembers", "()V"⟩, 35), (⟨"TowerPrisonerModel", "candlesBy", "(II)I"⟩, 35), (⟨"TowerPrisonerModel", "harmOf", "(II)I"⟩, 35), (⟨"TowerPrisonerModel", "checks", "()I"⟩, 35), (⟨"TowerPrisonerModel", "daysOf", "(I)I"⟩, 35), (⟨"TowerPrisonerModel", "findWorths", "(II)V"⟩, 35), (⟨"TowerPrisonerModel", "bestOf", "(IIII)I"⟩, 35), (⟨"TowerPrisonerModel", "worthBy", "(IIIII)I"⟩, 35), (⟨"TowerPrisonerModel", "harmBy", "(I)I"⟩, 35), (⟨"TowerPrisonerModel", "paceBy", "(I)I"⟩, 35), (⟨"TowerPrisonerModel", "findHeard", "(Z)V"⟩, 35)]
theorem lw_r4 : ∀ q ∈ lw_privs_4, lw_okq q := List.forall_mem_cons.mpr ⟨lw_p48, List.forall_mem_cons.mpr ⟨lw_p49, List.forall_mem_cons.mpr ⟨lw_p50, List.forall_mem_cons.mpr ⟨lw_p51, List.forall_mem_cons.mpr ⟨lw_p52, List.forall_mem_cons.mpr ⟨lw_p53, List.forall_mem_cons.mpr ⟨lw_p54, List.forall_mem_cons.mpr ⟨lw_p55, List.forall_mem_cons.mpr ⟨lw_p56, List.forall_mem_cons.mpr ⟨lw_p57, List.forall_mem_cons.mpr ⟨lw_p58, List.forall_mem_cons.mpr ⟨lw_p59, List.forall_mem_cons.mpr ⟨lw_p60, List.forall_mem_cons.mpr ⟨lw_p61, List.forall_mem_cons.mpr ⟨lw_p62, List.forall_mem_cons.mpr ⟨lw_p63, fun _ h => absurd h List.not_mem_nil⟩⟩⟩⟩⟩⟩⟩⟩⟩⟩⟩⟩⟩⟩⟩⟩
theorem lw_p64 : lw_okq (⟨"TowerPrisonerModel", "comeTo", "(II)I"⟩, 35) := ⟨⟨by decide +kernel, by decide +kernel⟩, List.mem_of_getElem? (i := 762) (by decide +kernel), List.mem_of_getElem? (i := 1083) (by decide +kernel), List.mem_of_getElem? (i := 1084) (by decide +kernel)⟩
theorem lw_p65 : lw_okq (⟨"TowerPrisonerModel", "isHeard", "(II)Z"⟩, 35) := ⟨⟨by decide +kernel, by decide +kernel⟩, List.mem_of_getElem? (i := 762) (by decide +kernel), List.mem_of_getElem? (i := 1087) (by decide +kernel), List.mem_of_getElem? (i := 1088) (by decide +kernel)⟩
theorem lw_p66 : lw_okq (⟨"TowerPrisonerModel", "goFrom", "(II)I"⟩, 35) := ⟨⟨by decide +kernel, by decide +kernel⟩, List.mem_of_getElem? (i := 762) (by decide +kernel), List.mem_of_getElem? (i := 1092) (by decide +kernel), List.mem_of_getElem? (i := 1093) (by decide +kernel)⟩
theorem lw_p67 : lw_okq (⟨"TowerPrisonerModel", "couldOf", "(I)I"⟩, 35) := ⟨⟨by decide +kernel, by decide +kernel⟩, List.mem_of_getElem? (i := 762) (by decide +kernel), List.mem_of_getElem? (i := 1096) (by decide +kernel), List.mem_of_getElem? (i := 1097) (by decide +kernel)⟩
def lw_privs_5 : List (MethodName × Nat) := [(⟨"TowerPrisonerModel", "comeTo", "(II)I"⟩, 35), (⟨"TowerPrisonerModel", "isHeard", "(II)Z"⟩, 35), (⟨"TowerPrisonerModel", "goFrom", "(II)I"⟩, 35), (⟨"TowerPrisonerModel", "couldOf", "(I)I"⟩, 35)]
theorem lw_r5 : ∀ q ∈ lw_privs_5, lw_okq q := List.forall_mem_cons.mpr ⟨lw_p64, List.forall_mem_cons.mpr ⟨lw_p65, List.forall_mem_cons.mpr ⟨lw_p66, List.forall_mem_cons.mpr ⟨lw_p67, fun _ h => absurd h List.not_mem_nil⟩⟩⟩⟩
def lw_privs : List (MethodName × Nat) := lw_privs_1 ++ (lw_privs_2 ++ (lw_privs_3 ++ (lw_privs_4 ++ (lw_privs_5))))
def lw_tbl : List Cond := k2_sels lw_privs ++ tables_1
theorem lw_privs_ok : ∀ q ∈ lw_privs, lw_okq q := by
  show ∀ q ∈ lw_privs_1 ++ (lw_privs_2 ++ (lw_privs_3 ++ (lw_privs_4 ++ (lw_privs_5)))), lw_okq q
  exact List.forall_mem_append.mpr ⟨lw_r1, List.forall_mem_append.mpr ⟨lw_r2, List.forall_mem_append.mpr ⟨lw_r3, List.forall_mem_append.mpr ⟨lw_r4, lw_r5⟩⟩⟩⟩
end
section
theorem goodIn_r {big : List Cond} (ws : List Cond) (ps : List Nat) (hp : ws = ps.filterMap (fun i => big[i]?)) (h : ws.all goodWord = true) : GoodIn big ws := by
  intro w hw
  have h1 := List.all_eq_true.mp h w hw
  rw [hp] at hw
  obtain ⟨i, -, hi⟩ := List.mem_filterMap.mp hw
  have hm : w ∈ big := by first | exact List.mem_of_getElem? hi | exact List.getElem?_mem hi
  exact ⟨hm, good_of_word h1⟩
def RX0 : String := "TowerPrisoner$Hearsay"
def TX0 : u_T := fun k => match k with
  | 0 => ("TowerPrisoner$Hearsay", "allowed", "[I", true)
  | 1 => ("TowerPrisoner$Hearsay", "here", "[I", false)
  | 2 => ("TowerPrisoner$Hearsay", "later", "[I", false)
  | _ => ("TowerPrisoner$Hearsay", "heard", "I", false)
def tyX0 : Nat → FieldType := fun k => match k with
  | 0 => .array .int
  | 1 => .array .int
  | 2 => .array .int
  | _ => .int
abbrev wsX00 : List Cond := u_ws RX0 TX0 4
theorem nmX0 : ∀ a, a < 4 → ∀ b, b < 4 → a ≠ b → (TX0 a).2.1 ≠ (TX0 b).2.1 := by decide +kernel
theorem tyX0_ok : ∀ k, k < 4 → parseFieldDescriptor (TX0 k).2.2.1 = some (tyX0 k) := by decide +kernel
abbrev cX0_init : ByteArray := prog_2_method_1_code
def yX0_init : MethodName := ⟨RX0, "<init>", "()V"⟩
abbrev cX0_drop : ByteArray := prog_2_method_2_code
def yX0_drop : MethodName := ⟨RX0, "drop", "()V"⟩
abbrev cX0_add : ByteArray := prog_2_method_3_code
def yX0_add : MethodName := ⟨RX0, "add", "(III)Z"⟩
abbrev cX0_errorsBehind : ByteArray := prog_2_method_4_code
def yX0_errorsBehind : MethodName := ⟨RX0, "errorsBehind", "(I)I"⟩
abbrev cX0_widestDay : ByteArray := prog_2_method_5_code
def yX0_widestDay : MethodName := ⟨RX0, "widestDay", "()I"⟩
abbrev cX0_rows : ByteArray := prog_2_method_6_code
def yX0_rows : MethodName := ⟨RX0, "rows", "()I"⟩
abbrev cX0_rowsFrom : ByteArray := prog_2_method_7_code
def yX0_rowsFrom : MethodName := ⟨RX0, "rowsFrom", "(II)I"⟩
abbrev cX0_allowedBehind : ByteArray := prog_2_method_8_code
def yX0_allowedBehind : MethodName := ⟨RX0, "allowedBehind", "(I)I"⟩
abbrev cX0_within : ByteArray := prog_2_method_9_code
def yX0_within : MethodName := ⟨RX0, "within", "(II)I"⟩
abbrev cX0_aDayOn : ByteArray := prog_2_method_10_code
def yX0_aDayOn : MethodName := ⟨RX0, "aDayOn", "(I)I"⟩
abbrev cX0_aDayBack : ByteArray := prog_2_method_11_code
def yX0_aDayBack : MethodName := ⟨RX0, "aDayBack", "(I)I"⟩
abbrev cX0_swapRows : ByteArray := prog_2_method_12_code
def yX0_swapRows : MethodName := ⟨RX0, "swapRows", "()V"⟩
abbrev cX0_laterAt : ByteArray := prog_2_method_13_code
def yX0_laterAt : MethodName := ⟨RX0, "laterAt", "(I)I"⟩
abbrev cX0_put : ByteArray := prog_2_method_14_code
def yX0_put : MethodName := ⟨RX0, "put", "(II)V"⟩
def RX1 : String := "TowerPrisoner$Odds"
def TX1 : u_T := fun k => match k with
  | 0 => ("TowerPrisoner$Odds", "here", "[I", false)
  | 1 => ("TowerPrisoner$Odds", "later", "[I", false)
  | 2 => ("TowerPrisoner$Odds", "upper", "I", false)
  | 3 => ("TowerPrisoner$Odds", "lower", "I", false)
  | _ => ("TowerPrisoner$Odds", "pace", "I", false)
def tyX1 : Nat → FieldType := fun k => match k with
  | 0 => .array .int
  | 1 => .array .int
  | 2 => .int
  | 3 => .int
  | _ => .int
abbrev wsX10 : List Cond := u_ws RX1 TX1 5
theorem nmX1 : ∀ a, a < 5 → ∀ b, b < 5 → a ≠ b → (TX1 a).2.1 ≠ (TX1 b).2.1 := by decide +kernel
theorem tyX1_ok : ∀ k, k < 5 → parseFieldDescriptor (TX1 k).2.2.1 = some (tyX1 k) := by decide +kernel
abbrev cX1_init : ByteArray := prog_3_method_1_code
def yX1_init : MethodName := ⟨RX1, "<init>", "()V"⟩
abbrev cX1_weigh : ByteArray := prog_3_method_2_code
def yX1_weigh : MethodName := ⟨RX1, "weigh", "(LTowerPrisoner$Told;LTowerPrisoner$Story;I)V"⟩
abbrev cX1_fillRow : ByteArray := prog_3_method_3_code
def yX1_fillRow : MethodName := ⟨RX1, "fillRow", "(LTowerPrisoner$Told;II)V"⟩
abbrev cX1_best : ByteArray := prog_3_method_4_code
def yX1_best : MethodName := ⟨RX1, "best", "(LTowerPrisoner$Told;III)I"⟩
abbrev cX1_turned : ByteArray := prog_3_method_5_code
def yX1_turned : MethodName := ⟨RX1, "turned", "(LTowerPrisoner$Told;III)I"⟩
abbrev cX1_reduce : ByteArray := prog_3_method_6_code
def yX1_reduce : MethodName := ⟨RX1, "reduce", "()V"⟩
abbrev cX1_swapRows : ByteArray := prog_3_method_7_code
def yX1_swapRows : MethodName := ⟨RX1, "swapRows", "()V"⟩
abbrev cX1_laterAt : ByteArray := prog_3_method_8_code
def yX1_laterAt : MethodName := ⟨RX1, "laterAt", "(II)I"⟩
abbrev cX1_put : ByteArray := prog_3_method_9_code
def yX1_put : MethodName := ⟨RX1, "put", "(III)V"⟩
def RX2 : String := "TowerPrisoner$Plan"
def TX2 : u_T := fun k => match k with
  | 0 => ("TowerPrisoner$Plan", "here", "[I", false)
  | 1 => ("TowerPrisoner$Plan", "later", "[I", false)
  | 2 => ("TowerPrisoner$Plan", "taking", "Z", false)
  | 3 => ("TowerPrisoner$Plan", "most", "I", false)
  | _ => ("TowerPrisoner$Plan", "pace", "I", false)
def tyX2 : Nat → FieldType := fun k => match k with
  | 0 => .array .int
  | 1 => .array .int
  | 2 => .boolean
  | 3 => .int
  | _ => .int
abbrev wsX20 : List Cond := u_ws RX2 TX2 5
theorem nmX2 : ∀ a, a < 5 → ∀ b, b < 5 → a ≠ b → (TX2 a).2.1 ≠ (TX2 b).2.1 := by decide +kernel
theorem tyX2_ok : ∀ k, k < 5 → parseFieldDescriptor (TX2 k).2.2.1 = some (tyX2 k) := by decide +kernel
abbrev cX2_init : ByteArray := prog_4_method_1_code
def yX2_init : MethodName := ⟨RX2, "<init>", "()V"⟩
abbrev cX2_forCandles : ByteArray := prog_4_method_2_code
def yX2_forCandles : MethodName := ⟨RX2, "forCandles", "(LTowerPrisoner$Told;LTowerPrisoner$Story;)V"⟩
abbrev cX2_forFreedom : ByteArray := prog_4_method_3_code
def yX2_forFreedom : MethodName := ⟨RX2, "forFreedom", "(LTowerPrisoner$Told;LTowerPrisoner$Story;I)V"⟩
abbrev cX2_make : ByteArray := prog_4_method_4_code
def yX2_make : MethodName := ⟨RX2, "make", "(LTowerPrisoner$Told;LTowerPrisoner$Story;I)V"⟩
abbrev cX2_restBehind : ByteArray := prog_4_method_5_code
def yX2_restBehind : MethodName := ⟨RX2, "restBehind", "(LTowerPrisoner$Story;II)I"⟩
abbrev cX2_best : ByteArray := prog_4_method_6_code
def yX2_best : MethodName := ⟨RX2, "best", "(LTowerPrisoner$Told;II)I"⟩
abbrev cX2_gain : ByteArray := prog_4_method_7_code
def yX2_gain : MethodName := ⟨RX2, "gain", "(LTowerPrisoner$Told;III)I"⟩
abbrev cX2_swapRows : ByteArray := prog_4_method_8_code
def yX2_swapRows : MethodName := ⟨RX2, "swapRows", "()V"⟩
abbrev cX2_laterAt : ByteArray := prog_4_method_9_code
def yX2_laterAt : MethodName := ⟨RX2, "laterAt", "(I)I"⟩
abbrev cX2_put : ByteArray := prog_4_method_10_code
def yX2_put : MethodName := ⟨RX2, "put", "(II)V"⟩
def RX3 : String := "TowerPrisoner$Story"
def TX3 : u_T := fun k => match k with
  | 0 => ("TowerPrisoner$Story", "moments", "[I", true)
  | 1 => ("TowerPrisoner$Story", "known", "I", false)
  | _ => ("TowerPrisoner$Story", "kept", "Z", false)
def tyX3 : Nat → FieldType := fun k => match k with
  | 0 => .array .int
  | 1 => .int
  | _ => .boolean
abbrev wsX30 : List Cond := u_ws RX3 TX3 3
theorem nmX3 : ∀ a, a < 3 → ∀ b, b < 3 → a ≠ b → (TX3 a).2.1 ≠ (TX3 b).2.1 := by decide +kernel
theorem tyX3_ok : ∀ k, k < 3 → parseFieldDescriptor (TX3 k).2.2.1 = some (tyX3 k) := by decide +kernel
abbrev cX3_init : ByteArray := prog_5_method_1_code
def yX3_init : MethodName := ⟨RX3, "<init>", "()V"⟩
abbrev cX3_begin : ByteArray := prog_5_method_2_code
def yX3_begin : MethodName := ⟨RX3, "begin", "(I)V"⟩
abbrev cX3_copy : ByteArray := prog_5_method_3_code
def yX3_copy : MethodName := ⟨RX3, "copy", "(LTowerPrisoner$Story;)V"⟩
abbrev cX3_day : ByteArray := prog_5_method_4_code
def yX3_day : MethodName := ⟨RX3, "day", "()I"⟩
abbrev cX3_rest : ByteArray := prog_5_method_5_code
def yX3_rest : MethodName := ⟨RX3, "rest", "()I"⟩
abbrev cX3_error : ByteArray := prog_5_method_6_code
def yX3_error : MethodName := ⟨RX3, "error", "()I"⟩
abbrev cX3_candles : ByteArray := prog_5_method_7_code
def yX3_candles : MethodName := ⟨RX3, "candles", "()I"⟩
abbrev cX3_found : ByteArray := prog_5_method_8_code
def yX3_found : MethodName := ⟨RX3, "found", "()I"⟩
abbrev cX3_harmOf : ByteArray := prog_5_method_9_code
def yX3_harmOf : MethodName := ⟨RX3, "harmOf", "(I)I"⟩
abbrev cX3_harmOfAll : ByteArray := prog_5_method_10_code
def yX3_harmOfAll : MethodName := ⟨RX3, "harmOfAll", "()I"⟩
abbrev cX3_isOver : ByteArray := prog_5_method_11_code
def yX3_isOver : MethodName := ⟨RX3, "isOver", "(LTowerPrisoner$Told;)Z"⟩
abbrev cX3_isFree : ByteArray := prog_5_method_12_code
def yX3_isFree : MethodName := ⟨RX3, "isFree", "()Z"⟩
abbrev cX3_isEnded : ByteArray := prog_5_method_13_code
def yX3_isEnded : MethodName := ⟨RX3, "isEnded", "(LTowerPrisoner$Told;)Z"⟩
abbrev cX3_daysLeft : ByteArray := prog_5_method_14_code
def yX3_daysLeft : MethodName := ⟨RX3, "daysLeft", "(LTowerPrisoner$Told;)I"⟩
abbrev cX3_turn : ByteArray := prog_5_method_15_code
def yX3_turn : MethodName := ⟨RX3, "turn", "(LTowerPrisoner$Told;II)I"⟩
abbrev cX3_watch : ByteArray := prog_5_method_16_code
def yX3_watch : MethodName := ⟨RX3, "watch", "(LTowerPrisoner$Told;)I"⟩
abbrev cX3_pay : ByteArray := prog_5_method_17_code
def yX3_pay : MethodName := ⟨RX3, "pay", "(II)I"⟩
abbrev cX3_correct : ByteArray := prog_5_method_18_code
def yX3_correct : MethodName := ⟨RX3, "correct", "(I)I"⟩
abbrev cX3_recall : ByteArray := prog_5_method_19_code
def yX3_recall : MethodName := ⟨RX3, "recall", "()Z"⟩
abbrev cX3_soonestFree : ByteArray := prog_5_method_20_code
def yX3_soonestFree : MethodName := ⟨RX3, "soonestFree", "(LTowerPrisoner$Told;)I"⟩
abbrev cX3_caughtBehind : ByteArray := prog_5_method_21_code
def yX3_caughtBehind : MethodName := ⟨RX3, "caughtBehind", "(LTowerPrisoner$Told;I)I"⟩
abbrev cX3_check : ByteArray := prog_5_method_22_code
def yX3_check : MethodName := ⟨RX3, "check", "(LTowerPrisoner$Told;)I"⟩
abbrev cX3_remember : ByteArray := prog_5_method_23_code
def yX3_remember : MethodName := ⟨RX3, "remember", "()V"⟩
abbrev cX3_setHarm : ByteArray := prog_5_method_24_code
def yX3_setHarm : MethodName := ⟨RX3, "setHarm", "(II)V"⟩
abbrev cX3_draw : ByteArray := prog_5_method_25_code
def yX3_draw : MethodName := ⟨RX3, "draw", "(II)I"⟩
def RX4 : String := "TowerPrisoner$Text"
def TX4 : u_T := fun k => match k with
  | 0 => ("TowerPrisoner$Text", "bytes", "[I", true)
  | 1 => ("TowerPrisoner$Text", "length", "I", false)
  | 2 => ("TowerPrisoner$Text", "place", "I", false)
  | 3 => ("TowerPrisoner$Text", "start", "I", false)
  | 4 => ("TowerPrisoner$Text", "kind", "I", false)
  | 5 => ("TowerPrisoner$Text", "value", "I", false)
  | 6 => ("TowerPrisoner$Text", "fault", "I", false)
  | 7 => ("TowerPrisoner$Text", "restTold", "Z", false)
  | 8 => ("TowerPrisoner$Text", "limitTold", "Z", false)
  | _ => ("TowerPrisoner$Text", "addedTold", "Z", false)
def tyX4 : Nat → FieldType := fun k => match k with
  | 0 => .array .int
  | 1 => .int
  | 2 => .int
  | 3 => .int
  | 4 => .int
  | 5 => .int
  | 6 => .int
  | 7 => .boolean
  | 8 => .boolean
  | _ => .boolean
abbrev wsX40 : List Cond := u_ws RX4 TX4 10
theorem nmX4 : ∀ a, a < 10 → ∀ b, b < 10 → a ≠ b → (TX4 a).2.1 ≠ (TX4 b).2.1 := by decide +kernel
theorem tyX4_ok : ∀ k, k < 10 → parseFieldDescriptor (TX4 k).2.2.1 = some (tyX4 k) := by decide +kernel
abbrev cX4_init : ByteArray := prog_6_method_1_code
def yX4_init : MethodName := ⟨RX4, "<init>", "()V"⟩
abbrev cX4_add : ByteArray := prog_6_method_2_code
def yX4_add : MethodName := ⟨RX4, "add", "(I)Z"⟩
abbrev cX4_readInto : ByteArray := prog_6_method_3_code
def yX4_readInto : MethodName := ⟨RX4, "readInto", "(LTowerPrisoner$Told;)I"⟩
abbrev cX4_begin : ByteArray := prog_6_method_4_code
def yX4_begin : MethodName := ⟨RX4, "begin", "(LTowerPrisoner$Told;)V"⟩
abbrev cX4_readDay : ByteArray := prog_6_method_5_code
def yX4_readDay : MethodName := ⟨RX4, "readDay", "(LTowerPrisoner$Told;)V"⟩
abbrev cX4_readBribe : ByteArray := prog_6_method_6_code
def yX4_readBribe : MethodName := ⟨RX4, "readBribe", "(LTowerPrisoner$Told;)V"⟩
abbrev cX4_readTrade : ByteArray := prog_6_method_7_code
def yX4_readTrade : MethodName := ⟨RX4, "readTrade", "(LTowerPrisoner$Told;)V"⟩
abbrev cX4_readRest : ByteArray := prog_6_method_8_code
def yX4_readRest : MethodName := ⟨RX4, "readRest", "(LTowerPrisoner$Told;)V"⟩
abbrev cX4_readLimit : ByteArray := prog_6_method_9_code
def yX4_readLimit : MethodName := ⟨RX4, "readLimit", "(LTowerPrisoner$Told;)V"⟩
abbrev cX4_readAdded : ByteArray := prog_6_method_10_code
def yX4_readAdded : MethodName := ⟨RX4, "readAdded", "(LTowerPrisoner$Told;)V"⟩
abbrev cX4_refuseIf : ByteArray := prog_6_method_11_code
def yX4_refuseIf : MethodName := ⟨RX4, "refuseIf", "(Z)V"⟩
abbrev cX4_number : ByteArray := prog_6_method_12_code
def yX4_number : MethodName := ⟨RX4, "number", "(II)I"⟩
abbrev cX4_stops : ByteArray := prog_6_method_13_code
def yX4_stops : MethodName := ⟨RX4, "stops", "()Z"⟩
abbrev cX4_nextToken : ByteArray := prog_6_method_14_code
def yX4_nextToken : MethodName := ⟨RX4, "nextToken", "()V"⟩
abbrev cX4_takeLetters : ByteArray := prog_6_method_15_code
def yX4_takeLetters : MethodName := ⟨RX4, "takeLetters", "(I)V"⟩
abbrev cX4_takeNumber : ByteArray := prog_6_method_16_code
def yX4_takeNumber : MethodName := ⟨RX4, "takeNumber", "(I)V"⟩
abbrev cX4_byteAt : ByteArray := prog_6_method_17_code
def yX4_byteAt : MethodName := ⟨RX4, "byteAt", "(I)I"⟩
abbrev cX4_isLetter : ByteArray := prog_6_method_18_code
def yX4_isLetter : MethodName := ⟨RX4, "isLetter", "(I)Z"⟩
abbrev cX4_isDigit : ByteArray := prog_6_method_19_code
def yX4_isDigit : MethodName := ⟨RX4, "isDigit", "(I)Z"⟩
def RX5 : String := "TowerPrisoner$Told"
def TX5 : u_T := fun k => match k with
  | 0 => ("TowerPrisoner$Told", "suns", "[I", true)
  | 1 => ("TowerPrisoner$Told", "bribes", "[I", true)
  | 2 => ("TowerPrisoner$Told", "trades", "[I", true)
  | 3 => ("TowerPrisoner$Told", "days", "I", false)
  | 4 => ("TowerPrisoner$Told", "bribesTold", "I", false)
  | 5 => ("TowerPrisoner$Told", "tradesTold", "I", false)
  | 6 => ("TowerPrisoner$Told", "rest", "I", false)
  | 7 => ("TowerPrisoner$Told", "limit", "I", false)
  | _ => ("TowerPrisoner$Told", "added", "I", false)
def tyX5 : Nat → FieldType := fun k => match k with
  | 0 => .array .int
  | 1 => .array .int
  | 2 => .array .int
  | 3 => .int
  | 4 => .int
  | 5 => .int
  | 6 => .int
  | 7 => .int
  | _ => .int
abbrev wsX50 : List Cond := u_ws RX5 TX5 9
theorem nmX5 : ∀ a, a < 9 → ∀ b, b < 9 → a ≠ b → (TX5 a).2.1 ≠ (TX5 b).2.1 := by decide +kernel
theorem tyX5_ok : ∀ k, k < 9 → parseFieldDescriptor (TX5 k).2.2.1 = some (tyX5 k) := by decide +kernel
abbrev cX5_init : ByteArray := prog_7_method_1_code
def yX5_init : MethodName := ⟨RX5, "<init>", "()V"⟩
abbrev cX5_wipe : ByteArray := prog_7_method_2_code
def yX5_wipe : MethodName := ⟨RX5, "wipe", "()V"⟩
abbrev cX5_hasTrade : ByteArray := prog_7_method_3_code
def yX5_hasTrade : MethodName := ⟨RX5, "hasTrade", "(I)Z"⟩
abbrev cX5_sunOf : ByteArray := prog_7_method_4_code
def yX5_sunOf : MethodName := ⟨RX5, "sunOf", "(I)I"⟩
abbrev cX5_ofBribe : ByteArray := prog_7_method_5_code
def yX5_ofBribe : MethodName := ⟨RX5, "ofBribe", "(II)I"⟩
abbrev cX5_ofTrade : ByteArray := prog_7_method_6_code
def yX5_ofTrade : MethodName := ⟨RX5, "ofTrade", "(II)I"⟩
abbrev cX5_addDay : ByteArray := prog_7_method_7_code
def yX5_addDay : MethodName := ⟨RX5, "addDay", "(I)V"⟩
abbrev cX5_addBribe : ByteArray := prog_7_method_8_code
def yX5_addBribe : MethodName := ⟨RX5, "addBribe", "(IIII)V"⟩
abbrev cX5_addTrade : ByteArray := prog_7_method_9_code
def yX5_addTrade : MethodName := ⟨RX5, "addTrade", "(II)V"⟩
abbrev cX5_candlesFor : ByteArray := prog_7_method_10_code
def yX5_candlesFor : MethodName := ⟨RX5, "candlesFor", "(II)I"⟩
abbrev cX5_harmTo : ByteArray := prog_7_method_11_code
def yX5_harmTo : MethodName := ⟨RX5, "harmTo", "(II)I"⟩
abbrev cX5_harmToAll : ByteArray := prog_7_method_12_code
def yX5_harmToAll : MethodName := ⟨RX5, "harmToAll", "(I)I"⟩
def RX6 : String := "TowerPrisoner"
def TX6 : u_T := fun k => match k with
  | 0 => ("TowerPrisoner", "text", "LTowerPrisoner$Text;", true)
  | 1 => ("TowerPrisoner", "told", "LTowerPrisoner$Told;", false)
  | 2 => ("TowerPrisoner", "spare", "LTowerPrisoner$Told;", false)
  | 3 => ("TowerPrisoner", "story", "LTowerPrisoner$Story;", true)
  | 4 => ("TowerPrisoner", "firstImage", "LTowerPrisoner$Story;", true)
  | 5 => ("TowerPrisoner", "secondImage", "LTowerPrisoner$Story;", true)
  | 6 => ("TowerPrisoner", "plan", "LTowerPrisoner$Plan;", true)
  | 7 => ("TowerPrisoner", "odds", "LTowerPrisoner$Odds;", true)
  | 8 => ("TowerPrisoner", "hearsay", "LTowerPrisoner$Hearsay;", true)
  | _ => ("TowerPrisoner", "asked", "J", false)
def tyX6 : Nat → FieldType := fun k => match k with
  | 0 => .object "TowerPrisoner$Text"
  | 1 => .object "TowerPrisoner$Told"
  | 2 => .object "TowerPrisoner$Told"
  | 3 => .object "TowerPrisoner$Story"
  | 4 => .object "TowerPrisoner$Story"
  | 5 => .object "TowerPrisoner$Story"
  | 6 => .object "TowerPrisoner$Plan"
  | 7 => .object "TowerPrisoner$Odds"
  | 8 => .object "TowerPrisoner$Hearsay"
  | _ => .long
abbrev wsX60 : List Cond := u_ws RX6 TX6 10
theorem nmX6 : ∀ a, a < 10 → ∀ b, b < 10 → a ≠ b → (TX6 a).2.1 ≠ (TX6 b).2.1 := by decide +kernel
theorem tyX6_ok : ∀ k, k < 10 → parseFieldDescriptor (TX6 k).2.2.1 = some (tyX6 k) := by decide +kernel
abbrev cX6_init : ByteArray := prog_1_method_1_code
def yX6_init : MethodName := ⟨RX6, "<init>", "()V"⟩
abbrev cX6_type : ByteArray := prog_1_method_2_code
def yX6_type : MethodName := ⟨RX6, "type", "(I)I"⟩
abbrev cX6_clear : ByteArray := prog_1_method_3_code
def yX6_clear : MethodName := ⟨RX6, "clear", "()I"⟩
abbrev cX6_sentence : ByteArray := prog_1_method_4_code
def yX6_sentence : MethodName := ⟨RX6, "sentence", "()I"⟩
abbrev cX6_sun : ByteArray := prog_1_method_5_code
def yX6_sun : MethodName := ⟨RX6, "sun", "(I)I"⟩
abbrev cX6_bribe : ByteArray := prog_1_method_6_code
def yX6_bribe : MethodName := ⟨RX6, "bribe", "(II)I"⟩
abbrev cX6_trade : ByteArray := prog_1_method_7_code
def yX6_trade : MethodName := ⟨RX6, "trade", "(II)I"⟩
abbrev cX6_winds : ByteArray := prog_1_method_8_code
def yX6_winds : MethodName := ⟨RX6, "winds", "(II)I"⟩
abbrev cX6_watches : ByteArray := prog_1_method_9_code
def yX6_watches : MethodName := ⟨RX6, "watches", "()I"⟩
abbrev cX6_pays : ByteArray := prog_1_method_10_code
def yX6_pays : MethodName := ⟨RX6, "pays", "(II)I"⟩
abbrev cX6_corrects : ByteArray := prog_1_method_11_code
def yX6_corrects : MethodName := ⟨RX6, "corrects", "(I)I"⟩
abbrev cX6_undo : ByteArray := prog_1_method_12_code
def yX6_undo : MethodName := ⟨RX6, "undo", "()I"⟩
abbrev cX6_now : ByteArray := prog_1_method_13_code
def yX6_now : MethodName := ⟨RX6, "now", "(I)I"⟩
abbrev cX6_soonest : ByteArray := prog_1_method_14_code
def yX6_soonest : MethodName := ⟨RX6, "soonest", "()I"⟩
abbrev cX6_chance : ByteArray := prog_1_method_15_code
def yX6_chance : MethodName := ⟨RX6, "chance", "(II)I"⟩
abbrev cX6_safe : ByteArray := prog_1_method_16_code
def yX6_safe : MethodName := ⟨RX6, "safe", "(I)I"⟩
abbrev cX6_least : ByteArray := prog_1_method_17_code
def yX6_least : MethodName := ⟨RX6, "least", "(II)I"⟩
abbrev cX6_catches : ByteArray := prog_1_method_18_code
def yX6_catches : MethodName := ⟨RX6, "catches", "(I)I"⟩
abbrev cX6_hears : ByteArray := prog_1_method_19_code
def yX6_hears : MethodName := ⟨RX6, "hears", "(III)I"⟩
abbrev cX6_forget : ByteArray := prog_1_method_20_code
def yX6_forget : MethodName := ⟨RX6, "forget", "()I"⟩
abbrev cX6_could : ByteArray := prog_1_method_21_code
def yX6_could : MethodName := ⟨RX6, "could", "(I)I"⟩
abbrev cX6_ways : ByteArray := prog_1_method_22_code
def yX6_ways : MethodName := ⟨RX6, "ways", "()I"⟩
abbrev cX6_ask : ByteArray := prog_1_method_23_code
def yX6_ask : MethodName := ⟨RX6, "ask", "()I"⟩
abbrev cX6_mark : ByteArray := prog_1_method_24_code
def yX6_mark : MethodName := ⟨RX6, "mark", "(II)I"⟩
abbrev cX6_keep : ByteArray := prog_1_method_25_code
def yX6_keep : MethodName := ⟨RX6, "keep", "(I)I"⟩
abbrev cX6_back : ByteArray := prog_1_method_26_code
def yX6_back : MethodName := ⟨RX6, "back", "(I)I"⟩
abbrev cX6_count : ByteArray := prog_1_method_27_code
def yX6_count : MethodName := ⟨RX6, "count", "(I)I"⟩
abbrev cX6_trace : ByteArray := prog_1_method_28_code
def yX6_trace : MethodName := ⟨RX6, "trace", "()J"⟩
abbrev cX6_asTrade : ByteArray := prog_1_method_29_code
def yX6_asTrade : MethodName := ⟨RX6, "asTrade", "(I)I"⟩
abbrev cX6_asBaker : ByteArray := prog_1_method_30_code
def yX6_asBaker : MethodName := ⟨RX6, "asBaker", "(I)I"⟩
abbrev cX6_asCourt : ByteArray := prog_1_method_31_code
def yX6_asCourt : MethodName := ⟨RX6, "asCourt", "(I)I"⟩
abbrev cX6_asSweetheart : ByteArray := prog_1_method_32_code
def yX6_asSweetheart : MethodName := ⟨RX6, "asSweetheart", "(I)I"⟩
abbrev cX6_asWife : ByteArray := prog_1_method_33_code
def yX6_asWife : MethodName := ⟨RX6, "asWife", "(I)I"⟩
abbrev cX6_asHen : ByteArray := prog_1_method_34_code
def yX6_asHen : MethodName := ⟨RX6, "asHen", "(I)I"⟩
abbrev cX6_isPace : ByteArray := prog_1_method_35_code
def yX6_isPace : MethodName := ⟨RX6, "isPace", "(I)Z"⟩
abbrev cX6_isBeyond : ByteArray := prog_1_method_36_code
def yX6_isBeyond : MethodName := ⟨RX6, "isBeyond", "(I)Z"⟩
def RX7 : String := "TowerPrisonerModel"
def TX7 : u_T := fun k => match k with
  | 0 => ("TowerPrisonerModel", "days", "I", false)
  | 1 => ("TowerPrisonerModel", "suns", "[I", true)
  | 2 => ("TowerPrisonerModel", "bribes", "I", false)
  | 3 => ("TowerPrisonerModel", "bribe", "[I", true)
  | 4 => ("TowerPrisonerModel", "trades", "I", false)
  | 5 => ("TowerPrisonerModel", "trade", "[I", true)
  | 6 => ("TowerPrisonerModel", "limit", "I", false)
  | 7 => ("TowerPrisonerModel", "added", "I", false)
  | 8 => ("TowerPrisonerModel", "st", "[I", true)
  | 9 => ("TowerPrisonerModel", "images", "[I", true)
  | 10 => ("TowerPrisonerModel", "isKept", "[Z", true)
  | 11 => ("TowerPrisonerModel", "heardMany", "I", false)
  | 12 => ("TowerPrisonerModel", "heard", "[I", true)
  | 13 => ("TowerPrisonerModel", "trace", "J", false)
  | 14 => ("TowerPrisonerModel", "text", "[I", true)
  | 15 => ("TowerPrisonerModel", "texted", "I", false)
  | 16 => ("TowerPrisonerModel", "cursor", "I", false)
  | 17 => ("TowerPrisonerModel", "start", "I", false)
  | 18 => ("TowerPrisonerModel", "token", "I", false)
  | 19 => ("TowerPrisonerModel", "number", "I", false)
  | 20 => ("TowerPrisonerModel", "isWrong", "Z", false)
  | 21 => ("TowerPrisonerModel", "items", "I", false)
  | 22 => ("TowerPrisonerModel", "saidDays", "I", false)
  | 23 => ("TowerPrisonerModel", "saidSun", "[I", true)
  | 24 => ("TowerPrisonerModel", "saidBribes", "I", false)
  | 25 => ("TowerPrisonerModel", "saidBribe", "[I", true)
  | 26 => ("TowerPrisonerModel", "saidTrades", "I", false)
  | 27 => ("TowerPrisonerModel", "saidTrade", "[I", true)
  | 28 => ("TowerPrisonerModel", "saidRest", "I", false)
  | 29 => ("TowerPrisonerModel", "saidLimit", "I", false)
  | 30 => ("TowerPrisonerModel", "saidAdded", "I", false)
  | 31 => ("TowerPrisonerModel", "worth", "[I", true)
  | 32 => ("TowerPrisonerModel", "then", "[I", true)
  | 33 => ("TowerPrisonerModel", "come", "[I", true)
  | _ => ("TowerPrisonerModel", "go", "[I", true)
def tyX7 : Nat → FieldType := fun k => match k with
  | 0 => .int
  | 1 => .array .int
  | 2 => .int
  | 3 => .array .int
  | 4 => .int
  | 5 => .array .int
  | 6 => .int
  | 7 => .int
  | 8 => .array .int
  | 9 => .array .int
  | 10 => .array .boolean
  | 11 => .int
  | 12 => .array .int
  | 13 => .long
  | 14 => .array .int
  | 15 => .int
  | 16 => .int
  | 17 => .int
  | 18 => .int
  | 19 => .int
  | 20 => .boolean
  | 21 => .int
  | 22 => .int
  | 23 => .array .int
  | 24 => .int
  | 25 => .array .int
  | 26 => .int
  | 27 => .array .int
  | 28 => .int
  | 29 => .int
  | 30 => .int
  | 31 => .array .int
  | 32 => .array .int
  | 33 => .array .int
  | _ => .array .int
abbrev wsX70 : List Cond := u_ws RX7 TX7 35
theorem nmX7 : ∀ a, a < 35 → ∀ b, b < 35 → a ≠ b → (TX7 a).2.1 ≠ (TX7 b).2.1 := by decide +kernel
theorem tyX7_ok : ∀ k, k < 35 → parseFieldDescriptor (TX7 k).2.2.1 = some (tyX7 k) := by decide +kernel
abbrev cX7_init : ByteArray := prog_9_method_1_code
def yX7_init : MethodName := ⟨RX7, "<init>", "()V"⟩
abbrev cX7_in : ByteArray := prog_9_method_3_code
def yX7_in : MethodName := ⟨RX7, "in", "(III)Z"⟩
abbrev cX7_size : ByteArray := prog_9_method_5_code
def yX7_size : MethodName := ⟨RX7, "size", "(I)I"⟩
abbrev cX7_isTrade : ByteArray := prog_9_method_6_code
def yX7_isTrade : MethodName := ⟨RX7, "isTrade", "(I)Z"⟩
abbrev cX7_isPace : ByteArray := prog_9_method_7_code
def yX7_isPace : MethodName := ⟨RX7, "isPace", "(I)Z"⟩
abbrev cX7_type : ByteArray := prog_9_method_8_code
def yX7_type : MethodName := ⟨RX7, "type", "(I)I"⟩
abbrev cX7_clear : ByteArray := prog_9_method_9_code
def yX7_clear : MethodName := ⟨RX7, "clear", "()I"⟩
abbrev cX7_letterAt : ByteArray := prog_9_method_10_code
def yX7_letterAt : MethodName := ⟨RX7, "letterAt", "(I)I"⟩
abbrev cX7_isFigure : ByteArray := prog_9_method_11_code
def yX7_isFigure : MethodName := ⟨RX7, "isFigure", "(I)Z"⟩
abbrev cX7_isLetter : ByteArray := prog_9_method_12_code
def yX7_isLetter : MethodName := ⟨RX7, "isLetter", "(I)Z"⟩
abbrev cX7_next : ByteArray := prog_9_method_13_code
def yX7_next : MethodName := ⟨RX7, "next", "()V"⟩
abbrev cX7_takesNumber : ByteArray := prog_9_method_14_code
def yX7_takesNumber : MethodName := ⟨RX7, "takesNumber", "(II)I"⟩
abbrev cX7_readBribe : ByteArray := prog_9_method_15_code
def yX7_readBribe : MethodName := ⟨RX7, "readBribe", "()V"⟩
abbrev cX7_mayBegin : ByteArray := prog_9_method_16_code
def yX7_mayBegin : MethodName := ⟨RX7, "mayBegin", "(I)Z"⟩
abbrev cX7_readBody : ByteArray := prog_9_method_17_code
def yX7_readBody : MethodName := ⟨RX7, "readBody", "(I)V"⟩
abbrev cX7_readItem : ByteArray := prog_9_method_18_code
def yX7_readItem : MethodName := ⟨RX7, "readItem", "()V"⟩
abbrev cX7_sentence : ByteArray := prog_9_method_19_code
def yX7_sentence : MethodName := ⟨RX7, "sentence", "()I"⟩
abbrev cX7_settles : ByteArray := prog_9_method_20_code
def yX7_settles : MethodName := ⟨RX7, "settles", "()V"⟩
abbrev cX7_sun : ByteArray := prog_9_method_21_code
def yX7_sun : MethodName := ⟨RX7, "sun", "(I)I"⟩
abbrev cX7_bribe : ByteArray := prog_9_method_22_code
def yX7_bribe : MethodName := ⟨RX7, "bribe", "(II)I"⟩
abbrev cX7_trade : ByteArray := prog_9_method_23_code
def yX7_trade : MethodName := ⟨RX7, "trade", "(II)I"⟩
abbrev cX7_isOver : ByteArray := prog_9_method_24_code
def yX7_isOver : MethodName := ⟨RX7, "isOver", "()Z"⟩
abbrev cX7_isFree : ByteArray := prog_9_method_25_code
def yX7_isFree : MethodName := ⟨RX7, "isFree", "()Z"⟩
abbrev cX7_isDone : ByteArray := prog_9_method_26_code
def yX7_isDone : MethodName := ⟨RX7, "isDone", "()Z"⟩
abbrev cX7_candlesBy : ByteArray := prog_9_method_27_code
def yX7_candlesBy : MethodName := ⟨RX7, "candlesBy", "(II)I"⟩
abbrev cX7_harmOf : ByteArray := prog_9_method_28_code
def yX7_harmOf : MethodName := ⟨RX7, "harmOf", "(II)I"⟩
abbrev cX7_harmBy : ByteArray := prog_9_method_29_code
def yX7_harmBy : MethodName := ⟨RX7, "harmBy", "(I)I"⟩
abbrev cX7_lesser : ByteArray := prog_9_method_30_code
def yX7_lesser : MethodName := ⟨RX7, "lesser", "(II)I"⟩
abbrev cX7_restBehind : ByteArray := prog_9_method_31_code
def yX7_restBehind : MethodName := ⟨RX7, "restBehind", "(II)I"⟩
abbrev cX7_remembers : ByteArray := prog_9_method_32_code
def yX7_remembers : MethodName := ⟨RX7, "remembers", "()V"⟩
abbrev cX7_checks : ByteArray := prog_9_method_33_code
def yX7_checks : MethodName := ⟨RX7, "checks", "()I"⟩
abbrev cX7_winds : ByteArray := prog_9_method_34_code
def yX7_winds : MethodName := ⟨RX7, "winds", "(II)I"⟩
abbrev cX7_watches : ByteArray := prog_9_method_35_code
def yX7_watches : MethodName := ⟨RX7, "watches", "()I"⟩
abbrev cX7_pays : ByteArray := prog_9_method_36_code
def yX7_pays : MethodName := ⟨RX7, "pays", "(II)I"⟩
abbrev cX7_corrects : ByteArray := prog_9_method_37_code
def yX7_corrects : MethodName := ⟨RX7, "corrects", "(I)I"⟩
abbrev cX7_undo : ByteArray := prog_9_method_38_code
def yX7_undo : MethodName := ⟨RX7, "undo", "()I"⟩
abbrev cX7_now : ByteArray := prog_9_method_39_code
def yX7_now : MethodName := ⟨RX7, "now", "(I)I"⟩
abbrev cX7_at : ByteArray := prog_9_method_40_code
def yX7_at : MethodName := ⟨RX7, "at", "(II)I"⟩
abbrev cX7_worthBy : ByteArray := prog_9_method_41_code
def yX7_worthBy : MethodName := ⟨RX7, "worthBy", "(IIIII)I"⟩
abbrev cX7_mayTurn : ByteArray := prog_9_method_42_code
def yX7_mayTurn : MethodName := ⟨RX7, "mayTurn", "(II)Z"⟩
abbrev cX7_bestOf : ByteArray := prog_9_method_43_code
def yX7_bestOf : MethodName := ⟨RX7, "bestOf", "(IIII)I"⟩
abbrev cX7_findWorths : ByteArray := prog_9_method_44_code
def yX7_findWorths : MethodName := ⟨RX7, "findWorths", "(II)V"⟩
abbrev cX7_paceBy : ByteArray := prog_9_method_45_code
def yX7_paceBy : MethodName := ⟨RX7, "paceBy", "(I)I"⟩
abbrev cX7_daysOf : ByteArray := prog_9_method_46_code
def yX7_daysOf : MethodName := ⟨RX7, "daysOf", "(I)I"⟩
abbrev cX7_soonest : ByteArray := prog_9_method_47_code
def yX7_soonest : MethodName := ⟨RX7, "soonest", "()I"⟩
abbrev cX7_lowest : ByteArray := prog_9_method_48_code
def yX7_lowest : MethodName := ⟨RX7, "lowest", "(III)I"⟩
abbrev cX7_chance : ByteArray := prog_9_method_49_code
def yX7_chance : MethodName := ⟨RX7, "chance", "(II)I"⟩
abbrev cX7_safe : ByteArray := prog_9_method_50_code
def yX7_safe : MethodName := ⟨RX7, "safe", "(I)I"⟩
abbrev cX7_least : ByteArray := prog_9_method_51_code
def yX7_least : MethodName := ⟨RX7, "least", "(II)I"⟩
abbrev cX7_catches : ByteArray := prog_9_method_52_code
def yX7_catches : MethodName := ⟨RX7, "catches", "(I)I"⟩
abbrev cX7_hears : ByteArray := prog_9_method_53_code
def yX7_hears : MethodName := ⟨RX7, "hears", "(III)I"⟩
abbrev cX7_forget : ByteArray := prog_9_method_54_code
def yX7_forget : MethodName := ⟨RX7, "forget", "()I"⟩
abbrev cX7_isHeard : ByteArray := prog_9_method_55_code
def yX7_isHeard : MethodName := ⟨RX7, "isHeard", "(II)Z"⟩
abbrev cX7_comeTo : ByteArray := prog_9_method_56_code
def yX7_comeTo : MethodName := ⟨RX7, "comeTo", "(II)I"⟩
abbrev cX7_goFrom : ByteArray := prog_9_method_57_code
def yX7_goFrom : MethodName := ⟨RX7, "goFrom", "(II)I"⟩
abbrev cX7_findHeard : ByteArray := prog_9_method_58_code
def yX7_findHeard : MethodName := ⟨RX7, "findHeard", "(Z)V"⟩
abbrev cX7_couldOf : ByteArray := prog_9_method_59_code
def yX7_couldOf : MethodName := ⟨RX7, "couldOf", "(I)I"⟩
abbrev cX7_could : ByteArray := prog_9_method_60_code
def yX7_could : MethodName := ⟨RX7, "could", "(I)I"⟩
abbrev cX7_ways : ByteArray := prog_9_method_61_code
def yX7_ways : MethodName := ⟨RX7, "ways", "()I"⟩
abbrev cX7_ask : ByteArray := prog_9_method_62_code
def yX7_ask : MethodName := ⟨RX7, "ask", "()I"⟩
abbrev cX7_mark : ByteArray := prog_9_method_63_code
def yX7_mark : MethodName := ⟨RX7, "mark", "(II)I"⟩
abbrev cX7_keep : ByteArray := prog_9_method_64_code
def yX7_keep : MethodName := ⟨RX7, "keep", "(I)I"⟩
abbrev cX7_back : ByteArray := prog_9_method_65_code
def yX7_back : MethodName := ⟨RX7, "back", "(I)I"⟩
abbrev cX7_count : ByteArray := prog_9_method_66_code
def yX7_count : MethodName := ⟨RX7, "count", "(I)I"⟩
abbrev cX7_trace : ByteArray := prog_9_method_67_code
def yX7_trace : MethodName := ⟨RX7, "trace", "()J"⟩
def RJ6 : String := "java/lang/Integer"
abbrev cJ6_bitCount_0f7a4 : ByteArray := prog_10_method_49_code
def yJ6_bitCount_0f7a4 : MethodName := ⟨RJ6, "bitCount", "(I)I"⟩
def RJ9 : String := "java/lang/Math"
abbrev cJ9_abs_0f7a4 : ByteArray := prog_11_method_59_code
def yJ9_abs_0f7a4 : MethodName := ⟨RJ9, "abs", "(I)I"⟩
abbrev cJ9_max_7cf53 : ByteArray := prog_11_method_65_code
def yJ9_max_7cf53 : MethodName := ⟨RJ9, "max", "(II)I"⟩
abbrev cJ9_min_7cf53 : ByteArray := prog_11_method_69_code
def yJ9_min_7cf53 : MethodName := ⟨RJ9, "min", "(II)I"⟩
def RJ10 : String := "java/lang/System"
def RL : String := "TowerPrisonerLaw"
end
section
/-! THE SMALL MACHINE: whole numbers instead of words, a heap as a list of cells, one method's instructions run till a jump, a call, a return. -/
/-- the words of the tables that a callee may keep -/
def mtb : List Jvm.Cond := lw_tbl.filter goodWord
theorem mtb_in {w : Jvm.Cond} (h : w ∈ lw_tbl) (g : goodWord w = true) : w ∈ mtb := List.mem_filter.mpr ⟨h, g⟩
abbrev mV : Type := Int ⊕ (Int ⊕ Option Nat)
abbrev mC : Type := (Nat × List mV) ⊕ (Bool × Nat × (Nat → Int))
abbrev mH : Type := List mC
abbrev mL : Type := List (Option mV)
abbrev mI : Type := Instr × Nat × Nat
def iN (z : Int) : Int32 := Int32.ofInt z
def jN (z : Int) : Int64 := Int64.ofInt z
abbrev inI (z : Int) : Prop := -2147483648 ≤ z ∧ z ≤ 2147483647
abbrev inJ (z : Int) : Prop := 0 ≤ z ∧ z < 9223372036854775808
abbrev mi (z : Int) : mV := .inl z
abbrev ml (z : Int) : mV := .inr (.inl z)
abbrev mr (k : Nat) : mV := .inr (.inr (some k))
def cV (ad : Nat → Nat) : mV → Value
  | .inl z => .int (iN z)
  | .inr (.inl z) => .long (jN z)
  | .inr (.inr none) => .null
  | .inr (.inr (some k)) => .ref (ad k)
def cC (ad : Nat → Nat) (cI cZ : ClassId) : mC → va_E
  | .inl (ci, fs) => .inr (ci, fs.map (cV ad))
  | .inr (b, n, f) => .inl (cond b cZ cI, n, .inl (fun j => iN (f j)))
def cW (ad : Nat → Nat) (cI cZ : ClassId) (h : mH) : va_W := h.mapIdx (fun k c => (ad k, cC ad cI cZ c))
def mup (f : Nat → Int) (k : Nat) (v : Int) : Nat → Int := fun j => if j = k then v else f j
/-! numbers -/
theorem iN_add (a b : Int) : iN a + iN b = iN (a + b) := (Int32.ofInt_add a b).symm
theorem iN_sub (a b : Int) : iN a - iN b = iN (a - b) := (Int32.ofInt_sub a b).symm
theorem iN_mul (a b : Int) : iN a * iN b = iN (a * b) := (Int32.ofInt_mul a b).symm
theorem iN_neg (a : Int) : -iN a = iN (-a) := Int32.neg_ofInt
theorem iN_t {a : Int} (h : inI a) : (iN a).toInt = a := Int32.toInt_ofInt_of_le h.1 (by have := h.2; omega)
theorem iN_x (x : Int32) : iN x.toInt = x := Int32.ofInt_toInt x
theorem iN_n (n : Nat) : iN (n : Int) = nI n := Int32.ofInt_eq_ofNat
theorem iN_of {a : Int} (h : 0 ≤ a) : iN a = nI a.toNat := by
  have e : ((a.toNat : Nat) : Int) = a := Int.toNat_of_nonneg h
  rw [← iN_n, e]
theorem iN_cl {a : Int} (h : inI a) : (iN a).toNatClampNeg = a.toNat := by
  rw [← Int32.toNat_toInt, iN_t h]
theorem iN_lt {a b : Int} (ha : inI a) (hb : inI b) : iN a < iN b ↔ a < b := by
  rw [Int32.lt_iff_toInt_lt, iN_t ha, iN_t hb]
theorem iN_le {a b : Int} (ha : inI a) (hb : inI b) : iN a ≤ iN b ↔ a ≤ b := by
  rw [Int32.le_iff_toInt_le, iN_t ha, iN_t hb]
theorem iN_eq {a b : Int} (ha : inI a) (hb : inI b) : iN a = iN b ↔ a = b := by
  constructor
  · intro h
    have := congrArg Int32.toInt h
    rwa [iN_t ha, iN_t hb] at this
  · intro h; rw [h]
theorem iN_0 : iN 0 = 0 := rfl
theorem iN_in {i : Int} {n : Nat} (h0 : 0 ≤ i) (h1 : i < n) (hn : n < 65536) : vp_in (iN i) n ∧ (iN i).toNatClampNeg = i.toNat := by
  have hI : inI i := ⟨by omega, by omega⟩
  refine ⟨fun q => ?_, iN_cl hI⟩
  rcases q with q | q
  · rw [← iN_0, iN_lt hI ⟨by omega, by omega⟩] at q; omega
  · rw [iN_cl hI] at q; omega
theorem iN_div {a b : Int} (ha : 0 ≤ a ∧ a ≤ 2147483647) (hb : 0 < b ∧ b ≤ 2147483647) : iN a / iN b = iN (a / b) := by
  obtain ⟨m, rfl⟩ := Int.eq_ofNat_of_zero_le ha.1
  obtain ⟨n, rfl⟩ := Int.eq_ofNat_of_zero_le (Int.le_of_lt hb.1)
  have e : ((m : Int) / (n : Int)) = ((m / n : Nat) : Int) := rfl
  rw [e, iN_n, iN_n, iN_n]
  exact pk_div (by omega) (by omega) (by omega)
theorem iN_rem {a b : Int} (ha : 0 ≤ a ∧ a ≤ 2147483647) (hb : 0 < b ∧ b ≤ 2147483647) : iN a - iN a / iN b * iN b = iN (a % b) := by
  obtain ⟨m, rfl⟩ := Int.eq_ofNat_of_zero_le ha.1
  obtain ⟨n, rfl⟩ := Int.eq_ofNat_of_zero_le (Int.le_of_lt hb.1)
  have e : ((m : Int) % (n : Int)) = ((m % n : Nat) : Int) := rfl
  rw [e, iN_n, iN_n, iN_n]
  exact pk_rem (by omega) (by omega) (by omega)
theorem iN_ne0 {b : Int} (hb : 0 < b ∧ b ≤ 2147483647) : ¬ iN b = 0 := by
  rw [← iN_0, iN_eq ⟨by omega, by omega⟩ ⟨by omega, by omega⟩]; omega
theorem sN_k : ∀ k, k < 32 → ((nI k &&& 31).toBitVec.smod 32).toNat = k := by decide +kernel
theorem uN_k : ∀ k, k < 32 → (((nI k).toUInt32 &&& Int32.toUInt32 31).toBitVec % 32).toNat = k := by decide +kernel
theorem iN_shl {a s : Int} (ha : 0 ≤ a) (hs : 0 ≤ s ∧ s < 31) (hr : a * (2 : Int) ^ s.toNat ≤ 2147483647) : iN a <<< (iN s &&& 31) = iN (a * (2 : Int) ^ s.toNat) := by
  obtain ⟨m, rfl⟩ := Int.eq_ofNat_of_zero_le ha
  obtain ⟨k, rfl⟩ := Int.eq_ofNat_of_zero_le hs.1
  have e : ((m : Int) * (2 : Int) ^ (k : Int).toNat) = ((m * 2 ^ k : Nat) : Int) := by
    rw [Int.toNat_natCast]; simp
  rw [e] at hr ⊢
  rw [iN_n, iN_n, iN_n]
  exact pk_shlN _ k (sN_k k (by omega)) (by omega)
theorem iN_shr {a s : Int} (ha : 0 ≤ a ∧ a ≤ 2147483647) (hs : 0 ≤ s ∧ s < 31) : iN a >>> (iN s &&& 31) = iN (a / (2 : Int) ^ s.toNat) := by
  obtain ⟨m, rfl⟩ := Int.eq_ofNat_of_zero_le ha.1
  obtain ⟨k, rfl⟩ := Int.eq_ofNat_of_zero_le hs.1
  have e : ((m : Int) / (2 : Int) ^ (k : Int).toNat) = ((m / 2 ^ k : Nat) : Int) := by
    rw [Int.toNat_natCast]; simp
  rw [e, iN_n, iN_n, iN_n]
  exact pk_shrN (by omega) _ k (sN_k k (by omega))
theorem iN_ushr {a s : Int} (ha : 0 ≤ a ∧ a ≤ 2147483647) (hs : 0 ≤ s ∧ s < 31) : ((iN a).toUInt32 >>> ((iN s).toUInt32 &&& Int32.toUInt32 31)).toInt32 = iN (a / (2 : Int) ^ s.toNat) := by
  obtain ⟨m, rfl⟩ := Int.eq_ofNat_of_zero_le ha.1
  obtain ⟨k, rfl⟩ := Int.eq_ofNat_of_zero_le hs.1
  have e : ((m : Int) / (2 : Int) ^ (k : Int).toNat) = ((m / 2 ^ k : Nat) : Int) := by
    rw [Int.toNat_natCast]; simp
  rw [e, iN_n, iN_n, iN_n]
  exact pk_ushrN (by omega) _ k (uN_k k (by omega))
def zand (a b : Int) : Int := ((a.toNat &&& b.toNat : Nat) : Int)
def zor (a b : Int) : Int := ((a.toNat ||| b.toNat : Nat) : Int)
theorem nI_bv (n : Nat) : (nI n).toBitVec = BitVec.ofNat 32 n := rfl
theorem iN_and {a b : Int} (ha : 0 ≤ a) (hb : 0 ≤ b) : iN a &&& iN b = iN (zand a b) := by
  rw [iN_of ha, iN_of hb, zand, iN_n]
  apply Int32.toBitVec.inj
  rw [Int32.toBitVec_and, nI_bv, nI_bv, nI_bv]
  apply BitVec.eq_of_getLsbD_eq
  intro i hi
  simp [hi]
theorem iN_or {a b : Int} (ha : 0 ≤ a) (hb : 0 ≤ b) : iN a ||| iN b = iN (zor a b) := by
  rw [iN_of ha, iN_of hb, zor, iN_n]
  apply Int32.toBitVec.inj
  rw [Int32.toBitVec_or, nI_bv, nI_bv, nI_bv]
  apply BitVec.eq_of_getLsbD_eq
  intro i hi
  simp [hi]
theorem jN_add (a b : Int) : jN a + jN b = jN (a + b) := (Int64.ofInt_add a b).symm
theorem jN_mul (a b : Int) : jN a * jN b = jN (a * b) := (Int64.ofInt_mul a b).symm
theorem jN_n (n : Nat) : jN (n : Int) = lN n := Int64.ofInt_eq_ofNat
theorem jN_i {a : Int} (h : inI a) : (iN a).toInt64 = jN a := by
  show Int32.toInt64 (iN a) = Int64.ofInt a
  rw [← Int64.ofInt_int32ToInt, iN_t h]
theorem jN_t32 {a : Int} (h : inI a) : (jN a).toInt32 = iN a := by
  show Int64.toInt32 (jN a) = Int32.ofInt a
  rw [← Int32.ofInt_int64ToInt, jN, Int64.toInt_ofInt_of_le (by have := h.1; omega) (by have := h.2; omega)]
theorem jN_div {a b : Int} (ha : inJ a) (hb : inJ b) (h0 : 0 < b) : jN a / jN b = jN (a / b) := by
  obtain ⟨m, rfl⟩ := Int.eq_ofNat_of_zero_le ha.1
  obtain ⟨n, rfl⟩ := Int.eq_ofNat_of_zero_le hb.1
  have e : ((m : Int) / (n : Int)) = ((m / n : Nat) : Int) := rfl
  rw [e, jN_n, jN_n, jN_n]
  exact pk_lDiv (by have := ha.2; omega) (by omega) (by have := hb.2; omega)
theorem jN_rem {a b : Int} (ha : inJ a) (hb : inJ b) (h0 : 0 < b) : jN a - jN a / jN b * jN b = jN (a % b) := by
  obtain ⟨m, rfl⟩ := Int.eq_ofNat_of_zero_le ha.1
  obtain ⟨n, rfl⟩ := Int.eq_ofNat_of_zero_le hb.1
  have e : ((m : Int) % (n : Int)) = ((m % n : Nat) : Int) := rfl
  rw [e, jN_n, jN_n, jN_n]
  exact pk_lRem (by have := ha.2; omega) (by omega) (by have := hb.2; omega)
theorem jN_ne0 {b : Int} (hb : inJ b) (h0 : 0 < b) : ¬ jN b = 0 := by
  obtain ⟨n, rfl⟩ := Int.eq_ofNat_of_zero_le hb.1
  intro h
  have h2 : lN n = lN 0 := by rw [← jN_n, h]; rfl
  rw [pk_lEQ (by have := hb.2; omega) (by omega)] at h2
  omega
/-! the world of a heap -/
theorem cW_get {ad : Nat → Nat} {cI cZ : ClassId} {h : mH} {k : Nat} {c : mC} (e : h[k]? = some c) : (cW ad cI cZ h)[k]? = some (ad k, cC ad cI cZ c) := by
  unfold cW
  rw [List.getElem?_mapIdx, e]; rfl
theorem cW_set {ad : Nat → Nat} {cI cZ : ClassId} {h : mH} {k : Nat} {c : mC} : cW ad cI cZ (h.set k c) = (cW ad cI cZ h).set k (ad k, cC ad cI cZ c) := by
  unfold cW
  apply List.ext_getElem?
  intro j
  rw [List.getElem?_mapIdx, List.getElem?_set, List.getElem?_set, List.getElem?_mapIdx, List.length_mapIdx]
  by_cases hj : k = j
  · subst hj
    by_cases hl : k < h.length <;> simp [hl]
  · simp [hj]
theorem cC_arr {ad : Nat → Nat} {cI cZ : ClassId} {b : Bool} {n : Nat} {f : Nat → Int} {i : Nat} {v : Int} : cC ad cI cZ (.inr (b, n, mup f i v)) = .inl (cond b cZ cI, n, .inl (upd (fun j => iN (f j)) i (iN v))) := by
  have e : (fun j => iN (mup f i v j)) = upd (fun j => iN (f j)) i (iN v) := by
    funext j
    show iN (mup f i v j) = if j = i then iN v else iN (f j)
    unfold mup
    by_cases hj : j = i <;> simp [hj]
  show (Sum.inl _ : va_E) = _
  rw [e]
end
section
/-! one instruction; a stretch of them -/
def m1 (st : List mV) (f : Int → List mV → Prop) : Prop := match st with
  | .inl a :: r => f a r
  | _ => False
def m2 (st : List mV) (f : Int → Int → List mV → Prop) : Prop := match st with
  | .inl b :: .inl a :: r => f a b r
  | _ => False
def n1 (st : List mV) (f : Int → List mV → Prop) : Prop := match st with
  | .inr (.inl a) :: r => f a r
  | _ => False
def n2 (st : List mV) (f : Int → Int → List mV → Prop) : Prop := match st with
  | .inr (.inl b) :: .inr (.inl a) :: r => f a b r
  | _ => False
def mclr (L : mL) (i : Nat) : mL := match i with
  | 0 => L
  | k + 1 => match L[k]? with
    | some (some (.inr (.inl _))) => L.set k none
    | _ => L
def mst (L : mL) (i : Nat) (v : mV) : mL := (mclr L i).set i (some v)
def mstl (L : mL) (i : Nat) (v : mV) : mL := ((mclr L i).set (i + 1) none).set i (some v)
def mldi (L : mL) (i : Nat) (f : Int → Prop) : Prop := match L[i]? with
  | some (some (.inl z)) => f z
  | _ => False
def mldl (L : mL) (i : Nat) (f : Int → Prop) : Prop := match L[i]? with
  | some (some (.inr (.inl z))) => f z
  | _ => False
def mlda (L : mL) (i : Nat) (f : Nat → Prop) : Prop := match L[i]? with
  | some (some (.inr (.inr (some z)))) => f z
  | _ => False
def mtsw (pc : Nat) (lo : Int) (z : Int) (g : Nat → Prop) : List Int → Prop
  | [] => True
  | o :: os => (z = lo → g ((pc : Int) + o).toNat) ∧ mtsw pc (lo + 1) z g os
def mlsw (pc : Nat) (z : Int) (g : Nat → Prop) : List (Int × Int) → Prop
  | [] => True
  | o :: os => (z = o.1 → g ((pc : Int) + o.2).toNat) ∧ mlsw pc z g os
def mfit (tg : Nat) (v : mV) : Prop := match tg, v with
  | 0, .inl _ => True
  | 1, .inl z => z = 0 ∨ z = 1
  | 2, .inr (.inl _) => True
  | 3, .inr (.inr (some _)) => True
  | _, _ => False
/-- one instruction: K goes on behind it, G at a place that is jumped to, and where the walk stops -/
def stp (fT : Nat → Option (Nat × Nat × Nat)) (kT kJ : Nat → Option Int) (i : Instr) (tg pc : Nat) (L : mL) (st : List mV) (h : mH) (K : mL → List mV → mH → Prop) (G : Nat → mL → List mV → mH → Prop) : Prop := match i with
  | .iconst n => K L (.inl n :: st) h
  | .bipush n => K L (.inl n :: st) h
  | .sipush n => K L (.inl n :: st) h
  | .ldc x => match kT x with
    | some z => K L (.inl z :: st) h
    | none => False
  | .ldc_w x => match kT x with
    | some z => K L (.inl z :: st) h
    | none => False
  | .lconst n => K L (.inr (.inl ((n : Nat) : Int)) :: st) h
  | .ldc2_w x => match kJ x with
    | some z => K L (.inr (.inl z) :: st) h
    | none => False
  | .iload n => mldi L n fun z => K L (.inl z :: st) h
  | .iload_n n => mldi L n fun z => K L (.inl z :: st) h
  | .lload n => mldl L n fun z => K L (.inr (.inl z) :: st) h
  | .lload_n n => mldl L n fun z => K L (.inr (.inl z) :: st) h
  | .aload n => mlda L n fun z => K L (.inr (.inr (some z)) :: st) h
  | .aload_n n => mlda L n fun z => K L (.inr (.inr (some z)) :: st) h
  | .istore n => m1 st fun a r => K (mst L n (.inl a)) r h
  | .istore_n n => m1 st fun a r => K (mst L n (.inl a)) r h
  | .lstore n => n1 st fun a r => K (mstl L n (.inr (.inl a))) r h
  | .lstore_n n => n1 st fun a r => K (mstl L n (.inr (.inl a))) r h
  | .astore n => match st with
    | .inr (.inr (some a)) :: r => K (mst L n (.inr (.inr (some a)))) r h
    | _ => False
  | .astore_n n => match st with
    | .inr (.inr (some a)) :: r => K (mst L n (.inr (.inr (some a)))) r h
    | _ => False
  | .iinc n d => mldi L n fun z => K (mst L n (.inl (z + d))) st h
  | .iadd => m2 st fun a b r => K L (.inl (a + b) :: r) h
  | .isub => m2 st fun a b r => K L (.inl (a - b) :: r) h
  | .imul => m2 st fun a b r => K L (.inl (a * b) :: r) h
  | .ineg => m1 st fun a r => K L (.inl (-a) :: r) h
  | .idiv => m2 st fun a b r => ((0 ≤ a ∧ a ≤ 2147483647) ∧ 0 < b ∧ b ≤ 2147483647) ∧ K L (.inl (a / b) :: r) h
  | .irem => m2 st fun a b r => ((0 ≤ a ∧ a ≤ 2147483647) ∧ 0 < b ∧ b ≤ 2147483647) ∧ K L (.inl (a % b) :: r) h
  | .ishl => m2 st fun a b r => (0 ≤ a ∧ (0 ≤ b ∧ b < 31) ∧ a * (2 : Int) ^ b.toNat ≤ 2147483647) ∧ K L (.inl (a * (2 : Int) ^ b.toNat) :: r) h
  | .ishr => m2 st fun a b r => ((0 ≤ a ∧ a ≤ 2147483647) ∧ 0 ≤ b ∧ b < 31) ∧ K L (.inl (a / (2 : Int) ^ b.toNat) :: r) h
  | .iushr => m2 st fun a b r => ((0 ≤ a ∧ a ≤ 2147483647) ∧ 0 ≤ b ∧ b < 31) ∧ K L (.inl (a / (2 : Int) ^ b.toNat) :: r) h
  | .iand => m2 st fun a b r => (0 ≤ a ∧ 0 ≤ b) ∧ K L (.inl (zand a b) :: r) h
  | .ior => m2 st fun a b r => (0 ≤ a ∧ 0 ≤ b) ∧ K L (.inl (zor a b) :: r) h
  | .i2l => m1 st fun a r => inI a ∧ K L (.inr (.inl a) :: r) h
  | .l2i => n1 st fun a r => inI a ∧ K L (.inl a :: r) h
  | .ladd => n2 st fun a b r => K L (.inr (.inl (a + b)) :: r) h
  | .lmul => n2 st fun a b r => K L (.inr (.inl (a * b)) :: r) h
  | .ldiv => n2 st fun a b r => (inJ a ∧ inJ b ∧ 0 < b) ∧ K L (.inr (.inl (a / b)) :: r) h
  | .lrem => n2 st fun a b r => (inJ a ∧ inJ b ∧ 0 < b) ∧ K L (.inr (.inl (a % b)) :: r) h
  | .dup => match st with
    | .inl a :: r => K L (.inl a :: .inl a :: r) h
    | .inr (.inr a) :: r => K L (.inr (.inr a) :: .inr (.inr a) :: r) h
    | _ => False
  | .dup2 => match st with
    | .inl b :: .inr (.inr a) :: r => K L (.inl b :: .inr (.inr a) :: .inl b :: .inr (.inr a) :: r) h
    | _ => False
  | .getfield x => match fT x, st with
    | some (ci, k, _), .inr (.inr (some a)) :: r => match h[a]? with
      | some (.inl (cj, fs)) => match fs[k]? with
        | some v => cj = ci ∧ K L (v :: r) h
        | none => False
      | _ => False
    | _, _ => False
  | .putfield x => match fT x, st with
    | some (ci, k, tg), v :: .inr (.inr (some a)) :: r => match h[a]? with
      | some (.inl (cj, fs)) => (cj = ci ∧ k < fs.length ∧ mfit tg v) ∧ K L r (h.set a (.inl (cj, fs.set k v)))
      | _ => False
    | _, _ => False
  | .iaload => match st with
    | .inl i :: .inr (.inr (some a)) :: r => match h[a]? with
      | some (.inr (false, n, f)) => (n < 65536 ∧ 0 ≤ i ∧ i < n) ∧ K L (.inl (f i.toNat) :: r) h
      | _ => False
    | _ => False
  | .iastore => match st with
    | .inl v :: .inl i :: .inr (.inr (some a)) :: r => match h[a]? with
      | some (.inr (false, n, f)) => (n < 65536 ∧ 0 ≤ i ∧ i < n) ∧ K L r (h.set a (.inr (false, n, mup f i.toNat v)))
      | _ => False
    | _ => False
  | .baload => match st with
    | .inl i :: .inr (.inr (some a)) :: r => match h[a]? with
      | some (.inr (true, n, f)) => (n < 65536 ∧ 0 ≤ i ∧ i < n) ∧ K L (.inl (f i.toNat) :: r) h
      | _ => False
    | _ => False
  | .bastore => match st with
    | .inl v :: .inl i :: .inr (.inr (some a)) :: r => match h[a]? with
      | some (.inr (true, n, f)) => ((v = 0 ∨ v = 1) ∧ n < 65536 ∧ 0 ≤ i ∧ i < n) ∧ K L r (h.set a (.inr (true, n, mup f i.toNat v)))
      | _ => False
    | _ => False
  | .arraylength => match st with
    | .inr (.inr (some a)) :: r => match h[a]? with
      | some (.inr (_, n, _)) => n < 65536 ∧ K L (.inl (n : Int) :: r) h
      | _ => False
    | _ => False
  | .goto _ => G tg L st h
  | .ifCond c _ => m1 st fun a r => inI a ∧ (match c with
    | .eq => (a = 0 → G tg L r h) ∧ (¬ a = 0 → K L r h)
    | .ne => (¬ a = 0 → G tg L r h) ∧ (a = 0 → K L r h)
    | .lt => (a < 0 → G tg L r h) ∧ (¬ a < 0 → K L r h)
    | .ge => (0 ≤ a → G tg L r h) ∧ (¬ 0 ≤ a → K L r h)
    | .gt => (0 < a → G tg L r h) ∧ (¬ 0 < a → K L r h)
    | .le => (a ≤ 0 → G tg L r h) ∧ (¬ a ≤ 0 → K L r h))
  | .if_icmp c _ => m2 st fun a b r => (inI a ∧ inI b) ∧ (match c with
    | .eq => (a = b → G tg L r h) ∧ (¬ a = b → K L r h)
    | .ne => (¬ a = b → G tg L r h) ∧ (a = b → K L r h)
    | .lt => (a < b → G tg L r h) ∧ (¬ a < b → K L r h)
    | .ge => (b ≤ a → G tg L r h) ∧ (¬ b ≤ a → K L r h)
    | .gt => (b < a → G tg L r h) ∧ (¬ b < a → K L r h)
    | .le => (a ≤ b → G tg L r h) ∧ (¬ a ≤ b → K L r h))
  | .tableswitch d lo hi os => m1 st fun z r => inI z ∧ (z < lo ∨ hi < z → G ((pc : Int) + d).toNat L r h) ∧ mtsw pc lo z (fun t => G t L r h) os.toList
  | .lookupswitch d ps => m1 st fun z r => inI z ∧ ((∀ q ∈ ps.toList, z ≠ q.1) → G ((pc : Int) + d).toNat L r h) ∧ mlsw pc z (fun t => G t L r h) ps.toList
  | _ => G pc L st h
def blk (fT : Nat → Option (Nat × Nat × Nat)) (kT kJ : Nat → Option Int) (G : Nat → mL → List mV → mH → Prop) : Nat → List mI → mL → List mV → mH → Prop
  | pc, [], L, st, h => G pc L st h
  | pc, (i, len, tg) :: r, L, st, h => stp fT kT kJ i tg pc L st h (fun L st h => blk fT kT kJ G (pc + len) r L st h) G
def sfx : Nat → List mI → Nat → List mI
  | _, [], _ => []
  | pc, (i, len, tg) :: r, t => match Nat.beq pc t with
    | true => (i, len, tg) :: r
    | false => sfx (pc + len) r t
/-- an instruction's length, its goal, its numbers, as the rows want them -/
def sane (nL pc : Nat) (i : Instr) (len tg : Nat) : Bool := match i with
  | .bipush n => len == 2 && decide (-128 ≤ n ∧ n ≤ 127)
  | .sipush n => len == 3 && decide (-32768 ≤ n ∧ n ≤ 32767)
  | .ldc _ => len == 2
  | .ldc2_w _ => len == 3
  | .ldc_w _ => len == 3
  | .iload _ => len == 2
  | .lload _ => len == 2
  | .aload _ => len == 2
  | .istore n => len == 2 && Nat.blt n nL
  | .istore_n n => len == 1 && Nat.blt n nL
  | .lstore n => len == 2 && Nat.blt (n + 1) nL
  | .lstore_n n => len == 1 && Nat.blt (n + 1) nL
  | .astore n => len == 2 && Nat.blt n nL
  | .astore_n n => len == 1 && Nat.blt n nL
  | .iinc n _ => len == 3 && Nat.blt n nL
  | .getfield _ => len == 3
  | .putfield _ => len == 3
  | .goto o => len == 3 && decide ((pc : Int) + o = (tg : Int))
  | .ifCond _ o => len == 3 && decide ((pc : Int) + o = (tg : Int))
  | .if_icmp _ o => len == 3 && decide ((pc : Int) + o = (tg : Int))
  | .tableswitch d lo hi os => decide (0 ≤ (pc : Int) + d ∧ inI lo ∧ inI hi ∧ hi - lo + 1 = os.size ∧ ∀ o ∈ os.toList, 0 ≤ (pc : Int) + o)
  | .lookupswitch d ps => decide (0 ≤ (pc : Int) + d ∧ ∀ o ∈ ps.toList, 0 ≤ (pc : Int) + o.2 ∧ inI o.1) && (ps.toList.zip (ps.toList.drop 1)).all (fun (a, next) => a.1 < next.1)
  | .invokevirtual _ => len == 3
  | .invokespecial _ => len == 3
  | .invokestatic _ => len == 3
  | .new _ => len == 3
  | .newarray _ => len == 2
  | _ => len == 1
def okb (cc : ByteArray) (nL : Nat) : Nat → List mI → Bool
  | _, [] => true
  | pc, (i, len, tg) :: r => decide (decode cc pc = .ok (i, len)) && (sane nL pc i len tg && okb cc nL (pc + len) r)
theorem okb_sfx {cc : ByteArray} {nL t : Nat} : ∀ {pc : Nat} {l : List mI}, okb cc nL pc l = true → okb cc nL t (sfx pc l t) = true
  | _, [], _ => rfl
  | pc, (i, len, tg) :: r, h => by
    unfold sfx
    split
    · rename_i e
      have e := Nat.eq_of_beq_eq_true e
      subst e; exact h
    · simp only [okb, Bool.and_eq_true] at h
      exact okb_sfx h.2.2
theorem okb_head {cc : ByteArray} {nL pc len tg : Nat} {i : Instr} {r : List mI} (h : okb cc nL pc ((i, len, tg) :: r) = true) : decode cc pc = .ok (i, len) ∧ sane nL pc i len tg = true ∧ okb cc nL (pc + len) r = true := by
  simp only [okb, Bool.and_eq_true, decide_eq_true_eq] at h
  exact h
end
section
/-! the locals -/
def mll (ad : Nat → Nat) (L : mL) : List (Nat × Value) := (List.range L.length).filterMap (fun k => match L[k]? with
  | some (some v) => some (k, cV ad v)
  | _ => none)
theorem mem_mll {ad : Nat → Nat} {L : mL} {k : Nat} {w : Value} : (k, w) ∈ mll ad L ↔ ∃ v, L[k]? = some (some v) ∧ w = cV ad v := by
  unfold mll
  rw [List.mem_filterMap]
  constructor
  · rintro ⟨j, -, hj⟩
    split at hj
    · rename_i v hv
      cases hj
      exact ⟨v, hv, rfl⟩
    · cases hj
  · rintro ⟨v, hv, rfl⟩
    refine ⟨k, List.mem_range.mpr (List.getElem?_eq_some_iff.mp hv).1, ?_⟩
    rw [hv]
def mLs (ad : Nat → Nat) (nL : Nat) (ls : Array Slot) (L : mL) : Prop := L.length = nL ∧ lv_has ls nL (mll ad L)
theorem mLs.at {ad : Nat → Nat} {nL : Nat} {ls : Array Slot} {L : mL} (h : mLs ad nL ls L) {k : Nat} {v : mV} (e : L[k]? = some (some v)) : ls[k]? = some (.val (cV ad v)) := h.2.2.2 (k, cV ad v) (mem_mll.mpr ⟨v, e, rfl⟩)
theorem mclr_len {L : mL} {i : Nat} : (mclr L i).length = L.length := by
  unfold mclr
  split
  · rfl
  · split <;> simp
theorem mclr_get {L : mL} {i k : Nat} {w : mV} (hk : k ≠ i) (h : (mclr L i)[k]? = some (some w)) : L[k]? = some (some w) ∧ ¬ (k + 1 = i ∧ ∃ z, w = .inr (.inl z)) := by
  unfold mclr at h
  split at h
  · exact ⟨h, fun q => by omega⟩
  · rename_i j
    split at h
    · rename_i z hz
      rw [List.getElem?_set] at h
      by_cases hj : j = k
      · rw [if_pos hj] at h
        split at h <;> cases h
      · rw [if_neg hj] at h
        exact ⟨h, fun q => hj (by omega)⟩
    · rename_i hz
      refine ⟨h, ?_⟩
      rintro ⟨q, z, rfl⟩
      have e : k = j := by omega
      subst e
      exact hz z h
theorem cV_cat {ad : Nat → Nat} {v : mV} (h : (cV ad v).category = 2) : ∃ z, v = .inr (.inl z) := by
  match v with
  | .inl z => cases h
  | .inr (.inl z) => exact ⟨z, rfl⟩
  | .inr (.inr none) => cases h
  | .inr (.inr (some k)) => cases h
theorem cV_cat1 {ad : Nat → Nat} {v : mV} (h : ∀ z, v ≠ .inr (.inl z)) : (cV ad v).category = 1 := by
  match v with
  | .inl z => rfl
  | .inr (.inl z) => exact absurd rfl (h z)
  | .inr (.inr none) => rfl
  | .inr (.inr (some k)) => rfl
theorem mLs.st1 {ad : Nat → Nat} {nL : Nat} {ls : Array Slot} {L : mL} {i : Nat} {v : mV} (hL : L.length = nL) (h : lv_has ls nL ((i, cV ad v) :: (mll ad L).filter (fun q => !(q.1 == i) && !(q.1 + 1 == i && q.2.category == 2)))) : mLs ad nL ls (mst L i v) := by
  refine ⟨by rw [mst, List.length_set, mclr_len, hL], h.1, h.2.1, ?_⟩
  rintro ⟨k, w⟩ hq
  obtain ⟨x, hx, rfl⟩ := mem_mll.mp hq
  unfold mst at hx
  rw [List.getElem?_set] at hx
  by_cases hk : i = k
  · subst hk
    rw [if_pos rfl] at hx
    split at hx
    · cases hx
      exact h.2.2 (i, cV ad v) List.mem_cons_self
    · cases hx
  · rw [if_neg hk] at hx
    obtain ⟨h1, h2⟩ := mclr_get (fun q => hk q.symm) hx
    refine h.2.2 (k, cV ad x) (List.mem_cons_of_mem _ (List.mem_filter.mpr ⟨mem_mll.mpr ⟨x, h1, rfl⟩, ?_⟩))
    have hk' : ¬ k = i := fun q => hk q.symm
    by_cases hc : (cV ad x).category = 2
    · have h3 : ¬ k + 1 = i := fun q => h2 ⟨q, cV_cat hc⟩
      simp [h3, hk']
    · simp [hc, hk']
theorem mLs.st2 {ad : Nat → Nat} {nL : Nat} {ls : Array Slot} {L : mL} {i : Nat} {v : mV} (hL : L.length = nL) (h : lv_has ls nL ((i, cV ad v) :: (mll ad L).filter (fun q => !(q.1 == i) && (!(q.1 == i + 1) && !(q.1 + 1 == i && q.2.category == 2))))) : mLs ad nL ls (mstl L i v) := by
  refine ⟨by rw [mstl, List.length_set, List.length_set, mclr_len, hL], h.1, h.2.1, ?_⟩
  rintro ⟨k, w⟩ hq
  obtain ⟨x, hx, rfl⟩ := mem_mll.mp hq
  unfold mstl at hx
  rw [List.getElem?_set] at hx
  by_cases hk : i = k
  · subst hk
    rw [if_pos rfl] at hx
    split at hx
    · cases hx
      exact h.2.2 (i, cV ad v) List.mem_cons_self
    · cases hx
  · rw [if_neg hk, List.getElem?_set] at hx
    by_cases hk1 : i + 1 = k
    · rw [if_pos hk1] at hx
      split at hx <;> cases hx
    · rw [if_neg hk1] at hx
      obtain ⟨h1, h2⟩ := mclr_get (fun q => hk q.symm) hx
      refine h.2.2 (k, cV ad x) (List.mem_cons_of_mem _ (List.mem_filter.mpr ⟨mem_mll.mpr ⟨x, h1, rfl⟩, ?_⟩))
      have hk' : ¬ k = i := fun q => hk q.symm
      have hk1' : ¬ k = i + 1 := fun q => hk1 q.symm
      by_cases hc : (cV ad x).category = 2
      · have h3 : ¬ k + 1 = i := fun q => h2 ⟨q, cV_cat hc⟩
        simp [h3, hk', hk1']
      · simp [hc, hk', hk1']
/-- fewer locals -/
def mle : mL → mL → Prop
  | [], [] => True
  | none :: a, _ :: b => mle a b
  | some v :: a, some w :: b => v = w ∧ mle a b
  | _, _ => False
theorem mle_len : ∀ {a b : mL}, mle a b → a.length = b.length
  | [], [], _ => rfl
  | none :: a, _ :: b, h => by rw [List.length_cons, List.length_cons, mle_len (a := a) (b := b) h]
  | some v :: a, some w :: b, h => by rw [List.length_cons, List.length_cons, mle_len (a := a) (b := b) h.2]
theorem mle_get : ∀ {a b : mL}, mle a b → ∀ {k : Nat} {v : mV}, a[k]? = some (some v) → b[k]? = some (some v)
  | [], [], _, k, v, h => by cases h
  | none :: a, _ :: b, h, 0, v, e => by cases e
  | none :: a, _ :: b, h, k + 1, v, e => mle_get (a := a) (b := b) h (k := k) (by simpa using e)
  | some x :: a, some y :: b, h, 0, v, e => by
    obtain ⟨rfl, -⟩ := h
    simpa using e
  | some x :: a, some y :: b, h, k + 1, v, e => by
    have := mle_get (a := a) (b := b) h.2 (k := k) (v := v) (by simpa using e)
    simpa using this
theorem mLs.fewer {ad : Nat → Nat} {nL : Nat} {ls : Array Slot} {L L' : mL} (h : mLs ad nL ls L) (hl : mle L' L) : mLs ad nL ls L' := by
  refine ⟨by rw [mle_len hl]; exact h.1, h.2.1, h.2.2.1, ?_⟩
  rintro ⟨k, w⟩ hq
  obtain ⟨x, hx, rfl⟩ := mem_mll.mp hq
  exact h.at (mle_get hl hx)
end
section
/-! one instruction is sound -/
/-- the eight classes of the system -/
abbrev mcl : List vw_C := [(RX0, TX0, 4), (RX1, TX1, 5), (RX2, TX2, 5), (RX3, TX3, 3), (RX4, TX4, 10), (RX5, TX5, 9), (RX6, TX6, 10), (RX7, TX7, 35)]
def mtys (cI cZ : ClassId) : List (ClassId × FieldType) := [(cI, .int), (cZ, .boolean)]
/-- what a field's number says: its class, its place, its kind -/
def mfok (own : String) (x : Nat) (q : Nat × Nat × Nat) : Prop :=
  ∃ (C : String) (T : u_T) (N : Nat) (t0 : Nat → FieldType) (ty : FieldType), mcl[q.1]? = some (C, T, N) ∧ q.2.1 < N ∧ (∀ w ∈ u_ws C T N, w ∈ mtb) ∧ (∀ k, k < N → parseFieldDescriptor (T k).2.2.1 = some (t0 k)) ∧ (∀ a, a < N → ∀ b, b < N → a ≠ b → (T a).2.1 ≠ (T b).2.1) ∧
    Cond.fieldLink own x (T q.2.1).1 (T q.2.1).2.1 (T q.2.1).2.2.1 ∈ mtb ∧ parseFieldDescriptor (T q.2.1).2.2.1 = some ty ∧
    (match q.2.2 with | 0 => ty = .int ∧ (T q.2.1).2.2.2 = false | 1 => ty = .boolean ∧ (T q.2.1).2.2.2 = false | 2 => ty = .long ∧ (T q.2.1).2.2.2 = false | 3 => ((∃ D, ty = .object D) ∨ ty = .array .int) ∧ (T q.2.1).2.2.2 = false | _ => True)
def mFT (own : String) (fT : Nat → Option (Nat × Nat × Nat)) : Prop := ∀ x q, fT x = some q → mfok own x q
def mKT (own : String) (kT : Nat → Option Int) : Prop := ∀ x z, kT x = some z → Cond.constant own x (iN z) ∈ mtb
def mKJ (own : String) (kJ : Nat → Option Int) : Prop := ∀ x z, kJ x = some z → Cond.constantLong own x (jN z) ∈ mtb
section MG
variable {p : Program} {l : Launch} {e : Env} {R : Room} {s : State} {m : MethodId} {args : Array Value} {below : List Frame} {meth : Method} {c : Code} {Q : State → Prop}
variable {dC : Nat → ClassId} {dI : Nat → Nat → Nat} {cI cZ : ClassId} {ad : Nat → Nat} {A : Nat → Prop} {H0 : Heap} {nL : Nat} {cc : ByteArray} {own : String}
/-- the walk stands at pc with these locals, this stack, this heap -/
def mG (p : Program) (l : Launch) (e : Env) (R : Room) (s : State) (m : MethodId) (args : Array Value) (below : List Frame) (meth : Method) (c : Code) (Q : State → Prop) (dC : Nat → ClassId) (dI : Nat → Nat → Nat) (cI cZ : ClassId) (ad : Nat → Nat) (A : Nat → Prop) (H0 : Heap) (nL : Nat) (pc : Nat) (L : mL) (st : List mV) (h : mH) : Prop :=
  ∀ (H : Heap) (locs : List Loc) (ls : Array Slot), va_P (dC, dI) mcl (cW ad cI cZ h) H → va_D A (cW ad cI cZ h) → va_S A H0 H locs → mLs ad nL ls L → W p l e R s m args below meth c H locs 0 0 Q (F0 m pc ls (st.map (cV ad)))
/-- the links to a nest mate's private method -/
def mNst (U : State) : Prop := va_Nw (.methodLinkNest RX1 75 yX6_isBeyond "TowerPrisoner") U ∧ va_Nw (.methodLinkNest RX3 100 yX6_isBeyond "TowerPrisoner") U
theorem mNst.warm {s U : State} (hW : s.WarmedH U.vm) (h : mNst s) : mNst U := ⟨va_Nw.warmM hW h.1, va_Nw.warmM hW h.2⟩
/-- what a walk has in common -/
def mCtx (p : Program) (s : State) (m : MethodId) (args : Array Value) (c : Code) (dC : Nat → ClassId) (dI : Nat → Nat → Nat) (cI cZ : ClassId) (cc : ByteArray) (own : String) (nL : Nat) : Prop :=
  p.tables.exec = Jvm.exec ∧ c.code = cc ∧ s.vm.findClass own = some m.cls ∧ (∀ w ∈ mtb, w.before args s = true) ∧ va_K (dC, dI) mcl (mtys cI cZ) s ∧ c.maxLocals = nL ∧ mNst s
theorem m1_e {st : List mV} {f : Int → List mV → Prop} (h : m1 st f) : ∃ a r, st = .inl a :: r ∧ f a r := by
  unfold m1 at h
  split at h
  · exact ⟨_, _, rfl, h⟩
  · exact h.elim
theorem m2_e {st : List mV} {f : Int → Int → List mV → Prop} (h : m2 st f) : ∃ a b r, st = .inl b :: .inl a :: r ∧ f a b r := by
  unfold m2 at h
  split at h
  · exact ⟨_, _, _, rfl, h⟩
  · exact h.elim
theorem n1_e {st : List mV} {f : Int → List mV → Prop} (h : n1 st f) : ∃ a r, st = .inr (.inl a) :: r ∧ f a r := by
  unfold n1 at h
  split at h
  · exact ⟨_, _, rfl, h⟩
  · exact h.elim
theorem n2_e {st : List mV} {f : Int → Int → List mV → Prop} (h : n2 st f) : ∃ a b r, st = .inr (.inl b) :: .inr (.inl a) :: r ∧ f a b r := by
  unfold n2 at h
  split at h
  · exact ⟨_, _, _, rfl, h⟩
  · exact h.elim
theorem mldi_e {L : mL} {i : Nat} {f : Int → Prop} (h : mldi L i f) : ∃ z, L[i]? = some (some (.inl z)) ∧ f z := by
  unfold mldi at h
  split at h
  · rename_i z hz; exact ⟨z, hz, h⟩
  · exact h.elim
theorem mldl_e {L : mL} {i : Nat} {f : Int → Prop} (h : mldl L i f) : ∃ z, L[i]? = some (some (.inr (.inl z))) ∧ f z := by
  unfold mldl at h
  split at h
  · rename_i z hz; exact ⟨z, hz, h⟩
  · exact h.elim
theorem mlda_e {L : mL} {i : Nat} {f : Nat → Prop} (h : mlda L i f) : ∃ z, L[i]? = some (some (.inr (.inr (some z)))) ∧ f z := by
  unfold mlda at h
  split at h
  · rename_i z hz; exact ⟨z, hz, h⟩
  · exact h.elim
theorem mtsw_e {pc : Nat} {z : Int} {g : Nat → Prop} : ∀ {os : List Int} {lo : Int}, mtsw pc lo z g os → ∀ (k : Nat) (o : Int), os[k]? = some o → z = lo + k → g ((pc : Int) + o).toNat
  | [], _, _, k, o, e, _ => by cases e
  | x :: os, lo, h, 0, o, e, hz => by
    obtain ⟨h1, -⟩ := h
    cases e
    exact h1 (by omega)
  | x :: os, lo, h, k + 1, o, e, hz => mtsw_e h.2 k o (by simpa using e) (by omega)
theorem mlsw_e {pc : Nat} {z : Int} {g : Nat → Prop} : ∀ {os : List (Int × Int)}, mlsw pc z g os → ∀ o ∈ os, z = o.1 → g ((pc : Int) + o.2).toNat
  | [], _, o, e, _ => by cases e
  | x :: os, h, o, e, hz => by
    rcases List.mem_cons.mp e with rfl | q
    · exact h.1 hz
    · exact mlsw_e h.2 o q hz
theorem i8 {n : Int} (h : -128 ≤ n ∧ n ≤ 127) : (Int8.ofInt n).toInt32 = iN n := by
  rw [← Int32.ofInt_int8ToInt, Int8.toInt_ofInt_of_le (by omega) (by omega)]; rfl
theorem i16 {n : Int} (h : -32768 ≤ n ∧ n ≤ 32767) : (Int16.ofInt n).toInt32 = iN n := by
  rw [← Int32.ofInt_int16ToInt, Int16.toInt_ofInt_of_le (by omega) (by omega)]; rfl
end MG
end
section
/-! every instruction of the small machine is sound -/
section SO
variable {p : Program} {l : Launch} {e : Env} {R : Room} {s : State} {m : MethodId} {args : Array Value} {below : List Frame} {meth : Method} {c : Code} {Q : State → Prop}
variable {dC : Nat → ClassId} {dI : Nat → Nat → Nat} {cI cZ : ClassId} {ad : Nat → Nat} {A : Nat → Prop} {H0 : Heap} {nL : Nat} {cc : ByteArray} {own : String}
variable {fT : Nat → Option (Nat × Nat × Nat)} {kT kJ : Nat → Option Int} {len tg pc : Nat} {L : mL} {st : List mV} {h : mH} {K : mL → List mV → mH → Prop} {G : Nat → mL → List mV → mH → Prop}
theorem so_iconst {n : Int} (C : mCtx p s m args c dC dI cI cZ cc own nL) (hF : mFT own fT) (hk : mKT own kT) (hJ : mKJ own kJ) (hd : decode cc pc = .ok (.iconst n, len)) (hs : sane nL pc (.iconst n) len tg = true) (hK : ∀ L st h, K L st h → mG p l e R s m args below meth c Q dC dI cI cZ ad A H0 nL (pc + len) L st h) (hG : ∀ t L st h, G t L st h → mG p l e R s m args below meth c Q dC dI cI cZ ad A H0 nL t L st h) (hyp : stp fT kT kJ (.iconst n) tg pc L st h K G) : mG p l e R s m args below meth c Q dC dI cI cZ ad A H0 nL pc L st h := by
  obtain ⟨hx, hb, hown, hts, hw, hml, hnst⟩ := C
  obtain rfl : len = 1 := by simpa [sane] using hs
  intro H locs ls hP hD hS hL
  exact lv_iconst hx hb hd rfl (hK _ _ _ hyp H locs ls hP hD hS hL)
theorem so_bipush {n : Int} (C : mCtx p s m args c dC dI cI cZ cc own nL) (hF : mFT own fT) (hk : mKT own kT) (hJ : mKJ own kJ) (hd : decode cc pc = .ok (.bipush n, len)) (hs : sane nL pc (.bipush n) len tg = true) (hK : ∀ L st h, K L st h → mG p l e R s m args below meth c Q dC dI cI cZ ad A H0 nL (pc + len) L st h) (hG : ∀ t L st h, G t L st h → mG p l e R s m args below meth c Q dC dI cI cZ ad A H0 nL t L st h) (hyp : stp fT kT kJ (.bipush n) tg pc L st h K G) : mG p l e R s m args below meth c Q dC dI cI cZ ad A H0 nL pc L st h := by
  obtain ⟨hx, hb, hown, hts, hw, hml, hnst⟩ := C
  obtain ⟨rfl, hs2⟩ : len = 2 ∧ (-128 ≤ n ∧ n ≤ 127) := by simpa [sane] using hs
  intro H locs ls hP hD hS hL
  exact lv_bipush hx hb hd (i8 hs2) (hK _ _ _ hyp H locs ls hP hD hS hL)
theorem so_sipush {n : Int} (C : mCtx p s m args c dC dI cI cZ cc own nL) (hF : mFT own fT) (hk : mKT own kT) (hJ : mKJ own kJ) (hd : decode cc pc = .ok (.sipush n, len)) (hs : sane nL pc (.sipush n) len tg = true) (hK : ∀ L st h, K L st h → mG p l e R s m args below meth c Q dC dI cI cZ ad A H0 nL (pc + len) L st h) (hG : ∀ t L st h, G t L st h → mG p l e R s m args below meth c Q dC dI cI cZ ad A H0 nL t L st h) (hyp : stp fT kT kJ (.sipush n) tg pc L st h K G) : mG p l e R s m args below meth c Q dC dI cI cZ ad A H0 nL pc L st h := by
  obtain ⟨hx, hb, hown, hts, hw, hml, hnst⟩ := C
  obtain ⟨rfl, hs2⟩ : len = 3 ∧ (-32768 ≤ n ∧ n ≤ 32767) := by simpa [sane] using hs
  intro H locs ls hP hD hS hL
  exact lv_sipush hx hb hd (i16 hs2) (hK _ _ _ hyp H locs ls hP hD hS hL)
theorem so_ldc {n : Nat} (C : mCtx p s m args c dC dI cI cZ cc own nL) (hF : mFT own fT) (hk : mKT own kT) (hJ : mKJ own kJ) (hd : decode cc pc = .ok (.ldc n, len)) (hs : sane nL pc (.ldc n) len tg = true) (hK : ∀ L st h, K L st h → mG p l e R s m args below meth c Q dC dI cI cZ ad A H0 nL (pc + len) L st h) (hG : ∀ t L st h, G t L st h → mG p l e R s m args below meth c Q dC dI cI cZ ad A H0 nL t L st h) (hyp : stp fT kT kJ (.ldc n) tg pc L st h K G) : mG p l e R s m args below meth c Q dC dI cI cZ ad A H0 nL pc L st h := by
  obtain ⟨hx, hb, hown, hts, hw, hml, hnst⟩ := C
  obtain rfl : len = 2 := by simpa [sane] using hs
  intro H locs ls hP hD hS hL
  unfold stp at hyp
  dsimp only at hyp
  split at hyp
  · rename_i z hz
    exact lv_ldc hx hb hown (hts _ (hk _ _ hz)) hd (hK _ _ _ hyp H locs ls hP hD hS hL)
  · exact hyp.elim
theorem so_ldcw {n : Nat} (C : mCtx p s m args c dC dI cI cZ cc own nL) (hF : mFT own fT) (hk : mKT own kT) (hJ : mKJ own kJ) (hd : decode cc pc = .ok (.ldc_w n, len)) (hs : sane nL pc (.ldc_w n) len tg = true) (hK : ∀ L st h, K L st h → mG p l e R s m args below meth c Q dC dI cI cZ ad A H0 nL (pc + len) L st h) (hG : ∀ t L st h, G t L st h → mG p l e R s m args below meth c Q dC dI cI cZ ad A H0 nL t L st h) (hyp : stp fT kT kJ (.ldc_w n) tg pc L st h K G) : mG p l e R s m args below meth c Q dC dI cI cZ ad A H0 nL pc L st h := by
  obtain ⟨hx, hb, hown, hts, hw, hml, hnst⟩ := C
  obtain rfl : len = 3 := by simpa [sane] using hs
  intro H locs ls hP hD hS hL
  unfold stp at hyp
  dsimp only at hyp
  split at hyp
  · rename_i z hz
    exact lv_ldcw hx hb hown (hts _ (hk _ _ hz)) hd (hK _ _ _ hyp H locs ls hP hD hS hL)
  · exact hyp.elim
theorem so_ldc2 {n : Nat} (C : mCtx p s m args c dC dI cI cZ cc own nL) (hF : mFT own fT) (hk : mKT own kT) (hJ : mKJ own kJ) (hd : decode cc pc = .ok (.ldc2_w n, len)) (hs : sane nL pc (.ldc2_w n) len tg = true) (hK : ∀ L st h, K L st h → mG p l e R s m args below meth c Q dC dI cI cZ ad A H0 nL (pc + len) L st h) (hG : ∀ t L st h, G t L st h → mG p l e R s m args below meth c Q dC dI cI cZ ad A H0 nL t L st h) (hyp : stp fT kT kJ (.ldc2_w n) tg pc L st h K G) : mG p l e R s m args below meth c Q dC dI cI cZ ad A H0 nL pc L st h := by
  obtain ⟨hx, hb, hown, hts, hw, hml, hnst⟩ := C
  obtain rfl : len = 3 := by simpa [sane] using hs
  intro H locs ls hP hD hS hL
  unfold stp at hyp
  dsimp only at hyp
  split at hyp
  · rename_i z hz
    exact lv_ldc2 hx hb hown (hts _ (hJ _ _ hz)) hd (hK _ _ _ hyp H locs ls hP hD hS hL)
  · exact hyp.elim
theorem so_lconst {n : Fin 2} (C : mCtx p s m args c dC dI cI cZ cc own nL) (hF : mFT own fT) (hk : mKT own kT) (hJ : mKJ own kJ) (hd : decode cc pc = .ok (.lconst n, len)) (hs : sane nL pc (.lconst n) len tg = true) (hK : ∀ L st h, K L st h → mG p l e R s m args below meth c Q dC dI cI cZ ad A H0 nL (pc + len) L st h) (hG : ∀ t L st h, G t L st h → mG p l e R s m args below meth c Q dC dI cI cZ ad A H0 nL t L st h) (hyp : stp fT kT kJ (.lconst n) tg pc L st h K G) : mG p l e R s m args below meth c Q dC dI cI cZ ad A H0 nL pc L st h := by
  obtain ⟨hx, hb, hown, hts, hw, hml, hnst⟩ := C
  obtain rfl : len = 1 := by simpa [sane] using hs
  intro H locs ls hP hD hS hL
  exact lv_lconst hx hb hd (jN_n _).symm (hK _ _ _ hyp H locs ls hP hD hS hL)
theorem so_iload {n : Nat} (C : mCtx p s m args c dC dI cI cZ cc own nL) (hF : mFT own fT) (hk : mKT own kT) (hJ : mKJ own kJ) (hd : decode cc pc = .ok (.iload n, len)) (hs : sane nL pc (.iload n) len tg = true) (hK : ∀ L st h, K L st h → mG p l e R s m args below meth c Q dC dI cI cZ ad A H0 nL (pc + len) L st h) (hG : ∀ t L st h, G t L st h → mG p l e R s m args below meth c Q dC dI cI cZ ad A H0 nL t L st h) (hyp : stp fT kT kJ (.iload n) tg pc L st h K G) : mG p l e R s m args below meth c Q dC dI cI cZ ad A H0 nL pc L st h := by
  obtain ⟨hx, hb, hown, hts, hw, hml, hnst⟩ := C
  obtain rfl : len = 2 := by simpa [sane] using hs
  intro H locs ls hP hD hS hL
  obtain ⟨z, hz, hyp⟩ := mldi_e hyp
  exact lv_iload hx hb hd (hL.at hz) (hK _ _ _ hyp H locs ls hP hD hS hL)
theorem so_iload_n {n : Fin 4} (C : mCtx p s m args c dC dI cI cZ cc own nL) (hF : mFT own fT) (hk : mKT own kT) (hJ : mKJ own kJ) (hd : decode cc pc = .ok (.iload_n n, len)) (hs : sane nL pc (.iload_n n) len tg = true) (hK : ∀ L st h, K L st h → mG p l e R s m args below meth c Q dC dI cI cZ ad A H0 nL (pc + len) L st h) (hG : ∀ t L st h, G t L st h → mG p l e R s m args below meth c Q dC dI cI cZ ad A H0 nL t L st h) (hyp : stp fT kT kJ (.iload_n n) tg pc L st h K G) : mG p l e R s m args below meth c Q dC dI cI cZ ad A H0 nL pc L st h := by
  obtain ⟨hx, hb, hown, hts, hw, hml, hnst⟩ := C
  obtain rfl : len = 1 := by simpa [sane] using hs
  intro H locs ls hP hD hS hL
  obtain ⟨z, hz, hyp⟩ := mldi_e hyp
  exact lv_iload_n hx hb hd rfl (hL.at hz) (hK _ _ _ hyp H locs ls hP hD hS hL)
theorem so_lload {n : Nat} (C : mCtx p s m args c dC dI cI cZ cc own nL) (hF : mFT own fT) (hk : mKT own kT) (hJ : mKJ own kJ) (hd : decode cc pc = .ok (.lload n, len)) (hs : sane nL pc (.lload n) len tg = true) (hK : ∀ L st h, K L st h → mG p l e R s m args below meth c Q dC dI cI cZ ad A H0 nL (pc + len) L st h) (hG : ∀ t L st h, G t L st h → mG p l e R s m args below meth c Q dC dI cI cZ ad A H0 nL t L st h) (hyp : stp fT kT kJ (.lload n) tg pc L st h K G) : mG p l e R s m args below meth c Q dC dI cI cZ ad A H0 nL pc L st h := by
  obtain ⟨hx, hb, hown, hts, hw, hml, hnst⟩ := C
  obtain rfl : len = 2 := by simpa [sane] using hs
  intro H locs ls hP hD hS hL
  obtain ⟨z, hz, hyp⟩ := mldl_e hyp
  exact lv_lload hx hb hd (hL.at hz) (hK _ _ _ hyp H locs ls hP hD hS hL)
theorem so_lload_n {n : Fin 4} (C : mCtx p s m args c dC dI cI cZ cc own nL) (hF : mFT own fT) (hk : mKT own kT) (hJ : mKJ own kJ) (hd : decode cc pc = .ok (.lload_n n, len)) (hs : sane nL pc (.lload_n n) len tg = true) (hK : ∀ L st h, K L st h → mG p l e R s m args below meth c Q dC dI cI cZ ad A H0 nL (pc + len) L st h) (hG : ∀ t L st h, G t L st h → mG p l e R s m args below meth c Q dC dI cI cZ ad A H0 nL t L st h) (hyp : stp fT kT kJ (.lload_n n) tg pc L st h K G) : mG p l e R s m args below meth c Q dC dI cI cZ ad A H0 nL pc L st h := by
  obtain ⟨hx, hb, hown, hts, hw, hml, hnst⟩ := C
  obtain rfl : len = 1 := by simpa [sane] using hs
  intro H locs ls hP hD hS hL
  obtain ⟨z, hz, hyp⟩ := mldl_e hyp
  exact lv_lload_n hx hb hd rfl (hL.at hz) (hK _ _ _ hyp H locs ls hP hD hS hL)
theorem so_aload {n : Nat} (C : mCtx p s m args c dC dI cI cZ cc own nL) (hF : mFT own fT) (hk : mKT own kT) (hJ : mKJ own kJ) (hd : decode cc pc = .ok (.aload n, len)) (hs : sane nL pc (.aload n) len tg = true) (hK : ∀ L st h, K L st h → mG p l e R s m args below meth c Q dC dI cI cZ ad A H0 nL (pc + len) L st h) (hG : ∀ t L st h, G t L st h → mG p l e R s m args below meth c Q dC dI cI cZ ad A H0 nL t L st h) (hyp : stp fT kT kJ (.aload n) tg pc L st h K G) : mG p l e R s m args below meth c Q dC dI cI cZ ad A H0 nL pc L st h := by
  obtain ⟨hx, hb, hown, hts, hw, hml, hnst⟩ := C
  obtain rfl : len = 2 := by simpa [sane] using hs
  intro H locs ls hP hD hS hL
  obtain ⟨z, hz, hyp⟩ := mlda_e hyp
  exact lv_aload hx hb hd (hL.at hz) (hK _ _ _ hyp H locs ls hP hD hS hL)
theorem so_aload_n {n : Fin 4} (C : mCtx p s m args c dC dI cI cZ cc own nL) (hF : mFT own fT) (hk : mKT own kT) (hJ : mKJ own kJ) (hd : decode cc pc = .ok (.aload_n n, len)) (hs : sane nL pc (.aload_n n) len tg = true) (hK : ∀ L st h, K L st h → mG p l e R s m args below meth c Q dC dI cI cZ ad A H0 nL (pc + len) L st h) (hG : ∀ t L st h, G t L st h → mG p l e R s m args below meth c Q dC dI cI cZ ad A H0 nL t L st h) (hyp : stp fT kT kJ (.aload_n n) tg pc L st h K G) : mG p l e R s m args below meth c Q dC dI cI cZ ad A H0 nL pc L st h := by
  obtain ⟨hx, hb, hown, hts, hw, hml, hnst⟩ := C
  obtain rfl : len = 1 := by simpa [sane] using hs
  intro H locs ls hP hD hS hL
  obtain ⟨z, hz, hyp⟩ := mlda_e hyp
  exact lv_aload_n hx hb hd rfl (hL.at hz) (hK _ _ _ hyp H locs ls hP hD hS hL)
theorem so_istore {n : Nat} (C : mCtx p s m args c dC dI cI cZ cc own nL) (hF : mFT own fT) (hk : mKT own kT) (hJ : mKJ own kJ) (hd : decode cc pc = .ok (.istore n, len)) (hs : sane nL pc (.istore n) len tg = true) (hK : ∀ L st h, K L st h → mG p l e R s m args below meth c Q dC dI cI cZ ad A H0 nL (pc + len) L st h) (hG : ∀ t L st h, G t L st h → mG p l e R s m args below meth c Q dC dI cI cZ ad A H0 nL t L st h) (hyp : stp fT kT kJ (.istore n) tg pc L st h K G) : mG p l e R s m args below meth c Q dC dI cI cZ ad A H0 nL pc L st h := by
  obtain ⟨hx, hb, hown, hts, hw, hml, hnst⟩ := C
  obtain ⟨rfl, hs2⟩ : len = 2 ∧ n < nL := by simpa [sane] using hs
  intro H locs ls hP hD hS hL
  obtain ⟨a, r, rfl, hyp⟩ := m1_e hyp
  exact lv_istore hx hb hd hL.2 hs2 rfl (fun ls' h' => hK _ _ _ hyp H locs ls' hP hD hS (mLs.st1 hL.1 h'))
theorem so_istore_n {n : Fin 4} (C : mCtx p s m args c dC dI cI cZ cc own nL) (hF : mFT own fT) (hk : mKT own kT) (hJ : mKJ own kJ) (hd : decode cc pc = .ok (.istore_n n, len)) (hs : sane nL pc (.istore_n n) len tg = true) (hK : ∀ L st h, K L st h → mG p l e R s m args below meth c Q dC dI cI cZ ad A H0 nL (pc + len) L st h) (hG : ∀ t L st h, G t L st h → mG p l e R s m args below meth c Q dC dI cI cZ ad A H0 nL t L st h) (hyp : stp fT kT kJ (.istore_n n) tg pc L st h K G) : mG p l e R s m args below meth c Q dC dI cI cZ ad A H0 nL pc L st h := by
  obtain ⟨hx, hb, hown, hts, hw, hml, hnst⟩ := C
  obtain ⟨rfl, hs2⟩ : len = 1 ∧ (n : Nat) < nL := by simpa [sane] using hs
  intro H locs ls hP hD hS hL
  obtain ⟨a, r, rfl, hyp⟩ := m1_e hyp
  exact lv_istore_n hx hb hd rfl hL.2 hs2 rfl (fun ls' h' => hK _ _ _ hyp H locs ls' hP hD hS (mLs.st1 hL.1 h'))
theorem so_lstore {n : Nat} (C : mCtx p s m args c dC dI cI cZ cc own nL) (hF : mFT own fT) (hk : mKT own kT) (hJ : mKJ own kJ) (hd : decode cc pc = .ok (.lstore n, len)) (hs : sane nL pc (.lstore n) len tg = true) (hK : ∀ L st h, K L st h → mG p l e R s m args below meth c Q dC dI cI cZ ad A H0 nL (pc + len) L st h) (hG : ∀ t L st h, G t L st h → mG p l e R s m args below meth c Q dC dI cI cZ ad A H0 nL t L st h) (hyp : stp fT kT kJ (.lstore n) tg pc L st h K G) : mG p l e R s m args below meth c Q dC dI cI cZ ad A H0 nL pc L st h := by
  obtain ⟨hx, hb, hown, hts, hw, hml, hnst⟩ := C
  obtain ⟨rfl, hs2⟩ : len = 2 ∧ n + 1 < nL := by simpa [sane] using hs
  intro H locs ls hP hD hS hL
  obtain ⟨a, r, rfl, hyp⟩ := n1_e hyp
  exact lv_lstore hx hb hd hL.2 hs2 rfl (fun ls' h' => hK _ _ _ hyp H locs ls' hP hD hS (mLs.st2 hL.1 h'))
theorem so_lstore_n {n : Fin 4} (C : mCtx p s m args c dC dI cI cZ cc own nL) (hF : mFT own fT) (hk : mKT own kT) (hJ : mKJ own kJ) (hd : decode cc pc = .ok (.lstore_n n, len)) (hs : sane nL pc (.lstore_n n) len tg = true) (hK : ∀ L st h, K L st h → mG p l e R s m args below meth c Q dC dI cI cZ ad A H0 nL (pc + len) L st h) (hG : ∀ t L st h, G t L st h → mG p l e R s m args below meth c Q dC dI cI cZ ad A H0 nL t L st h) (hyp : stp fT kT kJ (.lstore_n n) tg pc L st h K G) : mG p l e R s m args below meth c Q dC dI cI cZ ad A H0 nL pc L st h := by
  obtain ⟨hx, hb, hown, hts, hw, hml, hnst⟩ := C
  obtain ⟨rfl, hs2⟩ : len = 1 ∧ (n : Nat) + 1 < nL := by simpa [sane] using hs
  intro H locs ls hP hD hS hL
  obtain ⟨a, r, rfl, hyp⟩ := n1_e hyp
  exact lv_lstore_n hx hb hd rfl hL.2 hs2 rfl (fun ls' h' => hK _ _ _ hyp H locs ls' hP hD hS (mLs.st2 hL.1 h'))
theorem so_astore {n : Nat} (C : mCtx p s m args c dC dI cI cZ cc own nL) (hF : mFT own fT) (hk : mKT own kT) (hJ : mKJ own kJ) (hd : decode cc pc = .ok (.astore n, len)) (hs : sane nL pc (.astore n) len tg = true) (hK : ∀ L st h, K L st h → mG p l e R s m args below meth c Q dC dI cI cZ ad A H0 nL (pc + len) L st h) (hG : ∀ t L st h, G t L st h → mG p l e R s m args below meth c Q dC dI cI cZ ad A H0 nL t L st h) (hyp : stp fT kT kJ (.astore n) tg pc L st h K G) : mG p l e R s m args below meth c Q dC dI cI cZ ad A H0 nL pc L st h := by
  obtain ⟨hx, hb, hown, hts, hw, hml, hnst⟩ := C
  obtain ⟨rfl, hs2⟩ : len = 2 ∧ n < nL := by simpa [sane] using hs
  intro H locs ls hP hD hS hL
  unfold stp at hyp
  dsimp only at hyp
  split at hyp
  · exact lv_astore hx hb hd hL.2 hs2 rfl (fun ls' h' => hK _ _ _ hyp H locs ls' hP hD hS (mLs.st1 hL.1 h'))
  · exact hyp.elim
theorem so_astore_n {n : Fin 4} (C : mCtx p s m args c dC dI cI cZ cc own nL) (hF : mFT own fT) (hk : mKT own kT) (hJ : mKJ own kJ) (hd : decode cc pc = .ok (.astore_n n, len)) (hs : sane nL pc (.astore_n n) len tg = true) (hK : ∀ L st h, K L st h → mG p l e R s m args below meth c Q dC dI cI cZ ad A H0 nL (pc + len) L st h) (hG : ∀ t L st h, G t L st h → mG p l e R s m args below meth c Q dC dI cI cZ ad A H0 nL t L st h) (hyp : stp fT kT kJ (.astore_n n) tg pc L st h K G) : mG p l e R s m args below meth c Q dC dI cI cZ ad A H0 nL pc L st h := by
  obtain ⟨hx, hb, hown, hts, hw, hml, hnst⟩ := C
  obtain ⟨rfl, hs2⟩ : len = 1 ∧ (n : Nat) < nL := by simpa [sane] using hs
  intro H locs ls hP hD hS hL
  unfold stp at hyp
  dsimp only at hyp
  split at hyp
  · exact lv_astore_n hx hb hd rfl hL.2 hs2 rfl (fun ls' h' => hK _ _ _ hyp H locs ls' hP hD hS (mLs.st1 hL.1 h'))
  · exact hyp.elim
theorem so_iinc {n : Nat} {d : Int} (C : mCtx p s m args c dC dI cI cZ cc own nL) (hF : mFT own fT) (hk : mKT own kT) (hJ : mKJ own kJ) (hd : decode cc pc = .ok (.iinc n d, len)) (hs : sane nL pc (.iinc n d) len tg = true) (hK : ∀ L st h, K L st h → mG p l e R s m args below meth c Q dC dI cI cZ ad A H0 nL (pc + len) L st h) (hG : ∀ t L st h, G t L st h → mG p l e R s m args below meth c Q dC dI cI cZ ad A H0 nL t L st h) (hyp : stp fT kT kJ (.iinc n d) tg pc L st h K G) : mG p l e R s m args below meth c Q dC dI cI cZ ad A H0 nL pc L st h := by
  obtain ⟨hx, hb, hown, hts, hw, hml, hnst⟩ := C
  obtain ⟨rfl, hs2⟩ : len = 3 ∧ n < nL := by simpa [sane] using hs
  intro H locs ls hP hD hS hL
  obtain ⟨z, hz, hyp⟩ := mldi_e hyp
  obtain ⟨k, hk1⟩ := List.getElem?_of_mem (mem_mll.mpr ⟨_, hz, rfl⟩ : (n, cV ad (.inl z)) ∈ mll ad L)
  exact lv_iinc hx hb hd hL.2 hk1 (iN_add z d) hs2 rfl (fun ls' h' => hK _ _ _ hyp H locs ls' hP hD hS (mLs.st1 hL.1 h'))
theorem so_iadd (C : mCtx p s m args c dC dI cI cZ cc own nL) (hF : mFT own fT) (hk : mKT own kT) (hJ : mKJ own kJ) (hd : decode cc pc = .ok (.iadd, len)) (hs : sane nL pc (.iadd) len tg = true) (hK : ∀ L st h, K L st h → mG p l e R s m args below meth c Q dC dI cI cZ ad A H0 nL (pc + len) L st h) (hG : ∀ t L st h, G t L st h → mG p l e R s m args below meth c Q dC dI cI cZ ad A H0 nL t L st h) (hyp : stp fT kT kJ (.iadd) tg pc L st h K G) : mG p l e R s m args below meth c Q dC dI cI cZ ad A H0 nL pc L st h := by
  obtain ⟨hx, hb, hown, hts, hw, hml, hnst⟩ := C
  obtain rfl : len = 1 := by simpa [sane] using hs
  intro H locs ls hP hD hS hL
  obtain ⟨a, b, r, rfl, hyp⟩ := m2_e hyp
  refine lv_iadd hx hb hd ?_
  rw [iN_add]
  exact hK _ _ _ hyp H locs ls hP hD hS hL
theorem so_isub (C : mCtx p s m args c dC dI cI cZ cc own nL) (hF : mFT own fT) (hk : mKT own kT) (hJ : mKJ own kJ) (hd : decode cc pc = .ok (.isub, len)) (hs : sane nL pc (.isub) len tg = true) (hK : ∀ L st h, K L st h → mG p l e R s m args below meth c Q dC dI cI cZ ad A H0 nL (pc + len) L st h) (hG : ∀ t L st h, G t L st h → mG p l e R s m args below meth c Q dC dI cI cZ ad A H0 nL t L st h) (hyp : stp fT kT kJ (.isub) tg pc L st h K G) : mG p l e R s m args below meth c Q dC dI cI cZ ad A H0 nL pc L st h := by
  obtain ⟨hx, hb, hown, hts, hw, hml, hnst⟩ := C
  obtain rfl : len = 1 := by simpa [sane] using hs
  intro H locs ls hP hD hS hL
  obtain ⟨a, b, r, rfl, hyp⟩ := m2_e hyp
  refine lv_isub hx hb hd ?_
  rw [iN_sub]
  exact hK _ _ _ hyp H locs ls hP hD hS hL
theorem so_imul (C : mCtx p s m args c dC dI cI cZ cc own nL) (hF : mFT own fT) (hk : mKT own kT) (hJ : mKJ own kJ) (hd : decode cc pc = .ok (.imul, len)) (hs : sane nL pc (.imul) len tg = true) (hK : ∀ L st h, K L st h → mG p l e R s m args below meth c Q dC dI cI cZ ad A H0 nL (pc + len) L st h) (hG : ∀ t L st h, G t L st h → mG p l e R s m args below meth c Q dC dI cI cZ ad A H0 nL t L st h) (hyp : stp fT kT kJ (.imul) tg pc L st h K G) : mG p l e R s m args below meth c Q dC dI cI cZ ad A H0 nL pc L st h := by
  obtain ⟨hx, hb, hown, hts, hw, hml, hnst⟩ := C
  obtain rfl : len = 1 := by simpa [sane] using hs
  intro H locs ls hP hD hS hL
  obtain ⟨a, b, r, rfl, hyp⟩ := m2_e hyp
  refine lv_imul hx hb hd ?_
  rw [iN_mul]
  exact hK _ _ _ hyp H locs ls hP hD hS hL
theorem so_ineg (C : mCtx p s m args c dC dI cI cZ cc own nL) (hF : mFT own fT) (hk : mKT own kT) (hJ : mKJ own kJ) (hd : decode cc pc = .ok (.ineg, len)) (hs : sane nL pc (.ineg) len tg = true) (hK : ∀ L st h, K L st h → mG p l e R s m args below meth c Q dC dI cI cZ ad A H0 nL (pc + len) L st h) (hG : ∀ t L st h, G t L st h → mG p l e R s m args below meth c Q dC dI cI cZ ad A H0 nL t L st h) (hyp : stp fT kT kJ (.ineg) tg pc L st h K G) : mG p l e R s m args below meth c Q dC dI cI cZ ad A H0 nL pc L st h := by
  obtain ⟨hx, hb, hown, hts, hw, hml, hnst⟩ := C
  obtain rfl : len = 1 := by simpa [sane] using hs
  intro H locs ls hP hD hS hL
  obtain ⟨a, r, rfl, hyp⟩ := m1_e hyp
  refine lv_ineg hx hb hd ?_
  rw [iN_neg]
  exact hK _ _ _ hyp H locs ls hP hD hS hL
theorem so_idiv (C : mCtx p s m args c dC dI cI cZ cc own nL) (hF : mFT own fT) (hk : mKT own kT) (hJ : mKJ own kJ) (hd : decode cc pc = .ok (.idiv, len)) (hs : sane nL pc (.idiv) len tg = true) (hK : ∀ L st h, K L st h → mG p l e R s m args below meth c Q dC dI cI cZ ad A H0 nL (pc + len) L st h) (hG : ∀ t L st h, G t L st h → mG p l e R s m args below meth c Q dC dI cI cZ ad A H0 nL t L st h) (hyp : stp fT kT kJ (.idiv) tg pc L st h K G) : mG p l e R s m args below meth c Q dC dI cI cZ ad A H0 nL pc L st h := by
  obtain ⟨hx, hb, hown, hts, hw, hml, hnst⟩ := C
  obtain rfl : len = 1 := by simpa [sane] using hs
  intro H locs ls hP hD hS hL
  obtain ⟨a, b, r, rfl, ⟨h1, h2⟩, hyp⟩ := m2_e hyp
  refine lv_idiv hx hb hd (iN_ne0 h2) ?_
  rw [iN_div h1 h2]
  exact hK _ _ _ hyp H locs ls hP hD hS hL
theorem so_irem (C : mCtx p s m args c dC dI cI cZ cc own nL) (hF : mFT own fT) (hk : mKT own kT) (hJ : mKJ own kJ) (hd : decode cc pc = .ok (.irem, len)) (hs : sane nL pc (.irem) len tg = true) (hK : ∀ L st h, K L st h → mG p l e R s m args below meth c Q dC dI cI cZ ad A H0 nL (pc + len) L st h) (hG : ∀ t L st h, G t L st h → mG p l e R s m args below meth c Q dC dI cI cZ ad A H0 nL t L st h) (hyp : stp fT kT kJ (.irem) tg pc L st h K G) : mG p l e R s m args below meth c Q dC dI cI cZ ad A H0 nL pc L st h := by
  obtain ⟨hx, hb, hown, hts, hw, hml, hnst⟩ := C
  obtain rfl : len = 1 := by simpa [sane] using hs
  intro H locs ls hP hD hS hL
  obtain ⟨a, b, r, rfl, ⟨h1, h2⟩, hyp⟩ := m2_e hyp
  refine lv_irem hx hb hd (iN_ne0 h2) ?_
  rw [iN_rem h1 h2]
  exact hK _ _ _ hyp H locs ls hP hD hS hL
theorem so_ishl (C : mCtx p s m args c dC dI cI cZ cc own nL) (hF : mFT own fT) (hk : mKT own kT) (hJ : mKJ own kJ) (hd : decode cc pc = .ok (.ishl, len)) (hs : sane nL pc (.ishl) len tg = true) (hK : ∀ L st h, K L st h → mG p l e R s m args below meth c Q dC dI cI cZ ad A H0 nL (pc + len) L st h) (hG : ∀ t L st h, G t L st h → mG p l e R s m args below meth c Q dC dI cI cZ ad A H0 nL t L st h) (hyp : stp fT kT kJ (.ishl) tg pc L st h K G) : mG p l e R s m args below meth c Q dC dI cI cZ ad A H0 nL pc L st h := by
  obtain ⟨hx, hb, hown, hts, hw, hml, hnst⟩ := C
  obtain rfl : len = 1 := by simpa [sane] using hs
  intro H locs ls hP hD hS hL
  obtain ⟨a, b, r, rfl, ⟨h1, h2, h3⟩, hyp⟩ := m2_e hyp
  refine lv_ishl hx hb hd ?_
  rw [iN_shl h1 h2 h3]
  exact hK _ _ _ hyp H locs ls hP hD hS hL
theorem so_ishr (C : mCtx p s m args c dC dI cI cZ cc own nL) (hF : mFT own fT) (hk : mKT own kT) (hJ : mKJ own kJ) (hd : decode cc pc = .ok (.ishr, len)) (hs : sane nL pc (.ishr) len tg = true) (hK : ∀ L st h, K L st h → mG p l e R s m args below meth c Q dC dI cI cZ ad A H0 nL (pc + len) L st h) (hG : ∀ t L st h, G t L st h → mG p l e R s m args below meth c Q dC dI cI cZ ad A H0 nL t L st h) (hyp : stp fT kT kJ (.ishr) tg pc L st h K G) : mG p l e R s m args below meth c Q dC dI cI cZ ad A H0 nL pc L st h := by
  obtain ⟨hx, hb, hown, hts, hw, hml, hnst⟩ := C
  obtain rfl : len = 1 := by simpa [sane] using hs
  intro H locs ls hP hD hS hL
  obtain ⟨a, b, r, rfl, ⟨h1, h2⟩, hyp⟩ := m2_e hyp
  refine lv_ishr hx hb hd ?_
  rw [iN_shr h1 h2]
  exact hK _ _ _ hyp H locs ls hP hD hS hL
theorem so_iushr (C : mCtx p s m args c dC dI cI cZ cc own nL) (hF : mFT own fT) (hk : mKT own kT) (hJ : mKJ own kJ) (hd : decode cc pc = .ok (.iushr, len)) (hs : sane nL pc (.iushr) len tg = true) (hK : ∀ L st h, K L st h → mG p l e R s m args below meth c Q dC dI cI cZ ad A H0 nL (pc + len) L st h) (hG : ∀ t L st h, G t L st h → mG p l e R s m args below meth c Q dC dI cI cZ ad A H0 nL t L st h) (hyp : stp fT kT kJ (.iushr) tg pc L st h K G) : mG p l e R s m args below meth c Q dC dI cI cZ ad A H0 nL pc L st h := by
  obtain ⟨hx, hb, hown, hts, hw, hml, hnst⟩ := C
  obtain rfl : len = 1 := by simpa [sane] using hs
  intro H locs ls hP hD hS hL
  obtain ⟨a, b, r, rfl, ⟨h1, h2⟩, hyp⟩ := m2_e hyp
  exact lv_iushr hx hb hd (iN_ushr h1 h2) (hK _ _ _ hyp H locs ls hP hD hS hL)
theorem so_iand (C : mCtx p s m args c dC dI cI cZ cc own nL) (hF : mFT own fT) (hk : mKT own kT) (hJ : mKJ own kJ) (hd : decode cc pc = .ok (.iand, len)) (hs : sane nL pc (.iand) len tg = true) (hK : ∀ L st h, K L st h → mG p l e R s m args below meth c Q dC dI cI cZ ad A H0 nL (pc + len) L st h) (hG : ∀ t L st h, G t L st h → mG p l e R s m args below meth c Q dC dI cI cZ ad A H0 nL t L st h) (hyp : stp fT kT kJ (.iand) tg pc L st h K G) : mG p l e R s m args below meth c Q dC dI cI cZ ad A H0 nL pc L st h := by
  obtain ⟨hx, hb, hown, hts, hw, hml, hnst⟩ := C
  obtain rfl : len = 1 := by simpa [sane] using hs
  intro H locs ls hP hD hS hL
  obtain ⟨a, b, r, rfl, ⟨h1, h2⟩, hyp⟩ := m2_e hyp
  refine lv_iand hx hb hd ?_
  rw [iN_and h1 h2]
  exact hK _ _ _ hyp H locs ls hP hD hS hL
theorem so_ior (C : mCtx p s m args c dC dI cI cZ cc own nL) (hF : mFT own fT) (hk : mKT own kT) (hJ : mKJ own kJ) (hd : decode cc pc = .ok (.ior, len)) (hs : sane nL pc (.ior) len tg = true) (hK : ∀ L st h, K L st h → mG p l e R s m args below meth c Q dC dI cI cZ ad A H0 nL (pc + len) L st h) (hG : ∀ t L st h, G t L st h → mG p l e R s m args below meth c Q dC dI cI cZ ad A H0 nL t L st h) (hyp : stp fT kT kJ (.ior) tg pc L st h K G) : mG p l e R s m args below meth c Q dC dI cI cZ ad A H0 nL pc L st h := by
  obtain ⟨hx, hb, hown, hts, hw, hml, hnst⟩ := C
  obtain rfl : len = 1 := by simpa [sane] using hs
  intro H locs ls hP hD hS hL
  obtain ⟨a, b, r, rfl, ⟨h1, h2⟩, hyp⟩ := m2_e hyp
  refine lv_ior hx hb hd ?_
  rw [iN_or h1 h2]
  exact hK _ _ _ hyp H locs ls hP hD hS hL
theorem so_i2l (C : mCtx p s m args c dC dI cI cZ cc own nL) (hF : mFT own fT) (hk : mKT own kT) (hJ : mKJ own kJ) (hd : decode cc pc = .ok (.i2l, len)) (hs : sane nL pc (.i2l) len tg = true) (hK : ∀ L st h, K L st h → mG p l e R s m args below meth c Q dC dI cI cZ ad A H0 nL (pc + len) L st h) (hG : ∀ t L st h, G t L st h → mG p l e R s m args below meth c Q dC dI cI cZ ad A H0 nL t L st h) (hyp : stp fT kT kJ (.i2l) tg pc L st h K G) : mG p l e R s m args below meth c Q dC dI cI cZ ad A H0 nL pc L st h := by
  obtain ⟨hx, hb, hown, hts, hw, hml, hnst⟩ := C
  obtain rfl : len = 1 := by simpa [sane] using hs
  intro H locs ls hP hD hS hL
  obtain ⟨a, r, rfl, h1, hyp⟩ := m1_e hyp
  exact lv_i2l hx hb hd (jN_i h1) (hK _ _ _ hyp H locs ls hP hD hS hL)
theorem so_l2i (C : mCtx p s m args c dC dI cI cZ cc own nL) (hF : mFT own fT) (hk : mKT own kT) (hJ : mKJ own kJ) (hd : decode cc pc = .ok (.l2i, len)) (hs : sane nL pc (.l2i) len tg = true) (hK : ∀ L st h, K L st h → mG p l e R s m args below meth c Q dC dI cI cZ ad A H0 nL (pc + len) L st h) (hG : ∀ t L st h, G t L st h → mG p l e R s m args below meth c Q dC dI cI cZ ad A H0 nL t L st h) (hyp : stp fT kT kJ (.l2i) tg pc L st h K G) : mG p l e R s m args below meth c Q dC dI cI cZ ad A H0 nL pc L st h := by
  obtain ⟨hx, hb, hown, hts, hw, hml, hnst⟩ := C
  obtain rfl : len = 1 := by simpa [sane] using hs
  intro H locs ls hP hD hS hL
  obtain ⟨a, r, rfl, h1, hyp⟩ := n1_e hyp
  exact lv_l2i hx hb hd (jN_t32 h1) (hK _ _ _ hyp H locs ls hP hD hS hL)
theorem so_ladd (C : mCtx p s m args c dC dI cI cZ cc own nL) (hF : mFT own fT) (hk : mKT own kT) (hJ : mKJ own kJ) (hd : decode cc pc = .ok (.ladd, len)) (hs : sane nL pc (.ladd) len tg = true) (hK : ∀ L st h, K L st h → mG p l e R s m args below meth c Q dC dI cI cZ ad A H0 nL (pc + len) L st h) (hG : ∀ t L st h, G t L st h → mG p l e R s m args below meth c Q dC dI cI cZ ad A H0 nL t L st h) (hyp : stp fT kT kJ (.ladd) tg pc L st h K G) : mG p l e R s m args below meth c Q dC dI cI cZ ad A H0 nL pc L st h := by
  obtain ⟨hx, hb, hown, hts, hw, hml, hnst⟩ := C
  obtain rfl : len = 1 := by simpa [sane] using hs
  intro H locs ls hP hD hS hL
  obtain ⟨a, b, r, rfl, hyp⟩ := n2_e hyp
  refine lv_ladd hx hb hd ?_
  rw [jN_add]
  exact hK _ _ _ hyp H locs ls hP hD hS hL
theorem so_lmul (C : mCtx p s m args c dC dI cI cZ cc own nL) (hF : mFT own fT) (hk : mKT own kT) (hJ : mKJ own kJ) (hd : decode cc pc = .ok (.lmul, len)) (hs : sane nL pc (.lmul) len tg = true) (hK : ∀ L st h, K L st h → mG p l e R s m args below meth c Q dC dI cI cZ ad A H0 nL (pc + len) L st h) (hG : ∀ t L st h, G t L st h → mG p l e R s m args below meth c Q dC dI cI cZ ad A H0 nL t L st h) (hyp : stp fT kT kJ (.lmul) tg pc L st h K G) : mG p l e R s m args below meth c Q dC dI cI cZ ad A H0 nL pc L st h := by
  obtain ⟨hx, hb, hown, hts, hw, hml, hnst⟩ := C
  obtain rfl : len = 1 := by simpa [sane] using hs
  intro H locs ls hP hD hS hL
  obtain ⟨a, b, r, rfl, hyp⟩ := n2_e hyp
  refine lv_lmul hx hb hd ?_
  rw [jN_mul]
  exact hK _ _ _ hyp H locs ls hP hD hS hL
theorem so_ldiv (C : mCtx p s m args c dC dI cI cZ cc own nL) (hF : mFT own fT) (hk : mKT own kT) (hJ : mKJ own kJ) (hd : decode cc pc = .ok (.ldiv, len)) (hs : sane nL pc (.ldiv) len tg = true) (hK : ∀ L st h, K L st h → mG p l e R s m args below meth c Q dC dI cI cZ ad A H0 nL (pc + len) L st h) (hG : ∀ t L st h, G t L st h → mG p l e R s m args below meth c Q dC dI cI cZ ad A H0 nL t L st h) (hyp : stp fT kT kJ (.ldiv) tg pc L st h K G) : mG p l e R s m args below meth c Q dC dI cI cZ ad A H0 nL pc L st h := by
  obtain ⟨hx, hb, hown, hts, hw, hml, hnst⟩ := C
  obtain rfl : len = 1 := by simpa [sane] using hs
  intro H locs ls hP hD hS hL
  obtain ⟨a, b, r, rfl, ⟨h1, h2, h3⟩, hyp⟩ := n2_e hyp
  refine lv_ldiv hx hb hd (jN_ne0 h2 h3) ?_
  rw [jN_div h1 h2 h3]
  exact hK _ _ _ hyp H locs ls hP hD hS hL
theorem so_lrem (C : mCtx p s m args c dC dI cI cZ cc own nL) (hF : mFT own fT) (hk : mKT own kT) (hJ : mKJ own kJ) (hd : decode cc pc = .ok (.lrem, len)) (hs : sane nL pc (.lrem) len tg = true) (hK : ∀ L st h, K L st h → mG p l e R s m args below meth c Q dC dI cI cZ ad A H0 nL (pc + len) L st h) (hG : ∀ t L st h, G t L st h → mG p l e R s m args below meth c Q dC dI cI cZ ad A H0 nL t L st h) (hyp : stp fT kT kJ (.lrem) tg pc L st h K G) : mG p l e R s m args below meth c Q dC dI cI cZ ad A H0 nL pc L st h := by
  obtain ⟨hx, hb, hown, hts, hw, hml, hnst⟩ := C
  obtain rfl : len = 1 := by simpa [sane] using hs
  intro H locs ls hP hD hS hL
  obtain ⟨a, b, r, rfl, ⟨h1, h2, h3⟩, hyp⟩ := n2_e hyp
  refine lv_lrem hx hb hd (jN_ne0 h2 h3) ?_
  rw [jN_rem h1 h2 h3]
  exact hK _ _ _ hyp H locs ls hP hD hS hL
theorem so_dup (C : mCtx p s m args c dC dI cI cZ cc own nL) (hF : mFT own fT) (hk : mKT own kT) (hJ : mKJ own kJ) (hd : decode cc pc = .ok (.dup, len)) (hs : sane nL pc (.dup) len tg = true) (hK : ∀ L st h, K L st h → mG p l e R s m args below meth c Q dC dI cI cZ ad A H0 nL (pc + len) L st h) (hG : ∀ t L st h, G t L st h → mG p l e R s m args below meth c Q dC dI cI cZ ad A H0 nL t L st h) (hyp : stp fT kT kJ (.dup) tg pc L st h K G) : mG p l e R s m args below meth c Q dC dI cI cZ ad A H0 nL pc L st h := by
  obtain ⟨hx, hb, hown, hts, hw, hml, hnst⟩ := C
  obtain rfl : len = 1 := by simpa [sane] using hs
  intro H locs ls hP hD hS hL
  unfold stp at hyp
  dsimp only at hyp
  split at hyp
  · exact lv_dup hx hb hd rfl (hK _ _ _ hyp H locs ls hP hD hS hL)
  · exact lv_dup hx hb hd (cV_cat1 (fun z q => by cases q)) (hK _ _ _ hyp H locs ls hP hD hS hL)
  · exact hyp.elim
theorem so_dup2 (C : mCtx p s m args c dC dI cI cZ cc own nL) (hF : mFT own fT) (hk : mKT own kT) (hJ : mKJ own kJ) (hd : decode cc pc = .ok (.dup2, len)) (hs : sane nL pc (.dup2) len tg = true) (hK : ∀ L st h, K L st h → mG p l e R s m args below meth c Q dC dI cI cZ ad A H0 nL (pc + len) L st h) (hG : ∀ t L st h, G t L st h → mG p l e R s m args below meth c Q dC dI cI cZ ad A H0 nL t L st h) (hyp : stp fT kT kJ (.dup2) tg pc L st h K G) : mG p l e R s m args below meth c Q dC dI cI cZ ad A H0 nL pc L st h := by
  obtain ⟨hx, hb, hown, hts, hw, hml, hnst⟩ := C
  obtain rfl : len = 1 := by simpa [sane] using hs
  intro H locs ls hP hD hS hL
  unfold stp at hyp
  dsimp only at hyp
  split at hyp
  · exact lv_dup2_11 hx hb hd rfl (cV_cat1 (fun z q => by cases q)) (hK _ _ _ hyp H locs ls hP hD hS hL)
  · exact hyp.elim
theorem so_goto {o : Int} (C : mCtx p s m args c dC dI cI cZ cc own nL) (hF : mFT own fT) (hk : mKT own kT) (hJ : mKJ own kJ) (hd : decode cc pc = .ok (.goto o, len)) (hs : sane nL pc (.goto o) len tg = true) (hK : ∀ L st h, K L st h → mG p l e R s m args below meth c Q dC dI cI cZ ad A H0 nL (pc + len) L st h) (hG : ∀ t L st h, G t L st h → mG p l e R s m args below meth c Q dC dI cI cZ ad A H0 nL t L st h) (hyp : stp fT kT kJ (.goto o) tg pc L st h K G) : mG p l e R s m args below meth c Q dC dI cI cZ ad A H0 nL pc L st h := by
  obtain ⟨hx, hb, hown, hts, hw, hml, hnst⟩ := C
  obtain ⟨rfl, hs2⟩ : len = 3 ∧ (pc : Int) + o = (tg : Int) := by simpa [sane] using hs
  intro H locs ls hP hD hS hL
  exact lv_goto hx hb hd hs2 (hG _ _ _ _ hyp H locs ls hP hD hS hL)
theorem so_if {cd : Jvm.ClassFile.Cond} {o : Int} (C : mCtx p s m args c dC dI cI cZ cc own nL) (hF : mFT own fT) (hk : mKT own kT) (hJ : mKJ own kJ) (hd : decode cc pc = .ok (.ifCond cd o, len)) (hs : sane nL pc (.ifCond cd o) len tg = true) (hK : ∀ L st h, K L st h → mG p l e R s m args below meth c Q dC dI cI cZ ad A H0 nL (pc + len) L st h) (hG : ∀ t L st h, G t L st h → mG p l e R s m args below meth c Q dC dI cI cZ ad A H0 nL t L st h) (hyp : stp fT kT kJ (.ifCond cd o) tg pc L st h K G) : mG p l e R s m args below meth c Q dC dI cI cZ ad A H0 nL pc L st h := by
  obtain ⟨hx, hb, hown, hts, hw, hml, hnst⟩ := C
  obtain ⟨rfl, hs2⟩ : len = 3 ∧ (pc : Int) + o = (tg : Int) := by simpa [sane] using hs
  intro H locs ls hP hD hS hL
  obtain ⟨a, r, rfl, hI, hyp⟩ := m1_e hyp
  have h0 : inI 0 := ⟨by omega, by omega⟩
  cases cd with
  | eq => exact lv_if_eq hx hb hd hs2 (fun q => hG _ _ _ _ (hyp.1 ((iN_eq hI h0).mp q)) H locs ls hP hD hS hL) (fun q => hK _ _ _ (hyp.2 (fun z => q ((iN_eq hI h0).mpr z))) H locs ls hP hD hS hL)
  | ne => exact lv_if_ne hx hb hd hs2 (fun q => hG _ _ _ _ (hyp.1 (fun z => q ((iN_eq hI h0).mpr z))) H locs ls hP hD hS hL) (fun q => hK _ _ _ (hyp.2 ((iN_eq hI h0).mp q)) H locs ls hP hD hS hL)
  | lt => exact lv_if_lt hx hb hd hs2 (fun q => hG _ _ _ _ (hyp.1 ((iN_lt hI h0).mp q)) H locs ls hP hD hS hL) (fun q => hK _ _ _ (hyp.2 (fun z => q ((iN_lt hI h0).mpr z))) H locs ls hP hD hS hL)
  | ge => exact lv_if_ge hx hb hd hs2 (fun q => hG _ _ _ _ (hyp.1 ((iN_le h0 hI).mp q)) H locs ls hP hD hS hL) (fun q => hK _ _ _ (hyp.2 (fun z => q ((iN_le h0 hI).mpr z))) H locs ls hP hD hS hL)
  | gt => exact lv_if_gt hx hb hd hs2 (fun q => hG _ _ _ _ (hyp.1 ((iN_lt h0 hI).mp q)) H locs ls hP hD hS hL) (fun q => hK _ _ _ (hyp.2 (fun z => q ((iN_lt h0 hI).mpr z))) H locs ls hP hD hS hL)
  | le => exact lv_if_le hx hb hd hs2 (fun q => hG _ _ _ _ (hyp.1 ((iN_le hI h0).mp q)) H locs ls hP hD hS hL) (fun q => hK _ _ _ (hyp.2 (fun z => q ((iN_le hI h0).mpr z))) H locs ls hP hD hS hL)
theorem so_icmp {cd : Jvm.ClassFile.Cond} {o : Int} (C : mCtx p s m args c dC dI cI cZ cc own nL) (hF : mFT own fT) (hk : mKT own kT) (hJ : mKJ own kJ) (hd : decode cc pc = .ok (.if_icmp cd o, len)) (hs : sane nL pc (.if_icmp cd o) len tg = true) (hK : ∀ L st h, K L st h → mG p l e R s m args below meth c Q dC dI cI cZ ad A H0 nL (pc + len) L st h) (hG : ∀ t L st h, G t L st h → mG p l e R s m args below meth c Q dC dI cI cZ ad A H0 nL t L st h) (hyp : stp fT kT kJ (.if_icmp cd o) tg pc L st h K G) : mG p l e R s m args below meth c Q dC dI cI cZ ad A H0 nL pc L st h := by
  obtain ⟨hx, hb, hown, hts, hw, hml, hnst⟩ := C
  obtain ⟨rfl, hs2⟩ : len = 3 ∧ (pc : Int) + o = (tg : Int) := by simpa [sane] using hs
  intro H locs ls hP hD hS hL
  obtain ⟨a, b, r, rfl, ⟨hI, hJ2⟩, hyp⟩ := m2_e hyp
  cases cd with
  | eq => exact lv_icmp_eq hx hb hd hs2 (fun q => hG _ _ _ _ (hyp.1 ((iN_eq hI hJ2).mp q)) H locs ls hP hD hS hL) (fun q => hK _ _ _ (hyp.2 (fun z => q ((iN_eq hI hJ2).mpr z))) H locs ls hP hD hS hL)
  | ne => exact lv_icmp_ne hx hb hd hs2 (fun q => hG _ _ _ _ (hyp.1 (fun z => q ((iN_eq hI hJ2).mpr z))) H locs ls hP hD hS hL) (fun q => hK _ _ _ (hyp.2 ((iN_eq hI hJ2).mp q)) H locs ls hP hD hS hL)
  | lt => exact lv_icmp_lt hx hb hd hs2 (fun q => hG _ _ _ _ (hyp.1 ((iN_lt hI hJ2).mp q)) H locs ls hP hD hS hL) (fun q => hK _ _ _ (hyp.2 (fun z => q ((iN_lt hI hJ2).mpr z))) H locs ls hP hD hS hL)
  | ge => exact lv_icmp_ge hx hb hd hs2 (fun q => hG _ _ _ _ (hyp.1 ((iN_le hJ2 hI).mp q)) H locs ls hP hD hS hL) (fun q => hK _ _ _ (hyp.2 (fun z => q ((iN_le hJ2 hI).mpr z))) H locs ls hP hD hS hL)
  | gt => exact lv_icmp_gt hx hb hd hs2 (fun q => hG _ _ _ _ (hyp.1 ((iN_lt hJ2 hI).mp q)) H locs ls hP hD hS hL) (fun q => hK _ _ _ (hyp.2 (fun z => q ((iN_lt hJ2 hI).mpr z))) H locs ls hP hD hS hL)
  | le => exact lv_icmp_le hx hb hd hs2 (fun q => hG _ _ _ _ (hyp.1 ((iN_le hI hJ2).mp q)) H locs ls hP hD hS hL) (fun q => hK _ _ _ (hyp.2 (fun z => q ((iN_le hI hJ2).mpr z))) H locs ls hP hD hS hL)
theorem so_getfield {n : Nat} (C : mCtx p s m args c dC dI cI cZ cc own nL) (hF : mFT own fT) (hk : mKT own kT) (hJ : mKJ own kJ) (hd : decode cc pc = .ok (.getfield n, len)) (hs : sane nL pc (.getfield n) len tg = true) (hK : ∀ L st h, K L st h → mG p l e R s m args below meth c Q dC dI cI cZ ad A H0 nL (pc + len) L st h) (hG : ∀ t L st h, G t L st h → mG p l e R s m args below meth c Q dC dI cI cZ ad A H0 nL t L st h) (hyp : stp fT kT kJ (.getfield n) tg pc L st h K G) : mG p l e R s m args below meth c Q dC dI cI cZ ad A H0 nL pc L st h := by
  obtain ⟨hx, hb, hown, hts, hw, hml, hnst⟩ := C
  obtain rfl : len = 3 := by simpa [sane] using hs
  intro H locs ls hP hD hS hL
  unfold stp at hyp
  dsimp only at hyp
  split at hyp
  · rename_i ci k tk a r hf
    split at hyp
    · rename_i cj fs hc
      split at hyp
      · rename_i v hv
        obtain ⟨rfl, hyp⟩ := hyp
        obtain ⟨C, T, N, t0, ty, g1, g2, g3, g4, g5, g6, g7, g8⟩ := hF _ _ hf
        exact va_get (Ts := mtb) hx hb hts g3 hown hw hP a (cW_get hc) g1 k g2 (hts _ g6) (fun _ z => z) (by rw [List.getElem?_map, hv]; rfl) hd (hK _ _ _ hyp H locs ls hP hD hS hL)
      · exact hyp.elim
    · exact hyp.elim
  · exact hyp.elim
theorem so_putfield {n : Nat} (C : mCtx p s m args c dC dI cI cZ cc own nL) (hF : mFT own fT) (hk : mKT own kT) (hJ : mKJ own kJ) (hd : decode cc pc = .ok (.putfield n, len)) (hs : sane nL pc (.putfield n) len tg = true) (hK : ∀ L st h, K L st h → mG p l e R s m args below meth c Q dC dI cI cZ ad A H0 nL (pc + len) L st h) (hG : ∀ t L st h, G t L st h → mG p l e R s m args below meth c Q dC dI cI cZ ad A H0 nL t L st h) (hyp : stp fT kT kJ (.putfield n) tg pc L st h K G) : mG p l e R s m args below meth c Q dC dI cI cZ ad A H0 nL pc L st h := by
  obtain ⟨hx, hb, hown, hts, hw, hml, hnst⟩ := C
  obtain rfl : len = 3 := by simpa [sane] using hs
  intro H locs ls hP hD hS hL
  unfold stp at hyp
  dsimp only at hyp
  split at hyp
  · rename_i ci k tk v a r hf
    split at hyp
    · rename_i cj fs hc
      obtain ⟨⟨rfl, hlt, hfit⟩, hyp⟩ := hyp
      obtain ⟨C, T, N, t0, ty, g1, g2, g3, g4, g5, g6, g7, g8⟩ := hF _ _ hf
      have hn : narrow ty (cV ad v) = cV ad v ∧ fits ty (cV ad v) = true ∧ (T k).2.2.2 = false := by
        dsimp only at g8
        unfold mfit at hfit
        split at hfit
        · exact ⟨by rw [g8.1]; rfl, by rw [g8.1]; rfl, g8.2⟩
        · rcases hfit with rfl | rfl
          · exact ⟨by rw [g8.1]; exact (show narrow .boolean (.int (iN 0)) = .int (iN 0) by decide), by rw [g8.1]; rfl, g8.2⟩
          · exact ⟨by rw [g8.1]; exact (show narrow .boolean (.int (iN 1)) = .int (iN 1) by decide), by rw [g8.1]; rfl, g8.2⟩
        · exact ⟨by rw [g8.1]; rfl, by rw [g8.1]; rfl, g8.2⟩
        · rcases g8.1 with ⟨D, g9⟩ | g9
          · exact ⟨by rw [g9]; rfl, by rw [g9]; rfl, g8.2⟩
          · exact ⟨by rw [g9]; rfl, by rw [g9]; rfl, g8.2⟩
        · exact hfit.elim
      refine va_put (Ts := mtb) hx hb hts g3 t0 g4 g5 hown hw hP hD hS a (cW_get hc) g1 k g2 (hts _ g6) (fun _ z => z) hn.2.2 g7 hn.1 hn.2.1 (by rw [List.length_map]; exact hlt) hd (fun H1 locs1 hP1 hD1 hS1 => ?_)
      have e : (cW ad cI cZ h).set a (ad a, .inr (cj, (fs.map (cV ad)).set k (cV ad v))) = cW ad cI cZ (h.set a (.inl (cj, fs.set k v))) := by
        rw [cW_set, ← List.map_set]; rfl
      rw [e] at hP1 hD1
      exact hK _ _ _ hyp H1 locs1 ls hP1 hD1 hS1 hL
    · exact hyp.elim
  · exact hyp.elim
theorem so_iaload (C : mCtx p s m args c dC dI cI cZ cc own nL) (hF : mFT own fT) (hk : mKT own kT) (hJ : mKJ own kJ) (hd : decode cc pc = .ok (.iaload, len)) (hs : sane nL pc (.iaload) len tg = true) (hK : ∀ L st h, K L st h → mG p l e R s m args below meth c Q dC dI cI cZ ad A H0 nL (pc + len) L st h) (hG : ∀ t L st h, G t L st h → mG p l e R s m args below meth c Q dC dI cI cZ ad A H0 nL t L st h) (hyp : stp fT kT kJ (.iaload) tg pc L st h K G) : mG p l e R s m args below meth c Q dC dI cI cZ ad A H0 nL pc L st h := by
  obtain ⟨hx, hb, hown, hts, hw, hml, hnst⟩ := C
  obtain rfl : len = 1 := by simpa [sane] using hs
  intro H locs ls hP hD hS hL
  unfold stp at hyp
  dsimp only at hyp
  split at hyp
  · split at hyp
    · rename_i n f hc
      obtain ⟨⟨h1, h2, h3⟩, hyp⟩ := hyp
      obtain ⟨h4, h5⟩ := iN_in h2 h3 h1
      refine va_iald hx hb hw hP _ 0 (cW_get hc) rfl h4 hd ?_
      rw [h5]
      exact hK _ _ _ hyp H locs ls hP hD hS hL
    · exact hyp.elim
  · exact hyp.elim
theorem so_baload (C : mCtx p s m args c dC dI cI cZ cc own nL) (hF : mFT own fT) (hk : mKT own kT) (hJ : mKJ own kJ) (hd : decode cc pc = .ok (.baload, len)) (hs : sane nL pc (.baload) len tg = true) (hK : ∀ L st h, K L st h → mG p l e R s m args below meth c Q dC dI cI cZ ad A H0 nL (pc + len) L st h) (hG : ∀ t L st h, G t L st h → mG p l e R s m args below meth c Q dC dI cI cZ ad A H0 nL t L st h) (hyp : stp fT kT kJ (.baload) tg pc L st h K G) : mG p l e R s m args below meth c Q dC dI cI cZ ad A H0 nL pc L st h := by
  obtain ⟨hx, hb, hown, hts, hw, hml, hnst⟩ := C
  obtain rfl : len = 1 := by simpa [sane] using hs
  intro H locs ls hP hD hS hL
  unfold stp at hyp
  dsimp only at hyp
  split at hyp
  · split at hyp
    · rename_i n f hc
      obtain ⟨⟨h1, h2, h3⟩, hyp⟩ := hyp
      obtain ⟨h4, h5⟩ := iN_in h2 h3 h1
      refine va_zald hx hb hw hP _ 1 (cW_get hc) rfl h4 hd ?_
      rw [h5]
      exact hK _ _ _ hyp H locs ls hP hD hS hL
    · exact hyp.elim
  · exact hyp.elim
theorem so_iastore (C : mCtx p s m args c dC dI cI cZ cc own nL) (hF : mFT own fT) (hk : mKT own kT) (hJ : mKJ own kJ) (hd : decode cc pc = .ok (.iastore, len)) (hs : sane nL pc (.iastore) len tg = true) (hK : ∀ L st h, K L st h → mG p l e R s m args below meth c Q dC dI cI cZ ad A H0 nL (pc + len) L st h) (hG : ∀ t L st h, G t L st h → mG p l e R s m args below meth c Q dC dI cI cZ ad A H0 nL t L st h) (hyp : stp fT kT kJ (.iastore) tg pc L st h K G) : mG p l e R s m args below meth c Q dC dI cI cZ ad A H0 nL pc L st h := by
  obtain ⟨hx, hb, hown, hts, hw, hml, hnst⟩ := C
  obtain rfl : len = 1 := by simpa [sane] using hs
  intro H locs ls hP hD hS hL
  unfold stp at hyp
  dsimp only at hyp
  split at hyp
  · rename_i v i a r
    split at hyp
    · rename_i n f hc
      obtain ⟨⟨h1, h2, h3⟩, hyp⟩ := hyp
      obtain ⟨h4, h5⟩ := iN_in h2 h3 h1
      refine va_iast hx hb hw hP hD hS _ 0 (cW_get hc) rfl h4 hd (fun H1 locs1 hP1 hD1 hS1 => ?_)
      have e : (cW ad cI cZ h).set a (ad a, .inl (cond false cZ cI, n, .inl (upd (fun j => iN (f j)) (iN i).toNatClampNeg (iN v)))) = cW ad cI cZ (h.set a (.inr (false, n, mup f i.toNat v))) := by
        rw [cW_set, cC_arr, h5]
      rw [e] at hP1 hD1
      exact hK _ _ _ hyp H1 locs1 ls hP1 hD1 hS1 hL
    · exact hyp.elim
  · exact hyp.elim
theorem so_bastore (C : mCtx p s m args c dC dI cI cZ cc own nL) (hF : mFT own fT) (hk : mKT own kT) (hJ : mKJ own kJ) (hd : decode cc pc = .ok (.bastore, len)) (hs : sane nL pc (.bastore) len tg = true) (hK : ∀ L st h, K L st h → mG p l e R s m args below meth c Q dC dI cI cZ ad A H0 nL (pc + len) L st h) (hG : ∀ t L st h, G t L st h → mG p l e R s m args below meth c Q dC dI cI cZ ad A H0 nL t L st h) (hyp : stp fT kT kJ (.bastore) tg pc L st h K G) : mG p l e R s m args below meth c Q dC dI cI cZ ad A H0 nL pc L st h := by
  obtain ⟨hx, hb, hown, hts, hw, hml, hnst⟩ := C
  obtain rfl : len = 1 := by simpa [sane] using hs
  intro H locs ls hP hD hS hL
  unfold stp at hyp
  dsimp only at hyp
  split at hyp
  · rename_i v i a r
    split at hyp
    · rename_i n f hc
      obtain ⟨⟨h0, h1, h2, h3⟩, hyp⟩ := hyp
      obtain ⟨h4, h5⟩ := iN_in h2 h3 h1
      refine va_zast hx hb hw hP hD hS _ 1 (cW_get hc) rfl h4 hd (fun H1 locs1 hP1 hD1 hS1 => ?_)
      have e0 : vp_nar .boolean (iN v) = iN v := by rcases h0 with rfl | rfl <;> decide
      rw [e0] at hP1 hD1
      have e : (cW ad cI cZ h).set a (ad a, .inl (cond true cZ cI, n, .inl (upd (fun j => iN (f j)) (iN i).toNatClampNeg (iN v)))) = cW ad cI cZ (h.set a (.inr (true, n, mup f i.toNat v))) := by
        rw [cW_set, cC_arr, h5]
      rw [e] at hP1 hD1
      exact hK _ _ _ hyp H1 locs1 ls hP1 hD1 hS1 hL
    · exact hyp.elim
  · exact hyp.elim
theorem so_alen (C : mCtx p s m args c dC dI cI cZ cc own nL) (hF : mFT own fT) (hk : mKT own kT) (hJ : mKJ own kJ) (hd : decode cc pc = .ok (.arraylength, len)) (hs : sane nL pc (.arraylength) len tg = true) (hK : ∀ L st h, K L st h → mG p l e R s m args below meth c Q dC dI cI cZ ad A H0 nL (pc + len) L st h) (hG : ∀ t L st h, G t L st h → mG p l e R s m args below meth c Q dC dI cI cZ ad A H0 nL t L st h) (hyp : stp fT kT kJ (.arraylength) tg pc L st h K G) : mG p l e R s m args below meth c Q dC dI cI cZ ad A H0 nL pc L st h := by
  obtain ⟨hx, hb, hown, hts, hw, hml, hnst⟩ := C
  obtain rfl : len = 1 := by simpa [sane] using hs
  intro H locs ls hP hD hS hL
  unfold stp at hyp
  dsimp only at hyp
  split at hyp
  · split at hyp
    · rename_i b n f hc
      obtain ⟨h1, hyp⟩ := hyp
      cases b with
      | false => exact va_alen hx hb hw hP _ 0 (cW_get hc) rfl (iN_n n).symm hd (hK _ _ _ hyp H locs ls hP hD hS hL)
      | true => exact va_alen hx hb hw hP _ 1 (cW_get hc) rfl (iN_n n).symm hd (hK _ _ _ hyp H locs ls hP hD hS hL)
    · exact hyp.elim
  · exact hyp.elim
theorem so_tsw {d lo hi : Int} {os : Array Int} (C : mCtx p s m args c dC dI cI cZ cc own nL) (hF : mFT own fT) (hk : mKT own kT) (hJ : mKJ own kJ) (hd : decode cc pc = .ok (.tableswitch d lo hi os, len)) (hs : sane nL pc (.tableswitch d lo hi os) len tg = true) (hK : ∀ L st h, K L st h → mG p l e R s m args below meth c Q dC dI cI cZ ad A H0 nL (pc + len) L st h) (hG : ∀ t L st h, G t L st h → mG p l e R s m args below meth c Q dC dI cI cZ ad A H0 nL t L st h) (hyp : stp fT kT kJ (.tableswitch d lo hi os) tg pc L st h K G) : mG p l e R s m args below meth c Q dC dI cI cZ ad A H0 nL pc L st h := by
  obtain ⟨hx, hb, hown, hts, hw, hml, hnst⟩ := C
  intro H locs ls hP hD hS hL
  obtain ⟨z, r, rfl, hI, h1, h2⟩ := m1_e hyp
  obtain ⟨s1, s2, s3, s4, s5⟩ : 0 ≤ (pc : Int) + d ∧ inI lo ∧ inI hi ∧ hi - lo + 1 = os.size ∧ ∀ o ∈ os.toList, 0 ≤ (pc : Int) + o := by
    unfold sane at hs; exact of_decide_eq_true hs
  by_cases hz : z < lo ∨ hi < z
  · exact lv_tableOut (tgt := ((pc : Int) + d).toNat) hx hb hd (by rw [iN_t hI]; exact hz) (Int.toNat_of_nonneg s1).symm (hG _ _ _ _ (h1 hz) H locs ls hP hD hS hL)
  · have hb1 : (z - lo).toNat < os.toList.length := by rw [Array.length_toList]; omega
    have hg : os.toList[(z - lo).toNat]? = some (os.toList[(z - lo).toNat]) := List.getElem?_eq_getElem hb1
    have h0 := s5 _ (List.getElem_mem hb1)
    exact lv_tableIn (tgt := ((pc : Int) + os.toList[(z - lo).toNat]).toNat) hx hb hd (by rw [iN_t hI]; omega) (by rw [iN_t hI]; omega) (by rw [iN_t hI, ← Array.getElem?_toList]; exact hg) (Int.toNat_of_nonneg h0).symm (hG _ _ _ _ (mtsw_e h2 _ _ hg (by omega)) H locs ls hP hD hS hL)
theorem so_lsw {d : Int} {ps : Array (Int × Int)} (C : mCtx p s m args c dC dI cI cZ cc own nL) (hF : mFT own fT) (hk : mKT own kT) (hJ : mKJ own kJ) (hd : decode cc pc = .ok (.lookupswitch d ps, len)) (hs : sane nL pc (.lookupswitch d ps) len tg = true) (hK : ∀ L st h, K L st h → mG p l e R s m args below meth c Q dC dI cI cZ ad A H0 nL (pc + len) L st h) (hG : ∀ t L st h, G t L st h → mG p l e R s m args below meth c Q dC dI cI cZ ad A H0 nL t L st h) (hyp : stp fT kT kJ (.lookupswitch d ps) tg pc L st h K G) : mG p l e R s m args below meth c Q dC dI cI cZ ad A H0 nL pc L st h := by
  obtain ⟨hx, hb, hown, hts, hw, hml, hnst⟩ := C
  intro H locs ls hP hD hS hL
  obtain ⟨z, r, rfl, hI, h1, h2⟩ := m1_e hyp
  have hs' := hs
  unfold sane at hs'
  simp only [Bool.and_eq_true, decide_eq_true_eq] at hs'
  obtain ⟨⟨s1, s2⟩, s3⟩ := hs'
  have key : ∀ l : List (Int × Int), (∃ q ∈ l, z = q.1 ∧ Op.lookupswitch.offset l d z = q.2) ∨ ((∀ q ∈ l, z ≠ q.1) ∧ Op.lookupswitch.offset l d z = d) := by
    intro l
    induction l with
    | nil => exact Or.inr ⟨fun q hq => (List.not_mem_nil hq).elim, rfl⟩
    | cons a l ih =>
      obtain ⟨k, o⟩ := a
      show (∃ q ∈ (k, o) :: l, z = q.1 ∧ (if k = z then o else Op.lookupswitch.offset l d z) = q.2) ∨ ((∀ q ∈ (k, o) :: l, z ≠ q.1) ∧ (if k = z then o else Op.lookupswitch.offset l d z) = d)
      by_cases hk1 : k = z
      · exact Or.inl ⟨(k, o), List.mem_cons_self, hk1.symm, by rw [if_pos hk1]⟩
      · rw [if_neg hk1]
        rcases ih with ⟨q, hq, e1, e2⟩ | ⟨e1, e2⟩
        · exact Or.inl ⟨q, List.mem_cons_of_mem _ hq, e1, e2⟩
        · refine Or.inr ⟨fun q hq => ?_, e2⟩
          rcases List.mem_cons.mp hq with rfl | hq
          · exact fun z1 => hk1 z1.symm
          · exact e1 q hq
  rcases key ps.toList with ⟨q, hq, hz, ho⟩ | ⟨hz, ho⟩
  · exact lv_lookup (tgt := ((pc : Int) + q.2).toNat) hx hb hd s3 (by rw [iN_t hI]; exact ho) (Int.toNat_of_nonneg (s2 q hq).1).symm (hG _ _ _ _ (mlsw_e h2 q hq hz) H locs ls hP hD hS hL)
  · exact lv_lookup (tgt := ((pc : Int) + d).toNat) hx hb hd s3 (by rw [iN_t hI]; exact ho) (Int.toNat_of_nonneg s1).symm (hG _ _ _ _ (h1 hz) H locs ls hP hD hS hL)
theorem stp_sound {i : Instr} (C : mCtx p s m args c dC dI cI cZ cc own nL) (hF : mFT own fT) (hk : mKT own kT) (hJ : mKJ own kJ) (hd : decode cc pc = .ok (i, len)) (hs : sane nL pc i len tg = true) (hK : ∀ L st h, K L st h → mG p l e R s m args below meth c Q dC dI cI cZ ad A H0 nL (pc + len) L st h) (hG : ∀ t L st h, G t L st h → mG p l e R s m args below meth c Q dC dI cI cZ ad A H0 nL t L st h) (hyp : stp fT kT kJ i tg pc L st h K G) : mG p l e R s m args below meth c Q dC dI cI cZ ad A H0 nL pc L st h := by
  cases i with
  | iconst => exact so_iconst C hF hk hJ hd hs hK hG hyp
  | bipush => exact so_bipush C hF hk hJ hd hs hK hG hyp
  | sipush => exact so_sipush C hF hk hJ hd hs hK hG hyp
  | ldc => exact so_ldc C hF hk hJ hd hs hK hG hyp
  | ldc_w => exact so_ldcw C hF hk hJ hd hs hK hG hyp
  | lconst => exact so_lconst C hF hk hJ hd hs hK hG hyp
  | ldc2_w => exact so_ldc2 C hF hk hJ hd hs hK hG hyp
  | iload => exact so_iload C hF hk hJ hd hs hK hG hyp
  | iload_n => exact so_iload_n C hF hk hJ hd hs hK hG hyp
  | lload => exact so_lload C hF hk hJ hd hs hK hG hyp
  | lload_n => exact so_lload_n C hF hk hJ hd hs hK hG hyp
  | aload => exact so_aload C hF hk hJ hd hs hK hG hyp
  | aload_n => exact so_aload_n C hF hk hJ hd hs hK hG hyp
  | istore => exact so_istore C hF hk hJ hd hs hK hG hyp
  | istore_n => exact so_istore_n C hF hk hJ hd hs hK hG hyp
  | lstore => exact so_lstore C hF hk hJ hd hs hK hG hyp
  | lstore_n => exact so_lstore_n C hF hk hJ hd hs hK hG hyp
  | astore => exact so_astore C hF hk hJ hd hs hK hG hyp
  | astore_n => exact so_astore_n C hF hk hJ hd hs hK hG hyp
  | iinc => exact so_iinc C hF hk hJ hd hs hK hG hyp
  | iadd => exact so_iadd C hF hk hJ hd hs hK hG hyp
  | isub => exact so_isub C hF hk hJ hd hs hK hG hyp
  | imul => exact so_imul C hF hk hJ hd hs hK hG hyp
  | ineg => exact so_ineg C hF hk hJ hd hs hK hG hyp
  | idiv => exact so_idiv C hF hk hJ hd hs hK hG hyp
  | irem => exact so_irem C hF hk hJ hd hs hK hG hyp
  | ishl => exact so_ishl C hF hk hJ hd hs hK hG hyp
  | ishr => exact so_ishr C hF hk hJ hd hs hK hG hyp
  | iushr => exact so_iushr C hF hk hJ hd hs hK hG hyp
  | iand => exact so_iand C hF hk hJ hd hs hK hG hyp
  | ior => exact so_ior C hF hk hJ hd hs hK hG hyp
  | i2l => exact so_i2l C hF hk hJ hd hs hK hG hyp
  | l2i => exact so_l2i C hF hk hJ hd hs hK hG hyp
  | ladd => exact so_ladd C hF hk hJ hd hs hK hG hyp
  | lmul => exact so_lmul C hF hk hJ hd hs hK hG hyp
  | ldiv => exact so_ldiv C hF hk hJ hd hs hK hG hyp
  | lrem => exact so_lrem C hF hk hJ hd hs hK hG hyp
  | dup => exact so_dup C hF hk hJ hd hs hK hG hyp
  | dup2 => exact so_dup2 C hF hk hJ hd hs hK hG hyp
  | goto => exact so_goto C hF hk hJ hd hs hK hG hyp
  | ifCond => exact so_if C hF hk hJ hd hs hK hG hyp
  | if_icmp => exact so_icmp C hF hk hJ hd hs hK hG hyp
  | getfield => exact so_getfield C hF hk hJ hd hs hK hG hyp
  | putfield => exact so_putfield C hF hk hJ hd hs hK hG hyp
  | iaload => exact so_iaload C hF hk hJ hd hs hK hG hyp
  | baload => exact so_baload C hF hk hJ hd hs hK hG hyp
  | iastore => exact so_iastore C hF hk hJ hd hs hK hG hyp
  | bastore => exact so_bastore C hF hk hJ hd hs hK hG hyp
  | arraylength => exact so_alen C hF hk hJ hd hs hK hG hyp
  | tableswitch => exact so_tsw C hF hk hJ hd hs hK hG hyp
  | lookupswitch => exact so_lsw C hF hk hJ hd hs hK hG hyp
  | _ => exact hG _ _ _ _ hyp
theorem blk_sound (C : mCtx p s m args c dC dI cI cZ cc own nL) (hF : mFT own fT) (hk : mKT own kT) (hJ : mKJ own kJ) : ∀ (l1 : List mI) (pc : Nat) (L : mL) (st : List mV) (h : mH), okb cc nL pc l1 = true → blk fT kT kJ (mG p l e R s m args below meth c Q dC dI cI cZ ad A H0 nL) pc l1 L st h → mG p l e R s m args below meth c Q dC dI cI cZ ad A H0 nL pc L st h
  | [], _, _, _, _, _, hyp => hyp
  | (i, len, tg) :: r, pc, L, st, h, ho, hyp => by
    obtain ⟨h1, h2, h3⟩ := okb_head ho
    exact stp_sound C hF hk hJ h1 h2 (fun L st h q => blk_sound C hF hk hJ r (pc + len) L st h h3 q) (fun t L st h q => q) hyp
end SO
end
section
/-! contracts of the small machine, and the rules by which one is walked -/
def rmD (d : Nat) : Room := { frames := d, cells := 0, slots := 0, locals := 32 * d }
def mPre (dC : Nat → ClassId) (dI : Nat → Nat → Nat) (cI cZ : ClassId) (ad : Nat → Nat) (sz : Nat) (As : List mV) (h : mH) : Array Value → State → Prop :=
  va_Pc (As.map (cV ad)) (fun U => U.heap.size = sz ∧ va_P (dC, dI) mcl (cW ad cI cZ h) U.heap ∧ va_K (dC, dI) mcl (mtys cI cZ) U ∧ va_D (fun _ => True) (cW ad cI cZ h) ∧ mNst U)
def mB (dC : Nat → ClassId) (dI : Nat → Nat → Nat) (cI cZ : ClassId) (ad : Nat → Nat) (A : Nat → Prop) (h : mH) (t : State) : Prop := va_P (dC, dI) mcl (cW ad cI cZ h) t.heap ∧ va_K (dC, dI) mcl (mtys cI cZ) t ∧ va_D A (cW ad cI cZ h)
abbrev mws (y : MethodName) (b : ByteArray) (nL : Nat) (ret : Option FieldType) : List Jvm.Cond := Cond.code y b nL ret :: mtb
/-- called with As in the heap h, it answers z and leaves h', with post z h' -/
def SpI (l : Launch) (d : Nat) (y : MethodName) (b : ByteArray) (nL : Nat) (ret : Option FieldType) (As : List mV) (h : mH) (post : Int → mH → Prop) : Prop :=
  ∀ (dC : Nat → ClassId) (dI : Nat → Nat → Nat) (cI cZ : ClassId) (ad : Nat → Nat) (sz : Nat), Met l y (mws y b nL ret) (rmD d) (mPre dC dI cI cZ ad sz As h) (va_Qi (fun (r : Int32) (u : mH) => ∃ z : Int, r = iN z ∧ post z u) (mB dC dI cI cZ ad (va_A (cW ad cI cZ h) sz)) (va_A (cW ad cI cZ h) sz)) 0 0 (va_A (cW ad cI cZ h) sz)
def SpJ (l : Launch) (d : Nat) (y : MethodName) (b : ByteArray) (nL : Nat) (ret : Option FieldType) (As : List mV) (h : mH) (post : Int → mH → Prop) : Prop :=
  ∀ (dC : Nat → ClassId) (dI : Nat → Nat → Nat) (cI cZ : ClassId) (ad : Nat → Nat) (sz : Nat), Met l y (mws y b nL ret) (rmD d) (mPre dC dI cI cZ ad sz As h) (va_Ql (fun (r : Int64) (u : mH) => ∃ z : Int, r = jN z ∧ post z u) (mB dC dI cI cZ ad (va_A (cW ad cI cZ h) sz)) (va_A (cW ad cI cZ h) sz)) 0 0 (va_A (cW ad cI cZ h) sz)
def SpV (l : Launch) (d : Nat) (y : MethodName) (b : ByteArray) (nL : Nat) (ret : Option FieldType) (As : List mV) (h : mH) (post : mH → Prop) : Prop :=
  ∀ (dC : Nat → ClassId) (dI : Nat → Nat → Nat) (cI cZ : ClassId) (ad : Nat → Nat) (sz : Nat), Met l y (mws y b nL ret) (rmD d) (mPre dC dI cI cZ ad sz As h) (va_Qv (fun u : mH => post u) (mB dC dI cI cZ ad (va_A (cW ad cI cZ h) sz)) (va_A (cW ad cI cZ h) sz)) 0 0 (va_A (cW ad cI cZ h) sz)
/-- what the tables say of a method -/
def mfA (y : MethodName) (b : ByteArray) (nL : Nat) (ret : Option FieldType) (n : Nat) : Prop := Cond.initialized y.cls ∈ mtb ∧ Cond.code y b nL ret ∈ mtb ∧ (y.cls ≠ "java/lang/invoke/MethodHandle" ∧ y.cls ≠ "java/lang/invoke/VarHandle" ∧ (parseMethodDescriptor y.desc).map (fun d => d.parameters.length) = some n) ∧ nL ≤ 13 ∧ plainName y.cls = true
def mfV (y : MethodName) (b : ByteArray) (nL : Nat) (ret : Option FieldType) (n : Nat) : Prop := mfA y b nL ret n ∧ Cond.instanceMethod y ∈ mtb ∧ Cond.selects y.cls y y ∈ mtb
def mfS (y : MethodName) (b : ByteArray) (nL : Nat) (ret : Option FieldType) (n : Nat) : Prop := mfA y b nL ret n ∧ Cond.static y ∈ mtb
def mlk (own : String) (idx : Nat) (y : MethodName) : Prop := Cond.methodLink own idx y ∈ mtb
/-- who receives -/
def mrv (h : mH) (a : Nat) (C : String) : Prop := ∃ (ci : Nat) (fs : List mV) (q : vw_C), h[a]? = some (.inl (ci, fs)) ∧ mcl[ci]? = some q ∧ q.1 = C
theorem tbl_good : ∀ w ∈ mtb, goodWord w = true := fun _ h => (List.mem_filter.mp h).2
theorem tbl_in {ws : List Jvm.Cond} (h : ∀ w ∈ ws, w ∈ mtb) : GoodIn mtb ws := fun w hw => ⟨h w hw, good_of_word (tbl_good w (h w hw))⟩
theorem cVlen {ad : Nat → Nat} : ∀ {st : List mV}, ((st.map (cV ad)).map fun v => v.category).sum ≤ 2 * st.length
  | [] => Nat.le_refl 0
  | v :: r => by
    have h1 := cVlen (ad := ad) (st := r)
    have h2 : (cV ad v).category ≤ 2 := by
      rcases lv_cat (cV ad v) with q | q <;> omega
    simp only [List.map_cons, List.sum_cons, List.length_cons]
    omega
theorem mFB {dC : Nat → ClassId} {dI : Nat → Nat → Nat} {cI cZ : ClassId} {ad : Nat → Nat} {sz : Nat} {As : List mV} {h : mH} : FrameBlind (mPre dC dI cI cZ ad sz As h) := fun a U g mk q => by
  obtain ⟨q0, q1, qP, qK, qD, qN⟩ := q
  exact ⟨q0, q1, qP, va_K.moved (u := U) (U := U.calling g mk a) (Vm.Alike.refl U.vm) qK, qD, va_Nw.same (U := U.calling g mk a) rfl rfl qN.1, va_Nw.same (U := U.calling g mk a) rfl rfl qN.2⟩
section CALL
variable {p : Program} {l : Launch} {e : Env} {R : Room} {s : State} {m : MethodId} {args : Array Value} {below : List Frame} {meth : Method} {c : Code} {Q : State → Prop}
variable {dC : Nat → ClassId} {dI : Nat → Nat → Nat} {cI cZ : ClassId} {ad : Nat → Nat} {A : Nat → Prop} {H0 : Heap} {nL : Nat} {cc : ByteArray} {own : String}
variable {pc : Nat} {L : mL} {h : mH} {idx : Nat} {y : MethodName} {b : ByteArray} {nL' : Nat} {ret : Option FieldType} {d d' : Nat} {As rest : List mV} {a : Nat}
theorem cw_free {H : Heap} {locs : List Loc} (hD : va_D A (cW ad cI cZ h)) (hS : va_S A H0 H locs) (hA : ∀ q, H0.size ≤ q → A q) : ∀ q, va_A (cW ad cI cZ h) H.size q → A q := by
  intro q hq
  rcases hq with ⟨k, e, he⟩ | hq
  · exact hD.2 k (q, e) he
  · exact hA q (Nat.le_trans hS.1 hq)
theorem cwB (hts : ∀ w ∈ mtb, w.before args s = true) (hf : mfA y b nL' ret As.length) (hl : mlk own idx y) (hd : d' < d) (hR : R.frames = d ∧ R.locals = 32 * d) : CallB R s args own idx y b nL' ret (mws y b nL' ret) (rmD d') 0 0 As.length := by
  obtain ⟨h1, h2, h3, h4, -⟩ := hf
  refine callB_of _ hts (tbl_in ?_) rfl rfl rfl (hts _ h1) (hts _ hl) h3 ?_
  · intro w hw
    rcases List.mem_cons.mp hw with rfl | hw
    · exact h2
    · exact hw
  · show d' + 1 ≤ R.frames ∧ 8 + (nL' + 11) + 32 * d' ≤ R.locals
    rw [hR.1, hR.2]; omega
theorem mpre_of {H : Heap} (hN : mNst s) (hK : va_K (dC, dI) mcl (mtys cI cZ) s) (hP : va_P (dC, dI) mcl (cW ad cI cZ h) H) (hD : va_D A (cW ad cI cZ h)) {v : Array Value} (hv : v = (As.map (cV ad)).toArray) : ∀ U : State, U.heap = H → s.WarmedH U.vm → mPre dC dI cI cZ ad H.size As h v U := fun U hU hW =>
  ⟨hv, by rw [hU], by rw [hU]; exact hP, va_K.moved hW.alike hK, hD.weaken (fun _ _ _ _ => trivial), hN.warm hW⟩
theorem map_rev {f : mV → Value} {As rest : List mV} {x : mV} : (As.reverse ++ x :: rest).map f = (As.map f).reverse ++ f x :: rest.map f := by simp
theorem map_revS {f : mV → Value} {As rest : List mV} : (As.reverse ++ rest).map f = (As.map f).reverse ++ rest.map f := by simp
theorem call_V (C : mCtx p s m args c dC dI cI cZ cc own nL) (hA : ∀ q, H0.size ≤ q → A q) (hR : R.frames = d ∧ R.locals = 32 * d) (hdg : decode cc pc = .ok (.invokevirtual idx, 3)) (hf : mfV y b nL' ret As.length) (hl : mlk own idx y) (hd : d' < d) (hr : rest.length ≤ 4) (hv : mrv h a y.cls) {post : Int → mH → Prop} (hsp : SpI l d' y b nL' ret (mr a :: As) h post)
    (kk : ∀ z h', post z h' → mG p l e R s m args below meth c Q dC dI cI cZ ad A H0 nL (pc + 3) L (mi z :: rest) h') : mG p l e R s m args below meth c Q dC dI cI cZ ad A H0 nL pc L (As.reverse ++ mr a :: rest) h := by
  obtain ⟨hx, hb, hown, hts, hw, hml, hnst⟩ := C
  intro H locs ls hP hD hS hL
  have hFc := cw_free hD hS hA
  obtain ⟨ci, fs, q, v1, v2, v3⟩ := hv
  have hcw : CallW R s args own y.cls idx y b nL' ret (mws y b nL' ret) (rmD d') 0 0 As.length := ⟨cwB hts hf.1 hl hd hR, hts _ hf.2.1, hts _ hf.2.2⟩
  have hrc := va_recv hw hP v2 (cW_get v1)
  rw [v3] at hrc
  have hrun := va_runV (As := As.map (cV ad)) (rest := rest.map (cV ad)) (b := ad a) (g := F0 m pc ls ((As.reverse ++ mr a :: rest).map (cV ad))) (R := R) (locs := locs) (cells := 0) (slots := 0) (meth := meth) (below := below) (e := e) ⟨hx, hb, hml, hown, hts⟩ (hsp dC dI cI cZ ad H.size) hcw ⟨mFB, hrc, mpre_of hnst hw hP hD rfl⟩ rfl (List.length_map _) hL.2.1 map_rev (lv_room (Nat.le_trans cVlen (by omega))) hdg ⟨Nat.zero_le _, Nat.zero_le _⟩
  refine va_calli hrun hS (fun q _ h => hFc q h) hFc (fun r u t H1 locs1 ht hvm hz hB hz1 hk1 hS1 => ?_)
  obtain ⟨z, rfl, hpost⟩ := hz
  obtain ⟨hP1, hK1, hD1⟩ := hB
  rw [ht] at hP1
  exact kk z u hpost H1 locs1 ls hP1 (hD1.weaken (fun k q _ h => hFc q.1 h)) hS1 hL
theorem call_VV (C : mCtx p s m args c dC dI cI cZ cc own nL) (hA : ∀ q, H0.size ≤ q → A q) (hR : R.frames = d ∧ R.locals = 32 * d) (hdg : decode cc pc = .ok (.invokevirtual idx, 3)) (hf : mfV y b nL' ret As.length) (hl : mlk own idx y) (hd : d' < d) (hr : rest.length ≤ 4) (hv : mrv h a y.cls) {post : mH → Prop} (hsp : SpV l d' y b nL' ret (mr a :: As) h post)
    (kk : ∀ h', post h' → mG p l e R s m args below meth c Q dC dI cI cZ ad A H0 nL (pc + 3) L rest h') : mG p l e R s m args below meth c Q dC dI cI cZ ad A H0 nL pc L (As.reverse ++ mr a :: rest) h := by
  obtain ⟨hx, hb, hown, hts, hw, hml, hnst⟩ := C
  intro H locs ls hP hD hS hL
  have hFc := cw_free hD hS hA
  obtain ⟨ci, fs, q, v1, v2, v3⟩ := hv
  have hcw : CallW R s args own y.cls idx y b nL' ret (mws y b nL' ret) (rmD d') 0 0 As.length := ⟨cwB hts hf.1 hl hd hR, hts _ hf.2.1, hts _ hf.2.2⟩
  have hrc := va_recv hw hP v2 (cW_get v1)
  rw [v3] at hrc
  have hrun := va_runV (As := As.map (cV ad)) (rest := rest.map (cV ad)) (b := ad a) (g := F0 m pc ls ((As.reverse ++ mr a :: rest).map (cV ad))) (R := R) (locs := locs) (cells := 0) (slots := 0) (meth := meth) (below := below) (e := e) ⟨hx, hb, hml, hown, hts⟩ (hsp dC dI cI cZ ad H.size) hcw ⟨mFB, hrc, mpre_of hnst hw hP hD rfl⟩ rfl (List.length_map _) hL.2.1 map_rev (lv_room (Nat.le_trans cVlen (by omega))) hdg ⟨Nat.zero_le _, Nat.zero_le _⟩
  refine va_callv hrun hS (fun q _ h => hFc q h) hFc (fun u t H1 locs1 ht hvm hpost hB hz1 hk1 hS1 => ?_)
  obtain ⟨hP1, hK1, hD1⟩ := hB
  rw [ht] at hP1
  exact kk u hpost H1 locs1 ls hP1 (hD1.weaken (fun k q _ h => hFc q.1 h)) hS1 hL
theorem call_S (C : mCtx p s m args c dC dI cI cZ cc own nL) (hA : ∀ q, H0.size ≤ q → A q) (hR : R.frames = d ∧ R.locals = 32 * d) (hdg : decode cc pc = .ok (.invokestatic idx, 3)) (hf : mfS y b nL' ret As.length) (hl : mlk own idx y) (hd : d' < d) (hr : rest.length ≤ 4) {post : Int → mH → Prop} (hsp : SpI l d' y b nL' ret As h post)
    (kk : ∀ z h', post z h' → mG p l e R s m args below meth c Q dC dI cI cZ ad A H0 nL (pc + 3) L (mi z :: rest) h') : mG p l e R s m args below meth c Q dC dI cI cZ ad A H0 nL pc L (As.reverse ++ rest) h := by
  obtain ⟨hx, hb, hown, hts, hw, hml, hnst⟩ := C
  intro H locs ls hP hD hS hL
  have hFc := cw_free hD hS hA
  have hrun := va_runS (As := As.map (cV ad)) (rest := rest.map (cV ad)) (g := F0 m pc ls ((As.reverse ++ rest).map (cV ad))) (R := R) (locs := locs) (cells := 0) (slots := 0) (meth := meth) (below := below) (e := e) ⟨hx, hb, hml, hown, hts⟩ (hsp dC dI cI cZ ad H.size) ⟨cwB hts hf.1 hl hd hR, hts _ hf.2⟩ ⟨mFB, mpre_of hnst hw hP hD rfl⟩ rfl (List.length_map _) hL.2.1 map_revS (lv_room (Nat.le_trans cVlen (by omega))) hdg ⟨Nat.zero_le _, Nat.zero_le _⟩
  refine va_calli hrun hS (fun q _ h => hFc q h) hFc (fun r u t H1 locs1 ht hvm hz hB hz1 hk1 hS1 => ?_)
  obtain ⟨z, rfl, hpost⟩ := hz
  obtain ⟨hP1, hK1, hD1⟩ := hB
  rw [ht] at hP1
  exact kk z u hpost H1 locs1 ls hP1 (hD1.weaken (fun k q _ h => hFc q.1 h)) hS1 hL
end CALL
/-- what of the tables the calls of Math and System need -/
def mJdk : Prop := (Cond.static Lib.Math.max.name ∈ mtb ∧ Cond.static Lib.Math.min.name ∈ mtb ∧ Cond.static Lib.Math.abs.name ∈ mtb) ∧ Cond.initialized "java/lang/Math" ∈ mtb ∧ (Cond.code Lib.Math.max.name Lib.Math.max.code 2 (some .int) ∈ mtb ∧ Cond.code Lib.Math.min.name Lib.Math.min.code 2 (some .int) ∈ mtb ∧ Cond.code Lib.Math.abs.name Lib.Math.abs.code 1 (some .int) ∈ mtb) ∧ Cond.native arraycopyName ∈ mtb ∧ Cond.static arraycopyName ∈ mtb ∧ Cond.initialized "java/lang/System" ∈ mtb
end
section
/-! Math, arraycopy, ends; the rules in one bundle -/
def mMx (own : String) (idx : Nat) (y : MethodName) : Prop := Cond.methodLink own idx y ∈ mtb
section CALM
variable {p : Program} {l : Launch} {e : Env} {R : Room} {s : State} {m : MethodId} {args : Array Value} {below : List Frame} {meth : Method} {c : Code} {Q : State → Prop}
variable {dC : Nat → ClassId} {dI : Nat → Nat → Nat} {cI cZ : ClassId} {ad : Nat → Nat} {A : Nat → Prop} {H0 : Heap} {nL : Nat} {cc : ByteArray} {own : String}
variable {pc : Nat} {L : mL} {h : mH} {idx : Nat} {d : Nat} {rest : List mV}
theorem if_max {a b : Int} (ha : inI a) (hb : inI b) : (if iN a < iN b then iN b else iN a) = iN (max a b) := by
  by_cases h : a < b
  · rw [if_pos ((iN_lt ha hb).mpr h), Int.max_eq_right (by omega)]
  · rw [if_neg (fun q => h ((iN_lt ha hb).mp q)), Int.max_eq_left (by omega)]
theorem call_max (C : mCtx p s m args c dC dI cI cZ cc own nL) (hR : R.frames = d ∧ R.locals = 32 * d) (hdg : decode cc pc = .ok (.invokestatic idx, 3)) (hl : mlk own idx Lib.Math.max.name) (h1 : Cond.static Lib.Math.max.name ∈ mtb) (h2 : Cond.initialized "java/lang/Math" ∈ mtb) (h3 : Cond.code Lib.Math.max.name Lib.Math.max.code 2 (some .int) ∈ mtb) (hd : 0 < d) (hr : rest.length ≤ 4) {a b : Int} (ha : inI a) (hb2 : inI b)
    (kk : mG p l e R s m args below meth c Q dC dI cI cZ ad A H0 nL (pc + 3) L (mi (max a b) :: rest) h) : mG p l e R s m args below meth c Q dC dI cI cZ ad A H0 nL pc L (mi b :: mi a :: rest) h := by
  obtain ⟨hx, hb, hown, hts, hw, hml, hnst⟩ := C
  intro H locs ls hP hD hS hL
  refine va_mmax hx hb (by rw [hml]; exact hL.2.1.symm) hown (hts _ hl) (hts _ h1) (hts _ h2) (hts _ h3) (by omega) (by have := cVlen (ad := ad) (st := rest); omega) (Nat.zero_le _) (Nat.zero_le _) hdg ?_
  rw [if_max ha hb2]
  exact kk H locs ls hP hD hS hL
theorem if_min {a b : Int} (ha : inI a) (hb : inI b) : (if iN b < iN a then iN b else iN a) = iN (min a b) := by
  by_cases h : b < a
  · rw [if_pos ((iN_lt hb ha).mpr h), Int.min_eq_right (by omega)]
  · rw [if_neg (fun q => h ((iN_lt hb ha).mp q)), Int.min_eq_left (by omega)]
theorem call_min (C : mCtx p s m args c dC dI cI cZ cc own nL) (hR : R.frames = d ∧ R.locals = 32 * d) (hdg : decode cc pc = .ok (.invokestatic idx, 3)) (hl : mlk own idx Lib.Math.min.name) (h1 : Cond.static Lib.Math.min.name ∈ mtb) (h2 : Cond.initialized "java/lang/Math" ∈ mtb) (h3 : Cond.code Lib.Math.min.name Lib.Math.min.code 2 (some .int) ∈ mtb) (hd : 0 < d) (hr : rest.length ≤ 4) {a b : Int} (ha : inI a) (hb2 : inI b)
    (kk : mG p l e R s m args below meth c Q dC dI cI cZ ad A H0 nL (pc + 3) L (mi (min a b) :: rest) h) : mG p l e R s m args below meth c Q dC dI cI cZ ad A H0 nL pc L (mi b :: mi a :: rest) h := by
  obtain ⟨hx, hb, hown, hts, hw, hml, hnst⟩ := C
  intro H locs ls hP hD hS hL
  refine va_mmin hx hb (by rw [hml]; exact hL.2.1.symm) hown (hts _ hl) (hts _ h1) (hts _ h2) (hts _ h3) (by omega) (by have := cVlen (ad := ad) (st := rest); omega) (Nat.zero_le _) (Nat.zero_le _) hdg ?_
  rw [if_min ha hb2]
  exact kk H locs ls hP hD hS hL
theorem call_abs (C : mCtx p s m args c dC dI cI cZ cc own nL) (hR : R.frames = d ∧ R.locals = 32 * d) (hdg : decode cc pc = .ok (.invokestatic idx, 3)) (hl : mlk own idx Lib.Math.abs.name) (h1 : Cond.static Lib.Math.abs.name ∈ mtb) (h2 : Cond.initialized "java/lang/Math" ∈ mtb) (h3 : Cond.code Lib.Math.abs.name Lib.Math.abs.code 1 (some .int) ∈ mtb) (hd : 0 < d) (hr : rest.length ≤ 4) {a : Int} (ha : inI a)
    (kk : mG p l e R s m args below meth c Q dC dI cI cZ ad A H0 nL (pc + 3) L (mi (max a (-a)) :: rest) h) : mG p l e R s m args below meth c Q dC dI cI cZ ad A H0 nL pc L (mi a :: rest) h := by
  obtain ⟨hx, hb, hown, hts, hw, hml, hnst⟩ := C
  intro H locs ls hP hD hS hL
  refine va_mabs hx hb (by rw [hml]; exact hL.2.1.symm) hown (hts _ hl) (hts _ h1) (hts _ h2) (hts _ h3) (by omega) (by have := cVlen (ad := ad) (st := rest); omega) (Nat.zero_le _) (Nat.zero_le _) hdg ?_
  have h0 : inI 0 := ⟨by omega, by omega⟩
  have e : (if 0 ≤ iN a then iN a else 0 - iN a) = iN (max a (-a)) := by
    rw [← iN_0]
    by_cases q : 0 ≤ a
    · rw [if_pos ((iN_le h0 ha).mpr q), Int.max_eq_left (by omega)]
    · rw [if_neg (fun z => q ((iN_le h0 ha).mp z)), Int.max_eq_right (by omega), iN_sub]
      congr 1; omega
  rw [e]
  exact kk H locs ls hP hD hS hL
def mcpy (f g : Nat → Int) (sp dp n : Nat) : Nat → Int := fun k => if dp ≤ k ∧ k < dp + n then f (sp + (k - dp)) else g k
theorem mcpy_e {f g : Nat → Int} {sp dp n : Nat} : va_cpy (fun j => iN (f j)) (fun j => iN (g j)) sp dp n = fun j => iN (mcpy f g sp dp n j) := by
  funext k
  unfold va_cpy mcpy
  by_cases h : dp ≤ k ∧ k < dp + n
  · rw [if_pos h, if_pos h]
  · rw [if_neg h, if_neg h]
theorem call_cpy (C : mCtx p s m args c dC dI cI cZ cc own nL) (hR : R.frames = d ∧ R.locals = 32 * d) (hdg : decode cc pc = .ok (.invokestatic idx, 3)) (hl : mlk own idx arraycopyName) (g1 : Cond.native arraycopyName ∈ mtb) (g2 : Cond.static arraycopyName ∈ mtb) (g3 : Cond.initialized "java/lang/System" ∈ mtb) (hd : 0 < d) (hr : rest.length ≤ 4) {a0 a1 n0 n1 : Nat} {f g : Nat → Int} {sp dp n : Int} (e0 : h[a0]? = some (.inr (false, n0, f))) (e1 : h[a1]? = some (.inr (false, n1, g))) (h1 : 0 ≤ sp) (h2 : 0 ≤ dp) (h3 : 0 ≤ n) (h4 : sp + n ≤ n0) (h5 : dp + n ≤ n1) (h6 : n0 < 65536 ∧ n1 < 65536)
    (kk : mG p l e R s m args below meth c Q dC dI cI cZ ad A H0 nL (pc + 3) L rest (h.set a1 (.inr (false, n1, mcpy f g sp.toNat dp.toNat n.toNat)))) : mG p l e R s m args below meth c Q dC dI cI cZ ad A H0 nL pc L (mi n :: mi dp :: mr a1 :: mi sp :: mr a0 :: rest) h := by
  obtain ⟨hx, hb, hown, hts, hw, hml, hnst⟩ := C
  intro H locs ls hP hD hS hL
  have z0 : inI 0 := ⟨by omega, by omega⟩
  have zs : inI sp := ⟨by omega, by omega⟩
  have zd : inI dp := ⟨by omega, by omega⟩
  have zn : inI n := ⟨by omega, by omega⟩
  have c1 := iN_cl zs
  have c2 := iN_cl zd
  have c3 := iN_cl zn
  refine va_copyi hx hb (by rw [hml]; exact hL.2.1.symm) hown (hts _ hl) (hts _ g1) (hts _ g2) (hts _ g3) hw hP hD hS a0 a1 0 0 (cW_get e0) (cW_get e1) rfl rfl rfl (by rw [← iN_0, iN_lt zs z0]; omega) (by rw [← iN_0, iN_lt zd z0]; omega) (by rw [← iN_0, iN_lt zn z0]; omega) (by rw [c1, c3]; omega) (by rw [c2, c3]; omega) (fun _ _ => rfl) (by omega) (by
    have hh := cVlen (ad := ad) (st := rest)
    have hh2 : nativeFrameWords "java/lang/System" "arraycopy" 5 = 7 := by decide +kernel
    rw [hh2]; omega) hdg (fun H1 locs1 hP1 hD1 hS1 => ?_)
  have e : (cW ad cI cZ h).set a1 (ad a1, .inl (cI, n1, .inl (va_cpy (fun j => iN (f j)) (fun j => iN (g j)) (iN sp).toNatClampNeg (iN dp).toNatClampNeg (iN n).toNatClampNeg))) = cW ad cI cZ (h.set a1 (.inr (false, n1, mcpy f g sp.toNat dp.toNat n.toNat))) := by
    rw [cW_set, c1, c2, c3, mcpy_e]; rfl
  rw [show cond false cZ cI = cI from rfl, e] at hP1 hD1
  exact kk H1 locs1 ls hP1 hD1 hS1 hL
end CALM
/-- a stretch, cut ahead of the place t -/
def mcut (t : Nat) : Nat → List mI → List mI
  | _, [] => []
  | pc, (i, len, tg) :: r => match Nat.beq pc t with
    | true => []
    | false => (i, len, tg) :: mcut t (pc + len) r
theorem okb_mcut {cc : ByteArray} {nL t : Nat} : ∀ {pc : Nat} {l : List mI}, okb cc nL pc l = true → okb cc nL pc (mcut t pc l) = true
  | _, [], _ => rfl
  | pc, (i, len, tg) :: r, h => by
    unfold mcut
    split
    · rfl
    · simp only [okb, Bool.and_eq_true] at h ⊢
      exact ⟨h.1, h.2.1, okb_mcut h.2.2⟩
def mrt (ret : Option FieldType) (z : Int) : Prop := match ret with
  | some .int => True
  | some .boolean => z = 0 ∨ z = 1
  | _ => False
def mlN (own : String) (idx : Nat) (y : MethodName) (host : String) : Prop := ((own = RX1 ∧ idx = 75) ∨ (own = RX3 ∧ idx = 100)) ∧ y = yX6_isBeyond ∧ host = "TowerPrisoner"
/-- what a walk may use: the run of a stretch, fewer locals, calls, Math, arraycopy, the ends -/
def mRul (l : Launch) (d : Nat) (own : String) (ret : Option FieldType) (cd : List mI) (fT : Nat → Option (Nat × Nat × Nat)) (kT kJ : Nat → Option Int) (G : Nat → mL → List mV → mH → Prop) (pI pJ : Int → mH → Prop) (pV : mH → Prop) : Prop :=
  (∀ pc t L st h, blk fT kT kJ G pc (mcut t pc (sfx 0 cd pc)) L st h → G pc L st h) ∧
  (∀ pc L L' st h, mle L' L → G pc L' st h → G pc L st h) ∧
  (∀ pc L h idx y b nL' rt d' len tg r0 As a rest post, sfx 0 cd pc = (.invokevirtual idx, len, tg) :: r0 → mfV y b nL' rt As.length → mlk own idx y → d' < d → rest.length ≤ 4 → mrv h a y.cls → SpI l d' y b nL' rt (mr a :: As) h post → (∀ z h', post z h' → G (pc + 3) L (mi z :: rest) h') → G pc L (As.reverse ++ mr a :: rest) h) ∧
  (∀ pc L h idx y b nL' rt d' len tg r0 As a rest post, sfx 0 cd pc = (.invokevirtual idx, len, tg) :: r0 → mfV y b nL' rt As.length → mlk own idx y → d' < d → rest.length ≤ 4 → mrv h a y.cls → SpV l d' y b nL' rt (mr a :: As) h post → (∀ h', post h' → G (pc + 3) L rest h') → G pc L (As.reverse ++ mr a :: rest) h) ∧
  (∀ pc L h idx y b nL' rt d' len tg r0 As rest post, sfx 0 cd pc = (.invokestatic idx, len, tg) :: r0 → mfS y b nL' rt As.length → mlk own idx y → d' < d → rest.length ≤ 4 → SpI l d' y b nL' rt As h post → (∀ z h', post z h' → G (pc + 3) L (mi z :: rest) h') → G pc L (As.reverse ++ rest) h) ∧
  (∀ pc L h idx len tg r0 a b rest, sfx 0 cd pc = (.invokestatic idx, len, tg) :: r0 → mlk own idx Lib.Math.max.name → 0 < d → rest.length ≤ 4 → inI a → inI b → G (pc + 3) L (mi (max a b) :: rest) h → G pc L (mi b :: mi a :: rest) h) ∧
  (∀ pc L h idx len tg r0 a b rest, sfx 0 cd pc = (.invokestatic idx, len, tg) :: r0 → mlk own idx Lib.Math.min.name → 0 < d → rest.length ≤ 4 → inI a → inI b → G (pc + 3) L (mi (min a b) :: rest) h → G pc L (mi b :: mi a :: rest) h) ∧
  (∀ pc L h idx len tg r0 a rest, sfx 0 cd pc = (.invokestatic idx, len, tg) :: r0 → mlk own idx Lib.Math.abs.name → 0 < d → rest.length ≤ 4 → inI a → G (pc + 3) L (mi (max a (-a)) :: rest) h → G pc L (mi a :: rest) h) ∧
  (∀ pc L h idx len tg r0 a0 a1 (n0 n1 : Nat) f g (sp dp n : Int) rest, sfx 0 cd pc = (.invokestatic idx, len, tg) :: r0 → mlk own idx arraycopyName → 0 < d → rest.length ≤ 4 → h[a0]? = some (.inr (false, n0, f)) → h[a1]? = some (.inr (false, n1, g)) → ((0 ≤ sp ∧ 0 ≤ dp ∧ 0 ≤ n) ∧ sp + n ≤ (n0 : Int) ∧ dp + n ≤ (n1 : Int) ∧ n0 < 65536 ∧ n1 < 65536) → G (pc + 3) L rest (h.set a1 (.inr (false, n1, mcpy f g sp.toNat dp.toNat n.toNat))) → G pc L (mi n :: mi dp :: mr a1 :: mi sp :: mr a0 :: rest) h) ∧
  (∀ pc L z h len tg r0, sfx 0 cd pc = (.ireturn, len, tg) :: r0 → mrt ret z → pI z h → G pc L [mi z] h) ∧
  (∀ pc L h len tg r0, sfx 0 cd pc = (.return_, len, tg) :: r0 → ret = none → pV h → G pc L [] h) ∧
  (∀ pc L z h len tg r0, sfx 0 cd pc = (.lreturn, len, tg) :: r0 → ret = some .long → pJ z h → G pc L [ml z] h) ∧
  (∀ pc L h idx y host b nL' rt d' len tg r0 As rest post, sfx 0 cd pc = (.invokestatic idx, len, tg) :: r0 → mfS y b nL' rt As.length → mlN own idx y host → d' < d → rest.length ≤ 4 → SpI l d' y b nL' rt As h post → (∀ z h', post z h' → G (pc + 3) L (mi z :: rest) h') → G pc L (As.reverse ++ rest) h)
def mL0 (As : List mV) (nL : Nat) : mL := As.map some ++ List.replicate (nL - As.length) none
def mc1 : List mV → Prop
  | [] => True
  | .inr (.inl _) :: _ => False
  | .inl _ :: r => mc1 r
  | .inr (.inr _) :: r => mc1 r
theorem mc1_h {x : mV} {r : List mV} (h : mc1 (x :: r)) : (∀ z, x ≠ .inr (.inl z)) ∧ mc1 r := by
  match x, h with
  | .inl a, h => exact ⟨(fun z q => by cases q), h⟩
  | .inr (.inr a), h => exact ⟨(fun z q => by cases q), h⟩
theorem args_at {ad : Nat → Nat} : ∀ (As : List mV) (i k : Nat) (v : mV), mc1 As → As[k]? = some v → (i + k, cV ad v) ∈ lv_args i (As.map (cV ad))
  | [], i, k, v, h, e => by cases e
  | x :: r, i, 0, v, h, e => by
    cases e
    exact List.mem_cons_self
  | x :: r, i, k + 1, v, h, e => by
    have hx : (cV ad x).category = 1 := cV_cat1 (mc1_h h).1
    show (i + (k + 1), cV ad v) ∈ (i, cV ad x) :: lv_args (if (cV ad x).category = 2 then i + 2 else i + 1) (r.map (cV ad))
    rw [hx]
    refine List.mem_cons_of_mem _ ?_
    have := args_at (ad := ad) r (i + 1) k v (mc1_h h).2 (by simpa using e)
    rw [show i + (k + 1) = i + 1 + k by omega]
    exact this
theorem sl_len {ad : Nat → Nat} : ∀ (As : List mV), mc1 As → (lg_sl (As.map (cV ad))).length = As.length
  | [], _ => rfl
  | x :: r, h => by
    have hx : (cV ad x).category = 1 := cV_cat1 (mc1_h h).1
    have ih := sl_len (ad := ad) r (mc1_h h).2
    simp [lg_sl, hx] at ih ⊢
    omega
theorem mL0_of {ad : Nat → Nat} {As : List mV} {nL : Nat} {ls : Array Slot} (h1 : mc1 As) (hn : As.length ≤ nL) (h : lv_has ls nL (lv_args 0 (As.map (cV ad)))) : mLs ad nL ls (mL0 As nL) := by
  refine ⟨by simp [mL0]; omega, h.1, h.2.1, ?_⟩
  rintro ⟨k, w⟩ hq
  obtain ⟨x, hx, rfl⟩ := mem_mll.mp hq
  unfold mL0 at hx
  rw [List.getElem?_append] at hx
  split at hx
  · rw [List.getElem?_map] at hx
    cases e : As[k]? with
    | none => rw [e] at hx; cases hx
    | some v =>
      rw [e] at hx
      cases hx
      have := args_at (ad := ad) As 0 k x h1 e
      rw [Nat.zero_add] at this
      exact h.2.2 _ this
  · have := List.eq_of_mem_replicate (List.mem_of_getElem? hx)
    cases this
end
section
/-! a contract out of a walk by the rules -/
theorem sfx_dec {cc : ByteArray} {nL pc len tg : Nat} {cd r0 : List mI} {i : Instr} (ho : okb cc nL 0 cd = true) (h : sfx 0 cd pc = (i, len, tg) :: r0) : decode cc pc = .ok (i, len) ∧ sane nL pc i len tg = true := by
  have h1 := okb_sfx (t := pc) ho
  rw [h] at h1
  obtain ⟨h2, h3, -⟩ := okb_head h1
  exact ⟨h2, h3⟩
theorem sfx_d3 {cc : ByteArray} {nL pc len tg : Nat} {cd r0 : List mI} {idx : Nat} (ho : okb cc nL 0 cd = true) (h : sfx 0 cd pc = (.invokevirtual idx, len, tg) :: r0) : decode cc pc = .ok (.invokevirtual idx, 3) := by
  obtain ⟨h1, h2⟩ := sfx_dec ho h
  obtain rfl : len = 3 := by simpa [sane] using h2
  exact h1
theorem sfx_s3 {cc : ByteArray} {nL pc len tg : Nat} {cd r0 : List mI} {idx : Nat} (ho : okb cc nL 0 cd = true) (h : sfx 0 cd pc = (.invokestatic idx, len, tg) :: r0) : decode cc pc = .ok (.invokestatic idx, 3) := by
  obtain ⟨h1, h2⟩ := sfx_dec ho h
  obtain rfl : len = 3 := by simpa [sane] using h2
  exact h1
theorem sfx_ir {cc : ByteArray} {nL pc len tg : Nat} {cd r0 : List mI} (ho : okb cc nL 0 cd = true) (h : sfx 0 cd pc = (.ireturn, len, tg) :: r0) : decode cc pc = .ok (.ireturn, 1) := by
  obtain ⟨h1, h2⟩ := sfx_dec ho h
  obtain rfl : len = 1 := by simpa [sane] using h2
  exact h1
theorem sfx_vr {cc : ByteArray} {nL pc len tg : Nat} {cd r0 : List mI} (ho : okb cc nL 0 cd = true) (h : sfx 0 cd pc = (.return_, len, tg) :: r0) : decode cc pc = .ok (.return_, 1) := by
  obtain ⟨h1, h2⟩ := sfx_dec ho h
  obtain rfl : len = 1 := by simpa [sane] using h2
  exact h1
theorem sfx_lr {cc : ByteArray} {nL pc len tg : Nat} {cd r0 : List mI} (ho : okb cc nL 0 cd = true) (h : sfx 0 cd pc = (.lreturn, len, tg) :: r0) : decode cc pc = .ok (.lreturn, 1) := by
  obtain ⟨h1, h2⟩ := sfx_dec ho h
  obtain rfl : len = 1 := by simpa [sane] using h2
  exact h1
theorem call_SN {p : Program} {l : Launch} {e : Env} {R : Room} {s : State} {m : MethodId} {args : Array Value} {below : List Frame} {meth : Method} {c : Code} {Q : State → Prop} {dC : Nat → ClassId} {dI : Nat → Nat → Nat} {cI cZ : ClassId} {ad : Nat → Nat} {A : Nat → Prop} {H0 : Heap} {nL : Nat} {cc : ByteArray} {own host : String} {pc : Nat} {L : mL} {h : mH} {idx : Nat} {y : MethodName} {b : ByteArray} {nL' : Nat} {ret : Option FieldType} {d d' : Nat} {As rest : List mV} (C : mCtx p s m args c dC dI cI cZ cc own nL) (hA : ∀ q, H0.size ≤ q → A q) (hR : R.frames = d ∧ R.locals = 32 * d) (hdg : decode cc pc = .ok (.invokestatic idx, 3)) (hf : mfS y b nL' ret As.length) (hl : mlN own idx y host) (hd : d' < d) (hr : rest.length ≤ 4) {post : Int → mH → Prop} (hsp : SpI l d' y b nL' ret As h post)
    (kk : ∀ z h', post z h' → mG p l e R s m args below meth c Q dC dI cI cZ ad A H0 nL (pc + 3) L (mi z :: rest) h') : mG p l e R s m args below meth c Q dC dI cI cZ ad A H0 nL pc L (As.reverse ++ rest) h := by
  obtain ⟨hx, hb, hown, hts, hw, hml, hnst⟩ := C
  intro H locs ls hP hD hS hL
  have hFc := cw_free hD hS hA
  obtain ⟨⟨f1, f2, f3, f4, -⟩, f5⟩ := hf
  have hlk : (Cond.methodLinkNest own idx y host).before args s = true := by
    obtain ⟨q, rfl, rfl⟩ := hl
    rcases q with ⟨rfl, rfl⟩ | ⟨rfl, rfl⟩
    · exact va_Nw.use rfl hnst.1
    · exact va_Nw.use rfl hnst.2
  have hcn : va_CN R s args own idx y host b nL' ret (mws y b nL' ret) (rmD d') 0 0 As.length := by
    have hc : Cond.code y b nL' ret ∈ mws y b nL' ret := List.mem_cons_self
    have hG : GoodIn mtb (mws y b nL' ret) := tbl_in (fun w hw => by
      rcases List.mem_cons.mp hw with rfl | hw
      · exact f2
      · exact hw)
    refine ⟨⟨rfl, rfl, by show d' + 1 ≤ _; omega, by show 8 + (nL' + 11) + 32 * d' ≤ _; omega, pay_in hts hG, hc⟩, hts _ f2, hts _ f1, ⟨f3.1, f3.2.1⟩, fun sig h => ?_, hlk⟩
    have h2 := f3.2.2
    rw [h] at h2
    exact (Option.some.inj h2).symm
  have hrun := va_runSN (As := As.map (cV ad)) (rest := rest.map (cV ad)) (g := F0 m pc ls ((As.reverse ++ rest).map (cV ad))) (R := R) (locs := locs) (cells := 0) (slots := 0) (meth := meth) (below := below) (e := e) ⟨hx, hb, hml, hown, hts⟩ (hsp dC dI cI cZ ad H.size) ⟨hcn, hts _ f5, True.intro⟩ ⟨mFB, mpre_of hnst hw hP hD rfl⟩ rfl (List.length_map _) hL.2.1 map_revS (lv_room (Nat.le_trans cVlen (by omega))) hdg ⟨Nat.zero_le _, Nat.zero_le _⟩
  refine va_calli hrun hS (fun q _ h => hFc q h) hFc (fun r u t H1 locs1 ht hvm hz hB hz1 hk1 hS1 => ?_)
  obtain ⟨z, rfl, hpost⟩ := hz
  obtain ⟨hP1, hK1, hD1⟩ := hB
  rw [ht] at hP1
  exact kk z u hpost H1 locs1 ls hP1 (hD1.weaken (fun k q _ h => hFc q.1 h)) hS1 hL
/-- the rules hold of the machine's own walk -/
theorem mRul_of {p : Program} {l : Launch} {e : Env} {d : Nat} {s : State} {m : MethodId} {args : Array Value} {below : List Frame} {meth : Method} {c : Code} {Q : State → Prop} {dC : Nat → ClassId} {dI : Nat → Nat → Nat} {cI cZ : ClassId} {ad : Nat → Nat} {A : Nat → Prop} {nL : Nat} {cc : ByteArray} {own : String} {H0 : Heap}
    {ret : Option FieldType} {cd : List mI} {fT : Nat → Option (Nat × Nat × Nat)} {kT kJ : Nat → Option Int} {pI pJ : Int → mH → Prop} {pV : mH → Prop}
    (C : mCtx p s m args c dC dI cI cZ cc own nL) (hA : ∀ q, H0.size ≤ q → A q) (ho : okb cc nL 0 cd = true) (hF : mFT own fT) (hk : mKT own kT) (hJ : mKJ own kJ) (hj : mJdk)
    (rI : ∀ pc L z h, decode cc pc = .ok (.ireturn, 1) → mrt ret z → pI z h → mG p l e (rmD d) s m args below meth c Q dC dI cI cZ ad A H0 nL pc L [mi z] h)
    (rV : ∀ pc L h, decode cc pc = .ok (.return_, 1) → ret = none → pV h → mG p l e (rmD d) s m args below meth c Q dC dI cI cZ ad A H0 nL pc L [] h)
    (rJ : ∀ pc L z h, decode cc pc = .ok (.lreturn, 1) → ret = some .long → pJ z h → mG p l e (rmD d) s m args below meth c Q dC dI cI cZ ad A H0 nL pc L [ml z] h) :
    mRul l d own ret cd fT kT kJ (mG p l e (rmD d) s m args below meth c Q dC dI cI cZ ad A H0 nL) pI pJ pV := by
  obtain ⟨⟨j1, j2, j3⟩, j4, ⟨j5, j6, j7⟩, j8, j9, j10⟩ := hj
  refine ⟨fun pc t L st h q => blk_sound C hF hk hJ _ pc L st h (okb_mcut (okb_sfx ho)) q, fun pc L L' st h hl q => ?_, ?_, ?_, ?_, ?_, ?_, ?_, ?_, fun pc L z h len tg r0 hs h1 h2 => rI pc L z h (sfx_ir ho hs) h1 h2, fun pc L h len tg r0 hs h1 h2 => rV pc L h (sfx_vr ho hs) h1 h2, fun pc L z h len tg r0 hs h1 h2 => rJ pc L z h (sfx_lr ho hs) h1 h2, ?_⟩
  · intro H locs ls hP hD hS hL
    exact q H locs ls hP hD hS (hL.fewer hl)
  · intro pc L h idx y b nL' rt d' len tg r0 As a rest post hs hf hl hd hr hv hsp kk
    exact call_V C hA ⟨rfl, rfl⟩ (sfx_d3 ho hs) hf hl hd hr hv hsp kk
  · intro pc L h idx y b nL' rt d' len tg r0 As a rest post hs hf hl hd hr hv hsp kk
    exact call_VV C hA ⟨rfl, rfl⟩ (sfx_d3 ho hs) hf hl hd hr hv hsp kk
  · intro pc L h idx y b nL' rt d' len tg r0 As rest post hs hf hl hd hr hsp kk
    exact call_S C hA ⟨rfl, rfl⟩ (sfx_s3 ho hs) hf hl hd hr hsp kk
  · intro pc L h idx len tg r0 a b rest hs hl hd hr ha hb kk
    exact call_max C ⟨rfl, rfl⟩ (sfx_s3 ho hs) hl j1 j4 j5 hd hr ha hb kk
  · intro pc L h idx len tg r0 a b rest hs hl hd hr ha hb kk
    exact call_min C ⟨rfl, rfl⟩ (sfx_s3 ho hs) hl j2 j4 j6 hd hr ha hb kk
  · intro pc L h idx len tg r0 a rest hs hl hd hr ha kk
    exact call_abs C ⟨rfl, rfl⟩ (sfx_s3 ho hs) hl j3 j4 j7 hd hr ha kk
  · intro pc L h idx len tg r0 a0 a1 n0 n1 f g sp dp n rest hs hl hd hr e0 e1 hh kk
    obtain ⟨⟨h1, h2, h3⟩, h4, h5, h6⟩ := hh
    exact call_cpy C ⟨rfl, rfl⟩ (sfx_s3 ho hs) hl j8 j9 j10 hd hr e0 e1 h1 h2 h3 h4 h5 h6 kk
  · intro pc L h idx y host b nL' rt d' len tg r0 As rest post hs hf hl hd hr hsp kk
    exact call_SN C hA ⟨rfl, rfl⟩ (sfx_s3 ho hs) hf hl hd hr hsp kk
theorem mEntry {l : Launch} {d : Nat} {y : MethodName} {b : ByteArray} {nL : Nat} {ret : Option FieldType} {As : List mV} {h : mH} {dC : Nat → ClassId} {dI : Nat → Nat → Nat} {cI cZ : ClassId} {ad : Nat → Nat} {sz : Nat} {Qc : Array Value → State → Outcome → State → Prop}
    (hp : plainName y.cls = true) (h1 : mc1 As) (hn : As.length ≤ nL)
    (body : ∀ p e s m args below meth c, meth.sig.returnType = ret → meth.locks = false → s.heap.size = sz → mCtx p s m args c dC dI cI cZ b y.cls nL → (∀ q, s.heap.size ≤ q → va_A (cW ad cI cZ h) sz q) → mG p l e (rmD d) s m args below meth c (MQ below Qc args s 0 0 (va_A (cW ad cI cZ h) sz)) dC dI cI cZ ad (va_A (cW ad cI cZ h) sz) s.heap nL 0 (mL0 As nL) [] h) :
    Met l y (mws y b nL ret) (rmD d) (mPre dC dI cI cZ ad sz As h) Qc 0 0 (va_A (cW ad cI cZ h) sz) := by
  refine Met.ofW (cc := b) (maxL := nL) (ret := ret) hp rfl ?_
  intro p e s m args below meth c s₁ B hml hv
  obtain ⟨rfl, hsz, hP, hK, hD0, hN⟩ := hv
  have hts := atoms_spec (ws := mws y b nL ret) B.pre
  subst hsz
  have hD := hD0.self (sz := s.heap.size)
  have hl := lv_entry (As.map (cV ad)) (n := nL) (by rw [sl_len As h1]; exact hn)
  rw [lg_entry_eq]
  exact body p e s m _ below meth c B.returns B.notSynchronized rfl ⟨B.exec, B.bytes, findClass_of_methodNamed B.named, fun w hw => hts w (List.mem_cons_of_mem _ hw), hK, hml, hN⟩ (fun q hq => Or.inr hq) s.heap [] _ hP hD va_S.rf (mL0_of h1 hn hl)
theorem SpI.of {l : Launch} {d : Nat} {y : MethodName} {b : ByteArray} {nL : Nat} {ret : Option FieldType} {As : List mV} {h : mH} {post : Int → mH → Prop} {cd : List mI} {fT : Nat → Option (Nat × Nat × Nat)} {kT kJ : Nat → Option Int}
    {n : Nat} (hp : mfA y b nL ret n) (ho : okb b nL 0 cd = true) (hF : mFT y.cls fT) (hk : mKT y.cls kT) (hJ : mKJ y.cls kJ) (hj : mJdk) (h1 : mc1 As) (hn : As.length ≤ nL)
    (body : ∀ G, mRul l d y.cls ret cd fT kT kJ G post (fun _ _ => False) (fun _ => False) → G 0 (mL0 As nL) [] h) : SpI l d y b nL ret As h post := by
  intro dC dI cI cZ ad sz
  refine mEntry hp.2.2.2.2 h1 hn ?_
  intro p e s m args below meth c hr hlk hsz C hA
  refine body _ (mRul_of C hA ho hF hk hJ hj ?_ (fun pc L h _ _ q => q.elim) (fun pc L z h _ _ q => q.elim))
  intro pc L z h' hdg hrt hpost H locs ls hP hD hS hL
  obtain ⟨ty, hty, hnar⟩ : ∃ ty, ret = some ty ∧ narrow ty (.int (iN z)) = .int (iN z) := by
    unfold mrt at hrt
    split at hrt
    · exact ⟨_, rfl, rfl⟩
    · rcases hrt with rfl | rfl
      · exact ⟨_, rfl, by decide⟩
      · exact ⟨_, rfl, by decide⟩
    · exact hrt.elim
  have hK := C.2.2.2.2.1
  exact W.zret (v := iN z) C.1 C.2.1 (hr.trans hty) hnar (fun t ht hW => ⟨⟨iN z, h', rfl, ⟨z, rfl, hpost⟩, by rw [ht]; exact hP, va_K.moved hW.alike hK, hD⟩, hS.F ht⟩) hS.2.2 hdg hlk
theorem SpJ.of {l : Launch} {d : Nat} {y : MethodName} {b : ByteArray} {nL : Nat} {ret : Option FieldType} {As : List mV} {h : mH} {post : Int → mH → Prop} {cd : List mI} {fT : Nat → Option (Nat × Nat × Nat)} {kT kJ : Nat → Option Int}
    {n : Nat} (hp : mfA y b nL ret n) (ho : okb b nL 0 cd = true) (hF : mFT y.cls fT) (hk : mKT y.cls kT) (hJ : mKJ y.cls kJ) (hj : mJdk) (h1 : mc1 As) (hn : As.length ≤ nL)
    (body : ∀ G, mRul l d y.cls ret cd fT kT kJ G (fun _ _ => False) post (fun _ => False) → G 0 (mL0 As nL) [] h) : SpJ l d y b nL ret As h post := by
  intro dC dI cI cZ ad sz
  refine mEntry hp.2.2.2.2 h1 hn ?_
  intro p e s m args below meth c hr hlk hsz C hA
  refine body _ (mRul_of C hA ho hF hk hJ hj (fun pc L z h _ _ q => q.elim) (fun pc L h _ _ q => q.elim) ?_)
  intro pc L z h' hdg hrt hpost H locs ls hP hD hS hL
  have hK := C.2.2.2.2.1
  exact W.lret (v := jN z) C.1 C.2.1 (hr.trans hrt) (fun t ht hW => ⟨⟨jN z, h', rfl, ⟨z, rfl, hpost⟩, by rw [ht]; exact hP, va_K.moved hW.alike hK, hD⟩, hS.F ht⟩) hS.2.2 hdg hlk
theorem SpV.of {l : Launch} {d : Nat} {y : MethodName} {b : ByteArray} {nL : Nat} {ret : Option FieldType} {As : List mV} {h : mH} {post : mH → Prop} {cd : List mI} {fT : Nat → Option (Nat × Nat × Nat)} {kT kJ : Nat → Option Int}
    {n : Nat} (hp : mfA y b nL ret n) (ho : okb b nL 0 cd = true) (hF : mFT y.cls fT) (hk : mKT y.cls kT) (hJ : mKJ y.cls kJ) (hj : mJdk) (h1 : mc1 As) (hn : As.length ≤ nL)
    (body : ∀ G, mRul l d y.cls ret cd fT kT kJ G (fun _ _ => False) (fun _ _ => False) post → G 0 (mL0 As nL) [] h) : SpV l d y b nL ret As h post := by
  intro dC dI cI cZ ad sz
  refine mEntry hp.2.2.2.2 h1 hn ?_
  intro p e s m args below meth c hr hlk hsz C hA
  refine body _ (mRul_of C hA ho hF hk hJ hj (fun pc L z h _ _ q => q.elim) ?_ (fun pc L z h _ _ q => q.elim))
  intro pc L h' hdg hrt hpost H locs ls hP hD hS hL
  have hK := C.2.2.2.2.1
  exact W.vret C.1 C.2.1 (hr.trans hrt) (fun t ht hW => ⟨⟨h', rfl, hpost, by rw [ht]; exact hP, va_K.moved hW.alike hK, hD⟩, hS.F ht⟩) hS.2.2 hdg hlk
/-! the rules by name -/
section RUL
variable {l : Launch} {d : Nat} {own : String} {ret : Option FieldType} {cd : List mI} {fT : Nat → Option (Nat × Nat × Nat)} {kT kJ : Nat → Option Int} {G : Nat → mL → List mV → mH → Prop} {pI pJ : Int → mH → Prop} {pV : mH → Prop}
variable {pc : Nat} {L L' : mL} {st : List mV} {hh : mH} {idx : Nat} {y : MethodName} {b : ByteArray} {nL' : Nat} {rt : Option FieldType} {d' len tg : Nat} {r0 : List mI} {As rest : List mV} {a : Nat}
theorem rRun (h : mRul l d own ret cd fT kT kJ G pI pJ pV) (t : Nat) (q : blk fT kT kJ G pc (mcut t pc (sfx 0 cd pc)) L st hh) : G pc L st hh := h.1 _ t _ _ _ q
theorem rLess (h : mRul l d own ret cd fT kT kJ G pI pJ pV) (q : mle L' L) (g : G pc L' st hh) : G pc L st hh := h.2.1 _ _ _ _ _ q g
theorem rV (h : mRul l d own ret cd fT kT kJ G pI pJ pV) {post : Int → mH → Prop} (hsp : SpI l d' y b nL' rt (mr a :: As) hh post) (hst : st = As.reverse ++ mr a :: rest) (hs : sfx 0 cd pc = (.invokevirtual idx, len, tg) :: r0) (hl : mlk own idx y) (hf : mfV y b nL' rt As.length) (hd : d' < d) (hr : rest.length ≤ 4) (hv : mrv hh a y.cls) (kk : ∀ z h', post z h' → G (pc + 3) L (mi z :: rest) h') : G pc L st hh := by
  subst hst
  exact h.2.2.1 _ _ _ _ _ _ _ _ _ _ _ _ _ _ _ _ hs hf hl hd hr hv hsp kk
theorem rVV (h : mRul l d own ret cd fT kT kJ G pI pJ pV) {post : mH → Prop} (hsp : SpV l d' y b nL' rt (mr a :: As) hh post) (hst : st = As.reverse ++ mr a :: rest) (hs : sfx 0 cd pc = (.invokevirtual idx, len, tg) :: r0) (hl : mlk own idx y) (hf : mfV y b nL' rt As.length) (hd : d' < d) (hr : rest.length ≤ 4) (hv : mrv hh a y.cls) (kk : ∀ h', post h' → G (pc + 3) L rest h') : G pc L st hh := by
  subst hst
  exact h.2.2.2.1 _ _ _ _ _ _ _ _ _ _ _ _ _ _ _ _ hs hf hl hd hr hv hsp kk
theorem rS (h : mRul l d own ret cd fT kT kJ G pI pJ pV) {post : Int → mH → Prop} (hsp : SpI l d' y b nL' rt As hh post) (hst : st = As.reverse ++ rest) (hs : sfx 0 cd pc = (.invokestatic idx, len, tg) :: r0) (hl : mlk own idx y) (hf : mfS y b nL' rt As.length) (hd : d' < d) (hr : rest.length ≤ 4) (kk : ∀ z h', post z h' → G (pc + 3) L (mi z :: rest) h') : G pc L st hh := by
  subst hst
  exact h.2.2.2.2.1 _ _ _ _ _ _ _ _ _ _ _ _ _ _ _ hs hf hl hd hr hsp kk
theorem rMax (h : mRul l d own ret cd fT kT kJ G pI pJ pV) {x z : Int} (hst : st = mi z :: mi x :: rest) (hs : sfx 0 cd pc = (.invokestatic idx, len, tg) :: r0) (hl : mlk own idx Lib.Math.max.name) (hd : 0 < d) (hr : rest.length ≤ 4) (hx : inI x ∧ inI z) (kk : G (pc + 3) L (mi (max x z) :: rest) hh) : G pc L st hh := by
  subst hst
  exact h.2.2.2.2.2.1 _ _ _ _ _ _ _ _ _ _ hs hl hd hr hx.1 hx.2 kk
theorem rMin (h : mRul l d own ret cd fT kT kJ G pI pJ pV) {x z : Int} (hst : st = mi z :: mi x :: rest) (hs : sfx 0 cd pc = (.invokestatic idx, len, tg) :: r0) (hl : mlk own idx Lib.Math.min.name) (hd : 0 < d) (hr : rest.length ≤ 4) (hx : inI x ∧ inI z) (kk : G (pc + 3) L (mi (min x z) :: rest) hh) : G pc L st hh := by
  subst hst
  exact h.2.2.2.2.2.2.1 _ _ _ _ _ _ _ _ _ _ hs hl hd hr hx.1 hx.2 kk
theorem rAbs (h : mRul l d own ret cd fT kT kJ G pI pJ pV) {x : Int} (hst : st = mi x :: rest) (hs : sfx 0 cd pc = (.invokestatic idx, len, tg) :: r0) (hl : mlk own idx Lib.Math.abs.name) (hd : 0 < d) (hr : rest.length ≤ 4) (hx : inI x) (kk : G (pc + 3) L (mi (max x (-x)) :: rest) hh) : G pc L st hh := by
  subst hst
  exact h.2.2.2.2.2.2.2.1 _ _ _ _ _ _ _ _ _ hs hl hd hr hx kk
theorem rCpy (h : mRul l d own ret cd fT kT kJ G pI pJ pV) {a0 a1 n0 n1 : Nat} {f g : Nat → Int} {sp dp n : Int} (hst : st = mi n :: mi dp :: mr a1 :: mi sp :: mr a0 :: rest) (hs : sfx 0 cd pc = (.invokestatic idx, len, tg) :: r0) (hl : mlk own idx arraycopyName) (hd : 0 < d) (hr : rest.length ≤ 4) (e0 : hh[a0]? = some (.inr (false, n0, f))) (e1 : hh[a1]? = some (.inr (false, n1, g))) (hx : (0 ≤ sp ∧ 0 ≤ dp ∧ 0 ≤ n) ∧ sp + n ≤ (n0 : Int) ∧ dp + n ≤ (n1 : Int) ∧ n0 < 65536 ∧ n1 < 65536) (kk : G (pc + 3) L rest (hh.set a1 (.inr (false, n1, mcpy f g sp.toNat dp.toNat n.toNat)))) : G pc L st hh := by
  subst hst
  exact h.2.2.2.2.2.2.2.2.1 _ _ _ _ _ _ _ _ _ _ _ _ _ _ _ _ _ hs hl hd hr e0 e1 hx kk
theorem rIR (h : mRul l d own ret cd fT kT kJ G pI pJ pV) {z : Int} (hst : st = [mi z]) (hs : sfx 0 cd pc = (.ireturn, len, tg) :: r0) (hr : mrt ret z) (q : pI z hh) : G pc L st hh := by
  subst hst
  exact h.2.2.2.2.2.2.2.2.2.1 _ _ _ _ _ _ _ hs hr q
theorem rVR (h : mRul l d own ret cd fT kT kJ G pI pJ pV) (hst : st = []) (hs : sfx 0 cd pc = (.return_, len, tg) :: r0) (hr : ret = none) (q : pV hh) : G pc L st hh := by
  subst hst
  exact h.2.2.2.2.2.2.2.2.2.2.1 _ _ _ _ _ _ hs hr q
theorem rLR (h : mRul l d own ret cd fT kT kJ G pI pJ pV) {z : Int} (hst : st = [ml z]) (hs : sfx 0 cd pc = (.lreturn, len, tg) :: r0) (hr : ret = some .long) (q : pJ z hh) : G pc L st hh := by
  subst hst
  exact h.2.2.2.2.2.2.2.2.2.2.2.1 _ _ _ _ _ _ _ hs hr q
theorem rSN (h : mRul l d own ret cd fT kT kJ G pI pJ pV) {host : String} {post : Int → mH → Prop} (hsp : SpI l d' y b nL' rt As hh post) (hst : st = As.reverse ++ rest) (hs : sfx 0 cd pc = (.invokestatic idx, len, tg) :: r0) (hl : mlN own idx y host) (hf : mfS y b nL' rt As.length) (hd : d' < d) (hr : rest.length ≤ 4) (kk : ∀ z h', post z h' → G (pc + 3) L (mi z :: rest) h') : G pc L st hh := by
  subst hst
  exact h.2.2.2.2.2.2.2.2.2.2.2.2 _ _ _ _ _ _ _ _ _ _ _ _ _ _ _ _ hs hf hl hd hr hsp kk
end RUL
end
