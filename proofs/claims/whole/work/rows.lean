section
-- ===== PART A: goes FIRST, ahead of the names: the tables' words, and 'selects' of the private methods out of them =====
/-- a private method of a class that the tables say can be made, by its rows of tables_1 -/
def lw_okq (q : MethodName × Nat) : Prop := (q.1.cls ≠ "java/lang/invoke/MethodHandle" ∧ q.1.cls ≠ "java/lang/invoke/VarHandle") ∧ Cond.instantiable q.1.cls q.2 ∈ tables_1 ∧ Cond.privateMethod q.1 ∈ tables_1 ∧ Cond.instanceMethod q.1 ∈ tables_1
theorem lw_p0 : lw_okq (⟨"TowerPrisoner$Text", "begin", "(LTowerPrisoner$Told;)V"⟩, 10) := ⟨⟨by decide +kernel, by decide +kernel⟩, List.mem_of_getElem? (i := 21) (by decide +kernel), List.mem_of_getElem? (i := 264) (by decide +kernel), List.mem_of_getElem? (i := 265) (by decide +kernel)⟩
theorem lw_p1 : lw_okq (⟨"TowerPrisoner$Text", "nextToken", "()V"⟩, 10) := ⟨⟨by decide +kernel, by decide +kernel⟩, List.mem_of_getElem? (i := 21) (by decide +kernel), List.mem_of_getElem? (i := 269) (by decide +kernel), List.mem_of_getElem? (i := 270) (by decide +kernel)⟩
theorem lw_p2 : lw_okq (⟨"TowerPrisoner$Text", "byteAt", "(I)I"⟩, 10) := ⟨⟨by decide +kernel, by decide +kernel⟩, List.mem_of_getElem? (i := 21) (by decide +kernel), List.mem_of_getElem? (i := 273) (by decide +kernel), List.mem_of_getElem? (i := 274) (by decide +kernel)⟩
theorem lw_p3 : lw_okq (⟨"TowerPrisoner$Text", "takeLetters", "(I)V"⟩, 10) := ⟨⟨by decide +kernel, by decide +kernel⟩, List.mem_of_getElem? (i := 21) (by decide +kernel), List.mem_of_getElem? (i := 280) (by decide +kernel), List.mem_of_getElem? (i := 281) (by decide +kernel)⟩
theorem lw_p4 : lw_okq (⟨"TowerPrisoner$Text", "takeNumber", "(I)V"⟩, 10) := ⟨⟨by decide +kernel, by decide +kernel⟩, List.mem_of_getElem? (i := 21) (by decide +kernel), List.mem_of_getElem? (i := 287) (by decide +kernel), List.mem_of_getElem? (i := 288) (by decide +kernel)⟩
theorem lw_p5 : lw_okq (⟨"TowerPrisoner$Text", "readDay", "(LTowerPrisoner$Told;)V"⟩, 10) := ⟨⟨by decide +kernel, by decide +kernel⟩, List.mem_of_getElem? (i := 21) (by decide +kernel), List.mem_of_getElem? (i := 294) (by decide +kernel), List.mem_of_getElem? (i := 295) (by decide +kernel)⟩
theorem lw_p6 : lw_okq (⟨"TowerPrisoner$Text", "refuseIf", "(Z)V"⟩, 10) := ⟨⟨by decide +kernel, by decide +kernel⟩, List.mem_of_getElem? (i := 21) (by decide +kernel), List.mem_of_getElem? (i := 298) (by decide +kernel), List.mem_of_getElem? (i := 299) (by decide +kernel)⟩
theorem lw_p7 : lw_okq (⟨"TowerPrisoner$Text", "number", "(II)I"⟩, 10) := ⟨⟨by decide +kernel, by decide +kernel⟩, List.mem_of_getElem? (i := 21) (by decide +kernel), List.mem_of_getElem? (i := 302) (by decide +kernel), List.mem_of_getElem? (i := 303) (by decide +kernel)⟩
theorem lw_p8 : lw_okq (⟨"TowerPrisoner$Text", "stops", "()Z"⟩, 10) := ⟨⟨by decide +kernel, by decide +kernel⟩, List.mem_of_getElem? (i := 21) (by decide +kernel), List.mem_of_getElem? (i := 306) (by decide +kernel), List.mem_of_getElem? (i := 307) (by decide +kernel)⟩
theorem lw_p9 : lw_okq (⟨"TowerPrisoner$Text", "readBribe", "(LTowerPrisoner$Told;)V"⟩, 10) := ⟨⟨by decide +kernel, by decide +kernel⟩, List.mem_of_getElem? (i := 21) (by decide +kernel), List.mem_of_getElem? (i := 314) (by decide +kernel), List.mem_of_getElem? (i := 315) (by decide +kernel)⟩
theorem lw_p10 : lw_okq (⟨"TowerPrisoner$Text", "readTrade", "(LTowerPrisoner$Told;)V"⟩, 10) := ⟨⟨by decide +kernel, by decide +kernel⟩, List.mem_of_getElem? (i := 21) (by decide +kernel), List.mem_of_getElem? (i := 322) (by decide +kernel), List.mem_of_getElem? (i := 323) (by decide +kernel)⟩
theorem lw_p11 : lw_okq (⟨"TowerPrisoner$Text", "readRest", "(LTowerPrisoner$Told;)V"⟩, 10) := ⟨⟨by decide +kernel, by decide +kernel⟩, List.mem_of_getElem? (i := 21) (by decide +kernel), List.mem_of_getElem? (i := 330) (by decide +kernel), List.mem_of_getElem? (i := 331) (by decide +kernel)⟩
theorem lw_p12 : lw_okq (⟨"TowerPrisoner$Text", "readLimit", "(LTowerPrisoner$Told;)V"⟩, 10) := ⟨⟨by decide +kernel, by decide +kernel⟩, List.mem_of_getElem? (i := 21) (by decide +kernel), List.mem_of_getElem? (i := 334) (by decide +kernel), List.mem_of_getElem? (i := 335) (by decide +kernel)⟩
theorem lw_p13 : lw_okq (⟨"TowerPrisoner$Text", "readAdded", "(LTowerPrisoner$Told;)V"⟩, 10) := ⟨⟨by decide +kernel, by decide +kernel⟩, List.mem_of_getElem? (i := 21) (by decide +kernel), List.mem_of_getElem? (i := 338) (by decide +kernel), List.mem_of_getElem? (i := 339) (by decide +kernel)⟩
theorem lw_p14 : lw_okq (⟨"TowerPrisoner$Story", "remember", "()V"⟩, 3) := ⟨⟨by decide +kernel, by decide +kernel⟩, List.mem_of_getElem? (i := 117) (by decide +kernel), List.mem_of_getElem? (i := 415) (by decide +kernel), List.mem_of_getElem? (i := 416) (by decide +kernel)⟩
theorem lw_p15 : lw_okq (⟨"TowerPrisoner$Story", "setHarm", "(II)V"⟩, 3) := ⟨⟨by decide +kernel, by decide +kernel⟩, List.mem_of_getElem? (i := 117) (by decide +kernel), List.mem_of_getElem? (i := 442) (by decide +kernel), List.mem_of_getElem? (i := 443) (by decide +kernel)⟩
def lw_privs_1 : List (MethodName × Nat) := [(⟨"TowerPrisoner$Text", "begin", "(LTowerPrisoner$Told;)V"⟩, 10), (⟨"TowerPrisoner$Text", "nextToken", "()V"⟩, 10), (⟨"TowerPrisoner$Text", "byteAt", "(I)I"⟩, 10), (⟨"TowerPrisoner$Text", "takeLetters", "(I)V"⟩, 10), (⟨"TowerPrisoner$Text", "takeNumber", "(I)V"⟩, 10), (⟨"TowerPrisoner$Text", "readDay", "(LTowerPrisoner$Told;)V"⟩, 10), (⟨"TowerPrisoner$Text", "refuseIf", "(Z)V"⟩, 10), (⟨"TowerPrisoner$Text", "number", "(II)I"⟩, 10), (⟨"TowerPrisoner$Text", "stops", "()Z"⟩, 10), (⟨"TowerPrisoner$Text", "readBribe", "(LTowerPrisoner$Told;)V"⟩, 10), (⟨"TowerPrisoner$Text", "readTrade", "(LTowerPrisoner$Told;)V"⟩, 10), (⟨"TowerPrisoner$Text", "readRest", "(LTowerPrisoner$Told;)V"⟩, 10), (⟨"TowerPrisoner$Text", "readLimit", "(LTowerPrisoner$Told;)V"⟩, 10), (⟨"TowerPrisoner$Text", "readAdded", "(LTowerPrisoner$Told;)V"⟩, 10), (⟨"TowerPrisoner$Story", "remember", "()V"⟩, 3), (⟨"TowerPrisoner$Story", "setHarm", "(II)V"⟩, 3)]
theorem lw_r1 : ∀ q ∈ lw_privs_1, lw_okq q := List.forall_mem_cons.mpr ⟨lw_p0, List.forall_mem_cons.mpr ⟨lw_p1, List.forall_mem_cons.mpr ⟨lw_p2, List.forall_mem_cons.mpr ⟨lw_p3, List.forall_mem_cons.mpr ⟨lw_p4, List.forall_mem_cons.mpr ⟨lw_p5, List.forall_mem_cons.mpr ⟨lw_p6, List.forall_mem_cons.mpr ⟨lw_p7, List.forall_mem_cons.mpr ⟨lw_p8, List.forall_mem_cons.mpr ⟨lw_p9, List.forall_mem_cons.mpr ⟨lw_p10, List.forall_mem_cons.mpr ⟨lw_p11, List.forall_mem_cons.mpr ⟨lw_p12, List.forall_mem_cons.mpr ⟨lw_p13, List.forall_mem_cons.mpr ⟨lw_p14, List.forall_mem_cons.mpr ⟨lw_p15, fun _ h => absurd h List.not_mem_nil⟩⟩⟩⟩⟩⟩⟩⟩⟩⟩⟩⟩⟩⟩⟩⟩
theorem lw_p16 : lw_okq (⟨"TowerPrisoner$Story", "check", "(LTowerPrisoner$Told;)I"⟩, 3) := ⟨⟨by decide +kernel, by decide +kernel⟩, List.mem_of_getElem? (i := 117) (by decide +kernel), List.mem_of_getElem? (i := 455) (by decide +kernel), List.mem_of_getElem? (i := 456) (by decide +kernel)⟩
theorem lw_p17 : lw_okq (⟨"TowerPrisoner$Odds", "fillRow", "(LTowerPrisoner$Told;II)V"⟩, 5) := ⟨⟨by decide +kernel, by decide +kernel⟩, List.mem_of_getElem? (i := 159) (by decide +kernel), List.mem_of_getElem? (i := 534) (by decide +kernel), List.mem_of_getElem? (i := 535) (by decide +kernel)⟩
theorem lw_p18 : lw_okq (⟨"TowerPrisoner$Odds", "put", "(III)V"⟩, 5) := ⟨⟨by decide +kernel, by decide +kernel⟩, List.mem_of_getElem? (i := 159) (by decide +kernel), List.mem_of_getElem? (i := 538) (by decide +kernel), List.mem_of_getElem? (i := 539) (by decide +kernel)⟩
theorem lw_p19 : lw_okq (⟨"TowerPrisoner$Odds", "best", "(LTowerPrisoner$Told;III)I"⟩, 5) := ⟨⟨by decide +kernel, by decide +kernel⟩, List.mem_of_getElem? (i := 159) (by decide +kernel), List.mem_of_getElem? (i := 542) (by decide +kernel), List.mem_of_getElem? (i := 543) (by decide +kernel)⟩
theorem lw_p20 : lw_okq (⟨"TowerPrisoner$Odds", "turned", "(LTowerPrisoner$Told;III)I"⟩, 5) := ⟨⟨by decide +kernel, by decide +kernel⟩, List.mem_of_getElem? (i := 159) (by decide +kernel), List.mem_of_getElem? (i := 546) (by decide +kernel), List.mem_of_getElem? (i := 547) (by decide +kernel)⟩
theorem lw_p21 : lw_okq (⟨"TowerPrisoner$Odds", "laterAt", "(II)I"⟩, 5) := ⟨⟨by decide +kernel, by decide +kernel⟩, List.mem_of_getElem? (i := 159) (by decide +kernel), List.mem_of_getElem? (i := 552) (by decide +kernel), List.mem_of_getElem? (i := 553) (by decide +kernel)⟩
theorem lw_p22 : lw_okq (⟨"TowerPrisoner$Odds", "swapRows", "()V"⟩, 5) := ⟨⟨by decide +kernel, by decide +kernel⟩, List.mem_of_getElem? (i := 159) (by decide +kernel), List.mem_of_getElem? (i := 558) (by decide +kernel), List.mem_of_getElem? (i := 559) (by decide +kernel)⟩
theorem lw_p23 : lw_okq (⟨"TowerPrisoner$Odds", "reduce", "()V"⟩, 5) := ⟨⟨by decide +kernel, by decide +kernel⟩, List.mem_of_getElem? (i := 159) (by decide +kernel), List.mem_of_getElem? (i := 565) (by decide +kernel), List.mem_of_getElem? (i := 566) (by decide +kernel)⟩
theorem lw_p24 : lw_okq (⟨"TowerPrisoner$Plan", "make", "(LTowerPrisoner$Told;LTowerPrisoner$Story;I)V"⟩, 5) := ⟨⟨by decide +kernel, by decide +kernel⟩, List.mem_of_getElem? (i := 135) (by decide +kernel), List.mem_of_getElem? (i := 578) (by decide +kernel), List.mem_of_getElem? (i := 579) (by decide +kernel)⟩
theorem lw_p25 : lw_okq (⟨"TowerPrisoner$Plan", "put", "(II)V"⟩, 5) := ⟨⟨by decide +kernel, by decide +kernel⟩, List.mem_of_getElem? (i := 135) (by decide +kernel), List.mem_of_getElem? (i := 589) (by decide +kernel), List.mem_of_getElem? (i := 590) (by decide +kernel)⟩
theorem lw_p26 : lw_okq (⟨"TowerPrisoner$Plan", "swapRows", "()V"⟩, 5) := ⟨⟨by decide +kernel, by decide +kernel⟩, List.mem_of_getElem? (i := 135) (by decide +kernel), List.mem_of_getElem? (i := 593) (by decide +kernel), List.mem_of_getElem? (i := 594) (by decide +kernel)⟩
theorem lw_p27 : lw_okq (⟨"TowerPrisoner$Plan", "best", "(LTowerPrisoner$Told;II)I"⟩, 5) := ⟨⟨by decide +kernel, by decide +kernel⟩, List.mem_of_getElem? (i := 135) (by decide +kernel), List.mem_of_getElem? (i := 598) (by decide +kernel), List.mem_of_getElem? (i := 599) (by decide +kernel)⟩
theorem lw_p28 : lw_okq (⟨"TowerPrisoner$Plan", "gain", "(LTowerPrisoner$Told;III)I"⟩, 5) := ⟨⟨by decide +kernel, by decide +kernel⟩, List.mem_of_getElem? (i := 135) (by decide +kernel), List.mem_of_getElem? (i := 602) (by decide +kernel), List.mem_of_getElem? (i := 603) (by decide +kernel)⟩
theorem lw_p29 : lw_okq (⟨"TowerPrisoner$Plan", "laterAt", "(I)I"⟩, 5) := ⟨⟨by decide +kernel, by decide +kernel⟩, List.mem_of_getElem? (i := 135) (by decide +kernel), List.mem_of_getElem? (i := 607) (by decide +kernel), List.mem_of_getElem? (i := 608) (by decide +kernel)⟩
theorem lw_p30 : lw_okq (⟨"TowerPrisoner$Hearsay", "allowedBehind", "(I)I"⟩, 4) := ⟨⟨by decide +kernel, by decide +kernel⟩, List.mem_of_getElem? (i := 184) (by decide +kernel), List.mem_of_getElem? (i := 662) (by decide +kernel), List.mem_of_getElem? (i := 663) (by decide +kernel)⟩
theorem lw_p31 : lw_okq (⟨"TowerPrisoner$Hearsay", "rowsFrom", "(II)I"⟩, 4) := ⟨⟨by decide +kernel, by decide +kernel⟩, List.mem_of_getElem? (i := 184) (by decide +kernel), List.mem_of_getElem? (i := 677) (by decide +kernel), List.mem_of_getElem? (i := 678) (by decide +kernel)⟩
def lw_privs_2 : List (MethodName × Nat) := [(⟨"TowerPrisoner$Story", "check", "(LTowerPrisoner$Told;)I"⟩, 3), (⟨"TowerPrisoner$Odds", "fillRow", "(LTowerPrisoner$Told;II)V"⟩, 5), (⟨"TowerPrisoner$Odds", "put", "(III)V"⟩, 5), (⟨"TowerPrisoner$Odds", "best", "(LTowerPrisoner$Told;III)I"⟩, 5), (⟨"TowerPrisoner$Odds", "turned", "(LTowerPrisoner$Told;III)I"⟩, 5), (⟨"TowerPrisoner$Odds", "laterAt", "(II)I"⟩, 5), (⟨"TowerPrisoner$Odds", "swapRows", "()V"⟩, 5), (⟨"TowerPrisoner$Odds", "reduce", "()V"⟩, 5), (⟨"TowerPrisoner$Plan", "make", "(LTowerPrisoner$Told;LTowerPrisoner$Story;I)V"⟩, 5), (⟨"TowerPrisoner$Plan", "put", "(II)V"⟩, 5), (⟨"TowerPrisoner$Plan", "swapRows", "()V"⟩, 5), (⟨"TowerPrisoner$Plan", "best", "(LTowerPrisoner$Told;II)I"⟩, 5), (⟨"TowerPrisoner$Plan", "gain", "(LTowerPrisoner$Told;III)I"⟩, 5), (⟨"TowerPrisoner$Plan", "laterAt", "(I)I"⟩, 5), (⟨"TowerPrisoner$Hearsay", "allowedBehind", "(I)I"⟩, 4), (⟨"TowerPrisoner$Hearsay", "rowsFrom", "(II)I"⟩, 4)]
theorem lw_r2 : ∀ q ∈ lw_privs_2, lw_okq q := List.forall_mem_cons.mpr ⟨lw_p16, List.forall_mem_cons.mpr ⟨lw_p17, List.forall_mem_cons.mpr ⟨lw_p18, List.forall_mem_cons.mpr ⟨lw_p19, List.forall_mem_cons.mpr ⟨lw_p20, List.forall_mem_cons.mpr ⟨lw_p21, List.forall_mem_cons.mpr ⟨lw_p22, List.forall_mem_cons.mpr ⟨lw_p23, List.forall_mem_cons.mpr ⟨lw_p24, List.forall_mem_cons.mpr ⟨lw_p25, List.forall_mem_cons.mpr ⟨lw_p26, List.forall_mem_cons.mpr ⟨lw_p27, List.forall_mem_cons.mpr ⟨lw_p28, List.forall_mem_cons.mpr ⟨lw_p29, List.forall_mem_cons.mpr ⟨lw_p30, List.forall_mem_cons.mpr ⟨lw_p31, fun _ h => absurd h List.not_mem_nil⟩⟩⟩⟩⟩⟩⟩⟩⟩⟩⟩⟩⟩⟩⟩⟩
theorem lw_p32 : lw_okq (⟨"TowerPrisoner$Hearsay", "laterAt", "(I)I"⟩, 4) := ⟨⟨by decide +kernel, by decide +kernel⟩, List.mem_of_getElem? (i := 184) (by decide +kernel), List.mem_of_getElem? (i := 681) (by decide +kernel), List.mem_of_getElem? (i := 682) (by decide +kernel)⟩
theorem lw_p33 : lw_okq (⟨"TowerPrisoner$Hearsay", "put", "(II)V"⟩, 4) := ⟨⟨by decide +kernel, by decide +kernel⟩, List.mem_of_getElem? (i := 184) (by decide +kernel), List.mem_of_getElem? (i := 686) (by decide +kernel), List.mem_of_getElem? (i := 687) (by decide +kernel)⟩
theorem lw_p34 : lw_okq (⟨"TowerPrisoner$Hearsay", "swapRows", "()V"⟩, 4) := ⟨⟨by decide +kernel, by decide +kernel⟩, List.mem_of_getElem? (i := 184) (by decide +kernel), List.mem_of_getElem? (i := 690) (by decide +kernel), List.mem_of_getElem? (i := 691) (by decide +kernel)⟩
theorem lw_p35 : lw_okq (⟨"TowerPrisoner", "asTrade", "(I)I"⟩, 10) := ⟨⟨by decide +kernel, by decide +kernel⟩, List.mem_of_getElem? (i := 13) (by decide +kernel), List.mem_of_getElem? (i := 713) (by decide +kernel), List.mem_of_getElem? (i := 714) (by decide +kernel)⟩
theorem lw_p36 : lw_okq (⟨"TowerPrisoner", "asBaker", "(I)I"⟩, 10) := ⟨⟨by decide +kernel, by decide +kernel⟩, List.mem_of_getElem? (i := 13) (by decide +kernel), List.mem_of_getElem? (i := 717) (by decide +kernel), List.mem_of_getElem? (i := 718) (by decide +kernel)⟩
theorem lw_p37 : lw_okq (⟨"TowerPrisoner", "asCourt", "(I)I"⟩, 10) := ⟨⟨by decide +kernel, by decide +kernel⟩, List.mem_of_getElem? (i := 13) (by decide +kernel), List.mem_of_getElem? (i := 722) (by decide +kernel), List.mem_of_getElem? (i := 723) (by decide +kernel)⟩
theorem lw_p38 : lw_okq (⟨"TowerPrisoner", "asSweetheart", "(I)I"⟩, 10) := ⟨⟨by decide +kernel, by decide +kernel⟩, List.mem_of_getElem? (i := 13) (by decide +kernel), List.mem_of_getElem? (i := 727) (by decide +kernel), List.mem_of_getElem? (i := 728) (by decide +kernel)⟩
theorem lw_p39 : lw_okq (⟨"TowerPrisoner", "asWife", "(I)I"⟩, 10) := ⟨⟨by decide +kernel, by decide +kernel⟩, List.mem_of_getElem? (i := 13) (by decide +kernel), List.mem_of_getElem? (i := 732) (by decide +kernel), List.mem_of_getElem? (i := 733) (by decide +kernel)⟩
theorem lw_p40 : lw_okq (⟨"TowerPrisoner", "asHen", "(I)I"⟩, 10) := ⟨⟨by decide +kernel, by decide +kernel⟩, List.mem_of_getElem? (i := 13) (by decide +kernel), List.mem_of_getElem? (i := 737) (by decide +kernel), List.mem_of_getElem? (i := 738) (by decide +kernel)⟩
theorem lw_p41 : lw_okq (⟨"TowerPrisonerModel", "next", "()V"⟩, 35) := ⟨⟨by decide +kernel, by decide +kernel⟩, List.mem_of_getElem? (i := 762) (by decide +kernel), List.mem_of_getElem? (i := 890) (by decide +kernel), List.mem_of_getElem? (i := 891) (by decide +kernel)⟩
theorem lw_p42 : lw_okq (⟨"TowerPrisonerModel", "letterAt", "(I)I"⟩, 35) := ⟨⟨by decide +kernel, by decide +kernel⟩, List.mem_of_getElem? (i := 762) (by decide +kernel), List.mem_of_getElem? (i := 894) (by decide +kernel), List.mem_of_getElem? (i := 895) (by decide +kernel)⟩
theorem lw_p43 : lw_okq (⟨"TowerPrisonerModel", "readItem", "()V"⟩, 35) := ⟨⟨by decide +kernel, by decide +kernel⟩, List.mem_of_getElem? (i := 762) (by decide +kernel), List.mem_of_getElem? (i := 904) (by decide +kernel), List.mem_of_getElem? (i := 905) (by decide +kernel)⟩
theorem lw_p44 : lw_okq (⟨"TowerPrisonerModel", "mayBegin", "(I)Z"⟩, 35) := ⟨⟨by decide +kernel, by decide +kernel⟩, List.mem_of_getElem? (i := 762) (by decide +kernel), List.mem_of_getElem? (i := 908) (by decide +kernel), List.mem_of_getElem? (i := 909) (by decide +kernel)⟩
theorem lw_p45 : lw_okq (⟨"TowerPrisonerModel", "readBody", "(I)V"⟩, 35) := ⟨⟨by decide +kernel, by decide +kernel⟩, List.mem_of_getElem? (i := 762) (by decide +kernel), List.mem_of_getElem? (i := 912) (by decide +kernel), List.mem_of_getElem? (i := 913) (by decide +kernel)⟩
theorem lw_p46 : lw_okq (⟨"TowerPrisonerModel", "takesNumber", "(II)I"⟩, 35) := ⟨⟨by decide +kernel, by decide +kernel⟩, List.mem_of_getElem? (i := 762) (by decide +kernel), List.mem_of_getElem? (i := 916) (by decide +kernel), List.mem_of_getElem? (i := 917) (by decide +kernel)⟩
theorem lw_p47 : lw_okq (⟨"TowerPrisonerModel", "readBribe", "()V"⟩, 35) := ⟨⟨by decide +kernel, by decide +kernel⟩, List.mem_of_getElem? (i := 762) (by decide +kernel), List.mem_of_getElem? (i := 920) (by decide +kernel), List.mem_of_getElem? (i := 921) (by decide +kernel)⟩
def lw_privs_3 : List (MethodName × Nat) := [(⟨"TowerPrisoner$Hearsay", "laterAt", "(I)I"⟩, 4), (⟨"TowerPrisoner$Hearsay", "put", "(II)V"⟩, 4), (⟨"TowerPrisoner$Hearsay", "swapRows", "()V"⟩, 4), (⟨"TowerPrisoner", "asTrade", "(I)I"⟩, 10), (⟨"TowerPrisoner", "asBaker", "(I)I"⟩, 10), (⟨"TowerPrisoner", "asCourt", "(I)I"⟩, 10), (⟨"TowerPrisoner", "asSweetheart", "(I)I"⟩, 10), (⟨"TowerPrisoner", "asWife", "(I)I"⟩, 10), (⟨"TowerPrisoner", "asHen", "(I)I"⟩, 10), (⟨"TowerPrisonerModel", "next", "()V"⟩, 35), (⟨"TowerPrisonerModel", "letterAt", "(I)I"⟩, 35), (⟨"TowerPrisonerModel", "readItem", "()V"⟩, 35), (⟨"TowerPrisonerModel", "mayBegin", "(I)Z"⟩, 35), (⟨"TowerPrisonerModel", "readBody", "(I)V"⟩, 35), (⟨"TowerPrisonerModel", "takesNumber", "(II)I"⟩, 35), (⟨"TowerPrisonerModel", "readBribe", "()V"⟩, 35)]
theorem lw_r3 : ∀ q ∈ lw_privs_3, lw_okq q := List.forall_mem_cons.mpr ⟨lw_p32, List.forall_mem_cons.mpr ⟨lw_p33, List.forall_mem_cons.mpr ⟨lw_p34, List.forall_mem_cons.mpr ⟨lw_p35, List.forall_mem_cons.mpr ⟨lw_p36, List.forall_mem_cons.mpr ⟨lw_p37, List.forall_mem_cons.mpr ⟨lw_p38, List.forall_mem_cons.mpr ⟨lw_p39, List.forall_mem_cons.mpr ⟨lw_p40, List.forall_mem_cons.mpr ⟨lw_p41, List.forall_mem_cons.mpr ⟨lw_p42, List.forall_mem_cons.mpr ⟨lw_p43, List.forall_mem_cons.mpr ⟨lw_p44, List.forall_mem_cons.mpr ⟨lw_p45, List.forall_mem_cons.mpr ⟨lw_p46, List.forall_mem_cons.mpr ⟨lw_p47, fun _ h => absurd h List.not_mem_nil⟩⟩⟩⟩⟩⟩⟩⟩⟩⟩⟩⟩⟩⟩⟩⟩
theorem lw_p48 : lw_okq (⟨"TowerPrisonerModel", "settles", "()V"⟩, 35) := ⟨⟨by decide +kernel, by decide +kernel⟩, List.mem_of_getElem? (i := 762) (by decide +kernel), List.mem_of_getElem? (i := 924) (by decide +kernel), List.mem_of_getElem? (i := 925) (by decide +kernel)⟩
theorem lw_p49 : lw_okq (⟨"TowerPrisonerModel", "isTrade", "(I)Z"⟩, 35) := ⟨⟨by decide +kernel, by decide +kernel⟩, List.mem_of_getElem? (i := 762) (by decide +kernel), List.mem_of_getElem? (i := 941) (by decide +kernel), List.mem_of_getElem? (i := 942) (by decide +kernel)⟩
theorem lw_p50 : lw_okq (⟨"TowerPrisonerModel", "isDone", "()Z"⟩, 35) := ⟨⟨by decide +kernel, by decide +kernel⟩, List.mem_of_getElem? (i := 762) (by decide +kernel), List.mem_of_getElem? (i := 952) (by decide +kernel), List.mem_of_getElem? (i := 953) (by decide +kernel)⟩
theorem lw_p51 : lw_okq (⟨"TowerPrisonerModel", "isOver", "()Z"⟩, 35) := ⟨⟨by decide +kernel, by decide +kernel⟩, List.mem_of_getElem? (i := 762) (by decide +kernel), List.mem_of_getElem? (i := 956) (by decide +kernel), List.mem_of_getElem? (i := 957) (by decide +kernel)⟩
theorem lw_p52 : lw_okq (⟨"TowerPrisonerModel", "isFree", "()Z"⟩, 35) := ⟨⟨by decide +kernel, by decide +kernel⟩, List.mem_of_getElem? (i := 762) (by decide +kernel), List.mem_of_getElem? (i := 960) (by decide +kernel), List.mem_of_getElem? (i := 961) (by decide +kernel)⟩
theorem lw_p53 : lw_okq (⟨"TowerPrisonerModel", "remembers", "()V"⟩, 35) := ⟨⟨by decide +kernel, by decide +kernel⟩, List.mem_of_getElem? (i := 762) (by decide +kernel), List.mem_of_getElem? (i := 967) (by decide +kernel), List.mem_of_getElem? (i := 968) (by decide +kernel)⟩
theorem lw_p54 : lw_okq (⟨"TowerPrisonerModel", "candlesBy", "(II)I"⟩, 35) := ⟨⟨by decide +kernel, by decide +kernel⟩, List.mem_of_getElem? (i := 762) (by decide +kernel), List.mem_of_getElem? (i := 974) (by decide +kernel), List.mem_of_getElem? (i := 975) (by decide +kernel)⟩
theorem lw_p55 : lw_okq (⟨"TowerPrisonerModel", "harmOf", "(II)I"⟩, 35) := ⟨⟨by decide +kernel, by decide +kernel⟩, List.mem_of_getElem? (i := 762) (by decide +kernel), List.mem_of_getElem? (i := 981) (by decide +kernel), List.mem_of_getElem? (i := 982) (by decide +kernel)⟩
theorem lw_p56 : lw_okq (⟨"TowerPrisonerModel", "checks", "()I"⟩, 35) := ⟨⟨by decide +kernel, by decide +kernel⟩, List.mem_of_getElem? (i := 762) (by decide +kernel), List.mem_of_getElem? (i := 990) (by decide +kernel), List.mem_of_getElem? (i := 991) (by decide +kernel)⟩
theorem lw_p57 : lw_okq (⟨"TowerPrisonerModel", "daysOf", "(I)I"⟩, 35) := ⟨⟨by decide +kernel, by decide +kernel⟩, List.mem_of_getElem? (i := 762) (by decide +kernel), List.mem_of_getElem? (i := 1022) (by decide +kernel), List.mem_of_getElem? (i := 1023) (by decide +kernel)⟩
theorem lw_p58 : lw_okq (⟨"TowerPrisonerModel", "findWorths", "(II)V"⟩, 35) := ⟨⟨by decide +kernel, by decide +kernel⟩, List.mem_of_getElem? (i := 762) (by decide +kernel), List.mem_of_getElem? (i := 1026) (by decide +kernel), List.mem_of_getElem? (i := 1027) (by decide +kernel)⟩
theorem lw_p59 : lw_okq (⟨"TowerPrisonerModel", "bestOf", "(IIII)I"⟩, 35) := ⟨⟨by decide +kernel, by decide +kernel⟩, List.mem_of_getElem? (i := 762) (by decide +kernel), List.mem_of_getElem? (i := 1033) (by decide +kernel), List.mem_of_getElem? (i := 1034) (by decide +kernel)⟩
theorem lw_p60 : lw_okq (⟨"TowerPrisonerModel", "worthBy", "(IIIII)I"⟩, 35) := ⟨⟨by decide +kernel, by decide +kernel⟩, List.mem_of_getElem? (i := 762) (by decide +kernel), List.mem_of_getElem? (i := 1040) (by decide +kernel), List.mem_of_getElem? (i := 1041) (by decide +kernel)⟩
theorem lw_p61 : lw_okq (⟨"TowerPrisonerModel", "harmBy", "(I)I"⟩, 35) := ⟨⟨by decide +kernel, by decide +kernel⟩, List.mem_of_getElem? (i := 762) (by decide +kernel), List.mem_of_getElem? (i := 1044) (by decide +kernel), List.mem_of_getElem? (i := 1045) (by decide +kernel)⟩
theorem lw_p62 : lw_okq (⟨"TowerPrisonerModel", "paceBy", "(I)I"⟩, 35) := ⟨⟨by decide +kernel, by decide +kernel⟩, List.mem_of_getElem? (i := 762) (by decide +kernel), List.mem_of_getElem? (i := 1048) (by decide +kernel), List.mem_of_getElem? (i := 1049) (by decide +kernel)⟩
theorem lw_p63 : lw_okq (⟨"TowerPrisonerModel", "findHeard", "(Z)V"⟩, 35) := ⟨⟨by decide +kernel, by decide +kernel⟩, List.mem_of_getElem? (i := 762) (by decide +kernel), List.mem_of_getElem? (i := 1079) (by decide +kernel), List.mem_of_getElem? (i := 1080) (by decide +kernel)⟩
def lw_privs_4 : List (MethodName × Nat) := [(⟨"TowerPrisonerModel", "settles", "()V"⟩, 35), (⟨"TowerPrisonerModel", "isTrade", "(I)Z"⟩, 35), (⟨"TowerPrisonerModel", "isDone", "()Z"⟩, 35), (⟨"TowerPrisonerModel", "isOver", "()Z"⟩, 35), (⟨"TowerPrisonerModel", "isFree", "()Z"⟩, 35), (⟨"TowerPrisonerModel", "remembers", "()V"⟩, 35), (⟨"TowerPrisonerModel", "candlesBy", "(II)I"⟩, 35), (⟨"TowerPrisonerModel", "harmOf", "(II)I"⟩, 35), (⟨"TowerPrisonerModel", "checks", "()I"⟩, 35), (⟨"TowerPrisonerModel", "daysOf", "(I)I"⟩, 35), (⟨"TowerPrisonerModel", "findWorths", "(II)V"⟩, 35), (⟨"TowerPrisonerModel", "bestOf", "(IIII)I"⟩, 35), (⟨"TowerPrisonerModel", "worthBy", "(IIIII)I"⟩, 35), (⟨"TowerPrisonerModel", "harmBy", "(I)I"⟩, 35), (⟨"TowerPrisonerModel", "paceBy", "(I)I"⟩, 35), (⟨"TowerPrisonerModel", "findHeard", "(Z)V"⟩, 35)]
theorem lw_r4 : ∀ q ∈ lw_privs_4, lw_okq q := List.forall_mem_cons.mpr ⟨lw_p48, List.forall_mem_cons.mpr ⟨lw_p49, List.forall_mem_cons.mpr ⟨lw_p50, List.forall_mem_cons.mpr ⟨lw_p51, List.forall_mem_cons.mpr ⟨lw_p52, List.forall_mem_cons.mpr ⟨lw_p53, List.forall_mem_cons.mpr ⟨lw_p54, List.forall_mem_cons.mpr ⟨lw_p55, List.forall_mem_cons.mpr ⟨lw_p56, List.forall_mem_cons.mpr ⟨lw_p57, List.forall_mem_cons.mpr ⟨lw_p58, List.forall_mem_cons.mpr ⟨lw_p59, List.forall_mem_cons.mpr ⟨lw_p60, List.forall_mem_cons.mpr ⟨lw_p61, List.forall_mem_cons.mpr ⟨lw_p62, List.forall_mem_cons.mpr ⟨lw_p63, fun _ h => absurd h List.not_mem_nil⟩⟩⟩⟩⟩⟩⟩⟩⟩⟩⟩⟩⟩⟩⟩⟩
theorem lw_p64 : lw_okq (⟨"TowerPrisonerModel", "comeTo", "(II)I"⟩, 35) := ⟨⟨by decide +kernel, by decide +kernel⟩, List.mem_of_getElem? (i := 762) (by decide +kernel), List.mem_of_getElem? (i := 1083) (by decide +kernel), List.mem_of_getElem? (i := 1084) (by decide +kernel)⟩
theorem lw_p65 : lw_okq (⟨"TowerPrisonerModel", "isHeard", "(II)Z"⟩, 35) := ⟨⟨by decide +kernel, by decide +kernel⟩, List.mem_of_getElem? (i := 762) (by decide +kernel), List.mem_of_getElem? (i := 1087) (by decide +kernel), List.mem_of_getElem? (i := 1088) (by decide +kernel)⟩
theorem lw_p66 : lw_okq (⟨"TowerPrisonerModel", "goFrom", "(II)I"⟩, 35) := ⟨⟨by decide +kernel, by decide +kernel⟩, List.mem_of_getElem? (i := 762) (by decide +kernel), List.mem_of_getElem? (i := 1092) (by decide +kernel), List.mem_of_getElem? (i := 1093) (by decide +kernel)⟩
theorem lw_p67 : lw_okq (⟨"TowerPrisonerModel", "couldOf", "(I)I"⟩, 35) := ⟨⟨by decide +kernel, by decide +kernel⟩, List.mem_of_getElem? (i := 762) (by decide +kernel), List.mem_of_getElem? (i := 1096) (by decide +kernel), List.mem_of_getElem? (i := 1097) (by decide +kernel)⟩
def lw_privs_5 : List (MethodName × Nat) := [(⟨"TowerPrisonerModel", "comeTo", "(II)I"⟩, 35), (⟨"TowerPrisonerModel", "isHeard", "(II)Z"⟩, 35), (⟨"TowerPrisonerModel", "goFrom", "(II)I"⟩, 35), (⟨"TowerPrisonerModel", "couldOf", "(I)I"⟩, 35)]
theorem lw_r5 : ∀ q ∈ lw_privs_5, lw_okq q := List.forall_mem_cons.mpr ⟨lw_p64, List.forall_mem_cons.mpr ⟨lw_p65, List.forall_mem_cons.mpr ⟨lw_p66, List.forall_mem_cons.mpr ⟨lw_p67, fun _ h => absurd h List.not_mem_nil⟩⟩⟩⟩
def lw_privs : List (MethodName × Nat) := lw_privs_1 ++ (lw_privs_2 ++ (lw_privs_3 ++ (lw_privs_4 ++ (lw_privs_5))))
def lw_tbl : List Cond := k2_sels lw_privs ++ tables_1
theorem lw_privs_ok : ∀ q ∈ lw_privs, lw_okq q := by
  show ∀ q ∈ lw_privs_1 ++ (lw_privs_2 ++ (lw_privs_3 ++ (lw_privs_4 ++ (lw_privs_5)))), lw_okq q
  exact List.forall_mem_append.mpr ⟨lw_r1, List.forall_mem_append.mpr ⟨lw_r2, List.forall_mem_append.mpr ⟨lw_r3, List.forall_mem_append.mpr ⟨lw_r4, lw_r5⟩⟩⟩⟩
end
section
theorem goodIn_r {big : List Cond} (ws : List Cond) (ps : List Nat) (hp : ws = ps.filterMap (fun i => big[i]?)) (h : ws.all goodWord = true) : GoodIn big ws := by
  intro w hw
  have h1 := List.all_eq_true.mp h w hw
  rw [hp] at hw
  obtain ⟨i, -, hi⟩ := List.mem_filterMap.mp hw
  have hm : w ∈ big := by first | exact List.mem_of_getElem? hi | exact List.getElem?_mem hi
  exact ⟨hm, good_of_word h1⟩
def RX0 : String := "TowerPrisoner$Hearsay"
def TX0 : u_T := fun k => match k with
  | 0 => ("TowerPrisoner$Hearsay", "allowed", "[I", true)
  | 1 => ("TowerPrisoner$Hearsay", "here", "[I", false)
  | 2 => ("TowerPrisoner$Hearsay", "later", "[I", false)
  | _ => ("TowerPrisoner$Hearsay", "heard", "I", false)
def tyX0 : Nat → FieldType := fun k => match k with
  | 0 => .array .int
  | 1 => .array .int
  | 2 => .array .int
  | _ => .int
abbrev wsX00 : List Cond := u_ws RX0 TX0 4
theorem nmX0 : ∀ a, a < 4 → ∀ b, b < 4 → a ≠ b → (TX0 a).2.1 ≠ (TX0 b).2.1 := by decide +kernel
theorem tyX0_ok : ∀ k, k < 4 → parseFieldDescriptor (TX0 k).2.2.1 = some (tyX0 k) := by decide +kernel
abbrev cX0_init : ByteArray := prog_2_method_1_code
def yX0_init : MethodName := ⟨RX0, "<init>", "()V"⟩
abbrev cX0_drop : ByteArray := prog_2_method_2_code
def yX0_drop : MethodName := ⟨RX0, "drop", "()V"⟩
abbrev cX0_add : ByteArray := prog_2_method_3_code
def yX0_add : MethodName := ⟨RX0, "add", "(III)Z"⟩
abbrev cX0_errorsBehind : ByteArray := prog_2_method_4_code
def yX0_errorsBehind : MethodName := ⟨RX0, "errorsBehind", "(I)I"⟩
abbrev cX0_widestDay : ByteArray := prog_2_method_5_code
def yX0_widestDay : MethodName := ⟨RX0, "widestDay", "()I"⟩
abbrev cX0_rows : ByteArray := prog_2_method_6_code
def yX0_rows : MethodName := ⟨RX0, "rows", "()I"⟩
abbrev cX0_rowsFrom : ByteArray := prog_2_method_7_code
def yX0_rowsFrom : MethodName := ⟨RX0, "rowsFrom", "(II)I"⟩
abbrev cX0_allowedBehind : ByteArray := prog_2_method_8_code
def yX0_allowedBehind : MethodName := ⟨RX0, "allowedBehind", "(I)I"⟩
abbrev cX0_within : ByteArray := prog_2_method_9_code
def yX0_within : MethodName := ⟨RX0, "within", "(II)I"⟩
abbrev cX0_aDayOn : ByteArray := prog_2_method_10_code
def yX0_aDayOn : MethodName := ⟨RX0, "aDayOn", "(I)I"⟩
abbrev cX0_aDayBack : ByteArray := prog_2_method_11_code
def yX0_aDayBack : MethodName := ⟨RX0, "aDayBack", "(I)I"⟩
abbrev cX0_swapRows : ByteArray := prog_2_method_12_code
def yX0_swapRows : MethodName := ⟨RX0, "swapRows", "()V"⟩
abbrev cX0_laterAt : ByteArray := prog_2_method_13_code
def yX0_laterAt : MethodName := ⟨RX0, "laterAt", "(I)I"⟩
abbrev cX0_put : ByteArray := prog_2_method_14_code
def yX0_put : MethodName := ⟨RX0, "put", "(II)V"⟩
def RX1 : String := "TowerPrisoner$Odds"
def TX1 : u_T := fun k => match k with
  | 0 => ("TowerPrisoner$Odds", "here", "[I", false)
  | 1 => ("TowerPrisoner$Odds", "later", "[I", false)
  | 2 => ("TowerPrisoner$Odds", "upper", "I", false)
  | 3 => ("TowerPrisoner$Odds", "lower", "I", false)
  | _ => ("TowerPrisoner$Odds", "pace", "I", false)
def tyX1 : Nat → FieldType := fun k => match k with
  | 0 => .array .int
  | 1 => .array .int
  | 2 => .int
  | 3 => .int
  | _ => .int
abbrev wsX10 : List Cond := u_ws RX1 TX1 5
theorem nmX1 : ∀ a, a < 5 → ∀ b, b < 5 → a ≠ b → (TX1 a).2.1 ≠ (TX1 b).2.1 := by decide +kernel
theorem tyX1_ok : ∀ k, k < 5 → parseFieldDescriptor (TX1 k).2.2.1 = some (tyX1 k) := by decide +kernel
abbrev cX1_init : ByteArray := prog_3_method_1_code
def yX1_init : MethodName := ⟨RX1, "<init>", "()V"⟩
abbrev cX1_weigh : ByteArray := prog_3_method_2_code
def yX1_weigh : MethodName := ⟨RX1, "weigh", "(LTowerPrisoner$Told;LTowerPrisoner$Story;I)V"⟩
abbrev cX1_fillRow : ByteArray := prog_3_method_3_code
def yX1_fillRow : MethodName := ⟨RX1, "fillRow", "(LTowerPrisoner$Told;II)V"⟩
abbrev cX1_best : ByteArray := prog_3_method_4_code
def yX1_best : MethodName := ⟨RX1, "best", "(LTowerPrisoner$Told;III)I"⟩
abbrev cX1_turned : ByteArray := prog_3_method_5_code
def yX1_turned : MethodName := ⟨RX1, "turned", "(LTowerPrisoner$Told;III)I"⟩
abbrev cX1_reduce : ByteArray := prog_3_method_6_code
def yX1_reduce : MethodName := ⟨RX1, "reduce", "()V"⟩
abbrev cX1_swapRows : ByteArray := prog_3_method_7_code
def yX1_swapRows : MethodName := ⟨RX1, "swapRows", "()V"⟩
abbrev cX1_laterAt : ByteArray := prog_3_method_8_code
def yX1_laterAt : MethodName := ⟨RX1, "laterAt", "(II)I"⟩
abbrev cX1_put : ByteArray := prog_3_method_9_code
def yX1_put : MethodName := ⟨RX1, "put", "(III)V"⟩
def RX2 : String := "TowerPrisoner$Plan"
def TX2 : u_T := fun k => match k with
  | 0 => ("TowerPrisoner$Plan", "here", "[I", false)
  | 1 => ("TowerPrisoner$Plan", "later", "[I", false)
  | 2 => ("TowerPrisoner$Plan", "taking", "Z", false)
  | 3 => ("TowerPrisoner$Plan", "most", "I", false)
  | _ => ("TowerPrisoner$Plan", "pace", "I", false)
def tyX2 : Nat → FieldType := fun k => match k with
  | 0 => .array .int
  | 1 => .array .int
  | 2 => .boolean
  | 3 => .int
  | _ => .int
abbrev wsX20 : List Cond := u_ws RX2 TX2 5
theorem nmX2 : ∀ a, a < 5 → ∀ b, b < 5 → a ≠ b → (TX2 a).2.1 ≠ (TX2 b).2.1 := by decide +kernel
theorem tyX2_ok : ∀ k, k < 5 → parseFieldDescriptor (TX2 k).2.2.1 = some (tyX2 k) := by decide +kernel
abbrev cX2_init : ByteArray := prog_4_method_1_code
def yX2_init : MethodName := ⟨RX2, "<init>", "()V"⟩
abbrev cX2_forCandles : ByteArray := prog_4_method_2_code
def yX2_forCandles : MethodName := ⟨RX2, "forCandles", "(LTowerPrisoner$Told;LTowerPrisoner$Story;)V"⟩
abbrev cX2_forFreedom : ByteArray := prog_4_method_3_code
def yX2_forFreedom : MethodName := ⟨RX2, "forFreedom", "(LTowerPrisoner$Told;LTowerPrisoner$Story;I)V"⟩
abbrev cX2_make : ByteArray := prog_4_method_4_code
def yX2_make : MethodName := ⟨RX2, "make", "(LTowerPrisoner$Told;LTowerPrisoner$Story;I)V"⟩
abbrev cX2_restBehind : ByteArray := prog_4_method_5_code
def yX2_restBehind : MethodName := ⟨RX2, "restBehind", "(LTowerPrisoner$Story;II)I"⟩
abbrev cX2_best : ByteArray := prog_4_method_6_code
def yX2_best : MethodName := ⟨RX2, "best", "(LTowerPrisoner$Told;II)I"⟩
abbrev cX2_gain : ByteArray := prog_4_method_7_code
def yX2_gain : MethodName := ⟨RX2, "gain", "(LTowerPrisoner$Told;III)I"⟩
abbrev cX2_swapRows : ByteArray := prog_4_method_8_code
def yX2_swapRows : MethodName := ⟨RX2, "swapRows", "()V"⟩
abbrev cX2_laterAt : ByteArray := prog_4_method_9_code
def yX2_laterAt : MethodName := ⟨RX2, "laterAt", "(I)I"⟩
abbrev cX2_put : ByteArray := prog_4_method_10_code
def yX2_put : MethodName := ⟨RX2, "put", "(II)V"⟩
def RX3 : String := "TowerPrisoner$Story"
def TX3 : u_T := fun k => match k with
  | 0 => ("TowerPrisoner$Story", "moments", "[I", true)
  | 1 => ("TowerPrisoner$Story", "known", "I", false)
  | _ => ("TowerPrisoner$Story", "kept", "Z", false)
def tyX3 : Nat → FieldType := fun k => match k with
  | 0 => .array .int
  | 1 => .int
  | _ => .boolean
abbrev wsX30 : List Cond := u_ws RX3 TX3 3
theorem nmX3 : ∀ a, a < 3 → ∀ b, b < 3 → a ≠ b → (TX3 a).2.1 ≠ (TX3 b).2.1 := by decide +kernel
theorem tyX3_ok : ∀ k, k < 3 → parseFieldDescriptor (TX3 k).2.2.1 = some (tyX3 k) := by decide +kernel
abbrev cX3_init : ByteArray := prog_5_method_1_code
def yX3_init : MethodName := ⟨RX3, "<init>", "()V"⟩
abbrev cX3_begin : ByteArray := prog_5_method_2_code
def yX3_begin : MethodName := ⟨RX3, "begin", "(I)V"⟩
abbrev cX3_copy : ByteArray := prog_5_method_3_code
def yX3_copy : MethodName := ⟨RX3, "copy", "(LTowerPrisoner$Story;)V"⟩
abbrev cX3_day : ByteArray := prog_5_method_4_code
def yX3_day : MethodName := ⟨RX3, "day", "()I"⟩
abbrev cX3_rest : ByteArray := prog_5_method_5_code
def yX3_rest : MethodName := ⟨RX3, "rest", "()I"⟩
abbrev cX3_error : ByteArray := prog_5_method_6_code
def yX3_error : MethodName := ⟨RX3, "error", "()I"⟩
abbrev cX3_candles : ByteArray := prog_5_method_7_code
def yX3_candles : MethodName := ⟨RX3, "candles", "()I"⟩
abbrev cX3_found : ByteArray := prog_5_method_8_code
def yX3_found : MethodName := ⟨RX3, "found", "()I"⟩
abbrev cX3_harmOf : ByteArray := prog_5_method_9_code
def yX3_harmOf : MethodName := ⟨RX3, "harmOf", "(I)I"⟩
abbrev cX3_harmOfAll : ByteArray := prog_5_method_10_code
def yX3_harmOfAll : MethodName := ⟨RX3, "harmOfAll", "()I"⟩
abbrev cX3_isOver : ByteArray := prog_5_method_11_code
def yX3_isOver : MethodName := ⟨RX3, "isOver", "(LTowerPrisoner$Told;)Z"⟩
abbrev cX3_isFree : ByteArray := prog_5_method_12_code
def yX3_isFree : MethodName := ⟨RX3, "isFree", "()Z"⟩
abbrev cX3_isEnded : ByteArray := prog_5_method_13_code
def yX3_isEnded : MethodName := ⟨RX3, "isEnded", "(LTowerPrisoner$Told;)Z"⟩
abbrev cX3_daysLeft : ByteArray := prog_5_method_14_code
def yX3_daysLeft : MethodName := ⟨RX3, "daysLeft", "(LTowerPrisoner$Told;)I"⟩
abbrev cX3_turn : ByteArray := prog_5_method_15_code
def yX3_turn : MethodName := ⟨RX3, "turn", "(LTowerPrisoner$Told;II)I"⟩
abbrev cX3_watch : ByteArray := prog_5_method_16_code
def yX3_watch : MethodName := ⟨RX3, "watch", "(LTowerPrisoner$Told;)I"⟩
abbrev cX3_pay : ByteArray := prog_5_method_17_code
def yX3_pay : MethodName := ⟨RX3, "pay", "(II)I"⟩
abbrev cX3_correct : ByteArray := prog_5_method_18_code
def yX3_correct : MethodName := ⟨RX3, "correct", "(I)I"⟩
abbrev cX3_recall : ByteArray := prog_5_method_19_code
def yX3_recall : MethodName := ⟨RX3, "recall", "()Z"⟩
abbrev cX3_soonestFree : ByteArray := prog_5_method_20_code
def yX3_soonestFree : MethodName := ⟨RX3, "soonestFree", "(LTowerPrisoner$Told;)I"⟩
abbrev cX3_caughtBehind : ByteArray := prog_5_method_21_code
def yX3_caughtBehind : MethodName := ⟨RX3, "caughtBehind", "(LTowerPrisoner$Told;I)I"⟩
abbrev cX3_check : ByteArray := prog_5_method_22_code
def yX3_check : MethodName := ⟨RX3, "check", "(LTowerPrisoner$Told;)I"⟩
abbrev cX3_remember : ByteArray := prog_5_method_23_code
def yX3_remember : MethodName := ⟨RX3, "remember", "()V"⟩
abbrev cX3_setHarm : ByteArray := prog_5_method_24_code
def yX3_setHarm : MethodName := ⟨RX3, "setHarm", "(II)V"⟩
abbrev cX3_draw : ByteArray := prog_5_method_25_code
def yX3_draw : MethodName := ⟨RX3, "draw", "(II)I"⟩
def RX4 : String := "TowerPrisoner$Text"
def TX4 : u_T := fun k => match k with
  | 0 => ("TowerPrisoner$Text", "bytes", "[I", true)
  | 1 => ("TowerPrisoner$Text", "length", "I", false)
  | 2 => ("TowerPrisoner$Text", "place", "I", false)
  | 3 => ("TowerPrisoner$Text", "start", "I", false)
  | 4 => ("TowerPrisoner$Text", "kind", "I", false)
  | 5 => ("TowerPrisoner$Text", "value", "I", false)
  | 6 => ("TowerPrisoner$Text", "fault", "I", false)
  | 7 => ("TowerPrisoner$Text", "restTold", "Z", false)
  | 8 => ("TowerPrisoner$Text", "limitTold", "Z", false)
  | _ => ("TowerPrisoner$Text", "addedTold", "Z", false)
def tyX4 : Nat → FieldType := fun k => match k with
  | 0 => .array .int
  | 1 => .int
  | 2 => .int
  | 3 => .int
  | 4 => .int
  | 5 => .int
  | 6 => .int
  | 7 => .boolean
  | 8 => .boolean
  | _ => .boolean
abbrev wsX40 : List Cond := u_ws RX4 TX4 10
theorem nmX4 : ∀ a, a < 10 → ∀ b, b < 10 → a ≠ b → (TX4 a).2.1 ≠ (TX4 b).2.1 := by decide +kernel
theorem tyX4_ok : ∀ k, k < 10 → parseFieldDescriptor (TX4 k).2.2.1 = some (tyX4 k) := by decide +kernel
abbrev cX4_init : ByteArray := prog_6_method_1_code
def yX4_init : MethodName := ⟨RX4, "<init>", "()V"⟩
abbrev cX4_add : ByteArray := prog_6_method_2_code
def yX4_add : MethodName := ⟨RX4, "add", "(I)Z"⟩
abbrev cX4_readInto : ByteArray := prog_6_method_3_code
def yX4_readInto : MethodName := ⟨RX4, "readInto", "(LTowerPrisoner$Told;)I"⟩
abbrev cX4_begin : ByteArray := prog_6_method_4_code
def yX4_begin : MethodName := ⟨RX4, "begin", "(LTowerPrisoner$Told;)V"⟩
abbrev cX4_readDay : ByteArray := prog_6_method_5_code
def yX4_readDay : MethodName := ⟨RX4, "readDay", "(LTowerPrisoner$Told;)V"⟩
abbrev cX4_readBribe : ByteArray := prog_6_method_6_code
def yX4_readBribe : MethodName := ⟨RX4, "readBribe", "(LTowerPrisoner$Told;)V"⟩
abbrev cX4_readTrade : ByteArray := prog_6_method_7_code
def yX4_readTrade : MethodName := ⟨RX4, "readTrade", "(LTowerPrisoner$Told;)V"⟩
abbrev cX4_readRest : ByteArray := prog_6_method_8_code
def yX4_readRest : MethodName := ⟨RX4, "readRest", "(LTowerPrisoner$Told;)V"⟩
abbrev cX4_readLimit : ByteArray := prog_6_method_9_code
def yX4_readLimit : MethodName := ⟨RX4, "readLimit", "(LTowerPrisoner$Told;)V"⟩
abbrev cX4_readAdded : ByteArray := prog_6_method_10_code
def yX4_readAdded : MethodName := ⟨RX4, "readAdded", "(LTowerPrisoner$Told;)V"⟩
abbrev cX4_refuseIf : ByteArray := prog_6_method_11_code
def yX4_refuseIf : MethodName := ⟨RX4, "refuseIf", "(Z)V"⟩
abbrev cX4_number : ByteArray := prog_6_method_12_code
def yX4_number : MethodName := ⟨RX4, "number", "(II)I"⟩
abbrev cX4_stops : ByteArray := prog_6_method_13_code
def yX4_stops : MethodName := ⟨RX4, "stops", "()Z"⟩
abbrev cX4_nextToken : ByteArray := prog_6_method_14_code
def yX4_nextToken : MethodName := ⟨RX4, "nextToken", "()V"⟩
abbrev cX4_takeLetters : ByteArray := prog_6_method_15_code
def yX4_takeLetters : MethodName := ⟨RX4, "takeLetters", "(I)V"⟩
abbrev cX4_takeNumber : ByteArray := prog_6_method_16_code
def yX4_takeNumber : MethodName := ⟨RX4, "takeNumber", "(I)V"⟩
abbrev cX4_byteAt : ByteArray := prog_6_method_17_code
def yX4_byteAt : MethodName := ⟨RX4, "byteAt", "(I)I"⟩
abbrev cX4_isLetter : ByteArray := prog_6_method_18_code
def yX4_isLetter : MethodName := ⟨RX4, "isLetter", "(I)Z"⟩
abbrev cX4_isDigit : ByteArray := prog_6_method_19_code
def yX4_isDigit : MethodName := ⟨RX4, "isDigit", "(I)Z"⟩
def RX5 : String := "TowerPrisoner$Told"
def TX5 : u_T := fun k => match k with
  | 0 => ("TowerPrisoner$Told", "suns", "[I", true)
  | 1 => ("TowerPrisoner$Told", "bribes", "[I", true)
  | 2 => ("TowerPrisoner$Told", "trades", "[I", true)
  | 3 => ("TowerPrisoner$Told", "days", "I", false)
  | 4 => ("TowerPrisoner$Told", "bribesTold", "I", false)
  | 5 => ("TowerPrisoner$Told", "tradesTold", "I", false)
  | 6 => ("TowerPrisoner$Told", "rest", "I", false)
  | 7 => ("TowerPrisoner$Told", "limit", "I", false)
  | _ => ("TowerPrisoner$Told", "added", "I", false)
def tyX5 : Nat → FieldType := fun k => match k with
  | 0 => .array .int
  | 1 => .array .int
  | 2 => .array .int
  | 3 => .int
  | 4 => .int
  | 5 => .int
  | 6 => .int
  | 7 => .int
  | _ => .int
abbrev wsX50 : List Cond := u_ws RX5 TX5 9
theorem nmX5 : ∀ a, a < 9 → ∀ b, b < 9 → a ≠ b → (TX5 a).2.1 ≠ (TX5 b).2.1 := by decide +kernel
theorem tyX5_ok : ∀ k, k < 9 → parseFieldDescriptor (TX5 k).2.2.1 = some (tyX5 k) := by decide +kernel
abbrev cX5_init : ByteArray := prog_7_method_1_code
def yX5_init : MethodName := ⟨RX5, "<init>", "()V"⟩
abbrev cX5_wipe : ByteArray := prog_7_method_2_code
def yX5_wipe : MethodName := ⟨RX5, "wipe", "()V"⟩
abbrev cX5_hasTrade : ByteArray := prog_7_method_3_code
def yX5_hasTrade : MethodName := ⟨RX5, "hasTrade", "(I)Z"⟩
abbrev cX5_sunOf : ByteArray := prog_7_method_4_code
def yX5_sunOf : MethodName := ⟨RX5, "sunOf", "(I)I"⟩
abbrev cX5_ofBribe : ByteArray := prog_7_method_5_code
def yX5_ofBribe : MethodName := ⟨RX5, "ofBribe", "(II)I"⟩
abbrev cX5_ofTrade : ByteArray := prog_7_method_6_code
def yX5_ofTrade : MethodName := ⟨RX5, "ofTrade", "(II)I"⟩
abbrev cX5_addDay : ByteArray := prog_7_method_7_code
def yX5_addDay : MethodName := ⟨RX5, "addDay", "(I)V"⟩
abbrev cX5_addBribe : ByteArray := prog_7_method_8_code
def yX5_addBribe : MethodName := ⟨RX5, "addBribe", "(IIII)V"⟩
abbrev cX5_addTrade : ByteArray := prog_7_method_9_code
def yX5_addTrade : MethodName := ⟨RX5, "addTrade", "(II)V"⟩
abbrev cX5_candlesFor : ByteArray := prog_7_method_10_code
def yX5_candlesFor : MethodName := ⟨RX5, "candlesFor", "(II)I"⟩
abbrev cX5_harmTo : ByteArray := prog_7_method_11_code
def yX5_harmTo : MethodName := ⟨RX5, "harmTo", "(II)I"⟩
abbrev cX5_harmToAll : ByteArray := prog_7_method_12_code
def yX5_harmToAll : MethodName := ⟨RX5, "harmToAll", "(I)I"⟩
def RX6 : String := "TowerPrisoner"
def TX6 : u_T := fun k => match k with
  | 0 => ("TowerPrisoner", "text", "LTowerPrisoner$Text;", true)
  | 1 => ("TowerPrisoner", "told", "LTowerPrisoner$Told;", false)
  | 2 => ("TowerPrisoner", "spare", "LTowerPrisoner$Told;", false)
  | 3 => ("TowerPrisoner", "story", "LTowerPrisoner$Story;", true)
  | 4 => ("TowerPrisoner", "firstImage", "LTowerPrisoner$Story;", true)
  | 5 => ("TowerPrisoner", "secondImage", "LTowerPrisoner$Story;", true)
  | 6 => ("TowerPrisoner", "plan", "LTowerPrisoner$Plan;", true)
  | 7 => ("TowerPrisoner", "odds", "LTowerPrisoner$Odds;", true)
  | 8 => ("TowerPrisoner", "hearsay", "LTowerPrisoner$Hearsay;", true)
  | _ => ("TowerPrisoner", "asked", "J", false)
def tyX6 : Nat → FieldType := fun k => match k with
  | 0 => .object "TowerPrisoner$Text"
  | 1 => .object "TowerPrisoner$Told"
  | 2 => .object "TowerPrisoner$Told"
  | 3 => .object "TowerPrisoner$Story"
  | 4 => .object "TowerPrisoner$Story"
  | 5 => .object "TowerPrisoner$Story"
  | 6 => .object "TowerPrisoner$Plan"
  | 7 => .object "TowerPrisoner$Odds"
  | 8 => .object "TowerPrisoner$Hearsay"
  | _ => .long
abbrev wsX60 : List Cond := u_ws RX6 TX6 10
theorem nmX6 : ∀ a, a < 10 → ∀ b, b < 10 → a ≠ b → (TX6 a).2.1 ≠ (TX6 b).2.1 := by decide +kernel
theorem tyX6_ok : ∀ k, k < 10 → parseFieldDescriptor (TX6 k).2.2.1 = some (tyX6 k) := by decide +kernel
abbrev cX6_init : ByteArray := prog_1_method_1_code
def yX6_init : MethodName := ⟨RX6, "<init>", "()V"⟩
abbrev cX6_type : ByteArray := prog_1_method_2_code
def yX6_type : MethodName := ⟨RX6, "type", "(I)I"⟩
abbrev cX6_clear : ByteArray := prog_1_method_3_code
def yX6_clear : MethodName := ⟨RX6, "clear", "()I"⟩
abbrev cX6_sentence : ByteArray := prog_1_method_4_code
def yX6_sentence : MethodName := ⟨RX6, "sentence", "()I"⟩
abbrev cX6_sun : ByteArray := prog_1_method_5_code
def yX6_sun : MethodName := ⟨RX6, "sun", "(I)I"⟩
abbrev cX6_bribe : ByteArray := prog_1_method_6_code
def yX6_bribe : MethodName := ⟨RX6, "bribe", "(II)I"⟩
abbrev cX6_trade : ByteArray := prog_1_method_7_code
def yX6_trade : MethodName := ⟨RX6, "trade", "(II)I"⟩
abbrev cX6_winds : ByteArray := prog_1_method_8_code
def yX6_winds : MethodName := ⟨RX6, "winds", "(II)I"⟩
abbrev cX6_watches : ByteArray := prog_1_method_9_code
def yX6_watches : MethodName := ⟨RX6, "watches", "()I"⟩
abbrev cX6_pays : ByteArray := prog_1_method_10_code
def yX6_pays : MethodName := ⟨RX6, "pays", "(II)I"⟩
abbrev cX6_corrects : ByteArray := prog_1_method_11_code
def yX6_corrects : MethodName := ⟨RX6, "corrects", "(I)I"⟩
abbrev cX6_undo : ByteArray := prog_1_method_12_code
def yX6_undo : MethodName := ⟨RX6, "undo", "()I"⟩
abbrev cX6_now : ByteArray := prog_1_method_13_code
def yX6_now : MethodName := ⟨RX6, "now", "(I)I"⟩
abbrev cX6_soonest : ByteArray := prog_1_method_14_code
def yX6_soonest : MethodName := ⟨RX6, "soonest", "()I"⟩
abbrev cX6_chance : ByteArray := prog_1_method_15_code
def yX6_chance : MethodName := ⟨RX6, "chance", "(II)I"⟩
abbrev cX6_safe : ByteArray := prog_1_method_16_code
def yX6_safe : MethodName := ⟨RX6, "safe", "(I)I"⟩
abbrev cX6_least : ByteArray := prog_1_method_17_code
def yX6_least : MethodName := ⟨RX6, "least", "(II)I"⟩
abbrev cX6_catches : ByteArray := prog_1_method_18_code
def yX6_catches : MethodName := ⟨RX6, "catches", "(I)I"⟩
abbrev cX6_hears : ByteArray := prog_1_method_19_code
def yX6_hears : MethodName := ⟨RX6, "hears", "(III)I"⟩
abbrev cX6_forget : ByteArray := prog_1_method_20_code
def yX6_forget : MethodName := ⟨RX6, "forget", "()I"⟩
abbrev cX6_could : ByteArray := prog_1_method_21_code
def yX6_could : MethodName := ⟨RX6, "could", "(I)I"⟩
abbrev cX6_ways : ByteArray := prog_1_method_22_code
def yX6_ways : MethodName := ⟨RX6, "ways", "()I"⟩
abbrev cX6_ask : ByteArray := prog_1_method_23_code
def yX6_ask : MethodName := ⟨RX6, "ask", "()I"⟩
abbrev cX6_mark : ByteArray := prog_1_method_24_code
def yX6_mark : MethodName := ⟨RX6, "mark", "(II)I"⟩
abbrev cX6_keep : ByteArray := prog_1_method_25_code
def yX6_keep : MethodName := ⟨RX6, "keep", "(I)I"⟩
abbrev cX6_back : ByteArray := prog_1_method_26_code
def yX6_back : MethodName := ⟨RX6, "back", "(I)I"⟩
abbrev cX6_count : ByteArray := prog_1_method_27_code
def yX6_count : MethodName := ⟨RX6, "count", "(I)I"⟩
abbrev cX6_trace : ByteArray := prog_1_method_28_code
def yX6_trace : MethodName := ⟨RX6, "trace", "()J"⟩
abbrev cX6_asTrade : ByteArray := prog_1_method_29_code
def yX6_asTrade : MethodName := ⟨RX6, "asTrade", "(I)I"⟩
abbrev cX6_asBaker : ByteArray := prog_1_method_30_code
def yX6_asBaker : MethodName := ⟨RX6, "asBaker", "(I)I"⟩
abbrev cX6_asCourt : ByteArray := prog_1_method_31_code
def yX6_asCourt : MethodName := ⟨RX6, "asCourt", "(I)I"⟩
abbrev cX6_asSweetheart : ByteArray := prog_1_method_32_code
def yX6_asSweetheart : MethodName := ⟨RX6, "asSweetheart", "(I)I"⟩
abbrev cX6_asWife : ByteArray := prog_1_method_33_code
def yX6_asWife : MethodName := ⟨RX6, "asWife", "(I)I"⟩
abbrev cX6_asHen : ByteArray := prog_1_method_34_code
def yX6_asHen : MethodName := ⟨RX6, "asHen", "(I)I"⟩
abbrev cX6_isPace : ByteArray := prog_1_method_35_code
def yX6_isPace : MethodName := ⟨RX6, "isPace", "(I)Z"⟩
abbrev cX6_isBeyond : ByteArray := prog_1_method_36_code
def yX6_isBeyond : MethodName := ⟨RX6, "isBeyond", "(I)Z"⟩
def RX7 : String := "TowerPrisonerModel"
def TX7 : u_T := fun k => match k with
  | 0 => ("TowerPrisonerModel", "days", "I", false)
  | 1 => ("TowerPrisonerModel", "suns", "[I", true)
  | 2 => ("TowerPrisonerModel", "bribes", "I", false)
  | 3 => ("TowerPrisonerModel", "bribe", "[I", true)
  | 4 => ("TowerPrisonerModel", "trades", "I", false)
  | 5 => ("TowerPrisonerModel", "trade", "[I", true)
  | 6 => ("TowerPrisonerModel", "limit", "I", false)
  | 7 => ("TowerPrisonerModel", "added", "I", false)
  | 8 => ("TowerPrisonerModel", "st", "[I", true)
  | 9 => ("TowerPrisonerModel", "images", "[I", true)
  | 10 => ("TowerPrisonerModel", "isKept", "[Z", true)
  | 11 => ("TowerPrisonerModel", "heardMany", "I", false)
  | 12 => ("TowerPrisonerModel", "heard", "[I", true)
  | 13 => ("TowerPrisonerModel", "trace", "J", false)
  | 14 => ("TowerPrisonerModel", "text", "[I", true)
  | 15 => ("TowerPrisonerModel", "texted", "I", false)
  | 16 => ("TowerPrisonerModel", "cursor", "I", false)
  | 17 => ("TowerPrisonerModel", "start", "I", false)
  | 18 => ("TowerPrisonerModel", "token", "I", false)
  | 19 => ("TowerPrisonerModel", "number", "I", false)
  | 20 => ("TowerPrisonerModel", "isWrong", "Z", false)
  | 21 => ("TowerPrisonerModel", "items", "I", false)
  | 22 => ("TowerPrisonerModel", "saidDays", "I", false)
  | 23 => ("TowerPrisonerModel", "saidSun", "[I", true)
  | 24 => ("TowerPrisonerModel", "saidBribes", "I", false)
  | 25 => ("TowerPrisonerModel", "saidBribe", "[I", true)
  | 26 => ("TowerPrisonerModel", "saidTrades", "I", false)
  | 27 => ("TowerPrisonerModel", "saidTrade", "[I", true)
  | 28 => ("TowerPrisonerModel", "saidRest", "I", false)
  | 29 => ("TowerPrisonerModel", "saidLimit", "I", false)
  | 30 => ("TowerPrisonerModel", "saidAdded", "I", false)
  | 31 => ("TowerPrisonerModel", "worth", "[I", true)
  | 32 => ("TowerPrisonerModel", "then", "[I", true)
  | 33 => ("TowerPrisonerModel", "come", "[I", true)
  | _ => ("TowerPrisonerModel", "go", "[I", true)
def tyX7 : Nat → FieldType := fun k => match k with
  | 0 => .int
  | 1 => .array .int
  | 2 => .int
  | 3 => .array .int
  | 4 => .int
  | 5 => .array .int
  | 6 => .int
  | 7 => .int
  | 8 => .array .int
  | 9 => .array .int
  | 10 => .array .boolean
  | 11 => .int
  | 12 => .array .int
  | 13 => .long
  | 14 => .array .int
  | 15 => .int
  | 16 => .int
  | 17 => .int
  | 18 => .int
  | 19 => .int
  | 20 => .boolean
  | 21 => .int
  | 22 => .int
  | 23 => .array .int
  | 24 => .int
  | 25 => .array .int
  | 26 => .int
  | 27 => .array .int
  | 28 => .int
  | 29 => .int
  | 30 => .int
  | 31 => .array .int
  | 32 => .array .int
  | 33 => .array .int
  | _ => .array .int
abbrev wsX70 : List Cond := u_ws RX7 TX7 35
theorem nmX7 : ∀ a, a < 35 → ∀ b, b < 35 → a ≠ b → (TX7 a).2.1 ≠ (TX7 b).2.1 := by decide +kernel
theorem tyX7_ok : ∀ k, k < 35 → parseFieldDescriptor (TX7 k).2.2.1 = some (tyX7 k) := by decide +kernel
abbrev cX7_init : ByteArray := prog_9_method_1_code
def yX7_init : MethodName := ⟨RX7, "<init>", "()V"⟩
abbrev cX7_in : ByteArray := prog_9_method_3_code
def yX7_in : MethodName := ⟨RX7, "in", "(III)Z"⟩
abbrev cX7_size : ByteArray := prog_9_method_5_code
def yX7_size : MethodName := ⟨RX7, "size", "(I)I"⟩
abbrev cX7_isTrade : ByteArray := prog_9_method_6_code
def yX7_isTrade : MethodName := ⟨RX7, "isTrade", "(I)Z"⟩
abbrev cX7_isPace : ByteArray := prog_9_method_7_code
def yX7_isPace : MethodName := ⟨RX7, "isPace", "(I)Z"⟩
abbrev cX7_type : ByteArray := prog_9_method_8_code
def yX7_type : MethodName := ⟨RX7, "type", "(I)I"⟩
abbrev cX7_clear : ByteArray := prog_9_method_9_code
def yX7_clear : MethodName := ⟨RX7, "clear", "()I"⟩
abbrev cX7_letterAt : ByteArray := prog_9_method_10_code
def yX7_letterAt : MethodName := ⟨RX7, "letterAt", "(I)I"⟩
abbrev cX7_isFigure : ByteArray := prog_9_method_11_code
def yX7_isFigure : MethodName := ⟨RX7, "isFigure", "(I)Z"⟩
abbrev cX7_isLetter : ByteArray := prog_9_method_12_code
def yX7_isLetter : MethodName := ⟨RX7, "isLetter", "(I)Z"⟩
abbrev cX7_next : ByteArray := prog_9_method_13_code
def yX7_next : MethodName := ⟨RX7, "next", "()V"⟩
abbrev cX7_takesNumber : ByteArray := prog_9_method_14_code
def yX7_takesNumber : MethodName := ⟨RX7, "takesNumber", "(II)I"⟩
abbrev cX7_readBribe : ByteArray := prog_9_method_15_code
def yX7_readBribe : MethodName := ⟨RX7, "readBribe", "()V"⟩
abbrev cX7_mayBegin : ByteArray := prog_9_method_16_code
def yX7_mayBegin : MethodName := ⟨RX7, "mayBegin", "(I)Z"⟩
abbrev cX7_readBody : ByteArray := prog_9_method_17_code
def yX7_readBody : MethodName := ⟨RX7, "readBody", "(I)V"⟩
abbrev cX7_readItem : ByteArray := prog_9_method_18_code
def yX7_readItem : MethodName := ⟨RX7, "readItem", "()V"⟩
abbrev cX7_sentence : ByteArray := prog_9_method_19_code
def yX7_sentence : MethodName := ⟨RX7, "sentence", "()I"⟩
abbrev cX7_settles : ByteArray := prog_9_method_20_code
def yX7_settles : MethodName := ⟨RX7, "settles", "()V"⟩
abbrev cX7_sun : ByteArray := prog_9_method_21_code
def yX7_sun : MethodName := ⟨RX7, "sun", "(I)I"⟩
abbrev cX7_bribe : ByteArray := prog_9_method_22_code
def yX7_bribe : MethodName := ⟨RX7, "bribe", "(II)I"⟩
abbrev cX7_trade : ByteArray := prog_9_method_23_code
def yX7_trade : MethodName := ⟨RX7, "trade", "(II)I"⟩
abbrev cX7_isOver : ByteArray := prog_9_method_24_code
def yX7_isOver : MethodName := ⟨RX7, "isOver", "()Z"⟩
abbrev cX7_isFree : ByteArray := prog_9_method_25_code
def yX7_isFree : MethodName := ⟨RX7, "isFree", "()Z"⟩
abbrev cX7_isDone : ByteArray := prog_9_method_26_code
def yX7_isDone : MethodName := ⟨RX7, "isDone", "()Z"⟩
abbrev cX7_candlesBy : ByteArray := prog_9_method_27_code
def yX7_candlesBy : MethodName := ⟨RX7, "candlesBy", "(II)I"⟩
abbrev cX7_harmOf : ByteArray := prog_9_method_28_code
def yX7_harmOf : MethodName := ⟨RX7, "harmOf", "(II)I"⟩
abbrev cX7_harmBy : ByteArray := prog_9_method_29_code
def yX7_harmBy : MethodName := ⟨RX7, "harmBy", "(I)I"⟩
abbrev cX7_lesser : ByteArray := prog_9_method_30_code
def yX7_lesser : MethodName := ⟨RX7, "lesser", "(II)I"⟩
abbrev cX7_restBehind : ByteArray := prog_9_method_31_code
def yX7_restBehind : MethodName := ⟨RX7, "restBehind", "(II)I"⟩
abbrev cX7_remembers : ByteArray := prog_9_method_32_code
def yX7_remembers : MethodName := ⟨RX7, "remembers", "()V"⟩
abbrev cX7_checks : ByteArray := prog_9_method_33_code
def yX7_checks : MethodName := ⟨RX7, "checks", "()I"⟩
abbrev cX7_winds : ByteArray := prog_9_method_34_code
def yX7_winds : MethodName := ⟨RX7, "winds", "(II)I"⟩
abbrev cX7_watches : ByteArray := prog_9_method_35_code
def yX7_watches : MethodName := ⟨RX7, "watches", "()I"⟩
abbrev cX7_pays : ByteArray := prog_9_method_36_code
def yX7_pays : MethodName := ⟨RX7, "pays", "(II)I"⟩
abbrev cX7_corrects : ByteArray := prog_9_method_37_code
def yX7_corrects : MethodName := ⟨RX7, "corrects", "(I)I"⟩
abbrev cX7_undo : ByteArray := prog_9_method_38_code
def yX7_undo : MethodName := ⟨RX7, "undo", "()I"⟩
abbrev cX7_now : ByteArray := prog_9_method_39_code
def yX7_now : MethodName := ⟨RX7, "now", "(I)I"⟩
abbrev cX7_at : ByteArray := prog_9_method_40_code
def yX7_at : MethodName := ⟨RX7, "at", "(II)I"⟩
abbrev cX7_worthBy : ByteArray := prog_9_method_41_code
def yX7_worthBy : MethodName := ⟨RX7, "worthBy", "(IIIII)I"⟩
abbrev cX7_mayTurn : ByteArray := prog_9_method_42_code
def yX7_mayTurn : MethodName := ⟨RX7, "mayTurn", "(II)Z"⟩
abbrev cX7_bestOf : ByteArray := prog_9_method_43_code
def yX7_bestOf : MethodName := ⟨RX7, "bestOf", "(IIII)I"⟩
abbrev cX7_findWorths : ByteArray := prog_9_method_44_code
def yX7_findWorths : MethodName := ⟨RX7, "findWorths", "(II)V"⟩
abbrev cX7_paceBy : ByteArray := prog_9_method_45_code
def yX7_paceBy : MethodName := ⟨RX7, "paceBy", "(I)I"⟩
abbrev cX7_daysOf : ByteArray := prog_9_method_46_code
def yX7_daysOf : MethodName := ⟨RX7, "daysOf", "(I)I"⟩
abbrev cX7_soonest : ByteArray := prog_9_method_47_code
def yX7_soonest : MethodName := ⟨RX7, "soonest", "()I"⟩
abbrev cX7_lowest : ByteArray := prog_9_method_48_code
def yX7_lowest : MethodName := ⟨RX7, "lowest", "(III)I"⟩
abbrev cX7_chance : ByteArray := prog_9_method_49_code
def yX7_chance : MethodName := ⟨RX7, "chance", "(II)I"⟩
abbrev cX7_safe : ByteArray := prog_9_method_50_code
def yX7_safe : MethodName := ⟨RX7, "safe", "(I)I"⟩
abbrev cX7_least : ByteArray := prog_9_method_51_code
def yX7_least : MethodName := ⟨RX7, "least", "(II)I"⟩
abbrev cX7_catches : ByteArray := prog_9_method_52_code
def yX7_catches : MethodName := ⟨RX7, "catches", "(I)I"⟩
abbrev cX7_hears : ByteArray := prog_9_method_53_code
def yX7_hears : MethodName := ⟨RX7, "hears", "(III)I"⟩
abbrev cX7_forget : ByteArray := prog_9_method_54_code
def yX7_forget : MethodName := ⟨RX7, "forget", "()I"⟩
abbrev cX7_isHeard : ByteArray := prog_9_method_55_code
def yX7_isHeard : MethodName := ⟨RX7, "isHeard", "(II)Z"⟩
abbrev cX7_comeTo : ByteArray := prog_9_method_56_code
def yX7_comeTo : MethodName := ⟨RX7, "comeTo", "(II)I"⟩
abbrev cX7_goFrom : ByteArray := prog_9_method_57_code
def yX7_goFrom : MethodName := ⟨RX7, "goFrom", "(II)I"⟩
abbrev cX7_findHeard : ByteArray := prog_9_method_58_code
def yX7_findHeard : MethodName := ⟨RX7, "findHeard", "(Z)V"⟩
abbrev cX7_couldOf : ByteArray := prog_9_method_59_code
def yX7_couldOf : MethodName := ⟨RX7, "couldOf", "(I)I"⟩
abbrev cX7_could : ByteArray := prog_9_method_60_code
def yX7_could : MethodName := ⟨RX7, "could", "(I)I"⟩
abbrev cX7_ways : ByteArray := prog_9_method_61_code
def yX7_ways : MethodName := ⟨RX7, "ways", "()I"⟩
abbrev cX7_ask : ByteArray := prog_9_method_62_code
def yX7_ask : MethodName := ⟨RX7, "ask", "()I"⟩
abbrev cX7_mark : ByteArray := prog_9_method_63_code
def yX7_mark : MethodName := ⟨RX7, "mark", "(II)I"⟩
abbrev cX7_keep : ByteArray := prog_9_method_64_code
def yX7_keep : MethodName := ⟨RX7, "keep", "(I)I"⟩
abbrev cX7_back : ByteArray := prog_9_method_65_code
def yX7_back : MethodName := ⟨RX7, "back", "(I)I"⟩
abbrev cX7_count : ByteArray := prog_9_method_66_code
def yX7_count : MethodName := ⟨RX7, "count", "(I)I"⟩
abbrev cX7_trace : ByteArray := prog_9_method_67_code
def yX7_trace : MethodName := ⟨RX7, "trace", "()J"⟩
def RJ6 : String := "java/lang/Integer"
abbrev cJ6_bitCount_0f7a4 : ByteArray := prog_10_method_49_code
def yJ6_bitCount_0f7a4 : MethodName := ⟨RJ6, "bitCount", "(I)I"⟩
def RJ9 : String := "java/lang/Math"
abbrev cJ9_abs_0f7a4 : ByteArray := prog_11_method_59_code
def yJ9_abs_0f7a4 : MethodName := ⟨RJ9, "abs", "(I)I"⟩
abbrev cJ9_max_7cf53 : ByteArray := prog_11_method_65_code
def yJ9_max_7cf53 : MethodName := ⟨RJ9, "max", "(II)I"⟩
abbrev cJ9_min_7cf53 : ByteArray := prog_11_method_69_code
def yJ9_min_7cf53 : MethodName := ⟨RJ9, "min", "(II)I"⟩
def RJ10 : String := "java/lang/System"
def RL : String := "TowerPrisonerLaw"
end
section
/-! THE SMALL MACHINE: whole numbers instead of words, a heap as a list of cells, one method's instructions run till a jump, a call, a return. -/
/-- the words of the tables that a callee may keep -/
def mtb : List Jvm.Cond := lw_tbl.filter goodWord
theorem mtb_in {w : Jvm.Cond} (h : w ∈ lw_tbl) (g : goodWord w = true) : w ∈ mtb := List.mem_filter.mpr ⟨h, g⟩
abbrev mV : Type := Int ⊕ (Int ⊕ Option Nat)
abbrev mC : Type := (Nat × List mV) ⊕ (Bool × Nat × (Nat → Int))
abbrev mH : Type := List mC
abbrev mL : Type := List (Option mV)
abbrev mI : Type := Instr × Nat × Nat
def iN (z : Int) : Int32 := Int32.ofInt z
def jN (z : Int) : Int64 := Int64.ofInt z
abbrev inI (z : Int) : Prop := -2147483648 ≤ z ∧ z ≤ 2147483647
abbrev inJ (z : Int) : Prop := 0 ≤ z ∧ z < 9223372036854775808
abbrev mi (z : Int) : mV := .inl z
abbrev ml (z : Int) : mV := .inr (.inl z)
abbrev mr (k : Nat) : mV := .inr (.inr (some k))
def cV (ad : Nat → Nat) : mV → Value
  | .inl z => .int (iN z)
  | .inr (.inl z) => .long (jN z)
  | .inr (.inr none) => .null
  | .inr (.inr (some k)) => .ref (ad k)
def cC (ad : Nat → Nat) (cI cZ : ClassId) : mC → va_E
  | .inl (ci, fs) => .inr (ci, fs.map (cV ad))
  | .inr (b, n, f) => .inl (cond b cZ cI, n, .inl (fun j => iN (f j)))
def cW (ad : Nat → Nat) (cI cZ : ClassId) (h : mH) : va_W := h.mapIdx (fun k c => (ad k, cC ad cI cZ c))
def mup (f : Nat → Int) (k : Nat) (v : Int) : Nat → Int := fun j => if j = k then v else f j
/-! numbers -/
theorem iN_add (a b : Int) : iN a + iN b = iN (a + b) := (Int32.ofInt_add a b).symm
theorem iN_sub (a b : Int) : iN a - iN b = iN (a - b) := (Int32.ofInt_sub a b).symm
theorem iN_mul (a b : Int) : iN a * iN b = iN (a * b) := (Int32.ofInt_mul a b).symm
theorem iN_neg (a : Int) : -iN a = iN (-a) := Int32.neg_ofInt
theorem iN_t {a : Int} (h : inI a) : (iN a).toInt = a := Int32.toInt_ofInt_of_le h.1 (by have := h.2; omega)
theorem iN_x (x : Int32) : iN x.toInt = x := Int32.ofInt_toInt x
theorem iN_n (n : Nat) : iN (n : Int) = nI n := Int32.ofInt_eq_ofNat
theorem iN_of {a : Int} (h : 0 ≤ a) : iN a = nI a.toNat := by
  have e : ((a.toNat : Nat) : Int) = a := Int.toNat_of_nonneg h
  rw [← iN_n, e]
theorem iN_cl {a : Int} (h : inI a) : (iN a).toNatClampNeg = a.toNat := by
  rw [← Int32.toNat_toInt, iN_t h]
theorem iN_lt {a b : Int} (ha : inI a) (hb : inI b) : iN a < iN b ↔ a < b := by
  rw [Int32.lt_iff_toInt_lt, iN_t ha, iN_t hb]
theorem iN_le {a b : Int} (ha : inI a) (hb : inI b) : iN a ≤ iN b ↔ a ≤ b := by
  rw [Int32.le_iff_toInt_le, iN_t ha, iN_t hb]
theorem iN_eq {a b : Int} (ha : inI a) (hb : inI b) : iN a = iN b ↔ a = b := by
  constructor
  · intro h
    have := congrArg Int32.toInt h
    rwa [iN_t ha, iN_t hb] at this
  · intro h; rw [h]
theorem iN_0 : iN 0 = 0 := rfl
theorem iN_in {i : Int} {n : Nat} (h0 : 0 ≤ i) (h1 : i < n) (hn : n < 65536) : vp_in (iN i) n ∧ (iN i).toNatClampNeg = i.toNat := by
  have hI : inI i := ⟨by omega, by omega⟩
  refine ⟨fun q => ?_, iN_cl hI⟩
  rcases q with q | q
  · rw [← iN_0, iN_lt hI ⟨by omega, by omega⟩] at q; omega
  · rw [iN_cl hI] at q; omega
theorem iN_div {a b : Int} (ha : 0 ≤ a ∧ a ≤ 2147483647) (hb : 0 < b ∧ b ≤ 2147483647) : iN a / iN b = iN (a / b) := by
  obtain ⟨m, rfl⟩ := Int.eq_ofNat_of_zero_le ha.1
  obtain ⟨n, rfl⟩ := Int.eq_ofNat_of_zero_le (Int.le_of_lt hb.1)
  have e : ((m : Int) / (n : Int)) = ((m / n : Nat) : Int) := rfl
  rw [e, iN_n, iN_n, iN_n]
  exact pk_div (by omega) (by omega) (by omega)
theorem iN_rem {a b : Int} (ha : 0 ≤ a ∧ a ≤ 2147483647) (hb : 0 < b ∧ b ≤ 2147483647) : iN a - iN a / iN b * iN b = iN (a % b) := by
  obtain ⟨m, rfl⟩ := Int.eq_ofNat_of_zero_le ha.1
  obtain ⟨n, rfl⟩ := Int.eq_ofNat_of_zero_le (Int.le_of_lt hb.1)
  have e : ((m : Int) % (n : Int)) = ((m % n : Nat) : Int) := rfl
  rw [e, iN_n, iN_n, iN_n]
  exact pk_rem (by omega) (by omega) (by omega)
theorem iN_ne0 {b : Int} (hb : 0 < b ∧ b ≤ 2147483647) : ¬ iN b = 0 := by
  rw [← iN_0, iN_eq ⟨by omega, by omega⟩ ⟨by omega, by omega⟩]; omega
theorem sN_k : ∀ k, k < 32 → ((nI k &&& 31).toBitVec.smod 32).toNat = k := by decide +kernel
theorem uN_k : ∀ k, k < 32 → (((nI k).toUInt32 &&& Int32.toUInt32 31).toBitVec % 32).toNat = k := by decide +kernel
theorem iN_shl {a s : Int} (ha : 0 ≤ a) (hs : 0 ≤ s ∧ s < 31) (hr : a * (2 : Int) ^ s.toNat ≤ 2147483647) : iN a <<< (iN s &&& 31) = iN (a * (2 : Int) ^ s.toNat) := by
  obtain ⟨m, rfl⟩ := Int.eq_ofNat_of_zero_le ha
  obtain ⟨k, rfl⟩ := Int.eq_ofNat_of_zero_le hs.1
  have e : ((m : Int) * (2 : Int) ^ (k : Int).toNat) = ((m * 2 ^ k : Nat) : Int) := by
    rw [Int.toNat_natCast]; simp
  rw [e] at hr ⊢
  rw [iN_n, iN_n, iN_n]
  exact pk_shlN _ k (sN_k k (by omega)) (by omega)
theorem iN_shr {a s : Int} (ha : 0 ≤ a ∧ a ≤ 2147483647) (hs : 0 ≤ s ∧ s < 31) : iN a >>> (iN s &&& 31) = iN (a / (2 : Int) ^ s.toNat) := by
  obtain ⟨m, rfl⟩ := Int.eq_ofNat_of_zero_le ha.1
  obtain ⟨k, rfl⟩ := Int.eq_ofNat_of_zero_le hs.1
  have e : ((m : Int) / (2 : Int) ^ (k : Int).toNat) = ((m / 2 ^ k : Nat) : Int) := by
    rw [Int.toNat_natCast]; simp
  rw [e, iN_n, iN_n, iN_n]
  exact pk_shrN (by omega) _ k (sN_k k (by omega))
theorem iN_ushr {a s : Int} (ha : 0 ≤ a ∧ a ≤ 2147483647) (hs : 0 ≤ s ∧ s < 31) : ((iN a).toUInt32 >>> ((iN s).toUInt32 &&& Int32.toUInt32 31)).toInt32 = iN (a / (2 : Int) ^ s.toNat) := by
  obtain ⟨m, rfl⟩ := Int.eq_ofNat_of_zero_le ha.1
  obtain ⟨k, rfl⟩ := Int.eq_ofNat_of_zero_le hs.1
  have e : ((m : Int) / (2 : Int) ^ (k : Int).toNat) = ((m / 2 ^ k : Nat) : Int) := by
    rw [Int.toNat_natCast]; simp
  rw [e, iN_n, iN_n, iN_n]
  exact pk_ushrN (by omega) _ k (uN_k k (by omega))
def zand (a b : Int) : Int := ((a.toNat &&& b.toNat : Nat) : Int)
def zor (a b : Int) : Int := ((a.toNat ||| b.toNat : Nat) : Int)
theorem nI_bv (n : Nat) : (nI n).toBitVec = BitVec.ofNat 32 n := rfl
theorem iN_and {a b : Int} (ha : 0 ≤ a) (hb : 0 ≤ b) : iN a &&& iN b = iN (zand a b) := by
  rw [iN_of ha, iN_of hb, zand, iN_n]
  apply Int32.toBitVec.inj
  rw [Int32.toBitVec_and, nI_bv, nI_bv, nI_bv]
  apply BitVec.eq_of_getLsbD_eq
  intro i hi
  simp [hi]
theorem iN_or {a b : Int} (ha : 0 ≤ a) (hb : 0 ≤ b) : iN a ||| iN b = iN (zor a b) := by
  rw [iN_of ha, iN_of hb, zor, iN_n]
  apply Int32.toBitVec.inj
  rw [Int32.toBitVec_or, nI_bv, nI_bv, nI_bv]
  apply BitVec.eq_of_getLsbD_eq
  intro i hi
  simp [hi]
theorem jN_add (a b : Int) : jN a + jN b = jN (a + b) := (Int64.ofInt_add a b).symm
theorem jN_mul (a b : Int) : jN a * jN b = jN (a * b) := (Int64.ofInt_mul a b).symm
theorem jN_n (n : Nat) : jN (n : Int) = lN n := Int64.ofInt_eq_ofNat
theorem jN_i {a : Int} (h : inI a) : (iN a).toInt64 = jN a := by
  show Int32.toInt64 (iN a) = Int64.ofInt a
  rw [← Int64.ofInt_int32ToInt, iN_t h]
theorem jN_t32 {a : Int} (h : inI a) : (jN a).toInt32 = iN a := by
  show Int64.toInt32 (jN a) = Int32.ofInt a
  rw [← Int32.ofInt_int64ToInt, jN, Int64.toInt_ofInt_of_le (by have := h.1; omega) (by have := h.2; omega)]
theorem jN_div {a b : Int} (ha : inJ a) (hb : inJ b) (h0 : 0 < b) : jN a / jN b = jN (a / b) := by
  obtain ⟨m, rfl⟩ := Int.eq_ofNat_of_zero_le ha.1
  obtain ⟨n, rfl⟩ := Int.eq_ofNat_of_zero_le hb.1
  have e : ((m : Int) / (n : Int)) = ((m / n : Nat) : Int) := rfl
  rw [e, jN_n, jN_n, jN_n]
  exact pk_lDiv (by have := ha.2; omega) (by omega) (by have := hb.2; omega)
theorem jN_rem {a b : Int} (ha : inJ a) (hb : inJ b) (h0 : 0 < b) : jN a - jN a / jN b * jN b = jN (a % b) := by
  obtain ⟨m, rfl⟩ := Int.eq_ofNat_of_zero_le ha.1
  obtain ⟨n, rfl⟩ := Int.eq_ofNat_of_zero_le hb.1
  have e : ((m : Int) % (n : Int)) = ((m % n : Nat) : Int) := rfl
  rw [e, jN_n, jN_n, jN_n]
  exact pk_lRem (by have := ha.2; omega) (by omega) (by have := hb.2; omega)
theorem jN_ne0 {b : Int} (hb : inJ b) (h0 : 0 < b) : ¬ jN b = 0 := by
  obtain ⟨n, rfl⟩ := Int.eq_ofNat_of_zero_le hb.1
  intro h
  have h2 : lN n = lN 0 := by rw [← jN_n, h]; rfl
  rw [pk_lEQ (by have := hb.2; omega) (by omega)] at h2
  omega
/-! the world of a heap -/
theorem cW_get {ad : Nat → Nat} {cI cZ : ClassId} {h : mH} {k : Nat} {c : mC} (e : h[k]? = some c) : (cW ad cI cZ h)[k]? = some (ad k, cC ad cI cZ c) := by
  unfold cW
  rw [List.getElem?_mapIdx, e]; rfl
theorem cW_set {ad : Nat → Nat} {cI cZ : ClassId} {h : mH} {k : Nat} {c : mC} : cW ad cI cZ (h.set k c) = (cW ad cI cZ h).set k (ad k, cC ad cI cZ c) := by
  unfold cW
  apply List.ext_getElem?
  intro j
  rw [List.getElem?_mapIdx, List.getElem?_set, List.getElem?_set, List.getElem?_mapIdx, List.length_mapIdx]
  by_cases hj : k = j
  · subst hj
    by_cases hl : k < h.length <;> simp [hl]
  · simp [hj]
theorem cC_arr {ad : Nat → Nat} {cI cZ : ClassId} {b : Bool} {n : Nat} {f : Nat → Int} {i : Nat} {v : Int} : cC ad cI cZ (.inr (b, n, mup f i v)) = .inl (cond b cZ cI, n, .inl (upd (fun j => iN (f j)) i (iN v))) := by
  have e : (fun j => iN (mup f i v j)) = upd (fun j => iN (f j)) i (iN v) := by
    funext j
    show iN (mup f i v j) = if j = i then iN v else iN (f j)
    unfold mup
    by_cases hj : j = i <;> simp [hj]
  show (Sum.inl _ : va_E) = _
  rw [e]
end
section
/-! one instruction; a stretch of them -/
def m1 (st : List mV) (f : Int → List mV → Prop) : Prop := match st with
  | .inl a :: r => f a r
  | _ => False
def m2 (st : List mV) (f : Int → Int → List mV → Prop) : Prop := match st with
  | .inl b :: .inl a :: r => f a b r
  | _ => False
def n1 (st : List mV) (f : Int → List mV → Prop) : Prop := match st with
  | .inr (.inl a) :: r => f a r
  | _ => False
def n2 (st : List mV) (f : Int → Int → List mV → Prop) : Prop := match st with
  | .inr (.inl b) :: .inr (.inl a) :: r => f a b r
  | _ => False
def mclr (L : mL) (i : Nat) : mL := match i with
  | 0 => L
  | k + 1 => match L[k]? with
    | some (some (.inr (.inl _))) => L.set k none
    | _ => L
def mst (L : mL) (i : Nat) (v : mV) : mL := (mclr L i).set i (some v)
def mstl (L : mL) (i : Nat) (v : mV) : mL := ((mclr L i).set (i + 1) none).set i (some v)
def mldi (L : mL) (i : Nat) (f : Int → Prop) : Prop := match L[i]? with
  | some (some (.inl z)) => f z
  | _ => False
def mldl (L : mL) (i : Nat) (f : Int → Prop) : Prop := match L[i]? with
  | some (some (.inr (.inl z))) => f z
  | _ => False
def mlda (L : mL) (i : Nat) (f : Nat → Prop) : Prop := match L[i]? with
  | some (some (.inr (.inr (some z)))) => f z
  | _ => False
def mtsw (pc : Nat) (lo : Int) (z : Int) (g : Nat → Prop) : List Int → Prop
  | [] => True
  | o :: os => (z = lo → g ((pc : Int) + o).toNat) ∧ mtsw pc (lo + 1) z g os
def mlsw (pc : Nat) (z : Int) (g : Nat → Prop) : List (Int × Int) → Prop
  | [] => True
  | o :: os => (z = o.1 → g ((pc : Int) + o.2).toNat) ∧ mlsw pc z g os
def mfit (tg : Nat) (v : mV) : Prop := match tg, v with
  | 0, .inl _ => True
  | 1, .inl z => z = 0 ∨ z = 1
  | 2, .inr (.inl _) => True
  | 3, .inr (.inr (some _)) => True
  | _, _ => False
/-- one instruction: K goes on behind it, G at a place that is jumped to, and where the walk stops -/
def stp (fT : Nat → Option (Nat × Nat × Nat)) (kT kJ : Nat → Option Int) (i : Instr) (tg pc : Nat) (L : mL) (st : List mV) (h : mH) (K : mL → List mV → mH → Prop) (G : Nat → mL → List mV → mH → Prop) : Prop := match i with
  | .iconst n => K L (.inl n :: st) h
  | .bipush n => K L (.inl n :: st) h
  | .sipush n => K L (.inl n :: st) h
  | .ldc x => match kT x with
    | some z => K L (.inl z :: st) h
    | none => False
  | .ldc_w x => match kT x with
    | some z => K L (.inl z :: st) h
    | none => False
  | .lconst n => K L (.inr (.inl ((n : Nat) : Int)) :: st) h
  | .ldc2_w x => match kJ x with
    | some z => K L (.inr (.inl z) :: st) h
    | none => False
  | .iload n => mldi L n fun z => K L (.inl z :: st) h
  | .iload_n n => mldi L n fun z => K L (.inl z :: st) h
  | .lload n => mldl L n fun z => K L (.inr (.inl z) :: st) h
  | .lload_n n => mldl L n fun z => K L (.inr (.inl z) :: st) h
  | .aload n => mlda L n fun z => K L (.inr (.inr (some z)) :: st) h
  | .aload_n n => mlda L n fun z => K L (.inr (.inr (some z)) :: st) h
  | .istore n => m1 st fun a r => K (mst L n (.inl a)) r h
  | .istore_n n => m1 st fun a r => K (mst L n (.inl a)) r h
  | .lstore n => n1 st fun a r => K (mstl L n (.inr (.inl a))) r h
  | .lstore_n n => n1 st fun a r => K (mstl L n (.inr (.inl a))) r h
  | .astore n => match st with
    | .inr (.inr (some a)) :: r => K (mst L n (.inr (.inr (some a)))) r h
    | _ => False
  | .astore_n n => match st with
    | .inr (.inr (some a)) :: r => K (mst L n (.inr (.inr (some a)))) r h
    | _ => False
  | .iinc n d => mldi L n fun z => K (mst L n (.inl (z + d))) st h
  | .iadd => m2 st fun a b r => K L (.inl (a + b) :: r) h
  | .isub => m2 st fun a b r => K L (.inl (a - b) :: r) h
  | .imul => m2 st fun a b r => K L (.inl (a * b) :: r) h
  | .ineg => m1 st fun a r => K L (.inl (-a) :: r) h
  | .idiv => m2 st fun a b r => ((0 ≤ a ∧ a ≤ 2147483647) ∧ 0 < b ∧ b ≤ 2147483647) ∧ K L (.inl (a / b) :: r) h
  | .irem => m2 st fun a b r => ((0 ≤ a ∧ a ≤ 2147483647) ∧ 0 < b ∧ b ≤ 2147483647) ∧ K L (.inl (a % b) :: r) h
  | .ishl => m2 st fun a b r => (0 ≤ a ∧ (0 ≤ b ∧ b < 31) ∧ a * (2 : Int) ^ b.toNat ≤ 2147483647) ∧ K L (.inl (a * (2 : Int) ^ b.toNat) :: r) h
  | .ishr => m2 st fun a b r => ((0 ≤ a ∧ a ≤ 2147483647) ∧ 0 ≤ b ∧ b < 31) ∧ K L (.inl (a / (2 : Int) ^ b.toNat) :: r) h
  | .iushr => m2 st fun a b r => ((0 ≤ a ∧ a ≤ 2147483647) ∧ 0 ≤ b ∧ b < 31) ∧ K L (.inl (a / (2 : Int) ^ b.toNat) :: r) h
  | .iand => m2 st fun a b r => (0 ≤ a ∧ 0 ≤ b) ∧ K L (.inl (zand a b) :: r) h
  | .ior => m2 st fun a b r => (0 ≤ a ∧ 0 ≤ b) ∧ K L (.inl (zor a b) :: r) h
  | .i2l => m1 st fun a r => inI a ∧ K L (.inr (.inl a) :: r) h
  | .l2i => n1 st fun a r => inI a ∧ K L (.inl a :: r) h
  | .ladd => n2 st fun a b r => K L (.inr (.inl (a + b)) :: r) h
  | .lmul => n2 st fun a b r => K L (.inr (.inl (a * b)) :: r) h
  | .ldiv => n2 st fun a b r => (inJ a ∧ inJ b ∧ 0 < b) ∧ K L (.inr (.inl (a / b)) :: r) h
  | .lrem => n2 st fun a b r => (inJ a ∧ inJ b ∧ 0 < b) ∧ K L (.inr (.inl (a % b)) :: r) h
  | .dup => match st with
    | .inl a :: r => K L (.inl a :: .inl a :: r) h
    | .inr (.inr a) :: r => K L (.inr (.inr a) :: .inr (.inr a) :: r) h
    | _ => False
  | .dup2 => match st with
    | .inl b :: .inr (.inr a) :: r => K L (.inl b :: .inr (.inr a) :: .inl b :: .inr (.inr a) :: r) h
    | _ => False
  | .getfield x => match fT x, st with
    | some (ci, k, _), .inr (.inr (some a)) :: r => match h[a]? with
      | some (.inl (cj, fs)) => match fs[k]? with
        | some v => cj = ci ∧ K L (v :: r) h
        | none => False
      | _ => False
    | _, _ => False
  | .putfield x => match fT x, st with
    | some (ci, k, tg), v :: .inr (.inr (some a)) :: r => match h[a]? with
      | some (.inl (cj, fs)) => (cj = ci ∧ k < fs.length ∧ mfit tg v) ∧ K L r (h.set a (.inl (cj, fs.set k v)))
      | _ => False
    | _, _ => False
  | .iaload => match st with
    | .inl i :: .inr (.inr (some a)) :: r => match h[a]? with
      | some (.inr (false, n, f)) => (n < 65536 ∧ 0 ≤ i ∧ i < n) ∧ K L (.inl (f i.toNat) :: r) h
      | _ => False
    | _ => False
  | .iastore => match st with
    | .inl v :: .inl i :: .inr (.inr (some a)) :: r => match h[a]? with
      | some (.inr (false, n, f)) => (n < 65536 ∧ 0 ≤ i ∧ i < n) ∧ K L r (h.set a (.inr (false, n, mup f i.toNat v)))
      | _ => False
    | _ => False
  | .baload => match st with
    | .inl i :: .inr (.inr (some a)) :: r => match h[a]? with
      | some (.inr (true, n, f)) => (n < 65536 ∧ 0 ≤ i ∧ i < n) ∧ K L (.inl (f i.toNat) :: r) h
      | _ => False
    | _ => False
  | .bastore => match st with
    | .inl v :: .inl i :: .inr (.inr (some a)) :: r => match h[a]? with
      | some (.inr (true, n, f)) => ((v = 0 ∨ v = 1) ∧ n < 65536 ∧ 0 ≤ i ∧ i < n) ∧ K L r (h.set a (.inr (true, n, mup f i.toNat v)))
      | _ => False
    | _ => False
  | .arraylength => match st with
    | .inr (.inr (some a)) :: r => match h[a]? with
      | some (.inr (_, n, _)) => n < 65536 ∧ K L (.inl (n : Int) :: r) h
      | _ => False
    | _ => False
  | .goto _ => G tg L st h
  | .ifCond c _ => m1 st fun a r => inI a ∧ (match c with
    | .eq => (a = 0 → G tg L r h) ∧ (¬ a = 0 → K L r h)
    | .ne => (¬ a = 0 → G tg L r h) ∧ (a = 0 → K L r h)
    | .lt => (a < 0 → G tg L r h) ∧ (¬ a < 0 → K L r h)
    | .ge => (0 ≤ a → G tg L r h) ∧ (¬ 0 ≤ a → K L r h)
    | .gt => (0 < a → G tg L r h) ∧ (¬ 0 < a → K L r h)
    | .le => (a ≤ 0 → G tg L r h) ∧ (¬ a ≤ 0 → K L r h))
  | .if_icmp c _ => m2 st fun a b r => (inI a ∧ inI b) ∧ (match c with
    | .eq => (a = b → G tg L r h) ∧ (¬ a = b → K L r h)
    | .ne => (¬ a = b → G tg L r h) ∧ (a = b → K L r h)
    | .lt => (a < b → G tg L r h) ∧ (¬ a < b → K L r h)
    | .ge => (b ≤ a → G tg L r h) ∧ (¬ b ≤ a → K L r h)
    | .gt => (b < a → G tg L r h) ∧ (¬ b < a → K L r h)
    | .le => (a ≤ b → G tg L r h) ∧ (¬ a ≤ b → K L r h))
  | .tableswitch d lo hi os => m1 st fun z r => inI z ∧ (z < lo ∨ hi < z → G ((pc : Int) + d).toNat L r h) ∧ mtsw pc lo z (fun t => G t L r h) os.toList
  | .lookupswitch d ps => m1 st fun z r => inI z ∧ ((∀ q ∈ ps.toList, z ≠ q.1) → G ((pc : Int) + d).toNat L r h) ∧ mlsw pc z (fun t => G t L r h) ps.toList
  | _ => G pc L st h
def blk (fT : Nat → Option (Nat × Nat × Nat)) (kT kJ : Nat → Option Int) (G : Nat → mL → List mV → mH → Prop) : Nat → List mI → mL → List mV → mH → Prop
  | pc, [], L, st, h => G pc L st h
  | pc, (i, len, tg) :: r, L, st, h => stp fT kT kJ i tg pc L st h (fun L st h => blk fT kT kJ G (pc + len) r L st h) G
def sfx : Nat → List mI → Nat → List mI
  | _, [], _ => []
  | pc, (i, len, tg) :: r, t => match Nat.beq pc t with
    | true => (i, len, tg) :: r
    | false => sfx (pc + len) r t
/-- an instruction's length, its goal, its numbers, as the rows want them -/
def sane (nL pc : Nat) (i : Instr) (len tg : Nat) : Bool := match i with
  | .bipush n => len == 2 && decide (-128 ≤ n ∧ n ≤ 127)
  | .sipush n => len == 3 && decide (-32768 ≤ n ∧ n ≤ 32767)
  | .ldc _ => len == 2
  | .ldc2_w _ => len == 3
  | .ldc_w _ => len == 3
  | .iload _ => len == 2
  | .lload _ => len == 2
  | .aload _ => len == 2
  | .istore n => len == 2 && Nat.blt n nL
  | .istore_n n => len == 1 && Nat.blt n nL
  | .lstore n => len == 2 && Nat.blt (n + 1) nL
  | .lstore_n n => len == 1 && Nat.blt (n + 1) nL
  | .astore n => len == 2 && Nat.blt n nL
  | .astore_n n => len == 1 && Nat.blt n nL
  | .iinc n _ => len == 3 && Nat.blt n nL
  | .getfield _ => len == 3
  | .putfield _ => len == 3
  | .goto o => len == 3 && decide ((pc : Int) + o = (tg : Int))
  | .ifCond _ o => len == 3 && decide ((pc : Int) + o = (tg : Int))
  | .if_icmp _ o => len == 3 && decide ((pc : Int) + o = (tg : Int))
  | .tableswitch d lo hi os => decide (0 ≤ (pc : Int) + d ∧ inI lo ∧ inI hi ∧ hi - lo + 1 = os.size ∧ ∀ o ∈ os.toList, 0 ≤ (pc : Int) + o)
  | .lookupswitch d ps => decide (0 ≤ (pc : Int) + d ∧ ∀ o ∈ ps.toList, 0 ≤ (pc : Int) + o.2 ∧ inI o.1) && (ps.toList.zip (ps.toList.drop 1)).all (fun (a, next) => a.1 < next.1)
  | .invokevirtual _ => len == 3
  | .invokespecial _ => len == 3
  | .invokestatic _ => len == 3
  | .new _ => len == 3
  | .newarray _ => len == 2
  | _ => len == 1
def okb (cc : ByteArray) (nL : Nat) : Nat → List mI → Bool
  | _, [] => true
  | pc, (i, len, tg) :: r => decide (decode cc pc = .ok (i, len)) && (sane nL pc i len tg && okb cc nL (pc + len) r)
theorem okb_sfx {cc : ByteArray} {nL t : Nat} : ∀ {pc : Nat} {l : List mI}, okb cc nL pc l = true → okb cc nL t (sfx pc l t) = true
  | _, [], _ => rfl
  | pc, (i, len, tg) :: r, h => by
    unfold sfx
    split
    · rename_i e
      have e := Nat.eq_of_beq_eq_true e
      subst e; exact h
    · simp only [okb, Bool.and_eq_true] at h
      exact okb_sfx h.2.2
theorem okb_head {cc : ByteArray} {nL pc len tg : Nat} {i : Instr} {r : List mI} (h : okb cc nL pc ((i, len, tg) :: r) = true) : decode cc pc = .ok (i, len) ∧ sane nL pc i len tg = true ∧ okb cc nL (pc + len) r = true := by
  simp only [okb, Bool.and_eq_true, decide_eq_true_eq] at h
  exact h
end
section
/-! the locals -/
def mll (ad : Nat → Nat) (L : mL) : List (Nat × Value) := (List.range L.length).filterMap (fun k => match L[k]? with
  | some (some v) => some (k, cV ad v)
  | _ => none)
theorem mem_mll {ad : Nat → Nat} {L : mL} {k : Nat} {w : Value} : (k, w) ∈ mll ad L ↔ ∃ v, L[k]? = some (some v) ∧ w = cV ad v := by
  unfold mll
  rw [List.mem_filterMap]
  constructor
  · rintro ⟨j, -, hj⟩
    split at hj
    · rename_i v hv
      cases hj
      exact ⟨v, hv, rfl⟩
    · cases hj
  · rintro ⟨v, hv, rfl⟩
    refine ⟨k, List.mem_range.mpr (List.getElem?_eq_some_iff.mp hv).1, ?_⟩
    rw [hv]
def mLs (ad : Nat → Nat) (nL : Nat) (ls : Array Slot) (L : mL) : Prop := L.length = nL ∧ lv_has ls nL (mll ad L)
theorem mLs.at {ad : Nat → Nat} {nL : Nat} {ls : Array Slot} {L : mL} (h : mLs ad nL ls L) {k : Nat} {v : mV} (e : L[k]? = some (some v)) : ls[k]? = some (.val (cV ad v)) := h.2.2.2 (k, cV ad v) (mem_mll.mpr ⟨v, e, rfl⟩)
theorem mclr_len {L : mL} {i : Nat} : (mclr L i).length = L.length := by
  unfold mclr
  split
  · rfl
  · split <;> simp
theorem mclr_get {L : mL} {i k : Nat} {w : mV} (hk : k ≠ i) (h : (mclr L i)[k]? = some (some w)) : L[k]? = some (some w) ∧ ¬ (k + 1 = i ∧ ∃ z, w = .inr (.inl z)) := by
  unfold mclr at h
  split at h
  · exact ⟨h, fun q => by omega⟩
  · rename_i j
    split at h
    · rename_i z hz
      rw [List.getElem?_set] at h
      by_cases hj : j = k
      · rw [if_pos hj] at h
        split at h <;> cases h
      · rw [if_neg hj] at h
        exact ⟨h, fun q => hj (by omega)⟩
    · rename_i hz
      refine ⟨h, ?_⟩
      rintro ⟨q, z, rfl⟩
      have e : k = j := by omega
      subst e
      exact hz z h
theorem cV_cat {ad : Nat → Nat} {v : mV} (h : (cV ad v).category = 2) : ∃ z, v = .inr (.inl z) := by
  match v with
  | .inl z => cases h
  | .inr (.inl z) => exact ⟨z, rfl⟩
  | .inr (.inr none) => cases h
  | .inr (.inr (some k)) => cases h
theorem cV_cat1 {ad : Nat → Nat} {v : mV} (h : ∀ z, v ≠ .inr (.inl z)) : (cV ad v).category = 1 := by
  match v with
  | .inl z => rfl
  | .inr (.inl z) => exact absurd rfl (h z)
  | .inr (.inr none) => rfl
  | .inr (.inr (some k)) => rfl
theorem mLs.st1 {ad : Nat → Nat} {nL : Nat} {ls : Array Slot} {L : mL} {i : Nat} {v : mV} (hL : L.length = nL) (h : lv_has ls nL ((i, cV ad v) :: (mll ad L).filter (fun q => !(q.1 == i) && !(q.1 + 1 == i && q.2.category == 2)))) : mLs ad nL ls (mst L i v) := by
  refine ⟨by rw [mst, List.length_set, mclr_len, hL], h.1, h.2.1, ?_⟩
  rintro ⟨k, w⟩ hq
  obtain ⟨x, hx, rfl⟩ := mem_mll.mp hq
  unfold mst at hx
  rw [List.getElem?_set] at hx
  by_cases hk : i = k
  · subst hk
    rw [if_pos rfl] at hx
    split at hx
    · cases hx
      exact h.2.2 (i, cV ad v) List.mem_cons_self
    · cases hx
  · rw [if_neg hk] at hx
    obtain ⟨h1, h2⟩ := mclr_get (fun q => hk q.symm) hx
    refine h.2.2 (k, cV ad x) (List.mem_cons_of_mem _ (List.mem_filter.mpr ⟨mem_mll.mpr ⟨x, h1, rfl⟩, ?_⟩))
    have hk' : ¬ k = i := fun q => hk q.symm
    by_cases hc : (cV ad x).category = 2
    · have h3 : ¬ k + 1 = i := fun q => h2 ⟨q, cV_cat hc⟩
      simp [h3, hk']
    · simp [hc, hk']
theorem mLs.st2 {ad : Nat → Nat} {nL : Nat} {ls : Array Slot} {L : mL} {i : Nat} {v : mV} (hL : L.length = nL) (h : lv_has ls nL ((i, cV ad v) :: (mll ad L).filter (fun q => !(q.1 == i) && (!(q.1 == i + 1) && !(q.1 + 1 == i && q.2.category == 2))))) : mLs ad nL ls (mstl L i v) := by
  refine ⟨by rw [mstl, List.length_set, List.length_set, mclr_len, hL], h.1, h.2.1, ?_⟩
  rintro ⟨k, w⟩ hq
  obtain ⟨x, hx, rfl⟩ := mem_mll.mp hq
  unfold mstl at hx
  rw [List.getElem?_set] at hx
  by_cases hk : i = k
  · subst hk
    rw [if_pos rfl] at hx
    split at hx
    · cases hx
      exact h.2.2 (i, cV ad v) List.mem_cons_self
    · cases hx
  · rw [if_neg hk, List.getElem?_set] at hx
    by_cases hk1 : i + 1 = k
    · rw [if_pos hk1] at hx
      split at hx <;> cases hx
    · rw [if_neg hk1] at hx
      obtain ⟨h1, h2⟩ := mclr_get (fun q => hk q.symm) hx
      refine h.2.2 (k, cV ad x) (List.mem_cons_of_mem _ (List.mem_filter.mpr ⟨mem_mll.mpr ⟨x, h1, rfl⟩, ?_⟩))
      have hk' : ¬ k = i := fun q => hk q.symm
      have hk1' : ¬ k = i + 1 := fun q => hk1 q.symm
      by_cases hc : (cV ad x).category = 2
      · have h3 : ¬ k + 1 = i := fun q => h2 ⟨q, cV_cat hc⟩
        simp [h3, hk', hk1']
      · simp [hc, hk', hk1']
/-- fewer locals -/
def mle : mL → mL → Prop
  | [], [] => True
  | none :: a, _ :: b => mle a b
  | some v :: a, some w :: b => v = w ∧ mle a b
  | _, _ => False
theorem mle_len : ∀ {a b : mL}, mle a b → a.length = b.length
  | [], [], _ => rfl
  | none :: a, _ :: b, h => by rw [List.length_cons, List.length_cons, mle_len (a := a) (b := b) h]
  | some v :: a, some w :: b, h => by rw [List.length_cons, List.length_cons, mle_len (a := a) (b := b) h.2]
theorem mle_get : ∀ {a b : mL}, mle a b → ∀ {k : Nat} {v : mV}, a[k]? = some (some v) → b[k]? = some (some v)
  | [], [], _, k, v, h => by cases h
  | none :: a, _ :: b, h, 0, v, e => by cases e
  | none :: a, _ :: b, h, k + 1, v, e => mle_get (a := a) (b := b) h (k := k) (by simpa using e)
  | some x :: a, some y :: b, h, 0, v, e => by
    obtain ⟨rfl, -⟩ := h
    simpa using e
  | some x :: a, some y :: b, h, k + 1, v, e => by
    have := mle_get (a := a) (b := b) h.2 (k := k) (v := v) (by simpa using e)
    simpa using this
theorem mLs.fewer {ad : Nat → Nat} {nL : Nat} {ls : Array Slot} {L L' : mL} (h : mLs ad nL ls L) (hl : mle L' L) : mLs ad nL ls L' := by
  refine ⟨by rw [mle_len hl]; exact h.1, h.2.1, h.2.2.1, ?_⟩
  rintro ⟨k, w⟩ hq
  obtain ⟨x, hx, rfl⟩ := mem_mll.mp hq
  exact h.at (mle_get hl hx)
end
section
/-! one instruction is sound -/
/-- the eight classes of the system -/
abbrev mcl : List vw_C := [(RX0, TX0, 4), (RX1, TX1, 5), (RX2, TX2, 5), (RX3, TX3, 3), (RX4, TX4, 10), (RX5, TX5, 9), (RX6, TX6, 10), (RX7, TX7, 35)]
def mtys (cI cZ : ClassId) : List (ClassId × FieldType) := [(cI, .int), (cZ, .boolean)]
/-- what a field's number says: its class, its place, its kind -/
def mfok (own : String) (x : Nat) (q : Nat × Nat × Nat) : Prop :=
  ∃ (C : String) (T : u_T) (N : Nat) (t0 : Nat → FieldType) (ty : FieldType), mcl[q.1]? = some (C, T, N) ∧ q.2.1 < N ∧ (∀ w ∈ u_ws C T N, w ∈ mtb) ∧ (∀ k, k < N → parseFieldDescriptor (T k).2.2.1 = some (t0 k)) ∧ (∀ a, a < N → ∀ b, b < N → a ≠ b → (T a).2.1 ≠ (T b).2.1) ∧
    Cond.fieldLink own x (T q.2.1).1 (T q.2.1).2.1 (T q.2.1).2.2.1 ∈ mtb ∧ parseFieldDescriptor (T q.2.1).2.2.1 = some ty ∧
    (match q.2.2 with | 0 => ty = .int ∧ (T q.2.1).2.2.2 = false | 1 => ty = .boolean ∧ (T q.2.1).2.2.2 = false | 2 => ty = .long ∧ (T q.2.1).2.2.2 = false | 3 => ((∃ D, ty = .object D) ∨ ty = .array .int) ∧ (T q.2.1).2.2.2 = false | _ => True)
def mFT (own : String) (fT : Nat → Option (Nat × Nat × Nat)) : Prop := ∀ x q, fT x = some q → mfok own x q
def mKT (own : String) (kT : Nat → Option Int) : Prop := ∀ x z, kT x = some z → Cond.constant own x (iN z) ∈ mtb
def mKJ (own : String) (kJ : Nat → Option Int) : Prop := ∀ x z, kJ x = some z → Cond.constantLong own x (jN z) ∈ mtb
section MG
variable {p : Program} {l : Launch} {e : Env} {R : Room} {s : State} {m : MethodId} {args : Array Value} {below : List Frame} {meth : Method} {c : Code} {Q : State → Prop}
variable {dC : Nat → ClassId} {dI : Nat → Nat → Nat} {cI cZ : ClassId} {ad : Nat → Nat} {A : Nat → Prop} {H0 : Heap} {nL : Nat} {cc : ByteArray} {own : String}
/-- the walk stands at pc with these locals, this stack, this heap -/
def mG (p : Program) (l : Launch) (e : Env) (R : Room) (s : State) (m : MethodId) (args : Array Value) (below : List Frame) (meth : Method) (c : Code) (Q : State → Prop) (dC : Nat → ClassId) (dI : Nat → Nat → Nat) (cI cZ : ClassId) (ad : Nat → Nat) (A : Nat → Prop) (H0 : Heap) (nL : Nat) (pc : Nat) (L : mL) (st : List mV) (h : mH) : Prop :=
  ∀ (H : Heap) (locs : List Loc) (ls : Array Slot), va_P (dC, dI) mcl (cW ad cI cZ h) H → va_D A (cW ad cI cZ h) → va_S A H0 H locs → mLs ad nL ls L → W p l e R s m args below meth c H locs 0 0 Q (F0 m pc ls (st.map (cV ad)))
/-- the links to a nest mate's private method -/
def mNst (U : State) : Prop := va_Nw (.methodLinkNest RX1 75 yX6_isBeyond "TowerPrisoner") U ∧ va_Nw (.methodLinkNest RX3 100 yX6_isBeyond "TowerPrisoner") U
theorem mNst.warm {s U : State} (hW : s.WarmedH U.vm) (h : mNst s) : mNst U := ⟨va_Nw.warmM hW h.1, va_Nw.warmM hW h.2⟩
/-- what a walk has in common -/
def mCtx (p : Program) (s : State) (m : MethodId) (args : Array Value) (c : Code) (dC : Nat → ClassId) (dI : Nat → Nat → Nat) (cI cZ : ClassId) (cc : ByteArray) (own : String) (nL : Nat) : Prop :=
  p.tables.exec = Jvm.exec ∧ c.code = cc ∧ s.vm.findClass own = some m.cls ∧ (∀ w ∈ mtb, w.before args s = true) ∧ va_K (dC, dI) mcl (mtys cI cZ) s ∧ c.maxLocals = nL ∧ mNst s
theorem m1_e {st : List mV} {f : Int → List mV → Prop} (h : m1 st f) : ∃ a r, st = .inl a :: r ∧ f a r := by
  unfold m1 at h
  split at h
  · exact ⟨_, _, rfl, h⟩
  · exact h.elim
theorem m2_e {st : List mV} {f : Int → Int → List mV → Prop} (h : m2 st f) : ∃ a b r, st = .inl b :: .inl a :: r ∧ f a b r := by
  unfold m2 at h
  split at h
  · exact ⟨_, _, _, rfl, h⟩
  · exact h.elim
theorem n1_e {st : List mV} {f : Int → List mV → Prop} (h : n1 st f) : ∃ a r, st = .inr (.inl a) :: r ∧ f a r := by
  unfold n1 at h
  split at h
  · exact ⟨_, _, rfl, h⟩
  · exact h.elim
theorem n2_e {st : List mV} {f : Int → Int → List mV → Prop} (h : n2 st f) : ∃ a b r, st = .inr (.inl b) :: .inr (.inl a) :: r ∧ f a b r := by
  unfold n2 at h
  split at h
  · exact ⟨_, _, _, rfl, h⟩
  · exact h.elim
theorem mldi_e {L : mL} {i : Nat} {f : Int → Prop} (h : mldi L i f) : ∃ z, L[i]? = some (some (.inl z)) ∧ f z := by
  unfold mldi at h
  split at h
  · rename_i z hz; exact ⟨z, hz, h⟩
  · exact h.elim
theorem mldl_e {L : mL} {i : Nat} {f : Int → Prop} (h : mldl L i f) : ∃ z, L[i]? = some (some (.inr (.inl z))) ∧ f z := by
  unfold mldl at h
  split at h
  · rename_i z hz; exact ⟨z, hz, h⟩
  · exact h.elim
theorem mlda_e {L : mL} {i : Nat} {f : Nat → Prop} (h : mlda L i f) : ∃ z, L[i]? = some (some (.inr (.inr (some z)))) ∧ f z := by
  unfold mlda at h
  split at h
  · rename_i z hz; exact ⟨z, hz, h⟩
  · exact h.elim
theorem mtsw_e {pc : Nat} {z : Int} {g : Nat → Prop} : ∀ {os : List Int} {lo : Int}, mtsw pc lo z g os → ∀ (k : Nat) (o : Int), os[k]? = some o → z = lo + k → g ((pc : Int) + o).toNat
  | [], _, _, k, o, e, _ => by cases e
  | x :: os, lo, h, 0, o, e, hz => by
    obtain ⟨h1, -⟩ := h
    cases e
    exact h1 (by omega)
  | x :: os, lo, h, k + 1, o, e, hz => mtsw_e h.2 k o (by simpa using e) (by omega)
theorem mlsw_e {pc : Nat} {z : Int} {g : Nat → Prop} : ∀ {os : List (Int × Int)}, mlsw pc z g os → ∀ o ∈ os, z = o.1 → g ((pc : Int) + o.2).toNat
  | [], _, o, e, _ => by cases e
  | x :: os, h, o, e, hz => by
    rcases List.mem_cons.mp e with rfl | q
    · exact h.1 hz
    · exact mlsw_e h.2 o q hz
theorem i8 {n : Int} (h : -128 ≤ n ∧ n ≤ 127) : (Int8.ofInt n).toInt32 = iN n := by
  rw [← Int32.ofInt_int8ToInt, Int8.toInt_ofInt_of_le (by omega) (by omega)]; rfl
theorem i16 {n : Int} (h : -32768 ≤ n ∧ n ≤ 32767) : (Int16.ofInt n).toInt32 = iN n := by
  rw [← Int32.ofInt_int16ToInt, Int16.toInt_ofInt_of_le (by omega) (by omega)]; rfl
end MG
end
section
/-! every instruction of the small machine is sound -/
section SO
variable {p : Program} {l : Launch} {e : Env} {R : Room} {s : State} {m : MethodId} {args : Array Value} {below : List Frame} {meth : Method} {c : Code} {Q : State → Prop}
variable {dC : Nat → ClassId} {dI : Nat → Nat → Nat} {cI cZ : ClassId} {ad : Nat → Nat} {A : Nat → Prop} {H0 : Heap} {nL : Nat} {cc : ByteArray} {own : String}
variable {fT : Nat → Option (Nat × Nat × Nat)} {kT kJ : Nat → Option Int} {len tg pc : Nat} {L : mL} {st : List mV} {h : mH} {K : mL → List mV → mH → Prop} {G : Nat → mL → List mV → mH → Prop}
theorem so_iconst {n : Int} (C : mCtx p s m args c dC dI cI cZ cc own nL) (hF : mFT own fT) (hk : mKT own kT) (hJ : mKJ own kJ) (hd : decode cc pc = .ok (.iconst n, len)) (hs : sane nL pc (.iconst n) len tg = true) (hK : ∀ L st h, K L st h → mG p l e R s m args below meth c Q dC dI cI cZ ad A H0 nL (pc + len) L st h) (hG : ∀ t L st h, G t L st h → mG p l e R s m args below meth c Q dC dI cI cZ ad A H0 nL t L st h) (hyp : stp fT kT kJ (.iconst n) tg pc L st h K G) : mG p l e R s m args below meth c Q dC dI cI cZ ad A H0 nL pc L st h := by
  obtain ⟨hx, hb, hown, hts, hw, hml, hnst⟩ := C
  obtain rfl : len = 1 := by simpa [sane] using hs
  intro H locs ls hP hD hS hL
  exact lv_iconst hx hb hd rfl (hK _ _ _ hyp H locs ls hP hD hS hL)
theorem so_bipush {n : Int} (C : mCtx p s m args c dC dI cI cZ cc own nL) (hF : mFT own fT) (hk : mKT own kT) (hJ : mKJ own kJ) (hd : decode cc pc = .ok (.bipush n, len)) (hs : sane nL pc (.bipush n) len tg = true) (hK : ∀ L st h, K L st h → mG p l e R s m args below meth c Q dC dI cI cZ ad A H0 nL (pc + len) L st h) (hG : ∀ t L st h, G t L st h → mG p l e R s m args below meth c Q dC dI cI cZ ad A H0 nL t L st h) (hyp : stp fT kT kJ (.bipush n) tg pc L st h K G) : mG p l e R s m args below meth c Q dC dI cI cZ ad A H0 nL pc L st h := by
  obtain ⟨hx, hb, hown, hts, hw, hml, hnst⟩ := C
  obtain ⟨rfl, hs2⟩ : len = 2 ∧ (-128 ≤ n ∧ n ≤ 127) := by simpa [sane] using hs
  intro H locs ls hP hD hS hL
  exact lv_bipush hx hb hd (i8 hs2) (hK _ _ _ hyp H locs ls hP hD hS hL)
theorem so_sipush {n : Int} (C : mCtx p s m args c dC dI cI cZ cc own nL) (hF : mFT own fT) (hk : mKT own kT) (hJ : mKJ own kJ) (hd : decode cc pc = .ok (.sipush n, len)) (hs : sane nL pc (.sipush n) len tg = true) (hK : ∀ L st h, K L st h → mG p l e R s m args below meth c Q dC dI cI cZ ad A H0 nL (pc + len) L st h) (hG : ∀ t L st h, G t L st h → mG p l e R s m args below meth c Q dC dI cI cZ ad A H0 nL t L st h) (hyp : stp fT kT kJ (.sipush n) tg pc L st h K G) : mG p l e R s m args below meth c Q dC dI cI cZ ad A H0 nL pc L st h := by
  obtain ⟨hx, hb, hown, hts, hw, hml, hnst⟩ := C
  obtain ⟨rfl, hs2⟩ : len = 3 ∧ (-32768 ≤ n ∧ n ≤ 32767) := by simpa [sane] using hs
  intro H locs ls hP hD hS hL
  exact lv_sipush hx hb hd (i16 hs2) (hK _ _ _ hyp H locs ls hP hD hS hL)
theorem so_ldc {n : Nat} (C : mCtx p s m args c dC dI cI cZ cc own nL) (hF : mFT own fT) (hk : mKT own kT) (hJ : mKJ own kJ) (hd : decode cc pc = .ok (.ldc n, len)) (hs : sane nL pc (.ldc n) len tg = true) (hK : ∀ L st h, K L st h → mG p l e R s m args below meth c Q dC dI cI cZ ad A H0 nL (pc + len) L st h) (hG : ∀ t L st h, G t L st h → mG p l e R s m args below meth c Q dC dI cI cZ ad A H0 nL t L st h) (hyp : stp fT kT kJ (.ldc n) tg pc L st h K G) : mG p l e R s m args below meth c Q dC dI cI cZ ad A H0 nL pc L st h := by
  obtain ⟨hx, hb, hown, hts, hw, hml, hnst⟩ := C
  obtain rfl : len = 2 := by simpa [sane] using hs
  intro H locs ls hP hD hS hL
  unfold stp at hyp
  dsimp only at hyp
  split at hyp
  · rename_i z hz
    exact lv_ldc hx hb hown (hts _ (hk _ _ hz)) hd (hK _ _ _ hyp H locs ls hP hD hS hL)
  · exact hyp.elim
theorem so_ldcw {n : Nat} (C : mCtx p s m args c dC dI cI cZ cc own nL) (hF : mFT own fT) (hk : mKT own kT) (hJ : mKJ own kJ) (hd : decode cc pc = .ok (.ldc_w n, len)) (hs : sane nL pc (.ldc_w n) len tg = true) (hK : ∀ L st h, K L st h → mG p l e R s m args below meth c Q dC dI cI cZ ad A H0 nL (pc + len) L st h) (hG : ∀ t L st h, G t L st h → mG p l e R s m args below meth c Q dC dI cI cZ ad A H0 nL t L st h) (hyp : stp fT kT kJ (.ldc_w n) tg pc L st h K G) : mG p l e R s m args below meth c Q dC dI cI cZ ad A H0 nL pc L st h := by
  obtain ⟨hx, hb, hown, hts, hw, hml, hnst⟩ := C
  obtain rfl : len = 3 := by simpa [sane] using hs
  intro H locs ls hP hD hS hL
  unfold stp at hyp
  dsimp only at hyp
  split at hyp
  · rename_i z hz
    exact lv_ldcw hx hb hown (hts _ (hk _ _ hz)) hd (hK _ _ _ hyp H locs ls hP hD hS hL)
  · exact hyp.elim
theorem so_ldc2 {n : Nat} (C : mCtx p s m args c dC dI cI cZ cc own nL) (hF : mFT own fT) (hk : mKT own kT) (hJ : mKJ own kJ) (hd : decode cc pc = .ok (.ldc2_w n, len)) (hs : sane nL pc (.ldc2_w n) len tg = true) (hK : ∀ L st h, K L st h → mG p l e R s m args below meth c Q dC dI cI cZ ad A H0 nL (pc + len) L st h) (hG : ∀ t L st h, G t L st h → mG p l e R s m args below meth c Q dC dI cI cZ ad A H0 nL t L st h) (hyp : stp fT kT kJ (.ldc2_w n) tg pc L st h K G) : mG p l e R s m args below meth c Q dC dI cI cZ ad A H0 nL pc L st h := by
  obtain ⟨hx, hb, hown, hts, hw, hml, hnst⟩ := C
  obtain rfl : len = 3 := by simpa [sane] using hs
  intro H locs ls hP hD hS hL
  unfold stp at hyp
  dsimp only at hyp
  split at hyp
  · rename_i z hz
    exact lv_ldc2 hx hb hown (hts _ (hJ _ _ hz)) hd (hK _ _ _ hyp H locs ls hP hD hS hL)
  · exact hyp.elim
theorem so_lconst {n : Fin 2} (C : mCtx p s m args c dC dI cI cZ cc own nL) (hF : mFT own fT) (hk : mKT own kT) (hJ : mKJ own kJ) (hd : decode cc pc = .ok (.lconst n, len)) (hs : sane nL pc (.lconst n) len tg = true) (hK : ∀ L st h, K L st h → mG p l e R s m args below meth c Q dC dI cI cZ ad A H0 nL (pc + len) L st h) (hG : ∀ t L st h, G t L st h → mG p l e R s m args below meth c Q dC dI cI cZ ad A H0 nL t L st h) (hyp : stp fT kT kJ (.lconst n) tg pc L st h K G) : mG p l e R s m args below meth c Q dC dI cI cZ ad A H0 nL pc L st h := by
  obtain ⟨hx, hb, hown, hts, hw, hml, hnst⟩ := C
  obtain rfl : len = 1 := by simpa [sane] using hs
  intro H locs ls hP hD hS hL
  exact lv_lconst hx hb hd (jN_n _).symm (hK _ _ _ hyp H locs ls hP hD hS hL)
theorem so_iload {n : Nat} (C : mCtx p s m args c dC dI cI cZ cc own nL) (hF : mFT own fT) (hk : mKT own kT) (hJ : mKJ own kJ) (hd : decode cc pc = .ok (.iload n, len)) (hs : sane nL pc (.iload n) len tg = true) (hK : ∀ L st h, K L st h → mG p l e R s m args below meth c Q dC dI cI cZ ad A H0 nL (pc + len) L st h) (hG : ∀ t L st h, G t L st h → mG p l e R s m args below meth c Q dC dI cI cZ ad A H0 nL t L st h) (hyp : stp fT kT kJ (.iload n) tg pc L st h K G) : mG p l e R s m args below meth c Q dC dI cI cZ ad A H0 nL pc L st h := by
  obtain ⟨hx, hb, hown, hts, hw, hml, hnst⟩ := C
  obtain rfl : len = 2 := by simpa [sane] using hs
  intro H locs ls hP hD hS hL
  obtain ⟨z, hz, hyp⟩ := mldi_e hyp
  exact lv_iload hx hb hd (hL.at hz) (hK _ _ _ hyp H locs ls hP hD hS hL)
theorem so_iload_n {n : Fin 4} (C : mCtx p s m args c dC dI cI cZ cc own nL) (hF : mFT own fT) (hk : mKT own kT) (hJ : mKJ own kJ) (hd : decode cc pc = .ok (.iload_n n, len)) (hs : sane nL pc (.iload_n n) len tg = true) (hK : ∀ L st h, K L st h → mG p l e R s m args below meth c Q dC dI cI cZ ad A H0 nL (pc + len) L st h) (hG : ∀ t L st h, G t L st h → mG p l e R s m args below meth c Q dC dI cI cZ ad A H0 nL t L st h) (hyp : stp fT kT kJ (.iload_n n) tg pc L st h K G) : mG p l e R s m args below meth c Q dC dI cI cZ ad A H0 nL pc L st h := by
  obtain ⟨hx, hb, hown, hts, hw, hml, hnst⟩ := C
  obtain rfl : len = 1 := by simpa [sane] using hs
  intro H locs ls hP hD hS hL
  obtain ⟨z, hz, hyp⟩ := mldi_e hyp
  exact lv_iload_n hx hb hd rfl (hL.at hz) (hK _ _ _ hyp H locs ls hP hD hS hL)
theorem so_lload {n : Nat} (C : mCtx p s m args c dC dI cI cZ cc own nL) (hF : mFT own fT) (hk : mKT own kT) (hJ : mKJ own kJ) (hd : decode cc pc = .ok (.lload n, len)) (hs : sane nL pc (.lload n) len tg = true) (hK : ∀ L st h, K L st h → mG p l e R s m args below meth c Q dC dI cI cZ ad A H0 nL (pc + len) L st h) (hG : ∀ t L st h, G t L st h → mG p l e R s m args below meth c Q dC dI cI cZ ad A H0 nL t L st h) (hyp : stp fT kT kJ (.lload n) tg pc L st h K G) : mG p l e R s m args below meth c Q dC dI cI cZ ad A H0 nL pc L st h := by
  obtain ⟨hx, hb, hown, hts, hw, hml, hnst⟩ := C
  obtain rfl : len = 2 := by simpa [sane] using hs
  intro H locs ls hP hD hS hL
  obtain ⟨z, hz, hyp⟩ := mldl_e hyp
  exact lv_lload hx hb hd (hL.at hz) (hK _ _ _ hyp H locs ls hP hD hS hL)
theorem so_lload_n {n : Fin 4} (C : mCtx p s m args c dC dI cI cZ cc own nL) (hF : mFT own fT) (hk : mKT own kT) (hJ : mKJ own kJ) (hd : decode cc pc = .ok (.lload_n n, len)) (hs : sane nL pc (.lload_n n) len tg = true) (hK : ∀ L st h, K L st h → mG p l e R s m args below meth c Q dC dI cI cZ ad A H0 nL (pc + len) L st h) (hG : ∀ t L st h, G t L st h → mG p l e R s m args below meth c Q dC dI cI cZ ad A H0 nL t L st h) (hyp : stp fT kT kJ (.lload_n n) tg pc L st h K G) : mG p l e R s m args below meth c Q dC dI cI cZ ad A H0 nL pc L st h := by
  obtain ⟨hx, hb, hown, hts, hw, hml, hnst⟩ := C
  obtain rfl : len = 1 := by simpa [sane] using hs
  intro H locs ls hP hD hS hL
  obtain ⟨z, hz, hyp⟩ := mldl_e hyp
  exact lv_lload_n hx hb hd rfl (hL.at hz) (hK _ _ _ hyp H locs ls hP hD hS hL)
theorem so_aload {n : Nat} (C : mCtx p s m args c dC dI cI cZ cc own nL) (hF : mFT own fT) (hk : mKT own kT) (hJ : mKJ own kJ) (hd : decode cc pc = .ok (.aload n, len)) (hs : sane nL pc (.aload n) len tg = true) (hK : ∀ L st h, K L st h → mG p l e R s m args below meth c Q dC dI cI cZ ad A H0 nL (pc + len) L st h) (hG : ∀ t L st h, G t L st h → mG p l e R s m args below meth c Q dC dI cI cZ ad A H0 nL t L st h) (hyp : stp fT kT kJ (.aload n) tg pc L st h K G) : mG p l e R s m args below meth c Q dC dI cI cZ ad A H0 nL pc L st h := by
  obtain ⟨hx, hb, hown, hts, hw, hml, hnst⟩ := C
  obtain rfl : len = 2 := by simpa [sane] using hs
  intro H locs ls hP hD hS hL
  obtain ⟨z, hz, hyp⟩ := mlda_e hyp
  exact lv_aload hx hb hd (hL.at hz) (hK _ _ _ hyp H locs ls hP hD hS hL)
theorem so_aload_n {n : Fin 4} (C : mCtx p s m args c dC dI cI cZ cc own nL) (hF : mFT own fT) (hk : mKT own kT) (hJ : mKJ own kJ) (hd : decode cc pc = .ok (.aload_n n, len)) (hs : sane nL pc (.aload_n n) len tg = true) (hK : ∀ L st h, K L st h → mG p l e R s m args below meth c Q dC dI cI cZ ad A H0 nL (pc + len) L st h) (hG : ∀ t L st h, G t L st h → mG p l e R s m args below meth c Q dC dI cI cZ ad A H0 nL t L st h) (hyp : stp fT kT kJ (.aload_n n) tg pc L st h K G) : mG p l e R s m args below meth c Q dC dI cI cZ ad A H0 nL pc L st h := by
  obtain ⟨hx, hb, hown, hts, hw, hml, hnst⟩ := C
  obtain rfl : len = 1 := by simpa [sane] using hs
  intro H locs ls hP hD hS hL
  obtain ⟨z, hz, hyp⟩ := mlda_e hyp
  exact lv_aload_n hx hb hd rfl (hL.at hz) (hK _ _ _ hyp H locs ls hP hD hS hL)
theorem so_istore {n : Nat} (C : mCtx p s m args c dC dI cI cZ cc own nL) (hF : mFT own fT) (hk : mKT own kT) (hJ : mKJ own kJ) (hd : decode cc pc = .ok (.istore n, len)) (hs : sane nL pc (.istore n) len tg = true) (hK : ∀ L st h, K L st h → mG p l e R s m args below meth c Q dC dI cI cZ ad A H0 nL (pc + len) L st h) (hG : ∀ t L st h, G t L st h → mG p l e R s m args below meth c Q dC dI cI cZ ad A H0 nL t L st h) (hyp : stp fT kT kJ (.istore n) tg pc L st h K G) : mG p l e R s m args below meth c Q dC dI cI cZ ad A H0 nL pc L st h := by
  obtain ⟨hx, hb, hown, hts, hw, hml, hnst⟩ := C
  obtain ⟨rfl, hs2⟩ : len = 2 ∧ n < nL := by simpa [sane] using hs
  intro H locs ls hP hD hS hL
  obtain ⟨a, r, rfl, hyp⟩ := m1_e hyp
  exact lv_istore hx hb hd hL.2 hs2 rfl (fun ls' h' => hK _ _ _ hyp H locs ls' hP hD hS (mLs.st1 hL.1 h'))
theorem so_istore_n {n : Fin 4} (C : mCtx p s m args c dC dI cI cZ cc own nL) (hF : mFT own fT) (hk : mKT own kT) (hJ : mKJ own kJ) (hd : decode cc pc = .ok (.istore_n n, len)) (hs : sane nL pc (.istore_n n) len tg = true) (hK : ∀ L st h, K L st h → mG p l e R s m args below meth c Q dC dI cI cZ ad A H0 nL (pc + len) L st h) (hG : ∀ t L st h, G t L st h → mG p l e R s m args below meth c Q dC dI cI cZ ad A H0 nL t L st h) (hyp : stp fT kT kJ (.istore_n n) tg pc L st h K G) : mG p l e R s m args below meth c Q dC dI cI cZ ad A H0 nL pc L st h := by
  obtain ⟨hx, hb, hown, hts, hw, hml, hnst⟩ := C
  obtain ⟨rfl, hs2⟩ : len = 1 ∧ (n : Nat) < nL := by simpa [sane] using hs
  intro H locs ls hP hD hS hL
  obtain ⟨a, r, rfl, hyp⟩ := m1_e hyp
  exact lv_istore_n hx hb hd rfl hL.2 hs2 rfl (fun ls' h' => hK _ _ _ hyp H locs ls' hP hD hS (mLs.st1 hL.1 h'))
theorem so_lstore {n : Nat} (C : mCtx p s m args c dC dI cI cZ cc own nL) (hF : mFT own fT) (hk : mKT own kT) (hJ : mKJ own kJ) (hd : decode cc pc = .ok (.lstore n, len)) (hs : sane nL pc (.lstore n) len tg = true) (hK : ∀ L st h, K L st h → mG p l e R s m args below meth c Q dC dI cI cZ ad A H0 nL (pc + len) L st h) (hG : ∀ t L st h, G t L st h → mG p l e R s m args below meth c Q dC dI cI cZ ad A H0 nL t L st h) (hyp : stp fT kT kJ (.lstore n) tg pc L st h K G) : mG p l e R s m args below meth c Q dC dI cI cZ ad A H0 nL pc L st h := by
  obtain ⟨hx, hb, hown, hts, hw, hml, hnst⟩ := C
  obtain ⟨rfl, hs2⟩ : len = 2 ∧ n + 1 < nL := by simpa [sane] using hs
  intro H locs ls hP hD hS hL
  obtain ⟨a, r, rfl, hyp⟩ := n1_e hyp
  exact lv_lstore hx hb hd hL.2 hs2 rfl (fun ls' h' => hK _ _ _ hyp H locs ls' hP hD hS (mLs.st2 hL.1 h'))
theorem so_lstore_n {n : Fin 4} (C : mCtx p s m args c dC dI cI cZ cc own nL) (hF : mFT own fT) (hk : mKT own kT) (hJ : mKJ own kJ) (hd : decode cc pc = .ok (.lstore_n n, len)) (hs : sane nL pc (.lstore_n n) len tg = true) (hK : ∀ L st h, K L st h → mG p l e R s m args below meth c Q dC dI cI cZ ad A H0 nL (pc + len) L st h) (hG : ∀ t L st h, G t L st h → mG p l e R s m args below meth c Q dC dI cI cZ ad A H0 nL t L st h) (hyp : stp fT kT kJ (.lstore_n n) tg pc L st h K G) : mG p l e R s m args below meth c Q dC dI cI cZ ad A H0 nL pc L st h := by
  obtain ⟨hx, hb, hown, hts, hw, hml, hnst⟩ := C
  obtain ⟨rfl, hs2⟩ : len = 1 ∧ (n : Nat) + 1 < nL := by simpa [sane] using hs
  intro H locs ls hP hD hS hL
  obtain ⟨a, r, rfl, hyp⟩ := n1_e hyp
  exact lv_lstore_n hx hb hd rfl hL.2 hs2 rfl (fun ls' h' => hK _ _ _ hyp H locs ls' hP hD hS (mLs.st2 hL.1 h'))
theorem so_astore {n : Nat} (C : mCtx p s m args c dC dI cI cZ cc own nL) (hF : mFT own fT) (hk : mKT own kT) (hJ : mKJ own kJ) (hd : decode cc pc = .ok (.astore n, len)) (hs : sane nL pc (.astore n) len tg = true) (hK : ∀ L st h, K L st h → mG p l e R s m args below meth c Q dC dI cI cZ ad A H0 nL (pc + len) L st h) (hG : ∀ t L st h, G t L st h → mG p l e R s m args below meth c Q dC dI cI cZ ad A H0 nL t L st h) (hyp : stp fT kT kJ (.astore n) tg pc L st h K G) : mG p l e R s m args below meth c Q dC dI cI cZ ad A H0 nL pc L st h := by
  obtain ⟨hx, hb, hown, hts, hw, hml, hnst⟩ := C
  obtain ⟨rfl, hs2⟩ : len = 2 ∧ n < nL := by simpa [sane] using hs
  intro H locs ls hP hD hS hL
  unfold stp at hyp
  dsimp only at hyp
  split at hyp
  · exact lv_astore hx hb hd hL.2 hs2 rfl (fun ls' h' => hK _ _ _ hyp H locs ls' hP hD hS (mLs.st1 hL.1 h'))
  · exact hyp.elim
theorem so_astore_n {n : Fin 4} (C : mCtx p s m args c dC dI cI cZ cc own nL) (hF : mFT own fT) (hk : mKT own kT) (hJ : mKJ own kJ) (hd : decode cc pc = .ok (.astore_n n, len)) (hs : sane nL pc (.astore_n n) len tg = true) (hK : ∀ L st h, K L st h → mG p l e R s m args below meth c Q dC dI cI cZ ad A H0 nL (pc + len) L st h) (hG : ∀ t L st h, G t L st h → mG p l e R s m args below meth c Q dC dI cI cZ ad A H0 nL t L st h) (hyp : stp fT kT kJ (.astore_n n) tg pc L st h K G) : mG p l e R s m args below meth c Q dC dI cI cZ ad A H0 nL pc L st h := by
  obtain ⟨hx, hb, hown, hts, hw, hml, hnst⟩ := C
  obtain ⟨rfl, hs2⟩ : len = 1 ∧ (n : Nat) < nL := by simpa [sane] using hs
  intro H locs ls hP hD hS hL
  unfold stp at hyp
  dsimp only at hyp
  split at hyp
  · exact lv_astore_n hx hb hd rfl hL.2 hs2 rfl (fun ls' h' => hK _ _ _ hyp H locs ls' hP hD hS (mLs.st1 hL.1 h'))
  · exact hyp.elim
theorem so_iinc {n : Nat} {d : Int} (C : mCtx p s m args c dC dI cI cZ cc own nL) (hF : mFT own fT) (hk : mKT own kT) (hJ : mKJ own kJ) (hd : decode cc pc = .ok (.iinc n d, len)) (hs : sane nL pc (.iinc n d) len tg = true) (hK : ∀ L st h, K L st h → mG p l e R s m args below meth c Q dC dI cI cZ ad A H0 nL (pc + len) L st h) (hG : ∀ t L st h, G t L st h → mG p l e R s m args below meth c Q dC dI cI cZ ad A H0 nL t L st h) (hyp : stp fT kT kJ (.iinc n d) tg pc L st h K G) : mG p l e R s m args below meth c Q dC dI cI cZ ad A H0 nL pc L st h := by
  obtain ⟨hx, hb, hown, hts, hw, hml, hnst⟩ := C
  obtain ⟨rfl, hs2⟩ : len = 3 ∧ n < nL := by simpa [sane] using hs
  intro H locs ls hP hD hS hL
  obtain ⟨z, hz, hyp⟩ := mldi_e hyp
  obtain ⟨k, hk1⟩ := List.getElem?_of_mem (mem_mll.mpr ⟨_, hz, rfl⟩ : (n, cV ad (.inl z)) ∈ mll ad L)
  exact lv_iinc hx hb hd hL.2 hk1 (iN_add z d) hs2 rfl (fun ls' h' => hK _ _ _ hyp H locs ls' hP hD hS (mLs.st1 hL.1 h'))
theorem so_iadd (C : mCtx p s m args c dC dI cI cZ cc own nL) (hF : mFT own fT) (hk : mKT own kT) (hJ : mKJ own kJ) (hd : decode cc pc = .ok (.iadd, len)) (hs : sane nL pc (.iadd) len tg = true) (hK : ∀ L st h, K L st h → mG p l e R s m args below meth c Q dC dI cI cZ ad A H0 nL (pc + len) L st h) (hG : ∀ t L st h, G t L st h → mG p l e R s m args below meth c Q dC dI cI cZ ad A H0 nL t L st h) (hyp : stp fT kT kJ (.iadd) tg pc L st h K G) : mG p l e R s m args below meth c Q dC dI cI cZ ad A H0 nL pc L st h := by
  obtain ⟨hx, hb, hown, hts, hw, hml, hnst⟩ := C
  obtain rfl : len = 1 := by simpa [sane] using hs
  intro H locs ls hP hD hS hL
  obtain ⟨a, b, r, rfl, hyp⟩ := m2_e hyp
  refine lv_iadd hx hb hd ?_
  rw [iN_add]
  exact hK _ _ _ hyp H locs ls hP hD hS hL
theorem so_isub (C : mCtx p s m args c dC dI cI cZ cc own nL) (hF : mFT own fT) (hk : mKT own kT) (hJ : mKJ own kJ) (hd : decode cc pc = .ok (.isub, len)) (hs : sane nL pc (.isub) len tg = true) (hK : ∀ L st h, K L st h → mG p l e R s m args below meth c Q dC dI cI cZ ad A H0 nL (pc + len) L st h) (hG : ∀ t L st h, G t L st h → mG p l e R s m args below meth c Q dC dI cI cZ ad A H0 nL t L st h) (hyp : stp fT kT kJ (.isub) tg pc L st h K G) : mG p l e R s m args below meth c Q dC dI cI cZ ad A H0 nL pc L st h := by
  obtain ⟨hx, hb, hown, hts, hw, hml, hnst⟩ := C
  obtain rfl : len = 1 := by simpa [sane] using hs
  intro H locs ls hP hD hS hL
  obtain ⟨a, b, r, rfl, hyp⟩ := m2_e hyp
  refine lv_isub hx hb hd ?_
  rw [iN_sub]
  exact hK _ _ _ hyp H locs ls hP hD hS hL
theorem so_imul (C : mCtx p s m args c dC dI cI cZ cc own nL) (hF : mFT own fT) (hk : mKT own kT) (hJ : mKJ own kJ) (hd : decode cc pc = .ok (.imul, len)) (hs : sane nL pc (.imul) len tg = true) (hK : ∀ L st h, K L st h → mG p l e R s m args below meth c Q dC dI cI cZ ad A H0 nL (pc + len) L st h) (hG : ∀ t L st h, G t L st h → mG p l e R s m args below meth c Q dC dI cI cZ ad A H0 nL t L st h) (hyp : stp fT kT kJ (.imul) tg pc L st h K G) : mG p l e R s m args below meth c Q dC dI cI cZ ad A H0 nL pc L st h := by
  obtain ⟨hx, hb, hown, hts, hw, hml, hnst⟩ := C
  obtain rfl : len = 1 := by simpa [sane] using hs
  intro H locs ls hP hD hS hL
  obtain ⟨a, b, r, rfl, hyp⟩ := m2_e hyp
  refine lv_imul hx hb hd ?_
  rw [iN_mul]
  exact hK _ _ _ hyp H locs ls hP hD hS hL
theorem so_ineg (C : mCtx p s m args c dC dI cI cZ cc own nL) (hF : mFT own fT) (hk : mKT own kT) (hJ : mKJ own kJ) (hd : decode cc pc = .ok (.ineg, len)) (hs : sane nL pc (.ineg) len tg = true) (hK : ∀ L st h, K L st h → mG p l e R s m args below meth c Q dC dI cI cZ ad A H0 nL (pc + len) L st h) (hG : ∀ t L st h, G t L st h → mG p l e R s m args below meth c Q dC dI cI cZ ad A H0 nL t L st h) (hyp : stp fT kT kJ (.ineg) tg pc L st h K G) : mG p l e R s m args below meth c Q dC dI cI cZ ad A H0 nL pc L st h := by
  obtain ⟨hx, hb, hown, hts, hw, hml, hnst⟩ := C
  obtain rfl : len = 1 := by simpa [sane] using hs
  intro H locs ls hP hD hS hL
  obtain ⟨a, r, rfl, hyp⟩ := m1_e hyp
  refine lv_ineg hx hb hd ?_
  rw [iN_neg]
  exact hK _ _ _ hyp H locs ls hP hD hS hL
theorem so_idiv (C : mCtx p s m args c dC dI cI cZ cc own nL) (hF : mFT own fT) (hk : mKT own kT) (hJ : mKJ own kJ) (hd : decode cc pc = .ok (.idiv, len)) (hs : sane nL pc (.idiv) len tg = true) (hK : ∀ L st h, K L st h → mG p l e R s m args below meth c Q dC dI cI cZ ad A H0 nL (pc + len) L st h) (hG : ∀ t L st h, G t L st h → mG p l e R s m args below meth c Q dC dI cI cZ ad A H0 nL t L st h) (hyp : stp fT kT kJ (.idiv) tg pc L st h K G) : mG p l e R s m args below meth c Q dC dI cI cZ ad A H0 nL pc L st h := by
  obtain ⟨hx, hb, hown, hts, hw, hml, hnst⟩ := C
  obtain rfl : len = 1 := by simpa [sane] using hs
  intro H locs ls hP hD hS hL
  obtain ⟨a, b, r, rfl, ⟨h1, h2⟩, hyp⟩ := m2_e hyp
  refine lv_idiv hx hb hd (iN_ne0 h2) ?_
  rw [iN_div h1 h2]
  exact hK _ _ _ hyp H locs ls hP hD hS hL
theorem so_irem (C : mCtx p s m args c dC dI cI cZ cc own nL) (hF : mFT own fT) (hk : mKT own kT) (hJ : mKJ own kJ) (hd : decode cc pc = .ok (.irem, len)) (hs : sane nL pc (.irem) len tg = true) (hK : ∀ L st h, K L st h → mG p l e R s m args below meth c Q dC dI cI cZ ad A H0 nL (pc + len) L st h) (hG : ∀ t L st h, G t L st h → mG p l e R s m args below meth c Q dC dI cI cZ ad A H0 nL t L st h) (hyp : stp fT kT kJ (.irem) tg pc L st h K G) : mG p l e R s m args below meth c Q dC dI cI cZ ad A H0 nL pc L st h := by
  obtain ⟨hx, hb, hown, hts, hw, hml, hnst⟩ := C
  obtain rfl : len = 1 := by simpa [sane] using hs
  intro H locs ls hP hD hS hL
  obtain ⟨a, b, r, rfl, ⟨h1, h2⟩, hyp⟩ := m2_e hyp
  refine lv_irem hx hb hd (iN_ne0 h2) ?_
  rw [iN_rem h1 h2]
  exact hK _ _ _ hyp H locs ls hP hD hS hL
theorem so_ishl (C : mCtx p s m args c dC dI cI cZ cc own nL) (hF : mFT own fT) (hk : mKT own kT) (hJ : mKJ own kJ) (hd : decode cc pc = .ok (.ishl, len)) (hs : sane nL pc (.ishl) len tg = true) (hK : ∀ L st h, K L st h → mG p l e R s m args below meth c Q dC dI cI cZ ad A H0 nL (pc + len) L st h) (hG : ∀ t L st h, G t L st h → mG p l e R s m args below meth c Q dC dI cI cZ ad A H0 nL t L st h) (hyp : stp fT kT kJ (.ishl) tg pc L st h K G) : mG p l e R s m args below meth c Q dC dI cI cZ ad A H0 nL pc L st h := by
  obtain ⟨hx, hb, hown, hts, hw, hml, hnst⟩ := C
  obtain rfl : len = 1 := by simpa [sane] using hs
  intro H locs ls hP hD hS hL
  obtain ⟨a, b, r, rfl, ⟨h1, h2, h3⟩, hyp⟩ := m2_e hyp
  refine lv_ishl hx hb hd ?_
  rw [iN_shl h1 h2 h3]
  exact hK _ _ _ hyp H locs ls hP hD hS hL
theorem so_ishr (C : mCtx p s m args c dC dI cI cZ cc own nL) (hF : mFT own fT) (hk : mKT own kT) (hJ : mKJ own kJ) (hd : decode cc pc = .ok (.ishr, len)) (hs : sane nL pc (.ishr) len tg = true) (hK : ∀ L st h, K L st h → mG p l e R s m args below meth c Q dC dI cI cZ ad A H0 nL (pc + len) L st h) (hG : ∀ t L st h, G t L st h → mG p l e R s m args below meth c Q dC dI cI cZ ad A H0 nL t L st h) (hyp : stp fT kT kJ (.ishr) tg pc L st h K G) : mG p l e R s m args below meth c Q dC dI cI cZ ad A H0 nL pc L st h := by
  obtain ⟨hx, hb, hown, hts, hw, hml, hnst⟩ := C
  obtain rfl : len = 1 := by simpa [sane] using hs
  intro H locs ls hP hD hS hL
  obtain ⟨a, b, r, rfl, ⟨h1, h2⟩, hyp⟩ := m2_e hyp
  refine lv_ishr hx hb hd ?_
  rw [iN_shr h1 h2]
  exact hK _ _ _ hyp H locs ls hP hD hS hL
theorem so_iushr (C : mCtx p s m args c dC dI cI cZ cc own nL) (hF : mFT own fT) (hk : mKT own kT) (hJ : mKJ own kJ) (hd : decode cc pc = .ok (.iushr, len)) (hs : sane nL pc (.iushr) len tg = true) (hK : ∀ L st h, K L st h → mG p l e R s m args below meth c Q dC dI cI cZ ad A H0 nL (pc + len) L st h) (hG : ∀ t L st h, G t L st h → mG p l e R s m args below meth c Q dC dI cI cZ ad A H0 nL t L st h) (hyp : stp fT kT kJ (.iushr) tg pc L st h K G) : mG p l e R s m args below meth c Q dC dI cI cZ ad A H0 nL pc L st h := by
  obtain ⟨hx, hb, hown, hts, hw, hml, hnst⟩ := C
  obtain rfl : len = 1 := by simpa [sane] using hs
  intro H locs ls hP hD hS hL
  obtain ⟨a, b, r, rfl, ⟨h1, h2⟩, hyp⟩ := m2_e hyp
  exact lv_iushr hx hb hd (iN_ushr h1 h2) (hK _ _ _ hyp H locs ls hP hD hS hL)
theorem so_iand (C : mCtx p s m args c dC dI cI cZ cc own nL) (hF : mFT own fT) (hk : mKT own kT) (hJ : mKJ own kJ) (hd : decode cc pc = .ok (.iand, len)) (hs : sane nL pc (.iand) len tg = true) (hK : ∀ L st h, K L st h → mG p l e R s m args below meth c Q dC dI cI cZ ad A H0 nL (pc + len) L st h) (hG : ∀ t L st h, G t L st h → mG p l e R s m args below meth c Q dC dI cI cZ ad A H0 nL t L st h) (hyp : stp fT kT kJ (.iand) tg pc L st h K G) : mG p l e R s m args below meth c Q dC dI cI cZ ad A H0 nL pc L st h := by
  obtain ⟨hx, hb, hown, hts, hw, hml, hnst⟩ := C
  obtain rfl : len = 1 := by simpa [sane] using hs
  intro H locs ls hP hD hS hL
  obtain ⟨a, b, r, rfl, ⟨h1, h2⟩, hyp⟩ := m2_e hyp
  refine lv_iand hx hb hd ?_
  rw [iN_and h1 h2]
  exact hK _ _ _ hyp H locs ls hP hD hS hL
theorem so_ior (C : mCtx p s m args c dC dI cI cZ cc own nL) (hF : mFT own fT) (hk : mKT own kT) (hJ : mKJ own kJ) (hd : decode cc pc = .ok (.ior, len)) (hs : sane nL pc (.ior) len tg = true) (hK : ∀ L st h, K L st h → mG p l e R s m args below meth c Q dC dI cI cZ ad A H0 nL (pc + len) L st h) (hG : ∀ t L st h, G t L st h → mG p l e R s m args below meth c Q dC dI cI cZ ad A H0 nL t L st h) (hyp : stp fT kT kJ (.ior) tg pc L st h K G) : mG p l e R s m args below meth c Q dC dI cI cZ ad A H0 nL pc L st h := by
  obtain ⟨hx, hb, hown, hts, hw, hml, hnst⟩ := C
  obtain rfl : len = 1 := by simpa [sane] using hs
  intro H locs ls hP hD hS hL
  obtain ⟨a, b, r, rfl, ⟨h1, h2⟩, hyp⟩ := m2_e hyp
  refine lv_ior hx hb hd ?_
  rw [iN_or h1 h2]
  exact hK _ _ _ hyp H locs ls hP hD hS hL
theorem so_i2l (C : mCtx p s m args c dC dI cI cZ cc own nL) (hF : mFT own fT) (hk : mKT own kT) (hJ : mKJ own kJ) (hd : decode cc pc = .ok (.i2l, len)) (hs : sane nL pc (.i2l) len tg = true) (hK : ∀ L st h, K L st h → mG p l e R s m args below meth c Q dC dI cI cZ ad A H0 nL (pc + len) L st h) (hG : ∀ t L st h, G t L st h → mG p l e R s m args below meth c Q dC dI cI cZ ad A H0 nL t L st h) (hyp : stp fT kT kJ (.i2l) tg pc L st h K G) : mG p l e R s m args below meth c Q dC dI cI cZ ad A H0 nL pc L st h := by
  obtain ⟨hx, hb, hown, hts, hw, hml, hnst⟩ := C
  obtain rfl : len = 1 := by simpa [sane] using hs
  intro H locs ls hP hD hS hL
  obtain ⟨a, r, rfl, h1, hyp⟩ := m1_e hyp
  exact lv_i2l hx hb hd (jN_i h1) (hK _ _ _ hyp H locs ls hP hD hS hL)
theorem so_l2i (C : mCtx p s m args c dC dI cI cZ cc own nL) (hF : mFT own fT) (hk : mKT own kT) (hJ : mKJ own kJ) (hd : decode cc pc = .ok (.l2i, len)) (hs : sane nL pc (.l2i) len tg = true) (hK : ∀ L st h, K L st h → mG p l e R s m args below meth c Q dC dI cI cZ ad A H0 nL (pc + len) L st h) (hG : ∀ t L st h, G t L st h → mG p l e R s m args below meth c Q dC dI cI cZ ad A H0 nL t L st h) (hyp : stp fT kT kJ (.l2i) tg pc L st h K G) : mG p l e R s m args below meth c Q dC dI cI cZ ad A H0 nL pc L st h := by
  obtain ⟨hx, hb, hown, hts, hw, hml, hnst⟩ := C
  obtain rfl : len = 1 := by simpa [sane] using hs
  intro H locs ls hP hD hS hL
  obtain ⟨a, r, rfl, h1, hyp⟩ := n1_e hyp
  exact lv_l2i hx hb hd (jN_t32 h1) (hK _ _ _ hyp H locs ls hP hD hS hL)
theorem so_ladd (C : mCtx p s m args c dC dI cI cZ cc own nL) (hF : mFT own fT) (hk : mKT own kT) (hJ : mKJ own kJ) (hd : decode cc pc = .ok (.ladd, len)) (hs : sane nL pc (.ladd) len tg = true) (hK : ∀ L st h, K L st h → mG p l e R s m args below meth c Q dC dI cI cZ ad A H0 nL (pc + len) L st h) (hG : ∀ t L st h, G t L st h → mG p l e R s m args below meth c Q dC dI cI cZ ad A H0 nL t L st h) (hyp : stp fT kT kJ (.ladd) tg pc L st h K G) : mG p l e R s m args below meth c Q dC dI cI cZ ad A H0 nL pc L st h := by
  obtain ⟨hx, hb, hown, hts, hw, hml, hnst⟩ := C
  obtain rfl : len = 1 := by simpa [sane] using hs
  intro H locs ls hP hD hS hL
  obtain ⟨a, b, r, rfl, hyp⟩ := n2_e hyp
  refine lv_ladd hx hb hd ?_
  rw [jN_add]
  exact hK _ _ _ hyp H locs ls hP hD hS hL
theorem so_lmul (C : mCtx p s m args c dC dI cI cZ cc own nL) (hF : mFT own fT) (hk : mKT own kT) (hJ : mKJ own kJ) (hd : decode cc pc = .ok (.lmul, len)) (hs : sane nL pc (.lmul) len tg = true) (hK : ∀ L st h, K L st h → mG p l e R s m args below meth c Q dC dI cI cZ ad A H0 nL (pc + len) L st h) (hG : ∀ t L st h, G t L st h → mG p l e R s m args below meth c Q dC dI cI cZ ad A H0 nL t L st h) (hyp : stp fT kT kJ (.lmul) tg pc L st h K G) : mG p l e R s m args below meth c Q dC dI cI cZ ad A H0 nL pc L st h := by
  obtain ⟨hx, hb, hown, hts, hw, hml, hnst⟩ := C
  obtain rfl : len = 1 := by simpa [sane] using hs
  intro H locs ls hP hD hS hL
  obtain ⟨a, b, r, rfl, hyp⟩ := n2_e hyp
  refine lv_lmul hx hb hd ?_
  rw [jN_mul]
  exact hK _ _ _ hyp H locs ls hP hD hS hL
theorem so_ldiv (C : mCtx p s m args c dC dI cI cZ cc own nL) (hF : mFT own fT) (hk : mKT own kT) (hJ : mKJ own kJ) (hd : decode cc pc = .ok (.ldiv, len)) (hs : sane nL pc (.ldiv) len tg = true) (hK : ∀ L st h, K L st h → mG p l e R s m args below meth c Q dC dI cI cZ ad A H0 nL (pc + len) L st h) (hG : ∀ t L st h, G t L st h → mG p l e R s m args below meth c Q dC dI cI cZ ad A H0 nL t L st h) (hyp : stp fT kT kJ (.ldiv) tg pc L st h K G) : mG p l e R s m args below meth c Q dC dI cI cZ ad A H0 nL pc L st h := by
  obtain ⟨hx, hb, hown, hts, hw, hml, hnst⟩ := C
  obtain rfl : len = 1 := by simpa [sane] using hs
  intro H locs ls hP hD hS hL
  obtain ⟨a, b, r, rfl, ⟨h1, h2, h3⟩, hyp⟩ := n2_e hyp
  refine lv_ldiv hx hb hd (jN_ne0 h2 h3) ?_
  rw [jN_div h1 h2 h3]
  exact hK _ _ _ hyp H locs ls hP hD hS hL
theorem so_lrem (C : mCtx p s m args c dC dI cI cZ cc own nL) (hF : mFT own fT) (hk : mKT own kT) (hJ : mKJ own kJ) (hd : decode cc pc = .ok (.lrem, len)) (hs : sane nL pc (.lrem) len tg = true) (hK : ∀ L st h, K L st h → mG p l e R s m args below meth c Q dC dI cI cZ ad A H0 nL (pc + len) L st h) (hG : ∀ t L st h, G t L st h → mG p l e R s m args below meth c Q dC dI cI cZ ad A H0 nL t L st h) (hyp : stp fT kT kJ (.lrem) tg pc L st h K G) : mG p l e R s m args below meth c Q dC dI cI cZ ad A H0 nL pc L st h := by
  obtain ⟨hx, hb, hown, hts, hw, hml, hnst⟩ := C
  obtain rfl : len = 1 := by simpa [sane] using hs
  intro H locs ls hP hD hS hL
  obtain ⟨a, b, r, rfl, ⟨h1, h2, h3⟩, hyp⟩ := n2_e hyp
  refine lv_lrem hx hb hd (jN_ne0 h2 h3) ?_
  rw [jN_rem h1 h2 h3]
  exact hK _ _ _ hyp H locs ls hP hD hS hL
theorem so_dup (C : mCtx p s m args c dC dI cI cZ cc own nL) (hF : mFT own fT) (hk : mKT own kT) (hJ : mKJ own kJ) (hd : decode cc pc = .ok (.dup, len)) (hs : sane nL pc (.dup) len tg = true) (hK : ∀ L st h, K L st h → mG p l e R s m args below meth c Q dC dI cI cZ ad A H0 nL (pc + len) L st h) (hG : ∀ t L st h, G t L st h → mG p l e R s m args below meth c Q dC dI cI cZ ad A H0 nL t L st h) (hyp : stp fT kT kJ (.dup) tg pc L st h K G) : mG p l e R s m args below meth c Q dC dI cI cZ ad A H0 nL pc L st h := by
  obtain ⟨hx, hb, hown, hts, hw, hml, hnst⟩ := C
  obtain rfl : len = 1 := by simpa [sane] using hs
  intro H locs ls hP hD hS hL
  unfold stp at hyp
  dsimp only at hyp
  split at hyp
  · exact lv_dup hx hb hd rfl (hK _ _ _ hyp H locs ls hP hD hS hL)
  · exact lv_dup hx hb hd (cV_cat1 (fun z q => by cases q)) (hK _ _ _ hyp H locs ls hP hD hS hL)
  · exact hyp.elim
theorem so_dup2 (C : mCtx p s m args c dC dI cI cZ cc own nL) (hF : mFT own fT) (hk : mKT own kT) (hJ : mKJ own kJ) (hd : decode cc pc = .ok (.dup2, len)) (hs : sane nL pc (.dup2) len tg = true) (hK : ∀ L st h, K L st h → mG p l e R s m args below meth c Q dC dI cI cZ ad A H0 nL (pc + len) L st h) (hG : ∀ t L st h, G t L st h → mG p l e R s m args below meth c Q dC dI cI cZ ad A H0 nL t L st h) (hyp : stp fT kT kJ (.dup2) tg pc L st h K G) : mG p l e R s m args below meth c Q dC dI cI cZ ad A H0 nL pc L st h := by
  obtain ⟨hx, hb, hown, hts, hw, hml, hnst⟩ := C
  obtain rfl : len = 1 := by simpa [sane] using hs
  intro H locs ls hP hD hS hL
  unfold stp at hyp
  dsimp only at hyp
  split at hyp
  · exact lv_dup2_11 hx hb hd rfl (cV_cat1 (fun z q => by cases q)) (hK _ _ _ hyp H locs ls hP hD hS hL)
  · exact hyp.elim
theorem so_goto {o : Int} (C : mCtx p s m args c dC dI cI cZ cc own nL) (hF : mFT own fT) (hk : mKT own kT) (hJ : mKJ own kJ) (hd : decode cc pc = .ok (.goto o, len)) (hs : sane nL pc (.goto o) len tg = true) (hK : ∀ L st h, K L st h → mG p l e R s m args below meth c Q dC dI cI cZ ad A H0 nL (pc + len) L st h) (hG : ∀ t L st h, G t L st h → mG p l e R s m args below meth c Q dC dI cI cZ ad A H0 nL t L st h) (hyp : stp fT kT kJ (.goto o) tg pc L st h K G) : mG p l e R s m args below meth c Q dC dI cI cZ ad A H0 nL pc L st h := by
  obtain ⟨hx, hb, hown, hts, hw, hml, hnst⟩ := C
  obtain ⟨rfl, hs2⟩ : len = 3 ∧ (pc : Int) + o = (tg : Int) := by simpa [sane] using hs
  intro H locs ls hP hD hS hL
  exact lv_goto hx hb hd hs2 (hG _ _ _ _ hyp H locs ls hP hD hS hL)
theorem so_if {cd : Jvm.ClassFile.Cond} {o : Int} (C : mCtx p s m args c dC dI cI cZ cc own nL) (hF : mFT own fT) (hk : mKT own kT) (hJ : mKJ own kJ) (hd : decode cc pc = .ok (.ifCond cd o, len)) (hs : sane nL pc (.ifCond cd o) len tg = true) (hK : ∀ L st h, K L st h → mG p l e R s m args below meth c Q dC dI cI cZ ad A H0 nL (pc + len) L st h) (hG : ∀ t L st h, G t L st h → mG p l e R s m args below meth c Q dC dI cI cZ ad A H0 nL t L st h) (hyp : stp fT kT kJ (.ifCond cd o) tg pc L st h K G) : mG p l e R s m args below meth c Q dC dI cI cZ ad A H0 nL pc L st h := by
  obtain ⟨hx, hb, hown, hts, hw, hml, hnst⟩ := C
  obtain ⟨rfl, hs2⟩ : len = 3 ∧ (pc : Int) + o = (tg : Int) := by simpa [sane] using hs
  intro H locs ls hP hD hS hL
  obtain ⟨a, r, rfl, hI, hyp⟩ := m1_e hyp
  have h0 : inI 0 := ⟨by omega, by omega⟩
  cases cd with
  | eq => exact lv_if_eq hx hb hd hs2 (fun q => hG _ _ _ _ (hyp.1 ((iN_eq hI h0).mp q)) H locs ls hP hD hS hL) (fun q => hK _ _ _ (hyp.2 (fun z => q ((iN_eq hI h0).mpr z))) H locs ls hP hD hS hL)
  | ne => exact lv_if_ne hx hb hd hs2 (fun q => hG _ _ _ _ (hyp.1 (fun z => q ((iN_eq hI h0).mpr z))) H locs ls hP hD hS hL) (fun q => hK _ _ _ (hyp.2 ((iN_eq hI h0).mp q)) H locs ls hP hD hS hL)
  | lt => exact lv_if_lt hx hb hd hs2 (fun q => hG _ _ _ _ (hyp.1 ((iN_lt hI h0).mp q)) H locs ls hP hD hS hL) (fun q => hK _ _ _ (hyp.2 (fun z => q ((iN_lt hI h0).mpr z))) H locs ls hP hD hS hL)
  | ge => exact lv_if_ge hx hb hd hs2 (fun q => hG _ _ _ _ (hyp.1 ((iN_le h0 hI).mp q)) H locs ls hP hD hS hL) (fun q => hK _ _ _ (hyp.2 (fun z => q ((iN_le h0 hI).mpr z))) H locs ls hP hD hS hL)
  | gt => exact lv_if_gt hx hb hd hs2 (fun q => hG _ _ _ _ (hyp.1 ((iN_lt h0 hI).mp q)) H locs ls hP hD hS hL) (fun q => hK _ _ _ (hyp.2 (fun z => q ((iN_lt h0 hI).mpr z))) H locs ls hP hD hS hL)
  | le => exact lv_if_le hx hb hd hs2 (fun q => hG _ _ _ _ (hyp.1 ((iN_le hI h0).mp q)) H locs ls hP hD hS hL) (fun q => hK _ _ _ (hyp.2 (fun z => q ((iN_le hI h0).mpr z))) H locs ls hP hD hS hL)
theorem so_icmp {cd : Jvm.ClassFile.Cond} {o : Int} (C : mCtx p s m args c dC dI cI cZ cc own nL) (hF : mFT own fT) (hk : mKT own kT) (hJ : mKJ own kJ) (hd : decode cc pc = .ok (.if_icmp cd o, len)) (hs : sane nL pc (.if_icmp cd o) len tg = true) (hK : ∀ L st h, K L st h → mG p l e R s m args below meth c Q dC dI cI cZ ad A H0 nL (pc + len) L st h) (hG : ∀ t L st h, G t L st h → mG p l e R s m args below meth c Q dC dI cI cZ ad A H0 nL t L st h) (hyp : stp fT kT kJ (.if_icmp cd o) tg pc L st h K G) : mG p l e R s m args below meth c Q dC dI cI cZ ad A H0 nL pc L st h := by
  obtain ⟨hx, hb, hown, hts, hw, hml, hnst⟩ := C
  obtain ⟨rfl, hs2⟩ : len = 3 ∧ (pc : Int) + o = (tg : Int) := by simpa [sane] using hs
  intro H locs ls hP hD hS hL
  obtain ⟨a, b, r, rfl, ⟨hI, hJ2⟩, hyp⟩ := m2_e hyp
  cases cd with
  | eq => exact lv_icmp_eq hx hb hd hs2 (fun q => hG _ _ _ _ (hyp.1 ((iN_eq hI hJ2).mp q)) H locs ls hP hD hS hL) (fun q => hK _ _ _ (hyp.2 (fun z => q ((iN_eq hI hJ2).mpr z))) H locs ls hP hD hS hL)
  | ne => exact lv_icmp_ne hx hb hd hs2 (fun q => hG _ _ _ _ (hyp.1 (fun z => q ((iN_eq hI hJ2).mpr z))) H locs ls hP hD hS hL) (fun q => hK _ _ _ (hyp.2 ((iN_eq hI hJ2).mp q)) H locs ls hP hD hS hL)
  | lt => exact lv_icmp_lt hx hb hd hs2 (fun q => hG _ _ _ _ (hyp.1 ((iN_lt hI hJ2).mp q)) H locs ls hP hD hS hL) (fun q => hK _ _ _ (hyp.2 (fun z => q ((iN_lt hI hJ2).mpr z))) H locs ls hP hD hS hL)
  | ge => exact lv_icmp_ge hx hb hd hs2 (fun q => hG _ _ _ _ (hyp.1 ((iN_le hJ2 hI).mp q)) H locs ls hP hD hS hL) (fun q => hK _ _ _ (hyp.2 (fun z => q ((iN_le hJ2 hI).mpr z))) H locs ls hP hD hS hL)
  | gt => exact lv_icmp_gt hx hb hd hs2 (fun q => hG _ _ _ _ (hyp.1 ((iN_lt hJ2 hI).mp q)) H locs ls hP hD hS hL) (fun q => hK _ _ _ (hyp.2 (fun z => q ((iN_lt hJ2 hI).mpr z))) H locs ls hP hD hS hL)
  | le => exact lv_icmp_le hx hb hd hs2 (fun q => hG _ _ _ _ (hyp.1 ((iN_le hI hJ2).mp q)) H locs ls hP hD hS hL) (fun q => hK _ _ _ (hyp.2 (fun z => q ((iN_le hI hJ2).mpr z))) H locs ls hP hD hS hL)
theorem so_getfield {n : Nat} (C : mCtx p s m args c dC dI cI cZ cc own nL) (hF : mFT own fT) (hk : mKT own kT) (hJ : mKJ own kJ) (hd : decode cc pc = .ok (.getfield n, len)) (hs : sane nL pc (.getfield n) len tg = true) (hK : ∀ L st h, K L st h → mG p l e R s m args below meth c Q dC dI cI cZ ad A H0 nL (pc + len) L st h) (hG : ∀ t L st h, G t L st h → mG p l e R s m args below meth c Q dC dI cI cZ ad A H0 nL t L st h) (hyp : stp fT kT kJ (.getfield n) tg pc L st h K G) : mG p l e R s m args below meth c Q dC dI cI cZ ad A H0 nL pc L st h := by
  obtain ⟨hx, hb, hown, hts, hw, hml, hnst⟩ := C
  obtain rfl : len = 3 := by simpa [sane] using hs
  intro H locs ls hP hD hS hL
  unfold stp at hyp
  dsimp only at hyp
  split at hyp
  · rename_i ci k tk a r hf
    split at hyp
    · rename_i cj fs hc
      split at hyp
      · rename_i v hv
        obtain ⟨rfl, hyp⟩ := hyp
        obtain ⟨C, T, N, t0, ty, g1, g2, g3, g4, g5, g6, g7, g8⟩ := hF _ _ hf
        exact va_get (Ts := mtb) hx hb hts g3 hown hw hP a (cW_get hc) g1 k g2 (hts _ g6) (fun _ z => z) (by rw [List.getElem?_map, hv]; rfl) hd (hK _ _ _ hyp H locs ls hP hD hS hL)
      · exact hyp.elim
    · exact hyp.elim
  · exact hyp.elim
theorem so_putfield {n : Nat} (C : mCtx p s m args c dC dI cI cZ cc own nL) (hF : mFT own fT) (hk : mKT own kT) (hJ : mKJ own kJ) (hd : decode cc pc = .ok (.putfield n, len)) (hs : sane nL pc (.putfield n) len tg = true) (hK : ∀ L st h, K L st h → mG p l e R s m args below meth c Q dC dI cI cZ ad A H0 nL (pc + len) L st h) (hG : ∀ t L st h, G t L st h → mG p l e R s m args below meth c Q dC dI cI cZ ad A H0 nL t L st h) (hyp : stp fT kT kJ (.putfield n) tg pc L st h K G) : mG p l e R s m args below meth c Q dC dI cI cZ ad A H0 nL pc L st h := by
  obtain ⟨hx, hb, hown, hts, hw, hml, hnst⟩ := C
  obtain rfl : len = 3 := by simpa [sane] using hs
  intro H locs ls hP hD hS hL
  unfold stp at hyp
  dsimp only at hyp
  split at hyp
  · rename_i ci k tk v a r hf
    split at hyp
    · rename_i cj fs hc
      obtain ⟨⟨rfl, hlt, hfit⟩, hyp⟩ := hyp
      obtain ⟨C, T, N, t0, ty, g1, g2, g3, g4, g5, g6, g7, g8⟩ := hF _ _ hf
      have hn : narrow ty (cV ad v) = cV ad v ∧ fits ty (cV ad v) = true ∧ (T k).2.2.2 = false := by
        dsimp only at g8
        unfold mfit at hfit
        split at hfit
        · exact ⟨by rw [g8.1]; rfl, by rw [g8.1]; rfl, g8.2⟩
        · rcases hfit with rfl | rfl
          · exact ⟨by rw [g8.1]; exact (show narrow .boolean (.int (iN 0)) = .int (iN 0) by decide), by rw [g8.1]; rfl, g8.2⟩
          · exact ⟨by rw [g8.1]; exact (show narrow .boolean (.int (iN 1)) = .int (iN 1) by decide), by rw [g8.1]; rfl, g8.2⟩
        · exact ⟨by rw [g8.1]; rfl, by rw [g8.1]; rfl, g8.2⟩
        · rcases g8.1 with ⟨D, g9⟩ | g9
          · exact ⟨by rw [g9]; rfl, by rw [g9]; rfl, g8.2⟩
          · exact ⟨by rw [g9]; rfl, by rw [g9]; rfl, g8.2⟩
        · exact hfit.elim
      refine va_put (Ts := mtb) hx hb hts g3 t0 g4 g5 hown hw hP hD hS a (cW_get hc) g1 k g2 (hts _ g6) (fun _ z => z) hn.2.2 g7 hn.1 hn.2.1 (by rw [List.length_map]; exact hlt) hd (fun H1 locs1 hP1 hD1 hS1 => ?_)
      have e : (cW ad cI cZ h).set a (ad a, .inr (cj, (fs.map (cV ad)).set k (cV ad v))) = cW ad cI cZ (h.set a (.inl (cj, fs.set k v))) := by
        rw [cW_set, ← List.map_set]; rfl
      rw [e] at hP1 hD1
      exact hK _ _ _ hyp H1 locs1 ls hP1 hD1 hS1 hL
    · exact hyp.elim
  · exact hyp.elim
theorem so_iaload (C : mCtx p s m args c dC dI cI cZ cc own nL) (hF : mFT own fT) (hk : mKT own kT) (hJ : mKJ own kJ) (hd : decode cc pc = .ok (.iaload, len)) (hs : sane nL pc (.iaload) len tg = true) (hK : ∀ L st h, K L st h → mG p l e R s m args below meth c Q dC dI cI cZ ad A H0 nL (pc + len) L st h) (hG : ∀ t L st h, G t L st h → mG p l e R s m args below meth c Q dC dI cI cZ ad A H0 nL t L st h) (hyp : stp fT kT kJ (.iaload) tg pc L st h K G) : mG p l e R s m args below meth c Q dC dI cI cZ ad A H0 nL pc L st h := by
  obtain ⟨hx, hb, hown, hts, hw, hml, hnst⟩ := C
  obtain rfl : len = 1 := by simpa [sane] using hs
  intro H locs ls hP hD hS hL
  unfold stp at hyp
  dsimp only at hyp
  split at hyp
  · split at hyp
    · rename_i n f hc
      obtain ⟨⟨h1, h2, h3⟩, hyp⟩ := hyp
      obtain ⟨h4, h5⟩ := iN_in h2 h3 h1
      refine va_iald hx hb hw hP _ 0 (cW_get hc) rfl h4 hd ?_
      rw [h5]
      exact hK _ _ _ hyp H locs ls hP hD hS hL
    · exact hyp.elim
  · exact hyp.elim
theorem so_baload (C : mCtx p s m args c dC dI cI cZ cc own nL) (hF : mFT own fT) (hk : mKT own kT) (hJ : mKJ own kJ) (hd : decode cc pc = .ok (.baload, len)) (hs : sane nL pc (.baload) len tg = true) (hK : ∀ L st h, K L st h → mG p l e R s m args below meth c Q dC dI cI cZ ad A H0 nL (pc + len) L st h) (hG : ∀ t L st h, G t L st h → mG p l e R s m args below meth c Q dC dI cI cZ ad A H0 nL t L st h) (hyp : stp fT kT kJ (.baload) tg pc L st h K G) : mG p l e R s m args below meth c Q dC dI cI cZ ad A H0 nL pc L st h := by
  obtain ⟨hx, hb, hown, hts, hw, hml, hnst⟩ := C
  obtain rfl : len = 1 := by simpa [sane] using hs
  intro H locs ls hP hD hS hL
  unfold stp at hyp
  dsimp only at hyp
  split at hyp
  · split at hyp
    · rename_i n f hc
      obtain ⟨⟨h1, h2, h3⟩, hyp⟩ := hyp
      obtain ⟨h4, h5⟩ := iN_in h2 h3 h1
      refine va_zald hx hb hw hP _ 1 (cW_get hc) rfl h4 hd ?_
      rw [h5]
      exact hK _ _ _ hyp H locs ls hP hD hS hL
    · exact hyp.elim
  · exact hyp.elim
theorem so_iastore (C : mCtx p s m args c dC dI cI cZ cc own nL) (hF : mFT own fT) (hk : mKT own kT) (hJ : mKJ own kJ) (hd : decode cc pc = .ok (.iastore, len)) (hs : sane nL pc (.iastore) len tg = true) (hK : ∀ L st h, K L st h → mG p l e R s m args below meth c Q dC dI cI cZ ad A H0 nL (pc + len) L st h) (hG : ∀ t L st h, G t L st h → mG p l e R s m args below meth c Q dC dI cI cZ ad A H0 nL t L st h) (hyp : stp fT kT kJ (.iastore) tg pc L st h K G) : mG p l e R s m args below meth c Q dC dI cI cZ ad A H0 nL pc L st h := by
  obtain ⟨hx, hb, hown, hts, hw, hml, hnst⟩ := C
  obtain rfl : len = 1 := by simpa [sane] using hs
  intro H locs ls hP hD hS hL
  unfold stp at hyp
  dsimp only at hyp
  split at hyp
  · rename_i v i a r
    split at hyp
    · rename_i n f hc
      obtain ⟨⟨h1, h2, h3⟩, hyp⟩ := hyp
      obtain ⟨h4, h5⟩ := iN_in h2 h3 h1
      refine va_iast hx hb hw hP hD hS _ 0 (cW_get hc) rfl h4 hd (fun H1 locs1 hP1 hD1 hS1 => ?_)
      have e : (cW ad cI cZ h).set a (ad a, .inl (cond false cZ cI, n, .inl (upd (fun j => iN (f j)) (iN i).toNatClampNeg (iN v)))) = cW ad cI cZ (h.set a (.inr (false, n, mup f i.toNat v))) := by
        rw [cW_set, cC_arr, h5]
      rw [e] at hP1 hD1
      exact hK _ _ _ hyp H1 locs1 ls hP1 hD1 hS1 hL
    · exact hyp.elim
  · exact hyp.elim
theorem so_bastore (C : mCtx p s m args c dC dI cI cZ cc own nL) (hF : mFT own fT) (hk : mKT own kT) (hJ : mKJ own kJ) (hd : decode cc pc = .ok (.bastore, len)) (hs : sane nL pc (.bastore) len tg = true) (hK : ∀ L st h, K L st h → mG p l e R s m args below meth c Q dC dI cI cZ ad A H0 nL (pc + len) L st h) (hG : ∀ t L st h, G t L st h → mG p l e R s m args below meth c Q dC dI cI cZ ad A H0 nL t L st h) (hyp : stp fT kT kJ (.bastore) tg pc L st h K G) : mG p l e R s m args below meth c Q dC dI cI cZ ad A H0 nL pc L st h := by
  obtain ⟨hx, hb, hown, hts, hw, hml, hnst⟩ := C
  obtain rfl : len = 1 := by simpa [sane] using hs
  intro H locs ls hP hD hS hL
  unfold stp at hyp
  dsimp only at hyp
  split at hyp
  · rename_i v i a r
    split at hyp
    · rename_i n f hc
      obtain ⟨⟨h0, h1, h2, h3⟩, hyp⟩ := hyp
      obtain ⟨h4, h5⟩ := iN_in h2 h3 h1
      refine va_zast hx hb hw hP hD hS _ 1 (cW_get hc) rfl h4 hd (fun H1 locs1 hP1 hD1 hS1 => ?_)
      have e0 : vp_nar .boolean (iN v) = iN v := by rcases h0 with rfl | rfl <;> decide
      rw [e0] at hP1 hD1
      have e : (cW ad cI cZ h).set a (ad a, .inl (cond true cZ cI, n, .inl (upd (fun j => iN (f j)) (iN i).toNatClampNeg (iN v)))) = cW ad cI cZ (h.set a (.inr (true, n, mup f i.toNat v))) := by
        rw [cW_set, cC_arr, h5]
      rw [e] at hP1 hD1
      exact hK _ _ _ hyp H1 locs1 ls hP1 hD1 hS1 hL
    · exact hyp.elim
  · exact hyp.elim
theorem so_alen (C : mCtx p s m args c dC dI cI cZ cc own nL) (hF : mFT own fT) (hk : mKT own kT) (hJ : mKJ own kJ) (hd : decode cc pc = .ok (.arraylength, len)) (hs : sane nL pc (.arraylength) len tg = true) (hK : ∀ L st h, K L st h → mG p l e R s m args below meth c Q dC dI cI cZ ad A H0 nL (pc + len) L st h) (hG : ∀ t L st h, G t L st h → mG p l e R s m args below meth c Q dC dI cI cZ ad A H0 nL t L st h) (hyp : stp fT kT kJ (.arraylength) tg pc L st h K G) : mG p l e R s m args below meth c Q dC dI cI cZ ad A H0 nL pc L st h := by
  obtain ⟨hx, hb, hown, hts, hw, hml, hnst⟩ := C
  obtain rfl : len = 1 := by simpa [sane] using hs
  intro H locs ls hP hD hS hL
  unfold stp at hyp
  dsimp only at hyp
  split at hyp
  · split at hyp
    · rename_i b n f hc
      obtain ⟨h1, hyp⟩ := hyp
      cases b with
      | false => exact va_alen hx hb hw hP _ 0 (cW_get hc) rfl (iN_n n).symm hd (hK _ _ _ hyp H locs ls hP hD hS hL)
      | true => exact va_alen hx hb hw hP _ 1 (cW_get hc) rfl (iN_n n).symm hd (hK _ _ _ hyp H locs ls hP hD hS hL)
    · exact hyp.elim
  · exact hyp.elim
theorem so_tsw {d lo hi : Int} {os : Array Int} (C : mCtx p s m args c dC dI cI cZ cc own nL) (hF : mFT own fT) (hk : mKT own kT) (hJ : mKJ own kJ) (hd : decode cc pc = .ok (.tableswitch d lo hi os, len)) (hs : sane nL pc (.tableswitch d lo hi os) len tg = true) (hK : ∀ L st h, K L st h → mG p l e R s m args below meth c Q dC dI cI cZ ad A H0 nL (pc + len) L st h) (hG : ∀ t L st h, G t L st h → mG p l e R s m args below meth c Q dC dI cI cZ ad A H0 nL t L st h) (hyp : stp fT kT kJ (.tableswitch d lo hi os) tg pc L st h K G) : mG p l e R s m args below meth c Q dC dI cI cZ ad A H0 nL pc L st h := by
  obtain ⟨hx, hb, hown, hts, hw, hml, hnst⟩ := C
  intro H locs ls hP hD hS hL
  obtain ⟨z, r, rfl, hI, h1, h2⟩ := m1_e hyp
  obtain ⟨s1, s2, s3, s4, s5⟩ : 0 ≤ (pc : Int) + d ∧ inI lo ∧ inI hi ∧ hi - lo + 1 = os.size ∧ ∀ o ∈ os.toList, 0 ≤ (pc : Int) + o := by
    unfold sane at hs; exact of_decide_eq_true hs
  by_cases hz : z < lo ∨ hi < z
  · exact lv_tableOut (tgt := ((pc : Int) + d).toNat) hx hb hd (by rw [iN_t hI]; exact hz) (Int.toNat_of_nonneg s1).symm (hG _ _ _ _ (h1 hz) H locs ls hP hD hS hL)
  · have hb1 : (z - lo).toNat < os.toList.length := by rw [Array.length_toList]; omega
    have hg : os.toList[(z - lo).toNat]? = some (os.toList[(z - lo).toNat]) := List.getElem?_eq_getElem hb1
    have h0 := s5 _ (List.getElem_mem hb1)
    exact lv_tableIn (tgt := ((pc : Int) + os.toList[(z - lo).toNat]).toNat) hx hb hd (by rw [iN_t hI]; omega) (by rw [iN_t hI]; omega) (by rw [iN_t hI, ← Array.getElem?_toList]; exact hg) (Int.toNat_of_nonneg h0).symm (hG _ _ _ _ (mtsw_e h2 _ _ hg (by omega)) H locs ls hP hD hS hL)
theorem so_lsw {d : Int} {ps : Array (Int × Int)} (C : mCtx p s m args c dC dI cI cZ cc own nL) (hF : mFT own fT) (hk : mKT own kT) (hJ : mKJ own kJ) (hd : decode cc pc = .ok (.lookupswitch d ps, len)) (hs : sane nL pc (.lookupswitch d ps) len tg = true) (hK : ∀ L st h, K L st h → mG p l e R s m args below meth c Q dC dI cI cZ ad A H0 nL (pc + len) L st h) (hG : ∀ t L st h, G t L st h → mG p l e R s m args below meth c Q dC dI cI cZ ad A H0 nL t L st h) (hyp : stp fT kT kJ (.lookupswitch d ps) tg pc L st h K G) : mG p l e R s m args below meth c Q dC dI cI cZ ad A H0 nL pc L st h := by
  obtain ⟨hx, hb, hown, hts, hw, hml, hnst⟩ := C
  intro H locs ls hP hD hS hL
  obtain ⟨z, r, rfl, hI, h1, h2⟩ := m1_e hyp
  have hs' := hs
  unfold sane at hs'
  simp only [Bool.and_eq_true, decide_eq_true_eq] at hs'
  obtain ⟨⟨s1, s2⟩, s3⟩ := hs'
  have key : ∀ l : List (Int × Int), (∃ q ∈ l, z = q.1 ∧ Op.lookupswitch.offset l d z = q.2) ∨ ((∀ q ∈ l, z ≠ q.1) ∧ Op.lookupswitch.offset l d z = d) := by
    intro l
    induction l with
    | nil => exact Or.inr ⟨fun q hq => (List.not_mem_nil hq).elim, rfl⟩
    | cons a l ih =>
      obtain ⟨k, o⟩ := a
      show (∃ q ∈ (k, o) :: l, z = q.1 ∧ (if k = z then o else Op.lookupswitch.offset l d z) = q.2) ∨ ((∀ q ∈ (k, o) :: l, z ≠ q.1) ∧ (if k = z then o else Op.lookupswitch.offset l d z) = d)
      by_cases hk1 : k = z
      · exact Or.inl ⟨(k, o), List.mem_cons_self, hk1.symm, by rw [if_pos hk1]⟩
      · rw [if_neg hk1]
        rcases ih with ⟨q, hq, e1, e2⟩ | ⟨e1, e2⟩
        · exact Or.inl ⟨q, List.mem_cons_of_mem _ hq, e1, e2⟩
        · refine Or.inr ⟨fun q hq => ?_, e2⟩
          rcases List.mem_cons.mp hq with rfl | hq
          · exact fun z1 => hk1 z1.symm
          · exact e1 q hq
  rcases key ps.toList with ⟨q, hq, hz, ho⟩ | ⟨hz, ho⟩
  · exact lv_lookup (tgt := ((pc : Int) + q.2).toNat) hx hb hd s3 (by rw [iN_t hI]; exact ho) (Int.toNat_of_nonneg (s2 q hq).1).symm (hG _ _ _ _ (mlsw_e h2 q hq hz) H locs ls hP hD hS hL)
  · exact lv_lookup (tgt := ((pc : Int) + d).toNat) hx hb hd s3 (by rw [iN_t hI]; exact ho) (Int.toNat_of_nonneg s1).symm (hG _ _ _ _ (h1 hz) H locs ls hP hD hS hL)
theorem stp_sound {i : Instr} (C : mCtx p s m args c dC dI cI cZ cc own nL) (hF : mFT own fT) (hk : mKT own kT) (hJ : mKJ own kJ) (hd : decode cc pc = .ok (i, len)) (hs : sane nL pc i len tg = true) (hK : ∀ L st h, K L st h → mG p l e R s m args below meth c Q dC dI cI cZ ad A H0 nL (pc + len) L st h) (hG : ∀ t L st h, G t L st h → mG p l e R s m args below meth c Q dC dI cI cZ ad A H0 nL t L st h) (hyp : stp fT kT kJ i tg pc L st h K G) : mG p l e R s m args below meth c Q dC dI cI cZ ad A H0 nL pc L st h := by
  cases i with
  | iconst => exact so_iconst C hF hk hJ hd hs hK hG hyp
  | bipush => exact so_bipush C hF hk hJ hd hs hK hG hyp
  | sipush => exact so_sipush C hF hk hJ hd hs hK hG hyp
  | ldc => exact so_ldc C hF hk hJ hd hs hK hG hyp
  | ldc_w => exact so_ldcw C hF hk hJ hd hs hK hG hyp
  | lconst => exact so_lconst C hF hk hJ hd hs hK hG hyp
  | ldc2_w => exact so_ldc2 C hF hk hJ hd hs hK hG hyp
  | iload => exact so_iload C hF hk hJ hd hs hK hG hyp
  | iload_n => exact so_iload_n C hF hk hJ hd hs hK hG hyp
  | lload => exact so_lload C hF hk hJ hd hs hK hG hyp
  | lload_n => exact so_lload_n C hF hk hJ hd hs hK hG hyp
  | aload => exact so_aload C hF hk hJ hd hs hK hG hyp
  | aload_n => exact so_aload_n C hF hk hJ hd hs hK hG hyp
  | istore => exact so_istore C hF hk hJ hd hs hK hG hyp
  | istore_n => exact so_istore_n C hF hk hJ hd hs hK hG hyp
  | lstore => exact so_lstore C hF hk hJ hd hs hK hG hyp
  | lstore_n => exact so_lstore_n C hF hk hJ hd hs hK hG hyp
  | astore => exact so_astore C hF hk hJ hd hs hK hG hyp
  | astore_n => exact so_astore_n C hF hk hJ hd hs hK hG hyp
  | iinc => exact so_iinc C hF hk hJ hd hs hK hG hyp
  | iadd => exact so_iadd C hF hk hJ hd hs hK hG hyp
  | isub => exact so_isub C hF hk hJ hd hs hK hG hyp
  | imul => exact so_imul C hF hk hJ hd hs hK hG hyp
  | ineg => exact so_ineg C hF hk hJ hd hs hK hG hyp
  | idiv => exact so_idiv C hF hk hJ hd hs hK hG hyp
  | irem => exact so_irem C hF hk hJ hd hs hK hG hyp
  | ishl => exact so_ishl C hF hk hJ hd hs hK hG hyp
  | ishr => exact so_ishr C hF hk hJ hd hs hK hG hyp
  | iushr => exact so_iushr C hF hk hJ hd hs hK hG hyp
  | iand => exact so_iand C hF hk hJ hd hs hK hG hyp
  | ior => exact so_ior C hF hk hJ hd hs hK hG hyp
  | i2l => exact so_i2l C hF hk hJ hd hs hK hG hyp
  | l2i => exact so_l2i C hF hk hJ hd hs hK hG hyp
  | ladd => exact so_ladd C hF hk hJ hd hs hK hG hyp
  | lmul => exact so_lmul C hF hk hJ hd hs hK hG hyp
  | ldiv => exact so_ldiv C hF hk hJ hd hs hK hG hyp
  | lrem => exact so_lrem C hF hk hJ hd hs hK hG hyp
  | dup => exact so_dup C hF hk hJ hd hs hK hG hyp
  | dup2 => exact so_dup2 C hF hk hJ hd hs hK hG hyp
  | goto => exact so_goto C hF hk hJ hd hs hK hG hyp
  | ifCond => exact so_if C hF hk hJ hd hs hK hG hyp
  | if_icmp => exact so_icmp C hF hk hJ hd hs hK hG hyp
  | getfield => exact so_getfield C hF hk hJ hd hs hK hG hyp
  | putfield => exact so_putfield C hF hk hJ hd hs hK hG hyp
  | iaload => exact so_iaload C hF hk hJ hd hs hK hG hyp
  | baload => exact so_baload C hF hk hJ hd hs hK hG hyp
  | iastore => exact so_iastore C hF hk hJ hd hs hK hG hyp
  | bastore => exact so_bastore C hF hk hJ hd hs hK hG hyp
  | arraylength => exact so_alen C hF hk hJ hd hs hK hG hyp
  | tableswitch => exact so_tsw C hF hk hJ hd hs hK hG hyp
  | lookupswitch => exact so_lsw C hF hk hJ hd hs hK hG hyp
  | _ => exact hG _ _ _ _ hyp
theorem blk_sound (C : mCtx p s m args c dC dI cI cZ cc own nL) (hF : mFT own fT) (hk : mKT own kT) (hJ : mKJ own kJ) : ∀ (l1 : List mI) (pc : Nat) (L : mL) (st : List mV) (h : mH), okb cc nL pc l1 = true → blk fT kT kJ (mG p l e R s m args below meth c Q dC dI cI cZ ad A H0 nL) pc l1 L st h → mG p l e R s m args below meth c Q dC dI cI cZ ad A H0 nL pc L st h
  | [], _, _, _, _, _, hyp => hyp
  | (i, len, tg) :: r, pc, L, st, h, ho, hyp => by
    obtain ⟨h1, h2, h3⟩ := okb_head ho
    exact stp_sound C hF hk hJ h1 h2 (fun L st h q => blk_sound C hF hk hJ r (pc + len) L st h h3 q) (fun t L st h q => q) hyp
end SO
end
section
/-! contracts of the small machine, and the rules by which one is walked -/
def rmD (d : Nat) : Room := { frames := d, cells := 0, slots := 0, locals := 32 * d }
def mPre (dC : Nat → ClassId) (dI : Nat → Nat → Nat) (cI cZ : ClassId) (ad : Nat → Nat) (sz : Nat) (As : List mV) (h : mH) : Array Value → State → Prop :=
  va_Pc (As.map (cV ad)) (fun U => U.heap.size = sz ∧ va_P (dC, dI) mcl (cW ad cI cZ h) U.heap ∧ va_K (dC, dI) mcl (mtys cI cZ) U ∧ va_D (fun _ => True) (cW ad cI cZ h) ∧ mNst U)
def mB (dC : Nat → ClassId) (dI : Nat → Nat → Nat) (cI cZ : ClassId) (ad : Nat → Nat) (A : Nat → Prop) (h : mH) (t : State) : Prop := va_P (dC, dI) mcl (cW ad cI cZ h) t.heap ∧ va_K (dC, dI) mcl (mtys cI cZ) t ∧ va_D A (cW ad cI cZ h)
abbrev mws (y : MethodName) (b : ByteArray) (nL : Nat) (ret : Option FieldType) : List Jvm.Cond := Cond.code y b nL ret :: mtb
/-- called with As in the heap h, it answers z and leaves h', with post z h' -/
def SpI (l : Launch) (d : Nat) (y : MethodName) (b : ByteArray) (nL : Nat) (ret : Option FieldType) (As : List mV) (h : mH) (post : Int → mH → Prop) : Prop :=
  ∀ (dC : Nat → ClassId) (dI : Nat → Nat → Nat) (cI cZ : ClassId) (ad : Nat → Nat) (sz : Nat), Met l y (mws y b nL ret) (rmD d) (mPre dC dI cI cZ ad sz As h) (va_Qi (fun (r : Int32) (u : mH) => ∃ z : Int, r = iN z ∧ post z u) (mB dC dI cI cZ ad (va_A (cW ad cI cZ h) sz)) (va_A (cW ad cI cZ h) sz)) 0 0 (va_A (cW ad cI cZ h) sz)
def SpJ (l : Launch) (d : Nat) (y : MethodName) (b : ByteArray) (nL : Nat) (ret : Option FieldType) (As : List mV) (h : mH) (post : Int → mH → Prop) : Prop :=
  ∀ (dC : Nat → ClassId) (dI : Nat → Nat → Nat) (cI cZ : ClassId) (ad : Nat → Nat) (sz : Nat), Met l y (mws y b nL ret) (rmD d) (mPre dC dI cI cZ ad sz As h) (va_Ql (fun (r : Int64) (u : mH) => ∃ z : Int, r = jN z ∧ post z u) (mB dC dI cI cZ ad (va_A (cW ad cI cZ h) sz)) (va_A (cW ad cI cZ h) sz)) 0 0 (va_A (cW ad cI cZ h) sz)
def SpV (l : Launch) (d : Nat) (y : MethodName) (b : ByteArray) (nL : Nat) (ret : Option FieldType) (As : List mV) (h : mH) (post : mH → Prop) : Prop :=
  ∀ (dC : Nat → ClassId) (dI : Nat → Nat → Nat) (cI cZ : ClassId) (ad : Nat → Nat) (sz : Nat), Met l y (mws y b nL ret) (rmD d) (mPre dC dI cI cZ ad sz As h) (va_Qv (fun u : mH => post u) (mB dC dI cI cZ ad (va_A (cW ad cI cZ h) sz)) (va_A (cW ad cI cZ h) sz)) 0 0 (va_A (cW ad cI cZ h) sz)
/-- what the tables say of a method -/
def mfA (y : MethodName) (b : ByteArray) (nL : Nat) (ret : Option FieldType) (n : Nat) : Prop := Cond.initialized y.cls ∈ mtb ∧ Cond.code y b nL ret ∈ mtb ∧ (y.cls ≠ "java/lang/invoke/MethodHandle" ∧ y.cls ≠ "java/lang/invoke/VarHandle" ∧ (parseMethodDescriptor y.desc).map (fun d => d.parameters.length) = some n) ∧ nL ≤ 13 ∧ plainName y.cls = true
def mfV (y : MethodName) (b : ByteArray) (nL : Nat) (ret : Option FieldType) (n : Nat) : Prop := mfA y b nL ret n ∧ Cond.instanceMethod y ∈ mtb ∧ Cond.selects y.cls y y ∈ mtb
def mfS (y : MethodName) (b : ByteArray) (nL : Nat) (ret : Option FieldType) (n : Nat) : Prop := mfA y b nL ret n ∧ Cond.static y ∈ mtb
def mlk (own : String) (idx : Nat) (y : MethodName) : Prop := Cond.methodLink own idx y ∈ mtb
/-- who receives -/
def mrv (h : mH) (a : Nat) (C : String) : Prop := ∃ (ci : Nat) (fs : List mV) (q : vw_C), h[a]? = some (.inl (ci, fs)) ∧ mcl[ci]? = some q ∧ q.1 = C
theorem tbl_good : ∀ w ∈ mtb, goodWord w = true := fun _ h => (List.mem_filter.mp h).2
theorem tbl_in {ws : List Jvm.Cond} (h : ∀ w ∈ ws, w ∈ mtb) : GoodIn mtb ws := fun w hw => ⟨h w hw, good_of_word (tbl_good w (h w hw))⟩
theorem mFB {dC : Nat → ClassId} {dI : Nat → Nat → Nat} {cI cZ : ClassId} {ad : Nat → Nat} {sz : Nat} {As : List mV} {h : mH} : FrameBlind (mPre dC dI cI cZ ad sz As h) := fun a U g mk q => by
  obtain ⟨q0, q1, qP, qK, qD, qN⟩ := q
  exact ⟨q0, q1, qP, va_K.moved (u := U) (U := U.calling g mk a) (Vm.Alike.refl U.vm) qK, qD, va_Nw.same (U := U.calling g mk a) rfl rfl qN.1, va_Nw.same (U := U.calling g mk a) rfl rfl qN.2⟩
/-- what of the tables the calls of Math and System need -/
def mJdk : Prop := (Cond.static Lib.Math.max.name ∈ mtb ∧ Cond.static Lib.Math.min.name ∈ mtb ∧ Cond.static Lib.Math.abs.name ∈ mtb) ∧ Cond.initialized "java/lang/Math" ∈ mtb ∧ (Cond.code Lib.Math.max.name Lib.Math.max.code 2 (some .int) ∈ mtb ∧ Cond.code Lib.Math.min.name Lib.Math.min.code 2 (some .int) ∈ mtb ∧ Cond.code Lib.Math.abs.name Lib.Math.abs.code 1 (some .int) ∈ mtb) ∧ Cond.native arraycopyName ∈ mtb ∧ Cond.static arraycopyName ∈ mtb ∧ Cond.initialized "java/lang/System" ∈ mtb
end
section
/-! what the tables say of methods, links, fields, numbers: printed by a program of mine -/
theorem ini_X0 : Cond.initialized RX0 ∈ mtb := mtb_in (List.mem_of_getElem? (i := 75) (by decide +kernel)) rfl
theorem ini_X1 : Cond.initialized RX1 ∈ mtb := mtb_in (List.mem_of_getElem? (i := 74) (by decide +kernel)) rfl
theorem ini_X2 : Cond.initialized RX2 ∈ mtb := mtb_in (List.mem_of_getElem? (i := 73) (by decide +kernel)) rfl
theorem ini_X3 : Cond.initialized RX3 ∈ mtb := mtb_in (List.mem_of_getElem? (i := 72) (by decide +kernel)) rfl
theorem ini_X4 : Cond.initialized RX4 ∈ mtb := mtb_in (List.mem_of_getElem? (i := 70) (by decide +kernel)) rfl
theorem ini_X5 : Cond.initialized RX5 ∈ mtb := mtb_in (List.mem_of_getElem? (i := 71) (by decide +kernel)) rfl
theorem ini_X6 : Cond.initialized RX6 ∈ mtb := mtb_in (List.mem_of_getElem? (i := 69) (by decide +kernel)) rfl
theorem ini_X7 : Cond.initialized RX7 ∈ mtb := mtb_in (List.mem_of_getElem? (i := 76) (by decide +kernel)) rfl
theorem ini_J6 : Cond.initialized RJ6 ∈ mtb := mtb_in (List.mem_of_getElem? (i := 79) (by decide +kernel)) rfl
theorem ini_J9 : Cond.initialized RJ9 ∈ mtb := mtb_in (List.mem_of_getElem? (i := 77) (by decide +kernel)) rfl
theorem ini_J10 : Cond.initialized RJ10 ∈ mtb := mtb_in (List.mem_of_getElem? (i := 78) (by decide +kernel)) rfl
theorem jdk_ok : mJdk := by
  refine ⟨⟨?_, ?_, ?_⟩, ini_J9, ⟨?_, ?_, ?_⟩, ?_, ?_, ini_J10⟩
  · exact mtb_in (List.mem_of_getElem? (i := 491) (by decide +kernel)) rfl
  · exact mtb_in (List.mem_of_getElem? (i := 359) (by decide +kernel)) rfl
  · exact mtb_in (List.mem_of_getElem? (i := 527) (by decide +kernel)) rfl
  · exact mtb_in (List.mem_of_getElem? (i := 492) (by decide +kernel)) rfl
  · exact mtb_in (List.mem_of_getElem? (i := 360) (by decide +kernel)) rfl
  · exact mtb_in (List.mem_of_getElem? (i := 528) (by decide +kernel)) rfl
  · exact mtb_in (List.mem_of_getElem? (i := 488) (by decide +kernel)) rfl
  · exact mtb_in (List.mem_of_getElem? (i := 487) (by decide +kernel)) rfl
theorem mfA_X0_drop : mfA yX0_drop cX0_drop 2 none 0 := ⟨ini_X0, mtb_in (List.mem_of_getElem? (i := 260) (by decide +kernel)) rfl, by decide +kernel, by decide, by decide +kernel⟩
theorem mf_X0_drop : mfV yX0_drop cX0_drop 2 none 0 := ⟨mfA_X0_drop, mtb_in (List.mem_of_getElem? (i := 258) (by decide +kernel)) rfl, mtb_in (List.mem_of_getElem? (i := 259) (by decide +kernel)) rfl⟩
theorem mfA_X0_add : mfA yX0_add cX0_add 4 (some .boolean) 3 := ⟨ini_X0, mtb_in (List.mem_of_getElem? (i := 710) (by decide +kernel)) rfl, by decide +kernel, by decide, by decide +kernel⟩
theorem mf_X0_add : mfV yX0_add cX0_add 4 (some .boolean) 3 := ⟨mfA_X0_add, mtb_in (List.mem_of_getElem? (i := 708) (by decide +kernel)) rfl, mtb_in (List.mem_of_getElem? (i := 709) (by decide +kernel)) rfl⟩
theorem mfA_X0_errorsBehind : mfA yX0_errorsBehind cX0_errorsBehind 5 (some .int) 1 := ⟨ini_X0, mtb_in (List.mem_of_getElem? (i := 725) (by decide +kernel)) rfl, by decide +kernel, by decide, by decide +kernel⟩
theorem mf_X0_errorsBehind : mfV yX0_errorsBehind cX0_errorsBehind 5 (some .int) 1 := ⟨mfA_X0_errorsBehind, mtb_in (List.mem_of_getElem? (i := 723) (by decide +kernel)) rfl, mtb_in (List.mem_of_getElem? (i := 724) (by decide +kernel)) rfl⟩
theorem mfA_X0_widestDay : mfA yX0_widestDay cX0_widestDay 5 (some .int) 0 := ⟨ini_X0, mtb_in (List.mem_of_getElem? (i := 768) (by decide +kernel)) rfl, by decide +kernel, by decide, by decide +kernel⟩
theorem mf_X0_widestDay : mfV yX0_widestDay cX0_widestDay 5 (some .int) 0 := ⟨mfA_X0_widestDay, mtb_in (List.mem_of_getElem? (i := 766) (by decide +kernel)) rfl, mtb_in (List.mem_of_getElem? (i := 767) (by decide +kernel)) rfl⟩
theorem mfA_X0_rows : mfA yX0_rows cX0_rows 3 (some .int) 0 := ⟨ini_X0, mtb_in (List.mem_of_getElem? (i := 743) (by decide +kernel)) rfl, by decide +kernel, by decide, by decide +kernel⟩
theorem mf_X0_rows : mfV yX0_rows cX0_rows 3 (some .int) 0 := ⟨mfA_X0_rows, mtb_in (List.mem_of_getElem? (i := 741) (by decide +kernel)) rfl, mtb_in (List.mem_of_getElem? (i := 742) (by decide +kernel)) rfl⟩
theorem mfA_X0_rowsFrom : mfA yX0_rowsFrom cX0_rowsFrom 6 (some .int) 2 := ⟨ini_X0, mtb_in (List.mem_of_getElem? (i := 747) (by decide +kernel)) rfl, by decide +kernel, by decide, by decide +kernel⟩
theorem mf_X0_rowsFrom : mfV yX0_rowsFrom cX0_rowsFrom 6 (some .int) 2 := ⟨mfA_X0_rowsFrom, mtb_in (List.mem_of_getElem? (i := 746) (by decide +kernel)) rfl, mtb_in (List.mem_of_getElem? (i := 31) (by decide +kernel)) rfl⟩
theorem mfA_X0_allowedBehind : mfA yX0_allowedBehind cX0_allowedBehind 2 (some .int) 1 := ⟨ini_X0, mtb_in (List.mem_of_getElem? (i := 732) (by decide +kernel)) rfl, by decide +kernel, by decide, by decide +kernel⟩
theorem mf_X0_allowedBehind : mfV yX0_allowedBehind cX0_allowedBehind 2 (some .int) 1 := ⟨mfA_X0_allowedBehind, mtb_in (List.mem_of_getElem? (i := 731) (by decide +kernel)) rfl, mtb_in (List.mem_of_getElem? (i := 30) (by decide +kernel)) rfl⟩
theorem mfA_X0_within : mfA yX0_within cX0_within 4 (some .int) 2 := ⟨ini_X0, mtb_in (List.mem_of_getElem? (i := 713) (by decide +kernel)) rfl, by decide +kernel, by decide, by decide +kernel⟩
theorem mf_X0_within : mfS yX0_within cX0_within 4 (some .int) 2 := ⟨mfA_X0_within, mtb_in (List.mem_of_getElem? (i := 712) (by decide +kernel)) rfl⟩
theorem mfA_X0_aDayOn : mfA yX0_aDayOn cX0_aDayOn 2 (some .int) 1 := ⟨ini_X0, mtb_in (List.mem_of_getElem? (i := 728) (by decide +kernel)) rfl, by decide +kernel, by decide, by decide +kernel⟩
theorem mf_X0_aDayOn : mfS yX0_aDayOn cX0_aDayOn 2 (some .int) 1 := ⟨mfA_X0_aDayOn, mtb_in (List.mem_of_getElem? (i := 727) (by decide +kernel)) rfl⟩
theorem mfA_X0_aDayBack : mfA yX0_aDayBack cX0_aDayBack 2 (some .int) 1 := ⟨ini_X0, mtb_in (List.mem_of_getElem? (i := 735) (by decide +kernel)) rfl, by decide +kernel, by decide, by decide +kernel⟩
theorem mf_X0_aDayBack : mfS yX0_aDayBack cX0_aDayBack 2 (some .int) 1 := ⟨mfA_X0_aDayBack, mtb_in (List.mem_of_getElem? (i := 734) (by decide +kernel)) rfl⟩
theorem mfA_X0_swapRows : mfA yX0_swapRows cX0_swapRows 2 none 0 := ⟨ini_X0, mtb_in (List.mem_of_getElem? (i := 760) (by decide +kernel)) rfl, by decide +kernel, by decide, by decide +kernel⟩
theorem mf_X0_swapRows : mfV yX0_swapRows cX0_swapRows 2 none 0 := ⟨mfA_X0_swapRows, mtb_in (List.mem_of_getElem? (i := 759) (by decide +kernel)) rfl, mtb_in (List.mem_of_getElem? (i := 34) (by decide +kernel)) rfl⟩
theorem mfA_X0_laterAt : mfA yX0_laterAt cX0_laterAt 3 (some .int) 1 := ⟨ini_X0, mtb_in (List.mem_of_getElem? (i := 751) (by decide +kernel)) rfl, by decide +kernel, by decide, by decide +kernel⟩
theorem mf_X0_laterAt : mfV yX0_laterAt cX0_laterAt 3 (some .int) 1 := ⟨mfA_X0_laterAt, mtb_in (List.mem_of_getElem? (i := 750) (by decide +kernel)) rfl, mtb_in (List.mem_of_getElem? (i := 32) (by decide +kernel)) rfl⟩
theorem mfA_X0_put : mfA yX0_put cX0_put 4 none 2 := ⟨ini_X0, mtb_in (List.mem_of_getElem? (i := 756) (by decide +kernel)) rfl, by decide +kernel, by decide, by decide +kernel⟩
theorem mf_X0_put : mfV yX0_put cX0_put 4 none 2 := ⟨mfA_X0_put, mtb_in (List.mem_of_getElem? (i := 755) (by decide +kernel)) rfl, mtb_in (List.mem_of_getElem? (i := 33) (by decide +kernel)) rfl⟩
theorem mfA_X1_weigh : mfA yX1_weigh cX1_weigh 6 none 3 := ⟨ini_X1, mtb_in (List.mem_of_getElem? (i := 597) (by decide +kernel)) rfl, by decide +kernel, by decide, by decide +kernel⟩
theorem mf_X1_weigh : mfV yX1_weigh cX1_weigh 6 none 3 := ⟨mfA_X1_weigh, mtb_in (List.mem_of_getElem? (i := 595) (by decide +kernel)) rfl, mtb_in (List.mem_of_getElem? (i := 596) (by decide +kernel)) rfl⟩
theorem mfA_X1_fillRow : mfA yX1_fillRow cX1_fillRow 7 none 3 := ⟨ini_X1, mtb_in (List.mem_of_getElem? (i := 604) (by decide +kernel)) rfl, by decide +kernel, by decide, by decide +kernel⟩
theorem mf_X1_fillRow : mfV yX1_fillRow cX1_fillRow 7 none 3 := ⟨mfA_X1_fillRow, mtb_in (List.mem_of_getElem? (i := 603) (by decide +kernel)) rfl, mtb_in (List.mem_of_getElem? (i := 17) (by decide +kernel)) rfl⟩
theorem mfA_X1_best : mfA yX1_best cX1_best 8 (some .int) 4 := ⟨ini_X1, mtb_in (List.mem_of_getElem? (i := 612) (by decide +kernel)) rfl, by decide +kernel, by decide, by decide +kernel⟩
theorem mf_X1_best : mfV yX1_best cX1_best 8 (some .int) 4 := ⟨mfA_X1_best, mtb_in (List.mem_of_getElem? (i := 611) (by decide +kernel)) rfl, mtb_in (List.mem_of_getElem? (i := 19) (by decide +kernel)) rfl⟩
theorem mfA_X1_turned : mfA yX1_turned cX1_turned 9 (some .int) 4 := ⟨ini_X1, mtb_in (List.mem_of_getElem? (i := 616) (by decide +kernel)) rfl, by decide +kernel, by decide, by decide +kernel⟩
theorem mf_X1_turned : mfV yX1_turned cX1_turned 9 (some .int) 4 := ⟨mfA_X1_turned, mtb_in (List.mem_of_getElem? (i := 615) (by decide +kernel)) rfl, mtb_in (List.mem_of_getElem? (i := 20) (by decide +kernel)) rfl⟩
theorem mfA_X1_reduce : mfA yX1_reduce cX1_reduce 2 none 0 := ⟨ini_X1, mtb_in (List.mem_of_getElem? (i := 635) (by decide +kernel)) rfl, by decide +kernel, by decide, by decide +kernel⟩
theorem mf_X1_reduce : mfV yX1_reduce cX1_reduce 2 none 0 := ⟨mfA_X1_reduce, mtb_in (List.mem_of_getElem? (i := 634) (by decide +kernel)) rfl, mtb_in (List.mem_of_getElem? (i := 23) (by decide +kernel)) rfl⟩
theorem mfA_X1_swapRows : mfA yX1_swapRows cX1_swapRows 2 none 0 := ⟨ini_X1, mtb_in (List.mem_of_getElem? (i := 628) (by decide +kernel)) rfl, by decide +kernel, by decide, by decide +kernel⟩
theorem mf_X1_swapRows : mfV yX1_swapRows cX1_swapRows 2 none 0 := ⟨mfA_X1_swapRows, mtb_in (List.mem_of_getElem? (i := 627) (by decide +kernel)) rfl, mtb_in (List.mem_of_getElem? (i := 22) (by decide +kernel)) rfl⟩
theorem mfA_X1_laterAt : mfA yX1_laterAt cX1_laterAt 4 (some .int) 2 := ⟨ini_X1, mtb_in (List.mem_of_getElem? (i := 622) (by decide +kernel)) rfl, by decide +kernel, by decide, by decide +kernel⟩
theorem mf_X1_laterAt : mfV yX1_laterAt cX1_laterAt 4 (some .int) 2 := ⟨mfA_X1_laterAt, mtb_in (List.mem_of_getElem? (i := 621) (by decide +kernel)) rfl, mtb_in (List.mem_of_getElem? (i := 21) (by decide +kernel)) rfl⟩
theorem mfA_X1_put : mfA yX1_put cX1_put 5 none 3 := ⟨ini_X1, mtb_in (List.mem_of_getElem? (i := 608) (by decide +kernel)) rfl, by decide +kernel, by decide, by decide +kernel⟩
theorem mf_X1_put : mfV yX1_put cX1_put 5 none 3 := ⟨mfA_X1_put, mtb_in (List.mem_of_getElem? (i := 607) (by decide +kernel)) rfl, mtb_in (List.mem_of_getElem? (i := 18) (by decide +kernel)) rfl⟩
theorem mfA_X2_forCandles : mfA yX2_forCandles cX2_forCandles 3 none 2 := ⟨ini_X2, mtb_in (List.mem_of_getElem? (i := 643) (by decide +kernel)) rfl, by decide +kernel, by decide, by decide +kernel⟩
theorem mf_X2_forCandles : mfV yX2_forCandles cX2_forCandles 3 none 2 := ⟨mfA_X2_forCandles, mtb_in (List.mem_of_getElem? (i := 641) (by decide +kernel)) rfl, mtb_in (List.mem_of_getElem? (i := 642) (by decide +kernel)) rfl⟩
theorem mfA_X2_forFreedom : mfA yX2_forFreedom cX2_forFreedom 4 none 3 := ⟨ini_X2, mtb_in (List.mem_of_getElem? (i := 691) (by decide +kernel)) rfl, by decide +kernel, by decide, by decide +kernel⟩
theorem mf_X2_forFreedom : mfV yX2_forFreedom cX2_forFreedom 4 none 3 := ⟨mfA_X2_forFreedom, mtb_in (List.mem_of_getElem? (i := 689) (by decide +kernel)) rfl, mtb_in (List.mem_of_getElem? (i := 690) (by decide +kernel)) rfl⟩
theorem mfA_X2_make : mfA yX2_make cX2_make 8 none 3 := ⟨ini_X2, mtb_in (List.mem_of_getElem? (i := 648) (by decide +kernel)) rfl, by decide +kernel, by decide, by decide +kernel⟩
theorem mf_X2_make : mfV yX2_make cX2_make 8 none 3 := ⟨mfA_X2_make, mtb_in (List.mem_of_getElem? (i := 647) (by decide +kernel)) rfl, mtb_in (List.mem_of_getElem? (i := 24) (by decide +kernel)) rfl⟩
theorem mfA_X2_restBehind : mfA yX2_restBehind cX2_restBehind 3 (some .int) 3 := ⟨ini_X2, mtb_in (List.mem_of_getElem? (i := 653) (by decide +kernel)) rfl, by decide +kernel, by decide, by decide +kernel⟩
theorem mf_X2_restBehind : mfS yX2_restBehind cX2_restBehind 3 (some .int) 3 := ⟨mfA_X2_restBehind, mtb_in (List.mem_of_getElem? (i := 652) (by decide +kernel)) rfl⟩
theorem mfA_X2_best : mfA yX2_best cX2_best 7 (some .int) 3 := ⟨ini_X2, mtb_in (List.mem_of_getElem? (i := 668) (by decide +kernel)) rfl, by decide +kernel, by decide, by decide +kernel⟩
theorem mf_X2_best : mfV yX2_best cX2_best 7 (some .int) 3 := ⟨mfA_X2_best, mtb_in (List.mem_of_getElem? (i := 667) (by decide +kernel)) rfl, mtb_in (List.mem_of_getElem? (i := 27) (by decide +kernel)) rfl⟩
theorem mfA_X2_gain : mfA yX2_gain cX2_gain 7 (some .int) 4 := ⟨ini_X2, mtb_in (List.mem_of_getElem? (i := 672) (by decide +kernel)) rfl, by decide +kernel, by decide, by decide +kernel⟩
theorem mf_X2_gain : mfV yX2_gain cX2_gain 7 (some .int) 4 := ⟨mfA_X2_gain, mtb_in (List.mem_of_getElem? (i := 671) (by decide +kernel)) rfl, mtb_in (List.mem_of_getElem? (i := 28) (by decide +kernel)) rfl⟩
theorem mfA_X2_swapRows : mfA yX2_swapRows cX2_swapRows 2 none 0 := ⟨ini_X2, mtb_in (List.mem_of_getElem? (i := 663) (by decide +kernel)) rfl, by decide +kernel, by decide, by decide +kernel⟩
theorem mf_X2_swapRows : mfV yX2_swapRows cX2_swapRows 2 none 0 := ⟨mfA_X2_swapRows, mtb_in (List.mem_of_getElem? (i := 662) (by decide +kernel)) rfl, mtb_in (List.mem_of_getElem? (i := 26) (by decide +kernel)) rfl⟩
theorem mfA_X2_laterAt : mfA yX2_laterAt cX2_laterAt 3 (some .int) 1 := ⟨ini_X2, mtb_in (List.mem_of_getElem? (i := 677) (by decide +kernel)) rfl, by decide +kernel, by decide, by decide +kernel⟩
theorem mf_X2_laterAt : mfV yX2_laterAt cX2_laterAt 3 (some .int) 1 := ⟨mfA_X2_laterAt, mtb_in (List.mem_of_getElem? (i := 676) (by decide +kernel)) rfl, mtb_in (List.mem_of_getElem? (i := 29) (by decide +kernel)) rfl⟩
theorem mfA_X2_put : mfA yX2_put cX2_put 4 none 2 := ⟨ini_X2, mtb_in (List.mem_of_getElem? (i := 659) (by decide +kernel)) rfl, by decide +kernel, by decide, by decide +kernel⟩
theorem mf_X2_put : mfV yX2_put cX2_put 4 none 2 := ⟨mfA_X2_put, mtb_in (List.mem_of_getElem? (i := 658) (by decide +kernel)) rfl, mtb_in (List.mem_of_getElem? (i := 25) (by decide +kernel)) rfl⟩
theorem mfA_X3_begin : mfA yX3_begin cX3_begin 3 none 1 := ⟨ini_X3, mtb_in (List.mem_of_getElem? (i := 279) (by decide +kernel)) rfl, by decide +kernel, by decide, by decide +kernel⟩
theorem mf_X3_begin : mfV yX3_begin cX3_begin 3 none 1 := ⟨mfA_X3_begin, mtb_in (List.mem_of_getElem? (i := 277) (by decide +kernel)) rfl, mtb_in (List.mem_of_getElem? (i := 278) (by decide +kernel)) rfl⟩
theorem mfA_X3_copy : mfA yX3_copy cX3_copy 2 none 1 := ⟨ini_X3, mtb_in (List.mem_of_getElem? (i := 816) (by decide +kernel)) rfl, by decide +kernel, by decide, by decide +kernel⟩
theorem mf_X3_copy : mfV yX3_copy cX3_copy 2 none 1 := ⟨mfA_X3_copy, mtb_in (List.mem_of_getElem? (i := 814) (by decide +kernel)) rfl, mtb_in (List.mem_of_getElem? (i := 815) (by decide +kernel)) rfl⟩
theorem mfA_X3_day : mfA yX3_day cX3_day 1 (some .int) 0 := ⟨ini_X3, mtb_in (List.mem_of_getElem? (i := 462) (by decide +kernel)) rfl, by decide +kernel, by decide, by decide +kernel⟩
theorem mf_X3_day : mfV yX3_day cX3_day 1 (some .int) 0 := ⟨mfA_X3_day, mtb_in (List.mem_of_getElem? (i := 460) (by decide +kernel)) rfl, mtb_in (List.mem_of_getElem? (i := 461) (by decide +kernel)) rfl⟩
theorem mfA_X3_rest : mfA yX3_rest cX3_rest 1 (some .int) 0 := ⟨ini_X3, mtb_in (List.mem_of_getElem? (i := 470) (by decide +kernel)) rfl, by decide +kernel, by decide, by decide +kernel⟩
theorem mf_X3_rest : mfV yX3_rest cX3_rest 1 (some .int) 0 := ⟨mfA_X3_rest, mtb_in (List.mem_of_getElem? (i := 468) (by decide +kernel)) rfl, mtb_in (List.mem_of_getElem? (i := 469) (by decide +kernel)) rfl⟩
theorem mfA_X3_error : mfA yX3_error cX3_error 1 (some .int) 0 := ⟨ini_X3, mtb_in (List.mem_of_getElem? (i := 474) (by decide +kernel)) rfl, by decide +kernel, by decide, by decide +kernel⟩
theorem mf_X3_error : mfV yX3_error cX3_error 1 (some .int) 0 := ⟨mfA_X3_error, mtb_in (List.mem_of_getElem? (i := 472) (by decide +kernel)) rfl, mtb_in (List.mem_of_getElem? (i := 473) (by decide +kernel)) rfl⟩
theorem mfA_X3_candles : mfA yX3_candles cX3_candles 1 (some .int) 0 := ⟨ini_X3, mtb_in (List.mem_of_getElem? (i := 496) (by decide +kernel)) rfl, by decide +kernel, by decide, by decide +kernel⟩
theorem mf_X3_candles : mfV yX3_candles cX3_candles 1 (some .int) 0 := ⟨mfA_X3_candles, mtb_in (List.mem_of_getElem? (i := 494) (by decide +kernel)) rfl, mtb_in (List.mem_of_getElem? (i := 495) (by decide +kernel)) rfl⟩
theorem mfA_X3_found : mfA yX3_found cX3_found 1 (some .int) 0 := ⟨ini_X3, mtb_in (List.mem_of_getElem? (i := 575) (by decide +kernel)) rfl, by decide +kernel, by decide, by decide +kernel⟩
theorem mf_X3_found : mfV yX3_found cX3_found 1 (some .int) 0 := ⟨mfA_X3_found, mtb_in (List.mem_of_getElem? (i := 573) (by decide +kernel)) rfl, mtb_in (List.mem_of_getElem? (i := 574) (by decide +kernel)) rfl⟩
theorem mfA_X3_harmOf : mfA yX3_harmOf cX3_harmOf 2 (some .int) 1 := ⟨ini_X3, mtb_in (List.mem_of_getElem? (i := 439) (by decide +kernel)) rfl, by decide +kernel, by decide, by decide +kernel⟩
theorem mf_X3_harmOf : mfV yX3_harmOf cX3_harmOf 2 (some .int) 1 := ⟨mfA_X3_harmOf, mtb_in (List.mem_of_getElem? (i := 437) (by decide +kernel)) rfl, mtb_in (List.mem_of_getElem? (i := 438) (by decide +kernel)) rfl⟩
theorem mfA_X3_harmOfAll : mfA yX3_harmOfAll cX3_harmOfAll 3 (some .int) 0 := ⟨ini_X3, mtb_in (List.mem_of_getElem? (i := 571) (by decide +kernel)) rfl, by decide +kernel, by decide, by decide +kernel⟩
theorem mf_X3_harmOfAll : mfV yX3_harmOfAll cX3_harmOfAll 3 (some .int) 0 := ⟨mfA_X3_harmOfAll, mtb_in (List.mem_of_getElem? (i := 569) (by decide +kernel)) rfl, mtb_in (List.mem_of_getElem? (i := 570) (by decide +kernel)) rfl⟩
theorem mfA_X3_isOver : mfA yX3_isOver cX3_isOver 2 (some .boolean) 1 := ⟨ini_X3, mtb_in (List.mem_of_getElem? (i := 458) (by decide +kernel)) rfl, by decide +kernel, by decide, by decide +kernel⟩
theorem mf_X3_isOver : mfV yX3_isOver cX3_isOver 2 (some .boolean) 1 := ⟨mfA_X3_isOver, mtb_in (List.mem_of_getElem? (i := 456) (by decide +kernel)) rfl, mtb_in (List.mem_of_getElem? (i := 457) (by decide +kernel)) rfl⟩
theorem mfA_X3_isFree : mfA yX3_isFree cX3_isFree 1 (some .boolean) 0 := ⟨ini_X3, mtb_in (List.mem_of_getElem? (i := 466) (by decide +kernel)) rfl, by decide +kernel, by decide, by decide +kernel⟩
theorem mf_X3_isFree : mfV yX3_isFree cX3_isFree 1 (some .boolean) 0 := ⟨mfA_X3_isFree, mtb_in (List.mem_of_getElem? (i := 464) (by decide +kernel)) rfl, mtb_in (List.mem_of_getElem? (i := 465) (by decide +kernel)) rfl⟩
theorem mfA_X3_isEnded : mfA yX3_isEnded cX3_isEnded 2 (some .boolean) 1 := ⟨ini_X3, mtb_in (List.mem_of_getElem? (i := 454) (by decide +kernel)) rfl, by decide +kernel, by decide, by decide +kernel⟩
theorem mf_X3_isEnded : mfV yX3_isEnded cX3_isEnded 2 (some .boolean) 1 := ⟨mfA_X3_isEnded, mtb_in (List.mem_of_getElem? (i := 452) (by decide +kernel)) rfl, mtb_in (List.mem_of_getElem? (i := 453) (by decide +kernel)) rfl⟩
theorem mfA_X3_daysLeft : mfA yX3_daysLeft cX3_daysLeft 2 (some .int) 1 := ⟨ini_X3, mtb_in (List.mem_of_getElem? (i := 589) (by decide +kernel)) rfl, by decide +kernel, by decide, by decide +kernel⟩
theorem mf_X3_daysLeft : mfV yX3_daysLeft cX3_daysLeft 2 (some .int) 1 := ⟨mfA_X3_daysLeft, mtb_in (List.mem_of_getElem? (i := 587) (by decide +kernel)) rfl, mtb_in (List.mem_of_getElem? (i := 588) (by decide +kernel)) rfl⟩
theorem mfA_X3_turn : mfA yX3_turn cX3_turn 6 (some .int) 3 := ⟨ini_X3, mtb_in (List.mem_of_getElem? (i := 481) (by decide +kernel)) rfl, by decide +kernel, by decide, by decide +kernel⟩
theorem mf_X3_turn : mfV yX3_turn cX3_turn 6 (some .int) 3 := ⟨mfA_X3_turn, mtb_in (List.mem_of_getElem? (i := 479) (by decide +kernel)) rfl, mtb_in (List.mem_of_getElem? (i := 480) (by decide +kernel)) rfl⟩
theorem mfA_X3_watch : mfA yX3_watch cX3_watch 2 (some .int) 1 := ⟨ini_X3, mtb_in (List.mem_of_getElem? (i := 536) (by decide +kernel)) rfl, by decide +kernel, by decide, by decide +kernel⟩
theorem mf_X3_watch : mfV yX3_watch cX3_watch 2 (some .int) 1 := ⟨mfA_X3_watch, mtb_in (List.mem_of_getElem? (i := 534) (by decide +kernel)) rfl, mtb_in (List.mem_of_getElem? (i := 535) (by decide +kernel)) rfl⟩
theorem mfA_X3_pay : mfA yX3_pay cX3_pay 3 (some .int) 2 := ⟨ini_X3, mtb_in (List.mem_of_getElem? (i := 545) (by decide +kernel)) rfl, by decide +kernel, by decide, by decide +kernel⟩
theorem mf_X3_pay : mfV yX3_pay cX3_pay 3 (some .int) 2 := ⟨mfA_X3_pay, mtb_in (List.mem_of_getElem? (i := 543) (by decide +kernel)) rfl, mtb_in (List.mem_of_getElem? (i := 544) (by decide +kernel)) rfl⟩
theorem mfA_X3_correct : mfA yX3_correct cX3_correct 2 (some .int) 1 := ⟨ini_X3, mtb_in (List.mem_of_getElem? (i := 553) (by decide +kernel)) rfl, by decide +kernel, by decide, by decide +kernel⟩
theorem mf_X3_correct : mfV yX3_correct cX3_correct 2 (some .int) 1 := ⟨mfA_X3_correct, mtb_in (List.mem_of_getElem? (i := 551) (by decide +kernel)) rfl, mtb_in (List.mem_of_getElem? (i := 552) (by decide +kernel)) rfl⟩
theorem mfA_X3_recall : mfA yX3_recall cX3_recall 1 (some .boolean) 0 := ⟨ini_X3, mtb_in (List.mem_of_getElem? (i := 561) (by decide +kernel)) rfl, by decide +kernel, by decide, by decide +kernel⟩
theorem mf_X3_recall : mfV yX3_recall cX3_recall 1 (some .boolean) 0 := ⟨mfA_X3_recall, mtb_in (List.mem_of_getElem? (i := 559) (by decide +kernel)) rfl, mtb_in (List.mem_of_getElem? (i := 560) (by decide +kernel)) rfl⟩
theorem mfA_X3_soonestFree : mfA yX3_soonestFree cX3_soonestFree 4 (some .int) 1 := ⟨ini_X3, mtb_in (List.mem_of_getElem? (i := 585) (by decide +kernel)) rfl, by decide +kernel, by decide, by decide +kernel⟩
theorem mf_X3_soonestFree : mfV yX3_soonestFree cX3_soonestFree 4 (some .int) 1 := ⟨mfA_X3_soonestFree, mtb_in (List.mem_of_getElem? (i := 583) (by decide +kernel)) rfl, mtb_in (List.mem_of_getElem? (i := 584) (by decide +kernel)) rfl⟩
theorem mfA_X3_caughtBehind : mfA yX3_caughtBehind cX3_caughtBehind 6 (some .int) 2 := ⟨ini_X3, mtb_in (List.mem_of_getElem? (i := 700) (by decide +kernel)) rfl, by decide +kernel, by decide, by decide +kernel⟩
theorem mf_X3_caughtBehind : mfV yX3_caughtBehind cX3_caughtBehind 6 (some .int) 2 := ⟨mfA_X3_caughtBehind, mtb_in (List.mem_of_getElem? (i := 698) (by decide +kernel)) rfl, mtb_in (List.mem_of_getElem? (i := 699) (by decide +kernel)) rfl⟩
theorem mfA_X3_check : mfA yX3_check cX3_check 2 (some .int) 1 := ⟨ini_X3, mtb_in (List.mem_of_getElem? (i := 525) (by decide +kernel)) rfl, by decide +kernel, by decide, by decide +kernel⟩
theorem mf_X3_check : mfV yX3_check cX3_check 2 (some .int) 1 := ⟨mfA_X3_check, mtb_in (List.mem_of_getElem? (i := 524) (by decide +kernel)) rfl, mtb_in (List.mem_of_getElem? (i := 16) (by decide +kernel)) rfl⟩
theorem mfA_X3_remember : mfA yX3_remember cX3_remember 1 none 0 := ⟨ini_X3, mtb_in (List.mem_of_getElem? (i := 485) (by decide +kernel)) rfl, by decide +kernel, by decide, by decide +kernel⟩
theorem mf_X3_remember : mfV yX3_remember cX3_remember 1 none 0 := ⟨mfA_X3_remember, mtb_in (List.mem_of_getElem? (i := 484) (by decide +kernel)) rfl, mtb_in (List.mem_of_getElem? (i := 14) (by decide +kernel)) rfl⟩
theorem mfA_X3_setHarm : mfA yX3_setHarm cX3_setHarm 3 none 2 := ⟨ini_X3, mtb_in (List.mem_of_getElem? (i := 512) (by decide +kernel)) rfl, by decide +kernel, by decide, by decide +kernel⟩
theorem mf_X3_setHarm : mfV yX3_setHarm cX3_setHarm 3 none 2 := ⟨mfA_X3_setHarm, mtb_in (List.mem_of_getElem? (i := 511) (by decide +kernel)) rfl, mtb_in (List.mem_of_getElem? (i := 15) (by decide +kernel)) rfl⟩
theorem mfA_X3_draw : mfA yX3_draw cX3_draw 4 (some .int) 2 := ⟨ini_X3, mtb_in (List.mem_of_getElem? (i := 515) (by decide +kernel)) rfl, by decide +kernel, by decide, by decide +kernel⟩
theorem mf_X3_draw : mfS yX3_draw cX3_draw 4 (some .int) 2 := ⟨mfA_X3_draw, mtb_in (List.mem_of_getElem? (i := 514) (by decide +kernel)) rfl⟩
theorem mfA_X4_add : mfA yX4_add cX4_add 2 (some .boolean) 1 := ⟨ini_X4, mtb_in (List.mem_of_getElem? (i := 318) (by decide +kernel)) rfl, by decide +kernel, by decide, by decide +kernel⟩
theorem mf_X4_add : mfV yX4_add cX4_add 2 (some .boolean) 1 := ⟨mfA_X4_add, mtb_in (List.mem_of_getElem? (i := 316) (by decide +kernel)) rfl, mtb_in (List.mem_of_getElem? (i := 317) (by decide +kernel)) rfl⟩
theorem mfA_X4_readInto : mfA yX4_readInto cX4_readInto 3 (some .int) 1 := ⟨ini_X4, mtb_in (List.mem_of_getElem? (i := 330) (by decide +kernel)) rfl, by decide +kernel, by decide, by decide +kernel⟩
theorem mf_X4_readInto : mfV yX4_readInto cX4_readInto 3 (some .int) 1 := ⟨mfA_X4_readInto, mtb_in (List.mem_of_getElem? (i := 328) (by decide +kernel)) rfl, mtb_in (List.mem_of_getElem? (i := 329) (by decide +kernel)) rfl⟩
theorem mfA_X4_begin : mfA yX4_begin cX4_begin 2 none 1 := ⟨ini_X4, mtb_in (List.mem_of_getElem? (i := 334) (by decide +kernel)) rfl, by decide +kernel, by decide, by decide +kernel⟩
theorem mf_X4_begin : mfV yX4_begin cX4_begin 2 none 1 := ⟨mfA_X4_begin, mtb_in (List.mem_of_getElem? (i := 333) (by decide +kernel)) rfl, mtb_in (List.mem_of_getElem? (i := 0) (by decide +kernel)) rfl⟩
theorem mfA_X4_readDay : mfA yX4_readDay cX4_readDay 3 none 1 := ⟨ini_X4, mtb_in (List.mem_of_getElem? (i := 364) (by decide +kernel)) rfl, by decide +kernel, by decide, by decide +kernel⟩
theorem mf_X4_readDay : mfV yX4_readDay cX4_readDay 3 none 1 := ⟨mfA_X4_readDay, mtb_in (List.mem_of_getElem? (i := 363) (by decide +kernel)) rfl, mtb_in (List.mem_of_getElem? (i := 5) (by decide +kernel)) rfl⟩
theorem mfA_X4_readBribe : mfA yX4_readBribe cX4_readBribe 6 none 1 := ⟨ini_X4, mtb_in (List.mem_of_getElem? (i := 384) (by decide +kernel)) rfl, by decide +kernel, by decide, by decide +kernel⟩
theorem mf_X4_readBribe : mfV yX4_readBribe cX4_readBribe 6 none 1 := ⟨mfA_X4_readBribe, mtb_in (List.mem_of_getElem? (i := 383) (by decide +kernel)) rfl, mtb_in (List.mem_of_getElem? (i := 9) (by decide +kernel)) rfl⟩
theorem mfA_X4_readTrade : mfA yX4_readTrade cX4_readTrade 4 none 1 := ⟨ini_X4, mtb_in (List.mem_of_getElem? (i := 392) (by decide +kernel)) rfl, by decide +kernel, by decide, by decide +kernel⟩
theorem mf_X4_readTrade : mfV yX4_readTrade cX4_readTrade 4 none 1 := ⟨mfA_X4_readTrade, mtb_in (List.mem_of_getElem? (i := 391) (by decide +kernel)) rfl, mtb_in (List.mem_of_getElem? (i := 10) (by decide +kernel)) rfl⟩
theorem mfA_X4_readRest : mfA yX4_readRest cX4_readRest 3 none 1 := ⟨ini_X4, mtb_in (List.mem_of_getElem? (i := 400) (by decide +kernel)) rfl, by decide +kernel, by decide, by decide +kernel⟩
theorem mf_X4_readRest : mfV yX4_readRest cX4_readRest 3 none 1 := ⟨mfA_X4_readRest, mtb_in (List.mem_of_getElem? (i := 399) (by decide +kernel)) rfl, mtb_in (List.mem_of_getElem? (i := 11) (by decide +kernel)) rfl⟩
theorem mfA_X4_readLimit : mfA yX4_readLimit cX4_readLimit 3 none 1 := ⟨ini_X4, mtb_in (List.mem_of_getElem? (i := 404) (by decide +kernel)) rfl, by decide +kernel, by decide, by decide +kernel⟩
theorem mf_X4_readLimit : mfV yX4_readLimit cX4_readLimit 3 none 1 := ⟨mfA_X4_readLimit, mtb_in (List.mem_of_getElem? (i := 403) (by decide +kernel)) rfl, mtb_in (List.mem_of_getElem? (i := 12) (by decide +kernel)) rfl⟩
theorem mfA_X4_readAdded : mfA yX4_readAdded cX4_readAdded 3 none 1 := ⟨ini_X4, mtb_in (List.mem_of_getElem? (i := 408) (by decide +kernel)) rfl, by decide +kernel, by decide, by decide +kernel⟩
theorem mf_X4_readAdded : mfV yX4_readAdded cX4_readAdded 3 none 1 := ⟨mfA_X4_readAdded, mtb_in (List.mem_of_getElem? (i := 407) (by decide +kernel)) rfl, mtb_in (List.mem_of_getElem? (i := 13) (by decide +kernel)) rfl⟩
theorem mfA_X4_refuseIf : mfA yX4_refuseIf cX4_refuseIf 2 none 1 := ⟨ini_X4, mtb_in (List.mem_of_getElem? (i := 368) (by decide +kernel)) rfl, by decide +kernel, by decide, by decide +kernel⟩
theorem mf_X4_refuseIf : mfV yX4_refuseIf cX4_refuseIf 2 none 1 := ⟨mfA_X4_refuseIf, mtb_in (List.mem_of_getElem? (i := 367) (by decide +kernel)) rfl, mtb_in (List.mem_of_getElem? (i := 6) (by decide +kernel)) rfl⟩
theorem mfA_X4_number : mfA yX4_number cX4_number 3 (some .int) 2 := ⟨ini_X4, mtb_in (List.mem_of_getElem? (i := 372) (by decide +kernel)) rfl, by decide +kernel, by decide, by decide +kernel⟩
theorem mf_X4_number : mfV yX4_number cX4_number 3 (some .int) 2 := ⟨mfA_X4_number, mtb_in (List.mem_of_getElem? (i := 371) (by decide +kernel)) rfl, mtb_in (List.mem_of_getElem? (i := 7) (by decide +kernel)) rfl⟩
theorem mfA_X4_stops : mfA yX4_stops cX4_stops 1 (some .boolean) 0 := ⟨ini_X4, mtb_in (List.mem_of_getElem? (i := 376) (by decide +kernel)) rfl, by decide +kernel, by decide, by decide +kernel⟩
theorem mf_X4_stops : mfV yX4_stops cX4_stops 1 (some .boolean) 0 := ⟨mfA_X4_stops, mtb_in (List.mem_of_getElem? (i := 375) (by decide +kernel)) rfl, mtb_in (List.mem_of_getElem? (i := 8) (by decide +kernel)) rfl⟩
theorem mfA_X4_nextToken : mfA yX4_nextToken cX4_nextToken 2 none 0 := ⟨ini_X4, mtb_in (List.mem_of_getElem? (i := 339) (by decide +kernel)) rfl, by decide +kernel, by decide, by decide +kernel⟩
theorem mf_X4_nextToken : mfV yX4_nextToken cX4_nextToken 2 none 0 := ⟨mfA_X4_nextToken, mtb_in (List.mem_of_getElem? (i := 338) (by decide +kernel)) rfl, mtb_in (List.mem_of_getElem? (i := 1) (by decide +kernel)) rfl⟩
theorem mfA_X4_takeLetters : mfA yX4_takeLetters cX4_takeLetters 2 none 1 := ⟨ini_X4, mtb_in (List.mem_of_getElem? (i := 350) (by decide +kernel)) rfl, by decide +kernel, by decide, by decide +kernel⟩
theorem mf_X4_takeLetters : mfV yX4_takeLetters cX4_takeLetters 2 none 1 := ⟨mfA_X4_takeLetters, mtb_in (List.mem_of_getElem? (i := 349) (by decide +kernel)) rfl, mtb_in (List.mem_of_getElem? (i := 3) (by decide +kernel)) rfl⟩
theorem mfA_X4_takeNumber : mfA yX4_takeNumber cX4_takeNumber 3 none 1 := ⟨ini_X4, mtb_in (List.mem_of_getElem? (i := 357) (by decide +kernel)) rfl, by decide +kernel, by decide, by decide +kernel⟩
theorem mf_X4_takeNumber : mfV yX4_takeNumber cX4_takeNumber 3 none 1 := ⟨mfA_X4_takeNumber, mtb_in (List.mem_of_getElem? (i := 356) (by decide +kernel)) rfl, mtb_in (List.mem_of_getElem? (i := 4) (by decide +kernel)) rfl⟩
theorem mfA_X4_byteAt : mfA yX4_byteAt cX4_byteAt 2 (some .int) 1 := ⟨ini_X4, mtb_in (List.mem_of_getElem? (i := 343) (by decide +kernel)) rfl, by decide +kernel, by decide, by decide +kernel⟩
theorem mf_X4_byteAt : mfV yX4_byteAt cX4_byteAt 2 (some .int) 1 := ⟨mfA_X4_byteAt, mtb_in (List.mem_of_getElem? (i := 342) (by decide +kernel)) rfl, mtb_in (List.mem_of_getElem? (i := 2) (by decide +kernel)) rfl⟩
theorem mfA_X4_isLetter : mfA yX4_isLetter cX4_isLetter 1 (some .boolean) 1 := ⟨ini_X4, mtb_in (List.mem_of_getElem? (i := 346) (by decide +kernel)) rfl, by decide +kernel, by decide, by decide +kernel⟩
theorem mf_X4_isLetter : mfS yX4_isLetter cX4_isLetter 1 (some .boolean) 1 := ⟨mfA_X4_isLetter, mtb_in (List.mem_of_getElem? (i := 345) (by decide +kernel)) rfl⟩
theorem mfA_X4_isDigit : mfA yX4_isDigit cX4_isDigit 1 (some .boolean) 1 := ⟨ini_X4, mtb_in (List.mem_of_getElem? (i := 353) (by decide +kernel)) rfl, by decide +kernel, by decide, by decide +kernel⟩
theorem mf_X4_isDigit : mfS yX4_isDigit cX4_isDigit 1 (some .boolean) 1 := ⟨mfA_X4_isDigit, mtb_in (List.mem_of_getElem? (i := 352) (by decide +kernel)) rfl⟩
theorem mfA_X5_wipe : mfA yX5_wipe cX5_wipe 1 none 0 := ⟨ini_X5, mtb_in (List.mem_of_getElem? (i := 136) (by decide +kernel)) rfl, by decide +kernel, by decide, by decide +kernel⟩
theorem mf_X5_wipe : mfV yX5_wipe cX5_wipe 1 none 0 := ⟨mfA_X5_wipe, mtb_in (List.mem_of_getElem? (i := 134) (by decide +kernel)) rfl, mtb_in (List.mem_of_getElem? (i := 135) (by decide +kernel)) rfl⟩
theorem mfA_X5_hasTrade : mfA yX5_hasTrade cX5_hasTrade 2 (some .boolean) 1 := ⟨ini_X5, mtb_in (List.mem_of_getElem? (i := 435) (by decide +kernel)) rfl, by decide +kernel, by decide, by decide +kernel⟩
theorem mf_X5_hasTrade : mfV yX5_hasTrade cX5_hasTrade 2 (some .boolean) 1 := ⟨mfA_X5_hasTrade, mtb_in (List.mem_of_getElem? (i := 433) (by decide +kernel)) rfl, mtb_in (List.mem_of_getElem? (i := 434) (by decide +kernel)) rfl⟩
theorem mfA_X5_sunOf : mfA yX5_sunOf cX5_sunOf 2 (some .int) 1 := ⟨ini_X5, mtb_in (List.mem_of_getElem? (i := 417) (by decide +kernel)) rfl, by decide +kernel, by decide, by decide +kernel⟩
theorem mf_X5_sunOf : mfV yX5_sunOf cX5_sunOf 2 (some .int) 1 := ⟨mfA_X5_sunOf, mtb_in (List.mem_of_getElem? (i := 415) (by decide +kernel)) rfl, mtb_in (List.mem_of_getElem? (i := 416) (by decide +kernel)) rfl⟩
theorem mfA_X5_ofBribe : mfA yX5_ofBribe cX5_ofBribe 4 (some .int) 2 := ⟨ini_X5, mtb_in (List.mem_of_getElem? (i := 426) (by decide +kernel)) rfl, by decide +kernel, by decide, by decide +kernel⟩
theorem mf_X5_ofBribe : mfV yX5_ofBribe cX5_ofBribe 4 (some .int) 2 := ⟨mfA_X5_ofBribe, mtb_in (List.mem_of_getElem? (i := 424) (by decide +kernel)) rfl, mtb_in (List.mem_of_getElem? (i := 425) (by decide +kernel)) rfl⟩
theorem mfA_X5_ofTrade : mfA yX5_ofTrade cX5_ofTrade 4 (some .int) 2 := ⟨ini_X5, mtb_in (List.mem_of_getElem? (i := 443) (by decide +kernel)) rfl, by decide +kernel, by decide, by decide +kernel⟩
theorem mf_X5_ofTrade : mfV yX5_ofTrade cX5_ofTrade 4 (some .int) 2 := ⟨mfA_X5_ofTrade, mtb_in (List.mem_of_getElem? (i := 441) (by decide +kernel)) rfl, mtb_in (List.mem_of_getElem? (i := 442) (by decide +kernel)) rfl⟩
theorem mfA_X5_addDay : mfA yX5_addDay cX5_addDay 2 none 1 := ⟨ini_X5, mtb_in (List.mem_of_getElem? (i := 380) (by decide +kernel)) rfl, by decide +kernel, by decide, by decide +kernel⟩
theorem mf_X5_addDay : mfV yX5_addDay cX5_addDay 2 none 1 := ⟨mfA_X5_addDay, mtb_in (List.mem_of_getElem? (i := 378) (by decide +kernel)) rfl, mtb_in (List.mem_of_getElem? (i := 379) (by decide +kernel)) rfl⟩
theorem mfA_X5_addBribe : mfA yX5_addBribe cX5_addBribe 6 none 4 := ⟨ini_X5, mtb_in (List.mem_of_getElem? (i := 388) (by decide +kernel)) rfl, by decide +kernel, by decide, by decide +kernel⟩
theorem mf_X5_addBribe : mfV yX5_addBribe cX5_addBribe 6 none 4 := ⟨mfA_X5_addBribe, mtb_in (List.mem_of_getElem? (i := 386) (by decide +kernel)) rfl, mtb_in (List.mem_of_getElem? (i := 387) (by decide +kernel)) rfl⟩
theorem mfA_X5_addTrade : mfA yX5_addTrade cX5_addTrade 4 none 2 := ⟨ini_X5, mtb_in (List.mem_of_getElem? (i := 396) (by decide +kernel)) rfl, by decide +kernel, by decide, by decide +kernel⟩
theorem mf_X5_addTrade : mfV yX5_addTrade cX5_addTrade 4 none 2 := ⟨mfA_X5_addTrade, mtb_in (List.mem_of_getElem? (i := 394) (by decide +kernel)) rfl, mtb_in (List.mem_of_getElem? (i := 395) (by decide +kernel)) rfl⟩
theorem mfA_X5_candlesFor : mfA yX5_candlesFor cX5_candlesFor 7 (some .int) 2 := ⟨ini_X5, mtb_in (List.mem_of_getElem? (i := 500) (by decide +kernel)) rfl, by decide +kernel, by decide, by decide +kernel⟩
theorem mf_X5_candlesFor : mfV yX5_candlesFor cX5_candlesFor 7 (some .int) 2 := ⟨mfA_X5_candlesFor, mtb_in (List.mem_of_getElem? (i := 498) (by decide +kernel)) rfl, mtb_in (List.mem_of_getElem? (i := 499) (by decide +kernel)) rfl⟩
theorem mfA_X5_harmTo : mfA yX5_harmTo cX5_harmTo 4 (some .int) 2 := ⟨ini_X5, mtb_in (List.mem_of_getElem? (i := 507) (by decide +kernel)) rfl, by decide +kernel, by decide, by decide +kernel⟩
theorem mf_X5_harmTo : mfV yX5_harmTo cX5_harmTo 4 (some .int) 2 := ⟨mfA_X5_harmTo, mtb_in (List.mem_of_getElem? (i := 505) (by decide +kernel)) rfl, mtb_in (List.mem_of_getElem? (i := 506) (by decide +kernel)) rfl⟩
theorem mfA_X5_harmToAll : mfA yX5_harmToAll cX5_harmToAll 4 (some .int) 1 := ⟨ini_X5, mtb_in (List.mem_of_getElem? (i := 682) (by decide +kernel)) rfl, by decide +kernel, by decide, by decide +kernel⟩
theorem mf_X5_harmToAll : mfV yX5_harmToAll cX5_harmToAll 4 (some .int) 1 := ⟨mfA_X5_harmToAll, mtb_in (List.mem_of_getElem? (i := 680) (by decide +kernel)) rfl, mtb_in (List.mem_of_getElem? (i := 681) (by decide +kernel)) rfl⟩
theorem mfA_X6_type : mfA yX6_type cX6_type 2 (some .int) 1 := ⟨ini_X6, mtb_in (List.mem_of_getElem? (i := 314) (by decide +kernel)) rfl, by decide +kernel, by decide, by decide +kernel⟩
theorem mf_X6_type : mfV yX6_type cX6_type 2 (some .int) 1 := ⟨mfA_X6_type, mtb_in (List.mem_of_getElem? (i := 312) (by decide +kernel)) rfl, mtb_in (List.mem_of_getElem? (i := 313) (by decide +kernel)) rfl⟩
theorem mfA_X6_clear : mfA yX6_clear cX6_clear 2 (some .int) 0 := ⟨ini_X6, mtb_in (List.mem_of_getElem? (i := 322) (by decide +kernel)) rfl, by decide +kernel, by decide, by decide +kernel⟩
theorem mf_X6_clear : mfV yX6_clear cX6_clear 2 (some .int) 0 := ⟨mfA_X6_clear, mtb_in (List.mem_of_getElem? (i := 320) (by decide +kernel)) rfl, mtb_in (List.mem_of_getElem? (i := 321) (by decide +kernel)) rfl⟩
theorem mfA_X6_sentence : mfA yX6_sentence cX6_sentence 3 (some .int) 0 := ⟨ini_X6, mtb_in (List.mem_of_getElem? (i := 326) (by decide +kernel)) rfl, by decide +kernel, by decide, by decide +kernel⟩
theorem mf_X6_sentence : mfV yX6_sentence cX6_sentence 3 (some .int) 0 := ⟨mfA_X6_sentence, mtb_in (List.mem_of_getElem? (i := 324) (by decide +kernel)) rfl, mtb_in (List.mem_of_getElem? (i := 325) (by decide +kernel)) rfl⟩
theorem mfA_X6_sun : mfA yX6_sun cX6_sun 2 (some .int) 1 := ⟨ini_X6, mtb_in (List.mem_of_getElem? (i := 413) (by decide +kernel)) rfl, by decide +kernel, by decide, by decide +kernel⟩
theorem mf_X6_sun : mfV yX6_sun cX6_sun 2 (some .int) 1 := ⟨mfA_X6_sun, mtb_in (List.mem_of_getElem? (i := 411) (by decide +kernel)) rfl, mtb_in (List.mem_of_getElem? (i := 412) (by decide +kernel)) rfl⟩
theorem mfA_X6_bribe : mfA yX6_bribe cX6_bribe 3 (some .int) 2 := ⟨ini_X6, mtb_in (List.mem_of_getElem? (i := 421) (by decide +kernel)) rfl, by decide +kernel, by decide, by decide +kernel⟩
theorem mf_X6_bribe : mfV yX6_bribe cX6_bribe 3 (some .int) 2 := ⟨mfA_X6_bribe, mtb_in (List.mem_of_getElem? (i := 419) (by decide +kernel)) rfl, mtb_in (List.mem_of_getElem? (i := 420) (by decide +kernel)) rfl⟩
theorem mfA_X6_trade : mfA yX6_trade cX6_trade 3 (some .int) 2 := ⟨ini_X6, mtb_in (List.mem_of_getElem? (i := 431) (by decide +kernel)) rfl, by decide +kernel, by decide, by decide +kernel⟩
theorem mf_X6_trade : mfV yX6_trade cX6_trade 3 (some .int) 2 := ⟨mfA_X6_trade, mtb_in (List.mem_of_getElem? (i := 429) (by decide +kernel)) rfl, mtb_in (List.mem_of_getElem? (i := 430) (by decide +kernel)) rfl⟩
theorem mfA_X6_winds : mfA yX6_winds cX6_winds 3 (some .int) 2 := ⟨ini_X6, mtb_in (List.mem_of_getElem? (i := 447) (by decide +kernel)) rfl, by decide +kernel, by decide, by decide +kernel⟩
theorem mf_X6_winds : mfV yX6_winds cX6_winds 3 (some .int) 2 := ⟨mfA_X6_winds, mtb_in (List.mem_of_getElem? (i := 445) (by decide +kernel)) rfl, mtb_in (List.mem_of_getElem? (i := 446) (by decide +kernel)) rfl⟩
theorem mfA_X6_watches : mfA yX6_watches cX6_watches 1 (some .int) 0 := ⟨ini_X6, mtb_in (List.mem_of_getElem? (i := 532) (by decide +kernel)) rfl, by decide +kernel, by decide, by decide +kernel⟩
theorem mf_X6_watches : mfV yX6_watches cX6_watches 1 (some .int) 0 := ⟨mfA_X6_watches, mtb_in (List.mem_of_getElem? (i := 530) (by decide +kernel)) rfl, mtb_in (List.mem_of_getElem? (i := 531) (by decide +kernel)) rfl⟩
theorem mfA_X6_pays : mfA yX6_pays cX6_pays 3 (some .int) 2 := ⟨ini_X6, mtb_in (List.mem_of_getElem? (i := 540) (by decide +kernel)) rfl, by decide +kernel, by decide, by decide +kernel⟩
theorem mf_X6_pays : mfV yX6_pays cX6_pays 3 (some .int) 2 := ⟨mfA_X6_pays, mtb_in (List.mem_of_getElem? (i := 538) (by decide +kernel)) rfl, mtb_in (List.mem_of_getElem? (i := 539) (by decide +kernel)) rfl⟩
theorem mfA_X6_corrects : mfA yX6_corrects cX6_corrects 2 (some .int) 1 := ⟨ini_X6, mtb_in (List.mem_of_getElem? (i := 549) (by decide +kernel)) rfl, by decide +kernel, by decide, by decide +kernel⟩
theorem mf_X6_corrects : mfV yX6_corrects cX6_corrects 2 (some .int) 1 := ⟨mfA_X6_corrects, mtb_in (List.mem_of_getElem? (i := 547) (by decide +kernel)) rfl, mtb_in (List.mem_of_getElem? (i := 548) (by decide +kernel)) rfl⟩
theorem mfA_X6_undo : mfA yX6_undo cX6_undo 1 (some .int) 0 := ⟨ini_X6, mtb_in (List.mem_of_getElem? (i := 557) (by decide +kernel)) rfl, by decide +kernel, by decide, by decide +kernel⟩
theorem mf_X6_undo : mfV yX6_undo cX6_undo 1 (some .int) 0 := ⟨mfA_X6_undo, mtb_in (List.mem_of_getElem? (i := 555) (by decide +kernel)) rfl, mtb_in (List.mem_of_getElem? (i := 556) (by decide +kernel)) rfl⟩
theorem mfA_X6_now : mfA yX6_now cX6_now 2 (some .int) 1 := ⟨ini_X6, mtb_in (List.mem_of_getElem? (i := 565) (by decide +kernel)) rfl, by decide +kernel, by decide, by decide +kernel⟩
theorem mf_X6_now : mfV yX6_now cX6_now 2 (some .int) 1 := ⟨mfA_X6_now, mtb_in (List.mem_of_getElem? (i := 563) (by decide +kernel)) rfl, mtb_in (List.mem_of_getElem? (i := 564) (by decide +kernel)) rfl⟩
theorem mfA_X6_soonest : mfA yX6_soonest cX6_soonest 1 (some .int) 0 := ⟨ini_X6, mtb_in (List.mem_of_getElem? (i := 581) (by decide +kernel)) rfl, by decide +kernel, by decide, by decide +kernel⟩
theorem mf_X6_soonest : mfV yX6_soonest cX6_soonest 1 (some .int) 0 := ⟨mfA_X6_soonest, mtb_in (List.mem_of_getElem? (i := 579) (by decide +kernel)) rfl, mtb_in (List.mem_of_getElem? (i := 580) (by decide +kernel)) rfl⟩
theorem mfA_X6_chance : mfA yX6_chance cX6_chance 3 (some .int) 2 := ⟨ini_X6, mtb_in (List.mem_of_getElem? (i := 593) (by decide +kernel)) rfl, by decide +kernel, by decide, by decide +kernel⟩
theorem mf_X6_chance : mfV yX6_chance cX6_chance 3 (some .int) 2 := ⟨mfA_X6_chance, mtb_in (List.mem_of_getElem? (i := 591) (by decide +kernel)) rfl, mtb_in (List.mem_of_getElem? (i := 592) (by decide +kernel)) rfl⟩
theorem mfA_X6_safe : mfA yX6_safe cX6_safe 2 (some .int) 1 := ⟨ini_X6, mtb_in (List.mem_of_getElem? (i := 639) (by decide +kernel)) rfl, by decide +kernel, by decide, by decide +kernel⟩
theorem mf_X6_safe : mfV yX6_safe cX6_safe 2 (some .int) 1 := ⟨mfA_X6_safe, mtb_in (List.mem_of_getElem? (i := 637) (by decide +kernel)) rfl, mtb_in (List.mem_of_getElem? (i := 638) (by decide +kernel)) rfl⟩
theorem mfA_X6_least : mfA yX6_least cX6_least 3 (some .int) 2 := ⟨ini_X6, mtb_in (List.mem_of_getElem? (i := 687) (by decide +kernel)) rfl, by decide +kernel, by decide, by decide +kernel⟩
theorem mf_X6_least : mfV yX6_least cX6_least 3 (some .int) 2 := ⟨mfA_X6_least, mtb_in (List.mem_of_getElem? (i := 685) (by decide +kernel)) rfl, mtb_in (List.mem_of_getElem? (i := 686) (by decide +kernel)) rfl⟩
theorem mfA_X6_catches : mfA yX6_catches cX6_catches 2 (some .int) 1 := ⟨ini_X6, mtb_in (List.mem_of_getElem? (i := 696) (by decide +kernel)) rfl, by decide +kernel, by decide, by decide +kernel⟩
theorem mf_X6_catches : mfV yX6_catches cX6_catches 2 (some .int) 1 := ⟨mfA_X6_catches, mtb_in (List.mem_of_getElem? (i := 694) (by decide +kernel)) rfl, mtb_in (List.mem_of_getElem? (i := 695) (by decide +kernel)) rfl⟩
theorem mfA_X6_hears : mfA yX6_hears cX6_hears 4 (some .int) 3 := ⟨ini_X6, mtb_in (List.mem_of_getElem? (i := 706) (by decide +kernel)) rfl, by decide +kernel, by decide, by decide +kernel⟩
theorem mf_X6_hears : mfV yX6_hears cX6_hears 4 (some .int) 3 := ⟨mfA_X6_hears, mtb_in (List.mem_of_getElem? (i := 704) (by decide +kernel)) rfl, mtb_in (List.mem_of_getElem? (i := 705) (by decide +kernel)) rfl⟩
theorem mfA_X6_forget : mfA yX6_forget cX6_forget 2 (some .int) 0 := ⟨ini_X6, mtb_in (List.mem_of_getElem? (i := 717) (by decide +kernel)) rfl, by decide +kernel, by decide, by decide +kernel⟩
theorem mf_X6_forget : mfV yX6_forget cX6_forget 2 (some .int) 0 := ⟨mfA_X6_forget, mtb_in (List.mem_of_getElem? (i := 715) (by decide +kernel)) rfl, mtb_in (List.mem_of_getElem? (i := 716) (by decide +kernel)) rfl⟩
theorem mfA_X6_could : mfA yX6_could cX6_could 2 (some .int) 1 := ⟨ini_X6, mtb_in (List.mem_of_getElem? (i := 721) (by decide +kernel)) rfl, by decide +kernel, by decide, by decide +kernel⟩
theorem mf_X6_could : mfV yX6_could cX6_could 2 (some .int) 1 := ⟨mfA_X6_could, mtb_in (List.mem_of_getElem? (i := 719) (by decide +kernel)) rfl, mtb_in (List.mem_of_getElem? (i := 720) (by decide +kernel)) rfl⟩
theorem mfA_X6_ways : mfA yX6_ways cX6_ways 1 (some .int) 0 := ⟨ini_X6, mtb_in (List.mem_of_getElem? (i := 739) (by decide +kernel)) rfl, by decide +kernel, by decide, by decide +kernel⟩
theorem mf_X6_ways : mfV yX6_ways cX6_ways 1 (some .int) 0 := ⟨mfA_X6_ways, mtb_in (List.mem_of_getElem? (i := 737) (by decide +kernel)) rfl, mtb_in (List.mem_of_getElem? (i := 738) (by decide +kernel)) rfl⟩
theorem mfA_X6_ask : mfA yX6_ask cX6_ask 1 (some .int) 0 := ⟨ini_X6, mtb_in (List.mem_of_getElem? (i := 764) (by decide +kernel)) rfl, by decide +kernel, by decide, by decide +kernel⟩
theorem mf_X6_ask : mfV yX6_ask cX6_ask 1 (some .int) 0 := ⟨mfA_X6_ask, mtb_in (List.mem_of_getElem? (i := 762) (by decide +kernel)) rfl, mtb_in (List.mem_of_getElem? (i := 763) (by decide +kernel)) rfl⟩
theorem mfA_X6_mark : mfA yX6_mark cX6_mark 3 (some .int) 2 := ⟨ini_X6, mtb_in (List.mem_of_getElem? (i := 779) (by decide +kernel)) rfl, by decide +kernel, by decide, by decide +kernel⟩
theorem mf_X6_mark : mfV yX6_mark cX6_mark 3 (some .int) 2 := ⟨mfA_X6_mark, mtb_in (List.mem_of_getElem? (i := 777) (by decide +kernel)) rfl, mtb_in (List.mem_of_getElem? (i := 778) (by decide +kernel)) rfl⟩
theorem mfA_X6_keep : mfA yX6_keep cX6_keep 3 (some .int) 1 := ⟨ini_X6, mtb_in (List.mem_of_getElem? (i := 812) (by decide +kernel)) rfl, by decide +kernel, by decide, by decide +kernel⟩
theorem mf_X6_keep : mfV yX6_keep cX6_keep 3 (some .int) 1 := ⟨mfA_X6_keep, mtb_in (List.mem_of_getElem? (i := 810) (by decide +kernel)) rfl, mtb_in (List.mem_of_getElem? (i := 811) (by decide +kernel)) rfl⟩
theorem mfA_X6_back : mfA yX6_back cX6_back 3 (some .int) 1 := ⟨ini_X6, mtb_in (List.mem_of_getElem? (i := 820) (by decide +kernel)) rfl, by decide +kernel, by decide, by decide +kernel⟩
theorem mf_X6_back : mfV yX6_back cX6_back 3 (some .int) 1 := ⟨mfA_X6_back, mtb_in (List.mem_of_getElem? (i := 818) (by decide +kernel)) rfl, mtb_in (List.mem_of_getElem? (i := 819) (by decide +kernel)) rfl⟩
theorem mfA_X6_count : mfA yX6_count cX6_count 2 (some .int) 1 := ⟨ini_X6, mtb_in (List.mem_of_getElem? (i := 824) (by decide +kernel)) rfl, by decide +kernel, by decide, by decide +kernel⟩
theorem mf_X6_count : mfV yX6_count cX6_count 2 (some .int) 1 := ⟨mfA_X6_count, mtb_in (List.mem_of_getElem? (i := 822) (by decide +kernel)) rfl, mtb_in (List.mem_of_getElem? (i := 823) (by decide +kernel)) rfl⟩
theorem mfA_X6_trace : mfA yX6_trace cX6_trace 1 (some .long) 0 := ⟨ini_X6, mtb_in (List.mem_of_getElem? (i := 828) (by decide +kernel)) rfl, by decide +kernel, by decide, by decide +kernel⟩
theorem mf_X6_trace : mfV yX6_trace cX6_trace 1 (some .long) 0 := ⟨mfA_X6_trace, mtb_in (List.mem_of_getElem? (i := 826) (by decide +kernel)) rfl, mtb_in (List.mem_of_getElem? (i := 827) (by decide +kernel)) rfl⟩
theorem mfA_X6_asTrade : mfA yX6_asTrade cX6_asTrade 2 (some .int) 1 := ⟨ini_X6, mtb_in (List.mem_of_getElem? (i := 783) (by decide +kernel)) rfl, by decide +kernel, by decide, by decide +kernel⟩
theorem mf_X6_asTrade : mfV yX6_asTrade cX6_asTrade 2 (some .int) 1 := ⟨mfA_X6_asTrade, mtb_in (List.mem_of_getElem? (i := 782) (by decide +kernel)) rfl, mtb_in (List.mem_of_getElem? (i := 35) (by decide +kernel)) rfl⟩
theorem mfA_X6_asBaker : mfA yX6_asBaker cX6_asBaker 2 (some .int) 1 := ⟨ini_X6, mtb_in (List.mem_of_getElem? (i := 787) (by decide +kernel)) rfl, by decide +kernel, by decide, by decide +kernel⟩
theorem mf_X6_asBaker : mfV yX6_asBaker cX6_asBaker 2 (some .int) 1 := ⟨mfA_X6_asBaker, mtb_in (List.mem_of_getElem? (i := 786) (by decide +kernel)) rfl, mtb_in (List.mem_of_getElem? (i := 36) (by decide +kernel)) rfl⟩
theorem mfA_X6_asCourt : mfA yX6_asCourt cX6_asCourt 2 (some .int) 1 := ⟨ini_X6, mtb_in (List.mem_of_getElem? (i := 792) (by decide +kernel)) rfl, by decide +kernel, by decide, by decide +kernel⟩
theorem mf_X6_asCourt : mfV yX6_asCourt cX6_asCourt 2 (some .int) 1 := ⟨mfA_X6_asCourt, mtb_in (List.mem_of_getElem? (i := 791) (by decide +kernel)) rfl, mtb_in (List.mem_of_getElem? (i := 37) (by decide +kernel)) rfl⟩
theorem mfA_X6_asSweetheart : mfA yX6_asSweetheart cX6_asSweetheart 2 (some .int) 1 := ⟨ini_X6, mtb_in (List.mem_of_getElem? (i := 797) (by decide +kernel)) rfl, by decide +kernel, by decide, by decide +kernel⟩
theorem mf_X6_asSweetheart : mfV yX6_asSweetheart cX6_asSweetheart 2 (some .int) 1 := ⟨mfA_X6_asSweetheart, mtb_in (List.mem_of_getElem? (i := 796) (by decide +kernel)) rfl, mtb_in (List.mem_of_getElem? (i := 38) (by decide +kernel)) rfl⟩
theorem mfA_X6_asWife : mfA yX6_asWife cX6_asWife 2 (some .int) 1 := ⟨ini_X6, mtb_in (List.mem_of_getElem? (i := 802) (by decide +kernel)) rfl, by decide +kernel, by decide, by decide +kernel⟩
theorem mf_X6_asWife : mfV yX6_asWife cX6_asWife 2 (some .int) 1 := ⟨mfA_X6_asWife, mtb_in (List.mem_of_getElem? (i := 801) (by decide +kernel)) rfl, mtb_in (List.mem_of_getElem? (i := 39) (by decide +kernel)) rfl⟩
theorem mfA_X6_asHen : mfA yX6_asHen cX6_asHen 2 (some .int) 1 := ⟨ini_X6, mtb_in (List.mem_of_getElem? (i := 807) (by decide +kernel)) rfl, by decide +kernel, by decide, by decide +kernel⟩
theorem mf_X6_asHen : mfV yX6_asHen cX6_asHen 2 (some .int) 1 := ⟨mfA_X6_asHen, mtb_in (List.mem_of_getElem? (i := 806) (by decide +kernel)) rfl, mtb_in (List.mem_of_getElem? (i := 40) (by decide +kernel)) rfl⟩
theorem mfA_X6_isPace : mfA yX6_isPace cX6_isPace 1 (some .boolean) 1 := ⟨ini_X6, mtb_in (List.mem_of_getElem? (i := 450) (by decide +kernel)) rfl, by decide +kernel, by decide, by decide +kernel⟩
theorem mf_X6_isPace : mfS yX6_isPace cX6_isPace 1 (some .boolean) 1 := ⟨mfA_X6_isPace, mtb_in (List.mem_of_getElem? (i := 449) (by decide +kernel)) rfl⟩
theorem mfA_X6_isBeyond : mfA yX6_isBeyond cX6_isBeyond 1 (some .boolean) 1 := ⟨ini_X6, mtb_in (List.mem_of_getElem? (i := 477) (by decide +kernel)) rfl, by decide +kernel, by decide, by decide +kernel⟩
theorem mf_X6_isBeyond : mfS yX6_isBeyond cX6_isBeyond 1 (some .boolean) 1 := ⟨mfA_X6_isBeyond, mtb_in (List.mem_of_getElem? (i := 476) (by decide +kernel)) rfl⟩
theorem mfA_X7_in : mfA yX7_in cX7_in 3 (some .boolean) 3 := ⟨ini_X7, mtb_in (List.mem_of_getElem? (i := 948) (by decide +kernel)) rfl, by decide +kernel, by decide, by decide +kernel⟩
theorem mf_X7_in : mfS yX7_in cX7_in 3 (some .boolean) 3 := ⟨mfA_X7_in, mtb_in (List.mem_of_getElem? (i := 947) (by decide +kernel)) rfl⟩
theorem mfA_X7_size : mfA yX7_size cX7_size 1 (some .int) 1 := ⟨ini_X7, mtb_in (List.mem_of_getElem? (i := 1033) (by decide +kernel)) rfl, by decide +kernel, by decide, by decide +kernel⟩
theorem mf_X7_size : mfS yX7_size cX7_size 1 (some .int) 1 := ⟨mfA_X7_size, mtb_in (List.mem_of_getElem? (i := 1032) (by decide +kernel)) rfl⟩
theorem mfA_X7_isTrade : mfA yX7_isTrade cX7_isTrade 2 (some .boolean) 1 := ⟨ini_X7, mtb_in (List.mem_of_getElem? (i := 1011) (by decide +kernel)) rfl, by decide +kernel, by decide, by decide +kernel⟩
theorem mf_X7_isTrade : mfV yX7_isTrade cX7_isTrade 2 (some .boolean) 1 := ⟨mfA_X7_isTrade, mtb_in (List.mem_of_getElem? (i := 1010) (by decide +kernel)) rfl, mtb_in (List.mem_of_getElem? (i := 49) (by decide +kernel)) rfl⟩
theorem mfA_X7_isPace : mfA yX7_isPace cX7_isPace 1 (some .boolean) 1 := ⟨ini_X7, mtb_in (List.mem_of_getElem? (i := 1018) (by decide +kernel)) rfl, by decide +kernel, by decide, by decide +kernel⟩
theorem mf_X7_isPace : mfS yX7_isPace cX7_isPace 1 (some .boolean) 1 := ⟨mfA_X7_isPace, mtb_in (List.mem_of_getElem? (i := 1017) (by decide +kernel)) rfl⟩
theorem mfA_X7_type : mfA yX7_type cX7_type 2 (some .int) 1 := ⟨ini_X7, mtb_in (List.mem_of_getElem? (i := 945) (by decide +kernel)) rfl, by decide +kernel, by decide, by decide +kernel⟩
theorem mf_X7_type : mfV yX7_type cX7_type 2 (some .int) 1 := ⟨mfA_X7_type, mtb_in (List.mem_of_getElem? (i := 943) (by decide +kernel)) rfl, mtb_in (List.mem_of_getElem? (i := 944) (by decide +kernel)) rfl⟩
theorem mfA_X7_clear : mfA yX7_clear cX7_clear 2 (some .int) 0 := ⟨ini_X7, mtb_in (List.mem_of_getElem? (i := 952) (by decide +kernel)) rfl, by decide +kernel, by decide, by decide +kernel⟩
theorem mf_X7_clear : mfV yX7_clear cX7_clear 2 (some .int) 0 := ⟨mfA_X7_clear, mtb_in (List.mem_of_getElem? (i := 950) (by decide +kernel)) rfl, mtb_in (List.mem_of_getElem? (i := 951) (by decide +kernel)) rfl⟩
theorem mfA_X7_letterAt : mfA yX7_letterAt cX7_letterAt 2 (some .int) 1 := ⟨ini_X7, mtb_in (List.mem_of_getElem? (i := 964) (by decide +kernel)) rfl, by decide +kernel, by decide, by decide +kernel⟩
theorem mf_X7_letterAt : mfV yX7_letterAt cX7_letterAt 2 (some .int) 1 := ⟨mfA_X7_letterAt, mtb_in (List.mem_of_getElem? (i := 963) (by decide +kernel)) rfl, mtb_in (List.mem_of_getElem? (i := 42) (by decide +kernel)) rfl⟩
theorem mfA_X7_isFigure : mfA yX7_isFigure cX7_isFigure 1 (some .boolean) 1 := ⟨ini_X7, mtb_in (List.mem_of_getElem? (i := 967) (by decide +kernel)) rfl, by decide +kernel, by decide, by decide +kernel⟩
theorem mf_X7_isFigure : mfS yX7_isFigure cX7_isFigure 1 (some .boolean) 1 := ⟨mfA_X7_isFigure, mtb_in (List.mem_of_getElem? (i := 966) (by decide +kernel)) rfl⟩
theorem mfA_X7_isLetter : mfA yX7_isLetter cX7_isLetter 1 (some .boolean) 1 := ⟨ini_X7, mtb_in (List.mem_of_getElem? (i := 970) (by decide +kernel)) rfl, by decide +kernel, by decide, by decide +kernel⟩
theorem mf_X7_isLetter : mfS yX7_isLetter cX7_isLetter 1 (some .boolean) 1 := ⟨mfA_X7_isLetter, mtb_in (List.mem_of_getElem? (i := 969) (by decide +kernel)) rfl⟩
theorem mfA_X7_next : mfA yX7_next cX7_next 2 none 0 := ⟨ini_X7, mtb_in (List.mem_of_getElem? (i := 960) (by decide +kernel)) rfl, by decide +kernel, by decide, by decide +kernel⟩
theorem mf_X7_next : mfV yX7_next cX7_next 2 none 0 := ⟨mfA_X7_next, mtb_in (List.mem_of_getElem? (i := 959) (by decide +kernel)) rfl, mtb_in (List.mem_of_getElem? (i := 41) (by decide +kernel)) rfl⟩
theorem mfA_X7_takesNumber : mfA yX7_takesNumber cX7_takesNumber 5 (some .int) 2 := ⟨ini_X7, mtb_in (List.mem_of_getElem? (i := 986) (by decide +kernel)) rfl, by decide +kernel, by decide, by decide +kernel⟩
theorem mf_X7_takesNumber : mfV yX7_takesNumber cX7_takesNumber 5 (some .int) 2 := ⟨mfA_X7_takesNumber, mtb_in (List.mem_of_getElem? (i := 985) (by decide +kernel)) rfl, mtb_in (List.mem_of_getElem? (i := 46) (by decide +kernel)) rfl⟩
theorem mfA_X7_readBribe : mfA yX7_readBribe cX7_readBribe 2 none 0 := ⟨ini_X7, mtb_in (List.mem_of_getElem? (i := 990) (by decide +kernel)) rfl, by decide +kernel, by decide, by decide +kernel⟩
theorem mf_X7_readBribe : mfV yX7_readBribe cX7_readBribe 2 none 0 := ⟨mfA_X7_readBribe, mtb_in (List.mem_of_getElem? (i := 989) (by decide +kernel)) rfl, mtb_in (List.mem_of_getElem? (i := 47) (by decide +kernel)) rfl⟩
theorem mfA_X7_mayBegin : mfA yX7_mayBegin cX7_mayBegin 2 (some .boolean) 1 := ⟨ini_X7, mtb_in (List.mem_of_getElem? (i := 978) (by decide +kernel)) rfl, by decide +kernel, by decide, by decide +kernel⟩
theorem mf_X7_mayBegin : mfV yX7_mayBegin cX7_mayBegin 2 (some .boolean) 1 := ⟨mfA_X7_mayBegin, mtb_in (List.mem_of_getElem? (i := 977) (by decide +kernel)) rfl, mtb_in (List.mem_of_getElem? (i := 44) (by decide +kernel)) rfl⟩
theorem mfA_X7_readBody : mfA yX7_readBody cX7_readBody 2 none 1 := ⟨ini_X7, mtb_in (List.mem_of_getElem? (i := 982) (by decide +kernel)) rfl, by decide +kernel, by decide, by decide +kernel⟩
theorem mf_X7_readBody : mfV yX7_readBody cX7_readBody 2 none 1 := ⟨mfA_X7_readBody, mtb_in (List.mem_of_getElem? (i := 981) (by decide +kernel)) rfl, mtb_in (List.mem_of_getElem? (i := 45) (by decide +kernel)) rfl⟩
theorem mfA_X7_readItem : mfA yX7_readItem cX7_readItem 2 none 0 := ⟨ini_X7, mtb_in (List.mem_of_getElem? (i := 974) (by decide +kernel)) rfl, by decide +kernel, by decide, by decide +kernel⟩
theorem mf_X7_readItem : mfV yX7_readItem cX7_readItem 2 none 0 := ⟨mfA_X7_readItem, mtb_in (List.mem_of_getElem? (i := 973) (by decide +kernel)) rfl, mtb_in (List.mem_of_getElem? (i := 43) (by decide +kernel)) rfl⟩
theorem mfA_X7_sentence : mfA yX7_sentence cX7_sentence 1 (some .int) 0 := ⟨ini_X7, mtb_in (List.mem_of_getElem? (i := 956) (by decide +kernel)) rfl, by decide +kernel, by decide, by decide +kernel⟩
theorem mf_X7_sentence : mfV yX7_sentence cX7_sentence 1 (some .int) 0 := ⟨mfA_X7_sentence, mtb_in (List.mem_of_getElem? (i := 954) (by decide +kernel)) rfl, mtb_in (List.mem_of_getElem? (i := 955) (by decide +kernel)) rfl⟩
theorem mfA_X7_settles : mfA yX7_settles cX7_settles 2 none 0 := ⟨ini_X7, mtb_in (List.mem_of_getElem? (i := 994) (by decide +kernel)) rfl, by decide +kernel, by decide, by decide +kernel⟩
theorem mf_X7_settles : mfV yX7_settles cX7_settles 2 none 0 := ⟨mfA_X7_settles, mtb_in (List.mem_of_getElem? (i := 993) (by decide +kernel)) rfl, mtb_in (List.mem_of_getElem? (i := 48) (by decide +kernel)) rfl⟩
theorem mfA_X7_sun : mfA yX7_sun cX7_sun 2 (some .int) 1 := ⟨ini_X7, mtb_in (List.mem_of_getElem? (i := 998) (by decide +kernel)) rfl, by decide +kernel, by decide, by decide +kernel⟩
theorem mf_X7_sun : mfV yX7_sun cX7_sun 2 (some .int) 1 := ⟨mfA_X7_sun, mtb_in (List.mem_of_getElem? (i := 996) (by decide +kernel)) rfl, mtb_in (List.mem_of_getElem? (i := 997) (by decide +kernel)) rfl⟩
theorem mfA_X7_bribe : mfA yX7_bribe cX7_bribe 3 (some .int) 2 := ⟨ini_X7, mtb_in (List.mem_of_getElem? (i := 1002) (by decide +kernel)) rfl, by decide +kernel, by decide, by decide +kernel⟩
theorem mf_X7_bribe : mfV yX7_bribe cX7_bribe 3 (some .int) 2 := ⟨mfA_X7_bribe, mtb_in (List.mem_of_getElem? (i := 1000) (by decide +kernel)) rfl, mtb_in (List.mem_of_getElem? (i := 1001) (by decide +kernel)) rfl⟩
theorem mfA_X7_trade : mfA yX7_trade cX7_trade 3 (some .int) 2 := ⟨ini_X7, mtb_in (List.mem_of_getElem? (i := 1007) (by decide +kernel)) rfl, by decide +kernel, by decide, by decide +kernel⟩
theorem mf_X7_trade : mfV yX7_trade cX7_trade 3 (some .int) 2 := ⟨mfA_X7_trade, mtb_in (List.mem_of_getElem? (i := 1005) (by decide +kernel)) rfl, mtb_in (List.mem_of_getElem? (i := 1006) (by decide +kernel)) rfl⟩
theorem mfA_X7_isOver : mfA yX7_isOver cX7_isOver 1 (some .boolean) 0 := ⟨ini_X7, mtb_in (List.mem_of_getElem? (i := 1026) (by decide +kernel)) rfl, by decide +kernel, by decide, by decide +kernel⟩
theorem mf_X7_isOver : mfV yX7_isOver cX7_isOver 1 (some .boolean) 0 := ⟨mfA_X7_isOver, mtb_in (List.mem_of_getElem? (i := 1025) (by decide +kernel)) rfl, mtb_in (List.mem_of_getElem? (i := 51) (by decide +kernel)) rfl⟩
theorem mfA_X7_isFree : mfA yX7_isFree cX7_isFree 1 (some .boolean) 0 := ⟨ini_X7, mtb_in (List.mem_of_getElem? (i := 1030) (by decide +kernel)) rfl, by decide +kernel, by decide, by decide +kernel⟩
theorem mf_X7_isFree : mfV yX7_isFree cX7_isFree 1 (some .boolean) 0 := ⟨mfA_X7_isFree, mtb_in (List.mem_of_getElem? (i := 1029) (by decide +kernel)) rfl, mtb_in (List.mem_of_getElem? (i := 52) (by decide +kernel)) rfl⟩
theorem mfA_X7_isDone : mfA yX7_isDone cX7_isDone 1 (some .boolean) 0 := ⟨ini_X7, mtb_in (List.mem_of_getElem? (i := 1022) (by decide +kernel)) rfl, by decide +kernel, by decide, by decide +kernel⟩
theorem mf_X7_isDone : mfV yX7_isDone cX7_isDone 1 (some .boolean) 0 := ⟨mfA_X7_isDone, mtb_in (List.mem_of_getElem? (i := 1021) (by decide +kernel)) rfl, mtb_in (List.mem_of_getElem? (i := 50) (by decide +kernel)) rfl⟩
theorem mfA_X7_candlesBy : mfA yX7_candlesBy cX7_candlesBy 7 (some .int) 2 := ⟨ini_X7, mtb_in (List.mem_of_getElem? (i := 1044) (by decide +kernel)) rfl, by decide +kernel, by decide, by decide +kernel⟩
theorem mf_X7_candlesBy : mfV yX7_candlesBy cX7_candlesBy 7 (some .int) 2 := ⟨mfA_X7_candlesBy, mtb_in (List.mem_of_getElem? (i := 1043) (by decide +kernel)) rfl, mtb_in (List.mem_of_getElem? (i := 54) (by decide +kernel)) rfl⟩
theorem mfA_X7_harmOf : mfA yX7_harmOf cX7_harmOf 4 (some .int) 2 := ⟨ini_X7, mtb_in (List.mem_of_getElem? (i := 1051) (by decide +kernel)) rfl, by decide +kernel, by decide, by decide +kernel⟩
theorem mf_X7_harmOf : mfV yX7_harmOf cX7_harmOf 4 (some .int) 2 := ⟨mfA_X7_harmOf, mtb_in (List.mem_of_getElem? (i := 1050) (by decide +kernel)) rfl, mtb_in (List.mem_of_getElem? (i := 55) (by decide +kernel)) rfl⟩
theorem mfA_X7_harmBy : mfA yX7_harmBy cX7_harmBy 4 (some .int) 1 := ⟨ini_X7, mtb_in (List.mem_of_getElem? (i := 1114) (by decide +kernel)) rfl, by decide +kernel, by decide, by decide +kernel⟩
theorem mf_X7_harmBy : mfV yX7_harmBy cX7_harmBy 4 (some .int) 1 := ⟨mfA_X7_harmBy, mtb_in (List.mem_of_getElem? (i := 1113) (by decide +kernel)) rfl, mtb_in (List.mem_of_getElem? (i := 61) (by decide +kernel)) rfl⟩
theorem mfA_X7_lesser : mfA yX7_lesser cX7_lesser 2 (some .int) 2 := ⟨ini_X7, mtb_in (List.mem_of_getElem? (i := 1047) (by decide +kernel)) rfl, by decide +kernel, by decide, by decide +kernel⟩
theorem mf_X7_lesser : mfS yX7_lesser cX7_lesser 2 (some .int) 2 := ⟨mfA_X7_lesser, mtb_in (List.mem_of_getElem? (i := 1046) (by decide +kernel)) rfl⟩
theorem mfA_X7_restBehind : mfA yX7_restBehind cX7_restBehind 2 (some .int) 2 := ⟨ini_X7, mtb_in (List.mem_of_getElem? (i := 1040) (by decide +kernel)) rfl, by decide +kernel, by decide, by decide +kernel⟩
theorem mf_X7_restBehind : mfS yX7_restBehind cX7_restBehind 2 (some .int) 2 := ⟨mfA_X7_restBehind, mtb_in (List.mem_of_getElem? (i := 1039) (by decide +kernel)) rfl⟩
theorem mfA_X7_remembers : mfA yX7_remembers cX7_remembers 3 none 0 := ⟨ini_X7, mtb_in (List.mem_of_getElem? (i := 1037) (by decide +kernel)) rfl, by decide +kernel, by decide, by decide +kernel⟩
theorem mf_X7_remembers : mfV yX7_remembers cX7_remembers 3 none 0 := ⟨mfA_X7_remembers, mtb_in (List.mem_of_getElem? (i := 1036) (by decide +kernel)) rfl, mtb_in (List.mem_of_getElem? (i := 53) (by decide +kernel)) rfl⟩
theorem mfA_X7_checks : mfA yX7_checks cX7_checks 1 (some .int) 0 := ⟨ini_X7, mtb_in (List.mem_of_getElem? (i := 1060) (by decide +kernel)) rfl, by decide +kernel, by decide, by decide +kernel⟩
theorem mf_X7_checks : mfV yX7_checks cX7_checks 1 (some .int) 0 := ⟨mfA_X7_checks, mtb_in (List.mem_of_getElem? (i := 1059) (by decide +kernel)) rfl, mtb_in (List.mem_of_getElem? (i := 56) (by decide +kernel)) rfl⟩
theorem mfA_X7_winds : mfA yX7_winds cX7_winds 8 (some .int) 2 := ⟨ini_X7, mtb_in (List.mem_of_getElem? (i := 1015) (by decide +kernel)) rfl, by decide +kernel, by decide, by decide +kernel⟩
theorem mf_X7_winds : mfV yX7_winds cX7_winds 8 (some .int) 2 := ⟨mfA_X7_winds, mtb_in (List.mem_of_getElem? (i := 1013) (by decide +kernel)) rfl, mtb_in (List.mem_of_getElem? (i := 1014) (by decide +kernel)) rfl⟩
theorem mfA_X7_watches : mfA yX7_watches cX7_watches 1 (some .int) 0 := ⟨ini_X7, mtb_in (List.mem_of_getElem? (i := 1064) (by decide +kernel)) rfl, by decide +kernel, by decide, by decide +kernel⟩
theorem mf_X7_watches : mfV yX7_watches cX7_watches 1 (some .int) 0 := ⟨mfA_X7_watches, mtb_in (List.mem_of_getElem? (i := 1062) (by decide +kernel)) rfl, mtb_in (List.mem_of_getElem? (i := 1063) (by decide +kernel)) rfl⟩
theorem mfA_X7_pays : mfA yX7_pays cX7_pays 3 (some .int) 2 := ⟨ini_X7, mtb_in (List.mem_of_getElem? (i := 1068) (by decide +kernel)) rfl, by decide +kernel, by decide, by decide +kernel⟩
theorem mf_X7_pays : mfV yX7_pays cX7_pays 3 (some .int) 2 := ⟨mfA_X7_pays, mtb_in (List.mem_of_getElem? (i := 1066) (by decide +kernel)) rfl, mtb_in (List.mem_of_getElem? (i := 1067) (by decide +kernel)) rfl⟩
theorem mfA_X7_corrects : mfA yX7_corrects cX7_corrects 2 (some .int) 1 := ⟨ini_X7, mtb_in (List.mem_of_getElem? (i := 1072) (by decide +kernel)) rfl, by decide +kernel, by decide, by decide +kernel⟩
theorem mf_X7_corrects : mfV yX7_corrects cX7_corrects 2 (some .int) 1 := ⟨mfA_X7_corrects, mtb_in (List.mem_of_getElem? (i := 1070) (by decide +kernel)) rfl, mtb_in (List.mem_of_getElem? (i := 1071) (by decide +kernel)) rfl⟩
theorem mfA_X7_undo : mfA yX7_undo cX7_undo 3 (some .int) 0 := ⟨ini_X7, mtb_in (List.mem_of_getElem? (i := 1076) (by decide +kernel)) rfl, by decide +kernel, by decide, by decide +kernel⟩
theorem mf_X7_undo : mfV yX7_undo cX7_undo 3 (some .int) 0 := ⟨mfA_X7_undo, mtb_in (List.mem_of_getElem? (i := 1074) (by decide +kernel)) rfl, mtb_in (List.mem_of_getElem? (i := 1075) (by decide +kernel)) rfl⟩
theorem mfA_X7_now : mfA yX7_now cX7_now 2 (some .int) 1 := ⟨ini_X7, mtb_in (List.mem_of_getElem? (i := 1080) (by decide +kernel)) rfl, by decide +kernel, by decide, by decide +kernel⟩
theorem mf_X7_now : mfV yX7_now cX7_now 2 (some .int) 1 := ⟨mfA_X7_now, mtb_in (List.mem_of_getElem? (i := 1078) (by decide +kernel)) rfl, mtb_in (List.mem_of_getElem? (i := 1079) (by decide +kernel)) rfl⟩
theorem mfA_X7_at : mfA yX7_at cX7_at 2 (some .int) 2 := ⟨ini_X7, mtb_in (List.mem_of_getElem? (i := 1099) (by decide +kernel)) rfl, by decide +kernel, by decide, by decide +kernel⟩
theorem mf_X7_at : mfS yX7_at cX7_at 2 (some .int) 2 := ⟨mfA_X7_at, mtb_in (List.mem_of_getElem? (i := 1098) (by decide +kernel)) rfl⟩
theorem mfA_X7_worthBy : mfA yX7_worthBy cX7_worthBy 10 (some .int) 5 := ⟨ini_X7, mtb_in (List.mem_of_getElem? (i := 1110) (by decide +kernel)) rfl, by decide +kernel, by decide, by decide +kernel⟩
theorem mf_X7_worthBy : mfV yX7_worthBy cX7_worthBy 10 (some .int) 5 := ⟨mfA_X7_worthBy, mtb_in (List.mem_of_getElem? (i := 1109) (by decide +kernel)) rfl, mtb_in (List.mem_of_getElem? (i := 60) (by decide +kernel)) rfl⟩
theorem mfA_X7_mayTurn : mfA yX7_mayTurn cX7_mayTurn 2 (some .boolean) 2 := ⟨ini_X7, mtb_in (List.mem_of_getElem? (i := 1106) (by decide +kernel)) rfl, by decide +kernel, by decide, by decide +kernel⟩
theorem mf_X7_mayTurn : mfS yX7_mayTurn cX7_mayTurn 2 (some .boolean) 2 := ⟨mfA_X7_mayTurn, mtb_in (List.mem_of_getElem? (i := 1105) (by decide +kernel)) rfl⟩
theorem mfA_X7_bestOf : mfA yX7_bestOf cX7_bestOf 8 (some .int) 4 := ⟨ini_X7, mtb_in (List.mem_of_getElem? (i := 1103) (by decide +kernel)) rfl, by decide +kernel, by decide, by decide +kernel⟩
theorem mf_X7_bestOf : mfV yX7_bestOf cX7_bestOf 8 (some .int) 4 := ⟨mfA_X7_bestOf, mtb_in (List.mem_of_getElem? (i := 1102) (by decide +kernel)) rfl, mtb_in (List.mem_of_getElem? (i := 59) (by decide +kernel)) rfl⟩
theorem mfA_X7_findWorths : mfA yX7_findWorths cX7_findWorths 8 none 2 := ⟨ini_X7, mtb_in (List.mem_of_getElem? (i := 1096) (by decide +kernel)) rfl, by decide +kernel, by decide, by decide +kernel⟩
theorem mf_X7_findWorths : mfV yX7_findWorths cX7_findWorths 8 none 2 := ⟨mfA_X7_findWorths, mtb_in (List.mem_of_getElem? (i := 1095) (by decide +kernel)) rfl, mtb_in (List.mem_of_getElem? (i := 58) (by decide +kernel)) rfl⟩
theorem mfA_X7_paceBy : mfA yX7_paceBy cX7_paceBy 6 (some .int) 1 := ⟨ini_X7, mtb_in (List.mem_of_getElem? (i := 1118) (by decide +kernel)) rfl, by decide +kernel, by decide, by decide +kernel⟩
theorem mf_X7_paceBy : mfV yX7_paceBy cX7_paceBy 6 (some .int) 1 := ⟨mfA_X7_paceBy, mtb_in (List.mem_of_getElem? (i := 1117) (by decide +kernel)) rfl, mtb_in (List.mem_of_getElem? (i := 62) (by decide +kernel)) rfl⟩
theorem mfA_X7_daysOf : mfA yX7_daysOf cX7_daysOf 2 (some .int) 1 := ⟨ini_X7, mtb_in (List.mem_of_getElem? (i := 1092) (by decide +kernel)) rfl, by decide +kernel, by decide, by decide +kernel⟩
theorem mf_X7_daysOf : mfV yX7_daysOf cX7_daysOf 2 (some .int) 1 := ⟨mfA_X7_daysOf, mtb_in (List.mem_of_getElem? (i := 1091) (by decide +kernel)) rfl, mtb_in (List.mem_of_getElem? (i := 57) (by decide +kernel)) rfl⟩
theorem mfA_X7_soonest : mfA yX7_soonest cX7_soonest 5 (some .int) 0 := ⟨ini_X7, mtb_in (List.mem_of_getElem? (i := 1084) (by decide +kernel)) rfl, by decide +kernel, by decide, by decide +kernel⟩
theorem mf_X7_soonest : mfV yX7_soonest cX7_soonest 5 (some .int) 0 := ⟨mfA_X7_soonest, mtb_in (List.mem_of_getElem? (i := 1082) (by decide +kernel)) rfl, mtb_in (List.mem_of_getElem? (i := 1083) (by decide +kernel)) rfl⟩
theorem mfA_X7_lowest : mfA yX7_lowest cX7_lowest 6 (some .int) 3 := ⟨ini_X7, mtb_in (List.mem_of_getElem? (i := 1121) (by decide +kernel)) rfl, by decide +kernel, by decide, by decide +kernel⟩
theorem mf_X7_lowest : mfS yX7_lowest cX7_lowest 6 (some .int) 3 := ⟨mfA_X7_lowest, mtb_in (List.mem_of_getElem? (i := 1120) (by decide +kernel)) rfl⟩
theorem mfA_X7_chance : mfA yX7_chance cX7_chance 6 (some .int) 2 := ⟨ini_X7, mtb_in (List.mem_of_getElem? (i := 1088) (by decide +kernel)) rfl, by decide +kernel, by decide, by decide +kernel⟩
theorem mf_X7_chance : mfV yX7_chance cX7_chance 6 (some .int) 2 := ⟨mfA_X7_chance, mtb_in (List.mem_of_getElem? (i := 1086) (by decide +kernel)) rfl, mtb_in (List.mem_of_getElem? (i := 1087) (by decide +kernel)) rfl⟩
theorem mfA_X7_safe : mfA yX7_safe cX7_safe 3 (some .int) 1 := ⟨ini_X7, mtb_in (List.mem_of_getElem? (i := 1125) (by decide +kernel)) rfl, by decide +kernel, by decide, by decide +kernel⟩
theorem mf_X7_safe : mfV yX7_safe cX7_safe 3 (some .int) 1 := ⟨mfA_X7_safe, mtb_in (List.mem_of_getElem? (i := 1123) (by decide +kernel)) rfl, mtb_in (List.mem_of_getElem? (i := 1124) (by decide +kernel)) rfl⟩
theorem mfA_X7_least : mfA yX7_least cX7_least 5 (some .int) 2 := ⟨ini_X7, mtb_in (List.mem_of_getElem? (i := 1129) (by decide +kernel)) rfl, by decide +kernel, by decide, by decide +kernel⟩
theorem mf_X7_least : mfV yX7_least cX7_least 5 (some .int) 2 := ⟨mfA_X7_least, mtb_in (List.mem_of_getElem? (i := 1127) (by decide +kernel)) rfl, mtb_in (List.mem_of_getElem? (i := 1128) (by decide +kernel)) rfl⟩
theorem mfA_X7_catches : mfA yX7_catches cX7_catches 5 (some .int) 1 := ⟨ini_X7, mtb_in (List.mem_of_getElem? (i := 1133) (by decide +kernel)) rfl, by decide +kernel, by decide, by decide +kernel⟩
theorem mf_X7_catches : mfV yX7_catches cX7_catches 5 (some .int) 1 := ⟨mfA_X7_catches, mtb_in (List.mem_of_getElem? (i := 1131) (by decide +kernel)) rfl, mtb_in (List.mem_of_getElem? (i := 1132) (by decide +kernel)) rfl⟩
theorem mfA_X7_hears : mfA yX7_hears cX7_hears 4 (some .int) 3 := ⟨ini_X7, mtb_in (List.mem_of_getElem? (i := 1137) (by decide +kernel)) rfl, by decide +kernel, by decide, by decide +kernel⟩
theorem mf_X7_hears : mfV yX7_hears cX7_hears 4 (some .int) 3 := ⟨mfA_X7_hears, mtb_in (List.mem_of_getElem? (i := 1135) (by decide +kernel)) rfl, mtb_in (List.mem_of_getElem? (i := 1136) (by decide +kernel)) rfl⟩
theorem mfA_X7_forget : mfA yX7_forget cX7_forget 2 (some .int) 0 := ⟨ini_X7, mtb_in (List.mem_of_getElem? (i := 1141) (by decide +kernel)) rfl, by decide +kernel, by decide, by decide +kernel⟩
theorem mf_X7_forget : mfV yX7_forget cX7_forget 2 (some .int) 0 := ⟨mfA_X7_forget, mtb_in (List.mem_of_getElem? (i := 1139) (by decide +kernel)) rfl, mtb_in (List.mem_of_getElem? (i := 1140) (by decide +kernel)) rfl⟩
theorem mfA_X7_isHeard : mfA yX7_isHeard cX7_isHeard 5 (some .boolean) 2 := ⟨ini_X7, mtb_in (List.mem_of_getElem? (i := 1157) (by decide +kernel)) rfl, by decide +kernel, by decide, by decide +kernel⟩
theorem mf_X7_isHeard : mfV yX7_isHeard cX7_isHeard 5 (some .boolean) 2 := ⟨mfA_X7_isHeard, mtb_in (List.mem_of_getElem? (i := 1156) (by decide +kernel)) rfl, mtb_in (List.mem_of_getElem? (i := 65) (by decide +kernel)) rfl⟩
theorem mfA_X7_comeTo : mfA yX7_comeTo cX7_comeTo 3 (some .int) 2 := ⟨ini_X7, mtb_in (List.mem_of_getElem? (i := 1153) (by decide +kernel)) rfl, by decide +kernel, by decide, by decide +kernel⟩
theorem mf_X7_comeTo : mfV yX7_comeTo cX7_comeTo 3 (some .int) 2 := ⟨mfA_X7_comeTo, mtb_in (List.mem_of_getElem? (i := 1152) (by decide +kernel)) rfl, mtb_in (List.mem_of_getElem? (i := 64) (by decide +kernel)) rfl⟩
theorem mfA_X7_goFrom : mfA yX7_goFrom cX7_goFrom 3 (some .int) 2 := ⟨ini_X7, mtb_in (List.mem_of_getElem? (i := 1162) (by decide +kernel)) rfl, by decide +kernel, by decide, by decide +kernel⟩
theorem mf_X7_goFrom : mfV yX7_goFrom cX7_goFrom 3 (some .int) 2 := ⟨mfA_X7_goFrom, mtb_in (List.mem_of_getElem? (i := 1161) (by decide +kernel)) rfl, mtb_in (List.mem_of_getElem? (i := 66) (by decide +kernel)) rfl⟩
theorem mfA_X7_findHeard : mfA yX7_findHeard cX7_findHeard 6 none 1 := ⟨ini_X7, mtb_in (List.mem_of_getElem? (i := 1149) (by decide +kernel)) rfl, by decide +kernel, by decide, by decide +kernel⟩
theorem mf_X7_findHeard : mfV yX7_findHeard cX7_findHeard 6 none 1 := ⟨mfA_X7_findHeard, mtb_in (List.mem_of_getElem? (i := 1148) (by decide +kernel)) rfl, mtb_in (List.mem_of_getElem? (i := 63) (by decide +kernel)) rfl⟩
theorem mfA_X7_couldOf : mfA yX7_couldOf cX7_couldOf 4 (some .int) 1 := ⟨ini_X7, mtb_in (List.mem_of_getElem? (i := 1166) (by decide +kernel)) rfl, by decide +kernel, by decide, by decide +kernel⟩
theorem mf_X7_couldOf : mfV yX7_couldOf cX7_couldOf 4 (some .int) 1 := ⟨mfA_X7_couldOf, mtb_in (List.mem_of_getElem? (i := 1165) (by decide +kernel)) rfl, mtb_in (List.mem_of_getElem? (i := 67) (by decide +kernel)) rfl⟩
theorem mfA_X7_could : mfA yX7_could cX7_could 2 (some .int) 1 := ⟨ini_X7, mtb_in (List.mem_of_getElem? (i := 1145) (by decide +kernel)) rfl, by decide +kernel, by decide, by decide +kernel⟩
theorem mf_X7_could : mfV yX7_could cX7_could 2 (some .int) 1 := ⟨mfA_X7_could, mtb_in (List.mem_of_getElem? (i := 1143) (by decide +kernel)) rfl, mtb_in (List.mem_of_getElem? (i := 1144) (by decide +kernel)) rfl⟩
theorem mfA_X7_ways : mfA yX7_ways cX7_ways 3 (some .int) 0 := ⟨ini_X7, mtb_in (List.mem_of_getElem? (i := 1170) (by decide +kernel)) rfl, by decide +kernel, by decide, by decide +kernel⟩
theorem mf_X7_ways : mfV yX7_ways cX7_ways 3 (some .int) 0 := ⟨mfA_X7_ways, mtb_in (List.mem_of_getElem? (i := 1168) (by decide +kernel)) rfl, mtb_in (List.mem_of_getElem? (i := 1169) (by decide +kernel)) rfl⟩
theorem mfA_X7_ask : mfA yX7_ask cX7_ask 7 (some .int) 0 := ⟨ini_X7, mtb_in (List.mem_of_getElem? (i := 1174) (by decide +kernel)) rfl, by decide +kernel, by decide, by decide +kernel⟩
theorem mf_X7_ask : mfV yX7_ask cX7_ask 7 (some .int) 0 := ⟨mfA_X7_ask, mtb_in (List.mem_of_getElem? (i := 1172) (by decide +kernel)) rfl, mtb_in (List.mem_of_getElem? (i := 1173) (by decide +kernel)) rfl⟩
theorem mfA_X7_mark : mfA yX7_mark cX7_mark 6 (some .int) 2 := ⟨ini_X7, mtb_in (List.mem_of_getElem? (i := 1178) (by decide +kernel)) rfl, by decide +kernel, by decide, by decide +kernel⟩
theorem mf_X7_mark : mfV yX7_mark cX7_mark 6 (some .int) 2 := ⟨mfA_X7_mark, mtb_in (List.mem_of_getElem? (i := 1176) (by decide +kernel)) rfl, mtb_in (List.mem_of_getElem? (i := 1177) (by decide +kernel)) rfl⟩
theorem mfA_X7_keep : mfA yX7_keep cX7_keep 3 (some .int) 1 := ⟨ini_X7, mtb_in (List.mem_of_getElem? (i := 1187) (by decide +kernel)) rfl, by decide +kernel, by decide, by decide +kernel⟩
theorem mf_X7_keep : mfV yX7_keep cX7_keep 3 (some .int) 1 := ⟨mfA_X7_keep, mtb_in (List.mem_of_getElem? (i := 1185) (by decide +kernel)) rfl, mtb_in (List.mem_of_getElem? (i := 1186) (by decide +kernel)) rfl⟩
theorem mfA_X7_back : mfA yX7_back cX7_back 3 (some .int) 1 := ⟨ini_X7, mtb_in (List.mem_of_getElem? (i := 1191) (by decide +kernel)) rfl, by decide +kernel, by decide, by decide +kernel⟩
theorem mf_X7_back : mfV yX7_back cX7_back 3 (some .int) 1 := ⟨mfA_X7_back, mtb_in (List.mem_of_getElem? (i := 1189) (by decide +kernel)) rfl, mtb_in (List.mem_of_getElem? (i := 1190) (by decide +kernel)) rfl⟩
theorem mfA_X7_count : mfA yX7_count cX7_count 2 (some .int) 1 := ⟨ini_X7, mtb_in (List.mem_of_getElem? (i := 1195) (by decide +kernel)) rfl, by decide +kernel, by decide, by decide +kernel⟩
theorem mf_X7_count : mfV yX7_count cX7_count 2 (some .int) 1 := ⟨mfA_X7_count, mtb_in (List.mem_of_getElem? (i := 1193) (by decide +kernel)) rfl, mtb_in (List.mem_of_getElem? (i := 1194) (by decide +kernel)) rfl⟩
theorem mfA_X7_trace : mfA yX7_trace cX7_trace 1 (some .long) 0 := ⟨ini_X7, mtb_in (List.mem_of_getElem? (i := 1199) (by decide +kernel)) rfl, by decide +kernel, by decide, by decide +kernel⟩
theorem mf_X7_trace : mfV yX7_trace cX7_trace 1 (some .long) 0 := ⟨mfA_X7_trace, mtb_in (List.mem_of_getElem? (i := 1197) (by decide +kernel)) rfl, mtb_in (List.mem_of_getElem? (i := 1198) (by decide +kernel)) rfl⟩
theorem mfA_J6_bitCount_0f7a4 : mfA yJ6_bitCount_0f7a4 cJ6_bitCount_0f7a4 1 (some .int) 1 := ⟨ini_J6, mtb_in (List.mem_of_getElem? (i := 772) (by decide +kernel)) rfl, by decide +kernel, by decide, by decide +kernel⟩
theorem mf_J6_bitCount_0f7a4 : mfS yJ6_bitCount_0f7a4 cJ6_bitCount_0f7a4 1 (some .int) 1 := ⟨mfA_J6_bitCount_0f7a4, mtb_in (List.mem_of_getElem? (i := 771) (by decide +kernel)) rfl⟩
theorem lk_X5_21 : mlk RX5 21 yX5_wipe := mtb_in (List.mem_of_getElem? (i := 133) (by decide +kernel)) rfl
theorem lk_X0_25 : mlk RX0 25 yX0_drop := mtb_in (List.mem_of_getElem? (i := 257) (by decide +kernel)) rfl
theorem lk_X6_68 : mlk RX6 68 yX3_begin := mtb_in (List.mem_of_getElem? (i := 276) (by decide +kernel)) rfl
theorem lk_X6_72 : mlk RX6 72 yX4_add := mtb_in (List.mem_of_getElem? (i := 315) (by decide +kernel)) rfl
theorem lk_X6_79 : mlk RX6 79 yX4_readInto := mtb_in (List.mem_of_getElem? (i := 327) (by decide +kernel)) rfl
theorem lk_X4_44 : mlk RX4 44 yX4_begin := mtb_in (List.mem_of_getElem? (i := 331) (by decide +kernel)) rfl
theorem lk_X4_69 : mlk RX4 69 yX5_wipe := mtb_in (List.mem_of_getElem? (i := 335) (by decide +kernel)) rfl
theorem lk_X4_48 : mlk RX4 48 yX4_nextToken := mtb_in (List.mem_of_getElem? (i := 336) (by decide +kernel)) rfl
theorem lk_X4_116 : mlk RX4 116 yX4_byteAt := mtb_in (List.mem_of_getElem? (i := 340) (by decide +kernel)) rfl
theorem lk_X4_120 : mlk RX4 120 yX4_isLetter := mtb_in (List.mem_of_getElem? (i := 344) (by decide +kernel)) rfl
theorem lk_X4_124 : mlk RX4 124 yX4_takeLetters := mtb_in (List.mem_of_getElem? (i := 347) (by decide +kernel)) rfl
theorem lk_X4_127 : mlk RX4 127 yX4_isDigit := mtb_in (List.mem_of_getElem? (i := 351) (by decide +kernel)) rfl
theorem lk_X4_130 : mlk RX4 130 yX4_takeNumber := mtb_in (List.mem_of_getElem? (i := 354) (by decide +kernel)) rfl
theorem lk_X4_133 : mlk RX4 133 Lib.Math.min.name := mtb_in (List.mem_of_getElem? (i := 358) (by decide +kernel)) rfl
theorem lk_X4_51 : mlk RX4 51 yX4_readDay := mtb_in (List.mem_of_getElem? (i := 361) (by decide +kernel)) rfl
theorem lk_X4_77 : mlk RX4 77 yX4_refuseIf := mtb_in (List.mem_of_getElem? (i := 365) (by decide +kernel)) rfl
theorem lk_X4_81 : mlk RX4 81 yX4_number := mtb_in (List.mem_of_getElem? (i := 369) (by decide +kernel)) rfl
theorem lk_X4_85 : mlk RX4 85 yX4_stops := mtb_in (List.mem_of_getElem? (i := 373) (by decide +kernel)) rfl
theorem lk_X4_89 : mlk RX4 89 yX5_addDay := mtb_in (List.mem_of_getElem? (i := 377) (by decide +kernel)) rfl
theorem lk_X4_54 : mlk RX4 54 yX4_readBribe := mtb_in (List.mem_of_getElem? (i := 381) (by decide +kernel)) rfl
theorem lk_X4_96 : mlk RX4 96 yX5_addBribe := mtb_in (List.mem_of_getElem? (i := 385) (by decide +kernel)) rfl
theorem lk_X4_57 : mlk RX4 57 yX4_readTrade := mtb_in (List.mem_of_getElem? (i := 389) (by decide +kernel)) rfl
theorem lk_X4_103 : mlk RX4 103 yX5_addTrade := mtb_in (List.mem_of_getElem? (i := 393) (by decide +kernel)) rfl
theorem lk_X4_60 : mlk RX4 60 yX4_readRest := mtb_in (List.mem_of_getElem? (i := 397) (by decide +kernel)) rfl
theorem lk_X4_63 : mlk RX4 63 yX4_readLimit := mtb_in (List.mem_of_getElem? (i := 401) (by decide +kernel)) rfl
theorem lk_X4_66 : mlk RX4 66 yX4_readAdded := mtb_in (List.mem_of_getElem? (i := 405) (by decide +kernel)) rfl
theorem lk_X6_87 : mlk RX6 87 yX0_drop := mtb_in (List.mem_of_getElem? (i := 409) (by decide +kernel)) rfl
theorem lk_X6_90 : mlk RX6 90 yX5_sunOf := mtb_in (List.mem_of_getElem? (i := 414) (by decide +kernel)) rfl
theorem lk_X6_98 : mlk RX6 98 yX5_ofBribe := mtb_in (List.mem_of_getElem? (i := 423) (by decide +kernel)) rfl
theorem lk_X6_102 : mlk RX6 102 yX5_hasTrade := mtb_in (List.mem_of_getElem? (i := 432) (by decide +kernel)) rfl
theorem lk_X6_105 : mlk RX6 105 yX3_harmOf := mtb_in (List.mem_of_getElem? (i := 436) (by decide +kernel)) rfl
theorem lk_X6_108 : mlk RX6 108 yX5_ofTrade := mtb_in (List.mem_of_getElem? (i := 440) (by decide +kernel)) rfl
theorem lk_X6_111 : mlk RX6 111 yX6_isPace := mtb_in (List.mem_of_getElem? (i := 448) (by decide +kernel)) rfl
theorem lk_X6_114 : mlk RX6 114 yX3_isEnded := mtb_in (List.mem_of_getElem? (i := 451) (by decide +kernel)) rfl
theorem lk_X3_45 : mlk RX3 45 yX3_isOver := mtb_in (List.mem_of_getElem? (i := 455) (by decide +kernel)) rfl
theorem lk_X3_33 : mlk RX3 33 yX3_day := mtb_in (List.mem_of_getElem? (i := 459) (by decide +kernel)) rfl
theorem lk_X3_49 : mlk RX3 49 yX3_isFree := mtb_in (List.mem_of_getElem? (i := 463) (by decide +kernel)) rfl
theorem lk_X3_42 : mlk RX3 42 yX3_rest := mtb_in (List.mem_of_getElem? (i := 467) (by decide +kernel)) rfl
theorem lk_X6_118 : mlk RX6 118 yX3_error := mtb_in (List.mem_of_getElem? (i := 471) (by decide +kernel)) rfl
theorem lk_X6_122 : mlk RX6 122 yX6_isBeyond := mtb_in (List.mem_of_getElem? (i := 475) (by decide +kernel)) rfl
theorem lk_X6_125 : mlk RX6 125 yX3_turn := mtb_in (List.mem_of_getElem? (i := 478) (by decide +kernel)) rfl
theorem lk_X3_53 : mlk RX3 53 yX3_remember := mtb_in (List.mem_of_getElem? (i := 482) (by decide +kernel)) rfl
theorem lk_X3_23 : mlk RX3 23 arraycopyName := mtb_in (List.mem_of_getElem? (i := 486) (by decide +kernel)) rfl
theorem lk_X3_68 : mlk RX3 68 Lib.Math.min.name := mtb_in (List.mem_of_getElem? (i := 489) (by decide +kernel)) rfl
theorem lk_X3_56 : mlk RX3 56 Lib.Math.max.name := mtb_in (List.mem_of_getElem? (i := 490) (by decide +kernel)) rfl
theorem lk_X3_62 : mlk RX3 62 yX3_candles := mtb_in (List.mem_of_getElem? (i := 493) (by decide +kernel)) rfl
theorem lk_X3_65 : mlk RX3 65 yX5_candlesFor := mtb_in (List.mem_of_getElem? (i := 497) (by decide +kernel)) rfl
theorem lk_X5_44 : mlk RX5 44 yX5_ofBribe := mtb_in (List.mem_of_getElem? (i := 501) (by decide +kernel)) rfl
theorem lk_X3_29 : mlk RX3 29 yX3_harmOf := mtb_in (List.mem_of_getElem? (i := 502) (by decide +kernel)) rfl
theorem lk_X3_74 : mlk RX3 74 yX3_error := mtb_in (List.mem_of_getElem? (i := 503) (by decide +kernel)) rfl
theorem lk_X3_77 : mlk RX3 77 yX5_harmTo := mtb_in (List.mem_of_getElem? (i := 504) (by decide +kernel)) rfl
theorem lk_X5_48 : mlk RX5 48 yX5_ofTrade := mtb_in (List.mem_of_getElem? (i := 508) (by decide +kernel)) rfl
theorem lk_X3_80 : mlk RX3 80 yX3_setHarm := mtb_in (List.mem_of_getElem? (i := 509) (by decide +kernel)) rfl
theorem lk_X3_84 : mlk RX3 84 yX3_draw := mtb_in (List.mem_of_getElem? (i := 513) (by decide +kernel)) rfl
theorem lk_X3_87 : mlk RX3 87 yX5_sunOf := mtb_in (List.mem_of_getElem? (i := 521) (by decide +kernel)) rfl
theorem lk_X3_90 : mlk RX3 90 yX3_check := mtb_in (List.mem_of_getElem? (i := 522) (by decide +kernel)) rfl
theorem lk_X3_104 : mlk RX3 104 Lib.Math.abs.name := mtb_in (List.mem_of_getElem? (i := 526) (by decide +kernel)) rfl
theorem lk_X6_129 : mlk RX6 129 yX3_watch := mtb_in (List.mem_of_getElem? (i := 533) (by decide +kernel)) rfl
theorem lk_X6_132 : mlk RX6 132 yX3_candles := mtb_in (List.mem_of_getElem? (i := 541) (by decide +kernel)) rfl
theorem lk_X6_135 : mlk RX6 135 yX3_pay := mtb_in (List.mem_of_getElem? (i := 542) (by decide +kernel)) rfl
theorem lk_X6_138 : mlk RX6 138 yX3_correct := mtb_in (List.mem_of_getElem? (i := 550) (by decide +kernel)) rfl
theorem lk_X6_141 : mlk RX6 141 yX3_recall := mtb_in (List.mem_of_getElem? (i := 558) (by decide +kernel)) rfl
theorem lk_X6_148 : mlk RX6 148 yX3_day := mtb_in (List.mem_of_getElem? (i := 566) (by decide +kernel)) rfl
theorem lk_X6_151 : mlk RX6 151 yX3_rest := mtb_in (List.mem_of_getElem? (i := 567) (by decide +kernel)) rfl
theorem lk_X6_153 : mlk RX6 153 yX3_harmOfAll := mtb_in (List.mem_of_getElem? (i := 568) (by decide +kernel)) rfl
theorem lk_X6_156 : mlk RX6 156 yX3_found := mtb_in (List.mem_of_getElem? (i := 572) (by decide +kernel)) rfl
theorem lk_X6_159 : mlk RX6 159 yX3_isOver := mtb_in (List.mem_of_getElem? (i := 576) (by decide +kernel)) rfl
theorem lk_X6_162 : mlk RX6 162 yX3_isFree := mtb_in (List.mem_of_getElem? (i := 577) (by decide +kernel)) rfl
theorem lk_X6_165 : mlk RX6 165 yX3_soonestFree := mtb_in (List.mem_of_getElem? (i := 582) (by decide +kernel)) rfl
theorem lk_X3_94 : mlk RX3 94 yX3_daysLeft := mtb_in (List.mem_of_getElem? (i := 586) (by decide +kernel)) rfl
theorem lk_X6_168 : mlk RX6 168 yX1_weigh := mtb_in (List.mem_of_getElem? (i := 594) (by decide +kernel)) rfl
theorem lk_X1_28 : mlk RX1 28 yX3_daysLeft := mtb_in (List.mem_of_getElem? (i := 598) (by decide +kernel)) rfl
theorem lk_X1_34 : mlk RX1 34 Lib.Math.min.name := mtb_in (List.mem_of_getElem? (i := 599) (by decide +kernel)) rfl
theorem lk_X1_40 : mlk RX1 40 yX3_isFree := mtb_in (List.mem_of_getElem? (i := 600) (by decide +kernel)) rfl
theorem lk_X1_44 : mlk RX1 44 yX1_fillRow := mtb_in (List.mem_of_getElem? (i := 601) (by decide +kernel)) rfl
theorem lk_X1_68 : mlk RX1 68 yX1_put := mtb_in (List.mem_of_getElem? (i := 605) (by decide +kernel)) rfl
theorem lk_X1_61 : mlk RX1 61 yX1_best := mtb_in (List.mem_of_getElem? (i := 609) (by decide +kernel)) rfl
theorem lk_X1_72 : mlk RX1 72 yX1_turned := mtb_in (List.mem_of_getElem? (i := 613) (by decide +kernel)) rfl
theorem lk_X1_79 : mlk RX1 79 Lib.Math.max.name := mtb_in (List.mem_of_getElem? (i := 618) (by decide +kernel)) rfl
theorem lk_X1_82 : mlk RX1 82 yX1_laterAt := mtb_in (List.mem_of_getElem? (i := 619) (by decide +kernel)) rfl
theorem lk_X1_85 : mlk RX1 85 Lib.Math.abs.name := mtb_in (List.mem_of_getElem? (i := 623) (by decide +kernel)) rfl
theorem lk_X1_94 : mlk RX1 94 yX5_sunOf := mtb_in (List.mem_of_getElem? (i := 624) (by decide +kernel)) rfl
theorem lk_X1_48 : mlk RX1 48 yX1_swapRows := mtb_in (List.mem_of_getElem? (i := 625) (by decide +kernel)) rfl
theorem lk_X1_51 : mlk RX1 51 yX3_day := mtb_in (List.mem_of_getElem? (i := 629) (by decide +kernel)) rfl
theorem lk_X1_55 : mlk RX1 55 yX3_error := mtb_in (List.mem_of_getElem? (i := 630) (by decide +kernel)) rfl
theorem lk_X1_58 : mlk RX1 58 yX3_rest := mtb_in (List.mem_of_getElem? (i := 631) (by decide +kernel)) rfl
theorem lk_X1_65 : mlk RX1 65 yX1_reduce := mtb_in (List.mem_of_getElem? (i := 632) (by decide +kernel)) rfl
theorem lk_X6_181 : mlk RX6 181 yX2_forCandles := mtb_in (List.mem_of_getElem? (i := 640) (by decide +kernel)) rfl
theorem lk_X2_29 : mlk RX2 29 yX3_daysLeft := mtb_in (List.mem_of_getElem? (i := 644) (by decide +kernel)) rfl
theorem lk_X2_35 : mlk RX2 35 yX2_make := mtb_in (List.mem_of_getElem? (i := 645) (by decide +kernel)) rfl
theorem lk_X2_46 : mlk RX2 46 yX3_isFree := mtb_in (List.mem_of_getElem? (i := 650) (by decide +kernel)) rfl
theorem lk_X2_50 : mlk RX2 50 yX2_restBehind := mtb_in (List.mem_of_getElem? (i := 651) (by decide +kernel)) rfl
theorem lk_X2_72 : mlk RX2 72 yX3_rest := mtb_in (List.mem_of_getElem? (i := 654) (by decide +kernel)) rfl
theorem lk_X2_69 : mlk RX2 69 yX3_error := mtb_in (List.mem_of_getElem? (i := 655) (by decide +kernel)) rfl
theorem lk_X2_54 : mlk RX2 54 yX2_put := mtb_in (List.mem_of_getElem? (i := 656) (by decide +kernel)) rfl
theorem lk_X2_58 : mlk RX2 58 yX2_swapRows := mtb_in (List.mem_of_getElem? (i := 660) (by decide +kernel)) rfl
theorem lk_X2_61 : mlk RX2 61 yX3_day := mtb_in (List.mem_of_getElem? (i := 664) (by decide +kernel)) rfl
theorem lk_X2_65 : mlk RX2 65 yX2_best := mtb_in (List.mem_of_getElem? (i := 665) (by decide +kernel)) rfl
theorem lk_X2_75 : mlk RX2 75 yX2_gain := mtb_in (List.mem_of_getElem? (i := 669) (by decide +kernel)) rfl
theorem lk_X2_84 : mlk RX2 84 Lib.Math.abs.name := mtb_in (List.mem_of_getElem? (i := 673) (by decide +kernel)) rfl
theorem lk_X2_88 : mlk RX2 88 yX2_laterAt := mtb_in (List.mem_of_getElem? (i := 674) (by decide +kernel)) rfl
theorem lk_X2_91 : mlk RX2 91 yX5_candlesFor := mtb_in (List.mem_of_getElem? (i := 678) (by decide +kernel)) rfl
theorem lk_X2_94 : mlk RX2 94 yX5_harmToAll := mtb_in (List.mem_of_getElem? (i := 679) (by decide +kernel)) rfl
theorem lk_X5_51 : mlk RX5 51 yX5_harmTo := mtb_in (List.mem_of_getElem? (i := 683) (by decide +kernel)) rfl
theorem lk_X6_189 : mlk RX6 189 yX2_forFreedom := mtb_in (List.mem_of_getElem? (i := 688) (by decide +kernel)) rfl
theorem lk_X2_39 : mlk RX2 39 Lib.Math.min.name := mtb_in (List.mem_of_getElem? (i := 692) (by decide +kernel)) rfl
theorem lk_X6_192 : mlk RX6 192 yX3_caughtBehind := mtb_in (List.mem_of_getElem? (i := 697) (by decide +kernel)) rfl
theorem lk_X3_97 : mlk RX3 97 yX3_isEnded := mtb_in (List.mem_of_getElem? (i := 701) (by decide +kernel)) rfl
theorem lk_X6_196 : mlk RX6 196 yX0_add := mtb_in (List.mem_of_getElem? (i := 707) (by decide +kernel)) rfl
theorem lk_X0_29 : mlk RX0 29 yX0_within := mtb_in (List.mem_of_getElem? (i := 711) (by decide +kernel)) rfl
theorem lk_X6_202 : mlk RX6 202 yX0_errorsBehind := mtb_in (List.mem_of_getElem? (i := 722) (by decide +kernel)) rfl
theorem lk_X0_33 : mlk RX0 33 yX0_aDayOn := mtb_in (List.mem_of_getElem? (i := 726) (by decide +kernel)) rfl
theorem lk_X0_37 : mlk RX0 37 yX0_allowedBehind := mtb_in (List.mem_of_getElem? (i := 729) (by decide +kernel)) rfl
theorem lk_X0_40 : mlk RX0 40 yX0_aDayBack := mtb_in (List.mem_of_getElem? (i := 733) (by decide +kernel)) rfl
theorem lk_X6_205 : mlk RX6 205 yX0_rows := mtb_in (List.mem_of_getElem? (i := 740) (by decide +kernel)) rfl
theorem lk_X0_51 : mlk RX0 51 yX0_rowsFrom := mtb_in (List.mem_of_getElem? (i := 744) (by decide +kernel)) rfl
theorem lk_X0_61 : mlk RX0 61 yX0_laterAt := mtb_in (List.mem_of_getElem? (i := 748) (by decide +kernel)) rfl
theorem lk_X0_54 : mlk RX0 54 yX0_put := mtb_in (List.mem_of_getElem? (i := 753) (by decide +kernel)) rfl
theorem lk_X0_58 : mlk RX0 58 yX0_swapRows := mtb_in (List.mem_of_getElem? (i := 757) (by decide +kernel)) rfl
theorem lk_X6_208 : mlk RX6 208 yX0_widestDay := mtb_in (List.mem_of_getElem? (i := 765) (by decide +kernel)) rfl
theorem lk_X0_43 : mlk RX0 43 yX0_errorsBehind := mtb_in (List.mem_of_getElem? (i := 769) (by decide +kernel)) rfl
theorem lk_X0_46 : mlk RX0 46 yJ6_bitCount_0f7a4 := mtb_in (List.mem_of_getElem? (i := 770) (by decide +kernel)) rfl
theorem lk_X6_211 : mlk RX6 211 yX6_asTrade := mtb_in (List.mem_of_getElem? (i := 780) (by decide +kernel)) rfl
theorem lk_X6_214 : mlk RX6 214 yX6_asBaker := mtb_in (List.mem_of_getElem? (i := 784) (by decide +kernel)) rfl
theorem lk_X6_217 : mlk RX6 217 yX6_asCourt := mtb_in (List.mem_of_getElem? (i := 789) (by decide +kernel)) rfl
theorem lk_X6_220 : mlk RX6 220 yX6_asSweetheart := mtb_in (List.mem_of_getElem? (i := 794) (by decide +kernel)) rfl
theorem lk_X6_223 : mlk RX6 223 yX6_asWife := mtb_in (List.mem_of_getElem? (i := 799) (by decide +kernel)) rfl
theorem lk_X6_226 : mlk RX6 226 yX6_asHen := mtb_in (List.mem_of_getElem? (i := 804) (by decide +kernel)) rfl
theorem lk_X6_229 : mlk RX6 229 yX3_copy := mtb_in (List.mem_of_getElem? (i := 813) (by decide +kernel)) rfl
theorem lk_X7_66 : mlk RX7 66 yX7_in := mtb_in (List.mem_of_getElem? (i := 946) (by decide +kernel)) rfl
theorem lk_X7_100 : mlk RX7 100 yX7_next := mtb_in (List.mem_of_getElem? (i := 957) (by decide +kernel)) rfl
theorem lk_X7_76 : mlk RX7 76 yX7_letterAt := mtb_in (List.mem_of_getElem? (i := 961) (by decide +kernel)) rfl
theorem lk_X7_89 : mlk RX7 89 yX7_isFigure := mtb_in (List.mem_of_getElem? (i := 965) (by decide +kernel)) rfl
theorem lk_X7_93 : mlk RX7 93 yX7_isLetter := mtb_in (List.mem_of_getElem? (i := 968) (by decide +kernel)) rfl
theorem lk_X7_138 : mlk RX7 138 yX7_readItem := mtb_in (List.mem_of_getElem? (i := 971) (by decide +kernel)) rfl
theorem lk_X7_128 : mlk RX7 128 yX7_mayBegin := mtb_in (List.mem_of_getElem? (i := 975) (by decide +kernel)) rfl
theorem lk_X7_131 : mlk RX7 131 yX7_readBody := mtb_in (List.mem_of_getElem? (i := 979) (by decide +kernel)) rfl
theorem lk_X7_106 : mlk RX7 106 yX7_takesNumber := mtb_in (List.mem_of_getElem? (i := 983) (by decide +kernel)) rfl
theorem lk_X7_125 : mlk RX7 125 yX7_readBribe := mtb_in (List.mem_of_getElem? (i := 987) (by decide +kernel)) rfl
theorem lk_X7_141 : mlk RX7 141 yX7_settles := mtb_in (List.mem_of_getElem? (i := 991) (by decide +kernel)) rfl
theorem lk_X7_154 : mlk RX7 154 yX7_isTrade := mtb_in (List.mem_of_getElem? (i := 1008) (by decide +kernel)) rfl
theorem lk_X7_173 : mlk RX7 173 yX7_isPace := mtb_in (List.mem_of_getElem? (i := 1016) (by decide +kernel)) rfl
theorem lk_X7_176 : mlk RX7 176 yX7_isDone := mtb_in (List.mem_of_getElem? (i := 1019) (by decide +kernel)) rfl
theorem lk_X7_157 : mlk RX7 157 yX7_isOver := mtb_in (List.mem_of_getElem? (i := 1023) (by decide +kernel)) rfl
theorem lk_X7_161 : mlk RX7 161 yX7_isFree := mtb_in (List.mem_of_getElem? (i := 1027) (by decide +kernel)) rfl
theorem lk_X7_164 : mlk RX7 164 yX7_size := mtb_in (List.mem_of_getElem? (i := 1031) (by decide +kernel)) rfl
theorem lk_X7_179 : mlk RX7 179 yX7_remembers := mtb_in (List.mem_of_getElem? (i := 1034) (by decide +kernel)) rfl
theorem lk_X7_182 : mlk RX7 182 yX7_restBehind := mtb_in (List.mem_of_getElem? (i := 1038) (by decide +kernel)) rfl
theorem lk_X7_185 : mlk RX7 185 yX7_candlesBy := mtb_in (List.mem_of_getElem? (i := 1041) (by decide +kernel)) rfl
theorem lk_X7_170 : mlk RX7 170 yX7_lesser := mtb_in (List.mem_of_getElem? (i := 1045) (by decide +kernel)) rfl
theorem lk_X7_167 : mlk RX7 167 yX7_harmOf := mtb_in (List.mem_of_getElem? (i := 1048) (by decide +kernel)) rfl
theorem lk_X7_198 : mlk RX7 198 yX7_checks := mtb_in (List.mem_of_getElem? (i := 1057) (by decide +kernel)) rfl
theorem lk_X7_220 : mlk RX7 220 yX7_daysOf := mtb_in (List.mem_of_getElem? (i := 1089) (by decide +kernel)) rfl
theorem lk_X7_223 : mlk RX7 223 yX7_findWorths := mtb_in (List.mem_of_getElem? (i := 1093) (by decide +kernel)) rfl
theorem lk_X7_202 : mlk RX7 202 yX7_at := mtb_in (List.mem_of_getElem? (i := 1097) (by decide +kernel)) rfl
theorem lk_X7_216 : mlk RX7 216 yX7_bestOf := mtb_in (List.mem_of_getElem? (i := 1100) (by decide +kernel)) rfl
theorem lk_X7_208 : mlk RX7 208 yX7_mayTurn := mtb_in (List.mem_of_getElem? (i := 1104) (by decide +kernel)) rfl
theorem lk_X7_212 : mlk RX7 212 yX7_worthBy := mtb_in (List.mem_of_getElem? (i := 1107) (by decide +kernel)) rfl
theorem lk_X7_205 : mlk RX7 205 yX7_harmBy := mtb_in (List.mem_of_getElem? (i := 1111) (by decide +kernel)) rfl
theorem lk_X7_227 : mlk RX7 227 yX7_paceBy := mtb_in (List.mem_of_getElem? (i := 1115) (by decide +kernel)) rfl
theorem lk_X7_230 : mlk RX7 230 yX7_lowest := mtb_in (List.mem_of_getElem? (i := 1119) (by decide +kernel)) rfl
theorem lk_X7_244 : mlk RX7 244 yX7_findHeard := mtb_in (List.mem_of_getElem? (i := 1146) (by decide +kernel)) rfl
theorem lk_X7_234 : mlk RX7 234 yX7_comeTo := mtb_in (List.mem_of_getElem? (i := 1150) (by decide +kernel)) rfl
theorem lk_X7_237 : mlk RX7 237 yX7_isHeard := mtb_in (List.mem_of_getElem? (i := 1154) (by decide +kernel)) rfl
theorem lk_X7_241 : mlk RX7 241 yX7_goFrom := mtb_in (List.mem_of_getElem? (i := 1159) (by decide +kernel)) rfl
theorem lk_X7_248 : mlk RX7 248 yX7_couldOf := mtb_in (List.mem_of_getElem? (i := 1163) (by decide +kernel)) rfl
end
section
/-! fields, constants -/
def mlook {β : Type} : List (Nat × β) → Nat → Option β
  | [], _ => none
  | (a, b) :: r, x => match Nat.beq a x with
    | true => some b
    | false => mlook r x
theorem mlook_mem {β : Type} : ∀ {l : List (Nat × β)} {x : Nat} {b : β}, mlook l x = some b → (x, b) ∈ l
  | (a, c) :: r, x, b, h => by
    unfold mlook at h
    split at h
    · rename_i e
      have e := Nat.eq_of_beq_eq_true e
      cases h; subst e; exact List.mem_cons_self
    · exact List.mem_cons_of_mem _ (mlook_mem h)
theorem mFT_of {own : String} {l : List (Nat × (Nat × Nat × Nat))} (h : ∀ q ∈ l, mfok own q.1 q.2) : mFT own (mlook l) := fun x q e => h _ (mlook_mem e)
theorem mKT_of {own : String} {l : List (Nat × Int)} (h : ∀ q ∈ l, Cond.constant own q.1 (iN q.2) ∈ mtb) : mKT own (mlook l) := fun x q e => h _ (mlook_mem e)
theorem mKJ_of {own : String} {l : List (Nat × Int)} (h : ∀ q ∈ l, Cond.constantLong own q.1 (jN q.2) ∈ mtb) : mKJ own (mlook l) := fun x q e => h _ (mlook_mem e)
theorem uw_X0 : ∀ w ∈ u_ws RX0 TX0 4, w ∈ mtb := by
  have h : GoodIn lw_tbl (u_ws RX0 TX0 4) := goodIn_r _ [267, 269, 271, 273] (by decide +kernel) (by decide +kernel)
  intro w hw
  refine List.mem_filter.mpr ⟨(h w hw).1, ?_⟩
  exact List.all_eq_true.mp (by decide +kernel : (u_ws RX0 TX0 4).all goodWord = true) w hw
theorem uw_X1 : ∀ w ∈ u_ws RX1 TX1 5, w ∈ mtb := by
  have h : GoodIn lw_tbl (u_ws RX1 TX1 5) := goodIn_r _ [240, 242, 244, 246, 248] (by decide +kernel) (by decide +kernel)
  intro w hw
  refine List.mem_filter.mpr ⟨(h w hw).1, ?_⟩
  exact List.all_eq_true.mp (by decide +kernel : (u_ws RX1 TX1 5).all goodWord = true) w hw
theorem uw_X2 : ∀ w ∈ u_ws RX2 TX2 5, w ∈ mtb := by
  have h : GoodIn lw_tbl (u_ws RX2 TX2 5) := goodIn_r _ [215, 217, 219, 221, 223] (by decide +kernel) (by decide +kernel)
  intro w hw
  refine List.mem_filter.mpr ⟨(h w hw).1, ?_⟩
  exact List.all_eq_true.mp (by decide +kernel : (u_ws RX2 TX2 5).all goodWord = true) w hw
theorem uw_X3 : ∀ w ∈ u_ws RX3 TX3 3, w ∈ mtb := by
  have h : GoodIn lw_tbl (u_ws RX3 TX3 3) := goodIn_r _ [195, 197, 199] (by decide +kernel) (by decide +kernel)
  intro w hw
  refine List.mem_filter.mpr ⟨(h w hw).1, ?_⟩
  exact List.all_eq_true.mp (by decide +kernel : (u_ws RX3 TX3 3).all goodWord = true) w hw
theorem uw_X4 : ∀ w ∈ u_ws RX4 TX4 10, w ∈ mtb := by
  have h : GoodIn lw_tbl (u_ws RX4 TX4 10) := goodIn_r _ [105, 107, 109, 111, 113, 115, 117, 119, 121, 123] (by decide +kernel) (by decide +kernel)
  intro w hw
  refine List.mem_filter.mpr ⟨(h w hw).1, ?_⟩
  exact List.all_eq_true.mp (by decide +kernel : (u_ws RX4 TX4 10).all goodWord = true) w hw
theorem uw_X5 : ∀ w ∈ u_ws RX5 TX5 9, w ∈ mtb := by
  have h : GoodIn lw_tbl (u_ws RX5 TX5 9) := goodIn_r _ [165, 167, 169, 171, 173, 175, 177, 179, 181] (by decide +kernel) (by decide +kernel)
  intro w hw
  refine List.mem_filter.mpr ⟨(h w hw).1, ?_⟩
  exact List.all_eq_true.mp (by decide +kernel : (u_ws RX5 TX5 9).all goodWord = true) w hw
theorem uw_X6 : ∀ w ∈ u_ws RX6 TX6 10, w ∈ mtb := by
  have h : GoodIn lw_tbl (u_ws RX6 TX6 10) := goodIn_r _ [290, 292, 294, 296, 298, 300, 302, 304, 306, 308] (by decide +kernel) (by decide +kernel)
  intro w hw
  refine List.mem_filter.mpr ⟨(h w hw).1, ?_⟩
  exact List.all_eq_true.mp (by decide +kernel : (u_ws RX6 TX6 10).all goodWord = true) w hw
theorem uw_X7 : ∀ w ∈ u_ws RX7 TX7 35, w ∈ mtb := by
  have h : GoodIn lw_tbl (u_ws RX7 TX7 35) := goodIn_r _ [870, 872, 874, 876, 878, 880, 882, 884, 886, 888, 890, 892, 894, 896, 898, 900, 902, 904, 906, 908, 910, 912, 914, 916, 918, 920, 922, 924, 926, 928, 930, 932, 934, 936, 938] (by decide +kernel) (by decide +kernel)
  intro w hw
  refine List.mem_filter.mpr ⟨(h w hw).1, ?_⟩
  exact List.all_eq_true.mp (by decide +kernel : (u_ws RX7 TX7 35).all goodWord = true) w hw
abbrev flX0 : List (Nat × (Nat × Nat × Nat)) := [(9, (0, 0, 4)), (15, (0, 1, 3)), (18, (0, 2, 3)), (21, (0, 3, 0))]
theorem fo_X0_9 : mfok RX0 9 (0, 0, 4) := ⟨RX0, TX0, 4, tyX0, (.array .int), rfl, by decide, uw_X0, tyX0_ok, nmX0, mtb_in (List.mem_of_getElem? (i := 262) (by decide +kernel)) rfl, by decide +kernel, trivial⟩
theorem fo_X0_15 : mfok RX0 15 (0, 1, 3) := ⟨RX0, TX0, 4, tyX0, (.array .int), rfl, by decide, uw_X0, tyX0_ok, nmX0, mtb_in (List.mem_of_getElem? (i := 263) (by decide +kernel)) rfl, by decide +kernel, ⟨Or.inr rfl, rfl⟩⟩
theorem fo_X0_18 : mfok RX0 18 (0, 2, 3) := ⟨RX0, TX0, 4, tyX0, (.array .int), rfl, by decide, uw_X0, tyX0_ok, nmX0, mtb_in (List.mem_of_getElem? (i := 264) (by decide +kernel)) rfl, by decide +kernel, ⟨Or.inr rfl, rfl⟩⟩
theorem fo_X0_21 : mfok RX0 21 (0, 3, 0) := ⟨RX0, TX0, 4, tyX0, .int, rfl, by decide, uw_X0, tyX0_ok, nmX0, mtb_in (List.mem_of_getElem? (i := 265) (by decide +kernel)) rfl, by decide +kernel, ⟨rfl, rfl⟩⟩
theorem fT_X0 : mFT RX0 (mlook flX0) := mFT_of (List.forall_mem_cons.mpr ⟨fo_X0_9, List.forall_mem_cons.mpr ⟨fo_X0_15, List.forall_mem_cons.mpr ⟨fo_X0_18, List.forall_mem_cons.mpr ⟨fo_X0_21, fun _ h => absurd h List.not_mem_nil⟩⟩⟩⟩)
abbrev klX0 : List (Nat × Int) := [(28, 524287), (64, 1000003)]
theorem kT_X0 : mKT RX0 (mlook klX0) := mKT_of (List.forall_mem_cons.mpr ⟨mtb_in (List.mem_of_getElem? (i := 261) (by decide +kernel)) rfl, List.forall_mem_cons.mpr ⟨mtb_in (List.mem_of_getElem? (i := 752) (by decide +kernel)) rfl, fun _ h => absurd h List.not_mem_nil⟩⟩)
abbrev jlX0 : List (Nat × Int) := []
theorem jT_X0 : mKJ RX0 (mlook jlX0) := mKJ_of (fun _ h => absurd h List.not_mem_nil)
abbrev flX1 : List (Nat × (Nat × Nat × Nat)) := [(11, (1, 0, 3)), (15, (1, 1, 3)), (18, (1, 2, 0)), (22, (1, 3, 0)), (25, (1, 4, 0)), (89, (5, 7, 0)), (97, (5, 8, 0))]
theorem fo_X1_11 : mfok RX1 11 (1, 0, 3) := ⟨RX1, TX1, 5, tyX1, (.array .int), rfl, by decide, uw_X1, tyX1_ok, nmX1, mtb_in (List.mem_of_getElem? (i := 232) (by decide +kernel)) rfl, by decide +kernel, ⟨Or.inr rfl, rfl⟩⟩
theorem fo_X1_15 : mfok RX1 15 (1, 1, 3) := ⟨RX1, TX1, 5, tyX1, (.array .int), rfl, by decide, uw_X1, tyX1_ok, nmX1, mtb_in (List.mem_of_getElem? (i := 233) (by decide +kernel)) rfl, by decide +kernel, ⟨Or.inr rfl, rfl⟩⟩
theorem fo_X1_18 : mfok RX1 18 (1, 2, 0) := ⟨RX1, TX1, 5, tyX1, .int, rfl, by decide, uw_X1, tyX1_ok, nmX1, mtb_in (List.mem_of_getElem? (i := 234) (by decide +kernel)) rfl, by decide +kernel, ⟨rfl, rfl⟩⟩
theorem fo_X1_22 : mfok RX1 22 (1, 3, 0) := ⟨RX1, TX1, 5, tyX1, .int, rfl, by decide, uw_X1, tyX1_ok, nmX1, mtb_in (List.mem_of_getElem? (i := 236) (by decide +kernel)) rfl, by decide +kernel, ⟨rfl, rfl⟩⟩
theorem fo_X1_25 : mfok RX1 25 (1, 4, 0) := ⟨RX1, TX1, 5, tyX1, .int, rfl, by decide, uw_X1, tyX1_ok, nmX1, mtb_in (List.mem_of_getElem? (i := 238) (by decide +kernel)) rfl, by decide +kernel, ⟨rfl, rfl⟩⟩
theorem fo_X1_89 : mfok RX1 89 (5, 7, 0) := ⟨RX5, TX5, 9, tyX5, .int, rfl, by decide, uw_X5, tyX5_ok, nmX5, mtb_in (List.mem_of_getElem? (i := 155) (by decide +kernel)) rfl, by decide +kernel, ⟨rfl, rfl⟩⟩
theorem fo_X1_97 : mfok RX1 97 (5, 8, 0) := ⟨RX5, TX5, 9, tyX5, .int, rfl, by decide, uw_X5, tyX5_ok, nmX5, mtb_in (List.mem_of_getElem? (i := 161) (by decide +kernel)) rfl, by decide +kernel, ⟨rfl, rfl⟩⟩
theorem fT_X1 : mFT RX1 (mlook flX1) := mFT_of (List.forall_mem_cons.mpr ⟨fo_X1_11, List.forall_mem_cons.mpr ⟨fo_X1_15, List.forall_mem_cons.mpr ⟨fo_X1_18, List.forall_mem_cons.mpr ⟨fo_X1_22, List.forall_mem_cons.mpr ⟨fo_X1_25, List.forall_mem_cons.mpr ⟨fo_X1_89, List.forall_mem_cons.mpr ⟨fo_X1_97, fun _ h => absurd h List.not_mem_nil⟩⟩⟩⟩⟩⟩⟩)
abbrev klX1 : List (Nat × Int) := []
theorem kT_X1 : mKT RX1 (mlook klX1) := mKT_of (fun _ h => absurd h List.not_mem_nil)
abbrev jlX1 : List (Nat × Int) := []
theorem jT_X1 : mKJ RX1 (mlook jlX1) := mKJ_of (fun _ h => absurd h List.not_mem_nil)
abbrev flX2 : List (Nat × (Nat × Nat × Nat)) := [(9, (2, 0, 3)), (15, (2, 1, 3)), (18, (2, 2, 1)), (22, (2, 3, 0)), (26, (2, 4, 0)), (79, (5, 7, 0))]
theorem fo_X2_9 : mfok RX2 9 (2, 0, 3) := ⟨RX2, TX2, 5, tyX2, (.array .int), rfl, by decide, uw_X2, tyX2_ok, nmX2, mtb_in (List.mem_of_getElem? (i := 208) (by decide +kernel)) rfl, by decide +kernel, ⟨Or.inr rfl, rfl⟩⟩
theorem fo_X2_15 : mfok RX2 15 (2, 1, 3) := ⟨RX2, TX2, 5, tyX2, (.array .int), rfl, by decide, uw_X2, tyX2_ok, nmX2, mtb_in (List.mem_of_getElem? (i := 209) (by decide +kernel)) rfl, by decide +kernel, ⟨Or.inr rfl, rfl⟩⟩
theorem fo_X2_18 : mfok RX2 18 (2, 2, 1) := ⟨RX2, TX2, 5, tyX2, .boolean, rfl, by decide, uw_X2, tyX2_ok, nmX2, mtb_in (List.mem_of_getElem? (i := 210) (by decide +kernel)) rfl, by decide +kernel, ⟨rfl, rfl⟩⟩
theorem fo_X2_22 : mfok RX2 22 (2, 3, 0) := ⟨RX2, TX2, 5, tyX2, .int, rfl, by decide, uw_X2, tyX2_ok, nmX2, mtb_in (List.mem_of_getElem? (i := 211) (by decide +kernel)) rfl, by decide +kernel, ⟨rfl, rfl⟩⟩
theorem fo_X2_26 : mfok RX2 26 (2, 4, 0) := ⟨RX2, TX2, 5, tyX2, .int, rfl, by decide, uw_X2, tyX2_ok, nmX2, mtb_in (List.mem_of_getElem? (i := 213) (by decide +kernel)) rfl, by decide +kernel, ⟨rfl, rfl⟩⟩
theorem fo_X2_79 : mfok RX2 79 (5, 7, 0) := ⟨RX5, TX5, 9, tyX5, .int, rfl, by decide, uw_X5, tyX5_ok, nmX5, mtb_in (List.mem_of_getElem? (i := 156) (by decide +kernel)) rfl, by decide +kernel, ⟨rfl, rfl⟩⟩
theorem fT_X2 : mFT RX2 (mlook flX2) := mFT_of (List.forall_mem_cons.mpr ⟨fo_X2_9, List.forall_mem_cons.mpr ⟨fo_X2_15, List.forall_mem_cons.mpr ⟨fo_X2_18, List.forall_mem_cons.mpr ⟨fo_X2_22, List.forall_mem_cons.mpr ⟨fo_X2_26, List.forall_mem_cons.mpr ⟨fo_X2_79, fun _ h => absurd h List.not_mem_nil⟩⟩⟩⟩⟩⟩)
abbrev klX2 : List (Nat × Int) := [(45, -1000000)]
theorem kT_X2 : mKT RX2 (mlook klX2) := mKT_of (List.forall_mem_cons.mpr ⟨mtb_in (List.mem_of_getElem? (i := 649) (by decide +kernel)) rfl, fun _ h => absurd h List.not_mem_nil⟩)
abbrev jlX2 : List (Nat × Int) := []
theorem jT_X2 : mKJ RX2 (mlook jlX2) := mKJ_of (fun _ h => absurd h List.not_mem_nil)
abbrev flX3 : List (Nat × (Nat × Nat × Nat)) := [(11, (3, 0, 4)), (15, (3, 1, 0)), (19, (3, 2, 1)), (37, (5, 3, 0)), (71, (5, 5, 0)), (107, (5, 7, 0)), (110, (5, 8, 0))]
theorem fo_X3_11 : mfok RX3 11 (3, 0, 4) := ⟨RX3, TX3, 3, tyX3, (.array .int), rfl, by decide, uw_X3, tyX3_ok, nmX3, mtb_in (List.mem_of_getElem? (i := 190) (by decide +kernel)) rfl, by decide +kernel, trivial⟩
theorem fo_X3_15 : mfok RX3 15 (3, 1, 0) := ⟨RX3, TX3, 3, tyX3, .int, rfl, by decide, uw_X3, tyX3_ok, nmX3, mtb_in (List.mem_of_getElem? (i := 191) (by decide +kernel)) rfl, by decide +kernel, ⟨rfl, rfl⟩⟩
theorem fo_X3_19 : mfok RX3 19 (3, 2, 1) := ⟨RX3, TX3, 3, tyX3, .boolean, rfl, by decide, uw_X3, tyX3_ok, nmX3, mtb_in (List.mem_of_getElem? (i := 193) (by decide +kernel)) rfl, by decide +kernel, ⟨rfl, rfl⟩⟩
theorem fo_X3_37 : mfok RX3 37 (5, 3, 0) := ⟨RX5, TX5, 9, tyX5, .int, rfl, by decide, uw_X5, tyX5_ok, nmX5, mtb_in (List.mem_of_getElem? (i := 142) (by decide +kernel)) rfl, by decide +kernel, ⟨rfl, rfl⟩⟩
theorem fo_X3_71 : mfok RX3 71 (5, 5, 0) := ⟨RX5, TX5, 9, tyX5, .int, rfl, by decide, uw_X5, tyX5_ok, nmX5, mtb_in (List.mem_of_getElem? (i := 149) (by decide +kernel)) rfl, by decide +kernel, ⟨rfl, rfl⟩⟩
theorem fo_X3_107 : mfok RX3 107 (5, 7, 0) := ⟨RX5, TX5, 9, tyX5, .int, rfl, by decide, uw_X5, tyX5_ok, nmX5, mtb_in (List.mem_of_getElem? (i := 158) (by decide +kernel)) rfl, by decide +kernel, ⟨rfl, rfl⟩⟩
theorem fo_X3_110 : mfok RX3 110 (5, 8, 0) := ⟨RX5, TX5, 9, tyX5, .int, rfl, by decide, uw_X5, tyX5_ok, nmX5, mtb_in (List.mem_of_getElem? (i := 163) (by decide +kernel)) rfl, by decide +kernel, ⟨rfl, rfl⟩⟩
theorem fT_X3 : mFT RX3 (mlook flX3) := mFT_of (List.forall_mem_cons.mpr ⟨fo_X3_11, List.forall_mem_cons.mpr ⟨fo_X3_15, List.forall_mem_cons.mpr ⟨fo_X3_19, List.forall_mem_cons.mpr ⟨fo_X3_37, List.forall_mem_cons.mpr ⟨fo_X3_71, List.forall_mem_cons.mpr ⟨fo_X3_107, List.forall_mem_cons.mpr ⟨fo_X3_110, fun _ h => absurd h List.not_mem_nil⟩⟩⟩⟩⟩⟩⟩)
abbrev klX3 : List (Nat × Int) := []
theorem kT_X3 : mKT RX3 (mlook klX3) := mKT_of (fun _ h => absurd h List.not_mem_nil)
abbrev jlX3 : List (Nat × Int) := [(113, 7919), (115, 6151), (117, 65521), (119, 8), (121, 10)]
theorem jT_X3 : mKJ RX3 (mlook jlX3) := mKJ_of (List.forall_mem_cons.mpr ⟨mtb_in (List.mem_of_getElem? (i := 516) (by decide +kernel)) rfl, List.forall_mem_cons.mpr ⟨mtb_in (List.mem_of_getElem? (i := 517) (by decide +kernel)) rfl, List.forall_mem_cons.mpr ⟨mtb_in (List.mem_of_getElem? (i := 518) (by decide +kernel)) rfl, List.forall_mem_cons.mpr ⟨mtb_in (List.mem_of_getElem? (i := 519) (by decide +kernel)) rfl, List.forall_mem_cons.mpr ⟨mtb_in (List.mem_of_getElem? (i := 520) (by decide +kernel)) rfl, fun _ h => absurd h List.not_mem_nil⟩⟩⟩⟩⟩)
abbrev flX4 : List (Nat × (Nat × Nat × Nat)) := [(9, (4, 0, 4)), (15, (4, 1, 0)), (19, (4, 2, 0)), (22, (4, 3, 0)), (25, (4, 4, 0)), (28, (4, 5, 0)), (31, (4, 6, 0)), (34, (4, 7, 1)), (38, (4, 8, 1)), (41, (4, 9, 1)), (74, (5, 3, 0)), (93, (5, 4, 0)), (100, (5, 5, 0)), (107, (5, 6, 0)), (110, (5, 7, 0)), (113, (5, 8, 0))]
theorem fo_X4_9 : mfok RX4 9 (4, 0, 4) := ⟨RX4, TX4, 10, tyX4, (.array .int), rfl, by decide, uw_X4, tyX4_ok, nmX4, mtb_in (List.mem_of_getElem? (i := 94) (by decide +kernel)) rfl, by decide +kernel, trivial⟩
theorem fo_X4_15 : mfok RX4 15 (4, 1, 0) := ⟨RX4, TX4, 10, tyX4, .int, rfl, by decide, uw_X4, tyX4_ok, nmX4, mtb_in (List.mem_of_getElem? (i := 95) (by decide +kernel)) rfl, by decide +kernel, ⟨rfl, rfl⟩⟩
theorem fo_X4_19 : mfok RX4 19 (4, 2, 0) := ⟨RX4, TX4, 10, tyX4, .int, rfl, by decide, uw_X4, tyX4_ok, nmX4, mtb_in (List.mem_of_getElem? (i := 97) (by decide +kernel)) rfl, by decide +kernel, ⟨rfl, rfl⟩⟩
theorem fo_X4_22 : mfok RX4 22 (4, 3, 0) := ⟨RX4, TX4, 10, tyX4, .int, rfl, by decide, uw_X4, tyX4_ok, nmX4, mtb_in (List.mem_of_getElem? (i := 98) (by decide +kernel)) rfl, by decide +kernel, ⟨rfl, rfl⟩⟩
theorem fo_X4_25 : mfok RX4 25 (4, 4, 0) := ⟨RX4, TX4, 10, tyX4, .int, rfl, by decide, uw_X4, tyX4_ok, nmX4, mtb_in (List.mem_of_getElem? (i := 99) (by decide +kernel)) rfl, by decide +kernel, ⟨rfl, rfl⟩⟩
theorem fo_X4_28 : mfok RX4 28 (4, 5, 0) := ⟨RX4, TX4, 10, tyX4, .int, rfl, by decide, uw_X4, tyX4_ok, nmX4, mtb_in (List.mem_of_getElem? (i := 100) (by decide +kernel)) rfl, by decide +kernel, ⟨rfl, rfl⟩⟩
theorem fo_X4_31 : mfok RX4 31 (4, 6, 0) := ⟨RX4, TX4, 10, tyX4, .int, rfl, by decide, uw_X4, tyX4_ok, nmX4, mtb_in (List.mem_of_getElem? (i := 101) (by decide +kernel)) rfl, by decide +kernel, ⟨rfl, rfl⟩⟩
theorem fo_X4_34 : mfok RX4 34 (4, 7, 1) := ⟨RX4, TX4, 10, tyX4, .boolean, rfl, by decide, uw_X4, tyX4_ok, nmX4, mtb_in (List.mem_of_getElem? (i := 102) (by decide +kernel)) rfl, by decide +kernel, ⟨rfl, rfl⟩⟩
theorem fo_X4_38 : mfok RX4 38 (4, 8, 1) := ⟨RX4, TX4, 10, tyX4, .boolean, rfl, by decide, uw_X4, tyX4_ok, nmX4, mtb_in (List.mem_of_getElem? (i := 103) (by decide +kernel)) rfl, by decide +kernel, ⟨rfl, rfl⟩⟩
theorem fo_X4_41 : mfok RX4 41 (4, 9, 1) := ⟨RX4, TX4, 10, tyX4, .boolean, rfl, by decide, uw_X4, tyX4_ok, nmX4, mtb_in (List.mem_of_getElem? (i := 104) (by decide +kernel)) rfl, by decide +kernel, ⟨rfl, rfl⟩⟩
theorem fo_X4_74 : mfok RX4 74 (5, 3, 0) := ⟨RX5, TX5, 9, tyX5, .int, rfl, by decide, uw_X5, tyX5_ok, nmX5, mtb_in (List.mem_of_getElem? (i := 141) (by decide +kernel)) rfl, by decide +kernel, ⟨rfl, rfl⟩⟩
theorem fo_X4_93 : mfok RX4 93 (5, 4, 0) := ⟨RX5, TX5, 9, tyX5, .int, rfl, by decide, uw_X5, tyX5_ok, nmX5, mtb_in (List.mem_of_getElem? (i := 145) (by decide +kernel)) rfl, by decide +kernel, ⟨rfl, rfl⟩⟩
theorem fo_X4_100 : mfok RX4 100 (5, 5, 0) := ⟨RX5, TX5, 9, tyX5, .int, rfl, by decide, uw_X5, tyX5_ok, nmX5, mtb_in (List.mem_of_getElem? (i := 148) (by decide +kernel)) rfl, by decide +kernel, ⟨rfl, rfl⟩⟩
theorem fo_X4_107 : mfok RX4 107 (5, 6, 0) := ⟨RX5, TX5, 9, tyX5, .int, rfl, by decide, uw_X5, tyX5_ok, nmX5, mtb_in (List.mem_of_getElem? (i := 153) (by decide +kernel)) rfl, by decide +kernel, ⟨rfl, rfl⟩⟩
theorem fo_X4_110 : mfok RX4 110 (5, 7, 0) := ⟨RX5, TX5, 9, tyX5, .int, rfl, by decide, uw_X5, tyX5_ok, nmX5, mtb_in (List.mem_of_getElem? (i := 157) (by decide +kernel)) rfl, by decide +kernel, ⟨rfl, rfl⟩⟩
theorem fo_X4_113 : mfok RX4 113 (5, 8, 0) := ⟨RX5, TX5, 9, tyX5, .int, rfl, by decide, uw_X5, tyX5_ok, nmX5, mtb_in (List.mem_of_getElem? (i := 162) (by decide +kernel)) rfl, by decide +kernel, ⟨rfl, rfl⟩⟩
theorem fT_X4 : mFT RX4 (mlook flX4) := mFT_of (List.forall_mem_cons.mpr ⟨fo_X4_9, List.forall_mem_cons.mpr ⟨fo_X4_15, List.forall_mem_cons.mpr ⟨fo_X4_19, List.forall_mem_cons.mpr ⟨fo_X4_22, List.forall_mem_cons.mpr ⟨fo_X4_25, List.forall_mem_cons.mpr ⟨fo_X4_28, List.forall_mem_cons.mpr ⟨fo_X4_31, List.forall_mem_cons.mpr ⟨fo_X4_34, List.forall_mem_cons.mpr ⟨fo_X4_38, List.forall_mem_cons.mpr ⟨fo_X4_41, List.forall_mem_cons.mpr ⟨fo_X4_74, List.forall_mem_cons.mpr ⟨fo_X4_93, List.forall_mem_cons.mpr ⟨fo_X4_100, List.forall_mem_cons.mpr ⟨fo_X4_107, List.forall_mem_cons.mpr ⟨fo_X4_110, List.forall_mem_cons.mpr ⟨fo_X4_113, fun _ h => absurd h List.not_mem_nil⟩⟩⟩⟩⟩⟩⟩⟩⟩⟩⟩⟩⟩⟩⟩⟩)
abbrev klX4 : List (Nat × Int) := []
theorem kT_X4 : mKT RX4 (mlook klX4) := mKT_of (fun _ h => absurd h List.not_mem_nil)
abbrev jlX4 : List (Nat × Int) := []
theorem jT_X4 : mKJ RX4 (mlook jlX4) := mKJ_of (fun _ h => absurd h List.not_mem_nil)
abbrev flX5 : List (Nat × (Nat × Nat × Nat)) := [(9, (5, 0, 4)), (15, (5, 1, 4)), (18, (5, 2, 4)), (24, (5, 3, 0)), (28, (5, 4, 0)), (31, (5, 5, 0)), (34, (5, 6, 0)), (37, (5, 7, 0)), (40, (5, 8, 0))]
theorem fo_X5_9 : mfok RX5 9 (5, 0, 4) := ⟨RX5, TX5, 9, tyX5, (.array .int), rfl, by decide, uw_X5, tyX5_ok, nmX5, mtb_in (List.mem_of_getElem? (i := 137) (by decide +kernel)) rfl, by decide +kernel, trivial⟩
theorem fo_X5_15 : mfok RX5 15 (5, 1, 4) := ⟨RX5, TX5, 9, tyX5, (.array .int), rfl, by decide, uw_X5, tyX5_ok, nmX5, mtb_in (List.mem_of_getElem? (i := 138) (by decide +kernel)) rfl, by decide +kernel, trivial⟩
theorem fo_X5_18 : mfok RX5 18 (5, 2, 4) := ⟨RX5, TX5, 9, tyX5, (.array .int), rfl, by decide, uw_X5, tyX5_ok, nmX5, mtb_in (List.mem_of_getElem? (i := 139) (by decide +kernel)) rfl, by decide +kernel, trivial⟩
theorem fo_X5_24 : mfok RX5 24 (5, 3, 0) := ⟨RX5, TX5, 9, tyX5, .int, rfl, by decide, uw_X5, tyX5_ok, nmX5, mtb_in (List.mem_of_getElem? (i := 140) (by decide +kernel)) rfl, by decide +kernel, ⟨rfl, rfl⟩⟩
theorem fo_X5_28 : mfok RX5 28 (5, 4, 0) := ⟨RX5, TX5, 9, tyX5, .int, rfl, by decide, uw_X5, tyX5_ok, nmX5, mtb_in (List.mem_of_getElem? (i := 144) (by decide +kernel)) rfl, by decide +kernel, ⟨rfl, rfl⟩⟩
theorem fo_X5_31 : mfok RX5 31 (5, 5, 0) := ⟨RX5, TX5, 9, tyX5, .int, rfl, by decide, uw_X5, tyX5_ok, nmX5, mtb_in (List.mem_of_getElem? (i := 147) (by decide +kernel)) rfl, by decide +kernel, ⟨rfl, rfl⟩⟩
theorem fo_X5_34 : mfok RX5 34 (5, 6, 0) := ⟨RX5, TX5, 9, tyX5, .int, rfl, by decide, uw_X5, tyX5_ok, nmX5, mtb_in (List.mem_of_getElem? (i := 152) (by decide +kernel)) rfl, by decide +kernel, ⟨rfl, rfl⟩⟩
theorem fo_X5_37 : mfok RX5 37 (5, 7, 0) := ⟨RX5, TX5, 9, tyX5, .int, rfl, by decide, uw_X5, tyX5_ok, nmX5, mtb_in (List.mem_of_getElem? (i := 154) (by decide +kernel)) rfl, by decide +kernel, ⟨rfl, rfl⟩⟩
theorem fo_X5_40 : mfok RX5 40 (5, 8, 0) := ⟨RX5, TX5, 9, tyX5, .int, rfl, by decide, uw_X5, tyX5_ok, nmX5, mtb_in (List.mem_of_getElem? (i := 160) (by decide +kernel)) rfl, by decide +kernel, ⟨rfl, rfl⟩⟩
theorem fT_X5 : mFT RX5 (mlook flX5) := mFT_of (List.forall_mem_cons.mpr ⟨fo_X5_9, List.forall_mem_cons.mpr ⟨fo_X5_15, List.forall_mem_cons.mpr ⟨fo_X5_18, List.forall_mem_cons.mpr ⟨fo_X5_24, List.forall_mem_cons.mpr ⟨fo_X5_28, List.forall_mem_cons.mpr ⟨fo_X5_31, List.forall_mem_cons.mpr ⟨fo_X5_34, List.forall_mem_cons.mpr ⟨fo_X5_37, List.forall_mem_cons.mpr ⟨fo_X5_40, fun _ h => absurd h List.not_mem_nil⟩⟩⟩⟩⟩⟩⟩⟩⟩)
abbrev klX5 : List (Nat × Int) := [(43, -1000000)]
theorem kT_X5 : mKT RX5 (mlook klX5) := mKT_of (List.forall_mem_cons.mpr ⟨mtb_in (List.mem_of_getElem? (i := 427) (by decide +kernel)) rfl, fun _ h => absurd h List.not_mem_nil⟩)
abbrev jlX5 : List (Nat × Int) := []
theorem jT_X5 : mKJ RX5 (mlook jlX5) := mKJ_of (fun _ h => absurd h List.not_mem_nil)
abbrev flX6 : List (Nat × (Nat × Nat × Nat)) := [(10, (6, 0, 4)), (19, (6, 1, 3)), (23, (6, 2, 3)), (29, (6, 3, 4)), (33, (6, 4, 4)), (36, (6, 5, 4)), (42, (6, 6, 4)), (49, (6, 7, 4)), (56, (6, 8, 4)), (60, (6, 9, 2)), (64, (5, 6, 0)), (76, (4, 1, 0)), (83, (3, 2, 1)), (94, (5, 4, 0)), (145, (3, 1, 0)), (172, (1, 4, 0)), (175, (1, 2, 0)), (178, (1, 3, 0)), (185, (2, 4, 0)), (186, (2, 3, 0)), (199, (0, 3, 0)), (233, (5, 3, 0)), (236, (5, 5, 0)), (239, (5, 7, 0)), (242, (5, 8, 0))]
theorem fo_X6_10 : mfok RX6 10 (6, 0, 4) := ⟨RX6, TX6, 10, tyX6, (.object "TowerPrisoner$Text"), rfl, by decide, uw_X6, tyX6_ok, nmX6, mtb_in (List.mem_of_getElem? (i := 280) (by decide +kernel)) rfl, by decide +kernel, trivial⟩
theorem fo_X6_19 : mfok RX6 19 (6, 1, 3) := ⟨RX6, TX6, 10, tyX6, (.object "TowerPrisoner$Told"), rfl, by decide, uw_X6, tyX6_ok, nmX6, mtb_in (List.mem_of_getElem? (i := 281) (by decide +kernel)) rfl, by decide +kernel, ⟨Or.inl ⟨_, rfl⟩, rfl⟩⟩
theorem fo_X6_23 : mfok RX6 23 (6, 2, 3) := ⟨RX6, TX6, 10, tyX6, (.object "TowerPrisoner$Told"), rfl, by decide, uw_X6, tyX6_ok, nmX6, mtb_in (List.mem_of_getElem? (i := 282) (by decide +kernel)) rfl, by decide +kernel, ⟨Or.inl ⟨_, rfl⟩, rfl⟩⟩
theorem fo_X6_29 : mfok RX6 29 (6, 3, 4) := ⟨RX6, TX6, 10, tyX6, (.object "TowerPrisoner$Story"), rfl, by decide, uw_X6, tyX6_ok, nmX6, mtb_in (List.mem_of_getElem? (i := 283) (by decide +kernel)) rfl, by decide +kernel, trivial⟩
theorem fo_X6_33 : mfok RX6 33 (6, 4, 4) := ⟨RX6, TX6, 10, tyX6, (.object "TowerPrisoner$Story"), rfl, by decide, uw_X6, tyX6_ok, nmX6, mtb_in (List.mem_of_getElem? (i := 284) (by decide +kernel)) rfl, by decide +kernel, trivial⟩
theorem fo_X6_36 : mfok RX6 36 (6, 5, 4) := ⟨RX6, TX6, 10, tyX6, (.object "TowerPrisoner$Story"), rfl, by decide, uw_X6, tyX6_ok, nmX6, mtb_in (List.mem_of_getElem? (i := 285) (by decide +kernel)) rfl, by decide +kernel, trivial⟩
theorem fo_X6_42 : mfok RX6 42 (6, 6, 4) := ⟨RX6, TX6, 10, tyX6, (.object "TowerPrisoner$Plan"), rfl, by decide, uw_X6, tyX6_ok, nmX6, mtb_in (List.mem_of_getElem? (i := 286) (by decide +kernel)) rfl, by decide +kernel, trivial⟩
theorem fo_X6_49 : mfok RX6 49 (6, 7, 4) := ⟨RX6, TX6, 10, tyX6, (.object "TowerPrisoner$Odds"), rfl, by decide, uw_X6, tyX6_ok, nmX6, mtb_in (List.mem_of_getElem? (i := 287) (by decide +kernel)) rfl, by decide +kernel, trivial⟩
theorem fo_X6_56 : mfok RX6 56 (6, 8, 4) := ⟨RX6, TX6, 10, tyX6, (.object "TowerPrisoner$Hearsay"), rfl, by decide, uw_X6, tyX6_ok, nmX6, mtb_in (List.mem_of_getElem? (i := 288) (by decide +kernel)) rfl, by decide +kernel, trivial⟩
theorem fo_X6_60 : mfok RX6 60 (6, 9, 2) := ⟨RX6, TX6, 10, tyX6, .long, rfl, by decide, uw_X6, tyX6_ok, nmX6, mtb_in (List.mem_of_getElem? (i := 289) (by decide +kernel)) rfl, by decide +kernel, ⟨rfl, rfl⟩⟩
theorem fo_X6_64 : mfok RX6 64 (5, 6, 0) := ⟨RX5, TX5, 9, tyX5, .int, rfl, by decide, uw_X5, tyX5_ok, nmX5, mtb_in (List.mem_of_getElem? (i := 151) (by decide +kernel)) rfl, by decide +kernel, ⟨rfl, rfl⟩⟩
theorem fo_X6_76 : mfok RX6 76 (4, 1, 0) := ⟨RX4, TX4, 10, tyX4, .int, rfl, by decide, uw_X4, tyX4_ok, nmX4, mtb_in (List.mem_of_getElem? (i := 96) (by decide +kernel)) rfl, by decide +kernel, ⟨rfl, rfl⟩⟩
theorem fo_X6_83 : mfok RX6 83 (3, 2, 1) := ⟨RX3, TX3, 3, tyX3, .boolean, rfl, by decide, uw_X3, tyX3_ok, nmX3, mtb_in (List.mem_of_getElem? (i := 194) (by decide +kernel)) rfl, by decide +kernel, ⟨rfl, rfl⟩⟩
theorem fo_X6_94 : mfok RX6 94 (5, 4, 0) := ⟨RX5, TX5, 9, tyX5, .int, rfl, by decide, uw_X5, tyX5_ok, nmX5, mtb_in (List.mem_of_getElem? (i := 146) (by decide +kernel)) rfl, by decide +kernel, ⟨rfl, rfl⟩⟩
theorem fo_X6_145 : mfok RX6 145 (3, 1, 0) := ⟨RX3, TX3, 3, tyX3, .int, rfl, by decide, uw_X3, tyX3_ok, nmX3, mtb_in (List.mem_of_getElem? (i := 192) (by decide +kernel)) rfl, by decide +kernel, ⟨rfl, rfl⟩⟩
theorem fo_X6_172 : mfok RX6 172 (1, 4, 0) := ⟨RX1, TX1, 5, tyX1, .int, rfl, by decide, uw_X1, tyX1_ok, nmX1, mtb_in (List.mem_of_getElem? (i := 239) (by decide +kernel)) rfl, by decide +kernel, ⟨rfl, rfl⟩⟩
theorem fo_X6_175 : mfok RX6 175 (1, 2, 0) := ⟨RX1, TX1, 5, tyX1, .int, rfl, by decide, uw_X1, tyX1_ok, nmX1, mtb_in (List.mem_of_getElem? (i := 235) (by decide +kernel)) rfl, by decide +kernel, ⟨rfl, rfl⟩⟩
theorem fo_X6_178 : mfok RX6 178 (1, 3, 0) := ⟨RX1, TX1, 5, tyX1, .int, rfl, by decide, uw_X1, tyX1_ok, nmX1, mtb_in (List.mem_of_getElem? (i := 237) (by decide +kernel)) rfl, by decide +kernel, ⟨rfl, rfl⟩⟩
theorem fo_X6_185 : mfok RX6 185 (2, 4, 0) := ⟨RX2, TX2, 5, tyX2, .int, rfl, by decide, uw_X2, tyX2_ok, nmX2, mtb_in (List.mem_of_getElem? (i := 214) (by decide +kernel)) rfl, by decide +kernel, ⟨rfl, rfl⟩⟩
theorem fo_X6_186 : mfok RX6 186 (2, 3, 0) := ⟨RX2, TX2, 5, tyX2, .int, rfl, by decide, uw_X2, tyX2_ok, nmX2, mtb_in (List.mem_of_getElem? (i := 212) (by decide +kernel)) rfl, by decide +kernel, ⟨rfl, rfl⟩⟩
theorem fo_X6_199 : mfok RX6 199 (0, 3, 0) := ⟨RX0, TX0, 4, tyX0, .int, rfl, by decide, uw_X0, tyX0_ok, nmX0, mtb_in (List.mem_of_getElem? (i := 266) (by decide +kernel)) rfl, by decide +kernel, ⟨rfl, rfl⟩⟩
theorem fo_X6_233 : mfok RX6 233 (5, 3, 0) := ⟨RX5, TX5, 9, tyX5, .int, rfl, by decide, uw_X5, tyX5_ok, nmX5, mtb_in (List.mem_of_getElem? (i := 143) (by decide +kernel)) rfl, by decide +kernel, ⟨rfl, rfl⟩⟩
theorem fo_X6_236 : mfok RX6 236 (5, 5, 0) := ⟨RX5, TX5, 9, tyX5, .int, rfl, by decide, uw_X5, tyX5_ok, nmX5, mtb_in (List.mem_of_getElem? (i := 150) (by decide +kernel)) rfl, by decide +kernel, ⟨rfl, rfl⟩⟩
theorem fo_X6_239 : mfok RX6 239 (5, 7, 0) := ⟨RX5, TX5, 9, tyX5, .int, rfl, by decide, uw_X5, tyX5_ok, nmX5, mtb_in (List.mem_of_getElem? (i := 159) (by decide +kernel)) rfl, by decide +kernel, ⟨rfl, rfl⟩⟩
theorem fo_X6_242 : mfok RX6 242 (5, 8, 0) := ⟨RX5, TX5, 9, tyX5, .int, rfl, by decide, uw_X5, tyX5_ok, nmX5, mtb_in (List.mem_of_getElem? (i := 164) (by decide +kernel)) rfl, by decide +kernel, ⟨rfl, rfl⟩⟩
theorem fT_X6 : mFT RX6 (mlook flX6) := mFT_of (List.forall_mem_cons.mpr ⟨fo_X6_10, List.forall_mem_cons.mpr ⟨fo_X6_19, List.forall_mem_cons.mpr ⟨fo_X6_23, List.forall_mem_cons.mpr ⟨fo_X6_29, List.forall_mem_cons.mpr ⟨fo_X6_33, List.forall_mem_cons.mpr ⟨fo_X6_36, List.forall_mem_cons.mpr ⟨fo_X6_42, List.forall_mem_cons.mpr ⟨fo_X6_49, List.forall_mem_cons.mpr ⟨fo_X6_56, List.forall_mem_cons.mpr ⟨fo_X6_60, List.forall_mem_cons.mpr ⟨fo_X6_64, List.forall_mem_cons.mpr ⟨fo_X6_76, List.forall_mem_cons.mpr ⟨fo_X6_83, List.forall_mem_cons.mpr ⟨fo_X6_94, List.forall_mem_cons.mpr ⟨fo_X6_145, List.forall_mem_cons.mpr ⟨fo_X6_172, List.forall_mem_cons.mpr ⟨fo_X6_175, List.forall_mem_cons.mpr ⟨fo_X6_178, List.forall_mem_cons.mpr ⟨fo_X6_185, List.forall_mem_cons.mpr ⟨fo_X6_186, List.forall_mem_cons.mpr ⟨fo_X6_199, List.forall_mem_cons.mpr ⟨fo_X6_233, List.forall_mem_cons.mpr ⟨fo_X6_236, List.forall_mem_cons.mpr ⟨fo_X6_239, List.forall_mem_cons.mpr ⟨fo_X6_242, fun _ h => absurd h List.not_mem_nil⟩⟩⟩⟩⟩⟩⟩⟩⟩⟩⟩⟩⟩⟩⟩⟩⟩⟩⟩⟩⟩⟩⟩⟩⟩)
abbrev klX6 : List (Nat × Int) := [(97, -1000000)]
theorem kT_X6 : mKT RX6 (mlook klX6) := mKT_of (List.forall_mem_cons.mpr ⟨mtb_in (List.mem_of_getElem? (i := 422) (by decide +kernel)) rfl, fun _ h => absurd h List.not_mem_nil⟩)
abbrev jlX6 : List (Nat × Int) := [(245, 10), (247, 100), (249, 1000), (251, 10000), (253, 100000)]
theorem jT_X6 : mKJ RX6 (mlook jlX6) := mKJ_of (List.forall_mem_cons.mpr ⟨mtb_in (List.mem_of_getElem? (i := 788) (by decide +kernel)) rfl, List.forall_mem_cons.mpr ⟨mtb_in (List.mem_of_getElem? (i := 793) (by decide +kernel)) rfl, List.forall_mem_cons.mpr ⟨mtb_in (List.mem_of_getElem? (i := 798) (by decide +kernel)) rfl, List.forall_mem_cons.mpr ⟨mtb_in (List.mem_of_getElem? (i := 803) (by decide +kernel)) rfl, List.forall_mem_cons.mpr ⟨mtb_in (List.mem_of_getElem? (i := 808) (by decide +kernel)) rfl, fun _ h => absurd h List.not_mem_nil⟩⟩⟩⟩⟩)
abbrev flX7 : List (Nat × (Nat × Nat × Nat)) := [(7, (7, 1, 4)), (13, (7, 3, 4)), (16, (7, 5, 4)), (19, (7, 6, 0)), (23, (7, 7, 0)), (26, (7, 8, 4)), (29, (7, 9, 4)), (32, (7, 10, 4)), (36, (7, 12, 4)), (39, (7, 14, 4)), (42, (7, 23, 4)), (45, (7, 25, 4)), (48, (7, 27, 4)), (51, (7, 31, 4)), (54, (7, 32, 4)), (57, (7, 33, 4)), (60, (7, 34, 4)), (63, (7, 4, 0)), (70, (7, 15, 0)), (73, (7, 16, 0)), (80, (7, 17, 0)), (83, (7, 19, 0)), (86, (7, 18, 0)), (96, (7, 20, 1)), (103, (7, 24, 0)), (110, (7, 22, 0)), (113, (7, 26, 0)), (116, (7, 28, 0)), (119, (7, 29, 0)), (122, (7, 30, 0)), (135, (7, 21, 0)), (144, (7, 0, 0)), (147, (7, 2, 0)), (150, (7, 11, 0)), (251, (7, 13, 2))]
theorem fo_X7_7 : mfok RX7 7 (7, 1, 4) := ⟨RX7, TX7, 35, tyX7, (.array .int), rfl, by decide, uw_X7, tyX7_ok, nmX7, mtb_in (List.mem_of_getElem? (i := 836) (by decide +kernel)) rfl, by decide +kernel, trivial⟩
theorem fo_X7_13 : mfok RX7 13 (7, 3, 4) := ⟨RX7, TX7, 35, tyX7, (.array .int), rfl, by decide, uw_X7, tyX7_ok, nmX7, mtb_in (List.mem_of_getElem? (i := 838) (by decide +kernel)) rfl, by decide +kernel, trivial⟩
theorem fo_X7_16 : mfok RX7 16 (7, 5, 4) := ⟨RX7, TX7, 35, tyX7, (.array .int), rfl, by decide, uw_X7, tyX7_ok, nmX7, mtb_in (List.mem_of_getElem? (i := 840) (by decide +kernel)) rfl, by decide +kernel, trivial⟩
theorem fo_X7_19 : mfok RX7 19 (7, 6, 0) := ⟨RX7, TX7, 35, tyX7, .int, rfl, by decide, uw_X7, tyX7_ok, nmX7, mtb_in (List.mem_of_getElem? (i := 841) (by decide +kernel)) rfl, by decide +kernel, ⟨rfl, rfl⟩⟩
theorem fo_X7_23 : mfok RX7 23 (7, 7, 0) := ⟨RX7, TX7, 35, tyX7, .int, rfl, by decide, uw_X7, tyX7_ok, nmX7, mtb_in (List.mem_of_getElem? (i := 842) (by decide +kernel)) rfl, by decide +kernel, ⟨rfl, rfl⟩⟩
theorem fo_X7_26 : mfok RX7 26 (7, 8, 4) := ⟨RX7, TX7, 35, tyX7, (.array .int), rfl, by decide, uw_X7, tyX7_ok, nmX7, mtb_in (List.mem_of_getElem? (i := 843) (by decide +kernel)) rfl, by decide +kernel, trivial⟩
theorem fo_X7_29 : mfok RX7 29 (7, 9, 4) := ⟨RX7, TX7, 35, tyX7, (.array .int), rfl, by decide, uw_X7, tyX7_ok, nmX7, mtb_in (List.mem_of_getElem? (i := 844) (by decide +kernel)) rfl, by decide +kernel, trivial⟩
theorem fo_X7_32 : mfok RX7 32 (7, 10, 4) := ⟨RX7, TX7, 35, tyX7, (.array .boolean), rfl, by decide, uw_X7, tyX7_ok, nmX7, mtb_in (List.mem_of_getElem? (i := 845) (by decide +kernel)) rfl, by decide +kernel, trivial⟩
theorem fo_X7_36 : mfok RX7 36 (7, 12, 4) := ⟨RX7, TX7, 35, tyX7, (.array .int), rfl, by decide, uw_X7, tyX7_ok, nmX7, mtb_in (List.mem_of_getElem? (i := 847) (by decide +kernel)) rfl, by decide +kernel, trivial⟩
theorem fo_X7_39 : mfok RX7 39 (7, 14, 4) := ⟨RX7, TX7, 35, tyX7, (.array .int), rfl, by decide, uw_X7, tyX7_ok, nmX7, mtb_in (List.mem_of_getElem? (i := 849) (by decide +kernel)) rfl, by decide +kernel, trivial⟩
theorem fo_X7_42 : mfok RX7 42 (7, 23, 4) := ⟨RX7, TX7, 35, tyX7, (.array .int), rfl, by decide, uw_X7, tyX7_ok, nmX7, mtb_in (List.mem_of_getElem? (i := 858) (by decide +kernel)) rfl, by decide +kernel, trivial⟩
theorem fo_X7_45 : mfok RX7 45 (7, 25, 4) := ⟨RX7, TX7, 35, tyX7, (.array .int), rfl, by decide, uw_X7, tyX7_ok, nmX7, mtb_in (List.mem_of_getElem? (i := 860) (by decide +kernel)) rfl, by decide +kernel, trivial⟩
theorem fo_X7_48 : mfok RX7 48 (7, 27, 4) := ⟨RX7, TX7, 35, tyX7, (.array .int), rfl, by decide, uw_X7, tyX7_ok, nmX7, mtb_in (List.mem_of_getElem? (i := 862) (by decide +kernel)) rfl, by decide +kernel, trivial⟩
theorem fo_X7_51 : mfok RX7 51 (7, 31, 4) := ⟨RX7, TX7, 35, tyX7, (.array .int), rfl, by decide, uw_X7, tyX7_ok, nmX7, mtb_in (List.mem_of_getElem? (i := 866) (by decide +kernel)) rfl, by decide +kernel, trivial⟩
theorem fo_X7_54 : mfok RX7 54 (7, 32, 4) := ⟨RX7, TX7, 35, tyX7, (.array .int), rfl, by decide, uw_X7, tyX7_ok, nmX7, mtb_in (List.mem_of_getElem? (i := 867) (by decide +kernel)) rfl, by decide +kernel, trivial⟩
theorem fo_X7_57 : mfok RX7 57 (7, 33, 4) := ⟨RX7, TX7, 35, tyX7, (.array .int), rfl, by decide, uw_X7, tyX7_ok, nmX7, mtb_in (List.mem_of_getElem? (i := 868) (by decide +kernel)) rfl, by decide +kernel, trivial⟩
theorem fo_X7_60 : mfok RX7 60 (7, 34, 4) := ⟨RX7, TX7, 35, tyX7, (.array .int), rfl, by decide, uw_X7, tyX7_ok, nmX7, mtb_in (List.mem_of_getElem? (i := 869) (by decide +kernel)) rfl, by decide +kernel, trivial⟩
theorem fo_X7_63 : mfok RX7 63 (7, 4, 0) := ⟨RX7, TX7, 35, tyX7, .int, rfl, by decide, uw_X7, tyX7_ok, nmX7, mtb_in (List.mem_of_getElem? (i := 839) (by decide +kernel)) rfl, by decide +kernel, ⟨rfl, rfl⟩⟩
theorem fo_X7_70 : mfok RX7 70 (7, 15, 0) := ⟨RX7, TX7, 35, tyX7, .int, rfl, by decide, uw_X7, tyX7_ok, nmX7, mtb_in (List.mem_of_getElem? (i := 850) (by decide +kernel)) rfl, by decide +kernel, ⟨rfl, rfl⟩⟩
theorem fo_X7_73 : mfok RX7 73 (7, 16, 0) := ⟨RX7, TX7, 35, tyX7, .int, rfl, by decide, uw_X7, tyX7_ok, nmX7, mtb_in (List.mem_of_getElem? (i := 851) (by decide +kernel)) rfl, by decide +kernel, ⟨rfl, rfl⟩⟩
theorem fo_X7_80 : mfok RX7 80 (7, 17, 0) := ⟨RX7, TX7, 35, tyX7, .int, rfl, by decide, uw_X7, tyX7_ok, nmX7, mtb_in (List.mem_of_getElem? (i := 852) (by decide +kernel)) rfl, by decide +kernel, ⟨rfl, rfl⟩⟩
theorem fo_X7_83 : mfok RX7 83 (7, 19, 0) := ⟨RX7, TX7, 35, tyX7, .int, rfl, by decide, uw_X7, tyX7_ok, nmX7, mtb_in (List.mem_of_getElem? (i := 854) (by decide +kernel)) rfl, by decide +kernel, ⟨rfl, rfl⟩⟩
theorem fo_X7_86 : mfok RX7 86 (7, 18, 0) := ⟨RX7, TX7, 35, tyX7, .int, rfl, by decide, uw_X7, tyX7_ok, nmX7, mtb_in (List.mem_of_getElem? (i := 853) (by decide +kernel)) rfl, by decide +kernel, ⟨rfl, rfl⟩⟩
theorem fo_X7_96 : mfok RX7 96 (7, 20, 1) := ⟨RX7, TX7, 35, tyX7, .boolean, rfl, by decide, uw_X7, tyX7_ok, nmX7, mtb_in (List.mem_of_getElem? (i := 855) (by decide +kernel)) rfl, by decide +kernel, ⟨rfl, rfl⟩⟩
theorem fo_X7_103 : mfok RX7 103 (7, 24, 0) := ⟨RX7, TX7, 35, tyX7, .int, rfl, by decide, uw_X7, tyX7_ok, nmX7, mtb_in (List.mem_of_getElem? (i := 859) (by decide +kernel)) rfl, by decide +kernel, ⟨rfl, rfl⟩⟩
theorem fo_X7_110 : mfok RX7 110 (7, 22, 0) := ⟨RX7, TX7, 35, tyX7, .int, rfl, by decide, uw_X7, tyX7_ok, nmX7, mtb_in (List.mem_of_getElem? (i := 857) (by decide +kernel)) rfl, by decide +kernel, ⟨rfl, rfl⟩⟩
theorem fo_X7_113 : mfok RX7 113 (7, 26, 0) := ⟨RX7, TX7, 35, tyX7, .int, rfl, by decide, uw_X7, tyX7_ok, nmX7, mtb_in (List.mem_of_getElem? (i := 861) (by decide +kernel)) rfl, by decide +kernel, ⟨rfl, rfl⟩⟩
theorem fo_X7_116 : mfok RX7 116 (7, 28, 0) := ⟨RX7, TX7, 35, tyX7, .int, rfl, by decide, uw_X7, tyX7_ok, nmX7, mtb_in (List.mem_of_getElem? (i := 863) (by decide +kernel)) rfl, by decide +kernel, ⟨rfl, rfl⟩⟩
theorem fo_X7_119 : mfok RX7 119 (7, 29, 0) := ⟨RX7, TX7, 35, tyX7, .int, rfl, by decide, uw_X7, tyX7_ok, nmX7, mtb_in (List.mem_of_getElem? (i := 864) (by decide +kernel)) rfl, by decide +kernel, ⟨rfl, rfl⟩⟩
theorem fo_X7_122 : mfok RX7 122 (7, 30, 0) := ⟨RX7, TX7, 35, tyX7, .int, rfl, by decide, uw_X7, tyX7_ok, nmX7, mtb_in (List.mem_of_getElem? (i := 865) (by decide +kernel)) rfl, by decide +kernel, ⟨rfl, rfl⟩⟩
theorem fo_X7_135 : mfok RX7 135 (7, 21, 0) := ⟨RX7, TX7, 35, tyX7, .int, rfl, by decide, uw_X7, tyX7_ok, nmX7, mtb_in (List.mem_of_getElem? (i := 856) (by decide +kernel)) rfl, by decide +kernel, ⟨rfl, rfl⟩⟩
theorem fo_X7_144 : mfok RX7 144 (7, 0, 0) := ⟨RX7, TX7, 35, tyX7, .int, rfl, by decide, uw_X7, tyX7_ok, nmX7, mtb_in (List.mem_of_getElem? (i := 835) (by decide +kernel)) rfl, by decide +kernel, ⟨rfl, rfl⟩⟩
theorem fo_X7_147 : mfok RX7 147 (7, 2, 0) := ⟨RX7, TX7, 35, tyX7, .int, rfl, by decide, uw_X7, tyX7_ok, nmX7, mtb_in (List.mem_of_getElem? (i := 837) (by decide +kernel)) rfl, by decide +kernel, ⟨rfl, rfl⟩⟩
theorem fo_X7_150 : mfok RX7 150 (7, 11, 0) := ⟨RX7, TX7, 35, tyX7, .int, rfl, by decide, uw_X7, tyX7_ok, nmX7, mtb_in (List.mem_of_getElem? (i := 846) (by decide +kernel)) rfl, by decide +kernel, ⟨rfl, rfl⟩⟩
theorem fo_X7_251 : mfok RX7 251 (7, 13, 2) := ⟨RX7, TX7, 35, tyX7, .long, rfl, by decide, uw_X7, tyX7_ok, nmX7, mtb_in (List.mem_of_getElem? (i := 848) (by decide +kernel)) rfl, by decide +kernel, ⟨rfl, rfl⟩⟩
theorem fT_X7 : mFT RX7 (mlook flX7) := mFT_of (List.forall_mem_cons.mpr ⟨fo_X7_7, List.forall_mem_cons.mpr ⟨fo_X7_13, List.forall_mem_cons.mpr ⟨fo_X7_16, List.forall_mem_cons.mpr ⟨fo_X7_19, List.forall_mem_cons.mpr ⟨fo_X7_23, List.forall_mem_cons.mpr ⟨fo_X7_26, List.forall_mem_cons.mpr ⟨fo_X7_29, List.forall_mem_cons.mpr ⟨fo_X7_32, List.forall_mem_cons.mpr ⟨fo_X7_36, List.forall_mem_cons.mpr ⟨fo_X7_39, List.forall_mem_cons.mpr ⟨fo_X7_42, List.forall_mem_cons.mpr ⟨fo_X7_45, List.forall_mem_cons.mpr ⟨fo_X7_48, List.forall_mem_cons.mpr ⟨fo_X7_51, List.forall_mem_cons.mpr ⟨fo_X7_54, List.forall_mem_cons.mpr ⟨fo_X7_57, List.forall_mem_cons.mpr ⟨fo_X7_60, List.forall_mem_cons.mpr ⟨fo_X7_63, List.forall_mem_cons.mpr ⟨fo_X7_70, List.forall_mem_cons.mpr ⟨fo_X7_73, List.forall_mem_cons.mpr ⟨fo_X7_80, List.forall_mem_cons.mpr ⟨fo_X7_83, List.forall_mem_cons.mpr ⟨fo_X7_86, List.forall_mem_cons.mpr ⟨fo_X7_96, List.forall_mem_cons.mpr ⟨fo_X7_103, List.forall_mem_cons.mpr ⟨fo_X7_110, List.forall_mem_cons.mpr ⟨fo_X7_113, List.forall_mem_cons.mpr ⟨fo_X7_116, List.forall_mem_cons.mpr ⟨fo_X7_119, List.forall_mem_cons.mpr ⟨fo_X7_122, List.forall_mem_cons.mpr ⟨fo_X7_135, List.forall_mem_cons.mpr ⟨fo_X7_144, List.forall_mem_cons.mpr ⟨fo_X7_147, List.forall_mem_cons.mpr ⟨fo_X7_150, List.forall_mem_cons.mpr ⟨fo_X7_251, fun _ h => absurd h List.not_mem_nil⟩⟩⟩⟩⟩⟩⟩⟩⟩⟩⟩⟩⟩⟩⟩⟩⟩⟩⟩⟩⟩⟩⟩⟩⟩⟩⟩⟩⟩⟩⟩⟩⟩⟩⟩)
abbrev klX7 : List (Nat × Int) := [(153, -1000000), (240, 1000003)]
theorem kT_X7 : mKT RX7 (mlook klX7) := mKT_of (List.forall_mem_cons.mpr ⟨mtb_in (List.mem_of_getElem? (i := 1003) (by decide +kernel)) rfl, List.forall_mem_cons.mpr ⟨mtb_in (List.mem_of_getElem? (i := 1158) (by decide +kernel)) rfl, fun _ h => absurd h List.not_mem_nil⟩⟩)
abbrev jlX7 : List (Nat × Int) := [(188, 7919), (190, 6151), (192, 65521), (194, 8), (196, 10), (255, 11), (257, 101), (259, 1011), (261, 10101), (263, 100001)]
theorem jT_X7 : mKJ RX7 (mlook jlX7) := mKJ_of (List.forall_mem_cons.mpr ⟨mtb_in (List.mem_of_getElem? (i := 1052) (by decide +kernel)) rfl, List.forall_mem_cons.mpr ⟨mtb_in (List.mem_of_getElem? (i := 1053) (by decide +kernel)) rfl, List.forall_mem_cons.mpr ⟨mtb_in (List.mem_of_getElem? (i := 1054) (by decide +kernel)) rfl, List.forall_mem_cons.mpr ⟨mtb_in (List.mem_of_getElem? (i := 1055) (by decide +kernel)) rfl, List.forall_mem_cons.mpr ⟨mtb_in (List.mem_of_getElem? (i := 1056) (by decide +kernel)) rfl, List.forall_mem_cons.mpr ⟨mtb_in (List.mem_of_getElem? (i := 1179) (by decide +kernel)) rfl, List.forall_mem_cons.mpr ⟨mtb_in (List.mem_of_getElem? (i := 1180) (by decide +kernel)) rfl, List.forall_mem_cons.mpr ⟨mtb_in (List.mem_of_getElem? (i := 1181) (by decide +kernel)) rfl, List.forall_mem_cons.mpr ⟨mtb_in (List.mem_of_getElem? (i := 1182) (by decide +kernel)) rfl, List.forall_mem_cons.mpr ⟨mtb_in (List.mem_of_getElem? (i := 1183) (by decide +kernel)) rfl, fun _ h => absurd h List.not_mem_nil⟩⟩⟩⟩⟩⟩⟩⟩⟩⟩)
abbrev flJ6 : List (Nat × (Nat × Nat × Nat)) := []
theorem fT_J6 : mFT RJ6 (mlook flJ6) := mFT_of (fun _ h => absurd h List.not_mem_nil)
abbrev klJ6 : List (Nat × Int) := [(265, 1431655765), (266, 858993459), (267, 252645135)]
theorem kT_J6 : mKT RJ6 (mlook klJ6) := mKT_of (List.forall_mem_cons.mpr ⟨mtb_in (List.mem_of_getElem? (i := 773) (by decide +kernel)) rfl, List.forall_mem_cons.mpr ⟨mtb_in (List.mem_of_getElem? (i := 774) (by decide +kernel)) rfl, List.forall_mem_cons.mpr ⟨mtb_in (List.mem_of_getElem? (i := 775) (by decide +kernel)) rfl, fun _ h => absurd h List.not_mem_nil⟩⟩⟩)
abbrev jlJ6 : List (Nat × Int) := []
theorem jT_J6 : mKJ RJ6 (mlook jlJ6) := mKJ_of (fun _ h => absurd h List.not_mem_nil)
end
section
/-! the methods, instruction by instruction -/
def kdX0_drop : List mI := [(.aload_n 0, 1, 0), (.iconst 0, 1, 0), (.putfield 21, 3, 0), (.iconst 0, 1, 0), (.istore_n 1, 1, 0), (.iload_n 1, 1, 0), (.aload_n 0, 1, 0), (.getfield 9, 3, 0), (.arraylength, 1, 0), (.if_icmp .ge 17, 3, 30), (.aload_n 0, 1, 0), (.getfield 9, 3, 0), (.iload_n 1, 1, 0), (.ldc 28, 2, 0), (.iastore, 1, 0), (.iinc 1 1, 3, 0), (.goto (-20), 3, 7), (.return_, 1, 0)]
theorem ok_X0_drop : okb cX0_drop 2 0 kdX0_drop = true := by decide +kernel
def kdX0_add : List mI := [(.aload_n 0, 1, 0), (.getfield 21, 3, 0), (.bipush 6, 2, 0), (.if_icmp .ge 16, 3, 22), (.iload_n 1, 1, 0), (.ifCond .lt 12, 3, 22), (.iload_n 1, 1, 0), (.aload_n 0, 1, 0), (.getfield 9, 3, 0), (.arraylength, 1, 0), (.if_icmp .lt 5, 3, 24), (.iconst 0, 1, 0), (.ireturn, 1, 0), (.aload_n 0, 1, 0), (.getfield 9, 3, 0), (.iload_n 1, 1, 0), (.dup2, 1, 0), (.iaload, 1, 0), (.iload_n 2, 1, 0), (.iload_n 3, 1, 0), (.isub, 1, 0), (.iload_n 2, 1, 0), (.iload_n 3, 1, 0), (.iadd, 1, 0), (.invokestatic 29, 3, 0), (.iand, 1, 0), (.iastore, 1, 0), (.aload_n 0, 1, 0), (.dup, 1, 0), (.getfield 21, 3, 0), (.iconst 1, 1, 0), (.iadd, 1, 0), (.putfield 21, 3, 0), (.iconst 1, 1, 0), (.ireturn, 1, 0)]
theorem ok_X0_add : okb cX0_add 4 0 kdX0_add = true := by decide +kernel
def kdX0_errorsBehind : List mI := [(.sipush 512, 3, 0), (.istore_n 2, 1, 0), (.iconst 0, 1, 0), (.istore_n 3, 1, 0), (.iload_n 3, 1, 0), (.iload_n 1, 1, 0), (.if_icmp .gt 26, 3, 34), (.iload_n 3, 1, 0), (.bipush 14, 2, 0), (.if_icmp .ge 20, 3, 34), (.iload_n 2, 1, 0), (.invokestatic 33, 3, 0), (.aload_n 0, 1, 0), (.iload_n 3, 1, 0), (.invokevirtual 37, 3, 0), (.iand, 1, 0), (.istore_n 2, 1, 0), (.iinc 3 1, 3, 0), (.goto (-25), 3, 6), (.ldc 28, 2, 0), (.istore_n 3, 1, 0), (.bipush 13, 2, 0), (.istore 4, 2, 0), (.iload 4, 2, 0), (.iload_n 1, 1, 0), (.if_icmp .le 26, 3, 70), (.iload 4, 2, 0), (.ifCond .le 21, 3, 70), (.iload_n 3, 1, 0), (.aload_n 0, 1, 0), (.iload 4, 2, 0), (.invokevirtual 37, 3, 0), (.iand, 1, 0), (.invokestatic 40, 3, 0), (.istore_n 3, 1, 0), (.iinc 4 (-1), 3, 0), (.goto (-26), 3, 41), (.iload_n 2, 1, 0), (.iload_n 3, 1, 0), (.iand, 1, 0), (.ireturn, 1, 0)]
theorem ok_X0_errorsBehind : okb cX0_errorsBehind 5 0 kdX0_errorsBehind = true := by decide +kernel
def kdX0_widestDay : List mI := [(.iconst 0, 1, 0), (.istore_n 1, 1, 0), (.bipush (-9), 2, 0), (.istore_n 2, 1, 0), (.iconst 0, 1, 0), (.istore_n 3, 1, 0), (.iload_n 3, 1, 0), (.bipush 14, 2, 0), (.if_icmp .ge 30, 3, 40), (.aload_n 0, 1, 0), (.iload_n 3, 1, 0), (.invokevirtual 43, 3, 0), (.invokestatic 46, 3, 0), (.istore 4, 2, 0), (.iload 4, 2, 0), (.iload_n 1, 1, 0), (.if_icmp .le 8, 3, 34), (.iload 4, 2, 0), (.istore_n 1, 1, 0), (.iload_n 3, 1, 0), (.istore_n 2, 1, 0), (.iinc 3 1, 3, 0), (.goto (-30), 3, 7), (.iload_n 2, 1, 0), (.ireturn, 1, 0)]
theorem ok_X0_widestDay : okb cX0_widestDay 5 0 kdX0_widestDay = true := by decide +kernel
def kdX0_rows : List mI := [(.iconst 0, 1, 0), (.istore_n 1, 1, 0), (.iload_n 1, 1, 0), (.aload_n 0, 1, 0), (.getfield 18, 3, 0), (.arraylength, 1, 0), (.if_icmp .ge 16, 3, 24), (.aload_n 0, 1, 0), (.getfield 18, 3, 0), (.iload_n 1, 1, 0), (.iconst 1, 1, 0), (.iastore, 1, 0), (.iinc 1 1, 3, 0), (.goto (-19), 3, 2), (.bipush 13, 2, 0), (.istore_n 1, 1, 0), (.iload_n 1, 1, 0), (.ifCond .le 39, 3, 67), (.bipush (-9), 2, 0), (.istore_n 2, 1, 0), (.iload_n 2, 1, 0), (.bipush 9, 2, 0), (.if_icmp .gt 20, 3, 57), (.aload_n 0, 1, 0), (.iload_n 2, 1, 0), (.aload_n 0, 1, 0), (.iload_n 1, 1, 0), (.iload_n 2, 1, 0), (.invokevirtual 51, 3, 0), (.invokevirtual 54, 3, 0), (.iinc 2 1, 3, 0), (.goto (-20), 3, 34), (.aload_n 0, 1, 0), (.invokevirtual 58, 3, 0), (.iinc 1 (-1), 3, 0), (.goto (-37), 3, 27), (.aload_n 0, 1, 0), (.iconst 0, 1, 0), (.iconst 0, 1, 0), (.invokevirtual 51, 3, 0), (.ireturn, 1, 0)]
theorem ok_X0_rows : okb cX0_rows 3 0 kdX0_rows = true := by decide +kernel
def kdX0_rowsFrom : List mI := [(.iconst 0, 1, 0), (.istore_n 3, 1, 0), (.bipush (-2), 2, 0), (.istore 4, 2, 0), (.iload 4, 2, 0), (.iconst 3, 1, 0), (.if_icmp .gt 40, 3, 49), (.iload_n 2, 1, 0), (.iload 4, 2, 0), (.iadd, 1, 0), (.istore 5, 2, 0), (.iload 5, 2, 0), (.iload 5, 2, 0), (.invokestatic 29, 3, 0), (.aload_n 0, 1, 0), (.iload_n 1, 1, 0), (.invokevirtual 37, 3, 0), (.iand, 1, 0), (.ifCond .eq 12, 3, 43), (.iload_n 3, 1, 0), (.aload_n 0, 1, 0), (.iload 5, 2, 0), (.invokevirtual 61, 3, 0), (.iadd, 1, 0), (.istore_n 3, 1, 0), (.iinc 4 1, 3, 0), (.goto (-40), 3, 6), (.iload_n 3, 1, 0), (.ldc 64, 2, 0), (.irem, 1, 0), (.ireturn, 1, 0)]
theorem ok_X0_rowsFrom : okb cX0_rowsFrom 6 0 kdX0_rowsFrom = true := by decide +kernel
def kdX0_allowedBehind : List mI := [(.iload_n 1, 1, 0), (.ifCond .lt 21, 3, 22), (.iload_n 1, 1, 0), (.aload_n 0, 1, 0), (.getfield 9, 3, 0), (.arraylength, 1, 0), (.if_icmp .ge 12, 3, 22), (.aload_n 0, 1, 0), (.getfield 9, 3, 0), (.iload_n 1, 1, 0), (.iaload, 1, 0), (.goto 4, 3, 23), (.iconst 0, 1, 0), (.ireturn, 1, 0)]
theorem ok_X0_allowedBehind : okb cX0_allowedBehind 2 0 kdX0_allowedBehind = true := by decide +kernel
def kdX0_within : List mI := [(.iconst 0, 1, 0), (.istore_n 2, 1, 0), (.bipush (-9), 2, 0), (.istore_n 3, 1, 0), (.iload_n 3, 1, 0), (.bipush 9, 2, 0), (.if_icmp .gt 28, 3, 36), (.iload_n 3, 1, 0), (.iload_n 0, 1, 0), (.if_icmp .lt 17, 3, 30), (.iload_n 3, 1, 0), (.iload_n 1, 1, 0), (.if_icmp .gt 12, 3, 30), (.iload_n 2, 1, 0), (.iconst 1, 1, 0), (.iload_n 3, 1, 0), (.bipush 9, 2, 0), (.iadd, 1, 0), (.ishl, 1, 0), (.ior, 1, 0), (.istore_n 2, 1, 0), (.iinc 3 1, 3, 0), (.goto (-28), 3, 5), (.iload_n 2, 1, 0), (.ireturn, 1, 0)]
theorem ok_X0_within : okb cX0_within 4 0 kdX0_within = true := by decide +kernel
def kdX0_aDayOn : List mI := [(.iload_n 0, 1, 0), (.iconst 1, 1, 0), (.ishl, 1, 0), (.iload_n 0, 1, 0), (.iconst 2, 1, 0), (.ishl, 1, 0), (.ior, 1, 0), (.iload_n 0, 1, 0), (.iconst 3, 1, 0), (.ishl, 1, 0), (.ior, 1, 0), (.istore_n 1, 1, 0), (.iload_n 0, 1, 0), (.iload_n 1, 1, 0), (.ior, 1, 0), (.iload_n 0, 1, 0), (.iconst 1, 1, 0), (.ishr, 1, 0), (.ior, 1, 0), (.iload_n 0, 1, 0), (.iconst 2, 1, 0), (.ishr, 1, 0), (.ior, 1, 0), (.ldc 28, 2, 0), (.iand, 1, 0), (.ireturn, 1, 0)]
theorem ok_X0_aDayOn : okb cX0_aDayOn 2 0 kdX0_aDayOn = true := by decide +kernel
def kdX0_aDayBack : List mI := [(.iload_n 0, 1, 0), (.iconst 1, 1, 0), (.ishr, 1, 0), (.iload_n 0, 1, 0), (.iconst 2, 1, 0), (.ishr, 1, 0), (.ior, 1, 0), (.iload_n 0, 1, 0), (.iconst 3, 1, 0), (.ishr, 1, 0), (.ior, 1, 0), (.istore_n 1, 1, 0), (.iload_n 0, 1, 0), (.iload_n 1, 1, 0), (.ior, 1, 0), (.iload_n 0, 1, 0), (.iconst 1, 1, 0), (.ishl, 1, 0), (.ior, 1, 0), (.iload_n 0, 1, 0), (.iconst 2, 1, 0), (.ishl, 1, 0), (.ior, 1, 0), (.ldc 28, 2, 0), (.iand, 1, 0), (.ireturn, 1, 0)]
theorem ok_X0_aDayBack : okb cX0_aDayBack 2 0 kdX0_aDayBack = true := by decide +kernel
def kdX0_swapRows : List mI := [(.aload_n 0, 1, 0), (.getfield 18, 3, 0), (.astore_n 1, 1, 0), (.aload_n 0, 1, 0), (.aload_n 0, 1, 0), (.getfield 15, 3, 0), (.putfield 18, 3, 0), (.aload_n 0, 1, 0), (.aload_n 1, 1, 0), (.putfield 15, 3, 0), (.return_, 1, 0)]
theorem ok_X0_swapRows : okb cX0_swapRows 2 0 kdX0_swapRows = true := by decide +kernel
def kdX0_laterAt : List mI := [(.iload_n 1, 1, 0), (.bipush 9, 2, 0), (.iadd, 1, 0), (.istore_n 2, 1, 0), (.iload_n 2, 1, 0), (.ifCond .lt 21, 3, 27), (.iload_n 2, 1, 0), (.aload_n 0, 1, 0), (.getfield 18, 3, 0), (.arraylength, 1, 0), (.if_icmp .ge 12, 3, 27), (.aload_n 0, 1, 0), (.getfield 18, 3, 0), (.iload_n 2, 1, 0), (.iaload, 1, 0), (.goto 4, 3, 28), (.iconst 0, 1, 0), (.ireturn, 1, 0)]
theorem ok_X0_laterAt : okb cX0_laterAt 3 0 kdX0_laterAt = true := by decide +kernel
def kdX0_put : List mI := [(.iload_n 1, 1, 0), (.bipush 9, 2, 0), (.iadd, 1, 0), (.istore_n 3, 1, 0), (.iload_n 3, 1, 0), (.ifCond .lt 19, 3, 25), (.iload_n 3, 1, 0), (.aload_n 0, 1, 0), (.getfield 15, 3, 0), (.arraylength, 1, 0), (.if_icmp .ge 10, 3, 25), (.aload_n 0, 1, 0), (.getfield 15, 3, 0), (.iload_n 3, 1, 0), (.iload_n 2, 1, 0), (.iastore, 1, 0), (.return_, 1, 0)]
theorem ok_X0_put : okb cX0_put 4 0 kdX0_put = true := by decide +kernel
def kdX1_weigh : List mI := [(.iload_n 3, 1, 0), (.aload_n 2, 1, 0), (.aload_n 1, 1, 0), (.invokevirtual 28, 3, 0), (.invokestatic 34, 3, 0), (.istore 4, 2, 0), (.aload_n 0, 1, 0), (.bipush (-9), 2, 0), (.putfield 25, 3, 0), (.aload_n 0, 1, 0), (.aload_n 2, 1, 0), (.invokevirtual 40, 3, 0), (.ifCond .eq 7, 3, 29), (.iconst 1, 1, 0), (.goto 4, 3, 30), (.iconst 0, 1, 0), (.putfield 18, 3, 0), (.aload_n 0, 1, 0), (.iconst 1, 1, 0), (.putfield 22, 3, 0), (.aload_n 2, 1, 0), (.invokevirtual 40, 3, 0), (.ifCond .ne 8, 3, 50), (.iload 4, 2, 0), (.ifCond .gt 4, 3, 51), (.return_, 1, 0), (.aload_n 0, 1, 0), (.aload_n 1, 1, 0), (.iconst 0, 1, 0), (.iconst 0, 1, 0), (.invokevirtual 44, 3, 0), (.iconst 1, 1, 0), (.istore 5, 2, 0), (.iload 5, 2, 0), (.iload 4, 2, 0), (.if_icmp .ge 41, 3, 106), (.aload_n 0, 1, 0), (.invokevirtual 48, 3, 0), (.aload_n 0, 1, 0), (.dup, 1, 0), (.getfield 22, 3, 0), (.bipush 10, 2, 0), (.imul, 1, 0), (.putfield 22, 3, 0), (.aload_n 0, 1, 0), (.aload_n 1, 1, 0), (.aload_n 2, 1, 0), (.invokevirtual 51, 3, 0), (.iload 4, 2, 0), (.iadd, 1, 0), (.iload 5, 2, 0), (.isub, 1, 0), (.iload 5, 2, 0), (.invokevirtual 44, 3, 0), (.iinc 5 1, 3, 0), (.goto (-42), 3, 61), (.aload_n 0, 1, 0), (.invokevirtual 48, 3, 0), (.aload_n 0, 1, 0), (.dup, 1, 0), (.getfield 22, 3, 0), (.bipush 10, 2, 0), (.imul, 1, 0), (.putfield 22, 3, 0), (.aload_n 0, 1, 0), (.aload_n 0, 1, 0), (.aload_n 1, 1, 0), (.aload_n 2, 1, 0), (.invokevirtual 51, 3, 0), (.aload_n 2, 1, 0), (.invokevirtual 55, 3, 0), (.aload_n 2, 1, 0), (.invokevirtual 58, 3, 0), (.invokevirtual 61, 3, 0), (.putfield 18, 3, 0), (.aload_n 0, 1, 0), (.invokevirtual 65, 3, 0), (.return_, 1, 0)]
theorem ok_X1_weigh : okb cX1_weigh 6 0 kdX1_weigh = true := by decide +kernel
def kdX1_fillRow : List mI := [(.bipush (-9), 2, 0), (.istore 4, 2, 0), (.iload 4, 2, 0), (.bipush 9, 2, 0), (.if_icmp .gt 79, 3, 87), (.aload_n 0, 1, 0), (.iload 4, 2, 0), (.iconst 0, 1, 0), (.aload_n 0, 1, 0), (.getfield 22, 3, 0), (.invokevirtual 68, 3, 0), (.iconst 1, 1, 0), (.istore 5, 2, 0), (.iload 5, 2, 0), (.bipush 50, 2, 0), (.if_icmp .ge 52, 3, 81), (.iload 5, 2, 0), (.bipush 7, 2, 0), (.iload_n 3, 1, 0), (.imul, 1, 0), (.if_icmp .gt 7, 3, 45), (.iconst 1, 1, 0), (.goto 4, 3, 46), (.iconst 0, 1, 0), (.istore 6, 2, 0), (.aload_n 0, 1, 0), (.iload 4, 2, 0), (.iload 5, 2, 0), (.iload 6, 2, 0), (.ifCond .eq 16, 3, 71), (.aload_n 0, 1, 0), (.aload_n 1, 1, 0), (.iload_n 2, 1, 0), (.iload 4, 2, 0), (.iload 5, 2, 0), (.invokevirtual 61, 3, 0), (.goto 4, 3, 72), (.iconst 0, 1, 0), (.invokevirtual 68, 3, 0), (.iinc 5 1, 3, 0), (.goto (-53), 3, 25), (.iinc 4 1, 3, 0), (.goto (-80), 3, 4), (.return_, 1, 0)]
theorem ok_X1_fillRow : okb cX1_fillRow 7 0 kdX1_fillRow = true := by decide +kernel
def kdX1_best : List mI := [(.iconst (-1), 1, 0), (.istore 5, 2, 0), (.bipush (-2), 2, 0), (.istore 6, 2, 0), (.iload 6, 2, 0), (.iconst 3, 1, 0), (.if_icmp .gt 45, 3, 55), (.aload_n 0, 1, 0), (.aload_n 1, 1, 0), (.iload_n 2, 1, 0), (.iload_n 3, 1, 0), (.iload 6, 2, 0), (.iadd, 1, 0), (.iload 4, 2, 0), (.iconst 4, 1, 0), (.isub, 1, 0), (.iload 6, 2, 0), (.isub, 1, 0), (.invokevirtual 72, 3, 0), (.istore 7, 2, 0), (.iload 7, 2, 0), (.iload 5, 2, 0), (.if_icmp .le 13, 3, 49), (.iload 7, 2, 0), (.istore 5, 2, 0), (.aload_n 0, 1, 0), (.iload 6, 2, 0), (.putfield 25, 3, 0), (.iinc 6 1, 3, 0), (.goto (-45), 3, 7), (.iload 5, 2, 0), (.ireturn, 1, 0)]
theorem ok_X1_best : okb cX1_best 8 0 kdX1_best = true := by decide +kernel
def kdX1_turned : List mI := [(.iload_n 3, 1, 0), (.invokestatic 75, 3, 0), (.ifCond .eq 5, 3, 9), (.iconst (-1), 1, 0), (.ireturn, 1, 0), (.iconst 0, 1, 0), (.iload 4, 2, 0), (.invokestatic 79, 3, 0), (.istore 5, 2, 0), (.aload_n 0, 1, 0), (.iload_n 3, 1, 0), (.iload 5, 2, 0), (.invokevirtual 82, 3, 0), (.istore 6, 2, 0), (.iload_n 3, 1, 0), (.invokestatic 85, 3, 0), (.aload_n 1, 1, 0), (.getfield 89, 3, 0), (.if_icmp .gt 9, 3, 43), (.bipush 10, 2, 0), (.iload 6, 2, 0), (.imul, 1, 0), (.ireturn, 1, 0), (.aload_n 1, 1, 0), (.iload_n 2, 1, 0), (.invokevirtual 94, 3, 0), (.istore 7, 2, 0), (.aload_n 0, 1, 0), (.iconst 0, 1, 0), (.bipush 99, 2, 0), (.iload 5, 2, 0), (.aload_n 1, 1, 0), (.getfield 97, 3, 0), (.iadd, 1, 0), (.invokestatic 34, 3, 0), (.invokevirtual 82, 3, 0), (.istore 8, 2, 0), (.iload 7, 2, 0), (.iload 8, 2, 0), (.imul, 1, 0), (.bipush 10, 2, 0), (.iload 7, 2, 0), (.isub, 1, 0), (.iload 6, 2, 0), (.imul, 1, 0), (.iadd, 1, 0), (.ireturn, 1, 0)]
theorem ok_X1_turned : okb cX1_turned 9 0 kdX1_turned = true := by decide +kernel
def kdX1_reduce : List mI := [(.iconst 0, 1, 0), (.istore_n 1, 1, 0), (.iload_n 1, 1, 0), (.bipush 8, 2, 0), (.if_icmp .ge 85, 3, 90), (.aload_n 0, 1, 0), (.getfield 18, 3, 0), (.iconst 2, 1, 0), (.irem, 1, 0), (.ifCond .ne 32, 3, 46), (.aload_n 0, 1, 0), (.getfield 22, 3, 0), (.iconst 2, 1, 0), (.irem, 1, 0), (.ifCond .ne 23, 3, 46), (.aload_n 0, 1, 0), (.dup, 1, 0), (.getfield 18, 3, 0), (.iconst 2, 1, 0), (.idiv, 1, 0), (.putfield 18, 3, 0), (.aload_n 0, 1, 0), (.dup, 1, 0), (.getfield 22, 3, 0), (.iconst 2, 1, 0), (.idiv, 1, 0), (.putfield 22, 3, 0), (.aload_n 0, 1, 0), (.getfield 18, 3, 0), (.iconst 5, 1, 0), (.irem, 1, 0), (.ifCond .ne 32, 3, 84), (.aload_n 0, 1, 0), (.getfield 22, 3, 0), (.iconst 5, 1, 0), (.irem, 1, 0), (.ifCond .ne 23, 3, 84), (.aload_n 0, 1, 0), (.dup, 1, 0), (.getfield 18, 3, 0), (.iconst 5, 1, 0), (.idiv, 1, 0), (.putfield 18, 3, 0), (.aload_n 0, 1, 0), (.dup, 1, 0), (.getfield 22, 3, 0), (.iconst 5, 1, 0), (.idiv, 1, 0), (.putfield 22, 3, 0), (.iinc 1 1, 3, 0), (.goto (-85), 3, 2), (.return_, 1, 0)]
theorem ok_X1_reduce : okb cX1_reduce 2 0 kdX1_reduce = true := by decide +kernel
def kdX1_swapRows : List mI := [(.aload_n 0, 1, 0), (.getfield 15, 3, 0), (.astore_n 1, 1, 0), (.aload_n 0, 1, 0), (.aload_n 0, 1, 0), (.getfield 11, 3, 0), (.putfield 15, 3, 0), (.aload_n 0, 1, 0), (.aload_n 1, 1, 0), (.putfield 11, 3, 0), (.return_, 1, 0)]
theorem ok_X1_swapRows : okb cX1_swapRows 2 0 kdX1_swapRows = true := by decide +kernel
def kdX1_laterAt : List mI := [(.iload_n 2, 1, 0), (.ifCond .lt 9, 3, 10), (.iload_n 2, 1, 0), (.bipush 50, 2, 0), (.if_icmp .lt 5, 3, 12), (.iconst 0, 1, 0), (.ireturn, 1, 0), (.iload_n 1, 1, 0), (.bipush 9, 2, 0), (.iadd, 1, 0), (.bipush 50, 2, 0), (.imul, 1, 0), (.iload_n 2, 1, 0), (.iadd, 1, 0), (.istore_n 3, 1, 0), (.iload_n 3, 1, 0), (.ifCond .lt 21, 3, 44), (.iload_n 3, 1, 0), (.aload_n 0, 1, 0), (.getfield 15, 3, 0), (.arraylength, 1, 0), (.if_icmp .ge 12, 3, 44), (.aload_n 0, 1, 0), (.getfield 15, 3, 0), (.iload_n 3, 1, 0), (.iaload, 1, 0), (.goto 4, 3, 45), (.iconst 0, 1, 0), (.ireturn, 1, 0)]
theorem ok_X1_laterAt : okb cX1_laterAt 4 0 kdX1_laterAt = true := by decide +kernel
def kdX1_put : List mI := [(.iload_n 1, 1, 0), (.bipush 9, 2, 0), (.iadd, 1, 0), (.bipush 50, 2, 0), (.imul, 1, 0), (.iload_n 2, 1, 0), (.iadd, 1, 0), (.istore 4, 2, 0), (.iload 4, 2, 0), (.ifCond .lt 21, 3, 34), (.iload 4, 2, 0), (.aload_n 0, 1, 0), (.getfield 11, 3, 0), (.arraylength, 1, 0), (.if_icmp .ge 11, 3, 34), (.aload_n 0, 1, 0), (.getfield 11, 3, 0), (.iload 4, 2, 0), (.iload_n 3, 1, 0), (.iastore, 1, 0), (.return_, 1, 0)]
theorem ok_X1_put : okb cX1_put 5 0 kdX1_put = true := by decide +kernel
def kdX2_forCandles : List mI := [(.aload_n 0, 1, 0), (.iconst 1, 1, 0), (.putfield 18, 3, 0), (.aload_n 0, 1, 0), (.aload_n 1, 1, 0), (.aload_n 2, 1, 0), (.aload_n 2, 1, 0), (.aload_n 1, 1, 0), (.invokevirtual 29, 3, 0), (.invokevirtual 35, 3, 0), (.return_, 1, 0)]
theorem ok_X2_forCandles : okb cX2_forCandles 3 0 kdX2_forCandles = true := by decide +kernel
def kdX2_forFreedom : List mI := [(.aload_n 0, 1, 0), (.iconst 0, 1, 0), (.putfield 18, 3, 0), (.aload_n 0, 1, 0), (.aload_n 1, 1, 0), (.aload_n 2, 1, 0), (.iload_n 3, 1, 0), (.aload_n 2, 1, 0), (.aload_n 1, 1, 0), (.invokevirtual 29, 3, 0), (.invokestatic 39, 3, 0), (.invokevirtual 35, 3, 0), (.return_, 1, 0)]
theorem ok_X2_forFreedom : okb cX2_forFreedom 4 0 kdX2_forFreedom = true := by decide +kernel
def kdX2_make : List mI := [(.aload_n 0, 1, 0), (.getfield 18, 3, 0), (.ifCond .eq 7, 3, 11), (.iconst 0, 1, 0), (.goto 5, 3, 13), (.ldc 45, 2, 0), (.istore 4, 2, 0), (.aload_n 0, 1, 0), (.bipush (-9), 2, 0), (.putfield 26, 3, 0), (.aload_n 0, 1, 0), (.aload_n 2, 1, 0), (.invokevirtual 46, 3, 0), (.ifCond .eq 7, 3, 33), (.iconst 0, 1, 0), (.goto 5, 3, 35), (.iload 4, 2, 0), (.putfield 22, 3, 0), (.aload_n 2, 1, 0), (.invokevirtual 46, 3, 0), (.ifCond .ne 7, 3, 49), (.iload_n 3, 1, 0), (.ifCond .gt 4, 3, 50), (.return_, 1, 0), (.bipush (-9), 2, 0), (.istore 5, 2, 0), (.iload 5, 2, 0), (.bipush 9, 2, 0), (.if_icmp .gt 31, 3, 89), (.aload_n 0, 1, 0), (.iload 5, 2, 0), (.aload_n 2, 1, 0), (.iload_n 3, 1, 0), (.iload 5, 2, 0), (.invokestatic 50, 3, 0), (.ifCond .gt 7, 3, 78), (.iconst 0, 1, 0), (.goto 5, 3, 80), (.iload 4, 2, 0), (.invokevirtual 54, 3, 0), (.iinc 5 1, 3, 0), (.goto (-32), 3, 54), (.iload_n 3, 1, 0), (.iconst 1, 1, 0), (.isub, 1, 0), (.istore 5, 2, 0), (.iload 5, 2, 0), (.ifCond .le 77, 3, 173), (.aload_n 0, 1, 0), (.invokevirtual 58, 3, 0), (.bipush (-9), 2, 0), (.istore 6, 2, 0), (.iload 6, 2, 0), (.bipush 9, 2, 0), (.if_icmp .gt 56, 3, 167), (.aload_n 2, 1, 0), (.iload 5, 2, 0), (.iload 6, 2, 0), (.invokestatic 50, 3, 0), (.ifCond .gt 7, 3, 129), (.iconst 1, 1, 0), (.goto 4, 3, 130), (.iconst 0, 1, 0), (.istore 7, 2, 0), (.aload_n 0, 1, 0), (.iload 6, 2, 0), (.iload 7, 2, 0), (.ifCond .eq 7, 3, 144), (.iconst 0, 1, 0), (.goto 17, 3, 158), (.aload_n 0, 1, 0), (.aload_n 1, 1, 0), (.aload_n 2, 1, 0), (.invokevirtual 61, 3, 0), (.iload 5, 2, 0), (.iadd, 1, 0), (.iload 6, 2, 0), (.invokevirtual 65, 3, 0), (.invokevirtual 54, 3, 0), (.iinc 6 1, 3, 0), (.goto (-57), 3, 107), (.iinc 5 (-1), 3, 0), (.goto (-76), 3, 94), (.aload_n 0, 1, 0), (.invokevirtual 58, 3, 0), (.aload_n 0, 1, 0), (.aload_n 0, 1, 0), (.aload_n 1, 1, 0), (.aload_n 2, 1, 0), (.invokevirtual 61, 3, 0), (.aload_n 2, 1, 0), (.invokevirtual 69, 3, 0), (.invokevirtual 65, 3, 0), (.putfield 22, 3, 0), (.return_, 1, 0)]
theorem ok_X2_make : okb cX2_make 8 0 kdX2_make = true := by decide +kernel
def kdX2_restBehind : List mI := [(.aload_n 0, 1, 0), (.invokevirtual 72, 3, 0), (.iconst 4, 1, 0), (.iload_n 1, 1, 0), (.imul, 1, 0), (.isub, 1, 0), (.iload_n 2, 1, 0), (.aload_n 0, 1, 0), (.invokevirtual 69, 3, 0), (.isub, 1, 0), (.isub, 1, 0), (.ireturn, 1, 0)]
theorem ok_X2_restBehind : okb cX2_restBehind 3 0 kdX2_restBehind = true := by decide +kernel
def kdX2_best : List mI := [(.ldc 45, 2, 0), (.istore 4, 2, 0), (.aload_n 0, 1, 0), (.bipush (-9), 2, 0), (.putfield 26, 3, 0), (.bipush (-2), 2, 0), (.istore 5, 2, 0), (.iload 5, 2, 0), (.iconst 3, 1, 0), (.if_icmp .gt 40, 3, 57), (.aload_n 0, 1, 0), (.aload_n 1, 1, 0), (.iload_n 2, 1, 0), (.iload 5, 2, 0), (.iload_n 3, 1, 0), (.iload 5, 2, 0), (.iadd, 1, 0), (.invokevirtual 75, 3, 0), (.istore 6, 2, 0), (.iload 6, 2, 0), (.iload 4, 2, 0), (.if_icmp .le 13, 3, 51), (.iload 6, 2, 0), (.istore 4, 2, 0), (.aload_n 0, 1, 0), (.iload 5, 2, 0), (.putfield 26, 3, 0), (.iinc 5 1, 3, 0), (.goto (-40), 3, 14), (.iload 4, 2, 0), (.ireturn, 1, 0)]
theorem ok_X2_best : okb cX2_best 7 0 kdX2_best = true := by decide +kernel
def kdX2_gain : List mI := [(.aload_n 0, 1, 0), (.getfield 18, 3, 0), (.ifCond .eq 10, 3, 14), (.aload_n 1, 1, 0), (.getfield 79, 3, 0), (.goto 5, 3, 16), (.bipush 9, 2, 0), (.istore 5, 2, 0), (.iload 4, 2, 0), (.invokestatic 84, 3, 0), (.iload 5, 2, 0), (.if_icmp .gt 14, 3, 39), (.aload_n 0, 1, 0), (.iload 4, 2, 0), (.invokevirtual 88, 3, 0), (.ldc 45, 2, 0), (.if_icmp .gt 6, 3, 42), (.ldc 45, 2, 0), (.ireturn, 1, 0), (.aload_n 0, 1, 0), (.getfield 18, 3, 0), (.ifCond .eq 12, 3, 58), (.aload_n 1, 1, 0), (.iload_n 2, 1, 0), (.iload_n 3, 1, 0), (.invokevirtual 91, 3, 0), (.goto 10, 3, 65), (.aload_n 1, 1, 0), (.iload 4, 2, 0), (.invokevirtual 94, 3, 0), (.ineg, 1, 0), (.istore 6, 2, 0), (.iload 6, 2, 0), (.aload_n 0, 1, 0), (.iload 4, 2, 0), (.invokevirtual 88, 3, 0), (.iadd, 1, 0), (.ireturn, 1, 0)]
theorem ok_X2_gain : okb cX2_gain 7 0 kdX2_gain = true := by decide +kernel
def kdX2_swapRows : List mI := [(.aload_n 0, 1, 0), (.getfield 15, 3, 0), (.astore_n 1, 1, 0), (.aload_n 0, 1, 0), (.aload_n 0, 1, 0), (.getfield 9, 3, 0), (.putfield 15, 3, 0), (.aload_n 0, 1, 0), (.aload_n 1, 1, 0), (.putfield 9, 3, 0), (.return_, 1, 0)]
theorem ok_X2_swapRows : okb cX2_swapRows 2 0 kdX2_swapRows = true := by decide +kernel
def kdX2_laterAt : List mI := [(.iload_n 1, 1, 0), (.bipush 9, 2, 0), (.iadd, 1, 0), (.istore_n 2, 1, 0), (.iload_n 2, 1, 0), (.ifCond .lt 21, 3, 27), (.iload_n 2, 1, 0), (.aload_n 0, 1, 0), (.getfield 15, 3, 0), (.arraylength, 1, 0), (.if_icmp .ge 12, 3, 27), (.aload_n 0, 1, 0), (.getfield 15, 3, 0), (.iload_n 2, 1, 0), (.iaload, 1, 0), (.goto 5, 3, 29), (.ldc 45, 2, 0), (.ireturn, 1, 0)]
theorem ok_X2_laterAt : okb cX2_laterAt 3 0 kdX2_laterAt = true := by decide +kernel
def kdX2_put : List mI := [(.iload_n 1, 1, 0), (.bipush 9, 2, 0), (.iadd, 1, 0), (.istore_n 3, 1, 0), (.iload_n 3, 1, 0), (.ifCond .lt 19, 3, 25), (.iload_n 3, 1, 0), (.aload_n 0, 1, 0), (.getfield 9, 3, 0), (.arraylength, 1, 0), (.if_icmp .ge 10, 3, 25), (.aload_n 0, 1, 0), (.getfield 9, 3, 0), (.iload_n 3, 1, 0), (.iload_n 2, 1, 0), (.iastore, 1, 0), (.return_, 1, 0)]
theorem ok_X2_put : okb cX2_put 4 0 kdX2_put = true := by decide +kernel
def kdX3_begin : List mI := [(.iconst 0, 1, 0), (.istore_n 2, 1, 0), (.iload_n 2, 1, 0), (.bipush 9, 2, 0), (.if_icmp .ge 25, 3, 30), (.iload_n 2, 1, 0), (.aload_n 0, 1, 0), (.getfield 11, 3, 0), (.arraylength, 1, 0), (.if_icmp .ge 16, 3, 30), (.aload_n 0, 1, 0), (.getfield 11, 3, 0), (.iload_n 2, 1, 0), (.iconst 0, 1, 0), (.iastore, 1, 0), (.iinc 2 1, 3, 0), (.goto (-25), 3, 2), (.aload_n 0, 1, 0), (.getfield 11, 3, 0), (.iconst 1, 1, 0), (.iload_n 1, 1, 0), (.iastore, 1, 0), (.aload_n 0, 1, 0), (.iconst 0, 1, 0), (.putfield 15, 3, 0), (.return_, 1, 0)]
theorem ok_X3_begin : okb cX3_begin 3 0 kdX3_begin = true := by decide +kernel
def kdX3_copy : List mI := [(.aload_n 1, 1, 0), (.getfield 11, 3, 0), (.iconst 0, 1, 0), (.aload_n 0, 1, 0), (.getfield 11, 3, 0), (.iconst 0, 1, 0), (.aload_n 0, 1, 0), (.getfield 11, 3, 0), (.arraylength, 1, 0), (.invokestatic 23, 3, 0), (.aload_n 0, 1, 0), (.aload_n 1, 1, 0), (.getfield 15, 3, 0), (.putfield 15, 3, 0), (.return_, 1, 0)]
theorem ok_X3_copy : okb cX3_copy 2 0 kdX3_copy = true := by decide +kernel
def kdX3_day : List mI := [(.aload_n 0, 1, 0), (.getfield 11, 3, 0), (.iconst 0, 1, 0), (.iaload, 1, 0), (.ireturn, 1, 0)]
theorem ok_X3_day : okb cX3_day 1 0 kdX3_day = true := by decide +kernel
def kdX3_rest : List mI := [(.aload_n 0, 1, 0), (.getfield 11, 3, 0), (.iconst 1, 1, 0), (.iaload, 1, 0), (.ireturn, 1, 0)]
theorem ok_X3_rest : okb cX3_rest 1 0 kdX3_rest = true := by decide +kernel
def kdX3_error : List mI := [(.aload_n 0, 1, 0), (.getfield 11, 3, 0), (.iconst 2, 1, 0), (.iaload, 1, 0), (.ireturn, 1, 0)]
theorem ok_X3_error : okb cX3_error 1 0 kdX3_error = true := by decide +kernel
def kdX3_candles : List mI := [(.aload_n 0, 1, 0), (.getfield 11, 3, 0), (.iconst 3, 1, 0), (.iaload, 1, 0), (.ireturn, 1, 0)]
theorem ok_X3_candles : okb cX3_candles 1 0 kdX3_candles = true := by decide +kernel
def kdX3_found : List mI := [(.aload_n 0, 1, 0), (.getfield 11, 3, 0), (.iconst 4, 1, 0), (.iaload, 1, 0), (.ireturn, 1, 0)]
theorem ok_X3_found : okb cX3_found 1 0 kdX3_found = true := by decide +kernel
def kdX3_harmOf : List mI := [(.iload_n 1, 1, 0), (.ifCond .lt 19, 3, 20), (.iload_n 1, 1, 0), (.iconst 4, 1, 0), (.if_icmp .ge 14, 3, 20), (.aload_n 0, 1, 0), (.getfield 11, 3, 0), (.iconst 5, 1, 0), (.iload_n 1, 1, 0), (.iadd, 1, 0), (.iaload, 1, 0), (.goto 4, 3, 21), (.iconst 0, 1, 0), (.ireturn, 1, 0)]
theorem ok_X3_harmOf : okb cX3_harmOf 2 0 kdX3_harmOf = true := by decide +kernel
def kdX3_harmOfAll : List mI := [(.iconst 0, 1, 0), (.istore_n 1, 1, 0), (.iconst 0, 1, 0), (.istore_n 2, 1, 0), (.iload_n 2, 1, 0), (.iconst 4, 1, 0), (.if_icmp .ge 17, 3, 23), (.iload_n 1, 1, 0), (.aload_n 0, 1, 0), (.iload_n 2, 1, 0), (.invokevirtual 29, 3, 0), (.iadd, 1, 0), (.istore_n 1, 1, 0), (.iinc 2 1, 3, 0), (.goto (-16), 3, 4), (.iload_n 1, 1, 0), (.ireturn, 1, 0)]
theorem ok_X3_harmOfAll : okb cX3_harmOfAll 3 0 kdX3_harmOfAll = true := by decide +kernel
def kdX3_isOver : List mI := [(.aload_n 0, 1, 0), (.invokevirtual 33, 3, 0), (.aload_n 1, 1, 0), (.getfield 37, 3, 0), (.if_icmp .lt 7, 3, 15), (.iconst 1, 1, 0), (.goto 4, 3, 16), (.iconst 0, 1, 0), (.ireturn, 1, 0)]
theorem ok_X3_isOver : okb cX3_isOver 2 0 kdX3_isOver = true := by decide +kernel
def kdX3_isFree : List mI := [(.aload_n 0, 1, 0), (.invokevirtual 42, 3, 0), (.ifCond .ne 7, 3, 11), (.iconst 1, 1, 0), (.goto 4, 3, 12), (.iconst 0, 1, 0), (.ireturn, 1, 0)]
theorem ok_X3_isFree : okb cX3_isFree 1 0 kdX3_isFree = true := by decide +kernel
def kdX3_isEnded : List mI := [(.aload_n 0, 1, 0), (.aload_n 1, 1, 0), (.invokevirtual 45, 3, 0), (.ifCond .ne 10, 3, 15), (.aload_n 0, 1, 0), (.invokevirtual 49, 3, 0), (.ifCond .eq 7, 3, 19), (.iconst 1, 1, 0), (.goto 4, 3, 20), (.iconst 0, 1, 0), (.ireturn, 1, 0)]
theorem ok_X3_isEnded : okb cX3_isEnded 2 0 kdX3_isEnded = true := by decide +kernel
def kdX3_daysLeft : List mI := [(.aload_n 1, 1, 0), (.getfield 37, 3, 0), (.aload_n 0, 1, 0), (.invokevirtual 33, 3, 0), (.isub, 1, 0), (.ireturn, 1, 0)]
theorem ok_X3_daysLeft : okb cX3_daysLeft 2 0 kdX3_daysLeft = true := by decide +kernel
def kdX3_turn : List mI := [(.aload_n 0, 1, 0), (.invokevirtual 53, 3, 0), (.aload_n 0, 1, 0), (.invokevirtual 33, 3, 0), (.istore 4, 2, 0), (.aload_n 0, 1, 0), (.getfield 11, 3, 0), (.iconst 2, 1, 0), (.dup2, 1, 0), (.iaload, 1, 0), (.iload_n 2, 1, 0), (.iadd, 1, 0), (.iastore, 1, 0), (.aload_n 0, 1, 0), (.getfield 11, 3, 0), (.iconst 1, 1, 0), (.iconst 0, 1, 0), (.aload_n 0, 1, 0), (.invokevirtual 42, 3, 0), (.iconst 4, 1, 0), (.isub, 1, 0), (.iload_n 2, 1, 0), (.isub, 1, 0), (.invokestatic 56, 3, 0), (.iastore, 1, 0), (.aload_n 0, 1, 0), (.getfield 11, 3, 0), (.iconst 3, 1, 0), (.sipush 999, 3, 0), (.aload_n 0, 1, 0), (.invokevirtual 62, 3, 0), (.aload_n 1, 1, 0), (.iload 4, 2, 0), (.iload_n 2, 1, 0), (.invokevirtual 65, 3, 0), (.iadd, 1, 0), (.invokestatic 68, 3, 0), (.iastore, 1, 0), (.iconst 0, 1, 0), (.istore 5, 2, 0), (.iload 5, 2, 0), (.aload_n 1, 1, 0), (.getfield 71, 3, 0), (.if_icmp .ge 38, 3, 109), (.aload_n 0, 1, 0), (.iload 5, 2, 0), (.sipush 9999, 3, 0), (.aload_n 0, 1, 0), (.iload 5, 2, 0), (.invokevirtual 29, 3, 0), (.aload_n 1, 1, 0), (.iload 5, 2, 0), (.aload_n 0, 1, 0), (.invokevirtual 74, 3, 0), (.invokevirtual 77, 3, 0), (.iadd, 1, 0), (.invokestatic 68, 3, 0), (.invokevirtual 80, 3, 0), (.iinc 5 1, 3, 0), (.goto (-41), 3, 65), (.iload 4, 2, 0), (.iload_n 3, 1, 0), (.invokestatic 84, 3, 0), (.aload_n 1, 1, 0), (.iload 4, 2, 0), (.invokevirtual 87, 3, 0), (.if_icmp .ge 11, 3, 132), (.aload_n 0, 1, 0), (.aload_n 1, 1, 0), (.invokevirtual 90, 3, 0), (.goto 4, 3, 133), (.iconst 0, 1, 0), (.istore 5, 2, 0), (.aload_n 0, 1, 0), (.getfield 11, 3, 0), (.iconst 0, 1, 0), (.iload 4, 2, 0), (.iconst 1, 1, 0), (.iadd, 1, 0), (.iastore, 1, 0), (.iload 5, 2, 0), (.ireturn, 1, 0)]
theorem ok_X3_turn : okb cX3_turn 6 0 kdX3_turn = true := by decide +kernel
def kdX3_watch : List mI := [(.aload_n 0, 1, 0), (.invokevirtual 53, 3, 0), (.aload_n 0, 1, 0), (.aload_n 1, 1, 0), (.invokevirtual 90, 3, 0), (.ireturn, 1, 0)]
theorem ok_X3_watch : okb cX3_watch 2 0 kdX3_watch = true := by decide +kernel
def kdX3_pay : List mI := [(.aload_n 0, 1, 0), (.invokevirtual 53, 3, 0), (.aload_n 0, 1, 0), (.getfield 11, 3, 0), (.iconst 3, 1, 0), (.dup2, 1, 0), (.iaload, 1, 0), (.iload_n 2, 1, 0), (.isub, 1, 0), (.iastore, 1, 0), (.aload_n 0, 1, 0), (.iload_n 1, 1, 0), (.iconst 0, 1, 0), (.aload_n 0, 1, 0), (.iload_n 1, 1, 0), (.invokevirtual 29, 3, 0), (.iload_n 2, 1, 0), (.isub, 1, 0), (.invokestatic 56, 3, 0), (.invokevirtual 80, 3, 0), (.aload_n 0, 1, 0), (.iload_n 1, 1, 0), (.invokevirtual 29, 3, 0), (.ireturn, 1, 0)]
theorem ok_X3_pay : okb cX3_pay 3 0 kdX3_pay = true := by decide +kernel
def kdX3_correct : List mI := [(.aload_n 0, 1, 0), (.invokevirtual 53, 3, 0), (.aload_n 0, 1, 0), (.getfield 11, 3, 0), (.iconst 2, 1, 0), (.dup2, 1, 0), (.iaload, 1, 0), (.iload_n 1, 1, 0), (.iadd, 1, 0), (.iastore, 1, 0), (.aload_n 0, 1, 0), (.invokevirtual 74, 3, 0), (.ireturn, 1, 0)]
theorem ok_X3_correct : okb cX3_correct 2 0 kdX3_correct = true := by decide +kernel
def kdX3_recall : List mI := [(.aload_n 0, 1, 0), (.getfield 15, 3, 0), (.ifCond .gt 5, 3, 9), (.iconst 0, 1, 0), (.ireturn, 1, 0), (.aload_n 0, 1, 0), (.getfield 11, 3, 0), (.bipush 9, 2, 0), (.aload_n 0, 1, 0), (.getfield 11, 3, 0), (.iconst 0, 1, 0), (.bipush 90, 2, 0), (.invokestatic 23, 3, 0), (.aload_n 0, 1, 0), (.dup, 1, 0), (.getfield 15, 3, 0), (.iconst 1, 1, 0), (.isub, 1, 0), (.putfield 15, 3, 0), (.iconst 1, 1, 0), (.ireturn, 1, 0)]
theorem ok_X3_recall : okb cX3_recall 1 0 kdX3_recall = true := by decide +kernel
def kdX3_soonestFree : List mI := [(.iconst 0, 1, 0), (.istore_n 2, 1, 0), (.iload_n 2, 1, 0), (.aload_n 0, 1, 0), (.aload_n 1, 1, 0), (.invokevirtual 94, 3, 0), (.if_icmp .gt 37, 3, 45), (.iconst 3, 1, 0), (.iload_n 2, 1, 0), (.imul, 1, 0), (.bipush 9, 2, 0), (.aload_n 0, 1, 0), (.invokevirtual 74, 3, 0), (.isub, 1, 0), (.invokestatic 68, 3, 0), (.istore_n 3, 1, 0), (.iconst 4, 1, 0), (.iload_n 2, 1, 0), (.imul, 1, 0), (.iload_n 3, 1, 0), (.iadd, 1, 0), (.aload_n 0, 1, 0), (.invokevirtual 42, 3, 0), (.if_icmp .lt 5, 3, 39), (.iload_n 2, 1, 0), (.ireturn, 1, 0), (.iinc 2 1, 3, 0), (.goto (-40), 3, 2), (.bipush (-9), 2, 0), (.ireturn, 1, 0)]
theorem ok_X3_soonestFree : okb cX3_soonestFree 4 0 kdX3_soonestFree = true := by decide +kernel
def kdX3_caughtBehind : List mI := [(.aload_n 0, 1, 0), (.aload_n 1, 1, 0), (.invokevirtual 97, 3, 0), (.ifCond .eq 6, 3, 11), (.bipush (-9), 2, 0), (.ireturn, 1, 0), (.aload_n 0, 1, 0), (.invokevirtual 74, 3, 0), (.istore_n 3, 1, 0), (.aload_n 0, 1, 0), (.invokevirtual 42, 3, 0), (.istore 4, 2, 0), (.iconst 0, 1, 0), (.istore 5, 2, 0), (.iload 5, 2, 0), (.aload_n 0, 1, 0), (.aload_n 1, 1, 0), (.invokevirtual 94, 3, 0), (.if_icmp .gt 53, 3, 85), (.iload_n 3, 1, 0), (.invokestatic 100, 3, 0), (.ifCond .eq 6, 3, 45), (.bipush (-9), 2, 0), (.ireturn, 1, 0), (.iload_n 3, 1, 0), (.invokestatic 104, 3, 0), (.aload_n 1, 1, 0), (.getfield 107, 3, 0), (.if_icmp .le 6, 3, 59), (.iload 5, 2, 0), (.ireturn, 1, 0), (.iload 4, 2, 0), (.ifCond .gt 6, 3, 67), (.bipush (-9), 2, 0), (.ireturn, 1, 0), (.iload_n 3, 1, 0), (.iload_n 2, 1, 0), (.iadd, 1, 0), (.istore_n 3, 1, 0), (.iload 4, 2, 0), (.iconst 4, 1, 0), (.iload_n 2, 1, 0), (.iadd, 1, 0), (.isub, 1, 0), (.istore 4, 2, 0), (.iinc 5 1, 3, 0), (.goto (-57), 3, 25), (.bipush (-9), 2, 0), (.ireturn, 1, 0)]
theorem ok_X3_caughtBehind : okb cX3_caughtBehind 6 0 kdX3_caughtBehind = true := by decide +kernel
def kdX3_check : List mI := [(.aload_n 0, 1, 0), (.invokevirtual 74, 3, 0), (.invokestatic 104, 3, 0), (.aload_n 1, 1, 0), (.getfield 107, 3, 0), (.if_icmp .gt 5, 3, 16), (.iconst 1, 1, 0), (.ireturn, 1, 0), (.aload_n 0, 1, 0), (.getfield 11, 3, 0), (.iconst 4, 1, 0), (.dup2, 1, 0), (.iaload, 1, 0), (.iconst 1, 1, 0), (.iadd, 1, 0), (.iastore, 1, 0), (.aload_n 0, 1, 0), (.getfield 11, 3, 0), (.iconst 2, 1, 0), (.iconst 0, 1, 0), (.iastore, 1, 0), (.aload_n 0, 1, 0), (.getfield 11, 3, 0), (.iconst 1, 1, 0), (.bipush 99, 2, 0), (.aload_n 0, 1, 0), (.invokevirtual 42, 3, 0), (.aload_n 1, 1, 0), (.getfield 110, 3, 0), (.iadd, 1, 0), (.invokestatic 68, 3, 0), (.iastore, 1, 0), (.iconst 2, 1, 0), (.ireturn, 1, 0)]
theorem ok_X3_check : okb cX3_check 2 0 kdX3_check = true := by decide +kernel
def kdX3_remember : List mI := [(.aload_n 0, 1, 0), (.getfield 11, 3, 0), (.iconst 0, 1, 0), (.aload_n 0, 1, 0), (.getfield 11, 3, 0), (.bipush 9, 2, 0), (.bipush 90, 2, 0), (.invokestatic 23, 3, 0), (.aload_n 0, 1, 0), (.bipush 10, 2, 0), (.aload_n 0, 1, 0), (.getfield 15, 3, 0), (.iconst 1, 1, 0), (.iadd, 1, 0), (.invokestatic 68, 3, 0), (.putfield 15, 3, 0), (.return_, 1, 0)]
theorem ok_X3_remember : okb cX3_remember 1 0 kdX3_remember = true := by decide +kernel
def kdX3_setHarm : List mI := [(.iload_n 1, 1, 0), (.ifCond .lt 17, 3, 18), (.iload_n 1, 1, 0), (.iconst 4, 1, 0), (.if_icmp .ge 12, 3, 18), (.aload_n 0, 1, 0), (.getfield 11, 3, 0), (.iconst 5, 1, 0), (.iload_n 1, 1, 0), (.iadd, 1, 0), (.iload_n 2, 1, 0), (.iastore, 1, 0), (.return_, 1, 0)]
theorem ok_X3_setHarm : okb cX3_setHarm 3 0 kdX3_setHarm = true := by decide +kernel
def kdX3_draw : List mI := [(.ldc2_w 113, 3, 0), (.iload_n 1, 1, 0), (.i2l, 1, 0), (.lmul, 1, 0), (.ldc2_w 115, 3, 0), (.iload_n 0, 1, 0), (.i2l, 1, 0), (.lmul, 1, 0), (.ladd, 1, 0), (.lconst 1, 1, 0), (.ladd, 1, 0), (.lstore_n 2, 1, 0), (.lload_n 2, 1, 0), (.lload_n 2, 1, 0), (.lmul, 1, 0), (.ldc2_w 117, 3, 0), (.lrem, 1, 0), (.ldc2_w 119, 3, 0), (.ldiv, 1, 0), (.ldc2_w 121, 3, 0), (.lrem, 1, 0), (.l2i, 1, 0), (.ireturn, 1, 0)]
theorem ok_X3_draw : okb cX3_draw 4 0 kdX3_draw = true := by decide +kernel
def kdX4_add : List mI := [(.aload_n 0, 1, 0), (.getfield 15, 3, 0), (.ifCond .lt 15, 3, 19), (.aload_n 0, 1, 0), (.getfield 15, 3, 0), (.aload_n 0, 1, 0), (.getfield 9, 3, 0), (.arraylength, 1, 0), (.if_icmp .lt 5, 3, 21), (.iconst 0, 1, 0), (.ireturn, 1, 0), (.aload_n 0, 1, 0), (.getfield 9, 3, 0), (.aload_n 0, 1, 0), (.getfield 15, 3, 0), (.iload_n 1, 1, 0), (.iastore, 1, 0), (.aload_n 0, 1, 0), (.dup, 1, 0), (.getfield 15, 3, 0), (.iconst 1, 1, 0), (.iadd, 1, 0), (.putfield 15, 3, 0), (.iconst 1, 1, 0), (.ireturn, 1, 0)]
theorem ok_X4_add : okb cX4_add 2 0 kdX4_add = true := by decide +kernel
def kdX4_readInto : List mI := [(.aload_n 0, 1, 0), (.aload_n 1, 1, 0), (.invokevirtual 44, 3, 0), (.iconst 0, 1, 0), (.istore_n 2, 1, 0), (.aload_n 0, 1, 0), (.invokevirtual 48, 3, 0), (.aload_n 0, 1, 0), (.getfield 25, 3, 0), (.ifCond .eq 187, 3, 202), (.aload_n 0, 1, 0), (.getfield 31, 3, 0), (.iconst (-1), 1, 0), (.if_icmp .ne 179, 3, 202), (.iload_n 2, 1, 0), (.sipush 150, 3, 0), (.if_icmp .ge 172, 3, 202), (.aload_n 0, 1, 0), (.getfield 25, 3, 0), (.iconst 1, 1, 0), (.if_icmp .ne 10, 3, 48), (.aload_n 0, 1, 0), (.getfield 28, 3, 0), (.goto 4, 3, 49), (.iconst 0, 1, 0), (.tableswitch 135 97 114 #[127, 95, 135, 87, 135, 135, 135, 103, 135, 135, 135, 119, 135, 135, 135, 135, 135, 111], 87, 0), (.aload_n 0, 1, 0), (.aload_n 1, 1, 0), (.invokevirtual 51, 3, 0), (.goto 51, 3, 192), (.aload_n 0, 1, 0), (.aload_n 1, 1, 0), (.invokevirtual 54, 3, 0), (.goto 43, 3, 192), (.aload_n 0, 1, 0), (.aload_n 1, 1, 0), (.invokevirtual 57, 3, 0), (.goto 35, 3, 192), (.aload_n 0, 1, 0), (.aload_n 1, 1, 0), (.invokevirtual 60, 3, 0), (.goto 27, 3, 192), (.aload_n 0, 1, 0), (.aload_n 1, 1, 0), (.invokevirtual 63, 3, 0), (.goto 19, 3, 192), (.aload_n 0, 1, 0), (.aload_n 1, 1, 0), (.invokevirtual 66, 3, 0), (.goto 11, 3, 192), (.aload_n 0, 1, 0), (.aload_n 0, 1, 0), (.getfield 22, 3, 0), (.putfield 31, 3, 0), (.iinc 2 1, 3, 0), (.aload_n 0, 1, 0), (.invokevirtual 48, 3, 0), (.goto (-188), 3, 11), (.aload_n 0, 1, 0), (.getfield 31, 3, 0), (.iconst (-1), 1, 0), (.if_icmp .ne 7, 3, 214), (.iload_n 2, 1, 0), (.goto 10, 3, 221), (.bipush (-10), 2, 0), (.aload_n 0, 1, 0), (.getfield 31, 3, 0), (.isub, 1, 0), (.ireturn, 1, 0)]
theorem ok_X4_readInto : okb cX4_readInto 3 0 kdX4_readInto = true := by decide +kernel
def kdX4_begin : List mI := [(.aload_n 1, 1, 0), (.invokevirtual 69, 3, 0), (.aload_n 0, 1, 0), (.iconst 0, 1, 0), (.putfield 19, 3, 0), (.aload_n 0, 1, 0), (.iconst (-1), 1, 0), (.putfield 31, 3, 0), (.aload_n 0, 1, 0), (.iconst 0, 1, 0), (.putfield 34, 3, 0), (.aload_n 0, 1, 0), (.iconst 0, 1, 0), (.putfield 38, 3, 0), (.aload_n 0, 1, 0), (.iconst 0, 1, 0), (.putfield 41, 3, 0), (.return_, 1, 0)]
theorem ok_X4_begin : okb cX4_begin 2 0 kdX4_begin = true := by decide +kernel
def kdX4_readDay : List mI := [(.aload_n 0, 1, 0), (.aload_n 1, 1, 0), (.getfield 74, 3, 0), (.bipush 14, 2, 0), (.if_icmp .lt 7, 3, 14), (.iconst 1, 1, 0), (.goto 4, 3, 15), (.iconst 0, 1, 0), (.invokevirtual 77, 3, 0), (.aload_n 0, 1, 0), (.iconst 0, 1, 0), (.bipush 10, 2, 0), (.invokevirtual 81, 3, 0), (.istore_n 2, 1, 0), (.aload_n 0, 1, 0), (.invokevirtual 85, 3, 0), (.ifCond .eq 8, 3, 38), (.aload_n 1, 1, 0), (.iload_n 2, 1, 0), (.invokevirtual 89, 3, 0), (.return_, 1, 0)]
theorem ok_X4_readDay : okb cX4_readDay 3 0 kdX4_readDay = true := by decide +kernel
def kdX4_readBribe : List mI := [(.aload_n 0, 1, 0), (.aload_n 1, 1, 0), (.getfield 93, 3, 0), (.bipush 6, 2, 0), (.if_icmp .lt 7, 3, 14), (.iconst 1, 1, 0), (.goto 4, 3, 15), (.iconst 0, 1, 0), (.invokevirtual 77, 3, 0), (.aload_n 0, 1, 0), (.iconst 0, 1, 0), (.bipush 13, 2, 0), (.invokevirtual 81, 3, 0), (.istore_n 2, 1, 0), (.aload_n 0, 1, 0), (.iconst 0, 1, 0), (.iconst 1, 1, 0), (.invokevirtual 81, 3, 0), (.istore_n 3, 1, 0), (.aload_n 0, 1, 0), (.iconst 0, 1, 0), (.iconst 5, 1, 0), (.invokevirtual 81, 3, 0), (.iconst 2, 1, 0), (.isub, 1, 0), (.istore 4, 2, 0), (.aload_n 0, 1, 0), (.iconst 1, 1, 0), (.bipush 20, 2, 0), (.invokevirtual 81, 3, 0), (.istore 5, 2, 0), (.aload_n 0, 1, 0), (.invokevirtual 85, 3, 0), (.ifCond .eq 13, 3, 69), (.aload_n 1, 1, 0), (.iload_n 2, 1, 0), (.iload_n 3, 1, 0), (.iload 4, 2, 0), (.iload 5, 2, 0), (.invokevirtual 96, 3, 0), (.return_, 1, 0)]
theorem ok_X4_readBribe : okb cX4_readBribe 6 0 kdX4_readBribe = true := by decide +kernel
def kdX4_readTrade : List mI := [(.aload_n 0, 1, 0), (.aload_n 1, 1, 0), (.getfield 100, 3, 0), (.iconst 4, 1, 0), (.if_icmp .lt 7, 3, 13), (.iconst 1, 1, 0), (.goto 4, 3, 14), (.iconst 0, 1, 0), (.invokevirtual 77, 3, 0), (.aload_n 0, 1, 0), (.iconst 1, 1, 0), (.bipush 9, 2, 0), (.invokevirtual 81, 3, 0), (.istore_n 2, 1, 0), (.aload_n 0, 1, 0), (.iconst 0, 1, 0), (.iconst 1, 1, 0), (.invokevirtual 81, 3, 0), (.istore_n 3, 1, 0), (.aload_n 0, 1, 0), (.invokevirtual 85, 3, 0), (.ifCond .eq 9, 3, 45), (.aload_n 1, 1, 0), (.iload_n 2, 1, 0), (.iload_n 3, 1, 0), (.invokevirtual 103, 3, 0), (.return_, 1, 0)]
theorem ok_X4_readTrade : okb cX4_readTrade 4 0 kdX4_readTrade = true := by decide +kernel
def kdX4_readRest : List mI := [(.aload_n 0, 1, 0), (.aload_n 0, 1, 0), (.getfield 34, 3, 0), (.invokevirtual 77, 3, 0), (.aload_n 0, 1, 0), (.iconst 1, 1, 0), (.bipush 60, 2, 0), (.invokevirtual 81, 3, 0), (.istore_n 2, 1, 0), (.aload_n 0, 1, 0), (.invokevirtual 85, 3, 0), (.ifCond .eq 13, 3, 33), (.aload_n 1, 1, 0), (.iload_n 2, 1, 0), (.putfield 107, 3, 0), (.aload_n 0, 1, 0), (.iconst 1, 1, 0), (.putfield 34, 3, 0), (.return_, 1, 0)]
theorem ok_X4_readRest : okb cX4_readRest 3 0 kdX4_readRest = true := by decide +kernel
def kdX4_readLimit : List mI := [(.aload_n 0, 1, 0), (.aload_n 0, 1, 0), (.getfield 38, 3, 0), (.invokevirtual 77, 3, 0), (.aload_n 0, 1, 0), (.iconst 0, 1, 0), (.bipush 6, 2, 0), (.invokevirtual 81, 3, 0), (.istore_n 2, 1, 0), (.aload_n 0, 1, 0), (.invokevirtual 85, 3, 0), (.ifCond .eq 13, 3, 33), (.aload_n 1, 1, 0), (.iload_n 2, 1, 0), (.putfield 110, 3, 0), (.aload_n 0, 1, 0), (.iconst 1, 1, 0), (.putfield 38, 3, 0), (.return_, 1, 0)]
theorem ok_X4_readLimit : okb cX4_readLimit 3 0 kdX4_readLimit = true := by decide +kernel
def kdX4_readAdded : List mI := [(.aload_n 0, 1, 0), (.aload_n 0, 1, 0), (.getfield 41, 3, 0), (.invokevirtual 77, 3, 0), (.aload_n 0, 1, 0), (.iconst 0, 1, 0), (.bipush 9, 2, 0), (.invokevirtual 81, 3, 0), (.istore_n 2, 1, 0), (.aload_n 0, 1, 0), (.invokevirtual 85, 3, 0), (.ifCond .eq 13, 3, 33), (.aload_n 1, 1, 0), (.iload_n 2, 1, 0), (.putfield 113, 3, 0), (.aload_n 0, 1, 0), (.iconst 1, 1, 0), (.putfield 41, 3, 0), (.return_, 1, 0)]
theorem ok_X4_readAdded : okb cX4_readAdded 3 0 kdX4_readAdded = true := by decide +kernel
def kdX4_refuseIf : List mI := [(.iload_n 1, 1, 0), (.ifCond .eq 11, 3, 12), (.aload_n 0, 1, 0), (.aload_n 0, 1, 0), (.getfield 22, 3, 0), (.putfield 31, 3, 0), (.return_, 1, 0)]
theorem ok_X4_refuseIf : okb cX4_refuseIf 2 0 kdX4_refuseIf = true := by decide +kernel
def kdX4_number : List mI := [(.aload_n 0, 1, 0), (.getfield 31, 3, 0), (.iconst (-1), 1, 0), (.if_icmp .eq 5, 3, 10), (.iload_n 1, 1, 0), (.ireturn, 1, 0), (.aload_n 0, 1, 0), (.invokevirtual 48, 3, 0), (.aload_n 0, 1, 0), (.aload_n 0, 1, 0), (.getfield 25, 3, 0), (.iconst 2, 1, 0), (.if_icmp .ne 19, 3, 39), (.aload_n 0, 1, 0), (.getfield 28, 3, 0), (.iload_n 1, 1, 0), (.if_icmp .lt 11, 3, 39), (.aload_n 0, 1, 0), (.getfield 28, 3, 0), (.iload_n 2, 1, 0), (.if_icmp .le 7, 3, 43), (.iconst 1, 1, 0), (.goto 4, 3, 44), (.iconst 0, 1, 0), (.invokevirtual 77, 3, 0), (.aload_n 0, 1, 0), (.getfield 28, 3, 0), (.ireturn, 1, 0)]
theorem ok_X4_number : okb cX4_number 3 0 kdX4_number = true := by decide +kernel
def kdX4_stops : List mI := [(.aload_n 0, 1, 0), (.getfield 31, 3, 0), (.iconst (-1), 1, 0), (.if_icmp .ne 24, 3, 29), (.aload_n 0, 1, 0), (.invokevirtual 48, 3, 0), (.aload_n 0, 1, 0), (.aload_n 0, 1, 0), (.getfield 25, 3, 0), (.iconst 3, 1, 0), (.if_icmp .eq 7, 3, 25), (.iconst 1, 1, 0), (.goto 4, 3, 26), (.iconst 0, 1, 0), (.invokevirtual 77, 3, 0), (.aload_n 0, 1, 0), (.getfield 31, 3, 0), (.iconst (-1), 1, 0), (.if_icmp .ne 7, 3, 41), (.iconst 1, 1, 0), (.goto 4, 3, 42), (.iconst 0, 1, 0), (.ireturn, 1, 0)]
theorem ok_X4_stops : okb cX4_stops 1 0 kdX4_stops = true := by decide +kernel
def kdX4_nextToken : List mI := [(.aload_n 0, 1, 0), (.getfield 19, 3, 0), (.aload_n 0, 1, 0), (.getfield 15, 3, 0), (.if_icmp .ge 29, 3, 37), (.aload_n 0, 1, 0), (.aload_n 0, 1, 0), (.getfield 19, 3, 0), (.invokevirtual 116, 3, 0), (.bipush 32, 2, 0), (.if_icmp .ne 16, 3, 37), (.aload_n 0, 1, 0), (.dup, 1, 0), (.getfield 19, 3, 0), (.iconst 1, 1, 0), (.iadd, 1, 0), (.putfield 19, 3, 0), (.goto (-34), 3, 0), (.aload_n 0, 1, 0), (.aload_n 0, 1, 0), (.getfield 19, 3, 0), (.putfield 22, 3, 0), (.aload_n 0, 1, 0), (.aload_n 0, 1, 0), (.getfield 19, 3, 0), (.invokevirtual 116, 3, 0), (.istore_n 1, 1, 0), (.iload_n 1, 1, 0), (.ifCond .ge 11, 3, 66), (.aload_n 0, 1, 0), (.iconst 0, 1, 0), (.putfield 25, 3, 0), (.goto 58, 3, 121), (.iload_n 1, 1, 0), (.invokestatic 120, 3, 0), (.ifCond .eq 11, 3, 81), (.aload_n 0, 1, 0), (.iload_n 1, 1, 0), (.invokevirtual 124, 3, 0), (.goto 43, 3, 121), (.iload_n 1, 1, 0), (.invokestatic 127, 3, 0), (.ifCond .eq 11, 3, 96), (.aload_n 0, 1, 0), (.iload_n 1, 1, 0), (.invokevirtual 130, 3, 0), (.goto 28, 3, 121), (.aload_n 0, 1, 0), (.iload_n 1, 1, 0), (.bipush 59, 2, 0), (.if_icmp .ne 7, 3, 107), (.iconst 3, 1, 0), (.goto 4, 3, 108), (.iconst 4, 1, 0), (.putfield 25, 3, 0), (.aload_n 0, 1, 0), (.dup, 1, 0), (.getfield 19, 3, 0), (.iconst 1, 1, 0), (.iadd, 1, 0), (.putfield 19, 3, 0), (.return_, 1, 0)]
theorem ok_X4_nextToken : okb cX4_nextToken 2 0 kdX4_nextToken = true := by decide +kernel
def kdX4_takeLetters : List mI := [(.aload_n 0, 1, 0), (.getfield 19, 3, 0), (.aload_n 0, 1, 0), (.getfield 15, 3, 0), (.if_icmp .ge 30, 3, 38), (.aload_n 0, 1, 0), (.aload_n 0, 1, 0), (.getfield 19, 3, 0), (.invokevirtual 116, 3, 0), (.invokestatic 120, 3, 0), (.ifCond .eq 16, 3, 38), (.aload_n 0, 1, 0), (.dup, 1, 0), (.getfield 19, 3, 0), (.iconst 1, 1, 0), (.iadd, 1, 0), (.putfield 19, 3, 0), (.goto (-35), 3, 0), (.aload_n 0, 1, 0), (.iconst 1, 1, 0), (.putfield 25, 3, 0), (.aload_n 0, 1, 0), (.aload_n 0, 1, 0), (.getfield 19, 3, 0), (.aload_n 0, 1, 0), (.getfield 22, 3, 0), (.isub, 1, 0), (.iconst 1, 1, 0), (.if_icmp .ne 7, 3, 61), (.iload_n 1, 1, 0), (.goto 4, 3, 62), (.iconst 0, 1, 0), (.putfield 28, 3, 0), (.return_, 1, 0)]
theorem ok_X4_takeLetters : okb cX4_takeLetters 2 0 kdX4_takeLetters = true := by decide +kernel
def kdX4_takeNumber : List mI := [(.aload_n 0, 1, 0), (.iconst 0, 1, 0), (.putfield 28, 3, 0), (.aload_n 0, 1, 0), (.getfield 19, 3, 0), (.aload_n 0, 1, 0), (.getfield 15, 3, 0), (.if_icmp .ge 58, 3, 71), (.aload_n 0, 1, 0), (.aload_n 0, 1, 0), (.getfield 19, 3, 0), (.invokevirtual 116, 3, 0), (.invokestatic 127, 3, 0), (.ifCond .eq 44, 3, 71), (.aload_n 0, 1, 0), (.bipush 100, 2, 0), (.bipush 10, 2, 0), (.aload_n 0, 1, 0), (.getfield 28, 3, 0), (.imul, 1, 0), (.aload_n 0, 1, 0), (.aload_n 0, 1, 0), (.getfield 19, 3, 0), (.invokevirtual 116, 3, 0), (.iadd, 1, 0), (.bipush 48, 2, 0), (.isub, 1, 0), (.invokestatic 133, 3, 0), (.putfield 28, 3, 0), (.aload_n 0, 1, 0), (.dup, 1, 0), (.getfield 19, 3, 0), (.iconst 1, 1, 0), (.iadd, 1, 0), (.putfield 19, 3, 0), (.goto (-63), 3, 5), (.iload_n 1, 1, 0), (.bipush 48, 2, 0), (.if_icmp .ne 20, 3, 94), (.aload_n 0, 1, 0), (.getfield 19, 3, 0), (.aload_n 0, 1, 0), (.getfield 22, 3, 0), (.isub, 1, 0), (.iconst 1, 1, 0), (.if_icmp .le 7, 3, 94), (.iconst 1, 1, 0), (.goto 4, 3, 95), (.iconst 0, 1, 0), (.istore_n 2, 1, 0), (.aload_n 0, 1, 0), (.aload_n 0, 1, 0), (.getfield 28, 3, 0), (.bipush 99, 2, 0), (.if_icmp .gt 7, 3, 110), (.iload_n 2, 1, 0), (.ifCond .eq 7, 3, 114), (.iconst 4, 1, 0), (.goto 4, 3, 115), (.iconst 2, 1, 0), (.putfield 25, 3, 0), (.return_, 1, 0)]
theorem ok_X4_takeNumber : okb cX4_takeNumber 3 0 kdX4_takeNumber = true := by decide +kernel
def kdX4_byteAt : List mI := [(.iload_n 1, 1, 0), (.ifCond .lt 29, 3, 30), (.iload_n 1, 1, 0), (.aload_n 0, 1, 0), (.getfield 15, 3, 0), (.if_icmp .ge 21, 3, 30), (.iload_n 1, 1, 0), (.aload_n 0, 1, 0), (.getfield 9, 3, 0), (.arraylength, 1, 0), (.if_icmp .ge 12, 3, 30), (.aload_n 0, 1, 0), (.getfield 9, 3, 0), (.iload_n 1, 1, 0), (.iaload, 1, 0), (.goto 4, 3, 31), (.iconst (-1), 1, 0), (.ireturn, 1, 0)]
theorem ok_X4_byteAt : okb cX4_byteAt 2 0 kdX4_byteAt = true := by decide +kernel
end
section
/-! the methods, instruction by instruction -/
def kdX4_isLetter : List mI := [(.iload_n 0, 1, 0), (.bipush 97, 2, 0), (.if_icmp .lt 13, 3, 16), (.iload_n 0, 1, 0), (.bipush 122, 2, 0), (.if_icmp .gt 7, 3, 16), (.iconst 1, 1, 0), (.goto 4, 3, 17), (.iconst 0, 1, 0), (.ireturn, 1, 0)]
theorem ok_X4_isLetter : okb cX4_isLetter 1 0 kdX4_isLetter = true := by decide +kernel
def kdX4_isDigit : List mI := [(.iload_n 0, 1, 0), (.bipush 48, 2, 0), (.if_icmp .lt 13, 3, 16), (.iload_n 0, 1, 0), (.bipush 57, 2, 0), (.if_icmp .gt 7, 3, 16), (.iconst 1, 1, 0), (.goto 4, 3, 17), (.iconst 0, 1, 0), (.ireturn, 1, 0)]
theorem ok_X4_isDigit : okb cX4_isDigit 1 0 kdX4_isDigit = true := by decide +kernel
def kdX5_wipe : List mI := [(.aload_n 0, 1, 0), (.iconst 0, 1, 0), (.putfield 24, 3, 0), (.aload_n 0, 1, 0), (.iconst 0, 1, 0), (.putfield 28, 3, 0), (.aload_n 0, 1, 0), (.iconst 0, 1, 0), (.putfield 31, 3, 0), (.aload_n 0, 1, 0), (.bipush 20, 2, 0), (.putfield 34, 3, 0), (.aload_n 0, 1, 0), (.iconst 2, 1, 0), (.putfield 37, 3, 0), (.aload_n 0, 1, 0), (.iconst 3, 1, 0), (.putfield 40, 3, 0), (.return_, 1, 0)]
theorem ok_X5_wipe : okb cX5_wipe 1 0 kdX5_wipe = true := by decide +kernel
def kdX5_hasTrade : List mI := [(.iload_n 1, 1, 0), (.ifCond .lt 15, 3, 16), (.iload_n 1, 1, 0), (.aload_n 0, 1, 0), (.getfield 31, 3, 0), (.if_icmp .ge 7, 3, 16), (.iconst 1, 1, 0), (.goto 4, 3, 17), (.iconst 0, 1, 0), (.ireturn, 1, 0)]
theorem ok_X5_hasTrade : okb cX5_hasTrade 2 0 kdX5_hasTrade = true := by decide +kernel
def kdX5_sunOf : List mI := [(.iload_n 1, 1, 0), (.ifCond .lt 29, 3, 30), (.iload_n 1, 1, 0), (.aload_n 0, 1, 0), (.getfield 24, 3, 0), (.if_icmp .ge 21, 3, 30), (.iload_n 1, 1, 0), (.aload_n 0, 1, 0), (.getfield 9, 3, 0), (.arraylength, 1, 0), (.if_icmp .ge 12, 3, 30), (.aload_n 0, 1, 0), (.getfield 9, 3, 0), (.iload_n 1, 1, 0), (.iaload, 1, 0), (.goto 4, 3, 31), (.iconst (-1), 1, 0), (.ireturn, 1, 0)]
theorem ok_X5_sunOf : okb cX5_sunOf 2 0 kdX5_sunOf = true := by decide +kernel
def kdX5_ofBribe : List mI := [(.iconst 4, 1, 0), (.iload_n 1, 1, 0), (.imul, 1, 0), (.iload_n 2, 1, 0), (.iadd, 1, 0), (.istore_n 3, 1, 0), (.iload_n 3, 1, 0), (.ifCond .lt 21, 3, 28), (.iload_n 3, 1, 0), (.aload_n 0, 1, 0), (.getfield 15, 3, 0), (.arraylength, 1, 0), (.if_icmp .ge 12, 3, 28), (.aload_n 0, 1, 0), (.getfield 15, 3, 0), (.iload_n 3, 1, 0), (.iaload, 1, 0), (.goto 5, 3, 30), (.ldc 43, 2, 0), (.ireturn, 1, 0)]
theorem ok_X5_ofBribe : okb cX5_ofBribe 4 0 kdX5_ofBribe = true := by decide +kernel
def kdX5_ofTrade : List mI := [(.iconst 2, 1, 0), (.iload_n 1, 1, 0), (.imul, 1, 0), (.iload_n 2, 1, 0), (.iadd, 1, 0), (.istore_n 3, 1, 0), (.iload_n 3, 1, 0), (.ifCond .lt 21, 3, 28), (.iload_n 3, 1, 0), (.aload_n 0, 1, 0), (.getfield 18, 3, 0), (.arraylength, 1, 0), (.if_icmp .ge 12, 3, 28), (.aload_n 0, 1, 0), (.getfield 18, 3, 0), (.iload_n 3, 1, 0), (.iaload, 1, 0), (.goto 4, 3, 29), (.iconst (-1), 1, 0), (.ireturn, 1, 0)]
theorem ok_X5_ofTrade : okb cX5_ofTrade 4 0 kdX5_ofTrade = true := by decide +kernel
def kdX5_addDay : List mI := [(.aload_n 0, 1, 0), (.getfield 24, 3, 0), (.ifCond .lt 35, 3, 39), (.aload_n 0, 1, 0), (.getfield 24, 3, 0), (.aload_n 0, 1, 0), (.getfield 9, 3, 0), (.arraylength, 1, 0), (.if_icmp .ge 23, 3, 39), (.aload_n 0, 1, 0), (.getfield 9, 3, 0), (.aload_n 0, 1, 0), (.getfield 24, 3, 0), (.iload_n 1, 1, 0), (.iastore, 1, 0), (.aload_n 0, 1, 0), (.dup, 1, 0), (.getfield 24, 3, 0), (.iconst 1, 1, 0), (.iadd, 1, 0), (.putfield 24, 3, 0), (.return_, 1, 0)]
theorem ok_X5_addDay : okb cX5_addDay 2 0 kdX5_addDay = true := by decide +kernel
def kdX5_addBribe : List mI := [(.iconst 4, 1, 0), (.aload_n 0, 1, 0), (.getfield 28, 3, 0), (.imul, 1, 0), (.istore 5, 2, 0), (.iload 5, 2, 0), (.ifCond .lt 64, 3, 74), (.iload 5, 2, 0), (.iconst 3, 1, 0), (.iadd, 1, 0), (.aload_n 0, 1, 0), (.getfield 15, 3, 0), (.arraylength, 1, 0), (.if_icmp .ge 52, 3, 74), (.aload_n 0, 1, 0), (.getfield 15, 3, 0), (.iload 5, 2, 0), (.iload_n 1, 1, 0), (.iastore, 1, 0), (.aload_n 0, 1, 0), (.getfield 15, 3, 0), (.iload 5, 2, 0), (.iconst 1, 1, 0), (.iadd, 1, 0), (.iload_n 2, 1, 0), (.iastore, 1, 0), (.aload_n 0, 1, 0), (.getfield 15, 3, 0), (.iload 5, 2, 0), (.iconst 2, 1, 0), (.iadd, 1, 0), (.iload_n 3, 1, 0), (.iastore, 1, 0), (.aload_n 0, 1, 0), (.getfield 15, 3, 0), (.iload 5, 2, 0), (.iconst 3, 1, 0), (.iadd, 1, 0), (.iload 4, 2, 0), (.iastore, 1, 0), (.aload_n 0, 1, 0), (.dup, 1, 0), (.getfield 28, 3, 0), (.iconst 1, 1, 0), (.iadd, 1, 0), (.putfield 28, 3, 0), (.return_, 1, 0)]
theorem ok_X5_addBribe : okb cX5_addBribe 6 0 kdX5_addBribe = true := by decide +kernel
def kdX5_addTrade : List mI := [(.iconst 2, 1, 0), (.aload_n 0, 1, 0), (.getfield 31, 3, 0), (.imul, 1, 0), (.istore_n 3, 1, 0), (.iload_n 3, 1, 0), (.ifCond .lt 40, 3, 48), (.iload_n 3, 1, 0), (.iconst 1, 1, 0), (.iadd, 1, 0), (.aload_n 0, 1, 0), (.getfield 18, 3, 0), (.arraylength, 1, 0), (.if_icmp .ge 29, 3, 48), (.aload_n 0, 1, 0), (.getfield 18, 3, 0), (.iload_n 3, 1, 0), (.iload_n 1, 1, 0), (.iastore, 1, 0), (.aload_n 0, 1, 0), (.getfield 18, 3, 0), (.iload_n 3, 1, 0), (.iconst 1, 1, 0), (.iadd, 1, 0), (.iload_n 2, 1, 0), (.iastore, 1, 0), (.aload_n 0, 1, 0), (.dup, 1, 0), (.getfield 31, 3, 0), (.iconst 1, 1, 0), (.iadd, 1, 0), (.putfield 31, 3, 0), (.return_, 1, 0)]
theorem ok_X5_addTrade : okb cX5_addTrade 4 0 kdX5_addTrade = true := by decide +kernel
def kdX5_candlesFor : List mI := [(.iconst 0, 1, 0), (.istore_n 3, 1, 0), (.iconst 0, 1, 0), (.istore 4, 2, 0), (.iload 4, 2, 0), (.aload_n 0, 1, 0), (.getfield 28, 3, 0), (.if_icmp .ge 81, 3, 92), (.aload_n 0, 1, 0), (.iload 4, 2, 0), (.iconst 2, 1, 0), (.invokevirtual 44, 3, 0), (.istore 5, 2, 0), (.aload_n 0, 1, 0), (.iload 4, 2, 0), (.iconst 1, 1, 0), (.invokevirtual 44, 3, 0), (.ifCond .ne 17, 3, 47), (.iload_n 2, 1, 0), (.iload 5, 2, 0), (.if_icmp .gt 7, 3, 43), (.iconst 1, 1, 0), (.goto 18, 3, 58), (.iconst 0, 1, 0), (.goto 14, 3, 58), (.iload_n 2, 1, 0), (.iload 5, 2, 0), (.if_icmp .lt 7, 3, 57), (.iconst 1, 1, 0), (.goto 4, 3, 58), (.iconst 0, 1, 0), (.istore 6, 2, 0), (.aload_n 0, 1, 0), (.iload 4, 2, 0), (.iconst 0, 1, 0), (.invokevirtual 44, 3, 0), (.iload_n 1, 1, 0), (.if_icmp .ne 18, 3, 86), (.iload 6, 2, 0), (.ifCond .eq 13, 3, 86), (.iload_n 3, 1, 0), (.aload_n 0, 1, 0), (.iload 4, 2, 0), (.iconst 3, 1, 0), (.invokevirtual 44, 3, 0), (.iadd, 1, 0), (.istore_n 3, 1, 0), (.iinc 4 1, 3, 0), (.goto (-84), 3, 5), (.iload_n 3, 1, 0), (.ireturn, 1, 0)]
theorem ok_X5_candlesFor : okb cX5_candlesFor 7 0 kdX5_candlesFor = true := by decide +kernel
def kdX5_harmTo : List mI := [(.aload_n 0, 1, 0), (.iload_n 1, 1, 0), (.iconst 1, 1, 0), (.invokevirtual 48, 3, 0), (.ifCond .ne 8, 3, 14), (.iload_n 2, 1, 0), (.ineg, 1, 0), (.goto 4, 3, 15), (.iload_n 2, 1, 0), (.istore_n 3, 1, 0), (.iload_n 3, 1, 0), (.ifCond .le 14, 3, 31), (.aload_n 0, 1, 0), (.iload_n 1, 1, 0), (.iconst 0, 1, 0), (.invokevirtual 48, 3, 0), (.iload_n 3, 1, 0), (.imul, 1, 0), (.goto 4, 3, 32), (.iconst 0, 1, 0), (.ireturn, 1, 0)]
theorem ok_X5_harmTo : okb cX5_harmTo 4 0 kdX5_harmTo = true := by decide +kernel
def kdX5_harmToAll : List mI := [(.iconst 0, 1, 0), (.istore_n 2, 1, 0), (.iconst 0, 1, 0), (.istore_n 3, 1, 0), (.iload_n 3, 1, 0), (.aload_n 0, 1, 0), (.getfield 31, 3, 0), (.if_icmp .ge 18, 3, 27), (.iload_n 2, 1, 0), (.aload_n 0, 1, 0), (.iload_n 3, 1, 0), (.iload_n 1, 1, 0), (.invokevirtual 51, 3, 0), (.iadd, 1, 0), (.istore_n 2, 1, 0), (.iinc 3 1, 3, 0), (.goto (-20), 3, 4), (.iload_n 2, 1, 0), (.ireturn, 1, 0)]
theorem ok_X5_harmToAll : okb cX5_harmToAll 4 0 kdX5_harmToAll = true := by decide +kernel
def kdX6_type : List mI := [(.iload_n 1, 1, 0), (.ifCond .lt 10, 3, 11), (.iload_n 1, 1, 0), (.sipush 255, 3, 0), (.if_icmp .le 5, 3, 13), (.iconst (-1), 1, 0), (.ireturn, 1, 0), (.aload_n 0, 1, 0), (.getfield 10, 3, 0), (.iload_n 1, 1, 0), (.invokevirtual 72, 3, 0), (.ifCond .eq 13, 3, 34), (.aload_n 0, 1, 0), (.getfield 10, 3, 0), (.getfield 76, 3, 0), (.goto 5, 3, 36), (.bipush (-3), 2, 0), (.ireturn, 1, 0)]
theorem ok_X6_type : okb cX6_type 2 0 kdX6_type = true := by decide +kernel
def kdX6_clear : List mI := [(.aload_n 0, 1, 0), (.getfield 10, 3, 0), (.getfield 76, 3, 0), (.istore_n 1, 1, 0), (.aload_n 0, 1, 0), (.getfield 10, 3, 0), (.iconst 0, 1, 0), (.putfield 76, 3, 0), (.iload_n 1, 1, 0), (.ireturn, 1, 0)]
theorem ok_X6_clear : okb cX6_clear 2 0 kdX6_clear = true := by decide +kernel
def kdX6_sentence : List mI := [(.aload_n 0, 1, 0), (.getfield 10, 3, 0), (.aload_n 0, 1, 0), (.getfield 23, 3, 0), (.invokevirtual 79, 3, 0), (.istore_n 1, 1, 0), (.iload_n 1, 1, 0), (.ifCond .ge 5, 3, 18), (.iload_n 1, 1, 0), (.ireturn, 1, 0), (.aload_n 0, 1, 0), (.getfield 19, 3, 0), (.astore_n 2, 1, 0), (.aload_n 0, 1, 0), (.aload_n 0, 1, 0), (.getfield 23, 3, 0), (.putfield 19, 3, 0), (.aload_n 0, 1, 0), (.aload_n 2, 1, 0), (.putfield 23, 3, 0), (.aload_n 0, 1, 0), (.getfield 10, 3, 0), (.iconst 0, 1, 0), (.putfield 76, 3, 0), (.aload_n 0, 1, 0), (.getfield 29, 3, 0), (.aload_n 0, 1, 0), (.getfield 19, 3, 0), (.getfield 64, 3, 0), (.invokevirtual 68, 3, 0), (.aload_n 0, 1, 0), (.getfield 33, 3, 0), (.iconst 0, 1, 0), (.putfield 83, 3, 0), (.aload_n 0, 1, 0), (.getfield 36, 3, 0), (.iconst 0, 1, 0), (.putfield 83, 3, 0), (.aload_n 0, 1, 0), (.getfield 56, 3, 0), (.invokevirtual 87, 3, 0), (.iload_n 1, 1, 0), (.ireturn, 1, 0)]
theorem ok_X6_sentence : okb cX6_sentence 3 0 kdX6_sentence = true := by decide +kernel
def kdX6_sun : List mI := [(.aload_n 0, 1, 0), (.getfield 19, 3, 0), (.iload_n 1, 1, 0), (.invokevirtual 90, 3, 0), (.ireturn, 1, 0)]
theorem ok_X6_sun : okb cX6_sun 2 0 kdX6_sun = true := by decide +kernel
def kdX6_bribe : List mI := [(.iload_n 1, 1, 0), (.ifCond .lt 23, 3, 24), (.iload_n 1, 1, 0), (.aload_n 0, 1, 0), (.getfield 19, 3, 0), (.getfield 94, 3, 0), (.if_icmp .ge 12, 3, 24), (.iload_n 2, 1, 0), (.ifCond .lt 8, 3, 24), (.iload_n 2, 1, 0), (.iconst 3, 1, 0), (.if_icmp .le 6, 3, 27), (.ldc 97, 2, 0), (.ireturn, 1, 0), (.aload_n 0, 1, 0), (.getfield 19, 3, 0), (.iload_n 1, 1, 0), (.iload_n 2, 1, 0), (.invokevirtual 98, 3, 0), (.ireturn, 1, 0)]
theorem ok_X6_bribe : okb cX6_bribe 3 0 kdX6_bribe = true := by decide +kernel
def kdX6_trade : List mI := [(.aload_n 0, 1, 0), (.getfield 19, 3, 0), (.iload_n 1, 1, 0), (.invokevirtual 102, 3, 0), (.ifCond .eq 12, 3, 20), (.iload_n 2, 1, 0), (.ifCond .lt 8, 3, 20), (.iload_n 2, 1, 0), (.iconst 2, 1, 0), (.if_icmp .le 5, 3, 22), (.iconst (-1), 1, 0), (.ireturn, 1, 0), (.iload_n 2, 1, 0), (.iconst 2, 1, 0), (.if_icmp .ne 14, 3, 38), (.aload_n 0, 1, 0), (.getfield 29, 3, 0), (.iload_n 1, 1, 0), (.invokevirtual 105, 3, 0), (.goto 12, 3, 47), (.aload_n 0, 1, 0), (.getfield 19, 3, 0), (.iload_n 1, 1, 0), (.iload_n 2, 1, 0), (.invokevirtual 108, 3, 0), (.ireturn, 1, 0)]
theorem ok_X6_trade : okb cX6_trade 3 0 kdX6_trade = true := by decide +kernel
def kdX6_winds : List mI := [(.iload_n 1, 1, 0), (.invokestatic 111, 3, 0), (.ifCond .eq 14, 3, 18), (.iload_n 2, 1, 0), (.ifCond .lt 10, 3, 18), (.iload_n 2, 1, 0), (.sipush 9999, 3, 0), (.if_icmp .le 5, 3, 20), (.iconst (-1), 1, 0), (.ireturn, 1, 0), (.aload_n 0, 1, 0), (.getfield 29, 3, 0), (.aload_n 0, 1, 0), (.getfield 19, 3, 0), (.invokevirtual 114, 3, 0), (.ifCond .ne 18, 3, 49), (.aload_n 0, 1, 0), (.getfield 29, 3, 0), (.invokevirtual 118, 3, 0), (.iload_n 1, 1, 0), (.iadd, 1, 0), (.invokestatic 122, 3, 0), (.ifCond .eq 6, 3, 52), (.bipush (-2), 2, 0), (.ireturn, 1, 0), (.aload_n 0, 1, 0), (.getfield 29, 3, 0), (.aload_n 0, 1, 0), (.getfield 19, 3, 0), (.iload_n 1, 1, 0), (.iload_n 2, 1, 0), (.invokevirtual 125, 3, 0), (.ireturn, 1, 0)]
theorem ok_X6_winds : okb cX6_winds 3 0 kdX6_winds = true := by decide +kernel
def kdX6_watches : List mI := [(.aload_n 0, 1, 0), (.getfield 29, 3, 0), (.aload_n 0, 1, 0), (.getfield 19, 3, 0), (.invokevirtual 114, 3, 0), (.ifCond .eq 8, 3, 19), (.bipush (-2), 2, 0), (.goto 14, 3, 30), (.aload_n 0, 1, 0), (.getfield 29, 3, 0), (.aload_n 0, 1, 0), (.getfield 19, 3, 0), (.invokevirtual 129, 3, 0), (.ireturn, 1, 0)]
theorem ok_X6_watches : okb cX6_watches 1 0 kdX6_watches = true := by decide +kernel
def kdX6_pays : List mI := [(.aload_n 0, 1, 0), (.getfield 19, 3, 0), (.iload_n 1, 1, 0), (.invokevirtual 102, 3, 0), (.ifCond .eq 14, 3, 22), (.iload_n 2, 1, 0), (.iconst 1, 1, 0), (.if_icmp .lt 9, 3, 22), (.iload_n 2, 1, 0), (.bipush 99, 2, 0), (.if_icmp .le 5, 3, 24), (.iconst (-1), 1, 0), (.ireturn, 1, 0), (.aload_n 0, 1, 0), (.getfield 29, 3, 0), (.invokevirtual 132, 3, 0), (.iload_n 2, 1, 0), (.if_icmp .ge 8, 3, 40), (.bipush (-2), 2, 0), (.goto 12, 3, 49), (.aload_n 0, 1, 0), (.getfield 29, 3, 0), (.iload_n 1, 1, 0), (.iload_n 2, 1, 0), (.invokevirtual 135, 3, 0), (.ireturn, 1, 0)]
theorem ok_X6_pays : okb cX6_pays 3 0 kdX6_pays = true := by decide +kernel
def kdX6_corrects : List mI := [(.iload_n 1, 1, 0), (.bipush (-9), 2, 0), (.if_icmp .lt 13, 3, 16), (.iload_n 1, 1, 0), (.bipush 9, 2, 0), (.if_icmp .gt 7, 3, 16), (.iload_n 1, 1, 0), (.ifCond .ne 6, 3, 19), (.ldc 97, 2, 0), (.ireturn, 1, 0), (.aload_n 0, 1, 0), (.getfield 29, 3, 0), (.aload_n 0, 1, 0), (.getfield 19, 3, 0), (.invokevirtual 114, 3, 0), (.ifCond .ne 18, 3, 48), (.aload_n 0, 1, 0), (.getfield 29, 3, 0), (.invokevirtual 118, 3, 0), (.iload_n 1, 1, 0), (.iadd, 1, 0), (.invokestatic 122, 3, 0), (.ifCond .eq 6, 3, 51), (.ldc 97, 2, 0), (.ireturn, 1, 0), (.aload_n 0, 1, 0), (.getfield 29, 3, 0), (.iload_n 1, 1, 0), (.invokevirtual 138, 3, 0), (.ireturn, 1, 0)]
theorem ok_X6_corrects : okb cX6_corrects 2 0 kdX6_corrects = true := by decide +kernel
def kdX6_undo : List mI := [(.aload_n 0, 1, 0), (.getfield 29, 3, 0), (.invokevirtual 141, 3, 0), (.ifCond .eq 13, 3, 20), (.aload_n 0, 1, 0), (.getfield 29, 3, 0), (.getfield 145, 3, 0), (.goto 5, 3, 22), (.bipush (-2), 2, 0), (.ireturn, 1, 0)]
theorem ok_X6_undo : okb cX6_undo 1 0 kdX6_undo = true := by decide +kernel
def kdX6_now : List mI := [(.iload_n 1, 1, 0), (.tableswitch 131 0 7 #[47, 55, 63, 71, 79, 87, 95, 115], 47, 0), (.aload_n 0, 1, 0), (.getfield 29, 3, 0), (.invokevirtual 148, 3, 0), (.ireturn, 1, 0), (.aload_n 0, 1, 0), (.getfield 29, 3, 0), (.invokevirtual 151, 3, 0), (.ireturn, 1, 0), (.aload_n 0, 1, 0), (.getfield 29, 3, 0), (.invokevirtual 118, 3, 0), (.ireturn, 1, 0), (.aload_n 0, 1, 0), (.getfield 29, 3, 0), (.invokevirtual 132, 3, 0), (.ireturn, 1, 0), (.aload_n 0, 1, 0), (.getfield 29, 3, 0), (.invokevirtual 153, 3, 0), (.ireturn, 1, 0), (.aload_n 0, 1, 0), (.getfield 29, 3, 0), (.invokevirtual 156, 3, 0), (.ireturn, 1, 0), (.aload_n 0, 1, 0), (.getfield 29, 3, 0), (.aload_n 0, 1, 0), (.getfield 19, 3, 0), (.invokevirtual 159, 3, 0), (.ifCond .eq 7, 3, 114), (.iconst 1, 1, 0), (.goto 4, 3, 115), (.iconst 0, 1, 0), (.ireturn, 1, 0), (.aload_n 0, 1, 0), (.getfield 29, 3, 0), (.invokevirtual 162, 3, 0), (.ifCond .eq 7, 3, 130), (.iconst 1, 1, 0), (.goto 4, 3, 131), (.iconst 0, 1, 0), (.ireturn, 1, 0), (.ldc 97, 2, 0), (.ireturn, 1, 0)]
theorem ok_X6_now : okb cX6_now 2 0 kdX6_now = true := by decide +kernel
def kdX6_soonest : List mI := [(.aload_n 0, 1, 0), (.getfield 29, 3, 0), (.aload_n 0, 1, 0), (.getfield 19, 3, 0), (.invokevirtual 165, 3, 0), (.ireturn, 1, 0)]
theorem ok_X6_soonest : okb cX6_soonest 1 0 kdX6_soonest = true := by decide +kernel
def kdX6_chance : List mI := [(.iload_n 1, 1, 0), (.ifCond .lt 18, 3, 19), (.iload_n 1, 1, 0), (.bipush 8, 2, 0), (.if_icmp .gt 12, 3, 19), (.iload_n 2, 1, 0), (.ifCond .lt 8, 3, 19), (.iload_n 2, 1, 0), (.iconst 2, 1, 0), (.if_icmp .le 6, 3, 22), (.ldc 97, 2, 0), (.ireturn, 1, 0), (.aload_n 0, 1, 0), (.getfield 49, 3, 0), (.aload_n 0, 1, 0), (.getfield 19, 3, 0), (.aload_n 0, 1, 0), (.getfield 29, 3, 0), (.iload_n 1, 1, 0), (.invokevirtual 168, 3, 0), (.iload_n 2, 1, 0), (.iconst 2, 1, 0), (.if_icmp .ne 11, 3, 51), (.aload_n 0, 1, 0), (.getfield 49, 3, 0), (.getfield 172, 3, 0), (.ireturn, 1, 0), (.iload_n 2, 1, 0), (.ifCond .ne 13, 3, 65), (.aload_n 0, 1, 0), (.getfield 49, 3, 0), (.getfield 175, 3, 0), (.goto 10, 3, 72), (.aload_n 0, 1, 0), (.getfield 49, 3, 0), (.getfield 178, 3, 0), (.ireturn, 1, 0)]
theorem ok_X6_chance : okb cX6_chance 3 0 kdX6_chance = true := by decide +kernel
def kdX6_safe : List mI := [(.iload_n 1, 1, 0), (.ifCond .lt 8, 3, 9), (.iload_n 1, 1, 0), (.iconst 1, 1, 0), (.if_icmp .le 6, 3, 12), (.ldc 97, 2, 0), (.ireturn, 1, 0), (.aload_n 0, 1, 0), (.getfield 42, 3, 0), (.aload_n 0, 1, 0), (.getfield 19, 3, 0), (.aload_n 0, 1, 0), (.getfield 29, 3, 0), (.invokevirtual 181, 3, 0), (.iload_n 1, 1, 0), (.iconst 1, 1, 0), (.if_icmp .ne 11, 3, 40), (.aload_n 0, 1, 0), (.getfield 42, 3, 0), (.getfield 185, 3, 0), (.ireturn, 1, 0), (.aload_n 0, 1, 0), (.getfield 42, 3, 0), (.getfield 186, 3, 0), (.ldc 97, 2, 0), (.if_icmp .gt 8, 3, 57), (.bipush (-9), 2, 0), (.goto 10, 3, 64), (.aload_n 0, 1, 0), (.getfield 42, 3, 0), (.getfield 186, 3, 0), (.ireturn, 1, 0)]
theorem ok_X6_safe : okb cX6_safe 2 0 kdX6_safe = true := by decide +kernel
def kdX6_least : List mI := [(.iload_n 1, 1, 0), (.ifCond .lt 18, 3, 19), (.iload_n 1, 1, 0), (.bipush 14, 2, 0), (.if_icmp .gt 12, 3, 19), (.iload_n 2, 1, 0), (.ifCond .lt 8, 3, 19), (.iload_n 2, 1, 0), (.iconst 1, 1, 0), (.if_icmp .le 6, 3, 22), (.ldc 97, 2, 0), (.ireturn, 1, 0), (.aload_n 0, 1, 0), (.getfield 42, 3, 0), (.aload_n 0, 1, 0), (.getfield 19, 3, 0), (.aload_n 0, 1, 0), (.getfield 29, 3, 0), (.iload_n 1, 1, 0), (.invokevirtual 189, 3, 0), (.iload_n 2, 1, 0), (.iconst 1, 1, 0), (.if_icmp .ne 11, 3, 51), (.aload_n 0, 1, 0), (.getfield 42, 3, 0), (.getfield 185, 3, 0), (.ireturn, 1, 0), (.aload_n 0, 1, 0), (.getfield 42, 3, 0), (.getfield 186, 3, 0), (.ldc 97, 2, 0), (.if_icmp .gt 8, 3, 68), (.bipush (-9), 2, 0), (.goto 11, 3, 76), (.aload_n 0, 1, 0), (.getfield 42, 3, 0), (.getfield 186, 3, 0), (.ineg, 1, 0), (.ireturn, 1, 0)]
theorem ok_X6_least : okb cX6_least 3 0 kdX6_least = true := by decide +kernel
def kdX6_catches : List mI := [(.iload_n 1, 1, 0), (.invokestatic 111, 3, 0), (.ifCond .eq 18, 3, 22), (.aload_n 0, 1, 0), (.getfield 29, 3, 0), (.aload_n 0, 1, 0), (.getfield 19, 3, 0), (.iload_n 1, 1, 0), (.invokevirtual 192, 3, 0), (.goto 4, 3, 23), (.iconst (-1), 1, 0), (.ireturn, 1, 0)]
theorem ok_X6_catches : okb cX6_catches 2 0 kdX6_catches = true := by decide +kernel
def kdX6_hears : List mI := [(.iload_n 1, 1, 0), (.ifCond .lt 25, 3, 26), (.iload_n 1, 1, 0), (.bipush 14, 2, 0), (.if_icmp .ge 19, 3, 26), (.iload_n 2, 1, 0), (.invokestatic 122, 3, 0), (.ifCond .ne 12, 3, 26), (.iload_n 3, 1, 0), (.ifCond .lt 8, 3, 26), (.iload_n 3, 1, 0), (.iconst 3, 1, 0), (.if_icmp .le 5, 3, 28), (.iconst (-1), 1, 0), (.ireturn, 1, 0), (.aload_n 0, 1, 0), (.getfield 56, 3, 0), (.iload_n 1, 1, 0), (.iload_n 2, 1, 0), (.iload_n 3, 1, 0), (.invokevirtual 196, 3, 0), (.ifCond .eq 13, 3, 51), (.aload_n 0, 1, 0), (.getfield 56, 3, 0), (.getfield 199, 3, 0), (.goto 5, 3, 53), (.bipush (-3), 2, 0), (.ireturn, 1, 0)]
theorem ok_X6_hears : okb cX6_hears 4 0 kdX6_hears = true := by decide +kernel
def kdX6_forget : List mI := [(.aload_n 0, 1, 0), (.getfield 56, 3, 0), (.getfield 199, 3, 0), (.istore_n 1, 1, 0), (.aload_n 0, 1, 0), (.getfield 56, 3, 0), (.invokevirtual 87, 3, 0), (.iload_n 1, 1, 0), (.ireturn, 1, 0)]
theorem ok_X6_forget : okb cX6_forget 2 0 kdX6_forget = true := by decide +kernel
def kdX6_could : List mI := [(.iload_n 1, 1, 0), (.ifCond .lt 9, 3, 10), (.iload_n 1, 1, 0), (.bipush 14, 2, 0), (.if_icmp .lt 7, 3, 14), (.iconst (-1), 1, 0), (.goto 11, 3, 22), (.aload_n 0, 1, 0), (.getfield 56, 3, 0), (.iload_n 1, 1, 0), (.invokevirtual 202, 3, 0), (.ireturn, 1, 0)]
theorem ok_X6_could : okb cX6_could 2 0 kdX6_could = true := by decide +kernel
def kdX6_ways : List mI := [(.aload_n 0, 1, 0), (.getfield 56, 3, 0), (.invokevirtual 205, 3, 0), (.ireturn, 1, 0)]
theorem ok_X6_ways : okb cX6_ways 1 0 kdX6_ways = true := by decide +kernel
def kdX6_ask : List mI := [(.aload_n 0, 1, 0), (.getfield 56, 3, 0), (.invokevirtual 208, 3, 0), (.ireturn, 1, 0)]
theorem ok_X6_ask : okb cX6_ask 1 0 kdX6_ask = true := by decide +kernel
def kdX6_mark : List mI := [(.aload_n 0, 1, 0), (.getfield 19, 3, 0), (.iload_n 2, 1, 0), (.invokevirtual 102, 3, 0), (.ifCond .ne 6, 3, 14), (.ldc 97, 2, 0), (.ireturn, 1, 0), (.iload_n 1, 1, 0), (.tableswitch 73 0 5 #[37, 43, 49, 55, 61, 67], 37, 0), (.aload_n 0, 1, 0), (.iload_n 2, 1, 0), (.invokevirtual 211, 3, 0), (.ireturn, 1, 0), (.aload_n 0, 1, 0), (.iload_n 2, 1, 0), (.invokevirtual 214, 3, 0), (.ireturn, 1, 0), (.aload_n 0, 1, 0), (.iload_n 2, 1, 0), (.invokevirtual 217, 3, 0), (.ireturn, 1, 0), (.aload_n 0, 1, 0), (.iload_n 2, 1, 0), (.invokevirtual 220, 3, 0), (.ireturn, 1, 0), (.aload_n 0, 1, 0), (.iload_n 2, 1, 0), (.invokevirtual 223, 3, 0), (.ireturn, 1, 0), (.aload_n 0, 1, 0), (.iload_n 2, 1, 0), (.invokevirtual 226, 3, 0), (.ireturn, 1, 0), (.ldc 97, 2, 0), (.ireturn, 1, 0)]
theorem ok_X6_mark : okb cX6_mark 3 0 kdX6_mark = true := by decide +kernel
def kdX6_keep : List mI := [(.iload_n 1, 1, 0), (.ifCond .lt 8, 3, 9), (.iload_n 1, 1, 0), (.iconst 1, 1, 0), (.if_icmp .le 5, 3, 11), (.iconst (-1), 1, 0), (.ireturn, 1, 0), (.iload_n 1, 1, 0), (.ifCond .ne 10, 3, 22), (.aload_n 0, 1, 0), (.getfield 33, 3, 0), (.goto 7, 3, 26), (.aload_n 0, 1, 0), (.getfield 36, 3, 0), (.astore_n 2, 1, 0), (.aload_n 2, 1, 0), (.aload_n 0, 1, 0), (.getfield 29, 3, 0), (.invokevirtual 229, 3, 0), (.aload_n 2, 1, 0), (.iconst 1, 1, 0), (.putfield 83, 3, 0), (.aload_n 0, 1, 0), (.getfield 29, 3, 0), (.invokevirtual 148, 3, 0), (.ireturn, 1, 0)]
theorem ok_X6_keep : okb cX6_keep 3 0 kdX6_keep = true := by decide +kernel
def kdX6_back : List mI := [(.iload_n 1, 1, 0), (.ifCond .lt 8, 3, 9), (.iload_n 1, 1, 0), (.iconst 1, 1, 0), (.if_icmp .le 5, 3, 11), (.iconst (-1), 1, 0), (.ireturn, 1, 0), (.iload_n 1, 1, 0), (.ifCond .ne 10, 3, 22), (.aload_n 0, 1, 0), (.getfield 33, 3, 0), (.goto 7, 3, 26), (.aload_n 0, 1, 0), (.getfield 36, 3, 0), (.astore_n 2, 1, 0), (.aload_n 2, 1, 0), (.getfield 83, 3, 0), (.ifCond .ne 6, 3, 37), (.bipush (-2), 2, 0), (.ireturn, 1, 0), (.aload_n 0, 1, 0), (.getfield 29, 3, 0), (.aload_n 2, 1, 0), (.invokevirtual 229, 3, 0), (.aload_n 0, 1, 0), (.getfield 29, 3, 0), (.invokevirtual 148, 3, 0), (.ireturn, 1, 0)]
theorem ok_X6_back : okb cX6_back 3 0 kdX6_back = true := by decide +kernel
def kdX6_count : List mI := [(.iload_n 1, 1, 0), (.tableswitch 111 0 7 #[47, 55, 63, 71, 79, 87, 95, 103], 47, 0), (.aload_n 0, 1, 0), (.getfield 19, 3, 0), (.getfield 233, 3, 0), (.ireturn, 1, 0), (.aload_n 0, 1, 0), (.getfield 19, 3, 0), (.getfield 94, 3, 0), (.ireturn, 1, 0), (.aload_n 0, 1, 0), (.getfield 19, 3, 0), (.getfield 236, 3, 0), (.ireturn, 1, 0), (.aload_n 0, 1, 0), (.getfield 19, 3, 0), (.getfield 239, 3, 0), (.ireturn, 1, 0), (.aload_n 0, 1, 0), (.getfield 19, 3, 0), (.getfield 242, 3, 0), (.ireturn, 1, 0), (.aload_n 0, 1, 0), (.getfield 56, 3, 0), (.getfield 199, 3, 0), (.ireturn, 1, 0), (.aload_n 0, 1, 0), (.getfield 29, 3, 0), (.getfield 145, 3, 0), (.ireturn, 1, 0), (.aload_n 0, 1, 0), (.getfield 10, 3, 0), (.getfield 76, 3, 0), (.ireturn, 1, 0), (.iconst (-1), 1, 0), (.ireturn, 1, 0)]
theorem ok_X6_count : okb cX6_count 2 0 kdX6_count = true := by decide +kernel
def kdX6_trace : List mI := [(.aload_n 0, 1, 0), (.getfield 60, 3, 0), (.lreturn, 1, 0)]
theorem ok_X6_trace : okb cX6_trace 1 0 kdX6_trace = true := by decide +kernel
end
section
/-! the methods, instruction by instruction -/
def kdX6_asTrade : List mI := [(.aload_n 0, 1, 0), (.dup, 1, 0), (.getfield 60, 3, 0), (.lconst 1, 1, 0), (.ladd, 1, 0), (.putfield 60, 3, 0), (.aload_n 0, 1, 0), (.getfield 19, 3, 0), (.iload_n 1, 1, 0), (.iconst 0, 1, 0), (.invokevirtual 108, 3, 0), (.ireturn, 1, 0)]
theorem ok_X6_asTrade : okb cX6_asTrade 2 0 kdX6_asTrade = true := by decide +kernel
def kdX6_asBaker : List mI := [(.aload_n 0, 1, 0), (.dup, 1, 0), (.getfield 60, 3, 0), (.ldc2_w 245, 3, 0), (.ladd, 1, 0), (.putfield 60, 3, 0), (.aload_n 0, 1, 0), (.iload_n 1, 1, 0), (.invokevirtual 211, 3, 0), (.aload_n 0, 1, 0), (.getfield 29, 3, 0), (.iload_n 1, 1, 0), (.invokevirtual 105, 3, 0), (.iadd, 1, 0), (.ireturn, 1, 0)]
theorem ok_X6_asBaker : okb cX6_asBaker 2 0 kdX6_asBaker = true := by decide +kernel
def kdX6_asCourt : List mI := [(.aload_n 0, 1, 0), (.dup, 1, 0), (.getfield 60, 3, 0), (.ldc2_w 247, 3, 0), (.ladd, 1, 0), (.putfield 60, 3, 0), (.aload_n 0, 1, 0), (.iload_n 1, 1, 0), (.invokevirtual 211, 3, 0), (.aload_n 0, 1, 0), (.getfield 29, 3, 0), (.invokevirtual 118, 3, 0), (.isub, 1, 0), (.ireturn, 1, 0)]
theorem ok_X6_asCourt : okb cX6_asCourt 2 0 kdX6_asCourt = true := by decide +kernel
def kdX6_asSweetheart : List mI := [(.aload_n 0, 1, 0), (.dup, 1, 0), (.getfield 60, 3, 0), (.ldc2_w 249, 3, 0), (.ladd, 1, 0), (.putfield 60, 3, 0), (.aload_n 0, 1, 0), (.iload_n 1, 1, 0), (.invokevirtual 214, 3, 0), (.iconst 2, 1, 0), (.imul, 1, 0), (.ireturn, 1, 0)]
theorem ok_X6_asSweetheart : okb cX6_asSweetheart 2 0 kdX6_asSweetheart = true := by decide +kernel
def kdX6_asWife : List mI := [(.aload_n 0, 1, 0), (.dup, 1, 0), (.getfield 60, 3, 0), (.ldc2_w 251, 3, 0), (.ladd, 1, 0), (.putfield 60, 3, 0), (.aload_n 0, 1, 0), (.iload_n 1, 1, 0), (.invokevirtual 217, 3, 0), (.iload_n 1, 1, 0), (.iadd, 1, 0), (.ireturn, 1, 0)]
theorem ok_X6_asWife : okb cX6_asWife 2 0 kdX6_asWife = true := by decide +kernel
def kdX6_asHen : List mI := [(.aload_n 0, 1, 0), (.dup, 1, 0), (.getfield 60, 3, 0), (.ldc2_w 253, 3, 0), (.ladd, 1, 0), (.putfield 60, 3, 0), (.aload_n 0, 1, 0), (.iload_n 1, 1, 0), (.invokevirtual 211, 3, 0), (.aload_n 0, 1, 0), (.getfield 29, 3, 0), (.invokevirtual 132, 3, 0), (.iadd, 1, 0), (.ireturn, 1, 0)]
theorem ok_X6_asHen : okb cX6_asHen 2 0 kdX6_asHen = true := by decide +kernel
def kdX6_isPace : List mI := [(.iload_n 0, 1, 0), (.bipush (-2), 2, 0), (.if_icmp .lt 12, 3, 15), (.iload_n 0, 1, 0), (.iconst 3, 1, 0), (.if_icmp .gt 7, 3, 15), (.iconst 1, 1, 0), (.goto 4, 3, 16), (.iconst 0, 1, 0), (.ireturn, 1, 0)]
theorem ok_X6_isPace : okb cX6_isPace 1 0 kdX6_isPace = true := by decide +kernel
def kdX6_isBeyond : List mI := [(.iload_n 0, 1, 0), (.bipush (-9), 2, 0), (.if_icmp .lt 9, 3, 12), (.iload_n 0, 1, 0), (.bipush 9, 2, 0), (.if_icmp .le 7, 3, 16), (.iconst 1, 1, 0), (.goto 4, 3, 17), (.iconst 0, 1, 0), (.ireturn, 1, 0)]
theorem ok_X6_isBeyond : okb cX6_isBeyond 1 0 kdX6_isBeyond = true := by decide +kernel
def kdX7_in : List mI := [(.iload_n 0, 1, 0), (.iload_n 1, 1, 0), (.if_icmp .lt 12, 3, 14), (.iload_n 0, 1, 0), (.iload_n 2, 1, 0), (.if_icmp .gt 7, 3, 14), (.iconst 1, 1, 0), (.goto 4, 3, 15), (.iconst 0, 1, 0), (.ireturn, 1, 0)]
theorem ok_X7_in : okb cX7_in 3 0 kdX7_in = true := by decide +kernel
def kdX7_size : List mI := [(.iload_n 0, 1, 0), (.ifCond .ge 8, 3, 9), (.iload_n 0, 1, 0), (.ineg, 1, 0), (.goto 4, 3, 10), (.iload_n 0, 1, 0), (.ireturn, 1, 0)]
theorem ok_X7_size : okb cX7_size 1 0 kdX7_size = true := by decide +kernel
def kdX7_isTrade : List mI := [(.iload_n 1, 1, 0), (.iconst 0, 1, 0), (.aload_n 0, 1, 0), (.getfield 63, 3, 0), (.iconst 1, 1, 0), (.isub, 1, 0), (.invokestatic 66, 3, 0), (.ireturn, 1, 0)]
theorem ok_X7_isTrade : okb cX7_isTrade 2 0 kdX7_isTrade = true := by decide +kernel
def kdX7_isPace : List mI := [(.iload_n 0, 1, 0), (.bipush (-2), 2, 0), (.iconst 3, 1, 0), (.invokestatic 66, 3, 0), (.ireturn, 1, 0)]
theorem ok_X7_isPace : okb cX7_isPace 1 0 kdX7_isPace = true := by decide +kernel
def kdX7_type : List mI := [(.iload_n 1, 1, 0), (.iconst 0, 1, 0), (.sipush 255, 3, 0), (.invokestatic 66, 3, 0), (.ifCond .ne 5, 3, 13), (.iconst (-1), 1, 0), (.ireturn, 1, 0), (.aload_n 0, 1, 0), (.getfield 70, 3, 0), (.sipush 150, 3, 0), (.if_icmp .ne 6, 3, 26), (.bipush (-3), 2, 0), (.ireturn, 1, 0), (.aload_n 0, 1, 0), (.getfield 39, 3, 0), (.aload_n 0, 1, 0), (.getfield 70, 3, 0), (.iload_n 1, 1, 0), (.iastore, 1, 0), (.aload_n 0, 1, 0), (.dup, 1, 0), (.getfield 70, 3, 0), (.iconst 1, 1, 0), (.iadd, 1, 0), (.putfield 70, 3, 0), (.aload_n 0, 1, 0), (.getfield 70, 3, 0), (.ireturn, 1, 0)]
theorem ok_X7_type : okb cX7_type 2 0 kdX7_type = true := by decide +kernel
def kdX7_clear : List mI := [(.aload_n 0, 1, 0), (.getfield 70, 3, 0), (.istore_n 1, 1, 0), (.aload_n 0, 1, 0), (.iconst 0, 1, 0), (.putfield 70, 3, 0), (.iload_n 1, 1, 0), (.ireturn, 1, 0)]
theorem ok_X7_clear : okb cX7_clear 2 0 kdX7_clear = true := by decide +kernel
def kdX7_letterAt : List mI := [(.iload_n 1, 1, 0), (.aload_n 0, 1, 0), (.getfield 70, 3, 0), (.if_icmp .ge 12, 3, 17), (.aload_n 0, 1, 0), (.getfield 39, 3, 0), (.iload_n 1, 1, 0), (.iaload, 1, 0), (.goto 4, 3, 18), (.iconst (-1), 1, 0), (.ireturn, 1, 0)]
theorem ok_X7_letterAt : okb cX7_letterAt 2 0 kdX7_letterAt = true := by decide +kernel
def kdX7_isFigure : List mI := [(.iload_n 0, 1, 0), (.bipush 48, 2, 0), (.bipush 57, 2, 0), (.invokestatic 66, 3, 0), (.ireturn, 1, 0)]
theorem ok_X7_isFigure : okb cX7_isFigure 1 0 kdX7_isFigure = true := by decide +kernel
def kdX7_isLetter : List mI := [(.iload_n 0, 1, 0), (.bipush 97, 2, 0), (.bipush 122, 2, 0), (.invokestatic 66, 3, 0), (.ireturn, 1, 0)]
theorem ok_X7_isLetter : okb cX7_isLetter 1 0 kdX7_isLetter = true := by decide +kernel
def kdX7_next : List mI := [(.aload_n 0, 1, 0), (.aload_n 0, 1, 0), (.getfield 73, 3, 0), (.invokevirtual 76, 3, 0), (.bipush 32, 2, 0), (.if_icmp .ne 16, 3, 26), (.aload_n 0, 1, 0), (.dup, 1, 0), (.getfield 73, 3, 0), (.iconst 1, 1, 0), (.iadd, 1, 0), (.putfield 73, 3, 0), (.goto (-23), 3, 0), (.aload_n 0, 1, 0), (.aload_n 0, 1, 0), (.getfield 73, 3, 0), (.putfield 80, 3, 0), (.aload_n 0, 1, 0), (.aload_n 0, 1, 0), (.getfield 73, 3, 0), (.invokevirtual 76, 3, 0), (.istore_n 1, 1, 0), (.aload_n 0, 1, 0), (.iconst 0, 1, 0), (.putfield 83, 3, 0), (.iload_n 1, 1, 0), (.ifCond .ge 11, 3, 60), (.aload_n 0, 1, 0), (.iconst 0, 1, 0), (.putfield 86, 3, 0), (.goto 205, 3, 262), (.iload_n 1, 1, 0), (.invokestatic 89, 3, 0), (.ifCond .eq 109, 3, 173), (.aload_n 0, 1, 0), (.aload_n 0, 1, 0), (.getfield 73, 3, 0), (.invokevirtual 76, 3, 0), (.invokestatic 89, 3, 0), (.ifCond .eq 55, 3, 133), (.aload_n 0, 1, 0), (.aload_n 0, 1, 0), (.getfield 83, 3, 0), (.bipush 99, 2, 0), (.if_icmp .le 10, 3, 98), (.aload_n 0, 1, 0), (.getfield 83, 3, 0), (.goto 22, 3, 117), (.bipush 10, 2, 0), (.aload_n 0, 1, 0), (.getfield 83, 3, 0), (.imul, 1, 0), (.aload_n 0, 1, 0), (.aload_n 0, 1, 0), (.getfield 73, 3, 0), (.invokevirtual 76, 3, 0), (.iadd, 1, 0), (.bipush 48, 2, 0), (.isub, 1, 0), (.putfield 83, 3, 0), (.aload_n 0, 1, 0), (.dup, 1, 0), (.getfield 73, 3, 0), (.iconst 1, 1, 0), (.iadd, 1, 0), (.putfield 73, 3, 0), (.goto (-63), 3, 67), (.aload_n 0, 1, 0), (.aload_n 0, 1, 0), (.getfield 83, 3, 0), (.bipush 99, 2, 0), (.if_icmp .gt 22, 3, 162), (.iload_n 1, 1, 0), (.bipush 48, 2, 0), (.if_icmp .ne 20, 3, 166), (.aload_n 0, 1, 0), (.getfield 73, 3, 0), (.aload_n 0, 1, 0), (.getfield 80, 3, 0), (.isub, 1, 0), (.iconst 1, 1, 0), (.if_icmp .le 7, 3, 166), (.iconst 4, 1, 0), (.goto 4, 3, 167), (.iconst 2, 1, 0), (.putfield 86, 3, 0), (.goto 92, 3, 262), (.iload_n 1, 1, 0), (.invokestatic 93, 3, 0), (.ifCond .eq 60, 3, 237), (.aload_n 0, 1, 0), (.aload_n 0, 1, 0), (.getfield 73, 3, 0), (.invokevirtual 76, 3, 0), (.invokestatic 93, 3, 0), (.ifCond .eq 16, 3, 207), (.aload_n 0, 1, 0), (.dup, 1, 0), (.getfield 73, 3, 0), (.iconst 1, 1, 0), (.iadd, 1, 0), (.putfield 73, 3, 0), (.goto (-24), 3, 180), (.aload_n 0, 1, 0), (.iconst 1, 1, 0), (.putfield 86, 3, 0), (.aload_n 0, 1, 0), (.aload_n 0, 1, 0), (.getfield 73, 3, 0), (.aload_n 0, 1, 0), (.getfield 80, 3, 0), (.isub, 1, 0), (.iconst 1, 1, 0), (.if_icmp .ne 7, 3, 230), (.iload_n 1, 1, 0), (.goto 4, 3, 231), (.iconst 0, 1, 0), (.putfield 83, 3, 0), (.goto 28, 3, 262), (.aload_n 0, 1, 0), (.iload_n 1, 1, 0), (.bipush 59, 2, 0), (.if_icmp .ne 7, 3, 248), (.iconst 3, 1, 0), (.goto 4, 3, 249), (.iconst 4, 1, 0), (.putfield 86, 3, 0), (.aload_n 0, 1, 0), (.dup, 1, 0), (.getfield 73, 3, 0), (.iconst 1, 1, 0), (.iadd, 1, 0), (.putfield 73, 3, 0), (.return_, 1, 0)]
theorem ok_X7_next : okb cX7_next 2 0 kdX7_next = true := by decide +kernel
def kdX7_takesNumber : List mI := [(.aload_n 0, 1, 0), (.getfield 96, 3, 0), (.ifCond .ne 27, 3, 31), (.aload_n 0, 1, 0), (.getfield 86, 3, 0), (.iconst 2, 1, 0), (.if_icmp .ne 19, 3, 31), (.aload_n 0, 1, 0), (.getfield 83, 3, 0), (.iload_n 1, 1, 0), (.iload_n 2, 1, 0), (.invokestatic 66, 3, 0), (.ifCond .eq 7, 3, 31), (.iconst 1, 1, 0), (.goto 4, 3, 32), (.iconst 0, 1, 0), (.istore_n 3, 1, 0), (.aload_n 0, 1, 0), (.iload_n 3, 1, 0), (.ifCond .ne 7, 3, 42), (.iconst 1, 1, 0), (.goto 4, 3, 43), (.iconst 0, 1, 0), (.putfield 96, 3, 0), (.aload_n 0, 1, 0), (.getfield 83, 3, 0), (.istore 4, 2, 0), (.iload_n 3, 1, 0), (.ifCond .eq 7, 3, 60), (.aload_n 0, 1, 0), (.invokevirtual 100, 3, 0), (.iload_n 3, 1, 0), (.ifCond .eq 8, 3, 69), (.iload 4, 2, 0), (.goto 4, 3, 70), (.iconst 0, 1, 0), (.ireturn, 1, 0)]
theorem ok_X7_takesNumber : okb cX7_takesNumber 5 0 kdX7_takesNumber = true := by decide +kernel
def kdX7_readBribe : List mI := [(.iconst 4, 1, 0), (.aload_n 0, 1, 0), (.getfield 103, 3, 0), (.imul, 1, 0), (.istore_n 1, 1, 0), (.aload_n 0, 1, 0), (.getfield 45, 3, 0), (.iload_n 1, 1, 0), (.aload_n 0, 1, 0), (.iconst 0, 1, 0), (.bipush 13, 2, 0), (.invokevirtual 106, 3, 0), (.iastore, 1, 0), (.aload_n 0, 1, 0), (.getfield 45, 3, 0), (.iload_n 1, 1, 0), (.iconst 1, 1, 0), (.iadd, 1, 0), (.aload_n 0, 1, 0), (.iconst 0, 1, 0), (.iconst 1, 1, 0), (.invokevirtual 106, 3, 0), (.iastore, 1, 0), (.aload_n 0, 1, 0), (.getfield 45, 3, 0), (.iload_n 1, 1, 0), (.iconst 2, 1, 0), (.iadd, 1, 0), (.aload_n 0, 1, 0), (.iconst 0, 1, 0), (.iconst 5, 1, 0), (.invokevirtual 106, 3, 0), (.bipush (-2), 2, 0), (.iadd, 1, 0), (.iastore, 1, 0), (.aload_n 0, 1, 0), (.getfield 45, 3, 0), (.iload_n 1, 1, 0), (.iconst 3, 1, 0), (.iadd, 1, 0), (.aload_n 0, 1, 0), (.iconst 1, 1, 0), (.bipush 20, 2, 0), (.invokevirtual 106, 3, 0), (.iastore, 1, 0), (.aload_n 0, 1, 0), (.dup, 1, 0), (.getfield 103, 3, 0), (.iconst 1, 1, 0), (.iadd, 1, 0), (.putfield 103, 3, 0), (.return_, 1, 0)]
theorem ok_X7_readBribe : okb cX7_readBribe 2 0 kdX7_readBribe = true := by decide +kernel
def kdX7_mayBegin : List mI := [(.iload_n 1, 1, 0), (.tableswitch 170 97 114 #[157, 102, 170, 87, 170, 170, 170, 117, 170, 170, 170, 144, 170, 170, 170, 170, 170, 131], 87, 0), (.aload_n 0, 1, 0), (.getfield 110, 3, 0), (.bipush 14, 2, 0), (.if_icmp .ge 7, 3, 101), (.iconst 1, 1, 0), (.goto 4, 3, 102), (.iconst 0, 1, 0), (.ireturn, 1, 0), (.aload_n 0, 1, 0), (.getfield 103, 3, 0), (.bipush 6, 2, 0), (.if_icmp .ge 7, 3, 116), (.iconst 1, 1, 0), (.goto 4, 3, 117), (.iconst 0, 1, 0), (.ireturn, 1, 0), (.aload_n 0, 1, 0), (.getfield 113, 3, 0), (.iconst 4, 1, 0), (.if_icmp .ge 7, 3, 130), (.iconst 1, 1, 0), (.goto 4, 3, 131), (.iconst 0, 1, 0), (.ireturn, 1, 0), (.aload_n 0, 1, 0), (.getfield 116, 3, 0), (.ifCond .ge 7, 3, 143), (.iconst 1, 1, 0), (.goto 4, 3, 144), (.iconst 0, 1, 0), (.ireturn, 1, 0), (.aload_n 0, 1, 0), (.getfield 119, 3, 0), (.ifCond .ge 7, 3, 156), (.iconst 1, 1, 0), (.goto 4, 3, 157), (.iconst 0, 1, 0), (.ireturn, 1, 0), (.aload_n 0, 1, 0), (.getfield 122, 3, 0), (.ifCond .ge 7, 3, 169), (.iconst 1, 1, 0), (.goto 4, 3, 170), (.iconst 0, 1, 0), (.ireturn, 1, 0), (.iconst 0, 1, 0), (.ireturn, 1, 0)]
theorem ok_X7_mayBegin : okb cX7_mayBegin 2 0 kdX7_mayBegin = true := by decide +kernel
def kdX7_readBody : List mI := [(.iload_n 1, 1, 0), (.lookupswitch 165 #[(98, 80), (100, 51), (104, 87), (108, 151), (114, 137)], 51, 0), (.aload_n 0, 1, 0), (.getfield 42, 3, 0), (.aload_n 0, 1, 0), (.getfield 110, 3, 0), (.aload_n 0, 1, 0), (.iconst 0, 1, 0), (.bipush 10, 2, 0), (.invokevirtual 106, 3, 0), (.iastore, 1, 0), (.aload_n 0, 1, 0), (.dup, 1, 0), (.getfield 110, 3, 0), (.iconst 1, 1, 0), (.iadd, 1, 0), (.putfield 110, 3, 0), (.goto 99, 3, 177), (.aload_n 0, 1, 0), (.invokevirtual 125, 3, 0), (.goto 92, 3, 177), (.aload_n 0, 1, 0), (.getfield 48, 3, 0), (.iconst 2, 1, 0), (.aload_n 0, 1, 0), (.getfield 113, 3, 0), (.imul, 1, 0), (.aload_n 0, 1, 0), (.iconst 1, 1, 0), (.bipush 9, 2, 0), (.invokevirtual 106, 3, 0), (.iastore, 1, 0), (.aload_n 0, 1, 0), (.getfield 48, 3, 0), (.iconst 2, 1, 0), (.aload_n 0, 1, 0), (.getfield 113, 3, 0), (.imul, 1, 0), (.iconst 1, 1, 0), (.iadd, 1, 0), (.aload_n 0, 1, 0), (.iconst 0, 1, 0), (.iconst 1, 1, 0), (.invokevirtual 106, 3, 0), (.iastore, 1, 0), (.aload_n 0, 1, 0), (.dup, 1, 0), (.getfield 113, 3, 0), (.iconst 1, 1, 0), (.iadd, 1, 0), (.putfield 113, 3, 0), (.goto 42, 3, 177), (.aload_n 0, 1, 0), (.aload_n 0, 1, 0), (.iconst 1, 1, 0), (.bipush 60, 2, 0), (.invokevirtual 106, 3, 0), (.putfield 116, 3, 0), (.goto 28, 3, 177), (.aload_n 0, 1, 0), (.aload_n 0, 1, 0), (.iconst 0, 1, 0), (.bipush 6, 2, 0), (.invokevirtual 106, 3, 0), (.putfield 119, 3, 0), (.goto 14, 3, 177), (.aload_n 0, 1, 0), (.aload_n 0, 1, 0), (.iconst 0, 1, 0), (.bipush 9, 2, 0), (.invokevirtual 106, 3, 0), (.putfield 122, 3, 0), (.return_, 1, 0)]
theorem ok_X7_readBody : okb cX7_readBody 2 0 kdX7_readBody = true := by decide +kernel
def kdX7_readItem : List mI := [(.aload_n 0, 1, 0), (.getfield 83, 3, 0), (.istore_n 1, 1, 0), (.aload_n 0, 1, 0), (.getfield 86, 3, 0), (.iconst 1, 1, 0), (.if_icmp .ne 11, 3, 21), (.aload_n 0, 1, 0), (.iload_n 1, 1, 0), (.invokevirtual 128, 3, 0), (.ifCond .ne 9, 3, 27), (.aload_n 0, 1, 0), (.iconst 1, 1, 0), (.putfield 96, 3, 0), (.return_, 1, 0), (.aload_n 0, 1, 0), (.invokevirtual 100, 3, 0), (.aload_n 0, 1, 0), (.iload_n 1, 1, 0), (.invokevirtual 131, 3, 0), (.aload_n 0, 1, 0), (.aload_n 0, 1, 0), (.getfield 96, 3, 0), (.ifCond .ne 11, 3, 52), (.aload_n 0, 1, 0), (.getfield 86, 3, 0), (.iconst 3, 1, 0), (.if_icmp .eq 7, 3, 56), (.iconst 1, 1, 0), (.goto 4, 3, 57), (.iconst 0, 1, 0), (.putfield 96, 3, 0), (.aload_n 0, 1, 0), (.getfield 96, 3, 0), (.ifCond .ne 7, 3, 71), (.aload_n 0, 1, 0), (.invokevirtual 100, 3, 0), (.return_, 1, 0)]
theorem ok_X7_readItem : okb cX7_readItem 2 0 kdX7_readItem = true := by decide +kernel
def kdX7_sentence : List mI := [(.aload_n 0, 1, 0), (.iconst 0, 1, 0), (.putfield 73, 3, 0), (.aload_n 0, 1, 0), (.iconst 0, 1, 0), (.putfield 96, 3, 0), (.aload_n 0, 1, 0), (.iconst 0, 1, 0), (.putfield 135, 3, 0), (.aload_n 0, 1, 0), (.iconst 0, 1, 0), (.putfield 110, 3, 0), (.aload_n 0, 1, 0), (.iconst 0, 1, 0), (.putfield 103, 3, 0), (.aload_n 0, 1, 0), (.iconst 0, 1, 0), (.putfield 113, 3, 0), (.aload_n 0, 1, 0), (.iconst (-1), 1, 0), (.putfield 116, 3, 0), (.aload_n 0, 1, 0), (.iconst (-1), 1, 0), (.putfield 119, 3, 0), (.aload_n 0, 1, 0), (.iconst (-1), 1, 0), (.putfield 122, 3, 0), (.aload_n 0, 1, 0), (.invokevirtual 100, 3, 0), (.aload_n 0, 1, 0), (.getfield 86, 3, 0), (.ifCond .eq 27, 3, 80), (.aload_n 0, 1, 0), (.getfield 96, 3, 0), (.ifCond .ne 20, 3, 80), (.aload_n 0, 1, 0), (.invokevirtual 138, 3, 0), (.aload_n 0, 1, 0), (.dup, 1, 0), (.getfield 135, 3, 0), (.iconst 1, 1, 0), (.iadd, 1, 0), (.putfield 135, 3, 0), (.goto (-28), 3, 49), (.aload_n 0, 1, 0), (.getfield 96, 3, 0), (.ifCond .eq 11, 3, 95), (.bipush (-10), 2, 0), (.aload_n 0, 1, 0), (.getfield 80, 3, 0), (.isub, 1, 0), (.ireturn, 1, 0), (.aload_n 0, 1, 0), (.invokevirtual 141, 3, 0), (.aload_n 0, 1, 0), (.getfield 135, 3, 0), (.ireturn, 1, 0)]
theorem ok_X7_sentence : okb cX7_sentence 1 0 kdX7_sentence = true := by decide +kernel
def kdX7_settles : List mI := [(.aload_n 0, 1, 0), (.aload_n 0, 1, 0), (.getfield 110, 3, 0), (.putfield 144, 3, 0), (.iconst 0, 1, 0), (.istore_n 1, 1, 0), (.iload_n 1, 1, 0), (.bipush 14, 2, 0), (.if_icmp .ge 21, 3, 34), (.aload_n 0, 1, 0), (.getfield 7, 3, 0), (.iload_n 1, 1, 0), (.aload_n 0, 1, 0), (.getfield 42, 3, 0), (.iload_n 1, 1, 0), (.iaload, 1, 0), (.iastore, 1, 0), (.iinc 1 1, 3, 0), (.goto (-21), 3, 10), (.aload_n 0, 1, 0), (.aload_n 0, 1, 0), (.getfield 103, 3, 0), (.putfield 147, 3, 0), (.iconst 0, 1, 0), (.istore_n 1, 1, 0), (.iload_n 1, 1, 0), (.bipush 24, 2, 0), (.if_icmp .ge 21, 3, 68), (.aload_n 0, 1, 0), (.getfield 13, 3, 0), (.iload_n 1, 1, 0), (.aload_n 0, 1, 0), (.getfield 45, 3, 0), (.iload_n 1, 1, 0), (.iaload, 1, 0), (.iastore, 1, 0), (.iinc 1 1, 3, 0), (.goto (-21), 3, 44), (.aload_n 0, 1, 0), (.aload_n 0, 1, 0), (.getfield 113, 3, 0), (.putfield 63, 3, 0), (.iconst 0, 1, 0), (.istore_n 1, 1, 0), (.iload_n 1, 1, 0), (.bipush 8, 2, 0), (.if_icmp .ge 21, 3, 102), (.aload_n 0, 1, 0), (.getfield 16, 3, 0), (.iload_n 1, 1, 0), (.aload_n 0, 1, 0), (.getfield 48, 3, 0), (.iload_n 1, 1, 0), (.iaload, 1, 0), (.iastore, 1, 0), (.iinc 1 1, 3, 0), (.goto (-21), 3, 78), (.aload_n 0, 1, 0), (.aload_n 0, 1, 0), (.getfield 119, 3, 0), (.ifCond .ge 7, 3, 114), (.iconst 2, 1, 0), (.goto 7, 3, 118), (.aload_n 0, 1, 0), (.getfield 119, 3, 0), (.putfield 19, 3, 0), (.aload_n 0, 1, 0), (.aload_n 0, 1, 0), (.getfield 122, 3, 0), (.ifCond .ge 7, 3, 133), (.iconst 3, 1, 0), (.goto 7, 3, 137), (.aload_n 0, 1, 0), (.getfield 122, 3, 0), (.putfield 23, 3, 0), (.iconst 0, 1, 0), (.istore_n 1, 1, 0), (.iload_n 1, 1, 0), (.bipush 100, 2, 0), (.if_icmp .ge 16, 3, 161), (.aload_n 0, 1, 0), (.getfield 26, 3, 0), (.iload_n 1, 1, 0), (.iconst 0, 1, 0), (.iastore, 1, 0), (.iinc 1 1, 3, 0), (.goto (-16), 3, 142), (.aload_n 0, 1, 0), (.getfield 26, 3, 0), (.iconst 1, 1, 0), (.aload_n 0, 1, 0), (.getfield 116, 3, 0), (.ifCond .ge 8, 3, 178), (.bipush 20, 2, 0), (.goto 7, 3, 182), (.aload_n 0, 1, 0), (.getfield 116, 3, 0), (.iastore, 1, 0), (.aload_n 0, 1, 0), (.iconst 0, 1, 0), (.putfield 150, 3, 0), (.aload_n 0, 1, 0), (.getfield 32, 3, 0), (.iconst 0, 1, 0), (.iconst 0, 1, 0), (.bastore, 1, 0), (.aload_n 0, 1, 0), (.getfield 32, 3, 0), (.iconst 1, 1, 0), (.iconst 0, 1, 0), (.bastore, 1, 0), (.aload_n 0, 1, 0), (.iconst 0, 1, 0), (.putfield 70, 3, 0), (.return_, 1, 0)]
theorem ok_X7_settles : okb cX7_settles 2 0 kdX7_settles = true := by decide +kernel
def kdX7_sun : List mI := [(.iload_n 1, 1, 0), (.iconst 0, 1, 0), (.aload_n 0, 1, 0), (.getfield 144, 3, 0), (.iconst 1, 1, 0), (.isub, 1, 0), (.invokestatic 66, 3, 0), (.ifCond .eq 12, 3, 23), (.aload_n 0, 1, 0), (.getfield 7, 3, 0), (.iload_n 1, 1, 0), (.iaload, 1, 0), (.goto 4, 3, 24), (.iconst (-1), 1, 0), (.ireturn, 1, 0)]
theorem ok_X7_sun : okb cX7_sun 2 0 kdX7_sun = true := by decide +kernel
def kdX7_bribe : List mI := [(.iload_n 1, 1, 0), (.iconst 0, 1, 0), (.aload_n 0, 1, 0), (.getfield 147, 3, 0), (.iconst 1, 1, 0), (.isub, 1, 0), (.invokestatic 66, 3, 0), (.ifCond .eq 25, 3, 36), (.iload_n 2, 1, 0), (.iconst 0, 1, 0), (.iconst 3, 1, 0), (.invokestatic 66, 3, 0), (.ifCond .eq 16, 3, 36), (.aload_n 0, 1, 0), (.getfield 13, 3, 0), (.iconst 4, 1, 0), (.iload_n 1, 1, 0), (.imul, 1, 0), (.iload_n 2, 1, 0), (.iadd, 1, 0), (.iaload, 1, 0), (.goto 5, 3, 38), (.ldc 153, 2, 0), (.ireturn, 1, 0)]
theorem ok_X7_bribe : okb cX7_bribe 3 0 kdX7_bribe = true := by decide +kernel
def kdX7_trade : List mI := [(.aload_n 0, 1, 0), (.iload_n 1, 1, 0), (.invokevirtual 154, 3, 0), (.ifCond .eq 12, 3, 17), (.iload_n 2, 1, 0), (.iconst 0, 1, 0), (.iconst 2, 1, 0), (.invokestatic 66, 3, 0), (.ifCond .ne 5, 3, 19), (.iconst (-1), 1, 0), (.ireturn, 1, 0), (.iload_n 2, 1, 0), (.iconst 2, 1, 0), (.if_icmp .ge 16, 3, 37), (.aload_n 0, 1, 0), (.getfield 16, 3, 0), (.iconst 2, 1, 0), (.iload_n 1, 1, 0), (.imul, 1, 0), (.iload_n 2, 1, 0), (.iadd, 1, 0), (.iaload, 1, 0), (.goto 11, 3, 45), (.aload_n 0, 1, 0), (.getfield 26, 3, 0), (.iconst 4, 1, 0), (.iload_n 1, 1, 0), (.iadd, 1, 0), (.iaload, 1, 0), (.ireturn, 1, 0)]
theorem ok_X7_trade : okb cX7_trade 3 0 kdX7_trade = true := by decide +kernel
def kdX7_isOver : List mI := [(.aload_n 0, 1, 0), (.getfield 26, 3, 0), (.iconst 0, 1, 0), (.iaload, 1, 0), (.aload_n 0, 1, 0), (.getfield 144, 3, 0), (.if_icmp .ne 7, 3, 17), (.iconst 1, 1, 0), (.goto 4, 3, 18), (.iconst 0, 1, 0), (.ireturn, 1, 0)]
theorem ok_X7_isOver : okb cX7_isOver 1 0 kdX7_isOver = true := by decide +kernel
def kdX7_isFree : List mI := [(.aload_n 0, 1, 0), (.getfield 26, 3, 0), (.iconst 1, 1, 0), (.iaload, 1, 0), (.ifCond .ne 7, 3, 13), (.iconst 1, 1, 0), (.goto 4, 3, 14), (.iconst 0, 1, 0), (.ireturn, 1, 0)]
theorem ok_X7_isFree : okb cX7_isFree 1 0 kdX7_isFree = true := by decide +kernel
def kdX7_isDone : List mI := [(.aload_n 0, 1, 0), (.invokevirtual 157, 3, 0), (.ifCond .ne 10, 3, 14), (.aload_n 0, 1, 0), (.invokevirtual 161, 3, 0), (.ifCond .eq 7, 3, 18), (.iconst 1, 1, 0), (.goto 4, 3, 19), (.iconst 0, 1, 0), (.ireturn, 1, 0)]
theorem ok_X7_isDone : okb cX7_isDone 1 0 kdX7_isDone = true := by decide +kernel
def kdX7_candlesBy : List mI := [(.iconst 0, 1, 0), (.istore_n 3, 1, 0), (.iconst 0, 1, 0), (.istore 4, 2, 0), (.iload 4, 2, 0), (.aload_n 0, 1, 0), (.getfield 147, 3, 0), (.if_icmp .ge 94, 3, 105), (.aload_n 0, 1, 0), (.getfield 13, 3, 0), (.iconst 4, 1, 0), (.iload 4, 2, 0), (.imul, 1, 0), (.iconst 2, 1, 0), (.iadd, 1, 0), (.iaload, 1, 0), (.istore 5, 2, 0), (.aload_n 0, 1, 0), (.getfield 13, 3, 0), (.iconst 4, 1, 0), (.iload 4, 2, 0), (.imul, 1, 0), (.iaload, 1, 0), (.iload_n 1, 1, 0), (.if_icmp .ne 36, 3, 73), (.aload_n 0, 1, 0), (.getfield 13, 3, 0), (.iconst 4, 1, 0), (.iload 4, 2, 0), (.imul, 1, 0), (.iconst 1, 1, 0), (.iadd, 1, 0), (.iaload, 1, 0), (.ifCond .ne 12, 3, 63), (.iload_n 2, 1, 0), (.iload 5, 2, 0), (.if_icmp .gt 16, 3, 73), (.goto 9, 3, 69), (.iload_n 2, 1, 0), (.iload 5, 2, 0), (.if_icmp .lt 7, 3, 73), (.iconst 1, 1, 0), (.goto 4, 3, 74), (.iconst 0, 1, 0), (.istore 6, 2, 0), (.iload_n 3, 1, 0), (.iload 6, 2, 0), (.ifCond .eq 17, 3, 96), (.aload_n 0, 1, 0), (.getfield 13, 3, 0), (.iconst 4, 1, 0), (.iload 4, 2, 0), (.imul, 1, 0), (.iconst 3, 1, 0), (.iadd, 1, 0), (.iaload, 1, 0), (.goto 4, 3, 97), (.iconst 0, 1, 0), (.iadd, 1, 0), (.istore_n 3, 1, 0), (.iinc 4 1, 3, 0), (.goto (-97), 3, 5), (.iload_n 3, 1, 0), (.ireturn, 1, 0)]
theorem ok_X7_candlesBy : okb cX7_candlesBy 7 0 kdX7_candlesBy = true := by decide +kernel
def kdX7_harmOf : List mI := [(.aload_n 0, 1, 0), (.getfield 16, 3, 0), (.iconst 2, 1, 0), (.iload_n 1, 1, 0), (.imul, 1, 0), (.iconst 1, 1, 0), (.iadd, 1, 0), (.iaload, 1, 0), (.ifCond .ne 15, 3, 25), (.iload_n 2, 1, 0), (.ifCond .ge 7, 3, 21), (.iconst 1, 1, 0), (.goto 16, 3, 34), (.iconst 0, 1, 0), (.goto 12, 3, 34), (.iload_n 2, 1, 0), (.ifCond .le 7, 3, 33), (.iconst 1, 1, 0), (.goto 4, 3, 34), (.iconst 0, 1, 0), (.istore_n 3, 1, 0), (.iload_n 3, 1, 0), (.ifCond .eq 19, 3, 55), (.aload_n 0, 1, 0), (.getfield 16, 3, 0), (.iconst 2, 1, 0), (.iload_n 1, 1, 0), (.imul, 1, 0), (.iaload, 1, 0), (.iload_n 2, 1, 0), (.invokestatic 164, 3, 0), (.imul, 1, 0), (.goto 4, 3, 56), (.iconst 0, 1, 0), (.ireturn, 1, 0)]
theorem ok_X7_harmOf : okb cX7_harmOf 4 0 kdX7_harmOf = true := by decide +kernel
def kdX7_harmBy : List mI := [(.iconst 0, 1, 0), (.istore_n 2, 1, 0), (.iconst 0, 1, 0), (.istore_n 3, 1, 0), (.iload_n 3, 1, 0), (.aload_n 0, 1, 0), (.getfield 63, 3, 0), (.if_icmp .ge 18, 3, 27), (.iload_n 2, 1, 0), (.aload_n 0, 1, 0), (.iload_n 3, 1, 0), (.iload_n 1, 1, 0), (.invokevirtual 167, 3, 0), (.iadd, 1, 0), (.istore_n 2, 1, 0), (.iinc 3 1, 3, 0), (.goto (-20), 3, 4), (.iload_n 2, 1, 0), (.ireturn, 1, 0)]
theorem ok_X7_harmBy : okb cX7_harmBy 4 0 kdX7_harmBy = true := by decide +kernel
def kdX7_lesser : List mI := [(.iload_n 0, 1, 0), (.iload_n 1, 1, 0), (.if_icmp .ge 7, 3, 9), (.iload_n 0, 1, 0), (.goto 4, 3, 10), (.iload_n 1, 1, 0), (.ireturn, 1, 0)]
theorem ok_X7_lesser : okb cX7_lesser 2 0 kdX7_lesser = true := by decide +kernel
def kdX7_restBehind : List mI := [(.iload_n 0, 1, 0), (.iconst 4, 1, 0), (.isub, 1, 0), (.iload_n 1, 1, 0), (.isub, 1, 0), (.ifCond .ge 7, 3, 12), (.iconst 0, 1, 0), (.goto 8, 3, 17), (.iload_n 0, 1, 0), (.iconst 4, 1, 0), (.isub, 1, 0), (.iload_n 1, 1, 0), (.isub, 1, 0), (.ireturn, 1, 0)]
theorem ok_X7_restBehind : okb cX7_restBehind 2 0 kdX7_restBehind = true := by decide +kernel
def kdX7_remembers : List mI := [(.aload_n 0, 1, 0), (.getfield 26, 3, 0), (.bipush 9, 2, 0), (.iaload, 1, 0), (.bipush 10, 2, 0), (.if_icmp .ne 44, 3, 53), (.bipush 10, 2, 0), (.istore_n 1, 1, 0), (.iload_n 1, 1, 0), (.bipush 91, 2, 0), (.if_icmp .ge 24, 3, 42), (.aload_n 0, 1, 0), (.getfield 26, 3, 0), (.iload_n 1, 1, 0), (.aload_n 0, 1, 0), (.getfield 26, 3, 0), (.iload_n 1, 1, 0), (.bipush 9, 2, 0), (.iadd, 1, 0), (.iaload, 1, 0), (.iastore, 1, 0), (.iinc 1 1, 3, 0), (.goto (-24), 3, 15), (.aload_n 0, 1, 0), (.getfield 26, 3, 0), (.bipush 9, 2, 0), (.dup2, 1, 0), (.iaload, 1, 0), (.iconst 1, 1, 0), (.isub, 1, 0), (.iastore, 1, 0), (.bipush 10, 2, 0), (.bipush 9, 2, 0), (.aload_n 0, 1, 0), (.getfield 26, 3, 0), (.bipush 9, 2, 0), (.iaload, 1, 0), (.imul, 1, 0), (.iadd, 1, 0), (.istore_n 1, 1, 0), (.iconst 0, 1, 0), (.istore_n 2, 1, 0), (.iload_n 2, 1, 0), (.bipush 9, 2, 0), (.if_icmp .ge 23, 3, 95), (.aload_n 0, 1, 0), (.getfield 26, 3, 0), (.iload_n 1, 1, 0), (.iload_n 2, 1, 0), (.iadd, 1, 0), (.aload_n 0, 1, 0), (.getfield 26, 3, 0), (.iload_n 2, 1, 0), (.iaload, 1, 0), (.iastore, 1, 0), (.iinc 2 1, 3, 0), (.goto (-23), 3, 69), (.aload_n 0, 1, 0), (.getfield 26, 3, 0), (.bipush 9, 2, 0), (.dup2, 1, 0), (.iaload, 1, 0), (.iconst 1, 1, 0), (.iadd, 1, 0), (.iastore, 1, 0), (.return_, 1, 0)]
theorem ok_X7_remembers : okb cX7_remembers 3 0 kdX7_remembers = true := by decide +kernel
def kdX7_checks : List mI := [(.aload_n 0, 1, 0), (.getfield 26, 3, 0), (.iconst 2, 1, 0), (.iaload, 1, 0), (.invokestatic 164, 3, 0), (.aload_n 0, 1, 0), (.getfield 19, 3, 0), (.if_icmp .gt 5, 3, 18), (.iconst 1, 1, 0), (.ireturn, 1, 0), (.aload_n 0, 1, 0), (.getfield 26, 3, 0), (.bipush 8, 2, 0), (.dup2, 1, 0), (.iaload, 1, 0), (.iconst 1, 1, 0), (.iadd, 1, 0), (.iastore, 1, 0), (.aload_n 0, 1, 0), (.getfield 26, 3, 0), (.iconst 2, 1, 0), (.iconst 0, 1, 0), (.iastore, 1, 0), (.aload_n 0, 1, 0), (.getfield 26, 3, 0), (.iconst 1, 1, 0), (.bipush 99, 2, 0), (.aload_n 0, 1, 0), (.getfield 26, 3, 0), (.iconst 1, 1, 0), (.iaload, 1, 0), (.aload_n 0, 1, 0), (.getfield 23, 3, 0), (.iadd, 1, 0), (.invokestatic 170, 3, 0), (.iastore, 1, 0), (.iconst 2, 1, 0), (.ireturn, 1, 0)]
theorem ok_X7_checks : okb cX7_checks 1 0 kdX7_checks = true := by decide +kernel
def kdX7_winds : List mI := [(.iload_n 1, 1, 0), (.invokestatic 173, 3, 0), (.ifCond .eq 14, 3, 18), (.iload_n 2, 1, 0), (.iconst 0, 1, 0), (.sipush 9999, 3, 0), (.invokestatic 66, 3, 0), (.ifCond .ne 5, 3, 20), (.iconst (-1), 1, 0), (.ireturn, 1, 0), (.aload_n 0, 1, 0), (.getfield 26, 3, 0), (.iconst 2, 1, 0), (.iaload, 1, 0), (.iload_n 1, 1, 0), (.iadd, 1, 0), (.istore_n 3, 1, 0), (.aload_n 0, 1, 0), (.invokevirtual 176, 3, 0), (.ifCond .ne 12, 3, 45), (.iload_n 3, 1, 0), (.invokestatic 164, 3, 0), (.bipush 9, 2, 0), (.if_icmp .le 6, 3, 48), (.bipush (-2), 2, 0), (.ireturn, 1, 0), (.aload_n 0, 1, 0), (.invokevirtual 179, 3, 0), (.aload_n 0, 1, 0), (.getfield 26, 3, 0), (.iconst 2, 1, 0), (.iload_n 3, 1, 0), (.iastore, 1, 0), (.aload_n 0, 1, 0), (.getfield 26, 3, 0), (.iconst 1, 1, 0), (.aload_n 0, 1, 0), (.getfield 26, 3, 0), (.iconst 1, 1, 0), (.iaload, 1, 0), (.iload_n 1, 1, 0), (.invokestatic 182, 3, 0), (.iastore, 1, 0), (.aload_n 0, 1, 0), (.getfield 26, 3, 0), (.iconst 3, 1, 0), (.sipush 999, 3, 0), (.aload_n 0, 1, 0), (.getfield 26, 3, 0), (.iconst 3, 1, 0), (.iaload, 1, 0), (.aload_n 0, 1, 0), (.aload_n 0, 1, 0), (.getfield 26, 3, 0), (.iconst 0, 1, 0), (.iaload, 1, 0), (.iload_n 1, 1, 0), (.invokevirtual 185, 3, 0), (.iadd, 1, 0), (.invokestatic 170, 3, 0), (.iastore, 1, 0), (.iconst 0, 1, 0), (.istore 4, 2, 0), (.iload 4, 2, 0), (.aload_n 0, 1, 0), (.getfield 63, 3, 0), (.if_icmp .ge 41, 3, 155), (.aload_n 0, 1, 0), (.getfield 26, 3, 0), (.iconst 4, 1, 0), (.iload 4, 2, 0), (.iadd, 1, 0), (.sipush 9999, 3, 0), (.aload_n 0, 1, 0), (.getfield 26, 3, 0), (.iconst 4, 1, 0), (.iload 4, 2, 0), (.iadd, 1, 0), (.iaload, 1, 0), (.aload_n 0, 1, 0), (.iload 4, 2, 0), (.iload_n 3, 1, 0), (.invokevirtual 167, 3, 0), (.iadd, 1, 0), (.invokestatic 170, 3, 0), (.iastore, 1, 0), (.iinc 4 1, 3, 0), (.goto (-44), 3, 108), (.ldc2_w 188, 3, 0), (.iload_n 2, 1, 0), (.i2l, 1, 0), (.lmul, 1, 0), (.ldc2_w 190, 3, 0), (.aload_n 0, 1, 0), (.getfield 26, 3, 0), (.iconst 0, 1, 0), (.iaload, 1, 0), (.i2l, 1, 0), (.lmul, 1, 0), (.ladd, 1, 0), (.lconst 1, 1, 0), (.ladd, 1, 0), (.lstore 4, 2, 0), (.lload 4, 2, 0), (.lload 4, 2, 0), (.lmul, 1, 0), (.ldc2_w 192, 3, 0), (.lrem, 1, 0), (.ldc2_w 194, 3, 0), (.ldiv, 1, 0), (.ldc2_w 196, 3, 0), (.lrem, 1, 0), (.l2i, 1, 0), (.istore 6, 2, 0), (.iload 6, 2, 0), (.aload_n 0, 1, 0), (.getfield 7, 3, 0), (.aload_n 0, 1, 0), (.getfield 26, 3, 0), (.iconst 0, 1, 0), (.iaload, 1, 0), (.iaload, 1, 0), (.if_icmp .ge 10, 3, 220), (.aload_n 0, 1, 0), (.invokevirtual 198, 3, 0), (.goto 4, 3, 221), (.iconst 0, 1, 0), (.istore 7, 2, 0), (.aload_n 0, 1, 0), (.getfield 26, 3, 0), (.iconst 0, 1, 0), (.dup2, 1, 0), (.iaload, 1, 0), (.iconst 1, 1, 0), (.iadd, 1, 0), (.iastore, 1, 0), (.iload 7, 2, 0), (.ireturn, 1, 0)]
theorem ok_X7_winds : okb cX7_winds 8 0 kdX7_winds = true := by decide +kernel
def kdX7_watches : List mI := [(.aload_n 0, 1, 0), (.invokevirtual 176, 3, 0), (.ifCond .eq 6, 3, 10), (.bipush (-2), 2, 0), (.ireturn, 1, 0), (.aload_n 0, 1, 0), (.invokevirtual 179, 3, 0), (.aload_n 0, 1, 0), (.invokevirtual 198, 3, 0), (.ireturn, 1, 0)]
theorem ok_X7_watches : okb cX7_watches 1 0 kdX7_watches = true := by decide +kernel
def kdX7_pays : List mI := [(.aload_n 0, 1, 0), (.iload_n 1, 1, 0), (.invokevirtual 154, 3, 0), (.ifCond .eq 13, 3, 18), (.iload_n 2, 1, 0), (.iconst 1, 1, 0), (.bipush 99, 2, 0), (.invokestatic 66, 3, 0), (.ifCond .ne 5, 3, 20), (.iconst (-1), 1, 0), (.ireturn, 1, 0), (.aload_n 0, 1, 0), (.getfield 26, 3, 0), (.iconst 3, 1, 0), (.iaload, 1, 0), (.iload_n 2, 1, 0), (.if_icmp .ge 6, 3, 33), (.bipush (-2), 2, 0), (.ireturn, 1, 0), (.aload_n 0, 1, 0), (.invokevirtual 179, 3, 0), (.aload_n 0, 1, 0), (.getfield 26, 3, 0), (.iconst 3, 1, 0), (.dup2, 1, 0), (.iaload, 1, 0), (.iload_n 2, 1, 0), (.isub, 1, 0), (.iastore, 1, 0), (.aload_n 0, 1, 0), (.getfield 26, 3, 0), (.iconst 4, 1, 0), (.iload_n 1, 1, 0), (.iadd, 1, 0), (.aload_n 0, 1, 0), (.getfield 26, 3, 0), (.iconst 4, 1, 0), (.iload_n 1, 1, 0), (.iadd, 1, 0), (.iaload, 1, 0), (.iload_n 2, 1, 0), (.if_icmp .ge 7, 3, 70), (.iconst 0, 1, 0), (.goto 13, 3, 80), (.aload_n 0, 1, 0), (.getfield 26, 3, 0), (.iconst 4, 1, 0), (.iload_n 1, 1, 0), (.iadd, 1, 0), (.iaload, 1, 0), (.iload_n 2, 1, 0), (.isub, 1, 0), (.iastore, 1, 0), (.aload_n 0, 1, 0), (.getfield 26, 3, 0), (.iconst 4, 1, 0), (.iload_n 1, 1, 0), (.iadd, 1, 0), (.iaload, 1, 0), (.ireturn, 1, 0)]
theorem ok_X7_pays : okb cX7_pays 3 0 kdX7_pays = true := by decide +kernel
def kdX7_corrects : List mI := [(.iload_n 1, 1, 0), (.bipush (-9), 2, 0), (.bipush 9, 2, 0), (.invokestatic 66, 3, 0), (.ifCond .eq 30, 3, 38), (.iload_n 1, 1, 0), (.ifCond .eq 26, 3, 38), (.aload_n 0, 1, 0), (.invokevirtual 176, 3, 0), (.ifCond .ne 19, 3, 38), (.aload_n 0, 1, 0), (.getfield 26, 3, 0), (.iconst 2, 1, 0), (.iaload, 1, 0), (.iload_n 1, 1, 0), (.iadd, 1, 0), (.invokestatic 164, 3, 0), (.bipush 9, 2, 0), (.if_icmp .le 6, 3, 41), (.ldc 153, 2, 0), (.ireturn, 1, 0), (.aload_n 0, 1, 0), (.invokevirtual 179, 3, 0), (.aload_n 0, 1, 0), (.getfield 26, 3, 0), (.iconst 2, 1, 0), (.dup2, 1, 0), (.iaload, 1, 0), (.iload_n 1, 1, 0), (.iadd, 1, 0), (.iastore, 1, 0), (.aload_n 0, 1, 0), (.getfield 26, 3, 0), (.iconst 2, 1, 0), (.iaload, 1, 0), (.ireturn, 1, 0)]
theorem ok_X7_corrects : okb cX7_corrects 2 0 kdX7_corrects = true := by decide +kernel
def kdX7_undo : List mI := [(.aload_n 0, 1, 0), (.getfield 26, 3, 0), (.bipush 9, 2, 0), (.iaload, 1, 0), (.ifCond .ne 6, 3, 13), (.bipush (-2), 2, 0), (.ireturn, 1, 0), (.aload_n 0, 1, 0), (.getfield 26, 3, 0), (.bipush 9, 2, 0), (.dup2, 1, 0), (.iaload, 1, 0), (.iconst 1, 1, 0), (.isub, 1, 0), (.iastore, 1, 0), (.bipush 10, 2, 0), (.bipush 9, 2, 0), (.aload_n 0, 1, 0), (.getfield 26, 3, 0), (.bipush 9, 2, 0), (.iaload, 1, 0), (.imul, 1, 0), (.iadd, 1, 0), (.istore_n 1, 1, 0), (.iconst 0, 1, 0), (.istore_n 2, 1, 0), (.iload_n 2, 1, 0), (.bipush 9, 2, 0), (.if_icmp .ge 23, 3, 66), (.aload_n 0, 1, 0), (.getfield 26, 3, 0), (.iload_n 2, 1, 0), (.aload_n 0, 1, 0), (.getfield 26, 3, 0), (.iload_n 1, 1, 0), (.iload_n 2, 1, 0), (.iadd, 1, 0), (.iaload, 1, 0), (.iastore, 1, 0), (.iinc 2 1, 3, 0), (.goto (-23), 3, 40), (.aload_n 0, 1, 0), (.getfield 26, 3, 0), (.bipush 9, 2, 0), (.iaload, 1, 0), (.ireturn, 1, 0)]
theorem ok_X7_undo : okb cX7_undo 3 0 kdX7_undo = true := by decide +kernel
def kdX7_now : List mI := [(.iload_n 1, 1, 0), (.tableswitch 118 0 7 #[47, 47, 47, 47, 54, 84, 92, 105], 47, 0), (.aload_n 0, 1, 0), (.getfield 26, 3, 0), (.iload_n 1, 1, 0), (.iaload, 1, 0), (.ireturn, 1, 0), (.aload_n 0, 1, 0), (.getfield 26, 3, 0), (.iconst 4, 1, 0), (.iaload, 1, 0), (.aload_n 0, 1, 0), (.getfield 26, 3, 0), (.iconst 5, 1, 0), (.iaload, 1, 0), (.iadd, 1, 0), (.aload_n 0, 1, 0), (.getfield 26, 3, 0), (.bipush 6, 2, 0), (.iaload, 1, 0), (.iadd, 1, 0), (.aload_n 0, 1, 0), (.getfield 26, 3, 0), (.bipush 7, 2, 0), (.iaload, 1, 0), (.iadd, 1, 0), (.ireturn, 1, 0), (.aload_n 0, 1, 0), (.getfield 26, 3, 0), (.bipush 8, 2, 0), (.iaload, 1, 0), (.ireturn, 1, 0), (.aload_n 0, 1, 0), (.invokevirtual 157, 3, 0), (.ifCond .eq 7, 3, 104), (.iconst 1, 1, 0), (.goto 4, 3, 105), (.iconst 0, 1, 0), (.ireturn, 1, 0), (.aload_n 0, 1, 0), (.invokevirtual 161, 3, 0), (.ifCond .eq 7, 3, 117), (.iconst 1, 1, 0), (.goto 4, 3, 118), (.iconst 0, 1, 0), (.ireturn, 1, 0), (.ldc 153, 2, 0), (.ireturn, 1, 0)]
theorem ok_X7_now : okb cX7_now 2 0 kdX7_now = true := by decide +kernel
def kdX7_at : List mI := [(.bipush 19, 2, 0), (.iload_n 0, 1, 0), (.imul, 1, 0), (.iload_n 1, 1, 0), (.iadd, 1, 0), (.bipush 9, 2, 0), (.iadd, 1, 0), (.ireturn, 1, 0)]
theorem ok_X7_at : okb cX7_at 2 0 kdX7_at = true := by decide +kernel
def kdX7_worthBy : List mI := [(.iload 4, 2, 0), (.iload 5, 2, 0), (.iadd, 1, 0), (.istore 6, 2, 0), (.iload_n 3, 1, 0), (.iload 5, 2, 0), (.invokestatic 182, 3, 0), (.istore 7, 2, 0), (.iload_n 1, 1, 0), (.ifCond .ne 75, 3, 91), (.bipush 99, 2, 0), (.iload 7, 2, 0), (.aload_n 0, 1, 0), (.getfield 23, 3, 0), (.iadd, 1, 0), (.invokestatic 170, 3, 0), (.istore 8, 2, 0), (.iload 6, 2, 0), (.invokestatic 164, 3, 0), (.aload_n 0, 1, 0), (.getfield 19, 3, 0), (.if_icmp .le 12, 3, 54), (.aload_n 0, 1, 0), (.getfield 7, 3, 0), (.iload_n 2, 1, 0), (.iaload, 1, 0), (.goto 4, 3, 55), (.iconst 0, 1, 0), (.istore 9, 2, 0), (.iload 9, 2, 0), (.aload_n 0, 1, 0), (.getfield 54, 3, 0), (.iload 8, 2, 0), (.iconst 0, 1, 0), (.invokestatic 202, 3, 0), (.iaload, 1, 0), (.imul, 1, 0), (.bipush 10, 2, 0), (.iload 9, 2, 0), (.isub, 1, 0), (.aload_n 0, 1, 0), (.getfield 54, 3, 0), (.iload 7, 2, 0), (.iload 6, 2, 0), (.invokestatic 202, 3, 0), (.iaload, 1, 0), (.imul, 1, 0), (.iadd, 1, 0), (.ireturn, 1, 0), (.iload_n 1, 1, 0), (.iconst 1, 1, 0), (.if_icmp .ne 55, 3, 148), (.iload 6, 2, 0), (.invokestatic 164, 3, 0), (.aload_n 0, 1, 0), (.getfield 19, 3, 0), (.if_icmp .le 8, 3, 113), (.ldc 153, 2, 0), (.goto 15, 3, 125), (.aload_n 0, 1, 0), (.getfield 54, 3, 0), (.iload 7, 2, 0), (.iload 6, 2, 0), (.invokestatic 202, 3, 0), (.iaload, 1, 0), (.istore 8, 2, 0), (.iload 8, 2, 0), (.ifCond .ge 8, 3, 137), (.ldc 153, 2, 0), (.goto 13, 3, 147), (.iload 8, 2, 0), (.aload_n 0, 1, 0), (.iload_n 2, 1, 0), (.iload 5, 2, 0), (.invokevirtual 185, 3, 0), (.iadd, 1, 0), (.ireturn, 1, 0), (.aload_n 0, 1, 0), (.getfield 54, 3, 0), (.iload 7, 2, 0), (.iload 6, 2, 0), (.invokestatic 202, 3, 0), (.iaload, 1, 0), (.istore 8, 2, 0), (.iload 8, 2, 0), (.ldc 153, 2, 0), (.if_icmp .ne 8, 3, 174), (.ldc 153, 2, 0), (.goto 12, 3, 183), (.iload 8, 2, 0), (.aload_n 0, 1, 0), (.iload 6, 2, 0), (.invokevirtual 205, 3, 0), (.isub, 1, 0), (.ireturn, 1, 0)]
theorem ok_X7_worthBy : okb cX7_worthBy 10 0 kdX7_worthBy = true := by decide +kernel
def kdX7_mayTurn : List mI := [(.iload_n 0, 1, 0), (.iload_n 1, 1, 0), (.iadd, 1, 0), (.invokestatic 164, 3, 0), (.bipush 9, 2, 0), (.if_icmp .gt 7, 3, 15), (.iconst 1, 1, 0), (.goto 4, 3, 16), (.iconst 0, 1, 0), (.ireturn, 1, 0)]
theorem ok_X7_mayTurn : okb cX7_mayTurn 2 0 kdX7_mayTurn = true := by decide +kernel
def kdX7_bestOf : List mI := [(.ldc 153, 2, 0), (.istore 5, 2, 0), (.bipush (-2), 2, 0), (.istore 6, 2, 0), (.iload 6, 2, 0), (.iconst 3, 1, 0), (.if_icmp .gt 53, 3, 64), (.iload 4, 2, 0), (.iload 6, 2, 0), (.invokestatic 208, 3, 0), (.ifCond .eq 17, 3, 38), (.aload_n 0, 1, 0), (.iload_n 1, 1, 0), (.iload_n 2, 1, 0), (.iload_n 3, 1, 0), (.iload 4, 2, 0), (.iload 6, 2, 0), (.invokevirtual 212, 3, 0), (.goto 5, 3, 40), (.ldc 153, 2, 0), (.istore 7, 2, 0), (.iload 7, 2, 0), (.iload 5, 2, 0), (.if_icmp .le 8, 3, 54), (.iload 7, 2, 0), (.goto 5, 3, 56), (.iload 5, 2, 0), (.istore 5, 2, 0), (.iinc 6 1, 3, 0), (.goto (-53), 3, 8), (.iload 5, 2, 0), (.ireturn, 1, 0)]
theorem ok_X7_bestOf : okb cX7_bestOf 8 0 kdX7_bestOf = true := by decide +kernel
def kdX7_findWorths : List mI := [(.iload_n 1, 1, 0), (.ifCond .ne 7, 3, 8), (.iconst 1, 1, 0), (.goto 4, 3, 9), (.iconst 0, 1, 0), (.istore_n 3, 1, 0), (.iload_n 1, 1, 0), (.iconst 1, 1, 0), (.if_icmp .ne 7, 3, 19), (.iconst 0, 1, 0), (.goto 13, 3, 29), (.iload_n 1, 1, 0), (.ifCond .ne 7, 3, 27), (.iconst 0, 1, 0), (.goto 5, 3, 29), (.ldc 153, 2, 0), (.istore 4, 2, 0), (.iconst 0, 1, 0), (.istore 5, 2, 0), (.iload 5, 2, 0), (.sipush 1900, 3, 0), (.if_icmp .ge 29, 3, 68), (.aload_n 0, 1, 0), (.getfield 54, 3, 0), (.iload 5, 2, 0), (.iload 5, 2, 0), (.bipush 19, 2, 0), (.if_icmp .ge 7, 3, 59), (.iload_n 3, 1, 0), (.goto 5, 3, 61), (.iload 4, 2, 0), (.iastore, 1, 0), (.iinc 5 1, 3, 0), (.goto (-31), 3, 34), (.aload_n 0, 1, 0), (.getfield 26, 3, 0), (.iconst 0, 1, 0), (.iaload, 1, 0), (.iload_n 2, 1, 0), (.iadd, 1, 0), (.iconst 1, 1, 0), (.isub, 1, 0), (.istore 5, 2, 0), (.iload 5, 2, 0), (.aload_n 0, 1, 0), (.getfield 26, 3, 0), (.iconst 0, 1, 0), (.iaload, 1, 0), (.if_icmp .le 110, 3, 198), (.iload_n 3, 1, 0), (.bipush 10, 2, 0), (.imul, 1, 0), (.istore_n 3, 1, 0), (.iconst 0, 1, 0), (.istore 6, 2, 0), (.iload 6, 2, 0), (.bipush 99, 2, 0), (.if_icmp .gt 58, 3, 161), (.bipush (-9), 2, 0), (.istore 7, 2, 0), (.iload 7, 2, 0), (.bipush 9, 2, 0), (.if_icmp .gt 41, 3, 155), (.aload_n 0, 1, 0), (.getfield 51, 3, 0), (.iload 6, 2, 0), (.iload 7, 2, 0), (.invokestatic 202, 3, 0), (.iload 6, 2, 0), (.ifCond .ne 7, 3, 137), (.iload_n 3, 1, 0), (.goto 14, 3, 148), (.aload_n 0, 1, 0), (.iload_n 1, 1, 0), (.iload 5, 2, 0), (.iload 6, 2, 0), (.iload 7, 2, 0), (.invokevirtual 216, 3, 0), (.iastore, 1, 0), (.iinc 7 1, 3, 0), (.goto (-42), 3, 110), (.iinc 6 1, 3, 0), (.goto (-59), 3, 99), (.iconst 0, 1, 0), (.istore 6, 2, 0), (.iload 6, 2, 0), (.sipush 1900, 3, 0), (.if_icmp .ge 23, 3, 192), (.aload_n 0, 1, 0), (.getfield 54, 3, 0), (.iload 6, 2, 0), (.aload_n 0, 1, 0), (.getfield 51, 3, 0), (.iload 6, 2, 0), (.iaload, 1, 0), (.iastore, 1, 0), (.iinc 6 1, 3, 0), (.goto (-25), 3, 164), (.iinc 5 (-1), 3, 0), (.goto (-115), 3, 80), (.return_, 1, 0)]
theorem ok_X7_findWorths : okb cX7_findWorths 8 0 kdX7_findWorths = true := by decide +kernel
def kdX7_paceBy : List mI := [(.ldc 153, 2, 0), (.istore_n 2, 1, 0), (.bipush (-9), 2, 0), (.istore_n 3, 1, 0), (.bipush (-2), 2, 0), (.istore 4, 2, 0), (.iload 4, 2, 0), (.iconst 3, 1, 0), (.if_icmp .gt 81, 3, 94), (.aload_n 0, 1, 0), (.getfield 26, 3, 0), (.iconst 2, 1, 0), (.iaload, 1, 0), (.iload 4, 2, 0), (.invokestatic 208, 3, 0), (.ifCond .eq 31, 3, 58), (.aload_n 0, 1, 0), (.iload_n 1, 1, 0), (.aload_n 0, 1, 0), (.getfield 26, 3, 0), (.iconst 0, 1, 0), (.iaload, 1, 0), (.aload_n 0, 1, 0), (.getfield 26, 3, 0), (.iconst 1, 1, 0), (.iaload, 1, 0), (.aload_n 0, 1, 0), (.getfield 26, 3, 0), (.iconst 2, 1, 0), (.iaload, 1, 0), (.iload 4, 2, 0), (.invokevirtual 212, 3, 0), (.goto 5, 3, 60), (.ldc 153, 2, 0), (.istore 5, 2, 0), (.iload 5, 2, 0), (.iload_n 2, 1, 0), (.if_icmp .le 8, 3, 73), (.iload 4, 2, 0), (.goto 4, 3, 74), (.iload_n 3, 1, 0), (.istore_n 3, 1, 0), (.iload 5, 2, 0), (.iload_n 2, 1, 0), (.if_icmp .le 8, 3, 86), (.iload 5, 2, 0), (.goto 4, 3, 87), (.iload_n 2, 1, 0), (.istore_n 2, 1, 0), (.iinc 4 1, 3, 0), (.goto (-81), 3, 10), (.iload_n 3, 1, 0), (.ireturn, 1, 0)]
theorem ok_X7_paceBy : okb cX7_paceBy 6 0 kdX7_paceBy = true := by decide +kernel
def kdX7_daysOf : List mI := [(.iload_n 1, 1, 0), (.aload_n 0, 1, 0), (.getfield 144, 3, 0), (.aload_n 0, 1, 0), (.getfield 26, 3, 0), (.iconst 0, 1, 0), (.iaload, 1, 0), (.isub, 1, 0), (.invokestatic 170, 3, 0), (.ireturn, 1, 0)]
theorem ok_X7_daysOf : okb cX7_daysOf 2 0 kdX7_daysOf = true := by decide +kernel
def kdX7_soonest : List mI := [(.aload_n 0, 1, 0), (.getfield 26, 3, 0), (.iconst 1, 1, 0), (.iaload, 1, 0), (.istore_n 1, 1, 0), (.aload_n 0, 1, 0), (.getfield 26, 3, 0), (.iconst 2, 1, 0), (.iaload, 1, 0), (.istore_n 2, 1, 0), (.iconst 0, 1, 0), (.istore_n 3, 1, 0), (.iload_n 1, 1, 0), (.ifCond .le 54, 3, 71), (.iload_n 3, 1, 0), (.aload_n 0, 1, 0), (.getfield 144, 3, 0), (.aload_n 0, 1, 0), (.getfield 26, 3, 0), (.iconst 0, 1, 0), (.iaload, 1, 0), (.isub, 1, 0), (.if_icmp .ge 39, 3, 71), (.bipush 9, 2, 0), (.iload_n 2, 1, 0), (.isub, 1, 0), (.iconst 3, 1, 0), (.if_icmp .ge 10, 3, 50), (.bipush 9, 2, 0), (.iload_n 2, 1, 0), (.isub, 1, 0), (.goto 4, 3, 51), (.iconst 3, 1, 0), (.istore 4, 2, 0), (.iload_n 1, 1, 0), (.iload 4, 2, 0), (.invokestatic 182, 3, 0), (.istore_n 1, 1, 0), (.iload_n 2, 1, 0), (.iload 4, 2, 0), (.iadd, 1, 0), (.istore_n 2, 1, 0), (.iinc 3 1, 3, 0), (.goto (-52), 3, 16), (.iload_n 1, 1, 0), (.ifCond .le 8, 3, 80), (.bipush (-9), 2, 0), (.goto 4, 3, 81), (.iload_n 3, 1, 0), (.ireturn, 1, 0)]
theorem ok_X7_soonest : okb cX7_soonest 5 0 kdX7_soonest = true := by decide +kernel
def kdX7_lowest : List mI := [(.iload_n 0, 1, 0), (.istore_n 3, 1, 0), (.iload_n 1, 1, 0), (.istore 4, 2, 0), (.iload 4, 2, 0), (.ifCond .le 19, 3, 26), (.iload_n 3, 1, 0), (.iload 4, 2, 0), (.irem, 1, 0), (.istore 5, 2, 0), (.iload 4, 2, 0), (.istore_n 3, 1, 0), (.iload 5, 2, 0), (.istore 4, 2, 0), (.goto (-18), 3, 5), (.iload_n 2, 1, 0), (.ifCond .ne 7, 3, 34), (.iload_n 0, 1, 0), (.goto 4, 3, 35), (.iload_n 1, 1, 0), (.iload_n 3, 1, 0), (.idiv, 1, 0), (.ireturn, 1, 0)]
theorem ok_X7_lowest : okb cX7_lowest 6 0 kdX7_lowest = true := by decide +kernel
def kdX7_chance : List mI := [(.iload_n 1, 1, 0), (.iconst 0, 1, 0), (.bipush 8, 2, 0), (.invokestatic 66, 3, 0), (.ifCond .eq 12, 3, 19), (.iload_n 2, 1, 0), (.iconst 0, 1, 0), (.iconst 2, 1, 0), (.invokestatic 66, 3, 0), (.ifCond .ne 6, 3, 22), (.ldc 153, 2, 0), (.ireturn, 1, 0), (.aload_n 0, 1, 0), (.iload_n 1, 1, 0), (.invokevirtual 220, 3, 0), (.istore_n 3, 1, 0), (.aload_n 0, 1, 0), (.invokevirtual 161, 3, 0), (.ifCond .ne 7, 3, 39), (.iload_n 3, 1, 0), (.ifCond .ne 31, 3, 67), (.iload_n 2, 1, 0), (.iconst 2, 1, 0), (.if_icmp .ne 8, 3, 49), (.bipush (-9), 2, 0), (.goto 20, 3, 66), (.iload_n 2, 1, 0), (.iconst 1, 1, 0), (.if_icmp .eq 10, 3, 61), (.aload_n 0, 1, 0), (.invokevirtual 161, 3, 0), (.ifCond .eq 7, 3, 65), (.iconst 1, 1, 0), (.goto 4, 3, 66), (.iconst 0, 1, 0), (.ireturn, 1, 0), (.aload_n 0, 1, 0), (.iconst 0, 1, 0), (.iload_n 3, 1, 0), (.invokevirtual 223, 3, 0), (.iload_n 2, 1, 0), (.iconst 2, 1, 0), (.if_icmp .ne 9, 3, 84), (.aload_n 0, 1, 0), (.iconst 0, 1, 0), (.invokevirtual 227, 3, 0), (.ireturn, 1, 0), (.iconst 1, 1, 0), (.istore 4, 2, 0), (.iconst 0, 1, 0), (.istore 5, 2, 0), (.iload 5, 2, 0), (.iload_n 3, 1, 0), (.if_icmp .ge 16, 3, 109), (.iload 4, 2, 0), (.bipush 10, 2, 0), (.imul, 1, 0), (.istore 4, 2, 0), (.iinc 5 1, 3, 0), (.goto (-16), 3, 90), (.aload_n 0, 1, 0), (.iconst 0, 1, 0), (.aload_n 0, 1, 0), (.getfield 26, 3, 0), (.iconst 0, 1, 0), (.iaload, 1, 0), (.aload_n 0, 1, 0), (.getfield 26, 3, 0), (.iconst 1, 1, 0), (.iaload, 1, 0), (.aload_n 0, 1, 0), (.getfield 26, 3, 0), (.iconst 2, 1, 0), (.iaload, 1, 0), (.invokevirtual 216, 3, 0), (.iload 4, 2, 0), (.iload_n 2, 1, 0), (.invokestatic 230, 3, 0), (.ireturn, 1, 0)]
theorem ok_X7_chance : okb cX7_chance 6 0 kdX7_chance = true := by decide +kernel
def kdX7_safe : List mI := [(.iload_n 1, 1, 0), (.iconst 0, 1, 0), (.iconst 1, 1, 0), (.invokestatic 66, 3, 0), (.ifCond .ne 6, 3, 12), (.ldc 153, 2, 0), (.ireturn, 1, 0), (.aload_n 0, 1, 0), (.invokevirtual 176, 3, 0), (.ifCond .eq 14, 3, 30), (.iload_n 1, 1, 0), (.ifCond .ne 7, 3, 27), (.iconst 0, 1, 0), (.goto 5, 3, 29), (.bipush (-9), 2, 0), (.ireturn, 1, 0), (.aload_n 0, 1, 0), (.iconst 1, 1, 0), (.aload_n 0, 1, 0), (.getfield 144, 3, 0), (.aload_n 0, 1, 0), (.getfield 26, 3, 0), (.iconst 0, 1, 0), (.iaload, 1, 0), (.isub, 1, 0), (.invokevirtual 223, 3, 0), (.aload_n 0, 1, 0), (.iconst 1, 1, 0), (.aload_n 0, 1, 0), (.getfield 26, 3, 0), (.iconst 0, 1, 0), (.iaload, 1, 0), (.aload_n 0, 1, 0), (.getfield 26, 3, 0), (.iconst 1, 1, 0), (.iaload, 1, 0), (.aload_n 0, 1, 0), (.getfield 26, 3, 0), (.iconst 2, 1, 0), (.iaload, 1, 0), (.invokevirtual 216, 3, 0), (.istore_n 2, 1, 0), (.iload_n 2, 1, 0), (.ifCond .ge 8, 3, 79), (.bipush (-9), 2, 0), (.goto 16, 3, 92), (.iload_n 1, 1, 0), (.ifCond .ne 7, 3, 87), (.iload_n 2, 1, 0), (.goto 8, 3, 92), (.aload_n 0, 1, 0), (.iconst 1, 1, 0), (.invokevirtual 227, 3, 0), (.ireturn, 1, 0)]
theorem ok_X7_safe : okb cX7_safe 3 0 kdX7_safe = true := by decide +kernel
def kdX7_least : List mI := [(.iload_n 1, 1, 0), (.iconst 0, 1, 0), (.bipush 14, 2, 0), (.invokestatic 66, 3, 0), (.ifCond .eq 12, 3, 19), (.iload_n 2, 1, 0), (.iconst 0, 1, 0), (.iconst 1, 1, 0), (.invokestatic 66, 3, 0), (.ifCond .ne 6, 3, 22), (.ldc 153, 2, 0), (.ireturn, 1, 0), (.aload_n 0, 1, 0), (.invokevirtual 161, 3, 0), (.ifCond .eq 14, 3, 40), (.iload_n 2, 1, 0), (.ifCond .ne 7, 3, 37), (.iconst 0, 1, 0), (.goto 5, 3, 39), (.bipush (-9), 2, 0), (.ireturn, 1, 0), (.aload_n 0, 1, 0), (.iload_n 1, 1, 0), (.invokevirtual 220, 3, 0), (.istore_n 3, 1, 0), (.iload_n 3, 1, 0), (.ifCond .ne 6, 3, 53), (.bipush (-9), 2, 0), (.ireturn, 1, 0), (.aload_n 0, 1, 0), (.iconst 2, 1, 0), (.iload_n 3, 1, 0), (.invokevirtual 223, 3, 0), (.aload_n 0, 1, 0), (.iconst 2, 1, 0), (.aload_n 0, 1, 0), (.getfield 26, 3, 0), (.iconst 0, 1, 0), (.iaload, 1, 0), (.aload_n 0, 1, 0), (.getfield 26, 3, 0), (.iconst 1, 1, 0), (.iaload, 1, 0), (.aload_n 0, 1, 0), (.getfield 26, 3, 0), (.iconst 2, 1, 0), (.iaload, 1, 0), (.invokevirtual 216, 3, 0), (.istore 4, 2, 0), (.iload 4, 2, 0), (.ldc 153, 2, 0), (.if_icmp .ne 8, 3, 96), (.bipush (-9), 2, 0), (.goto 18, 3, 111), (.iload_n 2, 1, 0), (.ifCond .ne 9, 3, 106), (.iload 4, 2, 0), (.ineg, 1, 0), (.goto 8, 3, 111), (.aload_n 0, 1, 0), (.iconst 2, 1, 0), (.invokevirtual 227, 3, 0), (.ireturn, 1, 0)]
theorem ok_X7_least : okb cX7_least 5 0 kdX7_least = true := by decide +kernel
def kdX7_catches : List mI := [(.iload_n 1, 1, 0), (.invokestatic 173, 3, 0), (.ifCond .ne 5, 3, 9), (.iconst (-1), 1, 0), (.ireturn, 1, 0), (.aload_n 0, 1, 0), (.invokevirtual 176, 3, 0), (.ifCond .eq 6, 3, 19), (.bipush (-9), 2, 0), (.ireturn, 1, 0), (.aload_n 0, 1, 0), (.getfield 26, 3, 0), (.iconst 2, 1, 0), (.iaload, 1, 0), (.istore_n 2, 1, 0), (.aload_n 0, 1, 0), (.getfield 26, 3, 0), (.iconst 1, 1, 0), (.iaload, 1, 0), (.istore_n 3, 1, 0), (.iconst 0, 1, 0), (.istore 4, 2, 0), (.iload 4, 2, 0), (.aload_n 0, 1, 0), (.getfield 144, 3, 0), (.aload_n 0, 1, 0), (.getfield 26, 3, 0), (.iconst 0, 1, 0), (.iaload, 1, 0), (.isub, 1, 0), (.if_icmp .gt 52, 3, 101), (.iload_n 2, 1, 0), (.invokestatic 164, 3, 0), (.bipush 9, 2, 0), (.if_icmp .le 6, 3, 64), (.bipush (-9), 2, 0), (.ireturn, 1, 0), (.iload_n 2, 1, 0), (.invokestatic 164, 3, 0), (.aload_n 0, 1, 0), (.getfield 19, 3, 0), (.if_icmp .le 6, 3, 78), (.iload 4, 2, 0), (.ireturn, 1, 0), (.iload_n 3, 1, 0), (.ifCond .ne 6, 3, 85), (.bipush (-9), 2, 0), (.ireturn, 1, 0), (.iload_n 2, 1, 0), (.iload_n 1, 1, 0), (.iadd, 1, 0), (.istore_n 2, 1, 0), (.iload_n 3, 1, 0), (.iload_n 1, 1, 0), (.invokestatic 182, 3, 0), (.istore_n 3, 1, 0), (.iinc 4 1, 3, 0), (.goto (-62), 3, 36), (.bipush (-9), 2, 0), (.ireturn, 1, 0)]
theorem ok_X7_catches : okb cX7_catches 5 0 kdX7_catches = true := by decide +kernel
def kdX7_hears : List mI := [(.iload_n 1, 1, 0), (.iconst 0, 1, 0), (.bipush 13, 2, 0), (.invokestatic 66, 3, 0), (.ifCond .eq 23, 3, 30), (.iload_n 2, 1, 0), (.bipush (-9), 2, 0), (.bipush 9, 2, 0), (.invokestatic 66, 3, 0), (.ifCond .eq 12, 3, 30), (.iload_n 3, 1, 0), (.iconst 0, 1, 0), (.iconst 3, 1, 0), (.invokestatic 66, 3, 0), (.ifCond .ne 5, 3, 32), (.iconst (-1), 1, 0), (.ireturn, 1, 0), (.aload_n 0, 1, 0), (.getfield 150, 3, 0), (.bipush 6, 2, 0), (.if_icmp .ne 6, 3, 44), (.bipush (-3), 2, 0), (.ireturn, 1, 0), (.aload_n 0, 1, 0), (.getfield 36, 3, 0), (.iconst 3, 1, 0), (.aload_n 0, 1, 0), (.getfield 150, 3, 0), (.imul, 1, 0), (.iload_n 1, 1, 0), (.iastore, 1, 0), (.aload_n 0, 1, 0), (.getfield 36, 3, 0), (.iconst 3, 1, 0), (.aload_n 0, 1, 0), (.getfield 150, 3, 0), (.imul, 1, 0), (.iconst 1, 1, 0), (.iadd, 1, 0), (.iload_n 2, 1, 0), (.iastore, 1, 0), (.aload_n 0, 1, 0), (.getfield 36, 3, 0), (.iconst 3, 1, 0), (.aload_n 0, 1, 0), (.getfield 150, 3, 0), (.imul, 1, 0), (.iconst 2, 1, 0), (.iadd, 1, 0), (.iload_n 3, 1, 0), (.iastore, 1, 0), (.aload_n 0, 1, 0), (.dup, 1, 0), (.getfield 150, 3, 0), (.iconst 1, 1, 0), (.iadd, 1, 0), (.putfield 150, 3, 0), (.aload_n 0, 1, 0), (.getfield 150, 3, 0), (.ireturn, 1, 0)]
theorem ok_X7_hears : okb cX7_hears 4 0 kdX7_hears = true := by decide +kernel
def kdX7_forget : List mI := [(.aload_n 0, 1, 0), (.getfield 150, 3, 0), (.istore_n 1, 1, 0), (.aload_n 0, 1, 0), (.iconst 0, 1, 0), (.putfield 150, 3, 0), (.iload_n 1, 1, 0), (.ireturn, 1, 0)]
theorem ok_X7_forget : okb cX7_forget 2 0 kdX7_forget = true := by decide +kernel
def kdX7_isHeard : List mI := [(.iload_n 2, 1, 0), (.invokestatic 164, 3, 0), (.bipush 9, 2, 0), (.if_icmp .gt 7, 3, 13), (.iconst 1, 1, 0), (.goto 4, 3, 14), (.iconst 0, 1, 0), (.istore_n 3, 1, 0), (.iconst 0, 1, 0), (.istore 4, 2, 0), (.iload 4, 2, 0), (.aload_n 0, 1, 0), (.getfield 150, 3, 0), (.if_icmp .ge 62, 3, 86), (.iload_n 3, 1, 0), (.ifCond .eq 50, 3, 78), (.aload_n 0, 1, 0), (.getfield 36, 3, 0), (.iconst 3, 1, 0), (.iload 4, 2, 0), (.imul, 1, 0), (.iaload, 1, 0), (.iload_n 1, 1, 0), (.if_icmp .ne 33, 3, 74), (.iload_n 2, 1, 0), (.aload_n 0, 1, 0), (.getfield 36, 3, 0), (.iconst 3, 1, 0), (.iload 4, 2, 0), (.imul, 1, 0), (.iconst 1, 1, 0), (.iadd, 1, 0), (.iaload, 1, 0), (.isub, 1, 0), (.invokestatic 164, 3, 0), (.aload_n 0, 1, 0), (.getfield 36, 3, 0), (.iconst 3, 1, 0), (.iload 4, 2, 0), (.imul, 1, 0), (.iconst 2, 1, 0), (.iadd, 1, 0), (.iaload, 1, 0), (.if_icmp .gt 7, 3, 78), (.iconst 1, 1, 0), (.goto 4, 3, 79), (.iconst 0, 1, 0), (.istore_n 3, 1, 0), (.iinc 4 1, 3, 0), (.goto (-65), 3, 18), (.iload_n 3, 1, 0), (.ireturn, 1, 0)]
theorem ok_X7_isHeard : okb cX7_isHeard 5 0 kdX7_isHeard = true := by decide +kernel
def kdX7_comeTo : List mI := [(.iload_n 1, 1, 0), (.ifCond .ge 15, 3, 16), (.iload_n 2, 1, 0), (.ifCond .ne 7, 3, 12), (.iconst 1, 1, 0), (.goto 34, 3, 43), (.iconst 0, 1, 0), (.goto 30, 3, 43), (.iload_n 2, 1, 0), (.invokestatic 164, 3, 0), (.bipush 9, 2, 0), (.if_icmp .le 7, 3, 29), (.iconst 0, 1, 0), (.goto 17, 3, 43), (.aload_n 0, 1, 0), (.getfield 57, 3, 0), (.bipush 19, 2, 0), (.iload_n 1, 1, 0), (.imul, 1, 0), (.iload_n 2, 1, 0), (.iadd, 1, 0), (.bipush 9, 2, 0), (.iadd, 1, 0), (.iaload, 1, 0), (.ireturn, 1, 0)]
theorem ok_X7_comeTo : okb cX7_comeTo 3 0 kdX7_comeTo = true := by decide +kernel
def kdX7_goFrom : List mI := [(.iload_n 2, 1, 0), (.invokestatic 164, 3, 0), (.bipush 9, 2, 0), (.if_icmp .le 7, 3, 13), (.iconst 0, 1, 0), (.goto 17, 3, 27), (.aload_n 0, 1, 0), (.getfield 60, 3, 0), (.bipush 19, 2, 0), (.iload_n 1, 1, 0), (.imul, 1, 0), (.iload_n 2, 1, 0), (.iadd, 1, 0), (.bipush 9, 2, 0), (.iadd, 1, 0), (.iaload, 1, 0), (.ireturn, 1, 0)]
theorem ok_X7_goFrom : okb cX7_goFrom 3 0 kdX7_goFrom = true := by decide +kernel
def kdX7_findHeard : List mI := [(.iconst 0, 1, 0), (.istore_n 2, 1, 0), (.iload_n 2, 1, 0), (.bipush 14, 2, 0), (.if_icmp .ge 108, 3, 113), (.bipush (-9), 2, 0), (.istore_n 3, 1, 0), (.iload_n 3, 1, 0), (.bipush 9, 2, 0), (.if_icmp .gt 93, 3, 107), (.iconst 0, 1, 0), (.istore 4, 2, 0), (.bipush (-2), 2, 0), (.istore 5, 2, 0), (.iload 5, 2, 0), (.iconst 3, 1, 0), (.if_icmp .gt 25, 3, 52), (.iload 4, 2, 0), (.aload_n 0, 1, 0), (.iload_n 2, 1, 0), (.iconst 1, 1, 0), (.isub, 1, 0), (.iload_n 3, 1, 0), (.iload 5, 2, 0), (.isub, 1, 0), (.invokevirtual 234, 3, 0), (.iadd, 1, 0), (.istore 4, 2, 0), (.iinc 5 1, 3, 0), (.goto (-25), 3, 24), (.aload_n 0, 1, 0), (.getfield 57, 3, 0), (.bipush 19, 2, 0), (.iload_n 2, 1, 0), (.imul, 1, 0), (.iload_n 3, 1, 0), (.iadd, 1, 0), (.bipush 9, 2, 0), (.iadd, 1, 0), (.aload_n 0, 1, 0), (.iload_n 2, 1, 0), (.iload_n 3, 1, 0), (.invokevirtual 237, 3, 0), (.ifCond .ne 7, 3, 78), (.iconst 0, 1, 0), (.goto 25, 3, 100), (.iload_n 1, 1, 0), (.ifCond .eq 11, 3, 90), (.iload 4, 2, 0), (.ldc 240, 2, 0), (.irem, 1, 0), (.goto 13, 3, 100), (.iload 4, 2, 0), (.ifCond .le 7, 3, 99), (.iconst 1, 1, 0), (.goto 4, 3, 100), (.iconst 0, 1, 0), (.iastore, 1, 0), (.iinc 3 1, 3, 0), (.goto (-93), 3, 11), (.iinc 2 1, 3, 0), (.goto (-108), 3, 2), (.bipush 13, 2, 0), (.istore_n 2, 1, 0), (.iload_n 2, 1, 0), (.ifCond .lt 108, 3, 225), (.bipush (-9), 2, 0), (.istore_n 3, 1, 0), (.iload_n 3, 1, 0), (.bipush 9, 2, 0), (.if_icmp .gt 93, 3, 219), (.iload_n 2, 1, 0), (.bipush 13, 2, 0), (.if_icmp .ne 7, 3, 139), (.iconst 1, 1, 0), (.goto 4, 3, 140), (.iconst 0, 1, 0), (.istore 4, 2, 0), (.bipush (-2), 2, 0), (.istore 5, 2, 0), (.iload 5, 2, 0), (.iconst 3, 1, 0), (.if_icmp .gt 31, 3, 180), (.iload_n 2, 1, 0), (.bipush 13, 2, 0), (.if_icmp .ge 25, 3, 180), (.iload 4, 2, 0), (.aload_n 0, 1, 0), (.iload_n 2, 1, 0), (.iconst 1, 1, 0), (.iadd, 1, 0), (.iload_n 3, 1, 0), (.iload 5, 2, 0), (.iadd, 1, 0), (.invokevirtual 241, 3, 0), (.iadd, 1, 0), (.istore 4, 2, 0), (.iinc 5 1, 3, 0), (.goto (-31), 3, 146), (.aload_n 0, 1, 0), (.getfield 60, 3, 0), (.bipush 19, 2, 0), (.iload_n 2, 1, 0), (.imul, 1, 0), (.iload_n 3, 1, 0), (.iadd, 1, 0), (.bipush 9, 2, 0), (.iadd, 1, 0), (.aload_n 0, 1, 0), (.iload_n 2, 1, 0), (.iload_n 3, 1, 0), (.invokevirtual 237, 3, 0), (.ifCond .eq 12, 3, 211), (.iload 4, 2, 0), (.ifCond .le 7, 3, 211), (.iconst 1, 1, 0), (.goto 4, 3, 212), (.iconst 0, 1, 0), (.iastore, 1, 0), (.iinc 3 1, 3, 0), (.goto (-93), 3, 123), (.iinc 2 (-1), 3, 0), (.goto (-106), 3, 116), (.return_, 1, 0)]
theorem ok_X7_findHeard : okb cX7_findHeard 6 0 kdX7_findHeard = true := by decide +kernel
def kdX7_couldOf : List mI := [(.iconst 0, 1, 0), (.istore_n 2, 1, 0), (.iconst 0, 1, 0), (.istore_n 3, 1, 0), (.iload_n 3, 1, 0), (.bipush 19, 2, 0), (.if_icmp .ge 37, 3, 44), (.iload_n 2, 1, 0), (.aload_n 0, 1, 0), (.getfield 57, 3, 0), (.bipush 19, 2, 0), (.iload_n 1, 1, 0), (.imul, 1, 0), (.iload_n 3, 1, 0), (.iadd, 1, 0), (.iaload, 1, 0), (.aload_n 0, 1, 0), (.getfield 60, 3, 0), (.bipush 19, 2, 0), (.iload_n 1, 1, 0), (.imul, 1, 0), (.iload_n 3, 1, 0), (.iadd, 1, 0), (.iaload, 1, 0), (.imul, 1, 0), (.iload_n 3, 1, 0), (.ishl, 1, 0), (.ior, 1, 0), (.istore_n 2, 1, 0), (.iinc 3 1, 3, 0), (.goto (-37), 3, 4), (.iload_n 2, 1, 0), (.ireturn, 1, 0)]
theorem ok_X7_couldOf : okb cX7_couldOf 4 0 kdX7_couldOf = true := by decide +kernel
def kdX7_could : List mI := [(.iload_n 1, 1, 0), (.iconst 0, 1, 0), (.bipush 13, 2, 0), (.invokestatic 66, 3, 0), (.ifCond .ne 5, 3, 12), (.iconst (-1), 1, 0), (.ireturn, 1, 0), (.aload_n 0, 1, 0), (.iconst 0, 1, 0), (.invokevirtual 244, 3, 0), (.aload_n 0, 1, 0), (.iload_n 1, 1, 0), (.invokevirtual 248, 3, 0), (.ireturn, 1, 0)]
theorem ok_X7_could : okb cX7_could 2 0 kdX7_could = true := by decide +kernel
def kdX7_ways : List mI := [(.aload_n 0, 1, 0), (.iconst 1, 1, 0), (.invokevirtual 244, 3, 0), (.iconst 0, 1, 0), (.istore_n 1, 1, 0), (.iconst 0, 1, 0), (.istore_n 2, 1, 0), (.iload_n 2, 1, 0), (.bipush 19, 2, 0), (.if_icmp .ge 22, 3, 34), (.iload_n 1, 1, 0), (.aload_n 0, 1, 0), (.getfield 57, 3, 0), (.sipush 247, 3, 0), (.iload_n 2, 1, 0), (.iadd, 1, 0), (.iaload, 1, 0), (.iadd, 1, 0), (.istore_n 1, 1, 0), (.iinc 2 1, 3, 0), (.goto (-22), 3, 9), (.iload_n 1, 1, 0), (.ldc 240, 2, 0), (.irem, 1, 0), (.ireturn, 1, 0)]
theorem ok_X7_ways : okb cX7_ways 3 0 kdX7_ways = true := by decide +kernel
def kdX7_ask : List mI := [(.aload_n 0, 1, 0), (.iconst 0, 1, 0), (.invokevirtual 244, 3, 0), (.bipush (-9), 2, 0), (.istore_n 1, 1, 0), (.iconst 0, 1, 0), (.istore_n 2, 1, 0), (.iconst 0, 1, 0), (.istore_n 3, 1, 0), (.iload_n 3, 1, 0), (.bipush 14, 2, 0), (.if_icmp .ge 72, 3, 87), (.iconst 0, 1, 0), (.istore 4, 2, 0), (.aload_n 0, 1, 0), (.iload_n 3, 1, 0), (.invokevirtual 248, 3, 0), (.istore 5, 2, 0), (.iconst 0, 1, 0), (.istore 6, 2, 0), (.iload 6, 2, 0), (.bipush 19, 2, 0), (.if_icmp .ge 21, 3, 56), (.iload 4, 2, 0), (.iload 5, 2, 0), (.iload 6, 2, 0), (.ishr, 1, 0), (.iconst 1, 1, 0), (.iand, 1, 0), (.iadd, 1, 0), (.istore 4, 2, 0), (.iinc 6 1, 3, 0), (.goto (-22), 3, 31), (.iload 4, 2, 0), (.iload_n 2, 1, 0), (.if_icmp .le 7, 3, 66), (.iload_n 3, 1, 0), (.goto 4, 3, 67), (.iload_n 1, 1, 0), (.istore_n 1, 1, 0), (.iload 4, 2, 0), (.iload_n 2, 1, 0), (.if_icmp .le 8, 3, 79), (.iload 4, 2, 0), (.goto 4, 3, 80), (.iload_n 2, 1, 0), (.istore_n 2, 1, 0), (.iinc 3 1, 3, 0), (.goto (-72), 3, 12), (.iload_n 1, 1, 0), (.ireturn, 1, 0)]
theorem ok_X7_ask : okb cX7_ask 7 0 kdX7_ask = true := by decide +kernel
def kdX7_mark : List mI := [(.iload_n 1, 1, 0), (.iconst 0, 1, 0), (.iconst 5, 1, 0), (.invokestatic 66, 3, 0), (.ifCond .eq 11, 3, 17), (.aload_n 0, 1, 0), (.iload_n 2, 1, 0), (.invokevirtual 154, 3, 0), (.ifCond .ne 6, 3, 20), (.ldc 153, 2, 0), (.ireturn, 1, 0), (.aload_n 0, 1, 0), (.getfield 16, 3, 0), (.iconst 2, 1, 0), (.iload_n 2, 1, 0), (.imul, 1, 0), (.iaload, 1, 0), (.istore_n 3, 1, 0), (.iload_n 3, 1, 0), (.aload_n 0, 1, 0), (.getfield 26, 3, 0), (.iconst 4, 1, 0), (.iload_n 2, 1, 0), (.iadd, 1, 0), (.iaload, 1, 0), (.iadd, 1, 0), (.istore 4, 2, 0), (.iload_n 3, 1, 0), (.aload_n 0, 1, 0), (.getfield 26, 3, 0), (.iconst 2, 1, 0), (.iaload, 1, 0), (.isub, 1, 0), (.istore 5, 2, 0), (.iload_n 1, 1, 0), (.tableswitch 121 1 5 #[36, 51, 66, 83, 100], 36, 0), (.aload_n 0, 1, 0), (.dup, 1, 0), (.getfield 251, 3, 0), (.ldc2_w 255, 3, 0), (.ladd, 1, 0), (.putfield 251, 3, 0), (.iload 4, 2, 0), (.ireturn, 1, 0), (.aload_n 0, 1, 0), (.dup, 1, 0), (.getfield 251, 3, 0), (.ldc2_w 257, 3, 0), (.ladd, 1, 0), (.putfield 251, 3, 0), (.iload 5, 2, 0), (.ireturn, 1, 0), (.aload_n 0, 1, 0), (.dup, 1, 0), (.getfield 251, 3, 0), (.ldc2_w 259, 3, 0), (.ladd, 1, 0), (.putfield 251, 3, 0), (.iconst 2, 1, 0), (.iload 4, 2, 0), (.imul, 1, 0), (.ireturn, 1, 0), (.aload_n 0, 1, 0), (.dup, 1, 0), (.getfield 251, 3, 0), (.ldc2_w 261, 3, 0), (.ladd, 1, 0), (.putfield 251, 3, 0), (.iload 5, 2, 0), (.iload_n 2, 1, 0), (.iadd, 1, 0), (.ireturn, 1, 0), (.aload_n 0, 1, 0), (.dup, 1, 0), (.getfield 251, 3, 0), (.ldc2_w 263, 3, 0), (.ladd, 1, 0), (.putfield 251, 3, 0), (.iload_n 3, 1, 0), (.aload_n 0, 1, 0), (.getfield 26, 3, 0), (.iconst 3, 1, 0), (.iaload, 1, 0), (.iadd, 1, 0), (.ireturn, 1, 0), (.aload_n 0, 1, 0), (.dup, 1, 0), (.getfield 251, 3, 0), (.lconst 1, 1, 0), (.ladd, 1, 0), (.putfield 251, 3, 0), (.iload_n 3, 1, 0), (.ireturn, 1, 0)]
theorem ok_X7_mark : okb cX7_mark 6 0 kdX7_mark = true := by decide +kernel
def kdX7_keep : List mI := [(.iload_n 1, 1, 0), (.iconst 0, 1, 0), (.iconst 1, 1, 0), (.invokestatic 66, 3, 0), (.ifCond .ne 5, 3, 11), (.iconst (-1), 1, 0), (.ireturn, 1, 0), (.iconst 0, 1, 0), (.istore_n 2, 1, 0), (.iload_n 2, 1, 0), (.bipush 100, 2, 0), (.if_icmp .ge 26, 3, 42), (.aload_n 0, 1, 0), (.getfield 29, 3, 0), (.bipush 100, 2, 0), (.iload_n 1, 1, 0), (.imul, 1, 0), (.iload_n 2, 1, 0), (.iadd, 1, 0), (.aload_n 0, 1, 0), (.getfield 26, 3, 0), (.iload_n 2, 1, 0), (.iaload, 1, 0), (.iastore, 1, 0), (.iinc 2 1, 3, 0), (.goto (-26), 3, 13), (.aload_n 0, 1, 0), (.getfield 32, 3, 0), (.iload_n 1, 1, 0), (.iconst 1, 1, 0), (.bastore, 1, 0), (.aload_n 0, 1, 0), (.getfield 26, 3, 0), (.iconst 0, 1, 0), (.iaload, 1, 0), (.ireturn, 1, 0)]
theorem ok_X7_keep : okb cX7_keep 3 0 kdX7_keep = true := by decide +kernel
def kdX7_back : List mI := [(.iload_n 1, 1, 0), (.iconst 0, 1, 0), (.iconst 1, 1, 0), (.invokestatic 66, 3, 0), (.ifCond .ne 5, 3, 11), (.iconst (-1), 1, 0), (.ireturn, 1, 0), (.aload_n 0, 1, 0), (.getfield 32, 3, 0), (.iload_n 1, 1, 0), (.baload, 1, 0), (.ifCond .ne 6, 3, 23), (.bipush (-2), 2, 0), (.ireturn, 1, 0), (.iconst 0, 1, 0), (.istore_n 2, 1, 0), (.iload_n 2, 1, 0), (.bipush 100, 2, 0), (.if_icmp .ge 26, 3, 54), (.aload_n 0, 1, 0), (.getfield 26, 3, 0), (.iload_n 2, 1, 0), (.aload_n 0, 1, 0), (.getfield 29, 3, 0), (.bipush 100, 2, 0), (.iload_n 1, 1, 0), (.imul, 1, 0), (.iload_n 2, 1, 0), (.iadd, 1, 0), (.iaload, 1, 0), (.iastore, 1, 0), (.iinc 2 1, 3, 0), (.goto (-26), 3, 25), (.aload_n 0, 1, 0), (.getfield 26, 3, 0), (.iconst 0, 1, 0), (.iaload, 1, 0), (.ireturn, 1, 0)]
theorem ok_X7_back : okb cX7_back 3 0 kdX7_back = true := by decide +kernel
def kdX7_count : List mI := [(.iload_n 1, 1, 0), (.tableswitch 90 0 7 #[47, 52, 57, 62, 67, 72, 77, 85], 47, 0), (.aload_n 0, 1, 0), (.getfield 144, 3, 0), (.ireturn, 1, 0), (.aload_n 0, 1, 0), (.getfield 147, 3, 0), (.ireturn, 1, 0), (.aload_n 0, 1, 0), (.getfield 63, 3, 0), (.ireturn, 1, 0), (.aload_n 0, 1, 0), (.getfield 19, 3, 0), (.ireturn, 1, 0), (.aload_n 0, 1, 0), (.getfield 23, 3, 0), (.ireturn, 1, 0), (.aload_n 0, 1, 0), (.getfield 150, 3, 0), (.ireturn, 1, 0), (.aload_n 0, 1, 0), (.getfield 26, 3, 0), (.bipush 9, 2, 0), (.iaload, 1, 0), (.ireturn, 1, 0), (.aload_n 0, 1, 0), (.getfield 70, 3, 0), (.ireturn, 1, 0), (.iconst (-1), 1, 0), (.ireturn, 1, 0)]
theorem ok_X7_count : okb cX7_count 2 0 kdX7_count = true := by decide +kernel
def kdX7_trace : List mI := [(.aload_n 0, 1, 0), (.getfield 251, 3, 0), (.lreturn, 1, 0)]
theorem ok_X7_trace : okb cX7_trace 1 0 kdX7_trace = true := by decide +kernel
def kdJ6_bitCount_0f7a4 : List mI := [(.iload_n 0, 1, 0), (.iload_n 0, 1, 0), (.iconst 1, 1, 0), (.iushr, 1, 0), (.ldc_w 265, 3, 0), (.iand, 1, 0), (.isub, 1, 0), (.istore_n 0, 1, 0), (.iload_n 0, 1, 0), (.ldc_w 266, 3, 0), (.iand, 1, 0), (.iload_n 0, 1, 0), (.iconst 2, 1, 0), (.iushr, 1, 0), (.ldc_w 266, 3, 0), (.iand, 1, 0), (.iadd, 1, 0), (.istore_n 0, 1, 0), (.iload_n 0, 1, 0), (.iload_n 0, 1, 0), (.iconst 4, 1, 0), (.iushr, 1, 0), (.iadd, 1, 0), (.ldc_w 267, 3, 0), (.iand, 1, 0), (.istore_n 0, 1, 0), (.iload_n 0, 1, 0), (.iload_n 0, 1, 0), (.bipush 8, 2, 0), (.iushr, 1, 0), (.iadd, 1, 0), (.istore_n 0, 1, 0), (.iload_n 0, 1, 0), (.iload_n 0, 1, 0), (.bipush 16, 2, 0), (.iushr, 1, 0), (.iadd, 1, 0), (.istore_n 0, 1, 0), (.iload_n 0, 1, 0), (.bipush 63, 2, 0), (.iand, 1, 0), (.ireturn, 1, 0)]
theorem ok_J6_bitCount_0f7a4 : okb cJ6_bitCount_0f7a4 1 0 kdJ6_bitCount_0f7a4 = true := by decide +kernel
end
section
/-! Math, arraycopy, ends; the rules in one bundle -/
def mcat : List mV → Nat
  | [] => 0
  | .inr (.inl _) :: r => 2 + mcat r
  | .inl _ :: r => 1 + mcat r
  | .inr (.inr _) :: r => 1 + mcat r
theorem cVlen {ad : Nat → Nat} : ∀ {st : List mV}, ((st.map (cV ad)).map fun v => v.category).sum = mcat st
  | [] => rfl
  | .inl a :: r => by
    have h1 := cVlen (ad := ad) (st := r)
    show 1 + _ = 1 + mcat r
    rw [← h1]; rfl
  | .inr (.inl a) :: r => by
    have h1 := cVlen (ad := ad) (st := r)
    show 2 + _ = 2 + mcat r
    rw [← h1]; rfl
  | .inr (.inr none) :: r => by
    have h1 := cVlen (ad := ad) (st := r)
    show 1 + _ = 1 + mcat r
    rw [← h1]; rfl
  | .inr (.inr (some a)) :: r => by
    have h1 := cVlen (ad := ad) (st := r)
    show 1 + _ = 1 + mcat r
    rw [← h1]; rfl
section CALL
variable {p : Program} {l : Launch} {e : Env} {R : Room} {s : State} {m : MethodId} {args : Array Value} {below : List Frame} {meth : Method} {c : Code} {Q : State → Prop}
variable {dC : Nat → ClassId} {dI : Nat → Nat → Nat} {cI cZ : ClassId} {ad : Nat → Nat} {A : Nat → Prop} {H0 : Heap} {nL : Nat} {cc : ByteArray} {own : String}
variable {pc : Nat} {L : mL} {h : mH} {idx : Nat} {y : MethodName} {b : ByteArray} {nL' : Nat} {ret : Option FieldType} {d d' : Nat} {As rest : List mV} {a : Nat}
theorem cw_free {H : Heap} {locs : List Loc} (hD : va_D A (cW ad cI cZ h)) (hS : va_S A H0 H locs) (hA : ∀ q, H0.size ≤ q → A q) : ∀ q, va_A (cW ad cI cZ h) H.size q → A q := by
  intro q hq
  rcases hq with ⟨k, e, he⟩ | hq
  · exact hD.2 k (q, e) he
  · exact hA q (Nat.le_trans hS.1 hq)
theorem cwB (hts : ∀ w ∈ mtb, w.before args s = true) (hf : mfA y b nL' ret As.length) (hl : mlk own idx y) (hd : d' < d) (hR : R.frames = d ∧ R.locals = 32 * d) : CallB R s args own idx y b nL' ret (mws y b nL' ret) (rmD d') 0 0 As.length := by
  obtain ⟨h1, h2, h3, h4, -⟩ := hf
  refine callB_of _ hts (tbl_in ?_) rfl rfl rfl (hts _ h1) (hts _ hl) h3 ?_
  · intro w hw
    rcases List.mem_cons.mp hw with rfl | hw
    · exact h2
    · exact hw
  · show d' + 1 ≤ R.frames ∧ 8 + (nL' + 11) + 32 * d' ≤ R.locals
    rw [hR.1, hR.2]; omega
theorem mpre_of {H : Heap} (hN : mNst s) (hK : va_K (dC, dI) mcl (mtys cI cZ) s) (hP : va_P (dC, dI) mcl (cW ad cI cZ h) H) (hD : va_D A (cW ad cI cZ h)) {v : Array Value} (hv : v = (As.map (cV ad)).toArray) : ∀ U : State, U.heap = H → s.WarmedH U.vm → mPre dC dI cI cZ ad H.size As h v U := fun U hU hW =>
  ⟨hv, by rw [hU], by rw [hU]; exact hP, va_K.moved hW.alike hK, hD.weaken (fun _ _ _ _ => trivial), hN.warm hW⟩
theorem map_rev {f : mV → Value} {As rest : List mV} {x : mV} : (As.reverse ++ x :: rest).map f = (As.map f).reverse ++ f x :: rest.map f := by simp
theorem map_revS {f : mV → Value} {As rest : List mV} : (As.reverse ++ rest).map f = (As.map f).reverse ++ rest.map f := by simp
theorem call_V (C : mCtx p s m args c dC dI cI cZ cc own nL) (hA : ∀ q, H0.size ≤ q → A q) (hR : R.frames = d ∧ R.locals = 32 * d) (hdg : decode cc pc = .ok (.invokevirtual idx, 3)) (hf : mfV y b nL' ret As.length) (hl : mlk own idx y) (hd : d' < d) (hr : mcat rest ≤ 8) (hv : mrv h a y.cls) {post : Int → mH → Prop} (hsp : SpI l d' y b nL' ret (mr a :: As) h post)
    (kk : ∀ z h', post z h' → mG p l e R s m args below meth c Q dC dI cI cZ ad A H0 nL (pc + 3) L (mi z :: rest) h') : mG p l e R s m args below meth c Q dC dI cI cZ ad A H0 nL pc L (As.reverse ++ mr a :: rest) h := by
  obtain ⟨hx, hb, hown, hts, hw, hml, hnst⟩ := C
  intro H locs ls hP hD hS hL
  have hFc := cw_free hD hS hA
  obtain ⟨ci, fs, q, v1, v2, v3⟩ := hv
  have hcw : CallW R s args own y.cls idx y b nL' ret (mws y b nL' ret) (rmD d') 0 0 As.length := ⟨cwB hts hf.1 hl hd hR, hts _ hf.2.1, hts _ hf.2.2⟩
  have hrc := va_recv hw hP v2 (cW_get v1)
  rw [v3] at hrc
  have hrun := va_runV (As := As.map (cV ad)) (rest := rest.map (cV ad)) (b := ad a) (g := F0 m pc ls ((As.reverse ++ mr a :: rest).map (cV ad))) (R := R) (locs := locs) (cells := 0) (slots := 0) (meth := meth) (below := below) (e := e) ⟨hx, hb, hml, hown, hts⟩ (hsp dC dI cI cZ ad H.size) hcw ⟨mFB, hrc, mpre_of hnst hw hP hD rfl⟩ rfl (List.length_map _) hL.2.1 map_rev (lv_room (by rw [cVlen]; exact hr)) hdg ⟨Nat.zero_le _, Nat.zero_le _⟩
  refine va_calli hrun hS (fun q _ h => hFc q h) hFc (fun r u t H1 locs1 ht hvm hz hB hz1 hk1 hS1 => ?_)
  obtain ⟨z, rfl, hpost⟩ := hz
  obtain ⟨hP1, hK1, hD1⟩ := hB
  rw [ht] at hP1
  exact kk z u hpost H1 locs1 ls hP1 (hD1.weaken (fun k q _ h => hFc q.1 h)) hS1 hL
theorem call_VV (C : mCtx p s m args c dC dI cI cZ cc own nL) (hA : ∀ q, H0.size ≤ q → A q) (hR : R.frames = d ∧ R.locals = 32 * d) (hdg : decode cc pc = .ok (.invokevirtual idx, 3)) (hf : mfV y b nL' ret As.length) (hl : mlk own idx y) (hd : d' < d) (hr : mcat rest ≤ 8) (hv : mrv h a y.cls) {post : mH → Prop} (hsp : SpV l d' y b nL' ret (mr a :: As) h post)
    (kk : ∀ h', post h' → mG p l e R s m args below meth c Q dC dI cI cZ ad A H0 nL (pc + 3) L rest h') : mG p l e R s m args below meth c Q dC dI cI cZ ad A H0 nL pc L (As.reverse ++ mr a :: rest) h := by
  obtain ⟨hx, hb, hown, hts, hw, hml, hnst⟩ := C
  intro H locs ls hP hD hS hL
  have hFc := cw_free hD hS hA
  obtain ⟨ci, fs, q, v1, v2, v3⟩ := hv
  have hcw : CallW R s args own y.cls idx y b nL' ret (mws y b nL' ret) (rmD d') 0 0 As.length := ⟨cwB hts hf.1 hl hd hR, hts _ hf.2.1, hts _ hf.2.2⟩
  have hrc := va_recv hw hP v2 (cW_get v1)
  rw [v3] at hrc
  have hrun := va_runV (As := As.map (cV ad)) (rest := rest.map (cV ad)) (b := ad a) (g := F0 m pc ls ((As.reverse ++ mr a :: rest).map (cV ad))) (R := R) (locs := locs) (cells := 0) (slots := 0) (meth := meth) (below := below) (e := e) ⟨hx, hb, hml, hown, hts⟩ (hsp dC dI cI cZ ad H.size) hcw ⟨mFB, hrc, mpre_of hnst hw hP hD rfl⟩ rfl (List.length_map _) hL.2.1 map_rev (lv_room (by rw [cVlen]; exact hr)) hdg ⟨Nat.zero_le _, Nat.zero_le _⟩
  refine va_callv hrun hS (fun q _ h => hFc q h) hFc (fun u t H1 locs1 ht hvm hpost hB hz1 hk1 hS1 => ?_)
  obtain ⟨hP1, hK1, hD1⟩ := hB
  rw [ht] at hP1
  exact kk u hpost H1 locs1 ls hP1 (hD1.weaken (fun k q _ h => hFc q.1 h)) hS1 hL
theorem call_S (C : mCtx p s m args c dC dI cI cZ cc own nL) (hA : ∀ q, H0.size ≤ q → A q) (hR : R.frames = d ∧ R.locals = 32 * d) (hdg : decode cc pc = .ok (.invokestatic idx, 3)) (hf : mfS y b nL' ret As.length) (hl : mlk own idx y) (hd : d' < d) (hr : mcat rest ≤ 8) {post : Int → mH → Prop} (hsp : SpI l d' y b nL' ret As h post)
    (kk : ∀ z h', post z h' → mG p l e R s m args below meth c Q dC dI cI cZ ad A H0 nL (pc + 3) L (mi z :: rest) h') : mG p l e R s m args below meth c Q dC dI cI cZ ad A H0 nL pc L (As.reverse ++ rest) h := by
  obtain ⟨hx, hb, hown, hts, hw, hml, hnst⟩ := C
  intro H locs ls hP hD hS hL
  have hFc := cw_free hD hS hA
  have hrun := va_runS (As := As.map (cV ad)) (rest := rest.map (cV ad)) (g := F0 m pc ls ((As.reverse ++ rest).map (cV ad))) (R := R) (locs := locs) (cells := 0) (slots := 0) (meth := meth) (below := below) (e := e) ⟨hx, hb, hml, hown, hts⟩ (hsp dC dI cI cZ ad H.size) ⟨cwB hts hf.1 hl hd hR, hts _ hf.2⟩ ⟨mFB, mpre_of hnst hw hP hD rfl⟩ rfl (List.length_map _) hL.2.1 map_revS (lv_room (by rw [cVlen]; exact hr)) hdg ⟨Nat.zero_le _, Nat.zero_le _⟩
  refine va_calli hrun hS (fun q _ h => hFc q h) hFc (fun r u t H1 locs1 ht hvm hz hB hz1 hk1 hS1 => ?_)
  obtain ⟨z, rfl, hpost⟩ := hz
  obtain ⟨hP1, hK1, hD1⟩ := hB
  rw [ht] at hP1
  exact kk z u hpost H1 locs1 ls hP1 (hD1.weaken (fun k q _ h => hFc q.1 h)) hS1 hL
end CALL
def mMx (own : String) (idx : Nat) (y : MethodName) : Prop := Cond.methodLink own idx y ∈ mtb
section CALM
variable {p : Program} {l : Launch} {e : Env} {R : Room} {s : State} {m : MethodId} {args : Array Value} {below : List Frame} {meth : Method} {c : Code} {Q : State → Prop}
variable {dC : Nat → ClassId} {dI : Nat → Nat → Nat} {cI cZ : ClassId} {ad : Nat → Nat} {A : Nat → Prop} {H0 : Heap} {nL : Nat} {cc : ByteArray} {own : String}
variable {pc : Nat} {L : mL} {h : mH} {idx : Nat} {d : Nat} {rest : List mV}
theorem if_max {a b : Int} (ha : inI a) (hb : inI b) : (if iN a < iN b then iN b else iN a) = iN (max a b) := by
  by_cases h : a < b
  · rw [if_pos ((iN_lt ha hb).mpr h), Int.max_eq_right (by omega)]
  · rw [if_neg (fun q => h ((iN_lt ha hb).mp q)), Int.max_eq_left (by omega)]
theorem call_max (C : mCtx p s m args c dC dI cI cZ cc own nL) (hR : R.frames = d ∧ R.locals = 32 * d) (hdg : decode cc pc = .ok (.invokestatic idx, 3)) (hl : mlk own idx Lib.Math.max.name) (h1 : Cond.static Lib.Math.max.name ∈ mtb) (h2 : Cond.initialized "java/lang/Math" ∈ mtb) (h3 : Cond.code Lib.Math.max.name Lib.Math.max.code 2 (some .int) ∈ mtb) (hd : 0 < d) (hr : mcat rest ≤ 8) {a b : Int} (ha : inI a) (hb2 : inI b)
    (kk : mG p l e R s m args below meth c Q dC dI cI cZ ad A H0 nL (pc + 3) L (mi (max a b) :: rest) h) : mG p l e R s m args below meth c Q dC dI cI cZ ad A H0 nL pc L (mi b :: mi a :: rest) h := by
  obtain ⟨hx, hb, hown, hts, hw, hml, hnst⟩ := C
  intro H locs ls hP hD hS hL
  refine va_mmax hx hb (by rw [hml]; exact hL.2.1.symm) hown (hts _ hl) (hts _ h1) (hts _ h2) (hts _ h3) (by omega) (by have := cVlen (ad := ad) (st := rest); omega) (Nat.zero_le _) (Nat.zero_le _) hdg ?_
  rw [if_max ha hb2]
  exact kk H locs ls hP hD hS hL
theorem if_min {a b : Int} (ha : inI a) (hb : inI b) : (if iN b < iN a then iN b else iN a) = iN (min a b) := by
  by_cases h : b < a
  · rw [if_pos ((iN_lt hb ha).mpr h), Int.min_eq_right (by omega)]
  · rw [if_neg (fun q => h ((iN_lt hb ha).mp q)), Int.min_eq_left (by omega)]
theorem call_min (C : mCtx p s m args c dC dI cI cZ cc own nL) (hR : R.frames = d ∧ R.locals = 32 * d) (hdg : decode cc pc = .ok (.invokestatic idx, 3)) (hl : mlk own idx Lib.Math.min.name) (h1 : Cond.static Lib.Math.min.name ∈ mtb) (h2 : Cond.initialized "java/lang/Math" ∈ mtb) (h3 : Cond.code Lib.Math.min.name Lib.Math.min.code 2 (some .int) ∈ mtb) (hd : 0 < d) (hr : mcat rest ≤ 8) {a b : Int} (ha : inI a) (hb2 : inI b)
    (kk : mG p l e R s m args below meth c Q dC dI cI cZ ad A H0 nL (pc + 3) L (mi (min a b) :: rest) h) : mG p l e R s m args below meth c Q dC dI cI cZ ad A H0 nL pc L (mi b :: mi a :: rest) h := by
  obtain ⟨hx, hb, hown, hts, hw, hml, hnst⟩ := C
  intro H locs ls hP hD hS hL
  refine va_mmin hx hb (by rw [hml]; exact hL.2.1.symm) hown (hts _ hl) (hts _ h1) (hts _ h2) (hts _ h3) (by omega) (by have := cVlen (ad := ad) (st := rest); omega) (Nat.zero_le _) (Nat.zero_le _) hdg ?_
  rw [if_min ha hb2]
  exact kk H locs ls hP hD hS hL
theorem call_abs (C : mCtx p s m args c dC dI cI cZ cc own nL) (hR : R.frames = d ∧ R.locals = 32 * d) (hdg : decode cc pc = .ok (.invokestatic idx, 3)) (hl : mlk own idx Lib.Math.abs.name) (h1 : Cond.static Lib.Math.abs.name ∈ mtb) (h2 : Cond.initialized "java/lang/Math" ∈ mtb) (h3 : Cond.code Lib.Math.abs.name Lib.Math.abs.code 1 (some .int) ∈ mtb) (hd : 0 < d) (hr : mcat rest ≤ 8) {a : Int} (ha : inI a)
    (kk : mG p l e R s m args below meth c Q dC dI cI cZ ad A H0 nL (pc + 3) L (mi (max a (-a)) :: rest) h) : mG p l e R s m args below meth c Q dC dI cI cZ ad A H0 nL pc L (mi a :: rest) h := by
  obtain ⟨hx, hb, hown, hts, hw, hml, hnst⟩ := C
  intro H locs ls hP hD hS hL
  refine va_mabs hx hb (by rw [hml]; exact hL.2.1.symm) hown (hts _ hl) (hts _ h1) (hts _ h2) (hts _ h3) (by omega) (by have := cVlen (ad := ad) (st := rest); omega) (Nat.zero_le _) (Nat.zero_le _) hdg ?_
  have h0 : inI 0 := ⟨by omega, by omega⟩
  have e : (if 0 ≤ iN a then iN a else 0 - iN a) = iN (max a (-a)) := by
    rw [← iN_0]
    by_cases q : 0 ≤ a
    · rw [if_pos ((iN_le h0 ha).mpr q), Int.max_eq_left (by omega)]
    · rw [if_neg (fun z => q ((iN_le h0 ha).mp z)), Int.max_eq_right (by omega), iN_sub]
      congr 1; omega
  rw [e]
  exact kk H locs ls hP hD hS hL
def mcpy (f g : Nat → Int) (sp dp n : Nat) : Nat → Int := fun k => if dp ≤ k ∧ k < dp + n then f (sp + (k - dp)) else g k
theorem mcpy_e {f g : Nat → Int} {sp dp n : Nat} : va_cpy (fun j => iN (f j)) (fun j => iN (g j)) sp dp n = fun j => iN (mcpy f g sp dp n j) := by
  funext k
  unfold va_cpy mcpy
  by_cases h : dp ≤ k ∧ k < dp + n
  · rw [if_pos h, if_pos h]
  · rw [if_neg h, if_neg h]
theorem call_cpy (C : mCtx p s m args c dC dI cI cZ cc own nL) (hR : R.frames = d ∧ R.locals = 32 * d) (hdg : decode cc pc = .ok (.invokestatic idx, 3)) (hl : mlk own idx arraycopyName) (g1 : Cond.native arraycopyName ∈ mtb) (g2 : Cond.static arraycopyName ∈ mtb) (g3 : Cond.initialized "java/lang/System" ∈ mtb) (hd : 0 < d) (hr : mcat rest ≤ 8) {a0 a1 n0 n1 : Nat} {f g : Nat → Int} {sp dp n : Int} (e0 : h[a0]? = some (.inr (false, n0, f))) (e1 : h[a1]? = some (.inr (false, n1, g))) (h1 : 0 ≤ sp) (h2 : 0 ≤ dp) (h3 : 0 ≤ n) (h4 : sp + n ≤ n0) (h5 : dp + n ≤ n1) (h6 : n0 < 65536 ∧ n1 < 65536)
    (kk : mG p l e R s m args below meth c Q dC dI cI cZ ad A H0 nL (pc + 3) L rest (h.set a1 (.inr (false, n1, mcpy f g sp.toNat dp.toNat n.toNat)))) : mG p l e R s m args below meth c Q dC dI cI cZ ad A H0 nL pc L (mi n :: mi dp :: mr a1 :: mi sp :: mr a0 :: rest) h := by
  obtain ⟨hx, hb, hown, hts, hw, hml, hnst⟩ := C
  intro H locs ls hP hD hS hL
  have z0 : inI 0 := ⟨by omega, by omega⟩
  have zs : inI sp := ⟨by omega, by omega⟩
  have zd : inI dp := ⟨by omega, by omega⟩
  have zn : inI n := ⟨by omega, by omega⟩
  have c1 := iN_cl zs
  have c2 := iN_cl zd
  have c3 := iN_cl zn
  refine va_copyi hx hb (by rw [hml]; exact hL.2.1.symm) hown (hts _ hl) (hts _ g1) (hts _ g2) (hts _ g3) hw hP hD hS a0 a1 0 0 (cW_get e0) (cW_get e1) rfl rfl rfl (by rw [← iN_0, iN_lt zs z0]; omega) (by rw [← iN_0, iN_lt zd z0]; omega) (by rw [← iN_0, iN_lt zn z0]; omega) (by rw [c1, c3]; omega) (by rw [c2, c3]; omega) (fun _ _ => rfl) (by omega) (by
    have hh := cVlen (ad := ad) (st := rest)
    have hh2 : nativeFrameWords "java/lang/System" "arraycopy" 5 = 7 := by decide +kernel
    rw [hh2]; omega) hdg (fun H1 locs1 hP1 hD1 hS1 => ?_)
  have e : (cW ad cI cZ h).set a1 (ad a1, .inl (cI, n1, .inl (va_cpy (fun j => iN (f j)) (fun j => iN (g j)) (iN sp).toNatClampNeg (iN dp).toNatClampNeg (iN n).toNatClampNeg))) = cW ad cI cZ (h.set a1 (.inr (false, n1, mcpy f g sp.toNat dp.toNat n.toNat))) := by
    rw [cW_set, c1, c2, c3, mcpy_e]; rfl
  rw [show cond false cZ cI = cI from rfl, e] at hP1 hD1
  exact kk H1 locs1 ls hP1 hD1 hS1 hL
end CALM
/-- a stretch, cut ahead of the place t -/
def mcut (t : Nat) : Nat → List mI → List mI
  | _, [] => []
  | pc, (i, len, tg) :: r => match Nat.beq pc t with
    | true => []
    | false => (i, len, tg) :: mcut t (pc + len) r
theorem okb_mcut {cc : ByteArray} {nL t : Nat} : ∀ {pc : Nat} {l : List mI}, okb cc nL pc l = true → okb cc nL pc (mcut t pc l) = true
  | _, [], _ => rfl
  | pc, (i, len, tg) :: r, h => by
    unfold mcut
    split
    · rfl
    · simp only [okb, Bool.and_eq_true] at h ⊢
      exact ⟨h.1, h.2.1, okb_mcut h.2.2⟩
def mrt (ret : Option FieldType) (z : Int) : Prop := match ret with
  | some .int => True
  | some .boolean => z = 0 ∨ z = 1
  | _ => False
def mlN (own : String) (idx : Nat) (y : MethodName) (host : String) : Prop := ((own = RX1 ∧ idx = 75) ∨ (own = RX3 ∧ idx = 100)) ∧ y = yX6_isBeyond ∧ host = "TowerPrisoner"
/-- what a walk may use: the run of a stretch, fewer locals, calls, Math, arraycopy, the ends -/
def mRul (l : Launch) (d : Nat) (own : String) (ret : Option FieldType) (cd : List mI) (fT : Nat → Option (Nat × Nat × Nat)) (kT kJ : Nat → Option Int) (G : Nat → mL → List mV → mH → Prop) (pI pJ : Int → mH → Prop) (pV : mH → Prop) : Prop :=
  (∀ pc t L st h, blk fT kT kJ G pc (mcut t pc (sfx 0 cd pc)) L st h → G pc L st h) ∧
  (∀ pc L L' st h, mle L' L → G pc L' st h → G pc L st h) ∧
  (∀ pc L h idx y b nL' rt d' len tg r0 As a rest post, sfx 0 cd pc = (.invokevirtual idx, len, tg) :: r0 → mfV y b nL' rt As.length → mlk own idx y → d' < d → mcat rest ≤ 8 → mrv h a y.cls → SpI l d' y b nL' rt (mr a :: As) h post → (∀ z h', post z h' → G (pc + 3) L (mi z :: rest) h') → G pc L (As.reverse ++ mr a :: rest) h) ∧
  (∀ pc L h idx y b nL' rt d' len tg r0 As a rest post, sfx 0 cd pc = (.invokevirtual idx, len, tg) :: r0 → mfV y b nL' rt As.length → mlk own idx y → d' < d → mcat rest ≤ 8 → mrv h a y.cls → SpV l d' y b nL' rt (mr a :: As) h post → (∀ h', post h' → G (pc + 3) L rest h') → G pc L (As.reverse ++ mr a :: rest) h) ∧
  (∀ pc L h idx y b nL' rt d' len tg r0 As rest post, sfx 0 cd pc = (.invokestatic idx, len, tg) :: r0 → mfS y b nL' rt As.length → mlk own idx y → d' < d → mcat rest ≤ 8 → SpI l d' y b nL' rt As h post → (∀ z h', post z h' → G (pc + 3) L (mi z :: rest) h') → G pc L (As.reverse ++ rest) h) ∧
  (∀ pc L h idx len tg r0 a b rest, sfx 0 cd pc = (.invokestatic idx, len, tg) :: r0 → mlk own idx Lib.Math.max.name → 0 < d → mcat rest ≤ 8 → inI a → inI b → G (pc + 3) L (mi (max a b) :: rest) h → G pc L (mi b :: mi a :: rest) h) ∧
  (∀ pc L h idx len tg r0 a b rest, sfx 0 cd pc = (.invokestatic idx, len, tg) :: r0 → mlk own idx Lib.Math.min.name → 0 < d → mcat rest ≤ 8 → inI a → inI b → G (pc + 3) L (mi (min a b) :: rest) h → G pc L (mi b :: mi a :: rest) h) ∧
  (∀ pc L h idx len tg r0 a rest, sfx 0 cd pc = (.invokestatic idx, len, tg) :: r0 → mlk own idx Lib.Math.abs.name → 0 < d → mcat rest ≤ 8 → inI a → G (pc + 3) L (mi (max a (-a)) :: rest) h → G pc L (mi a :: rest) h) ∧
  (∀ pc L h idx len tg r0 a0 a1 (n0 n1 : Nat) f g (sp dp n : Int) rest, sfx 0 cd pc = (.invokestatic idx, len, tg) :: r0 → mlk own idx arraycopyName → 0 < d → mcat rest ≤ 8 → h[a0]? = some (.inr (false, n0, f)) → h[a1]? = some (.inr (false, n1, g)) → ((0 ≤ sp ∧ 0 ≤ dp ∧ 0 ≤ n) ∧ sp + n ≤ (n0 : Int) ∧ dp + n ≤ (n1 : Int) ∧ n0 < 65536 ∧ n1 < 65536) → G (pc + 3) L rest (h.set a1 (.inr (false, n1, mcpy f g sp.toNat dp.toNat n.toNat))) → G pc L (mi n :: mi dp :: mr a1 :: mi sp :: mr a0 :: rest) h) ∧
  (∀ pc L z h len tg r0, sfx 0 cd pc = (.ireturn, len, tg) :: r0 → mrt ret z → pI z h → G pc L [mi z] h) ∧
  (∀ pc L h len tg r0, sfx 0 cd pc = (.return_, len, tg) :: r0 → ret = none → pV h → G pc L [] h) ∧
  (∀ pc L z h len tg r0, sfx 0 cd pc = (.lreturn, len, tg) :: r0 → ret = some .long → pJ z h → G pc L [ml z] h) ∧
  (∀ pc L h idx y host b nL' rt d' len tg r0 As rest post, sfx 0 cd pc = (.invokestatic idx, len, tg) :: r0 → mfS y b nL' rt As.length → mlN own idx y host → d' < d → mcat rest ≤ 8 → SpI l d' y b nL' rt As h post → (∀ z h', post z h' → G (pc + 3) L (mi z :: rest) h') → G pc L (As.reverse ++ rest) h)
def mL0 (As : List mV) (nL : Nat) : mL := As.map some ++ List.replicate (nL - As.length) none
def mc1 : List mV → Prop
  | [] => True
  | .inr (.inl _) :: _ => False
  | .inl _ :: r => mc1 r
  | .inr (.inr _) :: r => mc1 r
theorem mc1_h {x : mV} {r : List mV} (h : mc1 (x :: r)) : (∀ z, x ≠ .inr (.inl z)) ∧ mc1 r := by
  match x, h with
  | .inl a, h => exact ⟨(fun z q => by cases q), h⟩
  | .inr (.inr a), h => exact ⟨(fun z q => by cases q), h⟩
theorem args_at {ad : Nat → Nat} : ∀ (As : List mV) (i k : Nat) (v : mV), mc1 As → As[k]? = some v → (i + k, cV ad v) ∈ lv_args i (As.map (cV ad))
  | [], i, k, v, h, e => by cases e
  | x :: r, i, 0, v, h, e => by
    cases e
    exact List.mem_cons_self
  | x :: r, i, k + 1, v, h, e => by
    have hx : (cV ad x).category = 1 := cV_cat1 (mc1_h h).1
    show (i + (k + 1), cV ad v) ∈ (i, cV ad x) :: lv_args (if (cV ad x).category = 2 then i + 2 else i + 1) (r.map (cV ad))
    rw [hx]
    refine List.mem_cons_of_mem _ ?_
    have := args_at (ad := ad) r (i + 1) k v (mc1_h h).2 (by simpa using e)
    rw [show i + (k + 1) = i + 1 + k by omega]
    exact this
theorem sl_len {ad : Nat → Nat} : ∀ (As : List mV), mc1 As → (lg_sl (As.map (cV ad))).length = As.length
  | [], _ => rfl
  | x :: r, h => by
    have hx : (cV ad x).category = 1 := cV_cat1 (mc1_h h).1
    have ih := sl_len (ad := ad) r (mc1_h h).2
    simp [lg_sl, hx] at ih ⊢
    omega
theorem mL0_of {ad : Nat → Nat} {As : List mV} {nL : Nat} {ls : Array Slot} (h1 : mc1 As) (hn : As.length ≤ nL) (h : lv_has ls nL (lv_args 0 (As.map (cV ad)))) : mLs ad nL ls (mL0 As nL) := by
  refine ⟨by simp [mL0]; omega, h.1, h.2.1, ?_⟩
  rintro ⟨k, w⟩ hq
  obtain ⟨x, hx, rfl⟩ := mem_mll.mp hq
  unfold mL0 at hx
  rw [List.getElem?_append] at hx
  split at hx
  · rw [List.getElem?_map] at hx
    cases e : As[k]? with
    | none => rw [e] at hx; cases hx
    | some v =>
      rw [e] at hx
      cases hx
      have := args_at (ad := ad) As 0 k x h1 e
      rw [Nat.zero_add] at this
      exact h.2.2 _ this
  · have := List.eq_of_mem_replicate (List.mem_of_getElem? hx)
    cases this
end
section
/-! a contract out of a walk by the rules -/
theorem sfx_dec {cc : ByteArray} {nL pc len tg : Nat} {cd r0 : List mI} {i : Instr} (ho : okb cc nL 0 cd = true) (h : sfx 0 cd pc = (i, len, tg) :: r0) : decode cc pc = .ok (i, len) ∧ sane nL pc i len tg = true := by
  have h1 := okb_sfx (t := pc) ho
  rw [h] at h1
  obtain ⟨h2, h3, -⟩ := okb_head h1
  exact ⟨h2, h3⟩
theorem sfx_d3 {cc : ByteArray} {nL pc len tg : Nat} {cd r0 : List mI} {idx : Nat} (ho : okb cc nL 0 cd = true) (h : sfx 0 cd pc = (.invokevirtual idx, len, tg) :: r0) : decode cc pc = .ok (.invokevirtual idx, 3) := by
  obtain ⟨h1, h2⟩ := sfx_dec ho h
  obtain rfl : len = 3 := by simpa [sane] using h2
  exact h1
theorem sfx_s3 {cc : ByteArray} {nL pc len tg : Nat} {cd r0 : List mI} {idx : Nat} (ho : okb cc nL 0 cd = true) (h : sfx 0 cd pc = (.invokestatic idx, len, tg) :: r0) : decode cc pc = .ok (.invokestatic idx, 3) := by
  obtain ⟨h1, h2⟩ := sfx_dec ho h
  obtain rfl : len = 3 := by simpa [sane] using h2
  exact h1
theorem sfx_ir {cc : ByteArray} {nL pc len tg : Nat} {cd r0 : List mI} (ho : okb cc nL 0 cd = true) (h : sfx 0 cd pc = (.ireturn, len, tg) :: r0) : decode cc pc = .ok (.ireturn, 1) := by
  obtain ⟨h1, h2⟩ := sfx_dec ho h
  obtain rfl : len = 1 := by simpa [sane] using h2
  exact h1
theorem sfx_vr {cc : ByteArray} {nL pc len tg : Nat} {cd r0 : List mI} (ho : okb cc nL 0 cd = true) (h : sfx 0 cd pc = (.return_, len, tg) :: r0) : decode cc pc = .ok (.return_, 1) := by
  obtain ⟨h1, h2⟩ := sfx_dec ho h
  obtain rfl : len = 1 := by simpa [sane] using h2
  exact h1
theorem sfx_lr {cc : ByteArray} {nL pc len tg : Nat} {cd r0 : List mI} (ho : okb cc nL 0 cd = true) (h : sfx 0 cd pc = (.lreturn, len, tg) :: r0) : decode cc pc = .ok (.lreturn, 1) := by
  obtain ⟨h1, h2⟩ := sfx_dec ho h
  obtain rfl : len = 1 := by simpa [sane] using h2
  exact h1
theorem call_SN {p : Program} {l : Launch} {e : Env} {R : Room} {s : State} {m : MethodId} {args : Array Value} {below : List Frame} {meth : Method} {c : Code} {Q : State → Prop} {dC : Nat → ClassId} {dI : Nat → Nat → Nat} {cI cZ : ClassId} {ad : Nat → Nat} {A : Nat → Prop} {H0 : Heap} {nL : Nat} {cc : ByteArray} {own host : String} {pc : Nat} {L : mL} {h : mH} {idx : Nat} {y : MethodName} {b : ByteArray} {nL' : Nat} {ret : Option FieldType} {d d' : Nat} {As rest : List mV} (C : mCtx p s m args c dC dI cI cZ cc own nL) (hA : ∀ q, H0.size ≤ q → A q) (hR : R.frames = d ∧ R.locals = 32 * d) (hdg : decode cc pc = .ok (.invokestatic idx, 3)) (hf : mfS y b nL' ret As.length) (hl : mlN own idx y host) (hd : d' < d) (hr : mcat rest ≤ 8) {post : Int → mH → Prop} (hsp : SpI l d' y b nL' ret As h post)
    (kk : ∀ z h', post z h' → mG p l e R s m args below meth c Q dC dI cI cZ ad A H0 nL (pc + 3) L (mi z :: rest) h') : mG p l e R s m args below meth c Q dC dI cI cZ ad A H0 nL pc L (As.reverse ++ rest) h := by
  obtain ⟨hx, hb, hown, hts, hw, hml, hnst⟩ := C
  intro H locs ls hP hD hS hL
  have hFc := cw_free hD hS hA
  obtain ⟨⟨f1, f2, f3, f4, -⟩, f5⟩ := hf
  have hlk : (Cond.methodLinkNest own idx y host).before args s = true := by
    obtain ⟨q, rfl, rfl⟩ := hl
    rcases q with ⟨rfl, rfl⟩ | ⟨rfl, rfl⟩
    · exact va_Nw.use rfl hnst.1
    · exact va_Nw.use rfl hnst.2
  have hcn : va_CN R s args own idx y host b nL' ret (mws y b nL' ret) (rmD d') 0 0 As.length := by
    have hc : Cond.code y b nL' ret ∈ mws y b nL' ret := List.mem_cons_self
    have hG : GoodIn mtb (mws y b nL' ret) := tbl_in (fun w hw => by
      rcases List.mem_cons.mp hw with rfl | hw
      · exact f2
      · exact hw)
    refine ⟨⟨rfl, rfl, by show d' + 1 ≤ _; omega, by show 8 + (nL' + 11) + 32 * d' ≤ _; omega, pay_in hts hG, hc⟩, hts _ f2, hts _ f1, ⟨f3.1, f3.2.1⟩, fun sig h => ?_, hlk⟩
    have h2 := f3.2.2
    rw [h] at h2
    exact (Option.some.inj h2).symm
  have hrun := va_runSN (As := As.map (cV ad)) (rest := rest.map (cV ad)) (g := F0 m pc ls ((As.reverse ++ rest).map (cV ad))) (R := R) (locs := locs) (cells := 0) (slots := 0) (meth := meth) (below := below) (e := e) ⟨hx, hb, hml, hown, hts⟩ (hsp dC dI cI cZ ad H.size) ⟨hcn, hts _ f5, True.intro⟩ ⟨mFB, mpre_of hnst hw hP hD rfl⟩ rfl (List.length_map _) hL.2.1 map_revS (lv_room (by rw [cVlen]; exact hr)) hdg ⟨Nat.zero_le _, Nat.zero_le _⟩
  refine va_calli hrun hS (fun q _ h => hFc q h) hFc (fun r u t H1 locs1 ht hvm hz hB hz1 hk1 hS1 => ?_)
  obtain ⟨z, rfl, hpost⟩ := hz
  obtain ⟨hP1, hK1, hD1⟩ := hB
  rw [ht] at hP1
  exact kk z u hpost H1 locs1 ls hP1 (hD1.weaken (fun k q _ h => hFc q.1 h)) hS1 hL
/-- the rules hold of the machine's own walk -/
theorem mRul_of {p : Program} {l : Launch} {e : Env} {d : Nat} {s : State} {m : MethodId} {args : Array Value} {below : List Frame} {meth : Method} {c : Code} {Q : State → Prop} {dC : Nat → ClassId} {dI : Nat → Nat → Nat} {cI cZ : ClassId} {ad : Nat → Nat} {A : Nat → Prop} {nL : Nat} {cc : ByteArray} {own : String} {H0 : Heap}
    {ret : Option FieldType} {cd : List mI} {fT : Nat → Option (Nat × Nat × Nat)} {kT kJ : Nat → Option Int} {pI pJ : Int → mH → Prop} {pV : mH → Prop}
    (C : mCtx p s m args c dC dI cI cZ cc own nL) (hA : ∀ q, H0.size ≤ q → A q) (ho : okb cc nL 0 cd = true) (hF : mFT own fT) (hk : mKT own kT) (hJ : mKJ own kJ) (hj : mJdk)
    (rI : ∀ pc L z h, decode cc pc = .ok (.ireturn, 1) → mrt ret z → pI z h → mG p l e (rmD d) s m args below meth c Q dC dI cI cZ ad A H0 nL pc L [mi z] h)
    (rV : ∀ pc L h, decode cc pc = .ok (.return_, 1) → ret = none → pV h → mG p l e (rmD d) s m args below meth c Q dC dI cI cZ ad A H0 nL pc L [] h)
    (rJ : ∀ pc L z h, decode cc pc = .ok (.lreturn, 1) → ret = some .long → pJ z h → mG p l e (rmD d) s m args below meth c Q dC dI cI cZ ad A H0 nL pc L [ml z] h) :
    mRul l d own ret cd fT kT kJ (mG p l e (rmD d) s m args below meth c Q dC dI cI cZ ad A H0 nL) pI pJ pV := by
  obtain ⟨⟨j1, j2, j3⟩, j4, ⟨j5, j6, j7⟩, j8, j9, j10⟩ := hj
  refine ⟨fun pc t L st h q => blk_sound C hF hk hJ _ pc L st h (okb_mcut (okb_sfx ho)) q, fun pc L L' st h hl q => ?_, ?_, ?_, ?_, ?_, ?_, ?_, ?_, fun pc L z h len tg r0 hs h1 h2 => rI pc L z h (sfx_ir ho hs) h1 h2, fun pc L h len tg r0 hs h1 h2 => rV pc L h (sfx_vr ho hs) h1 h2, fun pc L z h len tg r0 hs h1 h2 => rJ pc L z h (sfx_lr ho hs) h1 h2, ?_⟩
  · intro H locs ls hP hD hS hL
    exact q H locs ls hP hD hS (hL.fewer hl)
  · intro pc L h idx y b nL' rt d' len tg r0 As a rest post hs hf hl hd hr hv hsp kk
    exact call_V C hA ⟨rfl, rfl⟩ (sfx_d3 ho hs) hf hl hd hr hv hsp kk
  · intro pc L h idx y b nL' rt d' len tg r0 As a rest post hs hf hl hd hr hv hsp kk
    exact call_VV C hA ⟨rfl, rfl⟩ (sfx_d3 ho hs) hf hl hd hr hv hsp kk
  · intro pc L h idx y b nL' rt d' len tg r0 As rest post hs hf hl hd hr hsp kk
    exact call_S C hA ⟨rfl, rfl⟩ (sfx_s3 ho hs) hf hl hd hr hsp kk
  · intro pc L h idx len tg r0 a b rest hs hl hd hr ha hb kk
    exact call_max C ⟨rfl, rfl⟩ (sfx_s3 ho hs) hl j1 j4 j5 hd hr ha hb kk
  · intro pc L h idx len tg r0 a b rest hs hl hd hr ha hb kk
    exact call_min C ⟨rfl, rfl⟩ (sfx_s3 ho hs) hl j2 j4 j6 hd hr ha hb kk
  · intro pc L h idx len tg r0 a rest hs hl hd hr ha kk
    exact call_abs C ⟨rfl, rfl⟩ (sfx_s3 ho hs) hl j3 j4 j7 hd hr ha kk
  · intro pc L h idx len tg r0 a0 a1 n0 n1 f g sp dp n rest hs hl hd hr e0 e1 hh kk
    obtain ⟨⟨h1, h2, h3⟩, h4, h5, h6⟩ := hh
    exact call_cpy C ⟨rfl, rfl⟩ (sfx_s3 ho hs) hl j8 j9 j10 hd hr e0 e1 h1 h2 h3 h4 h5 h6 kk
  · intro pc L h idx y host b nL' rt d' len tg r0 As rest post hs hf hl hd hr hsp kk
    exact call_SN C hA ⟨rfl, rfl⟩ (sfx_s3 ho hs) hf hl hd hr hsp kk
theorem mEntry {l : Launch} {d : Nat} {y : MethodName} {b : ByteArray} {nL : Nat} {ret : Option FieldType} {As : List mV} {h : mH} {dC : Nat → ClassId} {dI : Nat → Nat → Nat} {cI cZ : ClassId} {ad : Nat → Nat} {sz : Nat} {Qc : Array Value → State → Outcome → State → Prop}
    (hp : plainName y.cls = true) (h1 : mc1 As) (hn : As.length ≤ nL)
    (body : ∀ p e s m args below meth c, meth.sig.returnType = ret → meth.locks = false → s.heap.size = sz → mCtx p s m args c dC dI cI cZ b y.cls nL → (∀ q, s.heap.size ≤ q → va_A (cW ad cI cZ h) sz q) → mG p l e (rmD d) s m args below meth c (MQ below Qc args s 0 0 (va_A (cW ad cI cZ h) sz)) dC dI cI cZ ad (va_A (cW ad cI cZ h) sz) s.heap nL 0 (mL0 As nL) [] h) :
    Met l y (mws y b nL ret) (rmD d) (mPre dC dI cI cZ ad sz As h) Qc 0 0 (va_A (cW ad cI cZ h) sz) := by
  refine Met.ofW (cc := b) (maxL := nL) (ret := ret) hp rfl ?_
  intro p e s m args below meth c s₁ B hml hv
  obtain ⟨rfl, hsz, hP, hK, hD0, hN⟩ := hv
  have hts := atoms_spec (ws := mws y b nL ret) B.pre
  subst hsz
  have hD := hD0.self (sz := s.heap.size)
  have hl := lv_entry (As.map (cV ad)) (n := nL) (by rw [sl_len As h1]; exact hn)
  rw [lg_entry_eq]
  exact body p e s m _ below meth c B.returns B.notSynchronized rfl ⟨B.exec, B.bytes, findClass_of_methodNamed B.named, fun w hw => hts w (List.mem_cons_of_mem _ hw), hK, hml, hN⟩ (fun q hq => Or.inr hq) s.heap [] _ hP hD va_S.rf (mL0_of h1 hn hl)
theorem SpI.of {l : Launch} {d : Nat} {y : MethodName} {b : ByteArray} {nL : Nat} {ret : Option FieldType} {As : List mV} {h : mH} {post : Int → mH → Prop} {cd : List mI} {fT : Nat → Option (Nat × Nat × Nat)} {kT kJ : Nat → Option Int}
    {n : Nat} (hp : mfA y b nL ret n) (ho : okb b nL 0 cd = true) (hF : mFT y.cls fT) (hk : mKT y.cls kT) (hJ : mKJ y.cls kJ) (hj : mJdk) (h1 : mc1 As) (hn : As.length ≤ nL)
    (body : ∀ G, mRul l d y.cls ret cd fT kT kJ G post (fun _ _ => False) (fun _ => False) → G 0 (mL0 As nL) [] h) : SpI l d y b nL ret As h post := by
  intro dC dI cI cZ ad sz
  refine mEntry hp.2.2.2.2 h1 hn ?_
  intro p e s m args below meth c hr hlk hsz C hA
  refine body _ (mRul_of C hA ho hF hk hJ hj ?_ (fun pc L h _ _ q => q.elim) (fun pc L z h _ _ q => q.elim))
  intro pc L z h' hdg hrt hpost H locs ls hP hD hS hL
  obtain ⟨ty, hty, hnar⟩ : ∃ ty, ret = some ty ∧ narrow ty (.int (iN z)) = .int (iN z) := by
    unfold mrt at hrt
    split at hrt
    · exact ⟨_, rfl, rfl⟩
    · rcases hrt with rfl | rfl
      · exact ⟨_, rfl, by decide⟩
      · exact ⟨_, rfl, by decide⟩
    · exact hrt.elim
  have hK := C.2.2.2.2.1
  exact W.zret (v := iN z) C.1 C.2.1 (hr.trans hty) hnar (fun t ht hW => ⟨⟨iN z, h', rfl, ⟨z, rfl, hpost⟩, by rw [ht]; exact hP, va_K.moved hW.alike hK, hD⟩, hS.F ht⟩) hS.2.2 hdg hlk
theorem SpJ.of {l : Launch} {d : Nat} {y : MethodName} {b : ByteArray} {nL : Nat} {ret : Option FieldType} {As : List mV} {h : mH} {post : Int → mH → Prop} {cd : List mI} {fT : Nat → Option (Nat × Nat × Nat)} {kT kJ : Nat → Option Int}
    {n : Nat} (hp : mfA y b nL ret n) (ho : okb b nL 0 cd = true) (hF : mFT y.cls fT) (hk : mKT y.cls kT) (hJ : mKJ y.cls kJ) (hj : mJdk) (h1 : mc1 As) (hn : As.length ≤ nL)
    (body : ∀ G, mRul l d y.cls ret cd fT kT kJ G (fun _ _ => False) post (fun _ => False) → G 0 (mL0 As nL) [] h) : SpJ l d y b nL ret As h post := by
  intro dC dI cI cZ ad sz
  refine mEntry hp.2.2.2.2 h1 hn ?_
  intro p e s m args below meth c hr hlk hsz C hA
  refine body _ (mRul_of C hA ho hF hk hJ hj (fun pc L z h _ _ q => q.elim) (fun pc L h _ _ q => q.elim) ?_)
  intro pc L z h' hdg hrt hpost H locs ls hP hD hS hL
  have hK := C.2.2.2.2.1
  exact W.lret (v := jN z) C.1 C.2.1 (hr.trans hrt) (fun t ht hW => ⟨⟨jN z, h', rfl, ⟨z, rfl, hpost⟩, by rw [ht]; exact hP, va_K.moved hW.alike hK, hD⟩, hS.F ht⟩) hS.2.2 hdg hlk
theorem SpV.of {l : Launch} {d : Nat} {y : MethodName} {b : ByteArray} {nL : Nat} {ret : Option FieldType} {As : List mV} {h : mH} {post : mH → Prop} {cd : List mI} {fT : Nat → Option (Nat × Nat × Nat)} {kT kJ : Nat → Option Int}
    {n : Nat} (hp : mfA y b nL ret n) (ho : okb b nL 0 cd = true) (hF : mFT y.cls fT) (hk : mKT y.cls kT) (hJ : mKJ y.cls kJ) (hj : mJdk) (h1 : mc1 As) (hn : As.length ≤ nL)
    (body : ∀ G, mRul l d y.cls ret cd fT kT kJ G (fun _ _ => False) (fun _ _ => False) post → G 0 (mL0 As nL) [] h) : SpV l d y b nL ret As h post := by
  intro dC dI cI cZ ad sz
  refine mEntry hp.2.2.2.2 h1 hn ?_
  intro p e s m args below meth c hr hlk hsz C hA
  refine body _ (mRul_of C hA ho hF hk hJ hj (fun pc L z h _ _ q => q.elim) ?_ (fun pc L z h _ _ q => q.elim))
  intro pc L h' hdg hrt hpost H locs ls hP hD hS hL
  have hK := C.2.2.2.2.1
  exact W.vret C.1 C.2.1 (hr.trans hrt) (fun t ht hW => ⟨⟨h', rfl, hpost, by rw [ht]; exact hP, va_K.moved hW.alike hK, hD⟩, hS.F ht⟩) hS.2.2 hdg hlk
/-! the rules by name -/
section RUL
variable {l : Launch} {d : Nat} {own : String} {ret : Option FieldType} {cd : List mI} {fT : Nat → Option (Nat × Nat × Nat)} {kT kJ : Nat → Option Int} {G : Nat → mL → List mV → mH → Prop} {pI pJ : Int → mH → Prop} {pV : mH → Prop}
variable {pc : Nat} {L L' : mL} {st : List mV} {hh : mH} {idx : Nat} {y : MethodName} {b : ByteArray} {nL' : Nat} {rt : Option FieldType} {d' len tg : Nat} {r0 : List mI} {As rest : List mV} {a : Nat}
theorem rRun (h : mRul l d own ret cd fT kT kJ G pI pJ pV) (t : Nat) (q : blk fT kT kJ G pc (mcut t pc (sfx 0 cd pc)) L st hh) : G pc L st hh := h.1 _ t _ _ _ q
theorem rLess (h : mRul l d own ret cd fT kT kJ G pI pJ pV) (q : mle L' L) (g : G pc L' st hh) : G pc L st hh := h.2.1 _ _ _ _ _ q g
theorem rV (h : mRul l d own ret cd fT kT kJ G pI pJ pV) {post : Int → mH → Prop} (hsp : SpI l d' y b nL' rt (mr a :: As) hh post) (hst : st = As.reverse ++ mr a :: rest) (hs : sfx 0 cd pc = (.invokevirtual idx, len, tg) :: r0) (hl : mlk own idx y) (hf : mfV y b nL' rt As.length) (hd : d' < d) (hr : mcat rest ≤ 8) (hv : mrv hh a y.cls) (kk : ∀ z h', post z h' → G (pc + 3) L (mi z :: rest) h') : G pc L st hh := by
  subst hst
  exact h.2.2.1 _ _ _ _ _ _ _ _ _ _ _ _ _ _ _ _ hs hf hl hd hr hv hsp kk
theorem rVV (h : mRul l d own ret cd fT kT kJ G pI pJ pV) {post : mH → Prop} (hsp : SpV l d' y b nL' rt (mr a :: As) hh post) (hst : st = As.reverse ++ mr a :: rest) (hs : sfx 0 cd pc = (.invokevirtual idx, len, tg) :: r0) (hl : mlk own idx y) (hf : mfV y b nL' rt As.length) (hd : d' < d) (hr : mcat rest ≤ 8) (hv : mrv hh a y.cls) (kk : ∀ h', post h' → G (pc + 3) L rest h') : G pc L st hh := by
  subst hst
  exact h.2.2.2.1 _ _ _ _ _ _ _ _ _ _ _ _ _ _ _ _ hs hf hl hd hr hv hsp kk
theorem rS (h : mRul l d own ret cd fT kT kJ G pI pJ pV) {post : Int → mH → Prop} (hsp : SpI l d' y b nL' rt As hh post) (hst : st = As.reverse ++ rest) (hs : sfx 0 cd pc = (.invokestatic idx, len, tg) :: r0) (hl : mlk own idx y) (hf : mfS y b nL' rt As.length) (hd : d' < d) (hr : mcat rest ≤ 8) (kk : ∀ z h', post z h' → G (pc + 3) L (mi z :: rest) h') : G pc L st hh := by
  subst hst
  exact h.2.2.2.2.1 _ _ _ _ _ _ _ _ _ _ _ _ _ _ _ hs hf hl hd hr hsp kk
theorem rMax (h : mRul l d own ret cd fT kT kJ G pI pJ pV) {x z : Int} (hst : st = mi z :: mi x :: rest) (hs : sfx 0 cd pc = (.invokestatic idx, len, tg) :: r0) (hl : mlk own idx Lib.Math.max.name) (hd : 0 < d) (hr : mcat rest ≤ 8) (hx : inI x ∧ inI z) (kk : G (pc + 3) L (mi (max x z) :: rest) hh) : G pc L st hh := by
  subst hst
  exact h.2.2.2.2.2.1 _ _ _ _ _ _ _ _ _ _ hs hl hd hr hx.1 hx.2 kk
theorem rMin (h : mRul l d own ret cd fT kT kJ G pI pJ pV) {x z : Int} (hst : st = mi z :: mi x :: rest) (hs : sfx 0 cd pc = (.invokestatic idx, len, tg) :: r0) (hl : mlk own idx Lib.Math.min.name) (hd : 0 < d) (hr : mcat rest ≤ 8) (hx : inI x ∧ inI z) (kk : G (pc + 3) L (mi (min x z) :: rest) hh) : G pc L st hh := by
  subst hst
  exact h.2.2.2.2.2.2.1 _ _ _ _ _ _ _ _ _ _ hs hl hd hr hx.1 hx.2 kk
theorem rAbs (h : mRul l d own ret cd fT kT kJ G pI pJ pV) {x : Int} (hst : st = mi x :: rest) (hs : sfx 0 cd pc = (.invokestatic idx, len, tg) :: r0) (hl : mlk own idx Lib.Math.abs.name) (hd : 0 < d) (hr : mcat rest ≤ 8) (hx : inI x) (kk : G (pc + 3) L (mi (max x (-x)) :: rest) hh) : G pc L st hh := by
  subst hst
  exact h.2.2.2.2.2.2.2.1 _ _ _ _ _ _ _ _ _ hs hl hd hr hx kk
theorem rCpy (h : mRul l d own ret cd fT kT kJ G pI pJ pV) {a0 a1 n0 n1 : Nat} {f g : Nat → Int} {sp dp n : Int} (hst : st = mi n :: mi dp :: mr a1 :: mi sp :: mr a0 :: rest) (hs : sfx 0 cd pc = (.invokestatic idx, len, tg) :: r0) (hl : mlk own idx arraycopyName) (hd : 0 < d) (hr : mcat rest ≤ 8) (e0 : hh[a0]? = some (.inr (false, n0, f))) (e1 : hh[a1]? = some (.inr (false, n1, g))) (hx : (0 ≤ sp ∧ 0 ≤ dp ∧ 0 ≤ n) ∧ sp + n ≤ (n0 : Int) ∧ dp + n ≤ (n1 : Int) ∧ n0 < 65536 ∧ n1 < 65536) (kk : G (pc + 3) L rest (hh.set a1 (.inr (false, n1, mcpy f g sp.toNat dp.toNat n.toNat)))) : G pc L st hh := by
  subst hst
  exact h.2.2.2.2.2.2.2.2.1 _ _ _ _ _ _ _ _ _ _ _ _ _ _ _ _ _ hs hl hd hr e0 e1 hx kk
theorem rIR (h : mRul l d own ret cd fT kT kJ G pI pJ pV) {z : Int} (hst : st = [mi z]) (hs : sfx 0 cd pc = (.ireturn, len, tg) :: r0) (hr : mrt ret z) (q : pI z hh) : G pc L st hh := by
  subst hst
  exact h.2.2.2.2.2.2.2.2.2.1 _ _ _ _ _ _ _ hs hr q
theorem rVR (h : mRul l d own ret cd fT kT kJ G pI pJ pV) (hst : st = []) (hs : sfx 0 cd pc = (.return_, len, tg) :: r0) (hr : ret = none) (q : pV hh) : G pc L st hh := by
  subst hst
  exact h.2.2.2.2.2.2.2.2.2.2.1 _ _ _ _ _ _ hs hr q
theorem rLR (h : mRul l d own ret cd fT kT kJ G pI pJ pV) {z : Int} (hst : st = [ml z]) (hs : sfx 0 cd pc = (.lreturn, len, tg) :: r0) (hr : ret = some .long) (q : pJ z hh) : G pc L st hh := by
  subst hst
  exact h.2.2.2.2.2.2.2.2.2.2.2.1 _ _ _ _ _ _ _ hs hr q
theorem rSN (h : mRul l d own ret cd fT kT kJ G pI pJ pV) {host : String} {post : Int → mH → Prop} (hsp : SpI l d' y b nL' rt As hh post) (hst : st = As.reverse ++ rest) (hs : sfx 0 cd pc = (.invokestatic idx, len, tg) :: r0) (hl : mlN own idx y host) (hf : mfS y b nL' rt As.length) (hd : d' < d) (hr : mcat rest ≤ 8) (kk : ∀ z h', post z h' → G (pc + 3) L (mi z :: rest) h') : G pc L st hh := by
  subst hst
  exact h.2.2.2.2.2.2.2.2.2.2.2.2 _ _ _ _ _ _ _ _ _ _ _ _ _ _ _ _ hs hf hl hd hr hsp kk
end RUL
end
section
/-! the class's heap: 27 cells -/
abbrev FN : Type := Nat → Int
abbrev TD : Type := FN × FN × FN × Int × Int × Int × Int × Int × Int
abbrev SD : Type := FN × Int × Int
abbrev PD : Type := Bool × FN × FN × Int × Int × Int
abbrev HD : Type := Bool × FN × FN × FN × Int
abbrev XD : Type := FN × Int × Int × Int × Int × Int × Int × Int × Int × Int
abbrev UD : Type := Bool × Int
def tSun (t : TD) : FN := t.1
def tBri (t : TD) : FN := t.2.1
def tTra (t : TD) : FN := t.2.2.1
def tDay (t : TD) : Int := t.2.2.2.1
def tNB (t : TD) : Int := t.2.2.2.2.1
def tNT (t : TD) : Int := t.2.2.2.2.2.1
def tRst (t : TD) : Int := t.2.2.2.2.2.2.1
def tLim (t : TD) : Int := t.2.2.2.2.2.2.2.1
def tAdd (t : TD) : Int := t.2.2.2.2.2.2.2.2
def ref2 (k : Bool) (a b : Nat) : mV := mr (cond k a b)
def toldO (k : Nat) (t : TD) : mC := .inl (5, [mr (k + 1), mr (k + 2), mr (k + 3), mi (tDay t), mi (tNB t), mi (tNT t), mi (tRst t), mi (tLim t), mi (tAdd t)])
def storyO (k : Nat) (t : SD) : mC := .inl (3, [mr (k + 1), mi t.2.1, mi t.2.2])
def arrI (n : Nat) (f : FN) : mC := .inr (false, n, f)
def xB (x : XD) : FN := x.1
def xN (x : XD) : Int := x.2.1
def xP (x : XD) : Int := x.2.2.1
def xS (x : XD) : Int := x.2.2.2.1
def xK (x : XD) : Int := x.2.2.2.2.1
def xV (x : XD) : Int := x.2.2.2.2.2.1
def xF (x : XD) : Int := x.2.2.2.2.2.2.1
def xR (x : XD) : Int := x.2.2.2.2.2.2.2.1
def xL (x : XD) : Int := x.2.2.2.2.2.2.2.2.1
def xA (x : XD) : Int := x.2.2.2.2.2.2.2.2.2
def textO (x : XD) : mC := .inl (4, [mr 2, mi (xN x), mi (xP x), mi (xS x), mi (xK x), mi (xV x), mi (xF x), mi (xR x), mi (xL x), mi (xA x)])
def topO (u : UD) : mC := .inl (6, [mr 1, mr (cond u.1 7 3), mr (cond u.1 3 7), mr 11, mr 13, mr 15, mr 17, mr 20, mr 23, ml u.2])
def planO (ci a b : Nat) (p : PD) : mC := .inl (ci, [mr (cond p.1 b a), mr (cond p.1 a b), mi p.2.2.2.1, mi p.2.2.2.2.1, mi p.2.2.2.2.2])
def hearO (r : HD) : mC := .inl (0, [mr 24, mr (cond r.1 26 25), mr (cond r.1 25 26), mi r.2.2.2.2])
def hC (uo : UD) (ux : XD) (ua ub : TD) (v0 v1 v2 : SD) (up uq : PD) (ur : HD) : mH :=
  [topO uo, textO ux, arrI 150 (xB ux),
   toldO 3 ua, arrI 14 (tSun ua), arrI 24 (tBri ua), arrI 8 (tTra ua),
   toldO 7 ub, arrI 14 (tSun ub), arrI 24 (tBri ub), arrI 8 (tTra ub),
   storyO 11 v0, arrI 99 v0.1, storyO 13 v1, arrI 99 v1.1, storyO 15 v2, arrI 99 v2.1,
   planO 2 18 19 up, arrI 19 (cond up.1 up.2.2.1 up.2.1), arrI 19 (cond up.1 up.2.1 up.2.2.1),
   planO 1 21 22 uq, arrI 950 (cond uq.1 uq.2.2.1 uq.2.1), arrI 950 (cond uq.1 uq.2.1 uq.2.2.1),
   hearO ur, arrI 14 ur.2.1, arrI 19 (cond ur.1 ur.2.2.2.1 ur.2.2.1), arrI 19 (cond ur.1 ur.2.2.1 ur.2.2.2.1)]
def tix (k : Bool) : Nat := cond k 7 3
def tsel (k : Bool) (a b : TD) : TD := cond k b a
theorem lkN_X1_75 : mlN RX1 75 yX6_isBeyond "TowerPrisoner" := ⟨Or.inl ⟨rfl, rfl⟩, rfl, rfl⟩
theorem lkN_X3_100 : mlN RX3 100 yX6_isBeyond "TowerPrisoner" := ⟨Or.inr ⟨rfl, rfl⟩, rfl, rfl⟩
end
section
/-! Told: what it answers -/
section WALKS
variable {l : Launch}
set_option maxRecDepth 20000 in
set_option maxHeartbeats 2000000 in
theorem sp_X5_hasTrade {uo : UD} {ux : XD} {ua ub : TD} {v0 v1 v2 : SD} {up uq : PD} {ur : HD} {k : Bool} {t : TD} (ht : t = tsel k ua ub) {i : Int} (h1 : inI i) (h2 : inI (tNT t)) : SpI l 1 yX5_hasTrade cX5_hasTrade 2 (some .boolean) [mr (tix k), mi i] (hC uo ux ua ub v0 v1 v2 up uq ur) (fun z h => z = (if 0 ≤ i ∧ i < tNT t then 1 else 0) ∧ h = hC uo ux ua ub v0 v1 v2 up uq ur) := by
  cases k
  · obtain rfl : t = ua := ht
    refine SpI.of (cd := kdX5_hasTrade) (fT := mlook flX5) (kT := mlook klX5) (kJ := mlook jlX5) mfA_X5_hasTrade ok_X5_hasTrade fT_X5 kT_X5 jT_X5 jdk_ok True.intro (Nat.le_of_ble_eq_true rfl) (fun G hG => ?_)
    refine rRun hG 99999 ?_
    refine And.intro (by omega) (And.intro (fun c1 => ?_) (fun c1 => ?_))
    · skip
      refine rRun hG 99999 ?_
      refine rIR hG rfl rfl (by first | exact Or.inl rfl | exact Or.inr rfl | (show _ ∨ _; omega)) ?_
      exact ⟨by first | (rw [if_pos (by omega)]; done) | (rw [if_neg (by omega)]; done), rfl⟩
    · skip
      refine And.intro rfl (And.intro (by omega) (And.intro (fun c2 => ?_) (fun c2 => ?_)))
      · skip
        refine rRun hG 99999 ?_
        refine rIR hG rfl rfl (by first | exact Or.inl rfl | exact Or.inr rfl | (show _ ∨ _; omega)) ?_
        exact ⟨by first | (rw [if_pos (by omega)]; done) | (rw [if_neg (by omega)]; done), rfl⟩
      · skip
        refine rIR hG rfl rfl (by first | exact Or.inl rfl | exact Or.inr rfl | (show _ ∨ _; omega)) ?_
        exact ⟨by first | (rw [if_pos (by omega)]; done) | (rw [if_neg (by omega)]; done), rfl⟩
  · obtain rfl : t = ub := ht
    refine SpI.of (cd := kdX5_hasTrade) (fT := mlook flX5) (kT := mlook klX5) (kJ := mlook jlX5) mfA_X5_hasTrade ok_X5_hasTrade fT_X5 kT_X5 jT_X5 jdk_ok True.intro (Nat.le_of_ble_eq_true rfl) (fun G hG => ?_)
    refine rRun hG 99999 ?_
    refine And.intro (by omega) (And.intro (fun c3 => ?_) (fun c3 => ?_))
    · skip
      refine rRun hG 99999 ?_
      refine rIR hG rfl rfl (by first | exact Or.inl rfl | exact Or.inr rfl | (show _ ∨ _; omega)) ?_
      exact ⟨by first | (rw [if_pos (by omega)]; done) | (rw [if_neg (by omega)]; done), rfl⟩
    · skip
      refine And.intro rfl (And.intro (by omega) (And.intro (fun c4 => ?_) (fun c4 => ?_)))
      · skip
        refine rRun hG 99999 ?_
        refine rIR hG rfl rfl (by first | exact Or.inl rfl | exact Or.inr rfl | (show _ ∨ _; omega)) ?_
        exact ⟨by first | (rw [if_pos (by omega)]; done) | (rw [if_neg (by omega)]; done), rfl⟩
      · skip
        refine rIR hG rfl rfl (by first | exact Or.inl rfl | exact Or.inr rfl | (show _ ∨ _; omega)) ?_
        exact ⟨by first | (rw [if_pos (by omega)]; done) | (rw [if_neg (by omega)]; done), rfl⟩
set_option maxRecDepth 20000 in
set_option maxHeartbeats 2000000 in
theorem sp_X5_sunOf {uo : UD} {ux : XD} {ua ub : TD} {v0 v1 v2 : SD} {up uq : PD} {ur : HD} {k : Bool} {t : TD} (ht : t = tsel k ua ub) {i : Int} (h1 : inI i) (h2 : inI (tDay t)) : SpI l 1 yX5_sunOf cX5_sunOf 2 (some .int) [mr (tix k), mi i] (hC uo ux ua ub v0 v1 v2 up uq ur) (fun z h => z = (if 0 ≤ i ∧ i < tDay t ∧ i < 14 then tSun t i.toNat else -1) ∧ h = hC uo ux ua ub v0 v1 v2 up uq ur) := by
  cases k
  · obtain rfl : t = ua := ht
    refine SpI.of (cd := kdX5_sunOf) (fT := mlook flX5) (kT := mlook klX5) (kJ := mlook jlX5) mfA_X5_sunOf ok_X5_sunOf fT_X5 kT_X5 jT_X5 jdk_ok True.intro (Nat.le_of_ble_eq_true rfl) (fun G hG => ?_)
    refine rRun hG 99999 ?_
    refine And.intro (by omega) (And.intro (fun c1 => ?_) (fun c1 => ?_))
    · skip
      refine rRun hG 99999 ?_
      refine rIR hG rfl rfl (True.intro) ?_
      exact ⟨by first | (rw [if_pos (by omega)]; done) | (rw [if_neg (by omega)]; done), rfl⟩
    · skip
      refine And.intro rfl (And.intro (by omega) (And.intro (fun c2 => ?_) (fun c2 => ?_)))
      · skip
        refine rRun hG 99999 ?_
        refine rIR hG rfl rfl (True.intro) ?_
        exact ⟨by first | (rw [if_pos (by omega)]; done) | (rw [if_neg (by omega)]; done), rfl⟩
      · skip
        refine And.intro rfl (And.intro (by decide) (And.intro (by omega) (And.intro (fun c3 => ?_) (fun c3 => ?_))))
        · skip
          refine rRun hG 99999 ?_
          refine rIR hG rfl rfl (True.intro) ?_
          exact ⟨by first | (rw [if_pos (by omega)]; done) | (rw [if_neg (by omega)]; done), rfl⟩
        · skip
          refine And.intro rfl (And.intro (by omega) (?_))
          refine rIR hG rfl rfl (True.intro) ?_
          exact ⟨by first | (rw [if_pos (by omega)]; done) | (rw [if_neg (by omega)]; done), rfl⟩
  · obtain rfl : t = ub := ht
    refine SpI.of (cd := kdX5_sunOf) (fT := mlook flX5) (kT := mlook klX5) (kJ := mlook jlX5) mfA_X5_sunOf ok_X5_sunOf fT_X5 kT_X5 jT_X5 jdk_ok True.intro (Nat.le_of_ble_eq_true rfl) (fun G hG => ?_)
    refine rRun hG 99999 ?_
    refine And.intro (by omega) (And.intro (fun c4 => ?_) (fun c4 => ?_))
    · skip
      refine rRun hG 99999 ?_
      refine rIR hG rfl rfl (True.intro) ?_
      exact ⟨by first | (rw [if_pos (by omega)]; done) | (rw [if_neg (by omega)]; done), rfl⟩
    · skip
      refine And.intro rfl (And.intro (by omega) (And.intro (fun c5 => ?_) (fun c5 => ?_)))
      · skip
        refine rRun hG 99999 ?_
        refine rIR hG rfl rfl (True.intro) ?_
        exact ⟨by first | (rw [if_pos (by omega)]; done) | (rw [if_neg (by omega)]; done), rfl⟩
      · skip
        refine And.intro rfl (And.intro (by decide) (And.intro (by omega) (And.intro (fun c6 => ?_) (fun c6 => ?_))))
        · skip
          refine rRun hG 99999 ?_
          refine rIR hG rfl rfl (True.intro) ?_
          exact ⟨by first | (rw [if_pos (by omega)]; done) | (rw [if_neg (by omega)]; done), rfl⟩
        · skip
          refine And.intro rfl (And.intro (by omega) (?_))
          refine rIR hG rfl rfl (True.intro) ?_
          exact ⟨by first | (rw [if_pos (by omega)]; done) | (rw [if_neg (by omega)]; done), rfl⟩
set_option maxRecDepth 20000 in
set_option maxHeartbeats 2000000 in
theorem sp_X5_ofBribe {uo : UD} {ux : XD} {ua ub : TD} {v0 v1 v2 : SD} {up uq : PD} {ur : HD} {k : Bool} {t : TD} (ht : t = tsel k ua ub) {b w : Int} (h1 : inI (4 * b + w)) : SpI l 1 yX5_ofBribe cX5_ofBribe 4 (some .int) [mr (tix k), mi b, mi w] (hC uo ux ua ub v0 v1 v2 up uq ur) (fun z h => z = (if 0 ≤ 4 * b + w ∧ 4 * b + w < 24 then tBri t (4 * b + w).toNat else -1000000) ∧ h = hC uo ux ua ub v0 v1 v2 up uq ur) := by
  cases k
  · obtain rfl : t = ua := ht
    refine SpI.of (cd := kdX5_ofBribe) (fT := mlook flX5) (kT := mlook klX5) (kJ := mlook jlX5) mfA_X5_ofBribe ok_X5_ofBribe fT_X5 kT_X5 jT_X5 jdk_ok True.intro (Nat.le_of_ble_eq_true rfl) (fun G hG => ?_)
    refine rRun hG 99999 ?_
    refine And.intro (by omega) (And.intro (fun c1 => ?_) (fun c1 => ?_))
    · skip
      refine rRun hG 99999 ?_
      refine rIR hG rfl rfl (True.intro) ?_
      exact ⟨by first | (rw [if_pos (by omega)]; done) | (rw [if_neg (by omega)]; done), rfl⟩
    · skip
      refine And.intro rfl (And.intro (by decide) (And.intro (by omega) (And.intro (fun c2 => ?_) (fun c2 => ?_))))
      · skip
        refine rRun hG 99999 ?_
        refine rIR hG rfl rfl (True.intro) ?_
        exact ⟨by first | (rw [if_pos (by omega)]; done) | (rw [if_neg (by omega)]; done), rfl⟩
      · skip
        refine And.intro rfl (And.intro (by omega) (?_))
        refine rIR hG rfl rfl (True.intro) ?_
        exact ⟨by first | (rw [if_pos (by omega)]; done) | (rw [if_neg (by omega)]; done), rfl⟩
  · obtain rfl : t = ub := ht
    refine SpI.of (cd := kdX5_ofBribe) (fT := mlook flX5) (kT := mlook klX5) (kJ := mlook jlX5) mfA_X5_ofBribe ok_X5_ofBribe fT_X5 kT_X5 jT_X5 jdk_ok True.intro (Nat.le_of_ble_eq_true rfl) (fun G hG => ?_)
    refine rRun hG 99999 ?_
    refine And.intro (by omega) (And.intro (fun c3 => ?_) (fun c3 => ?_))
    · skip
      refine rRun hG 99999 ?_
      refine rIR hG rfl rfl (True.intro) ?_
      exact ⟨by first | (rw [if_pos (by omega)]; done) | (rw [if_neg (by omega)]; done), rfl⟩
    · skip
      refine And.intro rfl (And.intro (by decide) (And.intro (by omega) (And.intro (fun c4 => ?_) (fun c4 => ?_))))
      · skip
        refine rRun hG 99999 ?_
        refine rIR hG rfl rfl (True.intro) ?_
        exact ⟨by first | (rw [if_pos (by omega)]; done) | (rw [if_neg (by omega)]; done), rfl⟩
      · skip
        refine And.intro rfl (And.intro (by omega) (?_))
        refine rIR hG rfl rfl (True.intro) ?_
        exact ⟨by first | (rw [if_pos (by omega)]; done) | (rw [if_neg (by omega)]; done), rfl⟩
set_option maxRecDepth 20000 in
set_option maxHeartbeats 2000000 in
theorem sp_X5_ofTrade {uo : UD} {ux : XD} {ua ub : TD} {v0 v1 v2 : SD} {up uq : PD} {ur : HD} {k : Bool} {t : TD} (ht : t = tsel k ua ub) {b w : Int} (h1 : inI (2 * b + w)) : SpI l 1 yX5_ofTrade cX5_ofTrade 4 (some .int) [mr (tix k), mi b, mi w] (hC uo ux ua ub v0 v1 v2 up uq ur) (fun z h => z = (if 0 ≤ 2 * b + w ∧ 2 * b + w < 8 then tTra t (2 * b + w).toNat else -1) ∧ h = hC uo ux ua ub v0 v1 v2 up uq ur) := by
  cases k
  · obtain rfl : t = ua := ht
    refine SpI.of (cd := kdX5_ofTrade) (fT := mlook flX5) (kT := mlook klX5) (kJ := mlook jlX5) mfA_X5_ofTrade ok_X5_ofTrade fT_X5 kT_X5 jT_X5 jdk_ok True.intro (Nat.le_of_ble_eq_true rfl) (fun G hG => ?_)
    refine rRun hG 99999 ?_
    refine And.intro (by omega) (And.intro (fun c1 => ?_) (fun c1 => ?_))
    · skip
      refine rRun hG 99999 ?_
      refine rIR hG rfl rfl (True.intro) ?_
      exact ⟨by first | (rw [if_pos (by omega)]; done) | (rw [if_neg (by omega)]; done), rfl⟩
    · skip
      refine And.intro rfl (And.intro (by decide) (And.intro (by omega) (And.intro (fun c2 => ?_) (fun c2 => ?_))))
      · skip
        refine rRun hG 99999 ?_
        refine rIR hG rfl rfl (True.intro) ?_
        exact ⟨by first | (rw [if_pos (by omega)]; done) | (rw [if_neg (by omega)]; done), rfl⟩
      · skip
        refine And.intro rfl (And.intro (by omega) (?_))
        refine rIR hG rfl rfl (True.intro) ?_
        exact ⟨by first | (rw [if_pos (by omega)]; done) | (rw [if_neg (by omega)]; done), rfl⟩
  · obtain rfl : t = ub := ht
    refine SpI.of (cd := kdX5_ofTrade) (fT := mlook flX5) (kT := mlook klX5) (kJ := mlook jlX5) mfA_X5_ofTrade ok_X5_ofTrade fT_X5 kT_X5 jT_X5 jdk_ok True.intro (Nat.le_of_ble_eq_true rfl) (fun G hG => ?_)
    refine rRun hG 99999 ?_
    refine And.intro (by omega) (And.intro (fun c3 => ?_) (fun c3 => ?_))
    · skip
      refine rRun hG 99999 ?_
      refine rIR hG rfl rfl (True.intro) ?_
      exact ⟨by first | (rw [if_pos (by omega)]; done) | (rw [if_neg (by omega)]; done), rfl⟩
    · skip
      refine And.intro rfl (And.intro (by decide) (And.intro (by omega) (And.intro (fun c4 => ?_) (fun c4 => ?_))))
      · skip
        refine rRun hG 99999 ?_
        refine rIR hG rfl rfl (True.intro) ?_
        exact ⟨by first | (rw [if_pos (by omega)]; done) | (rw [if_neg (by omega)]; done), rfl⟩
      · skip
        refine And.intro rfl (And.intro (by omega) (?_))
        refine rIR hG rfl rfl (True.intro) ?_
        exact ⟨by first | (rw [if_pos (by omega)]; done) | (rw [if_neg (by omega)]; done), rfl⟩
def TOK (t : TD) : Prop := (0 ≤ tDay t ∧ tDay t ≤ 14) ∧ (0 ≤ tNB t ∧ tNB t ≤ 6) ∧ (0 ≤ tNT t ∧ tNT t ≤ 4) ∧ (0 ≤ tRst t ∧ tRst t ≤ 60) ∧ (0 ≤ tLim t ∧ tLim t ≤ 6) ∧ (0 ≤ tAdd t ∧ tAdd t ≤ 9) ∧ (∀ i, i < 14 → 0 ≤ tSun t i ∧ tSun t i ≤ 10) ∧ (∀ i, i < 6 → (0 ≤ tBri t (4 * i) ∧ tBri t (4 * i) ≤ 13) ∧ (0 ≤ tBri t (4 * i + 1) ∧ tBri t (4 * i + 1) ≤ 1) ∧ (-2 ≤ tBri t (4 * i + 2) ∧ tBri t (4 * i + 2) ≤ 3) ∧ 0 ≤ tBri t (4 * i + 3) ∧ tBri t (4 * i + 3) ≤ 20) ∧ (∀ i, i < 4 → (0 ≤ tTra t (2 * i) ∧ tTra t (2 * i) ≤ 9) ∧ 0 ≤ tTra t (2 * i + 1) ∧ tTra t (2 * i + 1) ≤ 1)
/-- what bribes of a day bring by a pace -/
def cndl (br : FN) (day pace : Int) : Nat → Int
  | 0 => 0
  | b + 1 => cndl br day pace b + (if br (4 * b) = day ∧ ((br (4 * b + 1) = 0 ∧ pace ≤ br (4 * b + 2)) ∨ (¬ br (4 * b + 1) = 0 ∧ br (4 * b + 2) ≤ pace)) then br (4 * b + 3) else 0)
theorem cndl_s {br : FN} {day pace : Int} {b : Nat} : cndl br day pace (b + 1) = cndl br day pace b + (if br (4 * b) = day ∧ ((br (4 * b + 1) = 0 ∧ pace ≤ br (4 * b + 2)) ∨ (¬ br (4 * b + 1) = 0 ∧ br (4 * b + 2) ≤ pace)) then br (4 * b + 3) else 0) := rfl
def hrm1 (tr : FN) (e : Int) (t : Nat) : Int := if tr (2 * t + 1) = 0 then (if e < 0 then tr (2 * t) * (-e) else 0) else (if 0 < e then tr (2 * t) * e else 0)
def hrmS (tr : FN) (e : Int) : Nat → Int
  | 0 => 0
  | t + 1 => hrmS tr e t + hrm1 tr e t
set_option maxRecDepth 20000 in
set_option maxHeartbeats 4000000 in
theorem sp_X5_candlesFor {uo : UD} {ux : XD} {ua ub : TD} {v0 v1 v2 : SD} {up uq : PD} {ur : HD} {k : Bool} {t : TD} (ht : t = tsel k ua ub) {day pace : Int} (hT : TOK t) (h1 : inI day) (h2 : inI pace) : SpI l 2 yX5_candlesFor cX5_candlesFor 7 (some .int) [mr (tix k), mi day, mi pace] (hC uo ux ua ub v0 v1 v2 up uq ur) (fun z h => z = cndl (tBri t) day pace (tNB t).toNat ∧ h = hC uo ux ua ub v0 v1 v2 up uq ur) := by
  have hT2 := hT.2.1
  cases k
  · obtain rfl : t = ua := ht
    refine SpI.of (cd := kdX5_candlesFor) (fT := mlook flX5) (kT := mlook klX5) (kJ := mlook jlX5) mfA_X5_candlesFor ok_X5_candlesFor fT_X5 kT_X5 jT_X5 jdk_ok True.intro (Nat.le_of_ble_eq_true rfl) (fun G hG => ?_)
    refine rRun hG 5 ?_
    have J5 : ∀ (n : Nat) (i : Nat), (i : Int) ≤ tNB t → (tNB t).toNat - i < n → G 5 [some (mr 3), some (mi day), some (mi pace), some (mi (cndl (tBri t) day pace i)), some (mi i), none, none] [] (hC uo ux t ub v0 v1 v2 up uq ur) := by
      intro n
      induction n with
      | zero => intro i _ hm; exact absurd hm (Nat.not_lt_zero _)
      | succ n ih =>
        intro i hinv hm
        have hB : i < 6 → _ := hT.2.2.2.2.2.2.2.1 i
        refine rRun hG 99999 ?_
        refine And.intro rfl (And.intro (by omega) (And.intro (fun c1 => ?_) (fun c1 => ?_)))
        · skip
          refine rRun hG 99999 ?_
          refine rIR hG rfl rfl (True.intro) ?_
          refine ⟨?_, rfl⟩
          rw [show (tNB t).toNat = i by omega]
        · skip
          have hB := hB (by omega)
          refine rV hG (sp_X5_ofBribe (t := t) (ht := rfl) (k := false) (b := (i : Int)) (w := 2) (by omega)) rfl rfl lk_X5_44 mf_X5_ofBribe (by decide) (Nat.le_of_ble_eq_true rfl) ⟨_, _, _, rfl, rfl, rfl⟩ ?_
          rintro z _ ⟨hz, rfl⟩
          rw [if_pos (by omega), show (4 * (i : Int) + 2).toNat = 4 * i + 2 by omega] at hz
          subst hz
          refine rRun hG 99999 ?_
          refine rV hG (sp_X5_ofBribe (t := t) (ht := rfl) (k := false) (b := (i : Int)) (w := 1) (by omega)) rfl rfl lk_X5_44 mf_X5_ofBribe (by decide) (Nat.le_of_ble_eq_true rfl) ⟨_, _, _, rfl, rfl, rfl⟩ ?_
          rintro z _ ⟨hz, rfl⟩
          rw [if_pos (by omega), show (4 * (i : Int) + 1).toNat = 4 * i + 1 by omega] at hz
          subst hz
          refine rRun hG 99999 ?_
          refine And.intro (by omega) (And.intro (fun c4 => ?_) (fun c4 => ?_))
          · skip
            refine rRun hG 99999 ?_
            refine And.intro (by omega) (And.intro (fun c5 => ?_) (fun c5 => ?_))
            · skip
              refine rRun hG 99999 ?_
              refine rV hG (sp_X5_ofBribe (t := t) (ht := rfl) (k := false) (b := (i : Int)) (w := 0) (by omega)) rfl rfl lk_X5_44 mf_X5_ofBribe (by decide) (Nat.le_of_ble_eq_true rfl) ⟨_, _, _, rfl, rfl, rfl⟩ ?_
              rintro z _ ⟨hz, rfl⟩
              rw [if_pos (by omega), show (4 * (i : Int) + 0).toNat = 4 * i by omega] at hz
              subst hz
              refine rRun hG 99999 ?_
              refine And.intro (by omega) (And.intro (fun c7 => ?_) (fun c7 => ?_))
              · skip
                refine rRun hG 99999 ?_
                refine rLess hG ?_ (ih (i + 1) ?_ ?_)
                · refine ⟨rfl, rfl, rfl, congrArg mi ?_, rfl, True.intro⟩
                  rw [cndl_s]
                  first | (rw [if_pos (by omega)]; done) | (rw [if_neg (by omega), Int.add_zero]; done)
                · omega
                · omega
              · skip
                refine And.intro (by omega) (And.intro (fun c8 => ?_) (fun c8 => ?_))
                · skip
                  refine rRun hG 99999 ?_
                  refine rLess hG ?_ (ih (i + 1) ?_ ?_)
                  · refine ⟨rfl, rfl, rfl, congrArg mi ?_, rfl, True.intro⟩
                    rw [cndl_s]
                    first | (rw [if_pos (by omega)]; done) | (rw [if_neg (by omega), Int.add_zero]; done)
                  · omega
                  · omega
                · skip
                  refine rV hG (sp_X5_ofBribe (t := t) (ht := rfl) (k := false) (b := (i : Int)) (w := 3) (by omega)) rfl rfl lk_X5_44 mf_X5_ofBribe (by decide) (Nat.le_of_ble_eq_true rfl) ⟨_, _, _, rfl, rfl, rfl⟩ ?_
                  rintro z _ ⟨hz, rfl⟩
                  rw [if_pos (by omega), show (4 * (i : Int) + 3).toNat = 4 * i + 3 by omega] at hz
                  subst hz
                  refine rRun hG 99999 ?_
                  refine rLess hG ?_ (ih (i + 1) ?_ ?_)
                  · refine ⟨rfl, rfl, rfl, congrArg mi ?_, rfl, True.intro⟩
                    rw [cndl_s]
                    first | (rw [if_pos (by omega)]; done) | (rw [if_neg (by omega), Int.add_zero]; done)
                  · omega
                  · omega
            · skip
              refine rRun hG 99999 ?_
              refine rV hG (sp_X5_ofBribe (t := t) (ht := rfl) (k := false) (b := (i : Int)) (w := 0) (by omega)) rfl rfl lk_X5_44 mf_X5_ofBribe (by decide) (Nat.le_of_ble_eq_true rfl) ⟨_, _, _, rfl, rfl, rfl⟩ ?_
              rintro z _ ⟨hz, rfl⟩
              rw [if_pos (by omega), show (4 * (i : Int) + 0).toNat = 4 * i by omega] at hz
              subst hz
              refine rRun hG 99999 ?_
              refine And.intro (by omega) (And.intro (fun c11 => ?_) (fun c11 => ?_))
              · skip
                refine rRun hG 99999 ?_
                refine rLess hG ?_ (ih (i + 1) ?_ ?_)
                · refine ⟨rfl, rfl, rfl, congrArg mi ?_, rfl, True.intro⟩
                  rw [cndl_s]
                  first | (rw [if_pos (by omega)]; done) | (rw [if_neg (by omega), Int.add_zero]; done)
                · omega
                · omega
              · skip
                refine And.intro (by omega) (And.intro (fun c12 => ?_) (fun c12 => ?_))
                · skip
                  refine rRun hG 99999 ?_
                  refine rLess hG ?_ (ih (i + 1) ?_ ?_)
                  · refine ⟨rfl, rfl, rfl, congrArg mi ?_, rfl, True.intro⟩
                    rw [cndl_s]
                    first | (rw [if_pos (by omega)]; done) | (rw [if_neg (by omega), Int.add_zero]; done)
                  · omega
                  · omega
                · skip
                  refine rV hG (sp_X5_ofBribe (t := t) (ht := rfl) (k := false) (b := (i : Int)) (w := 3) (by omega)) rfl rfl lk_X5_44 mf_X5_ofBribe (by decide) (Nat.le_of_ble_eq_true rfl) ⟨_, _, _, rfl, rfl, rfl⟩ ?_
                  rintro z _ ⟨hz, rfl⟩
                  rw [if_pos (by omega), show (4 * (i : Int) + 3).toNat = 4 * i + 3 by omega] at hz
                  subst hz
                  refine rRun hG 99999 ?_
                  refine rLess hG ?_ (ih (i + 1) ?_ ?_)
                  · refine ⟨rfl, rfl, rfl, congrArg mi ?_, rfl, True.intro⟩
                    rw [cndl_s]
                    first | (rw [if_pos (by omega)]; done) | (rw [if_neg (by omega), Int.add_zero]; done)
                  · omega
                  · omega
          · skip
            refine And.intro (by omega) (And.intro (fun c14 => ?_) (fun c14 => ?_))
            · skip
              refine rRun hG 99999 ?_
              refine rRun hG 99999 ?_
              refine rV hG (sp_X5_ofBribe (t := t) (ht := rfl) (k := false) (b := (i : Int)) (w := 0) (by omega)) rfl rfl lk_X5_44 mf_X5_ofBribe (by decide) (Nat.le_of_ble_eq_true rfl) ⟨_, _, _, rfl, rfl, rfl⟩ ?_
              rintro z _ ⟨hz, rfl⟩
              rw [if_pos (by omega), show (4 * (i : Int) + 0).toNat = 4 * i by omega] at hz
              subst hz
              refine rRun hG 99999 ?_
              refine And.intro (by omega) (And.intro (fun c16 => ?_) (fun c16 => ?_))
              · skip
                refine rRun hG 99999 ?_
                refine rLess hG ?_ (ih (i + 1) ?_ ?_)
                · refine ⟨rfl, rfl, rfl, congrArg mi ?_, rfl, True.intro⟩
                  rw [cndl_s]
                  first | (rw [if_pos (by omega)]; done) | (rw [if_neg (by omega), Int.add_zero]; done)
                · omega
                · omega
              · skip
                refine And.intro (by omega) (And.intro (fun c17 => ?_) (fun c17 => ?_))
                · skip
                  refine rRun hG 99999 ?_
                  refine rLess hG ?_ (ih (i + 1) ?_ ?_)
                  · refine ⟨rfl, rfl, rfl, congrArg mi ?_, rfl, True.intro⟩
                    rw [cndl_s]
                    first | (rw [if_pos (by omega)]; done) | (rw [if_neg (by omega), Int.add_zero]; done)
                  · omega
                  · omega
                · skip
                  refine rV hG (sp_X5_ofBribe (t := t) (ht := rfl) (k := false) (b := (i : Int)) (w := 3) (by omega)) rfl rfl lk_X5_44 mf_X5_ofBribe (by decide) (Nat.le_of_ble_eq_true rfl) ⟨_, _, _, rfl, rfl, rfl⟩ ?_
                  rintro z _ ⟨hz, rfl⟩
                  rw [if_pos (by omega), show (4 * (i : Int) + 3).toNat = 4 * i + 3 by omega] at hz
                  subst hz
                  refine rRun hG 99999 ?_
                  refine rLess hG ?_ (ih (i + 1) ?_ ?_)
                  · refine ⟨rfl, rfl, rfl, congrArg mi ?_, rfl, True.intro⟩
                    rw [cndl_s]
                    first | (rw [if_pos (by omega)]; done) | (rw [if_neg (by omega), Int.add_zero]; done)
                  · omega
                  · omega
            · skip
              refine rRun hG 99999 ?_
              refine rV hG (sp_X5_ofBribe (t := t) (ht := rfl) (k := false) (b := (i : Int)) (w := 0) (by omega)) rfl rfl lk_X5_44 mf_X5_ofBribe (by decide) (Nat.le_of_ble_eq_true rfl) ⟨_, _, _, rfl, rfl, rfl⟩ ?_
              rintro z _ ⟨hz, rfl⟩
              rw [if_pos (by omega), show (4 * (i : Int) + 0).toNat = 4 * i by omega] at hz
              subst hz
              refine rRun hG 99999 ?_
              refine And.intro (by omega) (And.intro (fun c20 => ?_) (fun c20 => ?_))
              · skip
                refine rRun hG 99999 ?_
                refine rLess hG ?_ (ih (i + 1) ?_ ?_)
                · refine ⟨rfl, rfl, rfl, congrArg mi ?_, rfl, True.intro⟩
                  rw [cndl_s]
                  first | (rw [if_pos (by omega)]; done) | (rw [if_neg (by omega), Int.add_zero]; done)
                · omega
                · omega
              · skip
                refine And.intro (by omega) (And.intro (fun c21 => ?_) (fun c21 => ?_))
                · skip
                  refine rRun hG 99999 ?_
                  refine rLess hG ?_ (ih (i + 1) ?_ ?_)
                  · refine ⟨rfl, rfl, rfl, congrArg mi ?_, rfl, True.intro⟩
                    rw [cndl_s]
                    first | (rw [if_pos (by omega)]; done) | (rw [if_neg (by omega), Int.add_zero]; done)
                  · omega
                  · omega
                · skip
                  refine rV hG (sp_X5_ofBribe (t := t) (ht := rfl) (k := false) (b := (i : Int)) (w := 3) (by omega)) rfl rfl lk_X5_44 mf_X5_ofBribe (by decide) (Nat.le_of_ble_eq_true rfl) ⟨_, _, _, rfl, rfl, rfl⟩ ?_
                  rintro z _ ⟨hz, rfl⟩
                  rw [if_pos (by omega), show (4 * (i : Int) + 3).toNat = 4 * i + 3 by omega] at hz
                  subst hz
                  refine rRun hG 99999 ?_
                  refine rLess hG ?_ (ih (i + 1) ?_ ?_)
                  · refine ⟨rfl, rfl, rfl, congrArg mi ?_, rfl, True.intro⟩
                    rw [cndl_s]
                    first | (rw [if_pos (by omega)]; done) | (rw [if_neg (by omega), Int.add_zero]; done)
                  · omega
                  · omega
    exact J5 _ 0 (by omega) (Nat.lt_succ_self _)
  · obtain rfl : t = ub := ht
    refine SpI.of (cd := kdX5_candlesFor) (fT := mlook flX5) (kT := mlook klX5) (kJ := mlook jlX5) mfA_X5_candlesFor ok_X5_candlesFor fT_X5 kT_X5 jT_X5 jdk_ok True.intro (Nat.le_of_ble_eq_true rfl) (fun G hG => ?_)
    refine rRun hG 5 ?_
    have J5 : ∀ (n : Nat) (i : Nat), (i : Int) ≤ tNB t → (tNB t).toNat - i < n → G 5 [some (mr 7), some (mi day), some (mi pace), some (mi (cndl (tBri t) day pace i)), some (mi i), none, none] [] (hC uo ux ua t v0 v1 v2 up uq ur) := by
      intro n
      induction n with
      | zero => intro i _ hm; exact absurd hm (Nat.not_lt_zero _)
      | succ n ih =>
        intro i hinv hm
        have hB : i < 6 → _ := hT.2.2.2.2.2.2.2.1 i
        refine rRun hG 99999 ?_
        refine And.intro rfl (And.intro (by omega) (And.intro (fun c1 => ?_) (fun c1 => ?_)))
        · skip
          refine rRun hG 99999 ?_
          refine rIR hG rfl rfl (True.intro) ?_
          refine ⟨?_, rfl⟩
          rw [show (tNB t).toNat = i by omega]
        · skip
          have hB := hB (by omega)
          refine rV hG (sp_X5_ofBribe (t := t) (ht := rfl) (k := true) (b := (i : Int)) (w := 2) (by omega)) rfl rfl lk_X5_44 mf_X5_ofBribe (by decide) (Nat.le_of_ble_eq_true rfl) ⟨_, _, _, rfl, rfl, rfl⟩ ?_
          rintro z _ ⟨hz, rfl⟩
          rw [if_pos (by omega), show (4 * (i : Int) + 2).toNat = 4 * i + 2 by omega] at hz
          subst hz
          refine rRun hG 99999 ?_
          refine rV hG (sp_X5_ofBribe (t := t) (ht := rfl) (k := true) (b := (i : Int)) (w := 1) (by omega)) rfl rfl lk_X5_44 mf_X5_ofBribe (by decide) (Nat.le_of_ble_eq_true rfl) ⟨_, _, _, rfl, rfl, rfl⟩ ?_
          rintro z _ ⟨hz, rfl⟩
          rw [if_pos (by omega), show (4 * (i : Int) + 1).toNat = 4 * i + 1 by omega] at hz
          subst hz
          refine rRun hG 99999 ?_
          refine And.intro (by omega) (And.intro (fun c4 => ?_) (fun c4 => ?_))
          · skip
            refine rRun hG 99999 ?_
            refine And.intro (by omega) (And.intro (fun c5 => ?_) (fun c5 => ?_))
            · skip
              refine rRun hG 99999 ?_
              refine rV hG (sp_X5_ofBribe (t := t) (ht := rfl) (k := true) (b := (i : Int)) (w := 0) (by omega)) rfl rfl lk_X5_44 mf_X5_ofBribe (by decide) (Nat.le_of_ble_eq_true rfl) ⟨_, _, _, rfl, rfl, rfl⟩ ?_
              rintro z _ ⟨hz, rfl⟩
              rw [if_pos (by omega), show (4 * (i : Int) + 0).toNat = 4 * i by omega] at hz
              subst hz
              refine rRun hG 99999 ?_
              refine And.intro (by omega) (And.intro (fun c7 => ?_) (fun c7 => ?_))
              · skip
                refine rRun hG 99999 ?_
                refine rLess hG ?_ (ih (i + 1) ?_ ?_)
                · refine ⟨rfl, rfl, rfl, congrArg mi ?_, rfl, True.intro⟩
                  rw [cndl_s]
                  first | (rw [if_pos (by omega)]; done) | (rw [if_neg (by omega), Int.add_zero]; done)
                · omega
                · omega
              · skip
                refine And.intro (by omega) (And.intro (fun c8 => ?_) (fun c8 => ?_))
                · skip
                  refine rRun hG 99999 ?_
                  refine rLess hG ?_ (ih (i + 1) ?_ ?_)
                  · refine ⟨rfl, rfl, rfl, congrArg mi ?_, rfl, True.intro⟩
                    rw [cndl_s]
                    first | (rw [if_pos (by omega)]; done) | (rw [if_neg (by omega), Int.add_zero]; done)
                  · omega
                  · omega
                · skip
                  refine rV hG (sp_X5_ofBribe (t := t) (ht := rfl) (k := true) (b := (i : Int)) (w := 3) (by omega)) rfl rfl lk_X5_44 mf_X5_ofBribe (by decide) (Nat.le_of_ble_eq_true rfl) ⟨_, _, _, rfl, rfl, rfl⟩ ?_
                  rintro z _ ⟨hz, rfl⟩
                  rw [if_pos (by omega), show (4 * (i : Int) + 3).toNat = 4 * i + 3 by omega] at hz
                  subst hz
                  refine rRun hG 99999 ?_
                  refine rLess hG ?_ (ih (i + 1) ?_ ?_)
                  · refine ⟨rfl, rfl, rfl, congrArg mi ?_, rfl, True.intro⟩
                    rw [cndl_s]
                    first | (rw [if_pos (by omega)]; done) | (rw [if_neg (by omega), Int.add_zero]; done)
                  · omega
                  · omega
            · skip
              refine rRun hG 99999 ?_
              refine rV hG (sp_X5_ofBribe (t := t) (ht := rfl) (k := true) (b := (i : Int)) (w := 0) (by omega)) rfl rfl lk_X5_44 mf_X5_ofBribe (by decide) (Nat.le_of_ble_eq_true rfl) ⟨_, _, _, rfl, rfl, rfl⟩ ?_
              rintro z _ ⟨hz, rfl⟩
              rw [if_pos (by omega), show (4 * (i : Int) + 0).toNat = 4 * i by omega] at hz
              subst hz
              refine rRun hG 99999 ?_
              refine And.intro (by omega) (And.intro (fun c11 => ?_) (fun c11 => ?_))
              · skip
                refine rRun hG 99999 ?_
                refine rLess hG ?_ (ih (i + 1) ?_ ?_)
                · refine ⟨rfl, rfl, rfl, congrArg mi ?_, rfl, True.intro⟩
                  rw [cndl_s]
                  first | (rw [if_pos (by omega)]; done) | (rw [if_neg (by omega), Int.add_zero]; done)
                · omega
                · omega
              · skip
                refine And.intro (by omega) (And.intro (fun c12 => ?_) (fun c12 => ?_))
                · skip
                  refine rRun hG 99999 ?_
                  refine rLess hG ?_ (ih (i + 1) ?_ ?_)
                  · refine ⟨rfl, rfl, rfl, congrArg mi ?_, rfl, True.intro⟩
                    rw [cndl_s]
                    first | (rw [if_pos (by omega)]; done) | (rw [if_neg (by omega), Int.add_zero]; done)
                  · omega
                  · omega
                · skip
                  refine rV hG (sp_X5_ofBribe (t := t) (ht := rfl) (k := true) (b := (i : Int)) (w := 3) (by omega)) rfl rfl lk_X5_44 mf_X5_ofBribe (by decide) (Nat.le_of_ble_eq_true rfl) ⟨_, _, _, rfl, rfl, rfl⟩ ?_
                  rintro z _ ⟨hz, rfl⟩
                  rw [if_pos (by omega), show (4 * (i : Int) + 3).toNat = 4 * i + 3 by omega] at hz
                  subst hz
                  refine rRun hG 99999 ?_
                  refine rLess hG ?_ (ih (i + 1) ?_ ?_)
                  · refine ⟨rfl, rfl, rfl, congrArg mi ?_, rfl, True.intro⟩
                    rw [cndl_s]
                    first | (rw [if_pos (by omega)]; done) | (rw [if_neg (by omega), Int.add_zero]; done)
                  · omega
                  · omega
          · skip
            refine And.intro (by omega) (And.intro (fun c14 => ?_) (fun c14 => ?_))
            · skip
              refine rRun hG 99999 ?_
              refine rRun hG 99999 ?_
              refine rV hG (sp_X5_ofBribe (t := t) (ht := rfl) (k := true) (b := (i : Int)) (w := 0) (by omega)) rfl rfl lk_X5_44 mf_X5_ofBribe (by decide) (Nat.le_of_ble_eq_true rfl) ⟨_, _, _, rfl, rfl, rfl⟩ ?_
              rintro z _ ⟨hz, rfl⟩
              rw [if_pos (by omega), show (4 * (i : Int) + 0).toNat = 4 * i by omega] at hz
              subst hz
              refine rRun hG 99999 ?_
              refine And.intro (by omega) (And.intro (fun c16 => ?_) (fun c16 => ?_))
              · skip
                refine rRun hG 99999 ?_
                refine rLess hG ?_ (ih (i + 1) ?_ ?_)
                · refine ⟨rfl, rfl, rfl, congrArg mi ?_, rfl, True.intro⟩
                  rw [cndl_s]
                  first | (rw [if_pos (by omega)]; done) | (rw [if_neg (by omega), Int.add_zero]; done)
                · omega
                · omega
              · skip
                refine And.intro (by omega) (And.intro (fun c17 => ?_) (fun c17 => ?_))
                · skip
                  refine rRun hG 99999 ?_
                  refine rLess hG ?_ (ih (i + 1) ?_ ?_)
                  · refine ⟨rfl, rfl, rfl, congrArg mi ?_, rfl, True.intro⟩
                    rw [cndl_s]
                    first | (rw [if_pos (by omega)]; done) | (rw [if_neg (by omega), Int.add_zero]; done)
                  · omega
                  · omega
                · skip
                  refine rV hG (sp_X5_ofBribe (t := t) (ht := rfl) (k := true) (b := (i : Int)) (w := 3) (by omega)) rfl rfl lk_X5_44 mf_X5_ofBribe (by decide) (Nat.le_of_ble_eq_true rfl) ⟨_, _, _, rfl, rfl, rfl⟩ ?_
                  rintro z _ ⟨hz, rfl⟩
                  rw [if_pos (by omega), show (4 * (i : Int) + 3).toNat = 4 * i + 3 by omega] at hz
                  subst hz
                  refine rRun hG 99999 ?_
                  refine rLess hG ?_ (ih (i + 1) ?_ ?_)
                  · refine ⟨rfl, rfl, rfl, congrArg mi ?_, rfl, True.intro⟩
                    rw [cndl_s]
                    first | (rw [if_pos (by omega)]; done) | (rw [if_neg (by omega), Int.add_zero]; done)
                  · omega
                  · omega
            · skip
              refine rRun hG 99999 ?_
              refine rV hG (sp_X5_ofBribe (t := t) (ht := rfl) (k := true) (b := (i : Int)) (w := 0) (by omega)) rfl rfl lk_X5_44 mf_X5_ofBribe (by decide) (Nat.le_of_ble_eq_true rfl) ⟨_, _, _, rfl, rfl, rfl⟩ ?_
              rintro z _ ⟨hz, rfl⟩
              rw [if_pos (by omega), show (4 * (i : Int) + 0).toNat = 4 * i by omega] at hz
              subst hz
              refine rRun hG 99999 ?_
              refine And.intro (by omega) (And.intro (fun c20 => ?_) (fun c20 => ?_))
              · skip
                refine rRun hG 99999 ?_
                refine rLess hG ?_ (ih (i + 1) ?_ ?_)
                · refine ⟨rfl, rfl, rfl, congrArg mi ?_, rfl, True.intro⟩
                  rw [cndl_s]
                  first | (rw [if_pos (by omega)]; done) | (rw [if_neg (by omega), Int.add_zero]; done)
                · omega
                · omega
              · skip
                refine And.intro (by omega) (And.intro (fun c21 => ?_) (fun c21 => ?_))
                · skip
                  refine rRun hG 99999 ?_
                  refine rLess hG ?_ (ih (i + 1) ?_ ?_)
                  · refine ⟨rfl, rfl, rfl, congrArg mi ?_, rfl, True.intro⟩
                    rw [cndl_s]
                    first | (rw [if_pos (by omega)]; done) | (rw [if_neg (by omega), Int.add_zero]; done)
                  · omega
                  · omega
                · skip
                  refine rV hG (sp_X5_ofBribe (t := t) (ht := rfl) (k := true) (b := (i : Int)) (w := 3) (by omega)) rfl rfl lk_X5_44 mf_X5_ofBribe (by decide) (Nat.le_of_ble_eq_true rfl) ⟨_, _, _, rfl, rfl, rfl⟩ ?_
                  rintro z _ ⟨hz, rfl⟩
                  rw [if_pos (by omega), show (4 * (i : Int) + 3).toNat = 4 * i + 3 by omega] at hz
                  subst hz
                  refine rRun hG 99999 ?_
                  refine rLess hG ?_ (ih (i + 1) ?_ ?_)
                  · refine ⟨rfl, rfl, rfl, congrArg mi ?_, rfl, True.intro⟩
                    rw [cndl_s]
                    first | (rw [if_pos (by omega)]; done) | (rw [if_neg (by omega), Int.add_zero]; done)
                  · omega
                  · omega
    exact J5 _ 0 (by omega) (Nat.lt_succ_self _)
set_option maxRecDepth 20000 in
set_option maxHeartbeats 4000000 in
theorem sp_X5_harmTo {uo : UD} {ux : XD} {ua ub : TD} {v0 v1 v2 : SD} {up uq : PD} {ur : HD} {k : Bool} {t : TD} (ht : t = tsel k ua ub) {i : Nat} {er : Int} (hT : TOK t) (hi : i < 4) (h1 : -1000 ≤ er ∧ er ≤ 1000) : SpI l 2 yX5_harmTo cX5_harmTo 4 (some .int) [mr (tix k), mi i, mi er] (hC uo ux ua ub v0 v1 v2 up uq ur) (fun z h => z = hrm1 (tTra t) er i ∧ h = hC uo ux ua ub v0 v1 v2 up uq ur) := by
  have hB := hT.2.2.2.2.2.2.2.2 i hi
  cases k
  · obtain rfl : t = ua := ht
    refine SpI.of (cd := kdX5_harmTo) (fT := mlook flX5) (kT := mlook klX5) (kJ := mlook jlX5) mfA_X5_harmTo ok_X5_harmTo fT_X5 kT_X5 jT_X5 jdk_ok True.intro (Nat.le_of_ble_eq_true rfl) (fun G hG => ?_)
    refine rRun hG 99999 ?_
    refine rV hG (sp_X5_ofTrade (t := t) (ht := rfl) (k := false) (b := (i : Int)) (w := 1) (by omega)) rfl rfl lk_X5_48 mf_X5_ofTrade (by decide) (Nat.le_of_ble_eq_true rfl) ⟨_, _, _, rfl, rfl, rfl⟩ ?_
    rintro z _ ⟨hz, rfl⟩
    rw [if_pos (by omega), show (2 * (i : Int) + 1).toNat = 2 * i + 1 by omega] at hz
    subst hz
    refine rRun hG 99999 ?_
    refine And.intro (by omega) (And.intro (fun c2 => ?_) (fun c2 => ?_))
    · skip
      refine rRun hG 99999 ?_
      refine And.intro (by omega) (And.intro (fun c3 => ?_) (fun c3 => ?_))
      · skip
        refine rRun hG 99999 ?_
        refine rIR hG rfl rfl (True.intro) ?_
        refine ⟨?_, rfl⟩
        unfold hrm1
        first | (rw [if_pos (by omega), if_pos (by omega)]; done) | (rw [if_pos (by omega), if_neg (by omega)]; done) | (rw [if_neg (by omega), if_pos (by omega)]; done) | (rw [if_neg (by omega), if_neg (by omega)]; done)
      · skip
        refine rV hG (sp_X5_ofTrade (t := t) (ht := rfl) (k := false) (b := (i : Int)) (w := 0) (by omega)) rfl rfl lk_X5_48 mf_X5_ofTrade (by decide) (Nat.le_of_ble_eq_true rfl) ⟨_, _, _, rfl, rfl, rfl⟩ ?_
        rintro z _ ⟨hz, rfl⟩
        rw [if_pos (by omega), show (2 * (i : Int) + 0).toNat = 2 * i by omega] at hz
        subst hz
        refine rRun hG 99999 ?_
        refine rIR hG rfl rfl (True.intro) ?_
        refine ⟨?_, rfl⟩
        unfold hrm1
        first | (rw [if_pos (by omega), if_pos (by omega)]; done) | (rw [if_pos (by omega), if_neg (by omega)]; done) | (rw [if_neg (by omega), if_pos (by omega)]; done) | (rw [if_neg (by omega), if_neg (by omega)]; done)
    · skip
      refine rRun hG 99999 ?_
      refine And.intro (by omega) (And.intro (fun c5 => ?_) (fun c5 => ?_))
      · skip
        refine rRun hG 99999 ?_
        refine rIR hG rfl rfl (True.intro) ?_
        refine ⟨?_, rfl⟩
        unfold hrm1
        first | (rw [if_pos (by omega), if_pos (by omega)]; done) | (rw [if_pos (by omega), if_neg (by omega)]; done) | (rw [if_neg (by omega), if_pos (by omega)]; done) | (rw [if_neg (by omega), if_neg (by omega)]; done)
      · skip
        refine rV hG (sp_X5_ofTrade (t := t) (ht := rfl) (k := false) (b := (i : Int)) (w := 0) (by omega)) rfl rfl lk_X5_48 mf_X5_ofTrade (by decide) (Nat.le_of_ble_eq_true rfl) ⟨_, _, _, rfl, rfl, rfl⟩ ?_
        rintro z _ ⟨hz, rfl⟩
        rw [if_pos (by omega), show (2 * (i : Int) + 0).toNat = 2 * i by omega] at hz
        subst hz
        refine rRun hG 99999 ?_
        refine rIR hG rfl rfl (True.intro) ?_
        refine ⟨?_, rfl⟩
        unfold hrm1
        first | (rw [if_pos (by omega), if_pos (by omega)]; done) | (rw [if_pos (by omega), if_neg (by omega)]; done) | (rw [if_neg (by omega), if_pos (by omega)]; done) | (rw [if_neg (by omega), if_neg (by omega)]; done)
  · obtain rfl : t = ub := ht
    refine SpI.of (cd := kdX5_harmTo) (fT := mlook flX5) (kT := mlook klX5) (kJ := mlook jlX5) mfA_X5_harmTo ok_X5_harmTo fT_X5 kT_X5 jT_X5 jdk_ok True.intro (Nat.le_of_ble_eq_true rfl) (fun G hG => ?_)
    refine rRun hG 99999 ?_
    refine rV hG (sp_X5_ofTrade (t := t) (ht := rfl) (k := true) (b := (i : Int)) (w := 1) (by omega)) rfl rfl lk_X5_48 mf_X5_ofTrade (by decide) (Nat.le_of_ble_eq_true rfl) ⟨_, _, _, rfl, rfl, rfl⟩ ?_
    rintro z _ ⟨hz, rfl⟩
    rw [if_pos (by omega), show (2 * (i : Int) + 1).toNat = 2 * i + 1 by omega] at hz
    subst hz
    refine rRun hG 99999 ?_
    refine And.intro (by omega) (And.intro (fun c2 => ?_) (fun c2 => ?_))
    · skip
      refine rRun hG 99999 ?_
      refine And.intro (by omega) (And.intro (fun c3 => ?_) (fun c3 => ?_))
      · skip
        refine rRun hG 99999 ?_
        refine rIR hG rfl rfl (True.intro) ?_
        refine ⟨?_, rfl⟩
        unfold hrm1
        first | (rw [if_pos (by omega), if_pos (by omega)]; done) | (rw [if_pos (by omega), if_neg (by omega)]; done) | (rw [if_neg (by omega), if_pos (by omega)]; done) | (rw [if_neg (by omega), if_neg (by omega)]; done)
      · skip
        refine rV hG (sp_X5_ofTrade (t := t) (ht := rfl) (k := true) (b := (i : Int)) (w := 0) (by omega)) rfl rfl lk_X5_48 mf_X5_ofTrade (by decide) (Nat.le_of_ble_eq_true rfl) ⟨_, _, _, rfl, rfl, rfl⟩ ?_
        rintro z _ ⟨hz, rfl⟩
        rw [if_pos (by omega), show (2 * (i : Int) + 0).toNat = 2 * i by omega] at hz
        subst hz
        refine rRun hG 99999 ?_
        refine rIR hG rfl rfl (True.intro) ?_
        refine ⟨?_, rfl⟩
        unfold hrm1
        first | (rw [if_pos (by omega), if_pos (by omega)]; done) | (rw [if_pos (by omega), if_neg (by omega)]; done) | (rw [if_neg (by omega), if_pos (by omega)]; done) | (rw [if_neg (by omega), if_neg (by omega)]; done)
    · skip
      refine rRun hG 99999 ?_
      refine And.intro (by omega) (And.intro (fun c5 => ?_) (fun c5 => ?_))
      · skip
        refine rRun hG 99999 ?_
        refine rIR hG rfl rfl (True.intro) ?_
        refine ⟨?_, rfl⟩
        unfold hrm1
        first | (rw [if_pos (by omega), if_pos (by omega)]; done) | (rw [if_pos (by omega), if_neg (by omega)]; done) | (rw [if_neg (by omega), if_pos (by omega)]; done) | (rw [if_neg (by omega), if_neg (by omega)]; done)
      · skip
        refine rV hG (sp_X5_ofTrade (t := t) (ht := rfl) (k := true) (b := (i : Int)) (w := 0) (by omega)) rfl rfl lk_X5_48 mf_X5_ofTrade (by decide) (Nat.le_of_ble_eq_true rfl) ⟨_, _, _, rfl, rfl, rfl⟩ ?_
        rintro z _ ⟨hz, rfl⟩
        rw [if_pos (by omega), show (2 * (i : Int) + 0).toNat = 2 * i by omega] at hz
        subst hz
        refine rRun hG 99999 ?_
        refine rIR hG rfl rfl (True.intro) ?_
        refine ⟨?_, rfl⟩
        unfold hrm1
        first | (rw [if_pos (by omega), if_pos (by omega)]; done) | (rw [if_pos (by omega), if_neg (by omega)]; done) | (rw [if_neg (by omega), if_pos (by omega)]; done) | (rw [if_neg (by omega), if_neg (by omega)]; done)
set_option maxRecDepth 20000 in
set_option maxHeartbeats 4000000 in
theorem sp_X5_harmToAll {uo : UD} {ux : XD} {ua ub : TD} {v0 v1 v2 : SD} {up uq : PD} {ur : HD} {k : Bool} {t : TD} (ht : t = tsel k ua ub) {er : Int} (hT : TOK t) (h1 : -1000 ≤ er ∧ er ≤ 1000) : SpI l 3 yX5_harmToAll cX5_harmToAll 4 (some .int) [mr (tix k), mi er] (hC uo ux ua ub v0 v1 v2 up uq ur) (fun z h => z = hrmS (tTra t) er (tNT t).toNat ∧ h = hC uo ux ua ub v0 v1 v2 up uq ur) := by
  have hT2 := hT.2.2.1
  cases k
  · obtain rfl : t = ua := ht
    refine SpI.of (cd := kdX5_harmToAll) (fT := mlook flX5) (kT := mlook klX5) (kJ := mlook jlX5) mfA_X5_harmToAll ok_X5_harmToAll fT_X5 kT_X5 jT_X5 jdk_ok True.intro (Nat.le_of_ble_eq_true rfl) (fun G hG => ?_)
    refine rRun hG 4 ?_
    have J4 : ∀ (n : Nat) (i : Nat), (i : Int) ≤ tNT t → (tNT t).toNat - i < n → G 4 [some (mr 3), some (mi er), some (mi (hrmS (tTra t) er i)), some (mi i)] [] (hC uo ux t ub v0 v1 v2 up uq ur) := by
      intro n
      induction n with
      | zero => intro i _ hm; exact absurd hm (Nat.not_lt_zero _)
      | succ n ih =>
        intro i hinv hm
        refine rRun hG 99999 ?_
        refine And.intro rfl (And.intro (by omega) (And.intro (fun c1 => ?_) (fun c1 => ?_)))
        · skip
          refine rRun hG 99999 ?_
          refine rIR hG rfl rfl (True.intro) ?_
          refine ⟨?_, rfl⟩
          rw [show (tNT t).toNat = i by omega]
        · skip
          refine rV hG (sp_X5_harmTo (t := t) (ht := rfl) (k := false) (i := i) (er := er) hT (by omega) h1) rfl rfl lk_X5_51 mf_X5_harmTo (by decide) (Nat.le_of_ble_eq_true rfl) ⟨_, _, _, rfl, rfl, rfl⟩ ?_
          rintro _ _ ⟨rfl, rfl⟩
          refine rRun hG 99999 ?_
          refine rLess hG ?_ (ih (i + 1) ?_ ?_)
          · exact ⟨rfl, rfl, rfl, rfl, True.intro⟩
          · omega
          · omega
    exact J4 _ 0 (by omega) (Nat.lt_succ_self _)
  · obtain rfl : t = ub := ht
    refine SpI.of (cd := kdX5_harmToAll) (fT := mlook flX5) (kT := mlook klX5) (kJ := mlook jlX5) mfA_X5_harmToAll ok_X5_harmToAll fT_X5 kT_X5 jT_X5 jdk_ok True.intro (Nat.le_of_ble_eq_true rfl) (fun G hG => ?_)
    refine rRun hG 4 ?_
    have J4 : ∀ (n : Nat) (i : Nat), (i : Int) ≤ tNT t → (tNT t).toNat - i < n → G 4 [some (mr 7), some (mi er), some (mi (hrmS (tTra t) er i)), some (mi i)] [] (hC uo ux ua t v0 v1 v2 up uq ur) := by
      intro n
      induction n with
      | zero => intro i _ hm; exact absurd hm (Nat.not_lt_zero _)
      | succ n ih =>
        intro i hinv hm
        refine rRun hG 99999 ?_
        refine And.intro rfl (And.intro (by omega) (And.intro (fun c1 => ?_) (fun c1 => ?_)))
        · skip
          refine rRun hG 99999 ?_
          refine rIR hG rfl rfl (True.intro) ?_
          refine ⟨?_, rfl⟩
          rw [show (tNT t).toNat = i by omega]
        · skip
          refine rV hG (sp_X5_harmTo (t := t) (ht := rfl) (k := true) (i := i) (er := er) hT (by omega) h1) rfl rfl lk_X5_51 mf_X5_harmTo (by decide) (Nat.le_of_ble_eq_true rfl) ⟨_, _, _, rfl, rfl, rfl⟩ ?_
          rintro _ _ ⟨rfl, rfl⟩
          refine rRun hG 99999 ?_
          refine rLess hG ?_ (ih (i + 1) ?_ ?_)
          · exact ⟨rfl, rfl, rfl, rfl, True.intro⟩
          · omega
          · omega
    exact J4 _ 0 (by omega) (Nat.lt_succ_self _)
end WALKS
end
section
/-! Story -/
section WALKS
variable {l : Launch}
/-- what is NOW: day, rest, error, candles, found, harms -/
def MOK (m : FN) : Prop := (0 ≤ m 0 ∧ m 0 ≤ 14) ∧ (0 ≤ m 1 ∧ m 1 ≤ 99) ∧ (-9 ≤ m 2 ∧ m 2 ≤ 9) ∧ (0 ≤ m 3 ∧ m 3 ≤ 999) ∧ ∀ i, i < 4 → 0 ≤ m (5 + i) ∧ m (5 + i) ≤ 9999
theorem mup_s {f : FN} {k : Nat} {v : Int} : mup f k v k = v := if_pos rfl
theorem mup_n {f : FN} {k j : Nat} {v : Int} (h : j ≠ k) : mup f k v j = f j := if_neg h
def hsum (mo : FN) : Nat → Int
  | 0 => 0
  | i + 1 => hsum mo i + mo (5 + i)
set_option maxRecDepth 20000 in
set_option maxHeartbeats 4000000 in
theorem sp_X3_day {uo : UD} {ux : XD} {ua ub : TD} {mo : FN} {kn kp : Int} {v1 v2 : SD} {up uq : PD} {ur : HD}   : SpI l 1 yX3_day cX3_day 1 (some .int) [mr 11] (hC uo ux ua ub (mo, kn, kp) v1 v2 up uq ur) (fun z h => z = mo 0 ∧ h = hC uo ux ua ub (mo, kn, kp) v1 v2 up uq ur) := by
  refine SpI.of (cd := kdX3_day) (fT := mlook flX3) (kT := mlook klX3) (kJ := mlook jlX3) mfA_X3_day ok_X3_day fT_X3 kT_X3 jT_X3 jdk_ok True.intro (Nat.le_of_ble_eq_true rfl) (fun G hG => ?_)
  refine rRun hG 99999 ?_
  refine And.intro rfl (And.intro (by decide) (?_))
  refine rIR hG rfl rfl (True.intro) ?_
  exact ⟨rfl, rfl⟩
set_option maxRecDepth 20000 in
set_option maxHeartbeats 4000000 in
theorem sp_X3_rest {uo : UD} {ux : XD} {ua ub : TD} {mo : FN} {kn kp : Int} {v1 v2 : SD} {up uq : PD} {ur : HD}   : SpI l 1 yX3_rest cX3_rest 1 (some .int) [mr 11] (hC uo ux ua ub (mo, kn, kp) v1 v2 up uq ur) (fun z h => z = mo 1 ∧ h = hC uo ux ua ub (mo, kn, kp) v1 v2 up uq ur) := by
  refine SpI.of (cd := kdX3_rest) (fT := mlook flX3) (kT := mlook klX3) (kJ := mlook jlX3) mfA_X3_rest ok_X3_rest fT_X3 kT_X3 jT_X3 jdk_ok True.intro (Nat.le_of_ble_eq_true rfl) (fun G hG => ?_)
  refine rRun hG 99999 ?_
  refine And.intro rfl (And.intro (by decide) (?_))
  refine rIR hG rfl rfl (True.intro) ?_
  exact ⟨rfl, rfl⟩
set_option maxRecDepth 20000 in
set_option maxHeartbeats 4000000 in
theorem sp_X3_error {uo : UD} {ux : XD} {ua ub : TD} {mo : FN} {kn kp : Int} {v1 v2 : SD} {up uq : PD} {ur : HD}   : SpI l 1 yX3_error cX3_error 1 (some .int) [mr 11] (hC uo ux ua ub (mo, kn, kp) v1 v2 up uq ur) (fun z h => z = mo 2 ∧ h = hC uo ux ua ub (mo, kn, kp) v1 v2 up uq ur) := by
  refine SpI.of (cd := kdX3_error) (fT := mlook flX3) (kT := mlook klX3) (kJ := mlook jlX3) mfA_X3_error ok_X3_error fT_X3 kT_X3 jT_X3 jdk_ok True.intro (Nat.le_of_ble_eq_true rfl) (fun G hG => ?_)
  refine rRun hG 99999 ?_
  refine And.intro rfl (And.intro (by decide) (?_))
  refine rIR hG rfl rfl (True.intro) ?_
  exact ⟨rfl, rfl⟩
set_option maxRecDepth 20000 in
set_option maxHeartbeats 4000000 in
theorem sp_X3_candles {uo : UD} {ux : XD} {ua ub : TD} {mo : FN} {kn kp : Int} {v1 v2 : SD} {up uq : PD} {ur : HD}   : SpI l 1 yX3_candles cX3_candles 1 (some .int) [mr 11] (hC uo ux ua ub (mo, kn, kp) v1 v2 up uq ur) (fun z h => z = mo 3 ∧ h = hC uo ux ua ub (mo, kn, kp) v1 v2 up uq ur) := by
  refine SpI.of (cd := kdX3_candles) (fT := mlook flX3) (kT := mlook klX3) (kJ := mlook jlX3) mfA_X3_candles ok_X3_candles fT_X3 kT_X3 jT_X3 jdk_ok True.intro (Nat.le_of_ble_eq_true rfl) (fun G hG => ?_)
  refine rRun hG 99999 ?_
  refine And.intro rfl (And.intro (by decide) (?_))
  refine rIR hG rfl rfl (True.intro) ?_
  exact ⟨rfl, rfl⟩
set_option maxRecDepth 20000 in
set_option maxHeartbeats 4000000 in
theorem sp_X3_found {uo : UD} {ux : XD} {ua ub : TD} {mo : FN} {kn kp : Int} {v1 v2 : SD} {up uq : PD} {ur : HD}   : SpI l 1 yX3_found cX3_found 1 (some .int) [mr 11] (hC uo ux ua ub (mo, kn, kp) v1 v2 up uq ur) (fun z h => z = mo 4 ∧ h = hC uo ux ua ub (mo, kn, kp) v1 v2 up uq ur) := by
  refine SpI.of (cd := kdX3_found) (fT := mlook flX3) (kT := mlook klX3) (kJ := mlook jlX3) mfA_X3_found ok_X3_found fT_X3 kT_X3 jT_X3 jdk_ok True.intro (Nat.le_of_ble_eq_true rfl) (fun G hG => ?_)
  refine rRun hG 99999 ?_
  refine And.intro rfl (And.intro (by decide) (?_))
  refine rIR hG rfl rfl (True.intro) ?_
  exact ⟨rfl, rfl⟩
set_option maxRecDepth 20000 in
set_option maxHeartbeats 4000000 in
theorem sp_X3_harmOf {uo : UD} {ux : XD} {ua ub : TD} {mo : FN} {kn kp : Int} {v1 v2 : SD} {up uq : PD} {ur : HD} {i : Int} (h1 : inI i) : SpI l 1 yX3_harmOf cX3_harmOf 2 (some .int) [mr 11, mi i] (hC uo ux ua ub (mo, kn, kp) v1 v2 up uq ur) (fun z h => z = (if 0 ≤ i ∧ i < 4 then mo (5 + i).toNat else 0) ∧ h = hC uo ux ua ub (mo, kn, kp) v1 v2 up uq ur) := by
  refine SpI.of (cd := kdX3_harmOf) (fT := mlook flX3) (kT := mlook klX3) (kJ := mlook jlX3) mfA_X3_harmOf ok_X3_harmOf fT_X3 kT_X3 jT_X3 jdk_ok True.intro (Nat.le_of_ble_eq_true rfl) (fun G hG => ?_)
  refine rRun hG 99999 ?_
  refine And.intro (by first | omega | (dsimp only; omega)) (And.intro (fun c1 => ?_) (fun c1 => ?_))
  · try dsimp only at c1
    refine rRun hG 99999 ?_
    refine rIR hG rfl rfl (True.intro) ?_
    exact ⟨by first | (rw [if_pos (by omega)]; done) | (rw [if_neg (by omega)]; done), rfl⟩
  · try dsimp only at c1
    refine And.intro (by first | omega | (dsimp only; omega)) (And.intro (fun c2 => ?_) (fun c2 => ?_))
    · try dsimp only at c2
      refine rRun hG 99999 ?_
      refine rIR hG rfl rfl (True.intro) ?_
      exact ⟨by first | (rw [if_pos (by omega)]; done) | (rw [if_neg (by omega)]; done), rfl⟩
    · try dsimp only at c2
      refine And.intro rfl (And.intro (by first | omega | (dsimp only; omega)) (?_))
      refine rIR hG rfl rfl (True.intro) ?_
      exact ⟨by first | (rw [if_pos (by omega)]; done) | (rw [if_neg (by omega)]; done), rfl⟩
set_option maxRecDepth 20000 in
set_option maxHeartbeats 4000000 in
theorem sp_X3_harmOfAll {uo : UD} {ux : XD} {ua ub : TD} {mo : FN} {kn kp : Int} {v1 v2 : SD} {up uq : PD} {ur : HD}   : SpI l 2 yX3_harmOfAll cX3_harmOfAll 3 (some .int) [mr 11] (hC uo ux ua ub (mo, kn, kp) v1 v2 up uq ur) (fun z h => z = hsum mo 4 ∧ h = hC uo ux ua ub (mo, kn, kp) v1 v2 up uq ur) := by
  refine SpI.of (cd := kdX3_harmOfAll) (fT := mlook flX3) (kT := mlook klX3) (kJ := mlook jlX3) mfA_X3_harmOfAll ok_X3_harmOfAll fT_X3 kT_X3 jT_X3 jdk_ok True.intro (Nat.le_of_ble_eq_true rfl) (fun G hG => ?_)
  refine rRun hG 4 ?_
  have J4 : ∀ (n : Nat) (i : Nat), i ≤ 4 → 4 - i < n → G 4 [some (mr 11), some (mi (hsum mo i)), some (mi i)] [] (hC uo ux ua ub (mo, kn, kp) v1 v2 up uq ur) := by
    intro n
    induction n with
    | zero => intro i _ hm; exact absurd hm (Nat.not_lt_zero _)
    | succ n ih =>
      intro i hinv hm
      refine rRun hG 99999 ?_
      refine And.intro (by first | omega | (dsimp only; omega)) (And.intro (fun c1 => ?_) (fun c1 => ?_))
      · try dsimp only at c1
        refine rRun hG 99999 ?_
        refine rIR hG rfl rfl (True.intro) ?_
        refine ⟨?_, rfl⟩
        obtain rfl : i = 4 := by omega
        rfl
      · try dsimp only at c1
        refine rV hG (sp_X3_harmOf (uo := uo) (ux := ux) (ua := ua) (ub := ub) (v1 := v1) (v2 := v2) (up := up) (uq := uq) (ur := ur) (mo := mo) (kn := kn) (kp := kp) (i := (i : Int)) (by omega)) rfl rfl lk_X3_29 mf_X3_harmOf (by decide) (Nat.le_of_ble_eq_true rfl) ⟨_, _, _, rfl, rfl, rfl⟩ ?_
        rintro z _ ⟨hz, rfl⟩
        rw [if_pos (by omega), show (5 + (i : Int)).toNat = 5 + i by omega] at hz
        subst hz
        refine rRun hG 99999 ?_
        refine rLess hG ?_ (ih (i + 1) ?_ ?_)
        · exact ⟨rfl, rfl, rfl, True.intro⟩
        · omega
        · omega
  exact J4 _ 0 (by omega) (Nat.lt_succ_self _)
set_option maxRecDepth 20000 in
set_option maxHeartbeats 4000000 in
theorem sp_X3_isOver {uo : UD} {ux : XD} {ua ub : TD} {mo : FN} {kn kp : Int} {v1 v2 : SD} {up uq : PD} {ur : HD} {k : Bool} {t : TD} (ht : t = tsel k ua ub)  (h1 : inI (mo 0)) (h2 : inI (tDay t)) : SpI l 2 yX3_isOver cX3_isOver 2 (some .boolean) [mr 11, mr (tix k)] (hC uo ux ua ub (mo, kn, kp) v1 v2 up uq ur) (fun z h => z = (if tDay t ≤ mo 0 then 1 else 0) ∧ h = hC uo ux ua ub (mo, kn, kp) v1 v2 up uq ur) := by
  cases k
  · obtain rfl : t = ua := ht
    refine SpI.of (cd := kdX3_isOver) (fT := mlook flX3) (kT := mlook klX3) (kJ := mlook jlX3) mfA_X3_isOver ok_X3_isOver fT_X3 kT_X3 jT_X3 jdk_ok True.intro (Nat.le_of_ble_eq_true rfl) (fun G hG => ?_)
    refine rRun hG 99999 ?_
    refine rV hG (sp_X3_day (uo := uo) (ux := ux) (ua := t) (ub := ub) (v1 := v1) (v2 := v2) (up := up) (uq := uq) (ur := ur) (mo := mo) (kn := kn) (kp := kp)) rfl rfl lk_X3_33 mf_X3_day (by decide) (Nat.le_of_ble_eq_true rfl) ⟨_, _, _, rfl, rfl, rfl⟩ ?_
    rintro _ _ ⟨rfl, rfl⟩
    refine rRun hG 99999 ?_
    refine And.intro rfl (And.intro (by first | omega | (dsimp only; omega)) (And.intro (fun c2 => ?_) (fun c2 => ?_)))
    · try dsimp only at c2
      refine rRun hG 99999 ?_
      refine rIR hG rfl rfl (by first | exact Or.inl rfl | exact Or.inr rfl | (show _ ∨ _; omega)) ?_
      exact ⟨by first | (rw [if_pos (by omega)]; done) | (rw [if_neg (by omega)]; done), rfl⟩
    · try dsimp only at c2
      refine rIR hG rfl rfl (by first | exact Or.inl rfl | exact Or.inr rfl | (show _ ∨ _; omega)) ?_
      exact ⟨by first | (rw [if_pos (by omega)]; done) | (rw [if_neg (by omega)]; done), rfl⟩
  · obtain rfl : t = ub := ht
    refine SpI.of (cd := kdX3_isOver) (fT := mlook flX3) (kT := mlook klX3) (kJ := mlook jlX3) mfA_X3_isOver ok_X3_isOver fT_X3 kT_X3 jT_X3 jdk_ok True.intro (Nat.le_of_ble_eq_true rfl) (fun G hG => ?_)
    refine rRun hG 99999 ?_
    refine rV hG (sp_X3_day (uo := uo) (ux := ux) (ua := ua) (ub := t) (v1 := v1) (v2 := v2) (up := up) (uq := uq) (ur := ur) (mo := mo) (kn := kn) (kp := kp)) rfl rfl lk_X3_33 mf_X3_day (by decide) (Nat.le_of_ble_eq_true rfl) ⟨_, _, _, rfl, rfl, rfl⟩ ?_
    rintro _ _ ⟨rfl, rfl⟩
    refine rRun hG 99999 ?_
    refine And.intro rfl (And.intro (by first | omega | (dsimp only; omega)) (And.intro (fun c2 => ?_) (fun c2 => ?_)))
    · try dsimp only at c2
      refine rRun hG 99999 ?_
      refine rIR hG rfl rfl (by first | exact Or.inl rfl | exact Or.inr rfl | (show _ ∨ _; omega)) ?_
      exact ⟨by first | (rw [if_pos (by omega)]; done) | (rw [if_neg (by omega)]; done), rfl⟩
    · try dsimp only at c2
      refine rIR hG rfl rfl (by first | exact Or.inl rfl | exact Or.inr rfl | (show _ ∨ _; omega)) ?_
      exact ⟨by first | (rw [if_pos (by omega)]; done) | (rw [if_neg (by omega)]; done), rfl⟩
set_option maxRecDepth 20000 in
set_option maxHeartbeats 4000000 in
theorem sp_X3_isFree {uo : UD} {ux : XD} {ua ub : TD} {mo : FN} {kn kp : Int} {v1 v2 : SD} {up uq : PD} {ur : HD}  (h1 : inI (mo 1)) : SpI l 2 yX3_isFree cX3_isFree 1 (some .boolean) [mr 11] (hC uo ux ua ub (mo, kn, kp) v1 v2 up uq ur) (fun z h => z = (if mo 1 = 0 then 1 else 0) ∧ h = hC uo ux ua ub (mo, kn, kp) v1 v2 up uq ur) := by
  refine SpI.of (cd := kdX3_isFree) (fT := mlook flX3) (kT := mlook klX3) (kJ := mlook jlX3) mfA_X3_isFree ok_X3_isFree fT_X3 kT_X3 jT_X3 jdk_ok True.intro (Nat.le_of_ble_eq_true rfl) (fun G hG => ?_)
  refine rRun hG 99999 ?_
  refine rV hG (sp_X3_rest (uo := uo) (ux := ux) (ua := ua) (ub := ub) (v1 := v1) (v2 := v2) (up := up) (uq := uq) (ur := ur) (mo := mo) (kn := kn) (kp := kp)) rfl rfl lk_X3_42 mf_X3_rest (by decide) (Nat.le_of_ble_eq_true rfl) ⟨_, _, _, rfl, rfl, rfl⟩ ?_
  rintro _ _ ⟨rfl, rfl⟩
  refine rRun hG 99999 ?_
  refine And.intro (by first | omega | (dsimp only; omega)) (And.intro (fun c2 => ?_) (fun c2 => ?_))
  · try dsimp only at c2
    refine rRun hG 99999 ?_
    refine rIR hG rfl rfl (by first | exact Or.inl rfl | exact Or.inr rfl | (show _ ∨ _; omega)) ?_
    exact ⟨by first | (rw [if_pos (by omega)]; done) | (rw [if_neg (by omega)]; done), rfl⟩
  · try dsimp only at c2
    refine rIR hG rfl rfl (by first | exact Or.inl rfl | exact Or.inr rfl | (show _ ∨ _; omega)) ?_
    exact ⟨by first | (rw [if_pos (by omega)]; done) | (rw [if_neg (by omega)]; done), rfl⟩
set_option maxRecDepth 20000 in
set_option maxHeartbeats 4000000 in
theorem sp_X3_isEnded {uo : UD} {ux : XD} {ua ub : TD} {mo : FN} {kn kp : Int} {v1 v2 : SD} {up uq : PD} {ur : HD} {k : Bool} {t : TD} (ht : t = tsel k ua ub)  (h1 : inI (mo 0)) (h2 : inI (tDay t)) (h3 : inI (mo 1)) : SpI l 3 yX3_isEnded cX3_isEnded 2 (some .boolean) [mr 11, mr (tix k)] (hC uo ux ua ub (mo, kn, kp) v1 v2 up uq ur) (fun z h => z = (if tDay t ≤ mo 0 ∨ mo 1 = 0 then 1 else 0) ∧ h = hC uo ux ua ub (mo, kn, kp) v1 v2 up uq ur) := by
  cases k
  · obtain rfl : t = ua := ht
    refine SpI.of (cd := kdX3_isEnded) (fT := mlook flX3) (kT := mlook klX3) (kJ := mlook jlX3) mfA_X3_isEnded ok_X3_isEnded fT_X3 kT_X3 jT_X3 jdk_ok True.intro (Nat.le_of_ble_eq_true rfl) (fun G hG => ?_)
    refine rRun hG 99999 ?_
    refine rV hG (sp_X3_isOver (uo := uo) (ux := ux) (ua := t) (ub := ub) (v1 := v1) (v2 := v2) (up := up) (uq := uq) (ur := ur) (mo := mo) (kn := kn) (kp := kp) (k := false) (t := t) (ht := rfl) h1 h2) rfl rfl lk_X3_45 mf_X3_isOver (by decide) (Nat.le_of_ble_eq_true rfl) ⟨_, _, _, rfl, rfl, rfl⟩ ?_
    rintro z _ ⟨hz, rfl⟩
    have hz1 : (z = 1 ∧ tDay t ≤ mo 0) ∨ (z = 0 ∧ ¬ tDay t ≤ mo 0) := by
        rw [hz]; by_cases q : tDay t ≤ mo 0
        · exact Or.inl ⟨if_pos q, q⟩
        · exact Or.inr ⟨if_neg q, q⟩
    clear hz
    refine rRun hG 99999 ?_
    refine And.intro (by first | omega | (dsimp only; omega)) (And.intro (fun c2 => ?_) (fun c2 => ?_))
    · try dsimp only at c2
      refine rRun hG 99999 ?_
      refine rIR hG rfl rfl (by first | exact Or.inl rfl | exact Or.inr rfl | (show _ ∨ _; omega)) ?_
      exact ⟨by first | (rw [if_pos (by omega)]; done) | (rw [if_neg (by omega)]; done), rfl⟩
    · try dsimp only at c2
      refine rV hG (sp_X3_isFree (uo := uo) (ux := ux) (ua := t) (ub := ub) (v1 := v1) (v2 := v2) (up := up) (uq := uq) (ur := ur) (mo := mo) (kn := kn) (kp := kp) h3) rfl rfl lk_X3_49 mf_X3_isFree (by decide) (Nat.le_of_ble_eq_true rfl) ⟨_, _, _, rfl, rfl, rfl⟩ ?_
      rintro w _ ⟨hw, rfl⟩
      have hw1 : (w = 1 ∧ mo 1 = 0) ∨ (w = 0 ∧ ¬ mo 1 = 0) := by
          rw [hw]; by_cases q : mo 1 = 0
          · exact Or.inl ⟨if_pos q, q⟩
          · exact Or.inr ⟨if_neg q, q⟩
      clear hw
      refine rRun hG 99999 ?_
      refine And.intro (by first | omega | (dsimp only; omega)) (And.intro (fun c4 => ?_) (fun c4 => ?_))
      · try dsimp only at c4
        refine rRun hG 99999 ?_
        refine rIR hG rfl rfl (by first | exact Or.inl rfl | exact Or.inr rfl | (show _ ∨ _; omega)) ?_
        exact ⟨by first | (rw [if_pos (by omega)]; done) | (rw [if_neg (by omega)]; done), rfl⟩
      · try dsimp only at c4
        refine rIR hG rfl rfl (by first | exact Or.inl rfl | exact Or.inr rfl | (show _ ∨ _; omega)) ?_
        exact ⟨by first | (rw [if_pos (by omega)]; done) | (rw [if_neg (by omega)]; done), rfl⟩
  · obtain rfl : t = ub := ht
    refine SpI.of (cd := kdX3_isEnded) (fT := mlook flX3) (kT := mlook klX3) (kJ := mlook jlX3) mfA_X3_isEnded ok_X3_isEnded fT_X3 kT_X3 jT_X3 jdk_ok True.intro (Nat.le_of_ble_eq_true rfl) (fun G hG => ?_)
    refine rRun hG 99999 ?_
    refine rV hG (sp_X3_isOver (uo := uo) (ux := ux) (ua := ua) (ub := t) (v1 := v1) (v2 := v2) (up := up) (uq := uq) (ur := ur) (mo := mo) (kn := kn) (kp := kp) (k := true) (t := t) (ht := rfl) h1 h2) rfl rfl lk_X3_45 mf_X3_isOver (by decide) (Nat.le_of_ble_eq_true rfl) ⟨_, _, _, rfl, rfl, rfl⟩ ?_
    rintro z _ ⟨hz, rfl⟩
    have hz1 : (z = 1 ∧ tDay t ≤ mo 0) ∨ (z = 0 ∧ ¬ tDay t ≤ mo 0) := by
        rw [hz]; by_cases q : tDay t ≤ mo 0
        · exact Or.inl ⟨if_pos q, q⟩
        · exact Or.inr ⟨if_neg q, q⟩
    clear hz
    refine rRun hG 99999 ?_
    refine And.intro (by first | omega | (dsimp only; omega)) (And.intro (fun c2 => ?_) (fun c2 => ?_))
    · try dsimp only at c2
      refine rRun hG 99999 ?_
      refine rIR hG rfl rfl (by first | exact Or.inl rfl | exact Or.inr rfl | (show _ ∨ _; omega)) ?_
      exact ⟨by first | (rw [if_pos (by omega)]; done) | (rw [if_neg (by omega)]; done), rfl⟩
    · try dsimp only at c2
      refine rV hG (sp_X3_isFree (uo := uo) (ux := ux) (ua := ua) (ub := t) (v1 := v1) (v2 := v2) (up := up) (uq := uq) (ur := ur) (mo := mo) (kn := kn) (kp := kp) h3) rfl rfl lk_X3_49 mf_X3_isFree (by decide) (Nat.le_of_ble_eq_true rfl) ⟨_, _, _, rfl, rfl, rfl⟩ ?_
      rintro w _ ⟨hw, rfl⟩
      have hw1 : (w = 1 ∧ mo 1 = 0) ∨ (w = 0 ∧ ¬ mo 1 = 0) := by
          rw [hw]; by_cases q : mo 1 = 0
          · exact Or.inl ⟨if_pos q, q⟩
          · exact Or.inr ⟨if_neg q, q⟩
      clear hw
      refine rRun hG 99999 ?_
      refine And.intro (by first | omega | (dsimp only; omega)) (And.intro (fun c4 => ?_) (fun c4 => ?_))
      · try dsimp only at c4
        refine rRun hG 99999 ?_
        refine rIR hG rfl rfl (by first | exact Or.inl rfl | exact Or.inr rfl | (show _ ∨ _; omega)) ?_
        exact ⟨by first | (rw [if_pos (by omega)]; done) | (rw [if_neg (by omega)]; done), rfl⟩
      · try dsimp only at c4
        refine rIR hG rfl rfl (by first | exact Or.inl rfl | exact Or.inr rfl | (show _ ∨ _; omega)) ?_
        exact ⟨by first | (rw [if_pos (by omega)]; done) | (rw [if_neg (by omega)]; done), rfl⟩
set_option maxRecDepth 20000 in
set_option maxHeartbeats 4000000 in
theorem sp_X3_daysLeft {uo : UD} {ux : XD} {ua ub : TD} {mo : FN} {kn kp : Int} {v1 v2 : SD} {up uq : PD} {ur : HD} {k : Bool} {t : TD} (ht : t = tsel k ua ub)   : SpI l 2 yX3_daysLeft cX3_daysLeft 2 (some .int) [mr 11, mr (tix k)] (hC uo ux ua ub (mo, kn, kp) v1 v2 up uq ur) (fun z h => z = tDay t - mo 0 ∧ h = hC uo ux ua ub (mo, kn, kp) v1 v2 up uq ur) := by
  cases k
  · obtain rfl : t = ua := ht
    refine SpI.of (cd := kdX3_daysLeft) (fT := mlook flX3) (kT := mlook klX3) (kJ := mlook jlX3) mfA_X3_daysLeft ok_X3_daysLeft fT_X3 kT_X3 jT_X3 jdk_ok True.intro (Nat.le_of_ble_eq_true rfl) (fun G hG => ?_)
    refine rRun hG 99999 ?_
    refine And.intro rfl (?_)
    refine rV hG (sp_X3_day (uo := uo) (ux := ux) (ua := t) (ub := ub) (v1 := v1) (v2 := v2) (up := up) (uq := uq) (ur := ur) (mo := mo) (kn := kn) (kp := kp)) rfl rfl lk_X3_33 mf_X3_day (by decide) (Nat.le_of_ble_eq_true rfl) ⟨_, _, _, rfl, rfl, rfl⟩ ?_
    rintro _ _ ⟨rfl, rfl⟩
    refine rRun hG 99999 ?_
    refine rIR hG rfl rfl (True.intro) ?_
    exact ⟨rfl, rfl⟩
  · obtain rfl : t = ub := ht
    refine SpI.of (cd := kdX3_daysLeft) (fT := mlook flX3) (kT := mlook klX3) (kJ := mlook jlX3) mfA_X3_daysLeft ok_X3_daysLeft fT_X3 kT_X3 jT_X3 jdk_ok True.intro (Nat.le_of_ble_eq_true rfl) (fun G hG => ?_)
    refine rRun hG 99999 ?_
    refine And.intro rfl (?_)
    refine rV hG (sp_X3_day (uo := uo) (ux := ux) (ua := ua) (ub := t) (v1 := v1) (v2 := v2) (up := up) (uq := uq) (ur := ur) (mo := mo) (kn := kn) (kp := kp)) rfl rfl lk_X3_33 mf_X3_day (by decide) (Nat.le_of_ble_eq_true rfl) ⟨_, _, _, rfl, rfl, rfl⟩ ?_
    rintro _ _ ⟨rfl, rfl⟩
    refine rRun hG 99999 ?_
    refine rIR hG rfl rfl (True.intro) ?_
    exact ⟨rfl, rfl⟩
set_option maxRecDepth 20000 in
set_option maxHeartbeats 4000000 in
theorem sp_X3_remember {uo : UD} {ux : XD} {ua ub : TD} {mo : FN} {kn kp : Int} {v1 v2 : SD} {up uq : PD} {ur : HD}  (h1 : 0 ≤ kn ∧ kn ≤ 10) : SpV l 1 yX3_remember cX3_remember 1 none [mr 11] (hC uo ux ua ub (mo, kn, kp) v1 v2 up uq ur) (fun h => h = hC uo ux ua ub (mcpy mo mo 0 9 90, min 10 (kn + 1), kp) v1 v2 up uq ur) := by
  refine SpV.of (cd := kdX3_remember) (fT := mlook flX3) (kT := mlook klX3) (kJ := mlook jlX3) mfA_X3_remember ok_X3_remember fT_X3 kT_X3 jT_X3 jdk_ok True.intro (Nat.le_of_ble_eq_true rfl) (fun G hG => ?_)
  refine rRun hG 99999 ?_
  refine And.intro rfl (And.intro rfl (?_))
  refine rCpy hG rfl rfl lk_X3_23 (by decide) (Nat.le_of_ble_eq_true rfl) rfl rfl (by decide) ?_
  refine rRun hG 99999 ?_
  refine And.intro rfl (?_)
  refine rMin hG rfl rfl lk_X3_68 (by decide) (Nat.le_of_ble_eq_true rfl) (by first | omega | (dsimp only; omega)) ?_
  refine rRun hG 99999 ?_
  refine And.intro ⟨rfl, by exact Nat.le_of_ble_eq_true rfl, by exact True.intro⟩ (?_)
  refine rVR hG rfl rfl rfl ?_
  rfl
set_option maxRecDepth 20000 in
set_option maxHeartbeats 4000000 in
theorem sp_X3_setHarm {uo : UD} {ux : XD} {ua ub : TD} {mo : FN} {kn kp : Int} {v1 v2 : SD} {up uq : PD} {ur : HD} {i w : Int} (h1 : inI i) : SpV l 1 yX3_setHarm cX3_setHarm 3 none [mr 11, mi i, mi w] (hC uo ux ua ub (mo, kn, kp) v1 v2 up uq ur) (fun h => h = hC uo ux ua ub (if 0 ≤ i ∧ i < 4 then mup mo (5 + i).toNat w else mo, kn, kp) v1 v2 up uq ur) := by
  refine SpV.of (cd := kdX3_setHarm) (fT := mlook flX3) (kT := mlook klX3) (kJ := mlook jlX3) mfA_X3_setHarm ok_X3_setHarm fT_X3 kT_X3 jT_X3 jdk_ok True.intro (Nat.le_of_ble_eq_true rfl) (fun G hG => ?_)
  refine rRun hG 99999 ?_
  refine And.intro (by first | omega | (dsimp only; omega)) (And.intro (fun c1 => ?_) (fun c1 => ?_))
  · try dsimp only at c1
    refine rVR hG rfl rfl rfl ?_
    first | (rw [if_pos (by omega)]; rfl) | (rw [if_neg (by omega)])
  · try dsimp only at c1
    refine And.intro (by first | omega | (dsimp only; omega)) (And.intro (fun c2 => ?_) (fun c2 => ?_))
    · try dsimp only at c2
      refine rVR hG rfl rfl rfl ?_
      first | (rw [if_pos (by omega)]; rfl) | (rw [if_neg (by omega)])
    · try dsimp only at c2
      refine And.intro rfl (And.intro (by first | omega | (dsimp only; omega)) (?_))
      refine rVR hG rfl rfl rfl ?_
      first | (rw [if_pos (by omega)]; rfl) | (rw [if_neg (by omega)])
def chkR (mo : FN) (lim : Int) : Int := if max (mo 2) (-(mo 2)) ≤ lim then 1 else 2
def chkM (mo : FN) (lim add : Int) : FN := if max (mo 2) (-(mo 2)) ≤ lim then mo else mup (mup (mup mo 4 (mo 4 + 1)) 2 0) 1 (min 99 (mo 1 + add))
def drw (day z : Int) : Int := (7919 * z + 6151 * day + 1) * (7919 * z + 6151 * day + 1) % 65521 / 8 % 10
set_option maxRecDepth 20000 in
set_option maxHeartbeats 4000000 in
theorem sp_X3_check {uo : UD} {ux : XD} {ua ub : TD} {mo : FN} {kn kp : Int} {v1 v2 : SD} {up uq : PD} {ur : HD} {k : Bool} {t : TD} (ht : t = tsel k ua ub)  (h1 : -100 ≤ mo 2 ∧ mo 2 ≤ 100) (h2 : inI (tLim t)) (h3 : 0 ≤ mo 1 ∧ mo 1 ≤ 1000) (h4 : 0 ≤ tAdd t ∧ tAdd t ≤ 1000) : SpI l 2 yX3_check cX3_check 2 (some .int) [mr 11, mr (tix k)] (hC uo ux ua ub (mo, kn, kp) v1 v2 up uq ur) (fun z h => z = chkR mo (tLim t) ∧ h = hC uo ux ua ub (chkM mo (tLim t) (tAdd t), kn, kp) v1 v2 up uq ur) := by
  cases k
  · obtain rfl : t = ua := ht
    refine SpI.of (cd := kdX3_check) (fT := mlook flX3) (kT := mlook klX3) (kJ := mlook jlX3) mfA_X3_check ok_X3_check fT_X3 kT_X3 jT_X3 jdk_ok True.intro (Nat.le_of_ble_eq_true rfl) (fun G hG => ?_)
    refine rRun hG 99999 ?_
    refine rV hG (sp_X3_error (uo := uo) (ux := ux) (ua := t) (ub := ub) (v1 := v1) (v2 := v2) (up := up) (uq := uq) (ur := ur) (mo := mo) (kn := kn) (kp := kp)) rfl rfl lk_X3_74 mf_X3_error (by decide) (Nat.le_of_ble_eq_true rfl) ⟨_, _, _, rfl, rfl, rfl⟩ ?_
    rintro _ _ ⟨rfl, rfl⟩
    refine rAbs hG rfl rfl lk_X3_104 (by decide) (Nat.le_of_ble_eq_true rfl) (by first | omega | (dsimp only; omega)) ?_
    refine rRun hG 99999 ?_
    refine And.intro rfl (And.intro (by first | omega | (dsimp only; omega)) (And.intro (fun c2 => ?_) (fun c2 => ?_)))
    · try dsimp only at c2
      refine rRun hG 99999 ?_
      refine And.intro rfl (And.intro (by decide) (And.intro (by decide) (And.intro rfl (And.intro (by decide) (And.intro rfl (?_))))))
      refine rV hG (sp_X3_rest (uo := uo) (ux := ux) (ua := t) (ub := ub) (v1 := v1) (v2 := v2) (up := up) (uq := uq) (ur := ur) (mo := mup (mup mo 4 (mo 4 + 1)) 2 0) (kn := kn) (kp := kp)) rfl rfl lk_X3_42 mf_X3_rest (by decide) (Nat.le_of_ble_eq_true rfl) ⟨_, _, _, rfl, rfl, rfl⟩ ?_
      rintro z _ ⟨hz, rfl⟩
      rw [mup_n (by decide), mup_n (by decide)] at hz
      subst hz
      refine rRun hG 99999 ?_
      refine And.intro rfl (?_)
      refine rMin hG rfl rfl lk_X3_68 (by decide) (Nat.le_of_ble_eq_true rfl) (by first | omega | (dsimp only; omega)) ?_
      refine rRun hG 99999 ?_
      refine And.intro (by decide) (?_)
      refine rIR hG rfl rfl (True.intro) ?_
      refine ⟨(if_neg (by omega)).symm, ?_⟩
      rw [chkM, if_neg (by omega)]
      rfl
    · try dsimp only at c2
      refine rIR hG rfl rfl (True.intro) ?_
      refine ⟨(if_pos (by omega)).symm, ?_⟩
      rw [chkM, if_pos (by omega)]
  · obtain rfl : t = ub := ht
    refine SpI.of (cd := kdX3_check) (fT := mlook flX3) (kT := mlook klX3) (kJ := mlook jlX3) mfA_X3_check ok_X3_check fT_X3 kT_X3 jT_X3 jdk_ok True.intro (Nat.le_of_ble_eq_true rfl) (fun G hG => ?_)
    refine rRun hG 99999 ?_
    refine rV hG (sp_X3_error (uo := uo) (ux := ux) (ua := ua) (ub := t) (v1 := v1) (v2 := v2) (up := up) (uq := uq) (ur := ur) (mo := mo) (kn := kn) (kp := kp)) rfl rfl lk_X3_74 mf_X3_error (by decide) (Nat.le_of_ble_eq_true rfl) ⟨_, _, _, rfl, rfl, rfl⟩ ?_
    rintro _ _ ⟨rfl, rfl⟩
    refine rAbs hG rfl rfl lk_X3_104 (by decide) (Nat.le_of_ble_eq_true rfl) (by first | omega | (dsimp only; omega)) ?_
    refine rRun hG 99999 ?_
    refine And.intro rfl (And.intro (by first | omega | (dsimp only; omega)) (And.intro (fun c2 => ?_) (fun c2 => ?_)))
    · try dsimp only at c2
      refine rRun hG 99999 ?_
      refine And.intro rfl (And.intro (by decide) (And.intro (by decide) (And.intro rfl (And.intro (by decide) (And.intro rfl (?_))))))
      refine rV hG (sp_X3_rest (uo := uo) (ux := ux) (ua := ua) (ub := t) (v1 := v1) (v2 := v2) (up := up) (uq := uq) (ur := ur) (mo := mup (mup mo 4 (mo 4 + 1)) 2 0) (kn := kn) (kp := kp)) rfl rfl lk_X3_42 mf_X3_rest (by decide) (Nat.le_of_ble_eq_true rfl) ⟨_, _, _, rfl, rfl, rfl⟩ ?_
      rintro z _ ⟨hz, rfl⟩
      rw [mup_n (by decide), mup_n (by decide)] at hz
      subst hz
      refine rRun hG 99999 ?_
      refine And.intro rfl (?_)
      refine rMin hG rfl rfl lk_X3_68 (by decide) (Nat.le_of_ble_eq_true rfl) (by first | omega | (dsimp only; omega)) ?_
      refine rRun hG 99999 ?_
      refine And.intro (by decide) (?_)
      refine rIR hG rfl rfl (True.intro) ?_
      refine ⟨(if_neg (by omega)).symm, ?_⟩
      rw [chkM, if_neg (by omega)]
      rfl
    · try dsimp only at c2
      refine rIR hG rfl rfl (True.intro) ?_
      refine ⟨(if_pos (by omega)).symm, ?_⟩
      rw [chkM, if_pos (by omega)]
set_option maxRecDepth 20000 in
set_option maxHeartbeats 4000000 in
theorem sp_X3_watch {uo : UD} {ux : XD} {ua ub : TD} {mo : FN} {kn kp : Int} {v1 v2 : SD} {up uq : PD} {ur : HD} {k : Bool} {t : TD} (ht : t = tsel k ua ub)  (h0 : 0 ≤ kn ∧ kn ≤ 10) (h1 : -100 ≤ mo 2 ∧ mo 2 ≤ 100) (h2 : inI (tLim t)) (h3 : 0 ≤ mo 1 ∧ mo 1 ≤ 1000) (h4 : 0 ≤ tAdd t ∧ tAdd t ≤ 1000) : SpI l 3 yX3_watch cX3_watch 2 (some .int) [mr 11, mr (tix k)] (hC uo ux ua ub (mo, kn, kp) v1 v2 up uq ur) (fun z h => z = chkR (mcpy mo mo 0 9 90) (tLim t) ∧ h = hC uo ux ua ub (chkM (mcpy mo mo 0 9 90) (tLim t) (tAdd t), min 10 (kn + 1), kp) v1 v2 up uq ur) := by
  cases k
  · obtain rfl : t = ua := ht
    refine SpI.of (cd := kdX3_watch) (fT := mlook flX3) (kT := mlook klX3) (kJ := mlook jlX3) mfA_X3_watch ok_X3_watch fT_X3 kT_X3 jT_X3 jdk_ok True.intro (Nat.le_of_ble_eq_true rfl) (fun G hG => ?_)
    refine rRun hG 99999 ?_
    refine rVV hG (sp_X3_remember (uo := uo) (ux := ux) (ua := t) (ub := ub) (v1 := v1) (v2 := v2) (up := up) (uq := uq) (ur := ur) (mo := mo) (kn := kn) (kp := kp) h0) rfl rfl lk_X3_53 mf_X3_remember (by decide) (Nat.le_of_ble_eq_true rfl) ⟨_, _, _, rfl, rfl, rfl⟩ ?_
    rintro _ rfl
    refine rRun hG 99999 ?_
    refine rV hG (sp_X3_check (uo := uo) (ux := ux) (ua := t) (ub := ub) (v1 := v1) (v2 := v2) (up := up) (uq := uq) (ur := ur) (mo := mcpy mo mo 0 9 90) (kn := min 10 (kn + 1)) (kp := kp) (k := false) (t := t) (ht := rfl) h1 h2 h3 h4) rfl rfl lk_X3_90 mf_X3_check (by decide) (Nat.le_of_ble_eq_true rfl) ⟨_, _, _, rfl, rfl, rfl⟩ ?_
    rintro _ _ ⟨rfl, rfl⟩
    refine rIR hG rfl rfl (True.intro) ?_
    exact ⟨rfl, rfl⟩
  · obtain rfl : t = ub := ht
    refine SpI.of (cd := kdX3_watch) (fT := mlook flX3) (kT := mlook klX3) (kJ := mlook jlX3) mfA_X3_watch ok_X3_watch fT_X3 kT_X3 jT_X3 jdk_ok True.intro (Nat.le_of_ble_eq_true rfl) (fun G hG => ?_)
    refine rRun hG 99999 ?_
    refine rVV hG (sp_X3_remember (uo := uo) (ux := ux) (ua := ua) (ub := t) (v1 := v1) (v2 := v2) (up := up) (uq := uq) (ur := ur) (mo := mo) (kn := kn) (kp := kp) h0) rfl rfl lk_X3_53 mf_X3_remember (by decide) (Nat.le_of_ble_eq_true rfl) ⟨_, _, _, rfl, rfl, rfl⟩ ?_
    rintro _ rfl
    refine rRun hG 99999 ?_
    refine rV hG (sp_X3_check (uo := uo) (ux := ux) (ua := ua) (ub := t) (v1 := v1) (v2 := v2) (up := up) (uq := uq) (ur := ur) (mo := mcpy mo mo 0 9 90) (kn := min 10 (kn + 1)) (kp := kp) (k := true) (t := t) (ht := rfl) h1 h2 h3 h4) rfl rfl lk_X3_90 mf_X3_check (by decide) (Nat.le_of_ble_eq_true rfl) ⟨_, _, _, rfl, rfl, rfl⟩ ?_
    rintro _ _ ⟨rfl, rfl⟩
    refine rIR hG rfl rfl (True.intro) ?_
    exact ⟨rfl, rfl⟩
set_option maxRecDepth 20000 in
set_option maxHeartbeats 4000000 in
theorem sp_X3_pay {uo : UD} {ux : XD} {ua ub : TD} {mo : FN} {kn kp : Int} {v1 v2 : SD} {up uq : PD} {ur : HD} {i w : Int} (h0 : 0 ≤ kn ∧ kn ≤ 10) (h1 : 0 ≤ i ∧ i < 4) (h2 : 0 ≤ mo (5 + i).toNat ∧ mo (5 + i).toNat ≤ 9999) (h3 : 0 ≤ w ∧ w ≤ 999) : SpI l 2 yX3_pay cX3_pay 3 (some .int) [mr 11, mi i, mi w] (hC uo ux ua ub (mo, kn, kp) v1 v2 up uq ur) (fun z h => z = max 0 (mo (5 + i).toNat - w) ∧ h = hC uo ux ua ub (mup (mup (mcpy mo mo 0 9 90) 3 (mo 3 - w)) (5 + i).toNat (max 0 (mo (5 + i).toNat - w)), min 10 (kn + 1), kp) v1 v2 up uq ur) := by
  refine SpI.of (cd := kdX3_pay) (fT := mlook flX3) (kT := mlook klX3) (kJ := mlook jlX3) mfA_X3_pay ok_X3_pay fT_X3 kT_X3 jT_X3 jdk_ok True.intro (Nat.le_of_ble_eq_true rfl) (fun G hG => ?_)
  refine rRun hG 99999 ?_
  refine rVV hG (sp_X3_remember (uo := uo) (ux := ux) (ua := ua) (ub := ub) (v1 := v1) (v2 := v2) (up := up) (uq := uq) (ur := ur) (mo := mo) (kn := kn) (kp := kp) h0) rfl rfl lk_X3_53 mf_X3_remember (by decide) (Nat.le_of_ble_eq_true rfl) ⟨_, _, _, rfl, rfl, rfl⟩ ?_
  rintro _ rfl
  refine rRun hG 99999 ?_
  refine And.intro rfl (And.intro (by decide) (And.intro (by decide) (?_)))
  refine rV hG (sp_X3_harmOf (uo := uo) (ux := ux) (ua := ua) (ub := ub) (v1 := v1) (v2 := v2) (up := up) (uq := uq) (ur := ur) (mo := mup (mcpy mo mo 0 9 90) 3 (mo 3 - w)) (kn := min 10 (kn + 1)) (kp := kp) (i := i) (by omega)) rfl rfl lk_X3_29 mf_X3_harmOf (by decide) (Nat.le_of_ble_eq_true rfl) ⟨_, _, _, rfl, rfl, rfl⟩ ?_
  rintro z _ ⟨hz, rfl⟩
  rw [if_pos (by omega), mup_n (by omega)] at hz
  have e9 : mcpy mo mo 0 9 90 (5 + i).toNat = mo (5 + i).toNat := if_neg (by omega)
  rw [e9] at hz
  subst hz
  refine rRun hG 99999 ?_
  refine rMax hG rfl rfl lk_X3_56 (by decide) (Nat.le_of_ble_eq_true rfl) (by first | omega | (dsimp only; omega)) ?_
  refine rVV hG (sp_X3_setHarm (uo := uo) (ux := ux) (ua := ua) (ub := ub) (v1 := v1) (v2 := v2) (up := up) (uq := uq) (ur := ur) (mo := mup (mcpy mo mo 0 9 90) 3 (mo 3 - w)) (kn := min 10 (kn + 1)) (kp := kp) (i := i) (w := max 0 (mo (5 + i).toNat - w)) (by omega)) rfl rfl lk_X3_80 mf_X3_setHarm (by decide) (Nat.le_of_ble_eq_true rfl) ⟨_, _, _, rfl, rfl, rfl⟩ ?_
  rintro _ rfl
  rw [if_pos (by omega)]
  refine rRun hG 99999 ?_
  refine rV hG (sp_X3_harmOf (uo := uo) (ux := ux) (ua := ua) (ub := ub) (v1 := v1) (v2 := v2) (up := up) (uq := uq) (ur := ur) (mo := mup (mup (mcpy mo mo 0 9 90) 3 (mo 3 - w)) (5 + i).toNat (max 0 (mo (5 + i).toNat - w))) (kn := min 10 (kn + 1)) (kp := kp) (i := i) (by omega)) rfl rfl lk_X3_29 mf_X3_harmOf (by decide) (Nat.le_of_ble_eq_true rfl) ⟨_, _, _, rfl, rfl, rfl⟩ ?_
  rintro z _ ⟨hz, rfl⟩
  rw [if_pos (by omega), mup_s] at hz
  subst hz
  refine rIR hG rfl rfl (True.intro) ?_
  exact ⟨rfl, rfl⟩
set_option maxRecDepth 20000 in
set_option maxHeartbeats 4000000 in
theorem sp_X3_correct {uo : UD} {ux : XD} {ua ub : TD} {mo : FN} {kn kp : Int} {v1 v2 : SD} {up uq : PD} {ur : HD} {w : Int} (h0 : 0 ≤ kn ∧ kn ≤ 10) : SpI l 2 yX3_correct cX3_correct 2 (some .int) [mr 11, mi w] (hC uo ux ua ub (mo, kn, kp) v1 v2 up uq ur) (fun z h => z = mo 2 + w ∧ h = hC uo ux ua ub (mup (mcpy mo mo 0 9 90) 2 (mo 2 + w), min 10 (kn + 1), kp) v1 v2 up uq ur) := by
  refine SpI.of (cd := kdX3_correct) (fT := mlook flX3) (kT := mlook klX3) (kJ := mlook jlX3) mfA_X3_correct ok_X3_correct fT_X3 kT_X3 jT_X3 jdk_ok True.intro (Nat.le_of_ble_eq_true rfl) (fun G hG => ?_)
  refine rRun hG 99999 ?_
  refine rVV hG (sp_X3_remember (uo := uo) (ux := ux) (ua := ua) (ub := ub) (v1 := v1) (v2 := v2) (up := up) (uq := uq) (ur := ur) (mo := mo) (kn := kn) (kp := kp) h0) rfl rfl lk_X3_53 mf_X3_remember (by decide) (Nat.le_of_ble_eq_true rfl) ⟨_, _, _, rfl, rfl, rfl⟩ ?_
  rintro _ rfl
  refine rRun hG 99999 ?_
  refine And.intro rfl (And.intro (by decide) (And.intro (by decide) (?_)))
  refine rV hG (sp_X3_error (uo := uo) (ux := ux) (ua := ua) (ub := ub) (v1 := v1) (v2 := v2) (up := up) (uq := uq) (ur := ur) (mo := mup (mcpy mo mo 0 9 90) 2 (mo 2 + w)) (kn := min 10 (kn + 1)) (kp := kp)) rfl rfl lk_X3_74 mf_X3_error (by decide) (Nat.le_of_ble_eq_true rfl) ⟨_, _, _, rfl, rfl, rfl⟩ ?_
  rintro _ _ ⟨rfl, rfl⟩
  refine rIR hG rfl rfl (True.intro) ?_
  exact ⟨rfl, rfl⟩
set_option maxRecDepth 20000 in
set_option maxHeartbeats 4000000 in
theorem sp_X3_recall {uo : UD} {ux : XD} {ua ub : TD} {mo : FN} {kn kp : Int} {v1 v2 : SD} {up uq : PD} {ur : HD}  (h0 : 0 ≤ kn ∧ kn ≤ 10) : SpI l 1 yX3_recall cX3_recall 1 (some .boolean) [mr 11] (hC uo ux ua ub (mo, kn, kp) v1 v2 up uq ur) (fun z h => z = (if 0 < kn then 1 else 0) ∧ h = hC uo ux ua ub (if 0 < kn then mcpy mo mo 9 0 90 else mo, if 0 < kn then kn - 1 else kn, kp) v1 v2 up uq ur) := by
  refine SpI.of (cd := kdX3_recall) (fT := mlook flX3) (kT := mlook klX3) (kJ := mlook jlX3) mfA_X3_recall ok_X3_recall fT_X3 kT_X3 jT_X3 jdk_ok True.intro (Nat.le_of_ble_eq_true rfl) (fun G hG => ?_)
  refine rRun hG 99999 ?_
  refine And.intro rfl (And.intro (by first | omega | (dsimp only; omega)) (And.intro (fun c1 => ?_) (fun c1 => ?_)))
  · try dsimp only at c1
    refine rRun hG 99999 ?_
    refine And.intro rfl (And.intro rfl (?_))
    refine rCpy hG rfl rfl lk_X3_23 (by decide) (Nat.le_of_ble_eq_true rfl) rfl rfl (by decide) ?_
    refine rRun hG 99999 ?_
    refine And.intro rfl (And.intro ⟨rfl, by exact Nat.le_of_ble_eq_true rfl, by exact True.intro⟩ (?_))
    refine rIR hG rfl rfl (by first | exact Or.inl rfl | exact Or.inr rfl | (show _ ∨ _; omega)) ?_
    first | (rw [if_pos (by omega), if_pos (by omega), if_pos (by omega)]; exact ⟨rfl, rfl⟩) | (rw [if_neg (by omega), if_neg (by omega), if_neg (by omega)]; exact ⟨rfl, rfl⟩)
  · try dsimp only at c1
    refine rIR hG rfl rfl (by first | exact Or.inl rfl | exact Or.inr rfl | (show _ ∨ _; omega)) ?_
    first | (rw [if_pos (by omega), if_pos (by omega), if_pos (by omega)]; exact ⟨rfl, rfl⟩) | (rw [if_neg (by omega), if_neg (by omega), if_neg (by omega)]; exact ⟨rfl, rfl⟩)
theorem drw_in {day z : Int} (h1 : 0 ≤ day ∧ day ≤ 14) (h2 : 0 ≤ z ∧ z ≤ 9999) : 0 ≤ drw day z ∧ drw day z ≤ 9 := by
  unfold drw; omega
theorem drw_inI {day z : Int} (h1 : 0 ≤ day ∧ day ≤ 14) (h2 : 0 ≤ z ∧ z ≤ 9999) : inI (drw day z) := by
  have := drw_in h1 h2
  exact ⟨by omega, by omega⟩
theorem drw_sq {day z : Int} (h1 : 0 ≤ day ∧ day ≤ 14) (h2 : 0 ≤ z ∧ z ≤ 9999) : 0 ≤ (7919 * z + 6151 * day + 1) * (7919 * z + 6151 * day + 1) ∧ (7919 * z + 6151 * day + 1) * (7919 * z + 6151 * day + 1) < 9223372036854775808 := by
  have a : 0 ≤ 7919 * z + 6151 * day + 1 := by omega
  have b : 7919 * z + 6151 * day + 1 ≤ 80000000 := by omega
  have c := Int.mul_le_mul b b a (by omega)
  exact ⟨Int.mul_nonneg a a, by omega⟩
def hrmM (tr : FN) (e : Int) (m : FN) : Nat → FN
  | 0 => m
  | i + 1 => mup (hrmM tr e m i) (5 + i) (min 9999 (hrmM tr e m i (5 + i) + hrm1 tr e i))
theorem hrmM_lo {tr : FN} {e : Int} {m : FN} : ∀ {i j : Nat}, (j < 5 ∨ 5 + i ≤ j) → hrmM tr e m i j = m j
  | 0, _, _ => rfl
  | i + 1, j, h => by
    show mup (hrmM tr e m i) (5 + i) _ j = m j
    rw [mup_n (by omega)]
    exact hrmM_lo (by omega)
/-- what a turned day leaves ahead of the check -/
def trnM (br tr : FN) (nb nt : Nat) (pace : Int) (mo : FN) : FN :=
  hrmM tr (mo 2 + pace) (mup (mup (mup (mcpy mo mo 0 9 90) 2 (mo 2 + pace)) 1 (max 0 (mo 1 - 4 - pace))) 3 (min 999 (mo 3 + cndl br (mo 0) pace nb))) nt
def trnR (t : TD) (pace z : Int) (mo : FN) : Int := if drw (mo 0) z < tSun t (mo 0).toNat then chkR (trnM (tBri t) (tTra t) (tNB t).toNat (tNT t).toNat pace mo) (tLim t) else 0
def trnC (t : TD) (pace z : Int) (mo : FN) : FN := if drw (mo 0) z < tSun t (mo 0).toNat then chkM (trnM (tBri t) (tTra t) (tNB t).toNat (tNT t).toNat pace mo) (tLim t) (tAdd t) else trnM (tBri t) (tTra t) (tNB t).toNat (tNT t).toNat pace mo
set_option maxRecDepth 20000 in
set_option maxHeartbeats 4000000 in
theorem sp_X3_draw {uo : UD} {ux : XD} {ua ub : TD} {mo : FN} {kn kp : Int} {v1 v2 : SD} {up uq : PD} {ur : HD} {day z : Int} (h1 : 0 ≤ day ∧ day ≤ 14) (h2 : 0 ≤ z ∧ z ≤ 9999) : SpI l 1 yX3_draw cX3_draw 4 (some .int) [mi day, mi z] (hC uo ux ua ub (mo, kn, kp) v1 v2 up uq ur) (fun w h => w = drw day z ∧ h = hC uo ux ua ub (mo, kn, kp) v1 v2 up uq ur) := by
  have h9 := drw_sq h1 h2
  refine SpI.of (cd := kdX3_draw) (fT := mlook flX3) (kT := mlook klX3) (kJ := mlook jlX3) mfA_X3_draw ok_X3_draw fT_X3 kT_X3 jT_X3 jdk_ok True.intro (Nat.le_of_ble_eq_true rfl) (fun G hG => ?_)
  refine rRun hG 99999 ?_
  refine And.intro (by first | omega | (dsimp only; omega)) (And.intro (by first | omega | (dsimp only; omega)) (And.intro (by exact ⟨h9, by decide, by decide⟩) (And.intro (by exact ⟨(by omega : 0 ≤ (7919 * z + 6151 * day + 1) * (7919 * z + 6151 * day + 1) % 65521 ∧ (7919 * z + 6151 * day + 1) * (7919 * z + 6151 * day + 1) % 65521 < 9223372036854775808), by decide, by decide⟩) (And.intro (by exact ⟨(by omega : 0 ≤ (7919 * z + 6151 * day + 1) * (7919 * z + 6151 * day + 1) % 65521 / 8 ∧ (7919 * z + 6151 * day + 1) * (7919 * z + 6151 * day + 1) % 65521 / 8 < 9223372036854775808), by decide, by decide⟩) (And.intro (by exact drw_inI h1 h2) (?_))))))
  refine rIR hG rfl rfl (True.intro) ?_
  exact ⟨rfl, rfl⟩
end WALKS
end
section
/-! Story: a turned day, how soon, how caught -/
section WALKS
variable {l : Launch}
set_option maxRecDepth 20000 in
set_option maxHeartbeats 4000000 in
theorem sp_X6_isBeyond {hh : mH} {e : Int} (h1 : inI e) : SpI l 1 yX6_isBeyond cX6_isBeyond 1 (some .boolean) [mi e] (hh) (fun z h => z = (if e < -9 ∨ 9 < e then 1 else 0) ∧ h = hh) := by
  refine SpI.of (cd := kdX6_isBeyond) (fT := mlook flX6) (kT := mlook klX6) (kJ := mlook jlX6) mfA_X6_isBeyond ok_X6_isBeyond fT_X6 kT_X6 jT_X6 jdk_ok True.intro (Nat.le_of_ble_eq_true rfl) (fun G hG => ?_)
  refine rRun hG 99999 ?_
  refine And.intro (by first | omega | (dsimp only; omega)) (And.intro (fun c1 => ?_) (fun c1 => ?_))
  · try dsimp only at c1
    refine rRun hG 99999 ?_
    refine rIR hG rfl rfl (by first | exact Or.inl rfl | exact Or.inr rfl | (show _ ∨ _; omega)) ?_
    exact ⟨by first | (rw [if_pos (by omega)]; done) | (rw [if_neg (by omega)]; done), rfl⟩
  · try dsimp only at c1
    refine And.intro (by first | omega | (dsimp only; omega)) (And.intro (fun c2 => ?_) (fun c2 => ?_))
    · try dsimp only at c2
      refine rRun hG 99999 ?_
      refine rIR hG rfl rfl (by first | exact Or.inl rfl | exact Or.inr rfl | (show _ ∨ _; omega)) ?_
      exact ⟨by first | (rw [if_pos (by omega)]; done) | (rw [if_neg (by omega)]; done), rfl⟩
    · try dsimp only at c2
      refine rIR hG rfl rfl (by first | exact Or.inl rfl | exact Or.inr rfl | (show _ ∨ _; omega)) ?_
      exact ⟨by first | (rw [if_pos (by omega)]; done) | (rw [if_neg (by omega)]; done), rfl⟩
set_option maxRecDepth 20000 in
set_option maxHeartbeats 4000000 in
theorem sp_X6_isPace {hh : mH} {e : Int} (h1 : inI e) : SpI l 1 yX6_isPace cX6_isPace 1 (some .boolean) [mi e] (hh) (fun z h => z = (if -2 ≤ e ∧ e ≤ 3 then 1 else 0) ∧ h = hh) := by
  refine SpI.of (cd := kdX6_isPace) (fT := mlook flX6) (kT := mlook klX6) (kJ := mlook jlX6) mfA_X6_isPace ok_X6_isPace fT_X6 kT_X6 jT_X6 jdk_ok True.intro (Nat.le_of_ble_eq_true rfl) (fun G hG => ?_)
  refine rRun hG 99999 ?_
  refine And.intro (by first | omega | (dsimp only; omega)) (And.intro (fun c1 => ?_) (fun c1 => ?_))
  · try dsimp only at c1
    refine rRun hG 99999 ?_
    refine rIR hG rfl rfl (by first | exact Or.inl rfl | exact Or.inr rfl | (show _ ∨ _; omega)) ?_
    exact ⟨by first | (rw [if_pos (by omega)]; done) | (rw [if_neg (by omega)]; done), rfl⟩
  · try dsimp only at c1
    refine And.intro (by first | omega | (dsimp only; omega)) (And.intro (fun c2 => ?_) (fun c2 => ?_))
    · try dsimp only at c2
      refine rRun hG 99999 ?_
      refine rIR hG rfl rfl (by first | exact Or.inl rfl | exact Or.inr rfl | (show _ ∨ _; omega)) ?_
      exact ⟨by first | (rw [if_pos (by omega)]; done) | (rw [if_neg (by omega)]; done), rfl⟩
    · try dsimp only at c2
      refine rIR hG rfl rfl (by first | exact Or.inl rfl | exact Or.inr rfl | (show _ ∨ _; omega)) ?_
      exact ⟨by first | (rw [if_pos (by omega)]; done) | (rw [if_neg (by omega)]; done), rfl⟩
def soonR (rest err : Int) : Nat → Nat → Int
  | 0, _ => -9
  | n + 1, k => if rest ≤ 4 * (k : Int) + min (3 * (k : Int)) (9 - err) then (k : Int) else soonR rest err n (k + 1)
theorem soonR_s {rest err : Int} {n k : Nat} : soonR rest err (n + 1) k = if rest ≤ 4 * (k : Int) + min (3 * (k : Int)) (9 - err) then (k : Int) else soonR rest err n (k + 1) := rfl
def catR (lim pace : Int) : Nat → Nat → Int → Int → Int
  | 0, _, _, _ => -9
  | n + 1, k, e, r => if e < -9 ∨ 9 < e then -9 else if lim < max e (-e) then (k : Int) else if r ≤ 0 then -9 else catR lim pace n (k + 1) (e + pace) (r - (4 + pace))
theorem catR_s {lim pace : Int} {n k : Nat} {e r : Int} : catR lim pace (n + 1) k e r = if e < -9 ∨ 9 < e then -9 else if lim < max e (-e) then (k : Int) else if r ≤ 0 then -9 else catR lim pace n (k + 1) (e + pace) (r - (4 + pace)) := rfl
set_option maxRecDepth 20000 in
set_option maxHeartbeats 4000000 in
theorem sp_X3_soonestFree {uo : UD} {ux : XD} {ua ub : TD} {mo : FN} {kn kp : Int} {v1 v2 : SD} {up uq : PD} {ur : HD} {k : Bool} {t : TD} (ht : t = tsel k ua ub)  (h0 : 0 ≤ tDay t ∧ tDay t ≤ 14) (h1 : 0 ≤ mo 0 ∧ mo 0 ≤ tDay t) (h2 : -100 ≤ mo 2 ∧ mo 2 ≤ 100) (h3 : 0 ≤ mo 1 ∧ mo 1 ≤ 1000) : SpI l 4 yX3_soonestFree cX3_soonestFree 4 (some .int) [mr 11, mr (tix k)] (hC uo ux ua ub (mo, kn, kp) v1 v2 up uq ur) (fun z h => z = soonR (mo 1) (mo 2) ((tDay t - mo 0).toNat + 1) 0 ∧ h = hC uo ux ua ub (mo, kn, kp) v1 v2 up uq ur) := by
  cases k
  · obtain rfl : t = ua := ht
    refine SpI.of (cd := kdX3_soonestFree) (fT := mlook flX3) (kT := mlook klX3) (kJ := mlook jlX3) mfA_X3_soonestFree ok_X3_soonestFree fT_X3 kT_X3 jT_X3 jdk_ok True.intro (Nat.le_of_ble_eq_true rfl) (fun G hG => ?_)
    refine rRun hG 2 ?_
    have J2 : ∀ (n : Nat) (k1 : Nat), ((k1 : Int) ≤ tDay t - mo 0 + 1 ∧ soonR (mo 1) (mo 2) ((tDay t - mo 0).toNat + 1 - k1) k1 = soonR (mo 1) (mo 2) ((tDay t - mo 0).toNat + 1) 0) → ((tDay t - mo 0).toNat + 1) - k1 < n → G 2 [some (mr 11), some (mr 3), some (mi k1), none] [] (hC uo ux t ub (mo, kn, kp) v1 v2 up uq ur) := by
      intro n
      induction n with
      | zero => intro k1 _ hm; exact absurd hm (Nat.not_lt_zero _)
      | succ n ih =>
        intro k1 hinv hm
        refine rRun hG 99999 ?_
        refine rV hG (sp_X3_daysLeft (uo := uo) (ux := ux) (ua := t) (ub := ub) (v1 := v1) (v2 := v2) (up := up) (uq := uq) (ur := ur) (mo := mo) (kn := kn) (kp := kp) (t := t) (k := false) (ht := rfl)) rfl rfl lk_X3_94 mf_X3_daysLeft (by decide) (Nat.le_of_ble_eq_true rfl) ⟨_, _, _, rfl, rfl, rfl⟩ ?_
        rintro _ _ ⟨rfl, rfl⟩
        refine rRun hG 99999 ?_
        refine And.intro (by first | omega | (dsimp only; omega)) (And.intro (fun c2 => ?_) (fun c2 => ?_))
        · try dsimp only at c2
          refine rRun hG 99999 ?_
          refine rIR hG rfl rfl (True.intro) ?_
          refine ⟨?_, rfl⟩
          rw [← hinv.2]
          rw [show (tDay t - mo 0).toNat + 1 - k1 = 0 by omega]
          rfl
        · try dsimp only at c2
          refine rV hG (sp_X3_error (uo := uo) (ux := ux) (ua := t) (ub := ub) (v1 := v1) (v2 := v2) (up := up) (uq := uq) (ur := ur) (mo := mo) (kn := kn) (kp := kp)) rfl rfl lk_X3_74 mf_X3_error (by decide) (Nat.le_of_ble_eq_true rfl) ⟨_, _, _, rfl, rfl, rfl⟩ ?_
          rintro _ _ ⟨rfl, rfl⟩
          refine rRun hG 99999 ?_
          refine rMin hG rfl rfl lk_X3_68 (by decide) (Nat.le_of_ble_eq_true rfl) (by first | omega | (dsimp only; omega)) ?_
          refine rRun hG 99999 ?_
          refine rV hG (sp_X3_rest (uo := uo) (ux := ux) (ua := t) (ub := ub) (v1 := v1) (v2 := v2) (up := up) (uq := uq) (ur := ur) (mo := mo) (kn := kn) (kp := kp)) rfl rfl lk_X3_42 mf_X3_rest (by decide) (Nat.le_of_ble_eq_true rfl) ⟨_, _, _, rfl, rfl, rfl⟩ ?_
          rintro _ _ ⟨rfl, rfl⟩
          refine rRun hG 99999 ?_
          refine And.intro (by first | omega | (dsimp only; omega)) (And.intro (fun c5 => ?_) (fun c5 => ?_))
          · try dsimp only at c5
            refine rRun hG 99999 ?_
            refine rLess hG ?_ (ih (k1 + 1) ⟨?_, ?_⟩ ?_)
            · exact ⟨rfl, rfl, rfl, True.intro⟩
            · omega
            · rw [← hinv.2]
              rw [show (tDay t - mo 0).toNat + 1 - k1 = ((tDay t - mo 0).toNat + 1 - (k1 + 1)) + 1 by omega, soonR_s, if_neg (by omega)]
            · omega
          · try dsimp only at c5
            refine rIR hG rfl rfl (True.intro) ?_
            refine ⟨?_, rfl⟩
            rw [← hinv.2]
            rw [show (tDay t - mo 0).toNat + 1 - k1 = ((tDay t - mo 0).toNat - k1) + 1 by omega, soonR_s, if_pos (by omega)]
    exact rLess hG (L' := [some (mr 11), some (mr 3), some (mi ((0 : Nat) : Int)), none]) ⟨rfl, rfl, rfl, True.intro⟩ (J2 _ 0 ⟨by omega, rfl⟩ (Nat.lt_succ_self _))
  · obtain rfl : t = ub := ht
    refine SpI.of (cd := kdX3_soonestFree) (fT := mlook flX3) (kT := mlook klX3) (kJ := mlook jlX3) mfA_X3_soonestFree ok_X3_soonestFree fT_X3 kT_X3 jT_X3 jdk_ok True.intro (Nat.le_of_ble_eq_true rfl) (fun G hG => ?_)
    refine rRun hG 2 ?_
    have J2 : ∀ (n : Nat) (k1 : Nat), ((k1 : Int) ≤ tDay t - mo 0 + 1 ∧ soonR (mo 1) (mo 2) ((tDay t - mo 0).toNat + 1 - k1) k1 = soonR (mo 1) (mo 2) ((tDay t - mo 0).toNat + 1) 0) → ((tDay t - mo 0).toNat + 1) - k1 < n → G 2 [some (mr 11), some (mr 7), some (mi k1), none] [] (hC uo ux ua t (mo, kn, kp) v1 v2 up uq ur) := by
      intro n
      induction n with
      | zero => intro k1 _ hm; exact absurd hm (Nat.not_lt_zero _)
      | succ n ih =>
        intro k1 hinv hm
        refine rRun hG 99999 ?_
        refine rV hG (sp_X3_daysLeft (uo := uo) (ux := ux) (ua := ua) (ub := t) (v1 := v1) (v2 := v2) (up := up) (uq := uq) (ur := ur) (mo := mo) (kn := kn) (kp := kp) (t := t) (k := true) (ht := rfl)) rfl rfl lk_X3_94 mf_X3_daysLeft (by decide) (Nat.le_of_ble_eq_true rfl) ⟨_, _, _, rfl, rfl, rfl⟩ ?_
        rintro _ _ ⟨rfl, rfl⟩
        refine rRun hG 99999 ?_
        refine And.intro (by first | omega | (dsimp only; omega)) (And.intro (fun c2 => ?_) (fun c2 => ?_))
        · try dsimp only at c2
          refine rRun hG 99999 ?_
          refine rIR hG rfl rfl (True.intro) ?_
          refine ⟨?_, rfl⟩
          rw [← hinv.2]
          rw [show (tDay t - mo 0).toNat + 1 - k1 = 0 by omega]
          rfl
        · try dsimp only at c2
          refine rV hG (sp_X3_error (uo := uo) (ux := ux) (ua := ua) (ub := t) (v1 := v1) (v2 := v2) (up := up) (uq := uq) (ur := ur) (mo := mo) (kn := kn) (kp := kp)) rfl rfl lk_X3_74 mf_X3_error (by decide) (Nat.le_of_ble_eq_true rfl) ⟨_, _, _, rfl, rfl, rfl⟩ ?_
          rintro _ _ ⟨rfl, rfl⟩
          refine rRun hG 99999 ?_
          refine rMin hG rfl rfl lk_X3_68 (by decide) (Nat.le_of_ble_eq_true rfl) (by first | omega | (dsimp only; omega)) ?_
          refine rRun hG 99999 ?_
          refine rV hG (sp_X3_rest (uo := uo) (ux := ux) (ua := ua) (ub := t) (v1 := v1) (v2 := v2) (up := up) (uq := uq) (ur := ur) (mo := mo) (kn := kn) (kp := kp)) rfl rfl lk_X3_42 mf_X3_rest (by decide) (Nat.le_of_ble_eq_true rfl) ⟨_, _, _, rfl, rfl, rfl⟩ ?_
          rintro _ _ ⟨rfl, rfl⟩
          refine rRun hG 99999 ?_
          refine And.intro (by first | omega | (dsimp only; omega)) (And.intro (fun c5 => ?_) (fun c5 => ?_))
          · try dsimp only at c5
            refine rRun hG 99999 ?_
            refine rLess hG ?_ (ih (k1 + 1) ⟨?_, ?_⟩ ?_)
            · exact ⟨rfl, rfl, rfl, True.intro⟩
            · omega
            · rw [← hinv.2]
              rw [show (tDay t - mo 0).toNat + 1 - k1 = ((tDay t - mo 0).toNat + 1 - (k1 + 1)) + 1 by omega, soonR_s, if_neg (by omega)]
            · omega
          · try dsimp only at c5
            refine rIR hG rfl rfl (True.intro) ?_
            refine ⟨?_, rfl⟩
            rw [← hinv.2]
            rw [show (tDay t - mo 0).toNat + 1 - k1 = ((tDay t - mo 0).toNat - k1) + 1 by omega, soonR_s, if_pos (by omega)]
    exact rLess hG (L' := [some (mr 11), some (mr 7), some (mi ((0 : Nat) : Int)), none]) ⟨rfl, rfl, rfl, True.intro⟩ (J2 _ 0 ⟨by omega, rfl⟩ (Nat.lt_succ_self _))
set_option maxRecDepth 20000 in
set_option maxHeartbeats 4000000 in
theorem sp_X3_caughtBehind {uo : UD} {ux : XD} {ua ub : TD} {mo : FN} {kn kp : Int} {v1 v2 : SD} {up uq : PD} {ur : HD} {k : Bool} {t : TD} (ht : t = tsel k ua ub) {pace : Int} (h0 : 0 ≤ tDay t ∧ tDay t ≤ 14) (h1 : 0 ≤ mo 0 ∧ mo 0 ≤ tDay t) (h2 : -100 ≤ mo 2 ∧ mo 2 ≤ 100) (h3 : 0 ≤ mo 1 ∧ mo 1 ≤ 1000) (h4 : -2 ≤ pace ∧ pace ≤ 3) (h5 : 0 ≤ tLim t ∧ tLim t ≤ 6) : SpI l 4 yX3_caughtBehind cX3_caughtBehind 6 (some .int) [mr 11, mr (tix k), mi pace] (hC uo ux ua ub (mo, kn, kp) v1 v2 up uq ur) (fun z h => z = (if tDay t ≤ mo 0 ∨ mo 1 = 0 then -9 else catR (tLim t) pace ((tDay t - mo 0).toNat + 1) 0 (mo 2) (mo 1)) ∧ h = hC uo ux ua ub (mo, kn, kp) v1 v2 up uq ur) := by
  cases k
  · obtain rfl : t = ua := ht
    refine SpI.of (cd := kdX3_caughtBehind) (fT := mlook flX3) (kT := mlook klX3) (kJ := mlook jlX3) mfA_X3_caughtBehind ok_X3_caughtBehind fT_X3 kT_X3 jT_X3 jdk_ok True.intro (Nat.le_of_ble_eq_true rfl) (fun G hG => ?_)
    refine rRun hG 25 ?_
    refine rV hG (sp_X3_isEnded (uo := uo) (ux := ux) (ua := t) (ub := ub) (v1 := v1) (v2 := v2) (up := up) (uq := uq) (ur := ur) (mo := mo) (kn := kn) (kp := kp) (t := t) (k := false) (ht := rfl) (by omega) (by omega) (by omega)) rfl rfl lk_X3_97 mf_X3_isEnded (by decide) (Nat.le_of_ble_eq_true rfl) ⟨_, _, _, rfl, rfl, rfl⟩ ?_
    rintro w _ ⟨hw, rfl⟩
    have w1 : (w = 1 ∧ (tDay t ≤ mo 0 ∨ mo 1 = 0)) ∨ (w = 0 ∧ ¬ (tDay t ≤ mo 0 ∨ mo 1 = 0)) := (by rw [hw]; by_cases q9 : (tDay t ≤ mo 0 ∨ mo 1 = 0) <;> simp [q9])
    clear hw
    refine rRun hG 25 ?_
    refine And.intro (by first | omega | (dsimp only; omega)) (And.intro (fun c2 => ?_) (fun c2 => ?_))
    · try dsimp only at c2
      refine rRun hG 25 ?_
      refine rV hG (sp_X3_error (uo := uo) (ux := ux) (ua := t) (ub := ub) (v1 := v1) (v2 := v2) (up := up) (uq := uq) (ur := ur) (mo := mo) (kn := kn) (kp := kp)) rfl rfl lk_X3_74 mf_X3_error (by decide) (Nat.le_of_ble_eq_true rfl) ⟨_, _, _, rfl, rfl, rfl⟩ ?_
      rintro _ _ ⟨rfl, rfl⟩
      refine rRun hG 25 ?_
      refine rV hG (sp_X3_rest (uo := uo) (ux := ux) (ua := t) (ub := ub) (v1 := v1) (v2 := v2) (up := up) (uq := uq) (ur := ur) (mo := mo) (kn := kn) (kp := kp)) rfl rfl lk_X3_42 mf_X3_rest (by decide) (Nat.le_of_ble_eq_true rfl) ⟨_, _, _, rfl, rfl, rfl⟩ ?_
      rintro _ _ ⟨rfl, rfl⟩
      refine rRun hG 25 ?_
      have J25 : ∀ (n : Nat) (k1 : Nat) (er rs : Int), ((k1 : Int) ≤ tDay t - mo 0 + 1 ∧ (-1000 + 50 * (14 - k1) ≤ er + 1000 ∧ er ≤ 1000 + 50 * k1) ∧ (-10000 - 50 * k1 ≤ rs ∧ rs ≤ 10000 + 50 * k1) ∧ catR (tLim t) pace ((tDay t - mo 0).toNat + 1 - k1) k1 er rs = catR (tLim t) pace ((tDay t - mo 0).toNat + 1) 0 (mo 2) (mo 1)) → ((tDay t - mo 0).toNat + 1) - k1 < n → G 25 [some (mr 11), some (mr 3), some (mi pace), some (mi er), some (mi rs), some (mi k1)] [] (hC uo ux t ub (mo, kn, kp) v1 v2 up uq ur) := by
        intro n
        induction n with
        | zero => intro k1 er rs _ hm; exact absurd hm (Nat.not_lt_zero _)
        | succ n ih =>
          intro k1 er rs hinv hm
          refine rRun hG 99999 ?_
          refine rV hG (sp_X3_daysLeft (uo := uo) (ux := ux) (ua := t) (ub := ub) (v1 := v1) (v2 := v2) (up := up) (uq := uq) (ur := ur) (mo := mo) (kn := kn) (kp := kp) (t := t) (k := false) (ht := rfl)) rfl rfl lk_X3_94 mf_X3_daysLeft (by decide) (Nat.le_of_ble_eq_true rfl) ⟨_, _, _, rfl, rfl, rfl⟩ ?_
          rintro _ _ ⟨rfl, rfl⟩
          refine rRun hG 99999 ?_
          refine And.intro (by first | omega | (dsimp only; omega)) (And.intro (fun c6 => ?_) (fun c6 => ?_))
          · try dsimp only at c6
            refine rRun hG 99999 ?_
            refine rIR hG rfl rfl (True.intro) ?_
            refine ⟨?_, rfl⟩
            rw [if_neg (by omega), ← hinv.2.2.2]
            rw [show (tDay t - mo 0).toNat + 1 - k1 = 0 by omega]
            rfl
          · try dsimp only at c6
            refine rSN hG (sp_X6_isBeyond (e := er) (by omega)) rfl rfl lkN_X3_100 mf_X6_isBeyond (by decide) (Nat.le_of_ble_eq_true rfl) ?_
            rintro v _ ⟨hv, rfl⟩
            have v1 : (v = 1 ∧ (er < -9 ∨ 9 < er)) ∨ (v = 0 ∧ ¬ (er < -9 ∨ 9 < er)) := (by rw [hv]; by_cases q9 : (er < -9 ∨ 9 < er) <;> simp [q9])
            clear hv
            refine rRun hG 99999 ?_
            refine And.intro (by first | omega | (dsimp only; omega)) (And.intro (fun c8 => ?_) (fun c8 => ?_))
            · try dsimp only at c8
              refine rRun hG 99999 ?_
              refine rAbs hG rfl rfl lk_X3_104 (by decide) (Nat.le_of_ble_eq_true rfl) (by first | omega | (dsimp only; omega)) ?_
              refine rRun hG 99999 ?_
              refine And.intro rfl (And.intro (by first | omega | (dsimp only; omega)) (And.intro (fun c9 => ?_) (fun c9 => ?_)))
              · try dsimp only at c9
                refine rRun hG 99999 ?_
                refine And.intro (by first | omega | (dsimp only; omega)) (And.intro (fun c10 => ?_) (fun c10 => ?_))
                · try dsimp only at c10
                  refine rRun hG 99999 ?_
                  refine rLess hG ?_ (ih (k1 + 1) (er + pace) (rs - (4 + pace)) ⟨?_, ?_, ?_, ?_⟩ ?_)
                  · exact ⟨rfl, rfl, rfl, rfl, rfl, rfl, True.intro⟩
                  · omega
                  · omega
                  · omega
                  · rw [← hinv.2.2.2]
                    rw [show (tDay t - mo 0).toNat + 1 - k1 = ((tDay t - mo 0).toNat + 1 - (k1 + 1)) + 1 by omega, catR_s, if_neg (by omega), if_neg (by omega), if_neg (by omega)]
                  · omega
                · try dsimp only at c10
                  refine rIR hG rfl rfl (True.intro) ?_
                  refine ⟨?_, rfl⟩
                  rw [if_neg (by omega), ← hinv.2.2.2]
                  rw [show (tDay t - mo 0).toNat + 1 - k1 = ((tDay t - mo 0).toNat - k1) + 1 by omega, catR_s, if_neg (by omega), if_neg (by omega), if_pos (by omega)]
              · try dsimp only at c9
                refine rIR hG rfl rfl (True.intro) ?_
                refine ⟨?_, rfl⟩
                rw [if_neg (by omega), ← hinv.2.2.2]
                rw [show (tDay t - mo 0).toNat + 1 - k1 = ((tDay t - mo 0).toNat - k1) + 1 by omega, catR_s, if_neg (by omega), if_pos (by omega)]
            · try dsimp only at c8
              refine rIR hG rfl rfl (True.intro) ?_
              refine ⟨?_, rfl⟩
              rw [if_neg (by omega), ← hinv.2.2.2]
              rw [show (tDay t - mo 0).toNat + 1 - k1 = ((tDay t - mo 0).toNat - k1) + 1 by omega, catR_s, if_pos (by omega)]
      exact J25 _ 0 _ _ ⟨by omega, by omega, by omega, rfl⟩ (Nat.lt_succ_self _)
    · try dsimp only at c2
      refine rIR hG rfl rfl (True.intro) ?_
      exact ⟨(if_pos (by omega)).symm, rfl⟩
  · obtain rfl : t = ub := ht
    refine SpI.of (cd := kdX3_caughtBehind) (fT := mlook flX3) (kT := mlook klX3) (kJ := mlook jlX3) mfA_X3_caughtBehind ok_X3_caughtBehind fT_X3 kT_X3 jT_X3 jdk_ok True.intro (Nat.le_of_ble_eq_true rfl) (fun G hG => ?_)
    refine rRun hG 25 ?_
    refine rV hG (sp_X3_isEnded (uo := uo) (ux := ux) (ua := ua) (ub := t) (v1 := v1) (v2 := v2) (up := up) (uq := uq) (ur := ur) (mo := mo) (kn := kn) (kp := kp) (t := t) (k := true) (ht := rfl) (by omega) (by omega) (by omega)) rfl rfl lk_X3_97 mf_X3_isEnded (by decide) (Nat.le_of_ble_eq_true rfl) ⟨_, _, _, rfl, rfl, rfl⟩ ?_
    rintro w _ ⟨hw, rfl⟩
    have w1 : (w = 1 ∧ (tDay t ≤ mo 0 ∨ mo 1 = 0)) ∨ (w = 0 ∧ ¬ (tDay t ≤ mo 0 ∨ mo 1 = 0)) := (by rw [hw]; by_cases q9 : (tDay t ≤ mo 0 ∨ mo 1 = 0) <;> simp [q9])
    clear hw
    refine rRun hG 25 ?_
    refine And.intro (by first | omega | (dsimp only; omega)) (And.intro (fun c2 => ?_) (fun c2 => ?_))
    · try dsimp only at c2
      refine rRun hG 25 ?_
      refine rV hG (sp_X3_error (uo := uo) (ux := ux) (ua := ua) (ub := t) (v1 := v1) (v2 := v2) (up := up) (uq := uq) (ur := ur) (mo := mo) (kn := kn) (kp := kp)) rfl rfl lk_X3_74 mf_X3_error (by decide) (Nat.le_of_ble_eq_true rfl) ⟨_, _, _, rfl, rfl, rfl⟩ ?_
      rintro _ _ ⟨rfl, rfl⟩
      refine rRun hG 25 ?_
      refine rV hG (sp_X3_rest (uo := uo) (ux := ux) (ua := ua) (ub := t) (v1 := v1) (v2 := v2) (up := up) (uq := uq) (ur := ur) (mo := mo) (kn := kn) (kp := kp)) rfl rfl lk_X3_42 mf_X3_rest (by decide) (Nat.le_of_ble_eq_true rfl) ⟨_, _, _, rfl, rfl, rfl⟩ ?_
      rintro _ _ ⟨rfl, rfl⟩
      refine rRun hG 25 ?_
      have J25 : ∀ (n : Nat) (k1 : Nat) (er rs : Int), ((k1 : Int) ≤ tDay t - mo 0 + 1 ∧ (-1000 + 50 * (14 - k1) ≤ er + 1000 ∧ er ≤ 1000 + 50 * k1) ∧ (-10000 - 50 * k1 ≤ rs ∧ rs ≤ 10000 + 50 * k1) ∧ catR (tLim t) pace ((tDay t - mo 0).toNat + 1 - k1) k1 er rs = catR (tLim t) pace ((tDay t - mo 0).toNat + 1) 0 (mo 2) (mo 1)) → ((tDay t - mo 0).toNat + 1) - k1 < n → G 25 [some (mr 11), some (mr 7), some (mi pace), some (mi er), some (mi rs), some (mi k1)] [] (hC uo ux ua t (mo, kn, kp) v1 v2 up uq ur) := by
        intro n
        induction n with
        | zero => intro k1 er rs _ hm; exact absurd hm (Nat.not_lt_zero _)
        | succ n ih =>
          intro k1 er rs hinv hm
          refine rRun hG 99999 ?_
          refine rV hG (sp_X3_daysLeft (uo := uo) (ux := ux) (ua := ua) (ub := t) (v1 := v1) (v2 := v2) (up := up) (uq := uq) (ur := ur) (mo := mo) (kn := kn) (kp := kp) (t := t) (k := true) (ht := rfl)) rfl rfl lk_X3_94 mf_X3_daysLeft (by decide) (Nat.le_of_ble_eq_true rfl) ⟨_, _, _, rfl, rfl, rfl⟩ ?_
          rintro _ _ ⟨rfl, rfl⟩
          refine rRun hG 99999 ?_
          refine And.intro (by first | omega | (dsimp only; omega)) (And.intro (fun c6 => ?_) (fun c6 => ?_))
          · try dsimp only at c6
            refine rRun hG 99999 ?_
            refine rIR hG rfl rfl (True.intro) ?_
            refine ⟨?_, rfl⟩
            rw [if_neg (by omega), ← hinv.2.2.2]
            rw [show (tDay t - mo 0).toNat + 1 - k1 = 0 by omega]
            rfl
          · try dsimp only at c6
            refine rSN hG (sp_X6_isBeyond (e := er) (by omega)) rfl rfl lkN_X3_100 mf_X6_isBeyond (by decide) (Nat.le_of_ble_eq_true rfl) ?_
            rintro v _ ⟨hv, rfl⟩
            have v1 : (v = 1 ∧ (er < -9 ∨ 9 < er)) ∨ (v = 0 ∧ ¬ (er < -9 ∨ 9 < er)) := (by rw [hv]; by_cases q9 : (er < -9 ∨ 9 < er) <;> simp [q9])
            clear hv
            refine rRun hG 99999 ?_
            refine And.intro (by first | omega | (dsimp only; omega)) (And.intro (fun c8 => ?_) (fun c8 => ?_))
            · try dsimp only at c8
              refine rRun hG 99999 ?_
              refine rAbs hG rfl rfl lk_X3_104 (by decide) (Nat.le_of_ble_eq_true rfl) (by first | omega | (dsimp only; omega)) ?_
              refine rRun hG 99999 ?_
              refine And.intro rfl (And.intro (by first | omega | (dsimp only; omega)) (And.intro (fun c9 => ?_) (fun c9 => ?_)))
              · try dsimp only at c9
                refine rRun hG 99999 ?_
                refine And.intro (by first | omega | (dsimp only; omega)) (And.intro (fun c10 => ?_) (fun c10 => ?_))
                · try dsimp only at c10
                  refine rRun hG 99999 ?_
                  refine rLess hG ?_ (ih (k1 + 1) (er + pace) (rs - (4 + pace)) ⟨?_, ?_, ?_, ?_⟩ ?_)
                  · exact ⟨rfl, rfl, rfl, rfl, rfl, rfl, True.intro⟩
                  · omega
                  · omega
                  · omega
                  · rw [← hinv.2.2.2]
                    rw [show (tDay t - mo 0).toNat + 1 - k1 = ((tDay t - mo 0).toNat + 1 - (k1 + 1)) + 1 by omega, catR_s, if_neg (by omega), if_neg (by omega), if_neg (by omega)]
                  · omega
                · try dsimp only at c10
                  refine rIR hG rfl rfl (True.intro) ?_
                  refine ⟨?_, rfl⟩
                  rw [if_neg (by omega), ← hinv.2.2.2]
                  rw [show (tDay t - mo 0).toNat + 1 - k1 = ((tDay t - mo 0).toNat - k1) + 1 by omega, catR_s, if_neg (by omega), if_neg (by omega), if_pos (by omega)]
              · try dsimp only at c9
                refine rIR hG rfl rfl (True.intro) ?_
                refine ⟨?_, rfl⟩
                rw [if_neg (by omega), ← hinv.2.2.2]
                rw [show (tDay t - mo 0).toNat + 1 - k1 = ((tDay t - mo 0).toNat - k1) + 1 by omega, catR_s, if_neg (by omega), if_pos (by omega)]
            · try dsimp only at c8
              refine rIR hG rfl rfl (True.intro) ?_
              refine ⟨?_, rfl⟩
              rw [if_neg (by omega), ← hinv.2.2.2]
              rw [show (tDay t - mo 0).toNat + 1 - k1 = ((tDay t - mo 0).toNat - k1) + 1 by omega, catR_s, if_pos (by omega)]
      exact J25 _ 0 _ _ ⟨by omega, by omega, by omega, rfl⟩ (Nat.lt_succ_self _)
    · try dsimp only at c2
      refine rIR hG rfl rfl (True.intro) ?_
      exact ⟨(if_pos (by omega)).symm, rfl⟩
end WALKS
end
section
/-! Plan -/
section WALKS
variable {l : Launch}
def plat (f : FN) (e : Int) : Int := if 0 ≤ e + 9 ∧ e + 9 < 19 then f (e + 9).toNat else -1000000
def pgain (tk : Int) (t : TD) (lt : FN) (day p e : Int) : Int :=
  if (if tk = 0 then 9 else tLim t) < max e (-e) ∨ plat lt e ≤ -1000000 then -1000000
  else (if tk = 0 then -hrmS (tTra t) e (tNT t).toNat else cndl (tBri t) day p (tNB t).toNat) + plat lt e
theorem pgain_no {tk : Int} {t : TD} {lt : FN} {day p e : Int} (h : (tk = 0 ∧ 9 < max e (-e)) ∨ (¬ tk = 0 ∧ tLim t < max e (-e)) ∨ plat lt e ≤ -1000000) : pgain tk t lt day p e = -1000000 := by
  unfold pgain
  rw [if_pos]
  rcases h with h | h | h
  · left; rw [if_pos h.1]; exact h.2
  · left; rw [if_neg h.1]; exact h.2
  · right; exact h
theorem pgain_h {tk : Int} {t : TD} {lt : FN} {day p e : Int} (h : tk = 0) (h1 : ¬ 9 < max e (-e)) (h2 : ¬ plat lt e ≤ -1000000) : pgain tk t lt day p e = -hrmS (tTra t) e (tNT t).toNat + plat lt e := by
  unfold pgain
  rw [if_neg (by rw [if_pos h]; omega), if_pos h]
theorem pgain_c {tk : Int} {t : TD} {lt : FN} {day p e : Int} (h : ¬ tk = 0) (h1 : ¬ tLim t < max e (-e)) (h2 : ¬ plat lt e ≤ -1000000) : pgain tk t lt day p e = cndl (tBri t) day p (tNB t).toNat + plat lt e := by
  unfold pgain
  rw [if_neg (by rw [if_neg h]; omega), if_neg h]
def foldB (g : Int → Int) (b0 : Int) : Nat → Int × Int
  | 0 => (b0, -9)
  | n + 1 => if (foldB g b0 n).1 < g ((n : Int) - 2) then (g ((n : Int) - 2), (n : Int) - 2) else foldB g b0 n
theorem foldB_s {g : Int → Int} {b0 : Int} {n : Nat} : foldB g b0 (n + 1) = if (foldB g b0 n).1 < g ((n : Int) - 2) then (g ((n : Int) - 2), (n : Int) - 2) else foldB g b0 n := rfl
theorem foldB_in {g : Int → Int} {b0 M : Int} (h0 : b0 ≤ M) (h : ∀ p, g p ≤ M) : ∀ n, b0 ≤ (foldB g b0 n).1 ∧ (foldB g b0 n).1 ≤ M
  | 0 => ⟨Int.le_refl _, h0⟩
  | n + 1 => by
    have ih := foldB_in h0 h n
    have hp := h ((n : Int) - 2)
    rw [foldB_s]
    split
    · exact ⟨by omega, hp⟩
    · exact ih
theorem cndl_in {t : TD} (hT : TOK t) {day p : Int} : ∀ n, n ≤ 6 → 0 ≤ cndl (tBri t) day p n ∧ cndl (tBri t) day p n ≤ 20 * n
  | 0, _ => ⟨Int.le_refl _, Int.le_refl _⟩
  | n + 1, h => by
    have ih := cndl_in hT (day := day) (p := p) n (by omega)
    have hB := hT.2.2.2.2.2.2.2.1 n (by omega)
    rw [cndl_s]
    split <;> omega
theorem hrm1_in {t : TD} (hT : TOK t) {e : Int} (he : -9 ≤ e ∧ e ≤ 9) {i : Nat} (hi : i < 4) : 0 ≤ hrm1 (tTra t) e i ∧ hrm1 (tTra t) e i ≤ 81 := by
  have hB := hT.2.2.2.2.2.2.2.2 i hi
  have mul : ∀ a b : Int, 0 ≤ a → a ≤ 9 → 0 ≤ b → b ≤ 9 → 0 ≤ a * b ∧ a * b ≤ 81 := fun a b h1 h2 h3 h4 => ⟨Int.mul_nonneg h1 h3, by have := Int.mul_le_mul h2 h4 h3 (by omega : (0 : Int) ≤ 9); omega⟩
  unfold hrm1
  split
  · split
    · exact mul _ _ (by omega) (by omega) (by omega) (by omega)
    · omega
  · split
    · exact mul _ _ (by omega) (by omega) (by omega) (by omega)
    · omega
theorem hrmS_in {t : TD} (hT : TOK t) {e : Int} (he : -9 ≤ e ∧ e ≤ 9) : ∀ n, n ≤ 4 → 0 ≤ hrmS (tTra t) e n ∧ hrmS (tTra t) e n ≤ 81 * n
  | 0, _ => ⟨Int.le_refl _, Int.le_refl _⟩
  | n + 1, h => by
    have ih := hrmS_in hT he n (by omega)
    have h1 := hrm1_in hT he (i := n) (by omega)
    show 0 ≤ hrmS (tTra t) e n + hrm1 (tTra t) e n ∧ hrmS (tTra t) e n + hrm1 (tTra t) e n ≤ 81 * ((n + 1 : Nat) : Int)
    omega
set_option maxRecDepth 20000 in
set_option maxHeartbeats 4000000 in
theorem sp_X2_laterAt {uo : UD} {ux : XD} {ua ub : TD} {mo : FN} {kn kp : Int} {v1 v2 : SD} {kP : Bool} {hr lt : FN} {tk ms pa : Int} {uq : PD} {ur : HD} {e : Int} (h1 : -1000 ≤ e ∧ e ≤ 1000) : SpI l 1 yX2_laterAt cX2_laterAt 3 (some .int) [mr 17, mi e] (hC uo ux ua ub (mo, kn, kp) v1 v2 (kP, hr, lt, tk, ms, pa) uq ur) (fun z h => z = plat lt e ∧ h = hC uo ux ua ub (mo, kn, kp) v1 v2 (kP, hr, lt, tk, ms, pa) uq ur) := by
  cases kP
  · skip
    refine SpI.of (cd := kdX2_laterAt) (fT := mlook flX2) (kT := mlook klX2) (kJ := mlook jlX2) mfA_X2_laterAt ok_X2_laterAt fT_X2 kT_X2 jT_X2 jdk_ok True.intro (Nat.le_of_ble_eq_true rfl) (fun G hG => ?_)
    refine rRun hG 99999 ?_
    refine And.intro (by first | omega | (dsimp only; omega)) (And.intro (fun c1 => ?_) (fun c1 => ?_))
    · try dsimp only at c1
      refine rRun hG 99999 ?_
      refine rIR hG rfl rfl (True.intro) ?_
      refine ⟨?_, rfl⟩
      unfold plat
      first | (rw [if_pos (by omega)]; rfl) | (rw [if_neg (by omega)])
    · try dsimp only at c1
      refine And.intro rfl (And.intro (by decide) (And.intro (by first | omega | (dsimp only; omega)) (And.intro (fun c2 => ?_) (fun c2 => ?_))))
      · try dsimp only at c2
        refine rRun hG 99999 ?_
        refine rIR hG rfl rfl (True.intro) ?_
        refine ⟨?_, rfl⟩
        unfold plat
        first | (rw [if_pos (by omega)]; rfl) | (rw [if_neg (by omega)])
      · try dsimp only at c2
        refine And.intro rfl (And.intro (by first | omega | (dsimp only; omega)) (?_))
        refine rIR hG rfl rfl (True.intro) ?_
        refine ⟨?_, rfl⟩
        unfold plat
        first | (rw [if_pos (by omega)]; rfl) | (rw [if_neg (by omega)])
  · skip
    refine SpI.of (cd := kdX2_laterAt) (fT := mlook flX2) (kT := mlook klX2) (kJ := mlook jlX2) mfA_X2_laterAt ok_X2_laterAt fT_X2 kT_X2 jT_X2 jdk_ok True.intro (Nat.le_of_ble_eq_true rfl) (fun G hG => ?_)
    refine rRun hG 99999 ?_
    refine And.intro (by first | omega | (dsimp only; omega)) (And.intro (fun c1 => ?_) (fun c1 => ?_))
    · try dsimp only at c1
      refine rRun hG 99999 ?_
      refine rIR hG rfl rfl (True.intro) ?_
      refine ⟨?_, rfl⟩
      unfold plat
      first | (rw [if_pos (by omega)]; rfl) | (rw [if_neg (by omega)])
    · try dsimp only at c1
      refine And.intro rfl (And.intro (by decide) (And.intro (by first | omega | (dsimp only; omega)) (And.intro (fun c2 => ?_) (fun c2 => ?_))))
      · try dsimp only at c2
        refine rRun hG 99999 ?_
        refine rIR hG rfl rfl (True.intro) ?_
        refine ⟨?_, rfl⟩
        unfold plat
        first | (rw [if_pos (by omega)]; rfl) | (rw [if_neg (by omega)])
      · try dsimp only at c2
        refine And.intro rfl (And.intro (by first | omega | (dsimp only; omega)) (?_))
        refine rIR hG rfl rfl (True.intro) ?_
        refine ⟨?_, rfl⟩
        unfold plat
        first | (rw [if_pos (by omega)]; rfl) | (rw [if_neg (by omega)])
set_option maxRecDepth 20000 in
set_option maxHeartbeats 4000000 in
theorem sp_X2_put {uo : UD} {ux : XD} {ua ub : TD} {mo : FN} {kn kp : Int} {v1 v2 : SD} {kP : Bool} {hr lt : FN} {tk ms pa : Int} {uq : PD} {ur : HD} {e w : Int} (h1 : -1000 ≤ e ∧ e ≤ 1000) : SpV l 1 yX2_put cX2_put 4 none [mr 17, mi e, mi w] (hC uo ux ua ub (mo, kn, kp) v1 v2 (kP, hr, lt, tk, ms, pa) uq ur) (fun h => h = hC uo ux ua ub (mo, kn, kp) v1 v2 (kP, if 0 ≤ e + 9 ∧ e + 9 < 19 then mup hr (e + 9).toNat w else hr, lt, tk, ms, pa) uq ur) := by
  cases kP
  · skip
    refine SpV.of (cd := kdX2_put) (fT := mlook flX2) (kT := mlook klX2) (kJ := mlook jlX2) mfA_X2_put ok_X2_put fT_X2 kT_X2 jT_X2 jdk_ok True.intro (Nat.le_of_ble_eq_true rfl) (fun G hG => ?_)
    refine rRun hG 99999 ?_
    refine And.intro (by first | omega | (dsimp only; omega)) (And.intro (fun c1 => ?_) (fun c1 => ?_))
    · try dsimp only at c1
      refine rVR hG rfl rfl rfl ?_
      first | (rw [if_pos (by omega)]; rfl) | (rw [if_neg (by omega)])
    · try dsimp only at c1
      refine And.intro rfl (And.intro (by decide) (And.intro (by first | omega | (dsimp only; omega)) (And.intro (fun c2 => ?_) (fun c2 => ?_))))
      · try dsimp only at c2
        refine rVR hG rfl rfl rfl ?_
        first | (rw [if_pos (by omega)]; rfl) | (rw [if_neg (by omega)])
      · try dsimp only at c2
        refine And.intro rfl (And.intro (by first | omega | (dsimp only; omega)) (?_))
        refine rVR hG rfl rfl rfl ?_
        first | (rw [if_pos (by omega)]; rfl) | (rw [if_neg (by omega)])
  · skip
    refine SpV.of (cd := kdX2_put) (fT := mlook flX2) (kT := mlook klX2) (kJ := mlook jlX2) mfA_X2_put ok_X2_put fT_X2 kT_X2 jT_X2 jdk_ok True.intro (Nat.le_of_ble_eq_true rfl) (fun G hG => ?_)
    refine rRun hG 99999 ?_
    refine And.intro (by first | omega | (dsimp only; omega)) (And.intro (fun c1 => ?_) (fun c1 => ?_))
    · try dsimp only at c1
      refine rVR hG rfl rfl rfl ?_
      first | (rw [if_pos (by omega)]; rfl) | (rw [if_neg (by omega)])
    · try dsimp only at c1
      refine And.intro rfl (And.intro (by decide) (And.intro (by first | omega | (dsimp only; omega)) (And.intro (fun c2 => ?_) (fun c2 => ?_))))
      · try dsimp only at c2
        refine rVR hG rfl rfl rfl ?_
        first | (rw [if_pos (by omega)]; rfl) | (rw [if_neg (by omega)])
      · try dsimp only at c2
        refine And.intro rfl (And.intro (by first | omega | (dsimp only; omega)) (?_))
        refine rVR hG rfl rfl rfl ?_
        first | (rw [if_pos (by omega)]; rfl) | (rw [if_neg (by omega)])
set_option maxRecDepth 20000 in
set_option maxHeartbeats 4000000 in
theorem sp_X2_swapRows {uo : UD} {ux : XD} {ua ub : TD} {mo : FN} {kn kp : Int} {v1 v2 : SD} {kP : Bool} {hr lt : FN} {tk ms pa : Int} {uq : PD} {ur : HD}   : SpV l 1 yX2_swapRows cX2_swapRows 2 none [mr 17] (hC uo ux ua ub (mo, kn, kp) v1 v2 (kP, hr, lt, tk, ms, pa) uq ur) (fun h => h = hC uo ux ua ub (mo, kn, kp) v1 v2 (!kP, lt, hr, tk, ms, pa) uq ur) := by
  cases kP
  · skip
    refine SpV.of (cd := kdX2_swapRows) (fT := mlook flX2) (kT := mlook klX2) (kJ := mlook jlX2) mfA_X2_swapRows ok_X2_swapRows fT_X2 kT_X2 jT_X2 jdk_ok True.intro (Nat.le_of_ble_eq_true rfl) (fun G hG => ?_)
    refine rRun hG 99999 ?_
    refine And.intro rfl (And.intro rfl (And.intro ⟨rfl, by exact Nat.le_of_ble_eq_true rfl, by exact True.intro⟩ (And.intro ⟨rfl, by exact Nat.le_of_ble_eq_true rfl, by exact True.intro⟩ (?_))))
    refine rVR hG rfl rfl rfl ?_
    rfl
  · skip
    refine SpV.of (cd := kdX2_swapRows) (fT := mlook flX2) (kT := mlook klX2) (kJ := mlook jlX2) mfA_X2_swapRows ok_X2_swapRows fT_X2 kT_X2 jT_X2 jdk_ok True.intro (Nat.le_of_ble_eq_true rfl) (fun G hG => ?_)
    refine rRun hG 99999 ?_
    refine And.intro rfl (And.intro rfl (And.intro ⟨rfl, by exact Nat.le_of_ble_eq_true rfl, by exact True.intro⟩ (And.intro ⟨rfl, by exact Nat.le_of_ble_eq_true rfl, by exact True.intro⟩ (?_))))
    refine rVR hG rfl rfl rfl ?_
    rfl
set_option maxRecDepth 20000 in
set_option maxHeartbeats 4000000 in
theorem sp_X2_restBehind {uo : UD} {ux : XD} {ua ub : TD} {mo : FN} {kn kp : Int} {v1 v2 : SD} {kP : Bool} {hr lt : FN} {tk ms pa : Int} {uq : PD} {ur : HD} {kd e : Int}  : SpI l 2 yX2_restBehind cX2_restBehind 3 (some .int) [mr 11, mi kd, mi e] (hC uo ux ua ub (mo, kn, kp) v1 v2 (kP, hr, lt, tk, ms, pa) uq ur) (fun z h => z = mo 1 - 4 * kd - (e - mo 2) ∧ h = hC uo ux ua ub (mo, kn, kp) v1 v2 (kP, hr, lt, tk, ms, pa) uq ur) := by
  refine SpI.of (cd := kdX2_restBehind) (fT := mlook flX2) (kT := mlook klX2) (kJ := mlook jlX2) mfA_X2_restBehind ok_X2_restBehind fT_X2 kT_X2 jT_X2 jdk_ok True.intro (Nat.le_of_ble_eq_true rfl) (fun G hG => ?_)
  refine rRun hG 99999 ?_
  refine rV hG (sp_X3_rest (uo := uo) (ux := ux) (ua := ua) (ub := ub) (mo := mo) (kn := kn) (kp := kp) (v1 := v1) (v2 := v2) (up := (kP, hr, lt, tk, ms, pa)) (uq := uq) (ur := ur)) rfl rfl lk_X2_72 mf_X3_rest (by decide) (Nat.le_of_ble_eq_true rfl) ⟨_, _, _, rfl, rfl, rfl⟩ ?_
  rintro _ _ ⟨rfl, rfl⟩
  refine rRun hG 99999 ?_
  refine rV hG (sp_X3_error (uo := uo) (ux := ux) (ua := ua) (ub := ub) (mo := mo) (kn := kn) (kp := kp) (v1 := v1) (v2 := v2) (up := (kP, hr, lt, tk, ms, pa)) (uq := uq) (ur := ur)) rfl rfl lk_X2_69 mf_X3_error (by decide) (Nat.le_of_ble_eq_true rfl) ⟨_, _, _, rfl, rfl, rfl⟩ ?_
  rintro _ _ ⟨rfl, rfl⟩
  refine rRun hG 99999 ?_
  refine rIR hG rfl rfl (True.intro) ?_
  exact ⟨rfl, rfl⟩
set_option maxRecDepth 20000 in
set_option maxHeartbeats 4000000 in
theorem sp_X2_gain {uo : UD} {ux : XD} {ua ub : TD} {mo : FN} {kn kp : Int} {v1 v2 : SD} {kP : Bool} {hr lt : FN} {tk ms pa : Int} {uq : PD} {ur : HD} {k : Bool} {t : TD} (ht : t = tsel k ua ub) {day pp e : Int} (hT : TOK t) (h1 : 0 ≤ day ∧ day ≤ 100) (h2 : -100 ≤ pp ∧ pp ≤ 100) (h3 : -100 ≤ e ∧ e ≤ 100) (h4 : tk = 0 ∨ tk = 1) (h5 : -1000000 ≤ plat lt e ∧ plat lt e ≤ 100000) : SpI l 4 yX2_gain cX2_gain 7 (some .int) [mr 17, mr (tix k), mi day, mi pp, mi e] (hC uo ux ua ub (mo, kn, kp) v1 v2 (kP, hr, lt, tk, ms, pa) uq ur) (fun z h => z = pgain tk t lt day pp e ∧ h = hC uo ux ua ub (mo, kn, kp) v1 v2 (kP, hr, lt, tk, ms, pa) uq ur) := by
  have hT2 := hT.2.2.2.2.1
  cases kP
  · skip
    cases k
    · obtain rfl : t = ua := ht
      refine SpI.of (cd := kdX2_gain) (fT := mlook flX2) (kT := mlook klX2) (kJ := mlook jlX2) mfA_X2_gain ok_X2_gain fT_X2 kT_X2 jT_X2 jdk_ok True.intro (Nat.le_of_ble_eq_true rfl) (fun G hG => ?_)
      refine rRun hG 99999 ?_
      refine And.intro rfl (And.intro (by first | omega | (dsimp only; omega)) (And.intro (fun c1 => ?_) (fun c1 => ?_)))
      · try dsimp only at c1
        refine rRun hG 99999 ?_
        refine rAbs hG rfl rfl lk_X2_84 (by decide) (Nat.le_of_ble_eq_true rfl) (by first | omega | (dsimp only; omega)) ?_
        refine rRun hG 99999 ?_
        refine And.intro (by first | omega | (dsimp only; omega)) (And.intro (fun c2 => ?_) (fun c2 => ?_))
        · try dsimp only at c2
          refine rRun hG 99999 ?_
          refine rIR hG rfl rfl (True.intro) ?_
          exact ⟨(pgain_no (by omega)).symm, rfl⟩
        · try dsimp only at c2
          refine rV hG (sp_X2_laterAt (uo := uo) (ux := ux) (ua := t) (ub := ub) (mo := mo) (kn := kn) (kp := kp) (v1 := v1) (v2 := v2) (uq := uq) (ur := ur) (kP := false) (hr := hr) (lt := lt) (tk := tk) (ms := ms) (pa := pa) (e := e) (by omega)) rfl rfl lk_X2_88 mf_X2_laterAt (by decide) (Nat.le_of_ble_eq_true rfl) ⟨_, _, _, rfl, rfl, rfl⟩ ?_
          rintro _ _ ⟨rfl, rfl⟩
          refine rRun hG 99999 ?_
          refine And.intro (by first | omega | (dsimp only; omega)) (And.intro (fun c4 => ?_) (fun c4 => ?_))
          · try dsimp only at c4
            refine rRun hG 99999 ?_
            refine And.intro rfl (And.intro (by first | omega | (dsimp only; omega)) (And.intro (fun c5 => ?_) (fun c5 => ?_)))
            · try dsimp only at c5
              refine rRun hG 99999 ?_
              refine rV hG (sp_X5_harmToAll (uo := uo) (ux := ux) (ua := t) (ub := ub) (v0 := (mo, kn, kp)) (v1 := v1) (v2 := v2) (up := (false, hr, lt, tk, ms, pa)) (uq := uq) (ur := ur) (k := false) (t := t) (ht := rfl) (er := e) hT (by omega)) rfl rfl lk_X2_94 mf_X5_harmToAll (by decide) (Nat.le_of_ble_eq_true rfl) ⟨_, _, _, rfl, rfl, rfl⟩ ?_
              rintro _ _ ⟨rfl, rfl⟩
              refine rRun hG 99999 ?_
              refine rV hG (sp_X2_laterAt (uo := uo) (ux := ux) (ua := t) (ub := ub) (mo := mo) (kn := kn) (kp := kp) (v1 := v1) (v2 := v2) (uq := uq) (ur := ur) (kP := false) (hr := hr) (lt := lt) (tk := tk) (ms := ms) (pa := pa) (e := e) (by omega)) rfl rfl lk_X2_88 mf_X2_laterAt (by decide) (Nat.le_of_ble_eq_true rfl) ⟨_, _, _, rfl, rfl, rfl⟩ ?_
              rintro _ _ ⟨rfl, rfl⟩
              refine rRun hG 99999 ?_
              refine rIR hG rfl rfl (True.intro) ?_
              first | exact ⟨(pgain_h (by omega) (by omega) (by omega)).symm, rfl⟩ | exact ⟨(pgain_c (by omega) (by omega) (by omega)).symm, rfl⟩
            · try dsimp only at c5
              refine rV hG (sp_X5_candlesFor (uo := uo) (ux := ux) (ua := t) (ub := ub) (v0 := (mo, kn, kp)) (v1 := v1) (v2 := v2) (up := (false, hr, lt, tk, ms, pa)) (uq := uq) (ur := ur) (k := false) (t := t) (ht := rfl) (day := day) (pace := pp) hT (by omega) (by omega)) rfl rfl lk_X2_91 mf_X5_candlesFor (by decide) (Nat.le_of_ble_eq_true rfl) ⟨_, _, _, rfl, rfl, rfl⟩ ?_
              rintro _ _ ⟨rfl, rfl⟩
              refine rRun hG 99999 ?_
              refine rRun hG 99999 ?_
              refine rV hG (sp_X2_laterAt (uo := uo) (ux := ux) (ua := t) (ub := ub) (mo := mo) (kn := kn) (kp := kp) (v1 := v1) (v2 := v2) (uq := uq) (ur := ur) (kP := false) (hr := hr) (lt := lt) (tk := tk) (ms := ms) (pa := pa) (e := e) (by omega)) rfl rfl lk_X2_88 mf_X2_laterAt (by decide) (Nat.le_of_ble_eq_true rfl) ⟨_, _, _, rfl, rfl, rfl⟩ ?_
              rintro _ _ ⟨rfl, rfl⟩
              refine rRun hG 99999 ?_
              refine rIR hG rfl rfl (True.intro) ?_
              first | exact ⟨(pgain_h (by omega) (by omega) (by omega)).symm, rfl⟩ | exact ⟨(pgain_c (by omega) (by omega) (by omega)).symm, rfl⟩
          · try dsimp only at c4
            refine rIR hG rfl rfl (True.intro) ?_
            exact ⟨(pgain_no (by omega)).symm, rfl⟩
      · try dsimp only at c1
        refine And.intro rfl (?_)
        refine rRun hG 99999 ?_
        refine rAbs hG rfl rfl lk_X2_84 (by decide) (Nat.le_of_ble_eq_true rfl) (by first | omega | (dsimp only; omega)) ?_
        refine rRun hG 99999 ?_
        refine And.intro (by first | omega | (dsimp only; omega)) (And.intro (fun c10 => ?_) (fun c10 => ?_))
        · try dsimp only at c10
          refine rRun hG 99999 ?_
          refine rIR hG rfl rfl (True.intro) ?_
          exact ⟨(pgain_no (by omega)).symm, rfl⟩
        · try dsimp only at c10
          refine rV hG (sp_X2_laterAt (uo := uo) (ux := ux) (ua := t) (ub := ub) (mo := mo) (kn := kn) (kp := kp) (v1 := v1) (v2 := v2) (uq := uq) (ur := ur) (kP := false) (hr := hr) (lt := lt) (tk := tk) (ms := ms) (pa := pa) (e := e) (by omega)) rfl rfl lk_X2_88 mf_X2_laterAt (by decide) (Nat.le_of_ble_eq_true rfl) ⟨_, _, _, rfl, rfl, rfl⟩ ?_
          rintro _ _ ⟨rfl, rfl⟩
          refine rRun hG 99999 ?_
          refine And.intro (by first | omega | (dsimp only; omega)) (And.intro (fun c12 => ?_) (fun c12 => ?_))
          · try dsimp only at c12
            refine rRun hG 99999 ?_
            refine And.intro rfl (And.intro (by first | omega | (dsimp only; omega)) (And.intro (fun c13 => ?_) (fun c13 => ?_)))
            · try dsimp only at c13
              refine rRun hG 99999 ?_
              refine rV hG (sp_X5_harmToAll (uo := uo) (ux := ux) (ua := t) (ub := ub) (v0 := (mo, kn, kp)) (v1 := v1) (v2 := v2) (up := (false, hr, lt, tk, ms, pa)) (uq := uq) (ur := ur) (k := false) (t := t) (ht := rfl) (er := e) hT (by omega)) rfl rfl lk_X2_94 mf_X5_harmToAll (by decide) (Nat.le_of_ble_eq_true rfl) ⟨_, _, _, rfl, rfl, rfl⟩ ?_
              rintro _ _ ⟨rfl, rfl⟩
              refine rRun hG 99999 ?_
              refine rV hG (sp_X2_laterAt (uo := uo) (ux := ux) (ua := t) (ub := ub) (mo := mo) (kn := kn) (kp := kp) (v1 := v1) (v2 := v2) (uq := uq) (ur := ur) (kP := false) (hr := hr) (lt := lt) (tk := tk) (ms := ms) (pa := pa) (e := e) (by omega)) rfl rfl lk_X2_88 mf_X2_laterAt (by decide) (Nat.le_of_ble_eq_true rfl) ⟨_, _, _, rfl, rfl, rfl⟩ ?_
              rintro _ _ ⟨rfl, rfl⟩
              refine rRun hG 99999 ?_
              refine rIR hG rfl rfl (True.intro) ?_
              first | exact ⟨(pgain_h (by omega) (by omega) (by omega)).symm, rfl⟩ | exact ⟨(pgain_c (by omega) (by omega) (by omega)).symm, rfl⟩
            · try dsimp only at c13
              refine rV hG (sp_X5_candlesFor (uo := uo) (ux := ux) (ua := t) (ub := ub) (v0 := (mo, kn, kp)) (v1 := v1) (v2 := v2) (up := (false, hr, lt, tk, ms, pa)) (uq := uq) (ur := ur) (k := false) (t := t) (ht := rfl) (day := day) (pace := pp) hT (by omega) (by omega)) rfl rfl lk_X2_91 mf_X5_candlesFor (by decide) (Nat.le_of_ble_eq_true rfl) ⟨_, _, _, rfl, rfl, rfl⟩ ?_
              rintro _ _ ⟨rfl, rfl⟩
              refine rRun hG 99999 ?_
              refine rRun hG 99999 ?_
              refine rV hG (sp_X2_laterAt (uo := uo) (ux := ux) (ua := t) (ub := ub) (mo := mo) (kn := kn) (kp := kp) (v1 := v1) (v2 := v2) (uq := uq) (ur := ur) (kP := false) (hr := hr) (lt := lt) (tk := tk) (ms := ms) (pa := pa) (e := e) (by omega)) rfl rfl lk_X2_88 mf_X2_laterAt (by decide) (Nat.le_of_ble_eq_true rfl) ⟨_, _, _, rfl, rfl, rfl⟩ ?_
              rintro _ _ ⟨rfl, rfl⟩
              refine rRun hG 99999 ?_
              refine rIR hG rfl rfl (True.intro) ?_
              first | exact ⟨(pgain_h (by omega) (by omega) (by omega)).symm, rfl⟩ | exact ⟨(pgain_c (by omega) (by omega) (by omega)).symm, rfl⟩
          · try dsimp only at c12
            refine rIR hG rfl rfl (True.intro) ?_
            exact ⟨(pgain_no (by omega)).symm, rfl⟩
    · obtain rfl : t = ub := ht
      refine SpI.of (cd := kdX2_gain) (fT := mlook flX2) (kT := mlook klX2) (kJ := mlook jlX2) mfA_X2_gain ok_X2_gain fT_X2 kT_X2 jT_X2 jdk_ok True.intro (Nat.le_of_ble_eq_true rfl) (fun G hG => ?_)
      refine rRun hG 99999 ?_
      refine And.intro rfl (And.intro (by first | omega | (dsimp only; omega)) (And.intro (fun c1 => ?_) (fun c1 => ?_)))
      · try dsimp only at c1
        refine rRun hG 99999 ?_
        refine rAbs hG rfl rfl lk_X2_84 (by decide) (Nat.le_of_ble_eq_true rfl) (by first | omega | (dsimp only; omega)) ?_
        refine rRun hG 99999 ?_
        refine And.intro (by first | omega | (dsimp only; omega)) (And.intro (fun c2 => ?_) (fun c2 => ?_))
        · try dsimp only at c2
          refine rRun hG 99999 ?_
          refine rIR hG rfl rfl (True.intro) ?_
          exact ⟨(pgain_no (by omega)).symm, rfl⟩
        · try dsimp only at c2
          refine rV hG (sp_X2_laterAt (uo := uo) (ux := ux) (ua := ua) (ub := t) (mo := mo) (kn := kn) (kp := kp) (v1 := v1) (v2 := v2) (uq := uq) (ur := ur) (kP := false) (hr := hr) (lt := lt) (tk := tk) (ms := ms) (pa := pa) (e := e) (by omega)) rfl rfl lk_X2_88 mf_X2_laterAt (by decide) (Nat.le_of_ble_eq_true rfl) ⟨_, _, _, rfl, rfl, rfl⟩ ?_
          rintro _ _ ⟨rfl, rfl⟩
          refine rRun hG 99999 ?_
          refine And.intro (by first | omega | (dsimp only; omega)) (And.intro (fun c4 => ?_) (fun c4 => ?_))
          · try dsimp only at c4
            refine rRun hG 99999 ?_
            refine And.intro rfl (And.intro (by first | omega | (dsimp only; omega)) (And.intro (fun c5 => ?_) (fun c5 => ?_)))
            · try dsimp only at c5
              refine rRun hG 99999 ?_
              refine rV hG (sp_X5_harmToAll (uo := uo) (ux := ux) (ua := ua) (ub := t) (v0 := (mo, kn, kp)) (v1 := v1) (v2 := v2) (up := (false, hr, lt, tk, ms, pa)) (uq := uq) (ur := ur) (k := true) (t := t) (ht := rfl) (er := e) hT (by omega)) rfl rfl lk_X2_94 mf_X5_harmToAll (by decide) (Nat.le_of_ble_eq_true rfl) ⟨_, _, _, rfl, rfl, rfl⟩ ?_
              rintro _ _ ⟨rfl, rfl⟩
              refine rRun hG 99999 ?_
              refine rV hG (sp_X2_laterAt (uo := uo) (ux := ux) (ua := ua) (ub := t) (mo := mo) (kn := kn) (kp := kp) (v1 := v1) (v2 := v2) (uq := uq) (ur := ur) (kP := false) (hr := hr) (lt := lt) (tk := tk) (ms := ms) (pa := pa) (e := e) (by omega)) rfl rfl lk_X2_88 mf_X2_laterAt (by decide) (Nat.le_of_ble_eq_true rfl) ⟨_, _, _, rfl, rfl, rfl⟩ ?_
              rintro _ _ ⟨rfl, rfl⟩
              refine rRun hG 99999 ?_
              refine rIR hG rfl rfl (True.intro) ?_
              first | exact ⟨(pgain_h (by omega) (by omega) (by omega)).symm, rfl⟩ | exact ⟨(pgain_c (by omega) (by omega) (by omega)).symm, rfl⟩
            · try dsimp only at c5
              refine rV hG (sp_X5_candlesFor (uo := uo) (ux := ux) (ua := ua) (ub := t) (v0 := (mo, kn, kp)) (v1 := v1) (v2 := v2) (up := (false, hr, lt, tk, ms, pa)) (uq := uq) (ur := ur) (k := true) (t := t) (ht := rfl) (day := day) (pace := pp) hT (by omega) (by omega)) rfl rfl lk_X2_91 mf_X5_candlesFor (by decide) (Nat.le_of_ble_eq_true rfl) ⟨_, _, _, rfl, rfl, rfl⟩ ?_
              rintro _ _ ⟨rfl, rfl⟩
              refine rRun hG 99999 ?_
              refine rRun hG 99999 ?_
              refine rV hG (sp_X2_laterAt (uo := uo) (ux := ux) (ua := ua) (ub := t) (mo := mo) (kn := kn) (kp := kp) (v1 := v1) (v2 := v2) (uq := uq) (ur := ur) (kP := false) (hr := hr) (lt := lt) (tk := tk) (ms := ms) (pa := pa) (e := e) (by omega)) rfl rfl lk_X2_88 mf_X2_laterAt (by decide) (Nat.le_of_ble_eq_true rfl) ⟨_, _, _, rfl, rfl, rfl⟩ ?_
              rintro _ _ ⟨rfl, rfl⟩
              refine rRun hG 99999 ?_
              refine rIR hG rfl rfl (True.intro) ?_
              first | exact ⟨(pgain_h (by omega) (by omega) (by omega)).symm, rfl⟩ | exact ⟨(pgain_c (by omega) (by omega) (by omega)).symm, rfl⟩
          · try dsimp only at c4
            refine rIR hG rfl rfl (True.intro) ?_
            exact ⟨(pgain_no (by omega)).symm, rfl⟩
      · try dsimp only at c1
        refine And.intro rfl (?_)
        refine rRun hG 99999 ?_
        refine rAbs hG rfl rfl lk_X2_84 (by decide) (Nat.le_of_ble_eq_true rfl) (by first | omega | (dsimp only; omega)) ?_
        refine rRun hG 99999 ?_
        refine And.intro (by first | omega | (dsimp only; omega)) (And.intro (fun c10 => ?_) (fun c10 => ?_))
        · try dsimp only at c10
          refine rRun hG 99999 ?_
          refine rIR hG rfl rfl (True.intro) ?_
          exact ⟨(pgain_no (by omega)).symm, rfl⟩
        · try dsimp only at c10
          refine rV hG (sp_X2_laterAt (uo := uo) (ux := ux) (ua := ua) (ub := t) (mo := mo) (kn := kn) (kp := kp) (v1 := v1) (v2 := v2) (uq := uq) (ur := ur) (kP := false) (hr := hr) (lt := lt) (tk := tk) (ms := ms) (pa := pa) (e := e) (by omega)) rfl rfl lk_X2_88 mf_X2_laterAt (by decide) (Nat.le_of_ble_eq_true rfl) ⟨_, _, _, rfl, rfl, rfl⟩ ?_
          rintro _ _ ⟨rfl, rfl⟩
          refine rRun hG 99999 ?_
          refine And.intro (by first | omega | (dsimp only; omega)) (And.intro (fun c12 => ?_) (fun c12 => ?_))
          · try dsimp only at c12
            refine rRun hG 99999 ?_
            refine And.intro rfl (And.intro (by first | omega | (dsimp only; omega)) (And.intro (fun c13 => ?_) (fun c13 => ?_)))
            · try dsimp only at c13
              refine rRun hG 99999 ?_
              refine rV hG (sp_X5_harmToAll (uo := uo) (ux := ux) (ua := ua) (ub := t) (v0 := (mo, kn, kp)) (v1 := v1) (v2 := v2) (up := (false, hr, lt, tk, ms, pa)) (uq := uq) (ur := ur) (k := true) (t := t) (ht := rfl) (er := e) hT (by omega)) rfl rfl lk_X2_94 mf_X5_harmToAll (by decide) (Nat.le_of_ble_eq_true rfl) ⟨_, _, _, rfl, rfl, rfl⟩ ?_
              rintro _ _ ⟨rfl, rfl⟩
              refine rRun hG 99999 ?_
              refine rV hG (sp_X2_laterAt (uo := uo) (ux := ux) (ua := ua) (ub := t) (mo := mo) (kn := kn) (kp := kp) (v1 := v1) (v2 := v2) (uq := uq) (ur := ur) (kP := false) (hr := hr) (lt := lt) (tk := tk) (ms := ms) (pa := pa) (e := e) (by omega)) rfl rfl lk_X2_88 mf_X2_laterAt (by decide) (Nat.le_of_ble_eq_true rfl) ⟨_, _, _, rfl, rfl, rfl⟩ ?_
              rintro _ _ ⟨rfl, rfl⟩
              refine rRun hG 99999 ?_
              refine rIR hG rfl rfl (True.intro) ?_
              first | exact ⟨(pgain_h (by omega) (by omega) (by omega)).symm, rfl⟩ | exact ⟨(pgain_c (by omega) (by omega) (by omega)).symm, rfl⟩
            · try dsimp only at c13
              refine rV hG (sp_X5_candlesFor (uo := uo) (ux := ux) (ua := ua) (ub := t) (v0 := (mo, kn, kp)) (v1 := v1) (v2 := v2) (up := (false, hr, lt, tk, ms, pa)) (uq := uq) (ur := ur) (k := true) (t := t) (ht := rfl) (day := day) (pace := pp) hT (by omega) (by omega)) rfl rfl lk_X2_91 mf_X5_candlesFor (by decide) (Nat.le_of_ble_eq_true rfl) ⟨_, _, _, rfl, rfl, rfl⟩ ?_
              rintro _ _ ⟨rfl, rfl⟩
              refine rRun hG 99999 ?_
              refine rRun hG 99999 ?_
              refine rV hG (sp_X2_laterAt (uo := uo) (ux := ux) (ua := ua) (ub := t) (mo := mo) (kn := kn) (kp := kp) (v1 := v1) (v2 := v2) (uq := uq) (ur := ur) (kP := false) (hr := hr) (lt := lt) (tk := tk) (ms := ms) (pa := pa) (e := e) (by omega)) rfl rfl lk_X2_88 mf_X2_laterAt (by decide) (Nat.le_of_ble_eq_true rfl) ⟨_, _, _, rfl, rfl, rfl⟩ ?_
              rintro _ _ ⟨rfl, rfl⟩
              refine rRun hG 99999 ?_
              refine rIR hG rfl rfl (True.intro) ?_
              first | exact ⟨(pgain_h (by omega) (by omega) (by omega)).symm, rfl⟩ | exact ⟨(pgain_c (by omega) (by omega) (by omega)).symm, rfl⟩
          · try dsimp only at c12
            refine rIR hG rfl rfl (True.intro) ?_
            exact ⟨(pgain_no (by omega)).symm, rfl⟩
  · skip
    cases k
    · obtain rfl : t = ua := ht
      refine SpI.of (cd := kdX2_gain) (fT := mlook flX2) (kT := mlook klX2) (kJ := mlook jlX2) mfA_X2_gain ok_X2_gain fT_X2 kT_X2 jT_X2 jdk_ok True.intro (Nat.le_of_ble_eq_true rfl) (fun G hG => ?_)
      refine rRun hG 99999 ?_
      refine And.intro rfl (And.intro (by first | omega | (dsimp only; omega)) (And.intro (fun c1 => ?_) (fun c1 => ?_)))
      · try dsimp only at c1
        refine rRun hG 99999 ?_
        refine rAbs hG rfl rfl lk_X2_84 (by decide) (Nat.le_of_ble_eq_true rfl) (by first | omega | (dsimp only; omega)) ?_
        refine rRun hG 99999 ?_
        refine And.intro (by first | omega | (dsimp only; omega)) (And.intro (fun c2 => ?_) (fun c2 => ?_))
        · try dsimp only at c2
          refine rRun hG 99999 ?_
          refine rIR hG rfl rfl (True.intro) ?_
          exact ⟨(pgain_no (by omega)).symm, rfl⟩
        · try dsimp only at c2
          refine rV hG (sp_X2_laterAt (uo := uo) (ux := ux) (ua := t) (ub := ub) (mo := mo) (kn := kn) (kp := kp) (v1 := v1) (v2 := v2) (uq := uq) (ur := ur) (kP := true) (hr := hr) (lt := lt) (tk := tk) (ms := ms) (pa := pa) (e := e) (by omega)) rfl rfl lk_X2_88 mf_X2_laterAt (by decide) (Nat.le_of_ble_eq_true rfl) ⟨_, _, _, rfl, rfl, rfl⟩ ?_
          rintro _ _ ⟨rfl, rfl⟩
          refine rRun hG 99999 ?_
          refine And.intro (by first | omega | (dsimp only; omega)) (And.intro (fun c4 => ?_) (fun c4 => ?_))
          · try dsimp only at c4
            refine rRun hG 99999 ?_
            refine And.intro rfl (And.intro (by first | omega | (dsimp only; omega)) (And.intro (fun c5 => ?_) (fun c5 => ?_)))
            · try dsimp only at c5
              refine rRun hG 99999 ?_
              refine rV hG (sp_X5_harmToAll (uo := uo) (ux := ux) (ua := t) (ub := ub) (v0 := (mo, kn, kp)) (v1 := v1) (v2 := v2) (up := (true, hr, lt, tk, ms, pa)) (uq := uq) (ur := ur) (k := false) (t := t) (ht := rfl) (er := e) hT (by omega)) rfl rfl lk_X2_94 mf_X5_harmToAll (by decide) (Nat.le_of_ble_eq_true rfl) ⟨_, _, _, rfl, rfl, rfl⟩ ?_
              rintro _ _ ⟨rfl, rfl⟩
              refine rRun hG 99999 ?_
              refine rV hG (sp_X2_laterAt (uo := uo) (ux := ux) (ua := t) (ub := ub) (mo := mo) (kn := kn) (kp := kp) (v1 := v1) (v2 := v2) (uq := uq) (ur := ur) (kP := true) (hr := hr) (lt := lt) (tk := tk) (ms := ms) (pa := pa) (e := e) (by omega)) rfl rfl lk_X2_88 mf_X2_laterAt (by decide) (Nat.le_of_ble_eq_true rfl) ⟨_, _, _, rfl, rfl, rfl⟩ ?_
              rintro _ _ ⟨rfl, rfl⟩
              refine rRun hG 99999 ?_
              refine rIR hG rfl rfl (True.intro) ?_
              first | exact ⟨(pgain_h (by omega) (by omega) (by omega)).symm, rfl⟩ | exact ⟨(pgain_c (by omega) (by omega) (by omega)).symm, rfl⟩
            · try dsimp only at c5
              refine rV hG (sp_X5_candlesFor (uo := uo) (ux := ux) (ua := t) (ub := ub) (v0 := (mo, kn, kp)) (v1 := v1) (v2 := v2) (up := (true, hr, lt, tk, ms, pa)) (uq := uq) (ur := ur) (k := false) (t := t) (ht := rfl) (day := day) (pace := pp) hT (by omega) (by omega)) rfl rfl lk_X2_91 mf_X5_candlesFor (by decide) (Nat.le_of_ble_eq_true rfl) ⟨_, _, _, rfl, rfl, rfl⟩ ?_
              rintro _ _ ⟨rfl, rfl⟩
              refine rRun hG 99999 ?_
              refine rRun hG 99999 ?_
              refine rV hG (sp_X2_laterAt (uo := uo) (ux := ux) (ua := t) (ub := ub) (mo := mo) (kn := kn) (kp := kp) (v1 := v1) (v2 := v2) (uq := uq) (ur := ur) (kP := true) (hr := hr) (lt := lt) (tk := tk) (ms := ms) (pa := pa) (e := e) (by omega)) rfl rfl lk_X2_88 mf_X2_laterAt (by decide) (Nat.le_of_ble_eq_true rfl) ⟨_, _, _, rfl, rfl, rfl⟩ ?_
              rintro _ _ ⟨rfl, rfl⟩
              refine rRun hG 99999 ?_
              refine rIR hG rfl rfl (True.intro) ?_
              first | exact ⟨(pgain_h (by omega) (by omega) (by omega)).symm, rfl⟩ | exact ⟨(pgain_c (by omega) (by omega) (by omega)).symm, rfl⟩
          · try dsimp only at c4
            refine rIR hG rfl rfl (True.intro) ?_
            exact ⟨(pgain_no (by omega)).symm, rfl⟩
      · try dsimp only at c1
        refine And.intro rfl (?_)
        refine rRun hG 99999 ?_
        refine rAbs hG rfl rfl lk_X2_84 (by decide) (Nat.le_of_ble_eq_true rfl) (by first | omega | (dsimp only; omega)) ?_
        refine rRun hG 99999 ?_
        refine And.intro (by first | omega | (dsimp only; omega)) (And.intro (fun c10 => ?_) (fun c10 => ?_))
        · try dsimp only at c10
          refine rRun hG 99999 ?_
          refine rIR hG rfl rfl (True.intro) ?_
          exact ⟨(pgain_no (by omega)).symm, rfl⟩
        · try dsimp only at c10
          refine rV hG (sp_X2_laterAt (uo := uo) (ux := ux) (ua := t) (ub := ub) (mo := mo) (kn := kn) (kp := kp) (v1 := v1) (v2 := v2) (uq := uq) (ur := ur) (kP := true) (hr := hr) (lt := lt) (tk := tk) (ms := ms) (pa := pa) (e := e) (by omega)) rfl rfl lk_X2_88 mf_X2_laterAt (by decide) (Nat.le_of_ble_eq_true rfl) ⟨_, _, _, rfl, rfl, rfl⟩ ?_
          rintro _ _ ⟨rfl, rfl⟩
          refine rRun hG 99999 ?_
          refine And.intro (by first | omega | (dsimp only; omega)) (And.intro (fun c12 => ?_) (fun c12 => ?_))
          · try dsimp only at c12
            refine rRun hG 99999 ?_
            refine And.intro rfl (And.intro (by first | omega | (dsimp only; omega)) (And.intro (fun c13 => ?_) (fun c13 => ?_)))
            · try dsimp only at c13
              refine rRun hG 99999 ?_
              refine rV hG (sp_X5_harmToAll (uo := uo) (ux := ux) (ua := t) (ub := ub) (v0 := (mo, kn, kp)) (v1 := v1) (v2 := v2) (up := (true, hr, lt, tk, ms, pa)) (uq := uq) (ur := ur) (k := false) (t := t) (ht := rfl) (er := e) hT (by omega)) rfl rfl lk_X2_94 mf_X5_harmToAll (by decide) (Nat.le_of_ble_eq_true rfl) ⟨_, _, _, rfl, rfl, rfl⟩ ?_
              rintro _ _ ⟨rfl, rfl⟩
              refine rRun hG 99999 ?_
              refine rV hG (sp_X2_laterAt (uo := uo) (ux := ux) (ua := t) (ub := ub) (mo := mo) (kn := kn) (kp := kp) (v1 := v1) (v2 := v2) (uq := uq) (ur := ur) (kP := true) (hr := hr) (lt := lt) (tk := tk) (ms := ms) (pa := pa) (e := e) (by omega)) rfl rfl lk_X2_88 mf_X2_laterAt (by decide) (Nat.le_of_ble_eq_true rfl) ⟨_, _, _, rfl, rfl, rfl⟩ ?_
              rintro _ _ ⟨rfl, rfl⟩
              refine rRun hG 99999 ?_
              refine rIR hG rfl rfl (True.intro) ?_
              first | exact ⟨(pgain_h (by omega) (by omega) (by omega)).symm, rfl⟩ | exact ⟨(pgain_c (by omega) (by omega) (by omega)).symm, rfl⟩
            · try dsimp only at c13
              refine rV hG (sp_X5_candlesFor (uo := uo) (ux := ux) (ua := t) (ub := ub) (v0 := (mo, kn, kp)) (v1 := v1) (v2 := v2) (up := (true, hr, lt, tk, ms, pa)) (uq := uq) (ur := ur) (k := false) (t := t) (ht := rfl) (day := day) (pace := pp) hT (by omega) (by omega)) rfl rfl lk_X2_91 mf_X5_candlesFor (by decide) (Nat.le_of_ble_eq_true rfl) ⟨_, _, _, rfl, rfl, rfl⟩ ?_
              rintro _ _ ⟨rfl, rfl⟩
              refine rRun hG 99999 ?_
              refine rRun hG 99999 ?_
              refine rV hG (sp_X2_laterAt (uo := uo) (ux := ux) (ua := t) (ub := ub) (mo := mo) (kn := kn) (kp := kp) (v1 := v1) (v2 := v2) (uq := uq) (ur := ur) (kP := true) (hr := hr) (lt := lt) (tk := tk) (ms := ms) (pa := pa) (e := e) (by omega)) rfl rfl lk_X2_88 mf_X2_laterAt (by decide) (Nat.le_of_ble_eq_true rfl) ⟨_, _, _, rfl, rfl, rfl⟩ ?_
              rintro _ _ ⟨rfl, rfl⟩
              refine rRun hG 99999 ?_
              refine rIR hG rfl rfl (True.intro) ?_
              first | exact ⟨(pgain_h (by omega) (by omega) (by omega)).symm, rfl⟩ | exact ⟨(pgain_c (by omega) (by omega) (by omega)).symm, rfl⟩
          · try dsimp only at c12
            refine rIR hG rfl rfl (True.intro) ?_
            exact ⟨(pgain_no (by omega)).symm, rfl⟩
    · obtain rfl : t = ub := ht
      refine SpI.of (cd := kdX2_gain) (fT := mlook flX2) (kT := mlook klX2) (kJ := mlook jlX2) mfA_X2_gain ok_X2_gain fT_X2 kT_X2 jT_X2 jdk_ok True.intro (Nat.le_of_ble_eq_true rfl) (fun G hG => ?_)
      refine rRun hG 99999 ?_
      refine And.intro rfl (And.intro (by first | omega | (dsimp only; omega)) (And.intro (fun c1 => ?_) (fun c1 => ?_)))
      · try dsimp only at c1
        refine rRun hG 99999 ?_
        refine rAbs hG rfl rfl lk_X2_84 (by decide) (Nat.le_of_ble_eq_true rfl) (by first | omega | (dsimp only; omega)) ?_
        refine rRun hG 99999 ?_
        refine And.intro (by first | omega | (dsimp only; omega)) (And.intro (fun c2 => ?_) (fun c2 => ?_))
        · try dsimp only at c2
          refine rRun hG 99999 ?_
          refine rIR hG rfl rfl (True.intro) ?_
          exact ⟨(pgain_no (by omega)).symm, rfl⟩
        · try dsimp only at c2
          refine rV hG (sp_X2_laterAt (uo := uo) (ux := ux) (ua := ua) (ub := t) (mo := mo) (kn := kn) (kp := kp) (v1 := v1) (v2 := v2) (uq := uq) (ur := ur) (kP := true) (hr := hr) (lt := lt) (tk := tk) (ms := ms) (pa := pa) (e := e) (by omega)) rfl rfl lk_X2_88 mf_X2_laterAt (by decide) (Nat.le_of_ble_eq_true rfl) ⟨_, _, _, rfl, rfl, rfl⟩ ?_
          rintro _ _ ⟨rfl, rfl⟩
          refine rRun hG 99999 ?_
          refine And.intro (by first | omega | (dsimp only; omega)) (And.intro (fun c4 => ?_) (fun c4 => ?_))
          · try dsimp only at c4
            refine rRun hG 99999 ?_
            refine And.intro rfl (And.intro (by first | omega | (dsimp only; omega)) (And.intro (fun c5 => ?_) (fun c5 => ?_)))
            · try dsimp only at c5
              refine rRun hG 99999 ?_
              refine rV hG (sp_X5_harmToAll (uo := uo) (ux := ux) (ua := ua) (ub := t) (v0 := (mo, kn, kp)) (v1 := v1) (v2 := v2) (up := (true, hr, lt, tk, ms, pa)) (uq := uq) (ur := ur) (k := true) (t := t) (ht := rfl) (er := e) hT (by omega)) rfl rfl lk_X2_94 mf_X5_harmToAll (by decide) (Nat.le_of_ble_eq_true rfl) ⟨_, _, _, rfl, rfl, rfl⟩ ?_
              rintro _ _ ⟨rfl, rfl⟩
              refine rRun hG 99999 ?_
              refine rV hG (sp_X2_laterAt (uo := uo) (ux := ux) (ua := ua) (ub := t) (mo := mo) (kn := kn) (kp := kp) (v1 := v1) (v2 := v2) (uq := uq) (ur := ur) (kP := true) (hr := hr) (lt := lt) (tk := tk) (ms := ms) (pa := pa) (e := e) (by omega)) rfl rfl lk_X2_88 mf_X2_laterAt (by decide) (Nat.le_of_ble_eq_true rfl) ⟨_, _, _, rfl, rfl, rfl⟩ ?_
              rintro _ _ ⟨rfl, rfl⟩
              refine rRun hG 99999 ?_
              refine rIR hG rfl rfl (True.intro) ?_
              first | exact ⟨(pgain_h (by omega) (by omega) (by omega)).symm, rfl⟩ | exact ⟨(pgain_c (by omega) (by omega) (by omega)).symm, rfl⟩
            · try dsimp only at c5
              refine rV hG (sp_X5_candlesFor (uo := uo) (ux := ux) (ua := ua) (ub := t) (v0 := (mo, kn, kp)) (v1 := v1) (v2 := v2) (up := (true, hr, lt, tk, ms, pa)) (uq := uq) (ur := ur) (k := true) (t := t) (ht := rfl) (day := day) (pace := pp) hT (by omega) (by omega)) rfl rfl lk_X2_91 mf_X5_candlesFor (by decide) (Nat.le_of_ble_eq_true rfl) ⟨_, _, _, rfl, rfl, rfl⟩ ?_
              rintro _ _ ⟨rfl, rfl⟩
              refine rRun hG 99999 ?_
              refine rRun hG 99999 ?_
              refine rV hG (sp_X2_laterAt (uo := uo) (ux := ux) (ua := ua) (ub := t) (mo := mo) (kn := kn) (kp := kp) (v1 := v1) (v2 := v2) (uq := uq) (ur := ur) (kP := true) (hr := hr) (lt := lt) (tk := tk) (ms := ms) (pa := pa) (e := e) (by omega)) rfl rfl lk_X2_88 mf_X2_laterAt (by decide) (Nat.le_of_ble_eq_true rfl) ⟨_, _, _, rfl, rfl, rfl⟩ ?_
              rintro _ _ ⟨rfl, rfl⟩
              refine rRun hG 99999 ?_
              refine rIR hG rfl rfl (True.intro) ?_
              first | exact ⟨(pgain_h (by omega) (by omega) (by omega)).symm, rfl⟩ | exact ⟨(pgain_c (by omega) (by omega) (by omega)).symm, rfl⟩
          · try dsimp only at c4
            refine rIR hG rfl rfl (True.intro) ?_
            exact ⟨(pgain_no (by omega)).symm, rfl⟩
      · try dsimp only at c1
        refine And.intro rfl (?_)
        refine rRun hG 99999 ?_
        refine rAbs hG rfl rfl lk_X2_84 (by decide) (Nat.le_of_ble_eq_true rfl) (by first | omega | (dsimp only; omega)) ?_
        refine rRun hG 99999 ?_
        refine And.intro (by first | omega | (dsimp only; omega)) (And.intro (fun c10 => ?_) (fun c10 => ?_))
        · try dsimp only at c10
          refine rRun hG 99999 ?_
          refine rIR hG rfl rfl (True.intro) ?_
          exact ⟨(pgain_no (by omega)).symm, rfl⟩
        · try dsimp only at c10
          refine rV hG (sp_X2_laterAt (uo := uo) (ux := ux) (ua := ua) (ub := t) (mo := mo) (kn := kn) (kp := kp) (v1 := v1) (v2 := v2) (uq := uq) (ur := ur) (kP := true) (hr := hr) (lt := lt) (tk := tk) (ms := ms) (pa := pa) (e := e) (by omega)) rfl rfl lk_X2_88 mf_X2_laterAt (by decide) (Nat.le_of_ble_eq_true rfl) ⟨_, _, _, rfl, rfl, rfl⟩ ?_
          rintro _ _ ⟨rfl, rfl⟩
          refine rRun hG 99999 ?_
          refine And.intro (by first | omega | (dsimp only; omega)) (And.intro (fun c12 => ?_) (fun c12 => ?_))
          · try dsimp only at c12
            refine rRun hG 99999 ?_
            refine And.intro rfl (And.intro (by first | omega | (dsimp only; omega)) (And.intro (fun c13 => ?_) (fun c13 => ?_)))
            · try dsimp only at c13
              refine rRun hG 99999 ?_
              refine rV hG (sp_X5_harmToAll (uo := uo) (ux := ux) (ua := ua) (ub := t) (v0 := (mo, kn, kp)) (v1 := v1) (v2 := v2) (up := (true, hr, lt, tk, ms, pa)) (uq := uq) (ur := ur) (k := true) (t := t) (ht := rfl) (er := e) hT (by omega)) rfl rfl lk_X2_94 mf_X5_harmToAll (by decide) (Nat.le_of_ble_eq_true rfl) ⟨_, _, _, rfl, rfl, rfl⟩ ?_
              rintro _ _ ⟨rfl, rfl⟩
              refine rRun hG 99999 ?_
              refine rV hG (sp_X2_laterAt (uo := uo) (ux := ux) (ua := ua) (ub := t) (mo := mo) (kn := kn) (kp := kp) (v1 := v1) (v2 := v2) (uq := uq) (ur := ur) (kP := true) (hr := hr) (lt := lt) (tk := tk) (ms := ms) (pa := pa) (e := e) (by omega)) rfl rfl lk_X2_88 mf_X2_laterAt (by decide) (Nat.le_of_ble_eq_true rfl) ⟨_, _, _, rfl, rfl, rfl⟩ ?_
              rintro _ _ ⟨rfl, rfl⟩
              refine rRun hG 99999 ?_
              refine rIR hG rfl rfl (True.intro) ?_
              first | exact ⟨(pgain_h (by omega) (by omega) (by omega)).symm, rfl⟩ | exact ⟨(pgain_c (by omega) (by omega) (by omega)).symm, rfl⟩
            · try dsimp only at c13
              refine rV hG (sp_X5_candlesFor (uo := uo) (ux := ux) (ua := ua) (ub := t) (v0 := (mo, kn, kp)) (v1 := v1) (v2 := v2) (up := (true, hr, lt, tk, ms, pa)) (uq := uq) (ur := ur) (k := true) (t := t) (ht := rfl) (day := day) (pace := pp) hT (by omega) (by omega)) rfl rfl lk_X2_91 mf_X5_candlesFor (by decide) (Nat.le_of_ble_eq_true rfl) ⟨_, _, _, rfl, rfl, rfl⟩ ?_
              rintro _ _ ⟨rfl, rfl⟩
              refine rRun hG 99999 ?_
              refine rRun hG 99999 ?_
              refine rV hG (sp_X2_laterAt (uo := uo) (ux := ux) (ua := ua) (ub := t) (mo := mo) (kn := kn) (kp := kp) (v1 := v1) (v2 := v2) (uq := uq) (ur := ur) (kP := true) (hr := hr) (lt := lt) (tk := tk) (ms := ms) (pa := pa) (e := e) (by omega)) rfl rfl lk_X2_88 mf_X2_laterAt (by decide) (Nat.le_of_ble_eq_true rfl) ⟨_, _, _, rfl, rfl, rfl⟩ ?_
              rintro _ _ ⟨rfl, rfl⟩
              refine rRun hG 99999 ?_
              refine rIR hG rfl rfl (True.intro) ?_
              first | exact ⟨(pgain_h (by omega) (by omega) (by omega)).symm, rfl⟩ | exact ⟨(pgain_c (by omega) (by omega) (by omega)).symm, rfl⟩
          · try dsimp only at c12
            refine rIR hG rfl rfl (True.intro) ?_
            exact ⟨(pgain_no (by omega)).symm, rfl⟩
theorem pgain_in {tk : Int} {t : TD} {lt : FN} {day p e : Int} (hT : TOK t) (hl : ∀ e, -1000000 ≤ plat lt e ∧ plat lt e ≤ 100000) : -1100000 ≤ pgain tk t lt day p e ∧ pgain tk t lt day p e ≤ 200000 := by
  have h1 := hl e
  have hT2 := hT.2.1
  have hT3 := hT.2.2.1
  have hc := cndl_in hT (day := day) (p := p) (tNB t).toNat (by omega)
  unfold pgain
  by_cases q : (if tk = 0 then 9 else tLim t) < max e (-e) ∨ plat lt e ≤ -1000000
  · rw [if_pos q]; omega
  · rw [if_neg q]
    have he : -9 ≤ e ∧ e ≤ 9 := by
      by_cases w : 0 ≤ e + 9 ∧ e + 9 < 19
      · omega
      · have : plat lt e = -1000000 := if_neg w
        omega
    have hs := hrmS_in hT he (tNT t).toNat (by omega)
    split <;> omega
set_option maxRecDepth 20000 in
set_option maxHeartbeats 4000000 in
theorem sp_X2_best {uo : UD} {ux : XD} {ua ub : TD} {mo : FN} {kn kp : Int} {v1 v2 : SD} {kP : Bool} {hr lt : FN} {tk ms pa : Int} {uq : PD} {ur : HD} {k : Bool} {t : TD} (ht : t = tsel k ua ub) {day e : Int} (hT : TOK t) (h1 : 0 ≤ day ∧ day ≤ 100) (h3 : -9 ≤ e ∧ e ≤ 9) (h4 : tk = 0 ∨ tk = 1) (hl : ∀ e, -1000000 ≤ plat lt e ∧ plat lt e ≤ 100000) : SpI l 5 yX2_best cX2_best 7 (some .int) [mr 17, mr (tix k), mi day, mi e] (hC uo ux ua ub (mo, kn, kp) v1 v2 (kP, hr, lt, tk, ms, pa) uq ur) (fun z h => z = (foldB (fun q => pgain tk t lt day q (e + q)) (-1000000) 6).1 ∧ h = hC uo ux ua ub (mo, kn, kp) v1 v2 (kP, hr, lt, tk, ms, (foldB (fun q => pgain tk t lt day q (e + q)) (-1000000) 6).2) uq ur) := by
  cases kP
  · skip
    cases k
    · obtain rfl : t = ua := ht
      refine SpI.of (cd := kdX2_best) (fT := mlook flX2) (kT := mlook klX2) (kJ := mlook jlX2) mfA_X2_best ok_X2_best fT_X2 kT_X2 jT_X2 jdk_ok True.intro (Nat.le_of_ble_eq_true rfl) (fun G hG => ?_)
      refine rRun hG 14 ?_
      refine And.intro ⟨rfl, by exact Nat.le_of_ble_eq_true rfl, by exact True.intro⟩ (?_)
      have J14 : ∀ (n : Nat) (i : Nat), i ≤ 6 → 6 - i < n → G 14 [some (mr 17), some (mr 3), some (mi day), some (mi e), some (mi (foldB (fun q => pgain tk t lt day q (e + q)) (-1000000) i).1), some (mi ((i : Int) - 2)), none] [] (hC uo ux t ub (mo, kn, kp) v1 v2 (false, hr, lt, tk, ms, (foldB (fun q => pgain tk t lt day q (e + q)) (-1000000) i).2) uq ur) := by
        intro n
        induction n with
        | zero => intro i _ hm; exact absurd hm (Nat.not_lt_zero _)
        | succ n ih =>
          intro i hinv hm
          have hb1 := foldB_in (g := fun q => pgain tk t lt day q (e + q)) (b0 := -1000000) (M := 200000) (by omega) (fun q => (pgain_in hT hl).2) i
          refine rRun hG 99999 ?_
          refine And.intro (by first | omega | (dsimp only; omega)) (And.intro (fun c1 => ?_) (fun c1 => ?_))
          · try dsimp only at c1
            refine rRun hG 99999 ?_
            refine rIR hG rfl rfl (True.intro) ?_
            obtain rfl : i = 6 := by omega
            exact ⟨rfl, rfl⟩
          · try dsimp only at c1
            refine rV hG (sp_X2_gain (uo := uo) (ux := ux) (ua := t) (ub := ub) (mo := mo) (kn := kn) (kp := kp) (v1 := v1) (v2 := v2) (uq := uq) (ur := ur) (kP := false) (hr := hr) (lt := lt) (tk := tk) (ms := ms) (pa := (foldB (fun q => pgain tk t lt day q (e + q)) (-1000000) i).2) (k := false) (t := t) (ht := rfl) (day := day) (pp := (i : Int) - 2) (e := e + ((i : Int) - 2)) hT h1 (by omega) (by omega) h4 (hl _)) rfl rfl lk_X2_75 mf_X2_gain (by decide) (Nat.le_of_ble_eq_true rfl) ⟨_, _, _, rfl, rfl, rfl⟩ ?_
            rintro _ _ ⟨rfl, rfl⟩
            have hb2 := pgain_in (day := day) (p := (i : Int) - 2) (e := e + ((i : Int) - 2)) (tk := tk) hT hl
            refine rRun hG 99999 ?_
            refine And.intro (by first | omega | (dsimp only; omega)) (And.intro (fun cc => ?_) (fun cc => ?_))
            · try dsimp only at cc
              refine rRun hG 99999 ?_
              have e9 := ih (i + 1) (by omega) (by omega)
              rw [foldB_s] at e9
              first | rw [if_pos (Int.not_le.mp cc)] at e9 | rw [if_neg (Int.not_lt.mpr cc)] at e9
              refine rLess hG ?_ e9
              exact ⟨rfl, rfl, rfl, rfl, rfl, congrArg mi (by omega), True.intro⟩
            · try dsimp only at cc
              refine And.intro ⟨rfl, by exact Nat.le_of_ble_eq_true rfl, by exact True.intro⟩ (?_)
              have e9 := ih (i + 1) (by omega) (by omega)
              rw [foldB_s] at e9
              first | rw [if_pos (Int.not_le.mp cc)] at e9 | rw [if_neg (Int.not_lt.mpr cc)] at e9
              refine rLess hG ?_ e9
              exact ⟨rfl, rfl, rfl, rfl, rfl, congrArg mi (by omega), True.intro⟩
      exact rLess hG (L' := [some (mr 17), some (mr 3), some (mi day), some (mi e), some (mi (foldB (fun q => pgain tk t lt day q (e + q)) (-1000000) 0).1), some (mi (((0 : Nat) : Int) - 2)), none]) ⟨rfl, rfl, rfl, rfl, rfl, rfl, True.intro⟩ (J14 _ 0 (by omega) (Nat.lt_succ_self _))
    · obtain rfl : t = ub := ht
      refine SpI.of (cd := kdX2_best) (fT := mlook flX2) (kT := mlook klX2) (kJ := mlook jlX2) mfA_X2_best ok_X2_best fT_X2 kT_X2 jT_X2 jdk_ok True.intro (Nat.le_of_ble_eq_true rfl) (fun G hG => ?_)
      refine rRun hG 14 ?_
      refine And.intro ⟨rfl, by exact Nat.le_of_ble_eq_true rfl, by exact True.intro⟩ (?_)
      have J14 : ∀ (n : Nat) (i : Nat), i ≤ 6 → 6 - i < n → G 14 [some (mr 17), some (mr 7), some (mi day), some (mi e), some (mi (foldB (fun q => pgain tk t lt day q (e + q)) (-1000000) i).1), some (mi ((i : Int) - 2)), none] [] (hC uo ux ua t (mo, kn, kp) v1 v2 (false, hr, lt, tk, ms, (foldB (fun q => pgain tk t lt day q (e + q)) (-1000000) i).2) uq ur) := by
        intro n
        induction n with
        | zero => intro i _ hm; exact absurd hm (Nat.not_lt_zero _)
        | succ n ih =>
          intro i hinv hm
          have hb1 := foldB_in (g := fun q => pgain tk t lt day q (e + q)) (b0 := -1000000) (M := 200000) (by omega) (fun q => (pgain_in hT hl).2) i
          refine rRun hG 99999 ?_
          refine And.intro (by first | omega | (dsimp only; omega)) (And.intro (fun c1 => ?_) (fun c1 => ?_))
          · try dsimp only at c1
            refine rRun hG 99999 ?_
            refine rIR hG rfl rfl (True.intro) ?_
            obtain rfl : i = 6 := by omega
            exact ⟨rfl, rfl⟩
          · try dsimp only at c1
            refine rV hG (sp_X2_gain (uo := uo) (ux := ux) (ua := ua) (ub := t) (mo := mo) (kn := kn) (kp := kp) (v1 := v1) (v2 := v2) (uq := uq) (ur := ur) (kP := false) (hr := hr) (lt := lt) (tk := tk) (ms := ms) (pa := (foldB (fun q => pgain tk t lt day q (e + q)) (-1000000) i).2) (k := true) (t := t) (ht := rfl) (day := day) (pp := (i : Int) - 2) (e := e + ((i : Int) - 2)) hT h1 (by omega) (by omega) h4 (hl _)) rfl rfl lk_X2_75 mf_X2_gain (by decide) (Nat.le_of_ble_eq_true rfl) ⟨_, _, _, rfl, rfl, rfl⟩ ?_
            rintro _ _ ⟨rfl, rfl⟩
            have hb2 := pgain_in (day := day) (p := (i : Int) - 2) (e := e + ((i : Int) - 2)) (tk := tk) hT hl
            refine rRun hG 99999 ?_
            refine And.intro (by first | omega | (dsimp only; omega)) (And.intro (fun cc => ?_) (fun cc => ?_))
            · try dsimp only at cc
              refine rRun hG 99999 ?_
              have e9 := ih (i + 1) (by omega) (by omega)
              rw [foldB_s] at e9
              first | rw [if_pos (Int.not_le.mp cc)] at e9 | rw [if_neg (Int.not_lt.mpr cc)] at e9
              refine rLess hG ?_ e9
              exact ⟨rfl, rfl, rfl, rfl, rfl, congrArg mi (by omega), True.intro⟩
            · try dsimp only at cc
              refine And.intro ⟨rfl, by exact Nat.le_of_ble_eq_true rfl, by exact True.intro⟩ (?_)
              have e9 := ih (i + 1) (by omega) (by omega)
              rw [foldB_s] at e9
              first | rw [if_pos (Int.not_le.mp cc)] at e9 | rw [if_neg (Int.not_lt.mpr cc)] at e9
              refine rLess hG ?_ e9
              exact ⟨rfl, rfl, rfl, rfl, rfl, congrArg mi (by omega), True.intro⟩
      exact rLess hG (L' := [some (mr 17), some (mr 7), some (mi day), some (mi e), some (mi (foldB (fun q => pgain tk t lt day q (e + q)) (-1000000) 0).1), some (mi (((0 : Nat) : Int) - 2)), none]) ⟨rfl, rfl, rfl, rfl, rfl, rfl, True.intro⟩ (J14 _ 0 (by omega) (Nat.lt_succ_self _))
  · skip
    cases k
    · obtain rfl : t = ua := ht
      refine SpI.of (cd := kdX2_best) (fT := mlook flX2) (kT := mlook klX2) (kJ := mlook jlX2) mfA_X2_best ok_X2_best fT_X2 kT_X2 jT_X2 jdk_ok True.intro (Nat.le_of_ble_eq_true rfl) (fun G hG => ?_)
      refine rRun hG 14 ?_
      refine And.intro ⟨rfl, by exact Nat.le_of_ble_eq_true rfl, by exact True.intro⟩ (?_)
      have J14 : ∀ (n : Nat) (i : Nat), i ≤ 6 → 6 - i < n → G 14 [some (mr 17), some (mr 3), some (mi day), some (mi e), some (mi (foldB (fun q => pgain tk t lt day q (e + q)) (-1000000) i).1), some (mi ((i : Int) - 2)), none] [] (hC uo ux t ub (mo, kn, kp) v1 v2 (true, hr, lt, tk, ms, (foldB (fun q => pgain tk t lt day q (e + q)) (-1000000) i).2) uq ur) := by
        intro n
        induction n with
        | zero => intro i _ hm; exact absurd hm (Nat.not_lt_zero _)
        | succ n ih =>
          intro i hinv hm
          have hb1 := foldB_in (g := fun q => pgain tk t lt day q (e + q)) (b0 := -1000000) (M := 200000) (by omega) (fun q => (pgain_in hT hl).2) i
          refine rRun hG 99999 ?_
          refine And.intro (by first | omega | (dsimp only; omega)) (And.intro (fun c1 => ?_) (fun c1 => ?_))
          · try dsimp only at c1
            refine rRun hG 99999 ?_
            refine rIR hG rfl rfl (True.intro) ?_
            obtain rfl : i = 6 := by omega
            exact ⟨rfl, rfl⟩
          · try dsimp only at c1
            refine rV hG (sp_X2_gain (uo := uo) (ux := ux) (ua := t) (ub := ub) (mo := mo) (kn := kn) (kp := kp) (v1 := v1) (v2 := v2) (uq := uq) (ur := ur) (kP := true) (hr := hr) (lt := lt) (tk := tk) (ms := ms) (pa := (foldB (fun q => pgain tk t lt day q (e + q)) (-1000000) i).2) (k := false) (t := t) (ht := rfl) (day := day) (pp := (i : Int) - 2) (e := e + ((i : Int) - 2)) hT h1 (by omega) (by omega) h4 (hl _)) rfl rfl lk_X2_75 mf_X2_gain (by decide) (Nat.le_of_ble_eq_true rfl) ⟨_, _, _, rfl, rfl, rfl⟩ ?_
            rintro _ _ ⟨rfl, rfl⟩
            have hb2 := pgain_in (day := day) (p := (i : Int) - 2) (e := e + ((i : Int) - 2)) (tk := tk) hT hl
            refine rRun hG 99999 ?_
            refine And.intro (by first | omega | (dsimp only; omega)) (And.intro (fun cc => ?_) (fun cc => ?_))
            · try dsimp only at cc
              refine rRun hG 99999 ?_
              have e9 := ih (i + 1) (by omega) (by omega)
              rw [foldB_s] at e9
              first | rw [if_pos (Int.not_le.mp cc)] at e9 | rw [if_neg (Int.not_lt.mpr cc)] at e9
              refine rLess hG ?_ e9
              exact ⟨rfl, rfl, rfl, rfl, rfl, congrArg mi (by omega), True.intro⟩
            · try dsimp only at cc
              refine And.intro ⟨rfl, by exact Nat.le_of_ble_eq_true rfl, by exact True.intro⟩ (?_)
              have e9 := ih (i + 1) (by omega) (by omega)
              rw [foldB_s] at e9
              first | rw [if_pos (Int.not_le.mp cc)] at e9 | rw [if_neg (Int.not_lt.mpr cc)] at e9
              refine rLess hG ?_ e9
              exact ⟨rfl, rfl, rfl, rfl, rfl, congrArg mi (by omega), True.intro⟩
      exact rLess hG (L' := [some (mr 17), some (mr 3), some (mi day), some (mi e), some (mi (foldB (fun q => pgain tk t lt day q (e + q)) (-1000000) 0).1), some (mi (((0 : Nat) : Int) - 2)), none]) ⟨rfl, rfl, rfl, rfl, rfl, rfl, True.intro⟩ (J14 _ 0 (by omega) (Nat.lt_succ_self _))
    · obtain rfl : t = ub := ht
      refine SpI.of (cd := kdX2_best) (fT := mlook flX2) (kT := mlook klX2) (kJ := mlook jlX2) mfA_X2_best ok_X2_best fT_X2 kT_X2 jT_X2 jdk_ok True.intro (Nat.le_of_ble_eq_true rfl) (fun G hG => ?_)
      refine rRun hG 14 ?_
      refine And.intro ⟨rfl, by exact Nat.le_of_ble_eq_true rfl, by exact True.intro⟩ (?_)
      have J14 : ∀ (n : Nat) (i : Nat), i ≤ 6 → 6 - i < n → G 14 [some (mr 17), some (mr 7), some (mi day), some (mi e), some (mi (foldB (fun q => pgain tk t lt day q (e + q)) (-1000000) i).1), some (mi ((i : Int) - 2)), none] [] (hC uo ux ua t (mo, kn, kp) v1 v2 (true, hr, lt, tk, ms, (foldB (fun q => pgain tk t lt day q (e + q)) (-1000000) i).2) uq ur) := by
        intro n
        induction n with
        | zero => intro i _ hm; exact absurd hm (Nat.not_lt_zero _)
        | succ n ih =>
          intro i hinv hm
          have hb1 := foldB_in (g := fun q => pgain tk t lt day q (e + q)) (b0 := -1000000) (M := 200000) (by omega) (fun q => (pgain_in hT hl).2) i
          refine rRun hG 99999 ?_
          refine And.intro (by first | omega | (dsimp only; omega)) (And.intro (fun c1 => ?_) (fun c1 => ?_))
          · try dsimp only at c1
            refine rRun hG 99999 ?_
            refine rIR hG rfl rfl (True.intro) ?_
            obtain rfl : i = 6 := by omega
            exact ⟨rfl, rfl⟩
          · try dsimp only at c1
            refine rV hG (sp_X2_gain (uo := uo) (ux := ux) (ua := ua) (ub := t) (mo := mo) (kn := kn) (kp := kp) (v1 := v1) (v2 := v2) (uq := uq) (ur := ur) (kP := true) (hr := hr) (lt := lt) (tk := tk) (ms := ms) (pa := (foldB (fun q => pgain tk t lt day q (e + q)) (-1000000) i).2) (k := true) (t := t) (ht := rfl) (day := day) (pp := (i : Int) - 2) (e := e + ((i : Int) - 2)) hT h1 (by omega) (by omega) h4 (hl _)) rfl rfl lk_X2_75 mf_X2_gain (by decide) (Nat.le_of_ble_eq_true rfl) ⟨_, _, _, rfl, rfl, rfl⟩ ?_
            rintro _ _ ⟨rfl, rfl⟩
            have hb2 := pgain_in (day := day) (p := (i : Int) - 2) (e := e + ((i : Int) - 2)) (tk := tk) hT hl
            refine rRun hG 99999 ?_
            refine And.intro (by first | omega | (dsimp only; omega)) (And.intro (fun cc => ?_) (fun cc => ?_))
            · try dsimp only at cc
              refine rRun hG 99999 ?_
              have e9 := ih (i + 1) (by omega) (by omega)
              rw [foldB_s] at e9
              first | rw [if_pos (Int.not_le.mp cc)] at e9 | rw [if_neg (Int.not_lt.mpr cc)] at e9
              refine rLess hG ?_ e9
              exact ⟨rfl, rfl, rfl, rfl, rfl, congrArg mi (by omega), True.intro⟩
            · try dsimp only at cc
              refine And.intro ⟨rfl, by exact Nat.le_of_ble_eq_true rfl, by exact True.intro⟩ (?_)
              have e9 := ih (i + 1) (by omega) (by omega)
              rw [foldB_s] at e9
              first | rw [if_pos (Int.not_le.mp cc)] at e9 | rw [if_neg (Int.not_lt.mpr cc)] at e9
              refine rLess hG ?_ e9
              exact ⟨rfl, rfl, rfl, rfl, rfl, congrArg mi (by omega), True.intro⟩
      exact rLess hG (L' := [some (mr 17), some (mr 7), some (mi day), some (mi e), some (mi (foldB (fun q => pgain tk t lt day q (e + q)) (-1000000) 0).1), some (mi (((0 : Nat) : Int) - 2)), none]) ⟨rfl, rfl, rfl, rfl, rfl, rfl, True.intro⟩ (J14 _ 0 (by omega) (Nat.lt_succ_self _))
end WALKS
end
section
/-! Story: a turned day -/
section WALKS
variable {l : Launch}
set_option maxRecDepth 20000 in
set_option maxHeartbeats 8000000 in
theorem sp_X3_turn {uo : UD} {ux : XD} {ua ub : TD} {mo : FN} {kn kp : Int} {v1 v2 : SD} {up uq : PD} {ur : HD} {k : Bool} {t : TD} (ht : t = tsel k ua ub) {pace z : Int} (hT : TOK t) (hMo : MOK mo) (h0 : 0 ≤ kn ∧ kn ≤ 10) (h1 : -2 ≤ pace ∧ pace ≤ 3) (h2 : 0 ≤ z ∧ z ≤ 9999) (h3 : mo 0 < tDay t) (h4 : -9 ≤ mo 2 + pace ∧ mo 2 + pace ≤ 9) : SpI l 5 yX3_turn cX3_turn 6 (some .int) [mr 11, mr (tix k), mi pace, mi z] (hC uo ux ua ub (mo, kn, kp) v1 v2 up uq ur) (fun w h => w = trnR t pace z mo ∧ h = hC uo ux ua ub (mup (trnC t pace z mo) 0 (mo 0 + 1), min 10 (kn + 1), kp) v1 v2 up uq ur) := by
  have hT1 := hT.1
  have hT2 := hT.2.1
  have hT3 := hT.2.2.1
  have hT5 := hT.2.2.2.2.1
  have hT6 := hT.2.2.2.2.2.1
  have hm0 := hMo.1
  have hm1 := hMo.2.1
  have hm2 := hMo.2.2.1
  have hm3 := hMo.2.2.2.1
  have hcd := cndl_in hT (day := mo 0) (p := pace) (tNB t).toNat (by omega)
  cases k
  · obtain rfl : t = ua := ht
    refine SpI.of (cd := kdX3_turn) (fT := mlook flX3) (kT := mlook klX3) (kJ := mlook jlX3) mfA_X3_turn ok_X3_turn fT_X3 kT_X3 jT_X3 jdk_ok True.intro (Nat.le_of_ble_eq_true rfl) (fun G hG => ?_)
    refine rRun hG 65 ?_
    refine rVV hG (sp_X3_remember (uo := uo) (ux := ux) (ua := t) (ub := ub) (v1 := v1) (v2 := v2) (up := up) (uq := uq) (ur := ur) (mo := mo) (kn := kn) (kp := kp) h0) rfl rfl lk_X3_53 mf_X3_remember (by decide) (Nat.le_of_ble_eq_true rfl) ⟨_, _, _, rfl, rfl, rfl⟩ ?_
    rintro _ rfl
    refine rRun hG 65 ?_
    refine rV hG (sp_X3_day (uo := uo) (ux := ux) (ua := t) (ub := ub) (v1 := v1) (v2 := v2) (up := up) (uq := uq) (ur := ur) (mo := mcpy mo mo 0 9 90) (kn := min 10 (kn + 1)) (kp := kp)) rfl rfl lk_X3_33 mf_X3_day (by decide) (Nat.le_of_ble_eq_true rfl) ⟨_, _, _, rfl, rfl, rfl⟩ ?_
    rintro w _ ⟨hw, rfl⟩
    obtain rfl : w = mo 0 := hw
    refine rRun hG 65 ?_
    refine And.intro rfl (And.intro (by decide) (And.intro (by decide) (And.intro rfl (?_))))
    refine rV hG (sp_X3_rest (uo := uo) (ux := ux) (ua := t) (ub := ub) (v1 := v1) (v2 := v2) (up := up) (uq := uq) (ur := ur) (mo := (mup (mcpy mo mo 0 9 90) 2 (mo 2 + pace))) (kn := min 10 (kn + 1)) (kp := kp)) rfl rfl lk_X3_42 mf_X3_rest (by decide) (Nat.le_of_ble_eq_true rfl) ⟨_, _, _, rfl, rfl, rfl⟩ ?_
    rintro w _ ⟨hw, rfl⟩
    obtain rfl : w = mo 1 := hw
    refine rRun hG 65 ?_
    refine rMax hG rfl rfl lk_X3_56 (by decide) (Nat.le_of_ble_eq_true rfl) (by omega) ?_
    refine rRun hG 65 ?_
    refine And.intro (by decide) (And.intro rfl (?_))
    refine rV hG (sp_X3_candles (uo := uo) (ux := ux) (ua := t) (ub := ub) (v1 := v1) (v2 := v2) (up := up) (uq := uq) (ur := ur) (mo := (mup (mup (mcpy mo mo 0 9 90) 2 (mo 2 + pace)) 1 (max 0 (mo 1 - 4 - pace)))) (kn := min 10 (kn + 1)) (kp := kp)) rfl rfl lk_X3_62 mf_X3_candles (by decide) (Nat.le_of_ble_eq_true rfl) ⟨_, _, _, rfl, rfl, rfl⟩ ?_
    rintro w _ ⟨hw, rfl⟩
    obtain rfl : w = mo 3 := hw
    refine rRun hG 65 ?_
    refine rV hG (sp_X5_candlesFor (uo := uo) (ux := ux) (ua := t) (ub := ub) (v1 := v1) (v2 := v2) (up := up) (uq := uq) (ur := ur) (v0 := ((mup (mup (mcpy mo mo 0 9 90) 2 (mo 2 + pace)) 1 (max 0 (mo 1 - 4 - pace))), min 10 (kn + 1), kp)) (k := false) (t := t) (ht := rfl) (day := mo 0) (pace := pace) hT (by omega) (by omega)) rfl rfl lk_X3_65 mf_X5_candlesFor (by decide) (Nat.le_of_ble_eq_true rfl) ⟨_, _, _, rfl, rfl, rfl⟩ ?_
    rintro _ _ ⟨rfl, rfl⟩
    refine rRun hG 65 ?_
    refine rMin hG rfl rfl lk_X3_68 (by decide) (Nat.le_of_ble_eq_true rfl) (by omega) ?_
    refine rRun hG 65 ?_
    refine And.intro (by decide) (?_)
    have J65 : ∀ (n : Nat) (i : Nat), (i : Int) ≤ tNT t → (tNT t).toNat - i < n → G 65 [some (mr 11), some (mr 3), some (mi pace), some (mi z), some (mi (mo 0)), some (mi i)] [] (hC uo ux t ub ((hrmM (tTra t) (mo 2 + pace) (mup (mup (mup (mcpy mo mo 0 9 90) 2 (mo 2 + pace)) 1 (max 0 (mo 1 - 4 - pace))) 3 (min 999 (mo 3 + cndl (tBri t) (mo 0) pace (tNB t).toNat))) i), min 10 (kn + 1), kp) v1 v2 up uq ur) := by
      intro n
      induction n with
      | zero => intro i _ hm; exact absurd hm (Nat.not_lt_zero _)
      | succ n ih =>
        intro i hinv hm
        have hI : i < 4 → (hrmM (tTra t) (mo 2 + pace) (mup (mup (mup (mcpy mo mo 0 9 90) 2 (mo 2 + pace)) 1 (max 0 (mo 1 - 4 - pace))) 3 (min 999 (mo 3 + cndl (tBri t) (mo 0) pace (tNB t).toNat))) i) (5 + i) = mo (5 + i) := fun _ => by rw [hrmM_lo (by omega), mup_n (by omega), mup_n (by omega), mup_n (by omega)]; exact if_neg (by omega)
        have hE : (hrmM (tTra t) (mo 2 + pace) (mup (mup (mup (mcpy mo mo 0 9 90) 2 (mo 2 + pace)) 1 (max 0 (mo 1 - 4 - pace))) 3 (min 999 (mo 3 + cndl (tBri t) (mo 0) pace (tNB t).toNat))) i) 2 = mo 2 + pace := by rw [hrmM_lo (by omega), mup_n (by omega), mup_n (by omega), mup_s]
        have hD : (hrmM (tTra t) (mo 2 + pace) (mup (mup (mup (mcpy mo mo 0 9 90) 2 (mo 2 + pace)) 1 (max 0 (mo 1 - 4 - pace))) 3 (min 999 (mo 3 + cndl (tBri t) (mo 0) pace (tNB t).toNat))) i) 0 = mo 0 := by rw [hrmM_lo (by omega), mup_n (by omega), mup_n (by omega), mup_n (by omega)]; rfl
        refine rRun hG 99999 ?_
        refine And.intro rfl (And.intro (by first | omega | (dsimp only; omega)) (And.intro (fun cl => ?_) (fun cl => ?_)))
        · try dsimp only at cl
          refine rRun hG 99999 ?_
          obtain rfl : i = (tNT t).toNat := by omega
          refine rS hG (sp_X3_draw (uo := uo) (ux := ux) (ua := t) (ub := ub) (v1 := v1) (v2 := v2) (up := up) (uq := uq) (ur := ur) (mo := (trnM (tBri t) (tTra t) (tNB t).toNat (tNT t).toNat pace mo)) (kn := min 10 (kn + 1)) (kp := kp) (day := mo 0) (z := z) (by omega) (by omega)) rfl rfl lk_X3_84 mf_X3_draw (by decide) (Nat.le_of_ble_eq_true rfl) ?_
          rintro w _ ⟨hw, rfl⟩
          obtain rfl : w = drw (mo 0) z := hw
          have hw9 := drw_in (day := mo 0) (z := z) (by omega) (by omega)
          refine rRun hG 99999 ?_
          refine rV hG (sp_X5_sunOf (uo := uo) (ux := ux) (ua := t) (ub := ub) (v1 := v1) (v2 := v2) (up := up) (uq := uq) (ur := ur) (v0 := ((trnM (tBri t) (tTra t) (tNB t).toNat (tNT t).toNat pace mo), min 10 (kn + 1), kp)) (k := false) (t := t) (ht := rfl) (i := mo 0) (by omega) (by omega)) rfl rfl lk_X3_87 mf_X5_sunOf (by decide) (Nat.le_of_ble_eq_true rfl) ⟨_, _, _, rfl, rfl, rfl⟩ ?_
          rintro w _ ⟨hw, rfl⟩
          rw [if_pos (by omega)] at hw
          subst hw
          have hs9 := hT.2.2.2.2.2.2.1 (mo 0).toNat (by omega)
          refine rRun hG 99999 ?_
          refine And.intro (by first | omega | (dsimp only; omega)) (And.intro (fun cd => ?_) (fun cd => ?_))
          · try dsimp only at cd
            refine rRun hG 99999 ?_
            refine And.intro rfl (And.intro (by decide) (?_))
            refine rIR hG rfl rfl (True.intro) ?_
            refine ⟨?_, ?_⟩
            · unfold trnR; first | (rw [if_pos (by omega)]; done) | (rw [if_neg (by omega)]; done)
            · unfold trnC; first | (rw [if_pos (by omega)]; done) | (rw [if_pos (by omega)]; rfl) | (rw [if_neg (by omega)]; rfl)
          · try dsimp only at cd
            refine rV hG (sp_X3_check (uo := uo) (ux := ux) (ua := t) (ub := ub) (v1 := v1) (v2 := v2) (up := up) (uq := uq) (ur := ur) (mo := (trnM (tBri t) (tTra t) (tNB t).toNat (tNT t).toNat pace mo)) (kn := min 10 (kn + 1)) (kp := kp) (k := false) (t := t) (ht := rfl) (by rw [show (trnM (tBri t) (tTra t) (tNB t).toNat (tNT t).toNat pace mo) 2 = mo 2 + pace from hE]; omega) (by omega) (by rw [show (trnM (tBri t) (tTra t) (tNB t).toNat (tNT t).toNat pace mo) 1 = max 0 (mo 1 - 4 - pace) by (unfold trnM; rw [hrmM_lo (by omega), mup_n (by omega), mup_s])]; omega) (by omega)) rfl rfl lk_X3_90 mf_X3_check (by decide) (Nat.le_of_ble_eq_true rfl) ⟨_, _, _, rfl, rfl, rfl⟩ ?_
            rintro _ _ ⟨rfl, rfl⟩
            refine rRun hG 99999 ?_
            refine rRun hG 99999 ?_
            refine And.intro rfl (And.intro (by decide) (?_))
            refine rIR hG rfl rfl (True.intro) ?_
            refine ⟨?_, ?_⟩
            · unfold trnR; first | (rw [if_pos (by omega)]; done) | (rw [if_neg (by omega)]; done)
            · unfold trnC; first | (rw [if_pos (by omega)]; done) | (rw [if_pos (by omega)]; rfl) | (rw [if_neg (by omega)]; rfl)
        · try dsimp only at cl
          refine rV hG (sp_X3_harmOf (uo := uo) (ux := ux) (ua := t) (ub := ub) (v1 := v1) (v2 := v2) (up := up) (uq := uq) (ur := ur) (mo := (hrmM (tTra t) (mo 2 + pace) (mup (mup (mup (mcpy mo mo 0 9 90) 2 (mo 2 + pace)) 1 (max 0 (mo 1 - 4 - pace))) 3 (min 999 (mo 3 + cndl (tBri t) (mo 0) pace (tNB t).toNat))) i)) (kn := min 10 (kn + 1)) (kp := kp) (i := (i : Int)) (by omega)) rfl rfl lk_X3_29 mf_X3_harmOf (by decide) (Nat.le_of_ble_eq_true rfl) ⟨_, _, _, rfl, rfl, rfl⟩ ?_
          rintro w _ ⟨hw, rfl⟩
          rw [if_pos (by omega), show (5 + (i : Int)).toNat = 5 + i by omega] at hw
          subst hw
          have hH := hMo.2.2.2.2 i (by omega)
          have hJ := hI (by omega)
          have hR := hrm1_in hT (e := mo 2 + pace) (by omega) (i := i) (by omega)
          refine rRun hG 99999 ?_
          refine rV hG (sp_X3_error (uo := uo) (ux := ux) (ua := t) (ub := ub) (v1 := v1) (v2 := v2) (up := up) (uq := uq) (ur := ur) (mo := (hrmM (tTra t) (mo 2 + pace) (mup (mup (mup (mcpy mo mo 0 9 90) 2 (mo 2 + pace)) 1 (max 0 (mo 1 - 4 - pace))) 3 (min 999 (mo 3 + cndl (tBri t) (mo 0) pace (tNB t).toNat))) i)) (kn := min 10 (kn + 1)) (kp := kp)) rfl rfl lk_X3_74 mf_X3_error (by decide) (Nat.le_of_ble_eq_true rfl) ⟨_, _, _, rfl, rfl, rfl⟩ ?_
          rintro w _ ⟨hw, rfl⟩
          rw [hE] at hw
          subst hw
          refine rV hG (sp_X5_harmTo (uo := uo) (ux := ux) (ua := t) (ub := ub) (v1 := v1) (v2 := v2) (up := up) (uq := uq) (ur := ur) (v0 := ((hrmM (tTra t) (mo 2 + pace) (mup (mup (mup (mcpy mo mo 0 9 90) 2 (mo 2 + pace)) 1 (max 0 (mo 1 - 4 - pace))) 3 (min 999 (mo 3 + cndl (tBri t) (mo 0) pace (tNB t).toNat))) i), min 10 (kn + 1), kp)) (k := false) (t := t) (ht := rfl) (i := i) (er := mo 2 + pace) hT (by omega) (by omega)) rfl rfl lk_X3_77 mf_X5_harmTo (by decide) (Nat.le_of_ble_eq_true rfl) ⟨_, _, _, rfl, rfl, rfl⟩ ?_
          rintro _ _ ⟨rfl, rfl⟩
          refine rRun hG 99999 ?_
          refine rMin hG rfl rfl lk_X3_68 (by decide) (Nat.le_of_ble_eq_true rfl) (by omega) ?_
          refine rVV hG (sp_X3_setHarm (uo := uo) (ux := ux) (ua := t) (ub := ub) (v1 := v1) (v2 := v2) (up := up) (uq := uq) (ur := ur) (mo := (hrmM (tTra t) (mo 2 + pace) (mup (mup (mup (mcpy mo mo 0 9 90) 2 (mo 2 + pace)) 1 (max 0 (mo 1 - 4 - pace))) 3 (min 999 (mo 3 + cndl (tBri t) (mo 0) pace (tNB t).toNat))) i)) (kn := min 10 (kn + 1)) (kp := kp) (i := (i : Int)) (w := min 9999 ((hrmM (tTra t) (mo 2 + pace) (mup (mup (mup (mcpy mo mo 0 9 90) 2 (mo 2 + pace)) 1 (max 0 (mo 1 - 4 - pace))) 3 (min 999 (mo 3 + cndl (tBri t) (mo 0) pace (tNB t).toNat))) i) (5 + i) + hrm1 (tTra t) (mo 2 + pace) i)) (by omega)) rfl rfl lk_X3_80 mf_X3_setHarm (by decide) (Nat.le_of_ble_eq_true rfl) ⟨_, _, _, rfl, rfl, rfl⟩ ?_
          rintro _ rfl
          rw [if_pos (by omega), show (5 + (i : Int)).toNat = 5 + i by omega]
          refine rRun hG 99999 ?_
          exact ih (i + 1) (by omega) (by omega)
    exact J65 _ 0 (by omega) (Nat.lt_succ_self _)
  · obtain rfl : t = ub := ht
    refine SpI.of (cd := kdX3_turn) (fT := mlook flX3) (kT := mlook klX3) (kJ := mlook jlX3) mfA_X3_turn ok_X3_turn fT_X3 kT_X3 jT_X3 jdk_ok True.intro (Nat.le_of_ble_eq_true rfl) (fun G hG => ?_)
    refine rRun hG 65 ?_
    refine rVV hG (sp_X3_remember (uo := uo) (ux := ux) (ua := ua) (ub := t) (v1 := v1) (v2 := v2) (up := up) (uq := uq) (ur := ur) (mo := mo) (kn := kn) (kp := kp) h0) rfl rfl lk_X3_53 mf_X3_remember (by decide) (Nat.le_of_ble_eq_true rfl) ⟨_, _, _, rfl, rfl, rfl⟩ ?_
    rintro _ rfl
    refine rRun hG 65 ?_
    refine rV hG (sp_X3_day (uo := uo) (ux := ux) (ua := ua) (ub := t) (v1 := v1) (v2 := v2) (up := up) (uq := uq) (ur := ur) (mo := mcpy mo mo 0 9 90) (kn := min 10 (kn + 1)) (kp := kp)) rfl rfl lk_X3_33 mf_X3_day (by decide) (Nat.le_of_ble_eq_true rfl) ⟨_, _, _, rfl, rfl, rfl⟩ ?_
    rintro w _ ⟨hw, rfl⟩
    obtain rfl : w = mo 0 := hw
    refine rRun hG 65 ?_
    refine And.intro rfl (And.intro (by decide) (And.intro (by decide) (And.intro rfl (?_))))
    refine rV hG (sp_X3_rest (uo := uo) (ux := ux) (ua := ua) (ub := t) (v1 := v1) (v2 := v2) (up := up) (uq := uq) (ur := ur) (mo := (mup (mcpy mo mo 0 9 90) 2 (mo 2 + pace))) (kn := min 10 (kn + 1)) (kp := kp)) rfl rfl lk_X3_42 mf_X3_rest (by decide) (Nat.le_of_ble_eq_true rfl) ⟨_, _, _, rfl, rfl, rfl⟩ ?_
    rintro w _ ⟨hw, rfl⟩
    obtain rfl : w = mo 1 := hw
    refine rRun hG 65 ?_
    refine rMax hG rfl rfl lk_X3_56 (by decide) (Nat.le_of_ble_eq_true rfl) (by omega) ?_
    refine rRun hG 65 ?_
    refine And.intro (by decide) (And.intro rfl (?_))
    refine rV hG (sp_X3_candles (uo := uo) (ux := ux) (ua := ua) (ub := t) (v1 := v1) (v2 := v2) (up := up) (uq := uq) (ur := ur) (mo := (mup (mup (mcpy mo mo 0 9 90) 2 (mo 2 + pace)) 1 (max 0 (mo 1 - 4 - pace)))) (kn := min 10 (kn + 1)) (kp := kp)) rfl rfl lk_X3_62 mf_X3_candles (by decide) (Nat.le_of_ble_eq_true rfl) ⟨_, _, _, rfl, rfl, rfl⟩ ?_
    rintro w _ ⟨hw, rfl⟩
    obtain rfl : w = mo 3 := hw
    refine rRun hG 65 ?_
    refine rV hG (sp_X5_candlesFor (uo := uo) (ux := ux) (ua := ua) (ub := t) (v1 := v1) (v2 := v2) (up := up) (uq := uq) (ur := ur) (v0 := ((mup (mup (mcpy mo mo 0 9 90) 2 (mo 2 + pace)) 1 (max 0 (mo 1 - 4 - pace))), min 10 (kn + 1), kp)) (k := true) (t := t) (ht := rfl) (day := mo 0) (pace := pace) hT (by omega) (by omega)) rfl rfl lk_X3_65 mf_X5_candlesFor (by decide) (Nat.le_of_ble_eq_true rfl) ⟨_, _, _, rfl, rfl, rfl⟩ ?_
    rintro _ _ ⟨rfl, rfl⟩
    refine rRun hG 65 ?_
    refine rMin hG rfl rfl lk_X3_68 (by decide) (Nat.le_of_ble_eq_true rfl) (by omega) ?_
    refine rRun hG 65 ?_
    refine And.intro (by decide) (?_)
    have J65 : ∀ (n : Nat) (i : Nat), (i : Int) ≤ tNT t → (tNT t).toNat - i < n → G 65 [some (mr 11), some (mr 7), some (mi pace), some (mi z), some (mi (mo 0)), some (mi i)] [] (hC uo ux ua t ((hrmM (tTra t) (mo 2 + pace) (mup (mup (mup (mcpy mo mo 0 9 90) 2 (mo 2 + pace)) 1 (max 0 (mo 1 - 4 - pace))) 3 (min 999 (mo 3 + cndl (tBri t) (mo 0) pace (tNB t).toNat))) i), min 10 (kn + 1), kp) v1 v2 up uq ur) := by
      intro n
      induction n with
      | zero => intro i _ hm; exact absurd hm (Nat.not_lt_zero _)
      | succ n ih =>
        intro i hinv hm
        have hI : i < 4 → (hrmM (tTra t) (mo 2 + pace) (mup (mup (mup (mcpy mo mo 0 9 90) 2 (mo 2 + pace)) 1 (max 0 (mo 1 - 4 - pace))) 3 (min 999 (mo 3 + cndl (tBri t) (mo 0) pace (tNB t).toNat))) i) (5 + i) = mo (5 + i) := fun _ => by rw [hrmM_lo (by omega), mup_n (by omega), mup_n (by omega), mup_n (by omega)]; exact if_neg (by omega)
        have hE : (hrmM (tTra t) (mo 2 + pace) (mup (mup (mup (mcpy mo mo 0 9 90) 2 (mo 2 + pace)) 1 (max 0 (mo 1 - 4 - pace))) 3 (min 999 (mo 3 + cndl (tBri t) (mo 0) pace (tNB t).toNat))) i) 2 = mo 2 + pace := by rw [hrmM_lo (by omega), mup_n (by omega), mup_n (by omega), mup_s]
        have hD : (hrmM (tTra t) (mo 2 + pace) (mup (mup (mup (mcpy mo mo 0 9 90) 2 (mo 2 + pace)) 1 (max 0 (mo 1 - 4 - pace))) 3 (min 999 (mo 3 + cndl (tBri t) (mo 0) pace (tNB t).toNat))) i) 0 = mo 0 := by rw [hrmM_lo (by omega), mup_n (by omega), mup_n (by omega), mup_n (by omega)]; rfl
        refine rRun hG 99999 ?_
        refine And.intro rfl (And.intro (by first | omega | (dsimp only; omega)) (And.intro (fun cl => ?_) (fun cl => ?_)))
        · try dsimp only at cl
          refine rRun hG 99999 ?_
          obtain rfl : i = (tNT t).toNat := by omega
          refine rS hG (sp_X3_draw (uo := uo) (ux := ux) (ua := ua) (ub := t) (v1 := v1) (v2 := v2) (up := up) (uq := uq) (ur := ur) (mo := (trnM (tBri t) (tTra t) (tNB t).toNat (tNT t).toNat pace mo)) (kn := min 10 (kn + 1)) (kp := kp) (day := mo 0) (z := z) (by omega) (by omega)) rfl rfl lk_X3_84 mf_X3_draw (by decide) (Nat.le_of_ble_eq_true rfl) ?_
          rintro w _ ⟨hw, rfl⟩
          obtain rfl : w = drw (mo 0) z := hw
          have hw9 := drw_in (day := mo 0) (z := z) (by omega) (by omega)
          refine rRun hG 99999 ?_
          refine rV hG (sp_X5_sunOf (uo := uo) (ux := ux) (ua := ua) (ub := t) (v1 := v1) (v2 := v2) (up := up) (uq := uq) (ur := ur) (v0 := ((trnM (tBri t) (tTra t) (tNB t).toNat (tNT t).toNat pace mo), min 10 (kn + 1), kp)) (k := true) (t := t) (ht := rfl) (i := mo 0) (by omega) (by omega)) rfl rfl lk_X3_87 mf_X5_sunOf (by decide) (Nat.le_of_ble_eq_true rfl) ⟨_, _, _, rfl, rfl, rfl⟩ ?_
          rintro w _ ⟨hw, rfl⟩
          rw [if_pos (by omega)] at hw
          subst hw
          have hs9 := hT.2.2.2.2.2.2.1 (mo 0).toNat (by omega)
          refine rRun hG 99999 ?_
          refine And.intro (by first | omega | (dsimp only; omega)) (And.intro (fun cd => ?_) (fun cd => ?_))
          · try dsimp only at cd
            refine rRun hG 99999 ?_
            refine And.intro rfl (And.intro (by decide) (?_))
            refine rIR hG rfl rfl (True.intro) ?_
            refine ⟨?_, ?_⟩
            · unfold trnR; first | (rw [if_pos (by omega)]; done) | (rw [if_neg (by omega)]; done)
            · unfold trnC; first | (rw [if_pos (by omega)]; done) | (rw [if_pos (by omega)]; rfl) | (rw [if_neg (by omega)]; rfl)
          · try dsimp only at cd
            refine rV hG (sp_X3_check (uo := uo) (ux := ux) (ua := ua) (ub := t) (v1 := v1) (v2 := v2) (up := up) (uq := uq) (ur := ur) (mo := (trnM (tBri t) (tTra t) (tNB t).toNat (tNT t).toNat pace mo)) (kn := min 10 (kn + 1)) (kp := kp) (k := true) (t := t) (ht := rfl) (by rw [show (trnM (tBri t) (tTra t) (tNB t).toNat (tNT t).toNat pace mo) 2 = mo 2 + pace from hE]; omega) (by omega) (by rw [show (trnM (tBri t) (tTra t) (tNB t).toNat (tNT t).toNat pace mo) 1 = max 0 (mo 1 - 4 - pace) by (unfold trnM; rw [hrmM_lo (by omega), mup_n (by omega), mup_s])]; omega) (by omega)) rfl rfl lk_X3_90 mf_X3_check (by decide) (Nat.le_of_ble_eq_true rfl) ⟨_, _, _, rfl, rfl, rfl⟩ ?_
            rintro _ _ ⟨rfl, rfl⟩
            refine rRun hG 99999 ?_
            refine rRun hG 99999 ?_
            refine And.intro rfl (And.intro (by decide) (?_))
            refine rIR hG rfl rfl (True.intro) ?_
            refine ⟨?_, ?_⟩
            · unfold trnR; first | (rw [if_pos (by omega)]; done) | (rw [if_neg (by omega)]; done)
            · unfold trnC; first | (rw [if_pos (by omega)]; done) | (rw [if_pos (by omega)]; rfl) | (rw [if_neg (by omega)]; rfl)
        · try dsimp only at cl
          refine rV hG (sp_X3_harmOf (uo := uo) (ux := ux) (ua := ua) (ub := t) (v1 := v1) (v2 := v2) (up := up) (uq := uq) (ur := ur) (mo := (hrmM (tTra t) (mo 2 + pace) (mup (mup (mup (mcpy mo mo 0 9 90) 2 (mo 2 + pace)) 1 (max 0 (mo 1 - 4 - pace))) 3 (min 999 (mo 3 + cndl (tBri t) (mo 0) pace (tNB t).toNat))) i)) (kn := min 10 (kn + 1)) (kp := kp) (i := (i : Int)) (by omega)) rfl rfl lk_X3_29 mf_X3_harmOf (by decide) (Nat.le_of_ble_eq_true rfl) ⟨_, _, _, rfl, rfl, rfl⟩ ?_
          rintro w _ ⟨hw, rfl⟩
          rw [if_pos (by omega), show (5 + (i : Int)).toNat = 5 + i by omega] at hw
          subst hw
          have hH := hMo.2.2.2.2 i (by omega)
          have hJ := hI (by omega)
          have hR := hrm1_in hT (e := mo 2 + pace) (by omega) (i := i) (by omega)
          refine rRun hG 99999 ?_
          refine rV hG (sp_X3_error (uo := uo) (ux := ux) (ua := ua) (ub := t) (v1 := v1) (v2 := v2) (up := up) (uq := uq) (ur := ur) (mo := (hrmM (tTra t) (mo 2 + pace) (mup (mup (mup (mcpy mo mo 0 9 90) 2 (mo 2 + pace)) 1 (max 0 (mo 1 - 4 - pace))) 3 (min 999 (mo 3 + cndl (tBri t) (mo 0) pace (tNB t).toNat))) i)) (kn := min 10 (kn + 1)) (kp := kp)) rfl rfl lk_X3_74 mf_X3_error (by decide) (Nat.le_of_ble_eq_true rfl) ⟨_, _, _, rfl, rfl, rfl⟩ ?_
          rintro w _ ⟨hw, rfl⟩
          rw [hE] at hw
          subst hw
          refine rV hG (sp_X5_harmTo (uo := uo) (ux := ux) (ua := ua) (ub := t) (v1 := v1) (v2 := v2) (up := up) (uq := uq) (ur := ur) (v0 := ((hrmM (tTra t) (mo 2 + pace) (mup (mup (mup (mcpy mo mo 0 9 90) 2 (mo 2 + pace)) 1 (max 0 (mo 1 - 4 - pace))) 3 (min 999 (mo 3 + cndl (tBri t) (mo 0) pace (tNB t).toNat))) i), min 10 (kn + 1), kp)) (k := true) (t := t) (ht := rfl) (i := i) (er := mo 2 + pace) hT (by omega) (by omega)) rfl rfl lk_X3_77 mf_X5_harmTo (by decide) (Nat.le_of_ble_eq_true rfl) ⟨_, _, _, rfl, rfl, rfl⟩ ?_
          rintro _ _ ⟨rfl, rfl⟩
          refine rRun hG 99999 ?_
          refine rMin hG rfl rfl lk_X3_68 (by decide) (Nat.le_of_ble_eq_true rfl) (by omega) ?_
          refine rVV hG (sp_X3_setHarm (uo := uo) (ux := ux) (ua := ua) (ub := t) (v1 := v1) (v2 := v2) (up := up) (uq := uq) (ur := ur) (mo := (hrmM (tTra t) (mo 2 + pace) (mup (mup (mup (mcpy mo mo 0 9 90) 2 (mo 2 + pace)) 1 (max 0 (mo 1 - 4 - pace))) 3 (min 999 (mo 3 + cndl (tBri t) (mo 0) pace (tNB t).toNat))) i)) (kn := min 10 (kn + 1)) (kp := kp) (i := (i : Int)) (w := min 9999 ((hrmM (tTra t) (mo 2 + pace) (mup (mup (mup (mcpy mo mo 0 9 90) 2 (mo 2 + pace)) 1 (max 0 (mo 1 - 4 - pace))) 3 (min 999 (mo 3 + cndl (tBri t) (mo 0) pace (tNB t).toNat))) i) (5 + i) + hrm1 (tTra t) (mo 2 + pace) i)) (by omega)) rfl rfl lk_X3_80 mf_X3_setHarm (by decide) (Nat.le_of_ble_eq_true rfl) ⟨_, _, _, rfl, rfl, rfl⟩ ?_
          rintro _ rfl
          rw [if_pos (by omega), show (5 + (i : Int)).toNat = 5 + i by omega]
          refine rRun hG 99999 ?_
          exact ih (i + 1) (by omega) (by omega)
    exact J65 _ 0 (by omega) (Nat.lt_succ_self _)
end WALKS
end
section
/-! Plan.make -/
section WALKS
variable {l : Launch}
def rBh (mo : FN) (kd e : Int) : Int := mo 1 - 4 * kd - (e - mo 2)
/-- gain by the worths V of the errors behind -/
def pgV (tk : Int) (t : TD) (V : Int → Int) (day p e : Int) : Int :=
  if (if tk = 0 then 9 else tLim t) < max e (-e) ∨ 9 < max e (-e) ∨ V e ≤ -1000000 then -1000000
  else (if tk = 0 then -hrmS (tTra t) e (tNT t).toNat else cndl (tBri t) day p (tNB t).toNat) + V e
def puf (tk : Int) : Int := if tk = 0 then -1000000 else 0
/-- the worths behind day n less j of n days -/
def PV (tk : Int) (t : TD) (mo : FN) (n : Int) : Nat → Int → Int
  | 0, e => if rBh mo n e ≤ 0 then 0 else puf tk
  | j + 1, e => if rBh mo (n - ((j : Int) + 1)) e ≤ 0 then 0 else (foldB (fun p => pgV tk t (PV tk t mo n j) (mo 0 + (n - ((j : Int) + 1))) p (e + p)) (-1000000) 6).1
def rowIs (f : FN) (V : Int → Int) : Prop := ∀ i : Nat, i < 19 → f i = V ((i : Int) - 9)
theorem rowIs_plat {f : FN} {V : Int → Int} (h : rowIs f V) {e : Int} (he : -9 ≤ e ∧ e ≤ 9) : plat f e = V e := by
  unfold plat
  rw [if_pos (by omega), h _ (by omega)]
  congr 1; omega
theorem plat_out {f : FN} {e : Int} (he : ¬ (-9 ≤ e ∧ e ≤ 9)) : plat f e = -1000000 := if_neg (by omega)
theorem pgain_V {tk : Int} {t : TD} {f : FN} {V : Int → Int} (h : rowIs f V) {day p e : Int} : pgain tk t f day p e = pgV tk t V day p e := by
  unfold pgain pgV
  by_cases he : -9 ≤ e ∧ e ≤ 9
  · rw [rowIs_plat h he]
    have : ((if tk = 0 then 9 else tLim t) < max e (-e) ∨ V e ≤ -1000000) ↔ ((if tk = 0 then 9 else tLim t) < max e (-e) ∨ 9 < max e (-e) ∨ V e ≤ -1000000) := by omega
    simp only [this]
  · rw [if_pos (Or.inr (by rw [plat_out he]; omega)), if_pos (Or.inr (Or.inl (by omega)))]
theorem foldB_cong {g g' : Int → Int} {b : Int} (h : ∀ p, g p = g' p) : foldB g b = foldB g' b := by
  have : g = g' := funext h
  rw [this]
theorem PV_in {tk : Int} {t : TD} {mo : FN} {n : Int} (hT : TOK t) : ∀ (j : Nat) (e : Int), -1000000 ≤ PV tk t mo n j e ∧ PV tk t mo n j e ≤ 120 * (j : Int)
  | 0, e => by
    show -1000000 ≤ (if _ then _ else _) ∧ (if _ then _ else _) ≤ _
    unfold puf
    split
    · omega
    · split <;> omega
  | j + 1, e => by
    have ih := PV_in (tk := tk) (mo := mo) (n := n) hT j
    have hg : ∀ p, pgV tk t (PV tk t mo n j) (mo 0 + (n - ((j : Int) + 1))) p (e + p) ≤ 120 * ((j : Int) + 1) := fun p => by
      have h1 := ih (e + p)
      have hT2 := hT.2.1
      have hT3 := hT.2.2.1
      have hc := cndl_in hT (day := mo 0 + (n - ((j : Int) + 1))) (p := p) (tNB t).toNat (by omega)
      unfold pgV
      by_cases q : (if tk = 0 then 9 else tLim t) < max (e + p) (-(e + p)) ∨ 9 < max (e + p) (-(e + p)) ∨ PV tk t mo n j (e + p) ≤ -1000000
      · rw [if_pos q]; omega
      · rw [if_neg q]
        have q2 : ¬ 9 < max (e + p) (-(e + p)) := fun z => q (Or.inr (Or.inl z))
        have hs := hrmS_in hT (e := e + p) (by omega) (tNT t).toNat (by omega)
        split <;> omega
    have hf := foldB_in (b0 := -1000000) (by omega) hg 6
    show -1000000 ≤ (if _ then _ else _) ∧ (if _ then _ else _) ≤ _
    split <;> omega
theorem PV_plat {tk : Int} {t : TD} {mo : FN} {n : Int} (hT : TOK t) {f : FN} {j : Nat} (hj : j ≤ 14) (h : rowIs f (PV tk t mo n j)) : ∀ e, -1000000 ≤ plat f e ∧ plat f e ≤ 100000 := fun e => by
  by_cases he : -9 ≤ e ∧ e ≤ 9
  · rw [rowIs_plat h he]
    have := PV_in (tk := tk) (mo := mo) (n := n) hT j e
    omega
  · rw [plat_out he]; omega
set_option maxRecDepth 20000 in
set_option maxHeartbeats 8000000 in
theorem sp_X2_make {uo : UD} {ux : XD} {ua ub : TD} {mo : FN} {kn kp : Int} {v1 v2 : SD} {kP : Bool} {hr lt : FN} {tk ms pa : Int} {uq : PD} {ur : HD} {k : Bool} {t : TD} (ht : t = tsel k ua ub) {dn : Int} (hT : TOK t) (h4 : tk = 0 ∨ tk = 1) (h1 : dn ≤ 14) (h0 : inI dn) (hm0 : 0 ≤ mo 0 ∧ mo 0 ≤ 14) (hm1 : 0 ≤ mo 1 ∧ mo 1 ≤ 99) (hm2 : -9 ≤ mo 2 ∧ mo 2 ≤ 9) : SpV l 6 yX2_make cX2_make 8 none [mr 17, mr (tix k), mr 11, mi dn] (hC uo ux ua ub (mo, kn, kp) v1 v2 (kP, hr, lt, tk, ms, pa) uq ur) (fun h => ((mo 1 = 0 ∨ dn ≤ 0) ∧ h = hC uo ux ua ub (mo, kn, kp) v1 v2 (kP, hr, lt, tk, (if mo 1 = 0 then 0 else puf tk), -9) uq ur) ∨ ((¬ mo 1 = 0 ∧ 0 < dn) ∧ ∃ (k9 : Bool) (h9 l9 : FN), h = hC uo ux ua ub (mo, kn, kp) v1 v2 (k9, h9, l9, tk, (foldB (fun p => pgV tk t (PV tk t mo dn (dn.toNat - 1)) (mo 0) p (mo 2 + p)) (-1000000) 6).1, (foldB (fun p => pgV tk t (PV tk t mo dn (dn.toNat - 1)) (mo 0) p (mo 2 + p)) (-1000000) 6).2) uq ur)) := by
  refine SpV.of (cd := kdX2_make) (fT := mlook flX2) (kT := mlook klX2) (kJ := mlook jlX2) mfA_X2_make ok_X2_make fT_X2 kT_X2 jT_X2 jdk_ok True.intro (Nat.le_of_ble_eq_true rfl) (fun G hG => ?_)
  have J173 : ∀ (k9 : Bool) (h9 l9 : FN) (pa9 : Int), ¬ mo 1 = 0 → 0 < dn → rowIs h9 (PV tk t mo dn (dn.toNat - 1)) → G 173 [some (mr 17), some (mr (tix k)), some (mr 11), some (mi dn), some (mi (puf tk)), none, none, none] [] (hC uo ux ua ub (mo, kn, kp) v1 v2 (k9, h9, l9, tk, (if mo 1 = 0 then 0 else puf tk), pa9) uq ur) := by
    intro k9 h9 l9 pa9 hmz hdz hrow
    have hpl := PV_plat hT (by omega) hrow
    refine rRun hG 99999 ?_
    refine rVV hG (sp_X2_swapRows (uo := uo) (ux := ux) (ua := ua) (ub := ub) (mo := mo) (kn := kn) (kp := kp) (v1 := v1) (v2 := v2) (uq := uq) (ur := ur) (kP := k9) (hr := h9) (lt := l9) (tk := tk) (ms := (if mo 1 = 0 then 0 else puf tk)) (pa := pa9)) rfl rfl lk_X2_58 mf_X2_swapRows (by decide) (Nat.le_of_ble_eq_true rfl) ⟨_, _, _, rfl, rfl, rfl⟩ ?_
    rintro _ rfl
    refine rRun hG 99999 ?_
    refine rV hG (sp_X3_day (uo := uo) (ux := ux) (ua := ua) (ub := ub) (mo := mo) (kn := kn) (kp := kp) (v1 := v1) (v2 := v2) (up := ((!k9), l9, h9, tk, (if mo 1 = 0 then 0 else puf tk), pa9)) (uq := uq) (ur := ur)) rfl rfl lk_X2_61 mf_X3_day (by decide) (Nat.le_of_ble_eq_true rfl) ⟨_, _, _, rfl, rfl, rfl⟩ ?_
    rintro _ _ ⟨rfl, rfl⟩
    refine rRun hG 99999 ?_
    refine rV hG (sp_X3_error (uo := uo) (ux := ux) (ua := ua) (ub := ub) (mo := mo) (kn := kn) (kp := kp) (v1 := v1) (v2 := v2) (up := ((!k9), l9, h9, tk, (if mo 1 = 0 then 0 else puf tk), pa9)) (uq := uq) (ur := ur)) rfl rfl lk_X2_69 mf_X3_error (by decide) (Nat.le_of_ble_eq_true rfl) ⟨_, _, _, rfl, rfl, rfl⟩ ?_
    rintro _ _ ⟨rfl, rfl⟩
    refine rV hG (sp_X2_best (uo := uo) (ux := ux) (ua := ua) (ub := ub) (mo := mo) (kn := kn) (kp := kp) (v1 := v1) (v2 := v2) (uq := uq) (ur := ur) (kP := (!k9)) (hr := l9) (lt := h9) (tk := tk) (ms := (if mo 1 = 0 then 0 else puf tk)) (pa := pa9) (k := k) (t := t) ht (day := mo 0) (e := mo 2) hT (by omega) (by omega) h4 hpl) rfl rfl lk_X2_65 mf_X2_best (by decide) (Nat.le_of_ble_eq_true rfl) ⟨_, _, _, rfl, rfl, rfl⟩ ?_
    rintro _ _ ⟨rfl, rfl⟩
    refine rRun hG 99999 ?_
    refine And.intro ⟨rfl, by exact Nat.le_of_ble_eq_true rfl, by exact True.intro⟩ (?_)
    refine rVR hG rfl rfl rfl ?_
    refine Or.inr ⟨⟨by omega, by omega⟩, !k9, l9, h9, ?_⟩
    have e9 : foldB (fun q => pgain tk t h9 (mo 0) q (mo 2 + q)) (-1000000) = foldB (fun p => pgV tk t (PV tk t mo dn (dn.toNat - 1)) (mo 0) p (mo 2 + p)) (-1000000) := foldB_cong (fun p => pgain_V hrow)
    rw [← e9]
    rfl
  have J107 : ∀ (j : Nat) (k9 : Bool) (l9 : FN), rowIs l9 (PV tk t mo dn j) → j + 2 ≤ dn.toNat → (∀ (h8 : FN) (pa8 : Int), rowIs h8 (PV tk t mo dn (j + 1)) → G 167 [some (mr 17), some (mr (tix k)), some (mr 11), some (mi dn), some (mi (puf tk)), some (mi (dn - 1 - (j : Int))), none, none] [] (hC uo ux ua ub (mo, kn, kp) v1 v2 (k9, h8, l9, tk, (if mo 1 = 0 then 0 else puf tk), pa8) uq ur)) → ∀ (n i : Nat) (h8 : FN) (pa8 : Int), (∀ a : Nat, a < i → h8 a = PV tk t mo dn (j + 1) ((a : Int) - 9)) → i ≤ 19 → 19 - i < n → G 107 [some (mr 17), some (mr (tix k)), some (mr 11), some (mi dn), some (mi (puf tk)), some (mi (dn - 1 - (j : Int))), some (mi ((i : Int) - 9)), none] [] (hC uo ux ua ub (mo, kn, kp) v1 v2 (k9, h8, l9, tk, (if mo 1 = 0 then 0 else puf tk), pa8) uq ur) := by
    intro j k9 l9 hrow hj hcont n
    have hpl := PV_plat hT (by omega) hrow
    induction n with
    | zero => intro i h8 pa8 _ _ hm; exact absurd hm (Nat.not_lt_zero _)
    | succ n ih =>
      intro i h8 pa8 hrow8 hi hm
      refine rRun hG 167 ?_
      refine And.intro (by first | omega | (dsimp only; omega)) (And.intro (fun c1 => ?_) (fun c1 => ?_))
      · try dsimp only at c1
        obtain rfl : i = 19 := by omega
        refine rLess hG ?_ (hcont h8 pa8 (fun a ha => hrow8 a ha))
        exact ⟨rfl, rfl, rfl, rfl, rfl, rfl, True.intro⟩
      · try dsimp only at c1
        refine rS hG (sp_X2_restBehind (uo := uo) (ux := ux) (ua := ua) (ub := ub) (mo := mo) (kn := kn) (kp := kp) (v1 := v1) (v2 := v2) (uq := uq) (ur := ur) (kP := k9) (hr := h8) (lt := l9) (tk := tk) (ms := (if mo 1 = 0 then 0 else puf tk)) (pa := pa8) (kd := (dn - 1 - (j : Int))) (e := ((i : Int) - 9))) rfl rfl lk_X2_50 mf_X2_restBehind (by decide) (Nat.le_of_ble_eq_true rfl) ?_
        rintro w _ ⟨hw, rfl⟩
        have hw9 : w = rBh mo (dn - 1 - (j : Int)) ((i : Int) - 9) := hw
        clear hw
        have hwi : -10000 ≤ w ∧ w ≤ 10000 := by rw [hw9]; unfold rBh; omega
        refine rRun hG 167 ?_
        refine And.intro (by first | omega | (dsimp only; omega)) (And.intro (fun cr => ?_) (fun cr => ?_))
        · try dsimp only at cr
          refine rRun hG 167 ?_
          refine And.intro (by first | omega | (dsimp only; omega)) (And.intro (fun cf => ?_) (fun cf => ?_))
          · try dsimp only at cf
            refine rRun hG 167 ?_
            refine rV hG (sp_X3_day (uo := uo) (ux := ux) (ua := ua) (ub := ub) (mo := mo) (kn := kn) (kp := kp) (v1 := v1) (v2 := v2) (up := (k9, h8, l9, tk, (if mo 1 = 0 then 0 else puf tk), pa8)) (uq := uq) (ur := ur)) rfl rfl lk_X2_61 mf_X3_day (by decide) (Nat.le_of_ble_eq_true rfl) ⟨_, _, _, rfl, rfl, rfl⟩ ?_
            rintro _ _ ⟨rfl, rfl⟩
            refine rRun hG 167 ?_
            refine rV hG (sp_X2_best (uo := uo) (ux := ux) (ua := ua) (ub := ub) (mo := mo) (kn := kn) (kp := kp) (v1 := v1) (v2 := v2) (uq := uq) (ur := ur) (kP := k9) (hr := h8) (lt := l9) (tk := tk) (ms := (if mo 1 = 0 then 0 else puf tk)) (pa := pa8) (k := k) (t := t) ht (day := mo 0 + (dn - 1 - (j : Int))) (e := ((i : Int) - 9)) hT (by omega) (by omega) h4 hpl) rfl rfl lk_X2_65 mf_X2_best (by decide) (Nat.le_of_ble_eq_true rfl) ⟨_, _, _, rfl, rfl, rfl⟩ ?_
            rintro _ _ ⟨rfl, rfl⟩
            refine rVV hG (sp_X2_put (uo := uo) (ux := ux) (ua := ua) (ub := ub) (mo := mo) (kn := kn) (kp := kp) (v1 := v1) (v2 := v2) (uq := uq) (ur := ur) (kP := k9) (hr := h8) (lt := l9) (tk := tk) (ms := (if mo 1 = 0 then 0 else puf tk)) (pa := (foldB (fun q => pgain tk t l9 (mo 0 + (dn - 1 - (j : Int))) q (((i : Int) - 9) + q)) (-1000000) 6).2) (e := ((i : Int) - 9)) (w := (foldB (fun q => pgain tk t l9 (mo 0 + (dn - 1 - (j : Int))) q (((i : Int) - 9) + q)) (-1000000) 6).1) (by omega)) rfl rfl lk_X2_54 mf_X2_put (by decide) (Nat.le_of_ble_eq_true rfl) ⟨_, _, _, rfl, rfl, rfl⟩ ?_
            rintro _ rfl
            rw [if_pos (by omega), show (((i : Int) - 9) + 9).toNat = i by omega]
            refine rRun hG 167 ?_
            refine rLess hG ?_ (ih (i + 1) (mup h8 i (foldB (fun q => pgain tk t l9 (mo 0 + (dn - 1 - (j : Int))) q (((i : Int) - 9) + q)) (-1000000) 6).1) (foldB (fun q => pgain tk t l9 (mo 0 + (dn - 1 - (j : Int))) q (((i : Int) - 9) + q)) (-1000000) 6).2 ?_ (by omega) (by omega))
            · exact ⟨rfl, rfl, rfl, rfl, rfl, rfl, congrArg mi (by omega), True.intro⟩
            · intro a ha
              by_cases q : a = i
              · subst q
                rw [mup_s]; show _ = (if rBh mo (dn - ((j : Int) + 1)) ((a : Int) - 9) ≤ 0 then _ else _); rw [if_neg (by rw [show dn - ((j : Int) + 1) = dn - 1 - (j : Int) by omega, ← hw9]; omega), show dn - ((j : Int) + 1) = dn - 1 - (j : Int) by omega]; exact congrArg (fun f => (f 6).1) (foldB_cong (fun p => pgain_V hrow))
              · rw [mup_n q]; exact hrow8 a (by omega)
          · try dsimp only at cf
            refine rVV hG (sp_X2_put (uo := uo) (ux := ux) (ua := ua) (ub := ub) (mo := mo) (kn := kn) (kp := kp) (v1 := v1) (v2 := v2) (uq := uq) (ur := ur) (kP := k9) (hr := h8) (lt := l9) (tk := tk) (ms := (if mo 1 = 0 then 0 else puf tk)) (pa := pa8) (e := ((i : Int) - 9)) (w := 0) (by omega)) rfl rfl lk_X2_54 mf_X2_put (by decide) (Nat.le_of_ble_eq_true rfl) ⟨_, _, _, rfl, rfl, rfl⟩ ?_
            rintro _ rfl
            rw [if_pos (by omega), show (((i : Int) - 9) + 9).toNat = i by omega]
            refine rRun hG 167 ?_
            refine rLess hG ?_ (ih (i + 1) (mup h8 i 0) pa8 ?_ (by omega) (by omega))
            · exact ⟨rfl, rfl, rfl, rfl, rfl, rfl, congrArg mi (by omega), True.intro⟩
            · intro a ha
              by_cases q : a = i
              · subst q
                rw [mup_s]; show _ = (if rBh mo (dn - ((j : Int) + 1)) ((a : Int) - 9) ≤ 0 then _ else _); rw [if_pos (by rw [show dn - ((j : Int) + 1) = dn - 1 - (j : Int) by omega, ← hw9]; omega)]
              · rw [mup_n q]; exact hrow8 a (by omega)
        · try dsimp only at cr
          refine rRun hG 167 ?_
          refine And.intro (by first | omega | (dsimp only; omega)) (And.intro (fun cf => ?_) (fun cf => ?_))
          · try dsimp only at cf
            refine rRun hG 167 ?_
            refine rV hG (sp_X3_day (uo := uo) (ux := ux) (ua := ua) (ub := ub) (mo := mo) (kn := kn) (kp := kp) (v1 := v1) (v2 := v2) (up := (k9, h8, l9, tk, (if mo 1 = 0 then 0 else puf tk), pa8)) (uq := uq) (ur := ur)) rfl rfl lk_X2_61 mf_X3_day (by decide) (Nat.le_of_ble_eq_true rfl) ⟨_, _, _, rfl, rfl, rfl⟩ ?_
            rintro _ _ ⟨rfl, rfl⟩
            refine rRun hG 167 ?_
            refine rV hG (sp_X2_best (uo := uo) (ux := ux) (ua := ua) (ub := ub) (mo := mo) (kn := kn) (kp := kp) (v1 := v1) (v2 := v2) (uq := uq) (ur := ur) (kP := k9) (hr := h8) (lt := l9) (tk := tk) (ms := (if mo 1 = 0 then 0 else puf tk)) (pa := pa8) (k := k) (t := t) ht (day := mo 0 + (dn - 1 - (j : Int))) (e := ((i : Int) - 9)) hT (by omega) (by omega) h4 hpl) rfl rfl lk_X2_65 mf_X2_best (by decide) (Nat.le_of_ble_eq_true rfl) ⟨_, _, _, rfl, rfl, rfl⟩ ?_
            rintro _ _ ⟨rfl, rfl⟩
            refine rVV hG (sp_X2_put (uo := uo) (ux := ux) (ua := ua) (ub := ub) (mo := mo) (kn := kn) (kp := kp) (v1 := v1) (v2 := v2) (uq := uq) (ur := ur) (kP := k9) (hr := h8) (lt := l9) (tk := tk) (ms := (if mo 1 = 0 then 0 else puf tk)) (pa := (foldB (fun q => pgain tk t l9 (mo 0 + (dn - 1 - (j : Int))) q (((i : Int) - 9) + q)) (-1000000) 6).2) (e := ((i : Int) - 9)) (w := (foldB (fun q => pgain tk t l9 (mo 0 + (dn - 1 - (j : Int))) q (((i : Int) - 9) + q)) (-1000000) 6).1) (by omega)) rfl rfl lk_X2_54 mf_X2_put (by decide) (Nat.le_of_ble_eq_true rfl) ⟨_, _, _, rfl, rfl, rfl⟩ ?_
            rintro _ rfl
            rw [if_pos (by omega), show (((i : Int) - 9) + 9).toNat = i by omega]
            refine rRun hG 167 ?_
            refine rLess hG ?_ (ih (i + 1) (mup h8 i (foldB (fun q => pgain tk t l9 (mo 0 + (dn - 1 - (j : Int))) q (((i : Int) - 9) + q)) (-1000000) 6).1) (foldB (fun q => pgain tk t l9 (mo 0 + (dn - 1 - (j : Int))) q (((i : Int) - 9) + q)) (-1000000) 6).2 ?_ (by omega) (by omega))
            · exact ⟨rfl, rfl, rfl, rfl, rfl, rfl, congrArg mi (by omega), True.intro⟩
            · intro a ha
              by_cases q : a = i
              · subst q
                rw [mup_s]; show _ = (if rBh mo (dn - ((j : Int) + 1)) ((a : Int) - 9) ≤ 0 then _ else _); rw [if_neg (by rw [show dn - ((j : Int) + 1) = dn - 1 - (j : Int) by omega, ← hw9]; omega), show dn - ((j : Int) + 1) = dn - 1 - (j : Int) by omega]; exact congrArg (fun f => (f 6).1) (foldB_cong (fun p => pgain_V hrow))
              · rw [mup_n q]; exact hrow8 a (by omega)
          · try dsimp only at cf
            refine rVV hG (sp_X2_put (uo := uo) (ux := ux) (ua := ua) (ub := ub) (mo := mo) (kn := kn) (kp := kp) (v1 := v1) (v2 := v2) (uq := uq) (ur := ur) (kP := k9) (hr := h8) (lt := l9) (tk := tk) (ms := (if mo 1 = 0 then 0 else puf tk)) (pa := pa8) (e := ((i : Int) - 9)) (w := 0) (by omega)) rfl rfl lk_X2_54 mf_X2_put (by decide) (Nat.le_of_ble_eq_true rfl) ⟨_, _, _, rfl, rfl, rfl⟩ ?_
            rintro _ rfl
            rw [if_pos (by omega), show (((i : Int) - 9) + 9).toNat = i by omega]
            refine rRun hG 167 ?_
            refine rLess hG ?_ (ih (i + 1) (mup h8 i 0) pa8 ?_ (by omega) (by omega))
            · exact ⟨rfl, rfl, rfl, rfl, rfl, rfl, congrArg mi (by omega), True.intro⟩
            · intro a ha
              by_cases q : a = i
              · subst q
                rw [mup_s]; show _ = (if rBh mo (dn - ((j : Int) + 1)) ((a : Int) - 9) ≤ 0 then _ else _); rw [if_pos (by rw [show dn - ((j : Int) + 1) = dn - 1 - (j : Int) by omega, ← hw9]; omega)]
              · rw [mup_n q]; exact hrow8 a (by omega)
  have J94 : ¬ mo 1 = 0 → ∀ (n j : Nat) (k9 : Bool) (h9 l9 : FN) (pa9 : Int), rowIs h9 (PV tk t mo dn j) → j + 1 ≤ dn.toNat → dn.toNat - 1 - j < n → G 94 [some (mr 17), some (mr (tix k)), some (mr 11), some (mi dn), some (mi (puf tk)), some (mi (dn - 1 - (j : Int))), none, none] [] (hC uo ux ua ub (mo, kn, kp) v1 v2 (k9, h9, l9, tk, (if mo 1 = 0 then 0 else puf tk), pa9) uq ur) := by
    intro hmz n
    induction n with
    | zero => intro j k9 h9 l9 pa9 _ _ hm; exact absurd hm (Nat.not_lt_zero _)
    | succ n ih =>
      intro j k9 h9 l9 pa9 hrow hj hm
      have J167 : j + 2 ≤ dn.toNat → ∀ (h8 : FN) (pa8 : Int), rowIs h8 (PV tk t mo dn (j + 1)) → G 167 [some (mr 17), some (mr (tix k)), some (mr 11), some (mi dn), some (mi (puf tk)), some (mi (dn - 1 - (j : Int))), none, none] [] (hC uo ux ua ub (mo, kn, kp) v1 v2 ((!k9), h8, h9, tk, (if mo 1 = 0 then 0 else puf tk), pa8) uq ur) := by
        intro hj2 h8 pa8 hr8
        refine rRun hG 99999 ?_
        refine rLess hG ?_ (ih (j + 1) (!k9) h8 h9 pa8 hr8 (by omega) (by omega))
        exact ⟨rfl, rfl, rfl, rfl, rfl, congrArg mi (by omega), True.intro⟩
      refine rRun hG 107 ?_
      refine And.intro (by first | omega | (dsimp only; omega)) (And.intro (fun c94 => ?_) (fun c94 => ?_))
      · try dsimp only at c94
        obtain rfl : j = dn.toNat - 1 := by omega
        refine rLess hG ?_ (J173 k9 h9 l9 pa9 hmz (by omega) hrow)
        exact ⟨rfl, rfl, rfl, rfl, rfl, True.intro⟩
      · try dsimp only at c94
        refine rVV hG (sp_X2_swapRows (uo := uo) (ux := ux) (ua := ua) (ub := ub) (mo := mo) (kn := kn) (kp := kp) (v1 := v1) (v2 := v2) (uq := uq) (ur := ur) (kP := k9) (hr := h9) (lt := l9) (tk := tk) (ms := (if mo 1 = 0 then 0 else puf tk)) (pa := pa9)) rfl rfl lk_X2_58 mf_X2_swapRows (by decide) (Nat.le_of_ble_eq_true rfl) ⟨_, _, _, rfl, rfl, rfl⟩ ?_
        rintro _ rfl
        refine rRun hG 107 ?_
        exact rLess hG (L' := [some (mr 17), some (mr (tix k)), some (mr 11), some (mi dn), some (mi (puf tk)), some (mi (dn - 1 - (j : Int))), some (mi (((0 : Nat) : Int) - 9)), none]) ⟨rfl, rfl, rfl, rfl, rfl, rfl, rfl, True.intro⟩ (J107 j (!k9) h9 hrow (by omega) (J167 (by omega)) 20 0 l9 pa9 (fun a ha => absurd ha (Nat.not_lt_zero _)) (by omega) (by omega))
  have J54 : 0 < dn → ¬ mo 1 = 0 → ∀ (n i : Nat) (h8 : FN), (∀ a : Nat, a < i → h8 a = PV tk t mo dn 0 ((a : Int) - 9)) → i ≤ 19 → 19 - i < n → G 54 [some (mr 17), some (mr (tix k)), some (mr 11), some (mi dn), some (mi (puf tk)), some (mi ((i : Int) - 9)), none, none] [] (hC uo ux ua ub (mo, kn, kp) v1 v2 (kP, h8, lt, tk, (if mo 1 = 0 then 0 else puf tk), (-9)) uq ur) := by
    intro hdn hm1z n
    induction n with
    | zero => intro i h8 _ _ hm; exact absurd hm (Nat.not_lt_zero _)
    | succ n ih =>
      intro i h8 hrow8 hi hm
      refine rRun hG 94 ?_
      refine And.intro (by first | omega | (dsimp only; omega)) (And.intro (fun c1 => ?_) (fun c1 => ?_))
      · try dsimp only at c1
        refine rRun hG 94 ?_
        obtain rfl : i = 19 := by omega
        exact rLess hG (L' := [some (mr 17), some (mr (tix k)), some (mr 11), some (mi dn), some (mi (puf tk)), some (mi (dn - 1 - ((0 : Nat) : Int))), none, none]) ⟨rfl, rfl, rfl, rfl, rfl, congrArg mi (by omega), True.intro⟩ (J94 hm1z _ 0 kP h8 lt (-9) (fun a ha => hrow8 a ha) (by omega) (Nat.lt_succ_self _))
      · try dsimp only at c1
        refine rS hG (sp_X2_restBehind (uo := uo) (ux := ux) (ua := ua) (ub := ub) (mo := mo) (kn := kn) (kp := kp) (v1 := v1) (v2 := v2) (uq := uq) (ur := ur) (kP := kP) (hr := h8) (lt := lt) (tk := tk) (ms := (if mo 1 = 0 then 0 else puf tk)) (pa := (-9)) (kd := dn) (e := ((i : Int) - 9))) rfl rfl lk_X2_50 mf_X2_restBehind (by decide) (Nat.le_of_ble_eq_true rfl) ?_
        rintro w _ ⟨hw, rfl⟩
        have hw9 : w = rBh mo dn ((i : Int) - 9) := hw
        clear hw
        have hwi : -10000 ≤ w ∧ w ≤ 10000 := by rw [hw9]; unfold rBh; omega
        refine rRun hG 94 ?_
        refine And.intro (by first | omega | (dsimp only; omega)) (And.intro (fun cr => ?_) (fun cr => ?_))
        · try dsimp only at cr
          refine rRun hG 94 ?_
          refine rVV hG (sp_X2_put (uo := uo) (ux := ux) (ua := ua) (ub := ub) (mo := mo) (kn := kn) (kp := kp) (v1 := v1) (v2 := v2) (uq := uq) (ur := ur) (kP := kP) (hr := h8) (lt := lt) (tk := tk) (ms := (if mo 1 = 0 then 0 else puf tk)) (pa := (-9)) (e := ((i : Int) - 9)) (w := (puf tk)) (by omega)) rfl rfl lk_X2_54 mf_X2_put (by decide) (Nat.le_of_ble_eq_true rfl) ⟨_, _, _, rfl, rfl, rfl⟩ ?_
          rintro _ rfl
          rw [if_pos (by omega), show (((i : Int) - 9) + 9).toNat = i by omega]
          refine rRun hG 94 ?_
          refine rLess hG ?_ (ih (i + 1) (mup h8 i (puf tk)) ?_ (by omega) (by omega))
          · exact ⟨rfl, rfl, rfl, rfl, rfl, congrArg mi (by omega), True.intro⟩
          · intro a ha
            by_cases q : a = i
            · subst q
              rw [mup_s]; show _ = (if rBh mo dn ((a : Int) - 9) ≤ 0 then _ else _); first | rw [if_pos (by rw [← hw9]; omega)] | rw [if_neg (by rw [← hw9]; omega)]
            · rw [mup_n q]; exact hrow8 a (by omega)
        · try dsimp only at cr
          refine rVV hG (sp_X2_put (uo := uo) (ux := ux) (ua := ua) (ub := ub) (mo := mo) (kn := kn) (kp := kp) (v1 := v1) (v2 := v2) (uq := uq) (ur := ur) (kP := kP) (hr := h8) (lt := lt) (tk := tk) (ms := (if mo 1 = 0 then 0 else puf tk)) (pa := (-9)) (e := ((i : Int) - 9)) (w := 0) (by omega)) rfl rfl lk_X2_54 mf_X2_put (by decide) (Nat.le_of_ble_eq_true rfl) ⟨_, _, _, rfl, rfl, rfl⟩ ?_
          rintro _ rfl
          rw [if_pos (by omega), show (((i : Int) - 9) + 9).toNat = i by omega]
          refine rRun hG 94 ?_
          refine rLess hG ?_ (ih (i + 1) (mup h8 i 0) ?_ (by omega) (by omega))
          · exact ⟨rfl, rfl, rfl, rfl, rfl, congrArg mi (by omega), True.intro⟩
          · intro a ha
            by_cases q : a = i
            · subst q
              rw [mup_s]; show _ = (if rBh mo dn ((a : Int) - 9) ≤ 0 then _ else _); first | rw [if_pos (by rw [← hw9]; omega)] | rw [if_neg (by rw [← hw9]; omega)]
            · rw [mup_n q]; exact hrow8 a (by omega)
  have J15 : G 15 [some (mr 17), some (mr (tix k)), some (mr 11), some (mi dn), some (mi (puf tk)), none, none, none] [] (hC uo ux ua ub (mo, kn, kp) v1 v2 (kP, hr, lt, tk, ms, pa) uq ur) := by
    refine rRun hG 35 ?_
    refine And.intro ⟨rfl, by exact Nat.le_of_ble_eq_true rfl, by exact True.intro⟩ (?_)
    refine rV hG (sp_X3_isFree (uo := uo) (ux := ux) (ua := ua) (ub := ub) (mo := mo) (kn := kn) (kp := kp) (v1 := v1) (v2 := v2) (up := (kP, hr, lt, tk, ms, -9)) (uq := uq) (ur := ur) (by omega)) rfl rfl lk_X2_46 mf_X3_isFree (by decide) (Nat.le_of_ble_eq_true rfl) ⟨_, _, _, rfl, rfl, rfl⟩ ?_
    rintro w _ ⟨hw, rfl⟩
    have w1 : (w = 1 ∧ (mo 1 = 0)) ∨ (w = 0 ∧ ¬ (mo 1 = 0)) := (by rw [hw]; by_cases q9 : (mo 1 = 0) <;> simp [q9])
    clear hw
    refine rRun hG 35 ?_
    refine And.intro (by first | omega | (dsimp only; omega)) (And.intro (fun ca => ?_) (fun ca => ?_))
    · try dsimp only at ca
      refine rRun hG 35 ?_
      skip
      have eM : (if mo 1 = 0 then 0 else puf tk) = puf tk := if_neg (by omega)
      suffices h35 : G 35 [some (mr 17), some (mr (tix k)), some (mr 11), some (mi dn), some (mi (puf tk)), none, none, none] [mi (if mo 1 = 0 then 0 else puf tk), mr 17] (hC uo ux ua ub (mo, kn, kp) v1 v2 (kP, hr, lt, tk, ms, -9) uq ur) by
        rw [eM] at h35; exact h35
      refine rRun hG 54 ?_
      refine And.intro ⟨rfl, by exact Nat.le_of_ble_eq_true rfl, by exact True.intro⟩ (?_)
      refine rV hG (sp_X3_isFree (uo := uo) (ux := ux) (ua := ua) (ub := ub) (mo := mo) (kn := kn) (kp := kp) (v1 := v1) (v2 := v2) (up := (kP, hr, lt, tk, (if mo 1 = 0 then 0 else puf tk), (-9))) (uq := uq) (ur := ur) (by omega)) rfl rfl lk_X2_46 mf_X3_isFree (by decide) (Nat.le_of_ble_eq_true rfl) ⟨_, _, _, rfl, rfl, rfl⟩ ?_
      rintro w _ ⟨hw, rfl⟩
      have w1 : (w = 1 ∧ (mo 1 = 0)) ∨ (w = 0 ∧ ¬ (mo 1 = 0)) := (by rw [hw]; by_cases q9 : (mo 1 = 0) <;> simp [q9])
      clear hw
      refine rRun hG 54 ?_
      refine And.intro (by first | omega | (dsimp only; omega)) (And.intro (fun cb => ?_) (fun cb => ?_))
      · try dsimp only at cb
        refine rVR hG rfl rfl rfl ?_
        refine Or.inl ⟨by omega, rfl⟩
      · try dsimp only at cb
        refine And.intro (by first | omega | (dsimp only; omega)) (And.intro (fun cc2 => ?_) (fun cc2 => ?_))
        · try dsimp only at cc2
          refine rRun hG 54 ?_
          exact rLess hG (L' := [some (mr 17), some (mr (tix k)), some (mr 11), some (mi dn), some (mi (puf tk)), some (mi (((0 : Nat) : Int) - 9)), none, none]) ⟨rfl, rfl, rfl, rfl, rfl, rfl, True.intro⟩ (J54 (by omega) (by omega) _ 0 hr (fun a ha => absurd ha (Nat.not_lt_zero _)) (by omega) (Nat.lt_succ_self _))
        · try dsimp only at cc2
          refine rVR hG rfl rfl rfl ?_
          refine Or.inl ⟨by omega, rfl⟩
    · try dsimp only at ca
      skip
      have eM : (if mo 1 = 0 then 0 else puf tk) = 0 := if_pos (by omega)
      suffices h35 : G 35 [some (mr 17), some (mr (tix k)), some (mr 11), some (mi dn), some (mi (puf tk)), none, none, none] [mi (if mo 1 = 0 then 0 else puf tk), mr 17] (hC uo ux ua ub (mo, kn, kp) v1 v2 (kP, hr, lt, tk, ms, -9) uq ur) by
        rw [eM] at h35; exact h35
      refine rRun hG 54 ?_
      refine And.intro ⟨rfl, by exact Nat.le_of_ble_eq_true rfl, by exact True.intro⟩ (?_)
      refine rV hG (sp_X3_isFree (uo := uo) (ux := ux) (ua := ua) (ub := ub) (mo := mo) (kn := kn) (kp := kp) (v1 := v1) (v2 := v2) (up := (kP, hr, lt, tk, (if mo 1 = 0 then 0 else puf tk), (-9))) (uq := uq) (ur := ur) (by omega)) rfl rfl lk_X2_46 mf_X3_isFree (by decide) (Nat.le_of_ble_eq_true rfl) ⟨_, _, _, rfl, rfl, rfl⟩ ?_
      rintro w _ ⟨hw, rfl⟩
      have w1 : (w = 1 ∧ (mo 1 = 0)) ∨ (w = 0 ∧ ¬ (mo 1 = 0)) := (by rw [hw]; by_cases q9 : (mo 1 = 0) <;> simp [q9])
      clear hw
      refine rRun hG 54 ?_
      refine And.intro (by first | omega | (dsimp only; omega)) (And.intro (fun cb => ?_) (fun cb => ?_))
      · try dsimp only at cb
        refine rVR hG rfl rfl rfl ?_
        refine Or.inl ⟨by omega, rfl⟩
      · try dsimp only at cb
        refine And.intro (by first | omega | (dsimp only; omega)) (And.intro (fun cc2 => ?_) (fun cc2 => ?_))
        · try dsimp only at cc2
          refine rRun hG 54 ?_
          exact rLess hG (L' := [some (mr 17), some (mr (tix k)), some (mr 11), some (mi dn), some (mi (puf tk)), some (mi (((0 : Nat) : Int) - 9)), none, none]) ⟨rfl, rfl, rfl, rfl, rfl, rfl, True.intro⟩ (J54 (by omega) (by omega) _ 0 hr (fun a ha => absurd ha (Nat.not_lt_zero _)) (by omega) (Nat.lt_succ_self _))
        · try dsimp only at cc2
          refine rVR hG rfl rfl rfl ?_
          refine Or.inl ⟨by omega, rfl⟩
  refine rRun hG 15 ?_
  refine And.intro rfl (And.intro (by first | omega | (dsimp only; omega)) (And.intro (fun ct => ?_) (fun ct => ?_)))
  · try dsimp only at ct
    refine rRun hG 15 ?_
    refine rLess hG ?_ J15
    exact ⟨rfl, rfl, rfl, rfl, congrArg mi (by unfold puf; first | (rw [if_pos (by omega)]; done) | (rw [if_neg (by omega)]; done)), True.intro⟩
  · try dsimp only at ct
    refine rRun hG 15 ?_
    refine rLess hG ?_ J15
    exact ⟨rfl, rfl, rfl, rfl, congrArg mi (by unfold puf; first | (rw [if_pos (by omega)]; done) | (rw [if_neg (by omega)]; done)), True.intro⟩
end WALKS
end
section
/-! Plan: for candles, for freedom -/
section WALKS
variable {l : Launch}
/-- what a plan answers: the most, the pace; tk 1: candles, 0: harm -/
def planM (tk : Int) (t : TD) (mo : FN) (dn : Int) : Int := if mo 1 = 0 then 0 else if dn ≤ 0 then puf tk else (foldB (fun p => pgV tk t (PV tk t mo dn (dn.toNat - 1)) (mo 0) p (mo 2 + p)) (-1000000) 6).1
def planP (tk : Int) (t : TD) (mo : FN) (dn : Int) : Int := if mo 1 = 0 ∨ dn ≤ 0 then -9 else (foldB (fun p => pgV tk t (PV tk t mo dn (dn.toNat - 1)) (mo 0) p (mo 2 + p)) (-1000000) 6).2
set_option maxRecDepth 20000 in
set_option maxHeartbeats 8000000 in
theorem sp_X2_forCandles {uo : UD} {ux : XD} {ua ub : TD} {mo : FN} {kn kp : Int} {v1 v2 : SD} {kP : Bool} {hr lt : FN} {tk ms pa : Int} {uq : PD} {ur : HD} {k : Bool} {t : TD} (ht : t = tsel k ua ub)  (hT : TOK t) (hd : -14 ≤ tDay t - mo 0 ∧ tDay t - mo 0 ≤ 14) (hm0 : 0 ≤ mo 0 ∧ mo 0 ≤ 14) (hm1 : 0 ≤ mo 1 ∧ mo 1 ≤ 99) (hm2 : -9 ≤ mo 2 ∧ mo 2 ≤ 9) : SpV l 7 yX2_forCandles cX2_forCandles 3 none [mr 17, mr (tix k), mr 11] (hC uo ux ua ub (mo, kn, kp) v1 v2 (kP, hr, lt, tk, ms, pa) uq ur) (fun h => ∃ (k9 : Bool) (h9 l9 : FN), h = hC uo ux ua ub (mo, kn, kp) v1 v2 (k9, h9, l9, 1, planM 1 t mo ((tDay t - mo 0)), planP 1 t mo ((tDay t - mo 0))) uq ur) := by
  refine SpV.of (cd := kdX2_forCandles) (fT := mlook flX2) (kT := mlook klX2) (kJ := mlook jlX2) mfA_X2_forCandles ok_X2_forCandles fT_X2 kT_X2 jT_X2 jdk_ok True.intro (Nat.le_of_ble_eq_true rfl) (fun G hG => ?_)
  refine rRun hG 99999 ?_
  refine And.intro ⟨rfl, by exact Nat.le_of_ble_eq_true rfl, by exact Or.inr rfl⟩ (?_)
  refine rV hG (sp_X3_daysLeft (uo := uo) (ux := ux) (ua := ua) (ub := ub) (mo := mo) (kn := kn) (kp := kp) (v1 := v1) (v2 := v2) (up := (kP, hr, lt, 1, ms, pa)) (uq := uq) (ur := ur) (k := k) (t := t) ht) rfl rfl lk_X2_29 mf_X3_daysLeft (by decide) (Nat.le_of_ble_eq_true rfl) ⟨_, _, _, rfl, rfl, rfl⟩ ?_
  rintro _ _ ⟨rfl, rfl⟩
  refine rVV hG (sp_X2_make (uo := uo) (ux := ux) (ua := ua) (ub := ub) (mo := mo) (kn := kn) (kp := kp) (v1 := v1) (v2 := v2) (uq := uq) (ur := ur) (kP := kP) (hr := hr) (lt := lt) (tk := 1) (ms := ms) (pa := pa) (k := k) (t := t) ht (dn := (tDay t - mo 0)) hT (by omega) (by omega) (by omega) hm0 hm1 hm2) rfl rfl lk_X2_35 mf_X2_make (by decide) (Nat.le_of_ble_eq_true rfl) ⟨_, _, _, rfl, rfl, rfl⟩ ?_
  rintro _ hq
  refine rVR hG rfl rfl rfl ?_
  rcases hq with ⟨hc, rfl⟩ | ⟨hc, k9, h9, l9, rfl⟩
  · refine ⟨kP, hr, lt, ?_⟩
    have e1 : planM 1 t mo ((tDay t - mo 0)) = (if mo 1 = 0 then 0 else puf 1) := by
      unfold planM
      by_cases q : mo 1 = 0
      · rw [if_pos q, if_pos q]
      · rw [if_neg q, if_neg q, if_pos (by omega)]
    have e2 : planP 1 t mo ((tDay t - mo 0)) = -9 := if_pos (by omega)
    rw [e1, e2]
  · refine ⟨k9, h9, l9, ?_⟩
    have e1 : planM 1 t mo ((tDay t - mo 0)) = (foldB (fun p => pgV 1 t (PV 1 t mo ((tDay t - mo 0)) (((tDay t - mo 0)).toNat - 1)) (mo 0) p (mo 2 + p)) (-1000000) 6).1 := by
      unfold planM
      rw [if_neg (by omega), if_neg (by omega)]
    have e2 : planP 1 t mo ((tDay t - mo 0)) = (foldB (fun p => pgV 1 t (PV 1 t mo ((tDay t - mo 0)) (((tDay t - mo 0)).toNat - 1)) (mo 0) p (mo 2 + p)) (-1000000) 6).2 := if_neg (by omega)
    rw [e1, e2]
set_option maxRecDepth 20000 in
set_option maxHeartbeats 8000000 in
theorem sp_X2_forFreedom {uo : UD} {ux : XD} {ua ub : TD} {mo : FN} {kn kp : Int} {v1 v2 : SD} {kP : Bool} {hr lt : FN} {tk ms pa : Int} {uq : PD} {ur : HD} {k : Bool} {t : TD} (ht : t = tsel k ua ub) {n9 : Int} (hT : TOK t) (hd : -14 ≤ tDay t - mo 0 ∧ tDay t - mo 0 ≤ 14) (hm0 : 0 ≤ mo 0 ∧ mo 0 ≤ 14) (hm1 : 0 ≤ mo 1 ∧ mo 1 ≤ 99) (hm2 : -9 ≤ mo 2 ∧ mo 2 ≤ 9) (hn : 0 ≤ n9 ∧ n9 ≤ 14) : SpV l 7 yX2_forFreedom cX2_forFreedom 4 none [mr 17, mr (tix k), mr 11, mi n9] (hC uo ux ua ub (mo, kn, kp) v1 v2 (kP, hr, lt, tk, ms, pa) uq ur) (fun h => ∃ (k9 : Bool) (h9 l9 : FN), h = hC uo ux ua ub (mo, kn, kp) v1 v2 (k9, h9, l9, 0, planM 0 t mo (min n9 (tDay t - mo 0)), planP 0 t mo (min n9 (tDay t - mo 0))) uq ur) := by
  refine SpV.of (cd := kdX2_forFreedom) (fT := mlook flX2) (kT := mlook klX2) (kJ := mlook jlX2) mfA_X2_forFreedom ok_X2_forFreedom fT_X2 kT_X2 jT_X2 jdk_ok True.intro (Nat.le_of_ble_eq_true rfl) (fun G hG => ?_)
  refine rRun hG 99999 ?_
  refine And.intro ⟨rfl, by exact Nat.le_of_ble_eq_true rfl, by exact Or.inl rfl⟩ (?_)
  refine rV hG (sp_X3_daysLeft (uo := uo) (ux := ux) (ua := ua) (ub := ub) (mo := mo) (kn := kn) (kp := kp) (v1 := v1) (v2 := v2) (up := (kP, hr, lt, 0, ms, pa)) (uq := uq) (ur := ur) (k := k) (t := t) ht) rfl rfl lk_X2_29 mf_X3_daysLeft (by decide) (Nat.le_of_ble_eq_true rfl) ⟨_, _, _, rfl, rfl, rfl⟩ ?_
  rintro _ _ ⟨rfl, rfl⟩
  refine rMin hG rfl rfl lk_X2_39 (by decide) (Nat.le_of_ble_eq_true rfl) (by first | omega | (dsimp only; omega)) ?_
  refine rVV hG (sp_X2_make (uo := uo) (ux := ux) (ua := ua) (ub := ub) (mo := mo) (kn := kn) (kp := kp) (v1 := v1) (v2 := v2) (uq := uq) (ur := ur) (kP := kP) (hr := hr) (lt := lt) (tk := 0) (ms := ms) (pa := pa) (k := k) (t := t) ht (dn := min n9 (tDay t - mo 0)) hT (by omega) (by omega) (by omega) hm0 hm1 hm2) rfl rfl lk_X2_35 mf_X2_make (by decide) (Nat.le_of_ble_eq_true rfl) ⟨_, _, _, rfl, rfl, rfl⟩ ?_
  rintro _ hq
  refine rVR hG rfl rfl rfl ?_
  rcases hq with ⟨hc, rfl⟩ | ⟨hc, k9, h9, l9, rfl⟩
  · refine ⟨kP, hr, lt, ?_⟩
    have e1 : planM 0 t mo (min n9 (tDay t - mo 0)) = (if mo 1 = 0 then 0 else puf 0) := by
      unfold planM
      by_cases q : mo 1 = 0
      · rw [if_pos q, if_pos q]
      · rw [if_neg q, if_neg q, if_pos (by omega)]
    have e2 : planP 0 t mo (min n9 (tDay t - mo 0)) = -9 := if_pos (by omega)
    rw [e1, e2]
  · refine ⟨k9, h9, l9, ?_⟩
    have e1 : planM 0 t mo (min n9 (tDay t - mo 0)) = (foldB (fun p => pgV 0 t (PV 0 t mo (min n9 (tDay t - mo 0)) ((min n9 (tDay t - mo 0)).toNat - 1)) (mo 0) p (mo 2 + p)) (-1000000) 6).1 := by
      unfold planM
      rw [if_neg (by omega), if_neg (by omega)]
    have e2 : planP 0 t mo (min n9 (tDay t - mo 0)) = (foldB (fun p => pgV 0 t (PV 0 t mo (min n9 (tDay t - mo 0)) ((min n9 (tDay t - mo 0)).toNat - 1)) (mo 0) p (mo 2 + p)) (-1000000) 6).2 := if_neg (by omega)
    rw [e1, e2]
end WALKS
end
section
/-! Text: tokens -/
section WALKS
variable {l : Launch}
/-- the text in order: 150 bytes at most, a place within it -/
def XOK (x : XD) : Prop := (0 ≤ xN x ∧ xN x ≤ 150) ∧ (0 ≤ xP x ∧ xP x ≤ xN x) ∧ (0 ≤ xS x ∧ xS x ≤ 150) ∧ (0 ≤ xK x ∧ xK x ≤ 4) ∧ (0 ≤ xV x ∧ xV x ≤ 255) ∧ (-1 ≤ xF x ∧ xF x ≤ 150) ∧ ∀ i, i < 150 → 0 ≤ xB x i ∧ xB x i ≤ 255
def bAt (b : FN) (n i : Int) : Int := if 0 ≤ i ∧ i < n ∧ i < 150 then b i.toNat else -1
def isLt (c : Int) : Prop := 97 ≤ c ∧ c ≤ 122
def isDg (c : Int) : Prop := 48 ≤ c ∧ c ≤ 57
def xSet (x : XD) (p s k v f : Int) : XD := (xB x, xN x, p, s, k, v, f, xR x, xL x, xA x)
theorem xSS {x : XD} {p s k v f p' s' k' v' f' : Int} : xSet (xSet x p s k v f) p' s' k' v' f' = xSet x p' s' k' v' f' := rfl
theorem xB_s {x : XD} {p s k v f : Int} : xB (xSet x p s k v f) = xB x := rfl
theorem xN_s {x : XD} {p s k v f : Int} : xN (xSet x p s k v f) = xN x := rfl
theorem xP_s {x : XD} {p s k v f : Int} : xP (xSet x p s k v f) = p := rfl
theorem xS_s {x : XD} {p s k v f : Int} : xS (xSet x p s k v f) = s := rfl
theorem xK_s {x : XD} {p s k v f : Int} : xK (xSet x p s k v f) = k := rfl
theorem xV_s {x : XD} {p s k v f : Int} : xV (xSet x p s k v f) = v := rfl
theorem xF_s {x : XD} {p s k v f : Int} : xF (xSet x p s k v f) = f := rfl
theorem xR_s {x : XD} {p s k v f : Int} : xR (xSet x p s k v f) = xR x := rfl
theorem xL_s {x : XD} {p s k v f : Int} : xL (xSet x p s k v f) = xL x := rfl
theorem xA_s {x : XD} {p s k v f : Int} : xA (xSet x p s k v f) = xA x := rfl
set_option maxRecDepth 20000 in
set_option maxHeartbeats 1000000 in
theorem sp_X4_isLetter {hh : mH} {e : Int} (h1 : inI e) : SpI l 1 yX4_isLetter cX4_isLetter 1 (some .boolean) [mi e] (hh) (fun z h => z = (if 97 ≤ e ∧ e ≤ 122 then 1 else 0) ∧ h = hh) := by
  refine SpI.of (cd := kdX4_isLetter) (fT := mlook flX4) (kT := mlook klX4) (kJ := mlook jlX4) mfA_X4_isLetter ok_X4_isLetter fT_X4 kT_X4 jT_X4 jdk_ok True.intro (Nat.le_of_ble_eq_true rfl) (fun G hG => ?_)
  refine rRun hG 99999 ?_
  refine And.intro (by first | omega | (simp only [xB_s, xN_s, xP_s, xS_s, xK_s, xV_s, xF_s, xR_s, xL_s, xA_s]; omega)) (And.intro (fun c1 => ?_) (fun c1 => ?_))
  · try simp only [xB_s, xN_s, xP_s, xS_s, xK_s, xV_s, xF_s, xR_s, xL_s, xA_s] at c1
    refine rRun hG 99999 ?_
    refine rIR hG rfl rfl (by first | exact Or.inl rfl | exact Or.inr rfl | (show _ ∨ _; omega)) ?_
    exact ⟨by first | (rw [if_pos (by omega)]; done) | (rw [if_neg (by omega)]; done), rfl⟩
  · try simp only [xB_s, xN_s, xP_s, xS_s, xK_s, xV_s, xF_s, xR_s, xL_s, xA_s] at c1
    refine And.intro (by first | omega | (simp only [xB_s, xN_s, xP_s, xS_s, xK_s, xV_s, xF_s, xR_s, xL_s, xA_s]; omega)) (And.intro (fun c2 => ?_) (fun c2 => ?_))
    · try simp only [xB_s, xN_s, xP_s, xS_s, xK_s, xV_s, xF_s, xR_s, xL_s, xA_s] at c2
      refine rRun hG 99999 ?_
      refine rIR hG rfl rfl (by first | exact Or.inl rfl | exact Or.inr rfl | (show _ ∨ _; omega)) ?_
      exact ⟨by first | (rw [if_pos (by omega)]; done) | (rw [if_neg (by omega)]; done), rfl⟩
    · try simp only [xB_s, xN_s, xP_s, xS_s, xK_s, xV_s, xF_s, xR_s, xL_s, xA_s] at c2
      refine rIR hG rfl rfl (by first | exact Or.inl rfl | exact Or.inr rfl | (show _ ∨ _; omega)) ?_
      exact ⟨by first | (rw [if_pos (by omega)]; done) | (rw [if_neg (by omega)]; done), rfl⟩
set_option maxRecDepth 20000 in
set_option maxHeartbeats 1000000 in
theorem sp_X4_isDigit {hh : mH} {e : Int} (h1 : inI e) : SpI l 1 yX4_isDigit cX4_isDigit 1 (some .boolean) [mi e] (hh) (fun z h => z = (if 48 ≤ e ∧ e ≤ 57 then 1 else 0) ∧ h = hh) := by
  refine SpI.of (cd := kdX4_isDigit) (fT := mlook flX4) (kT := mlook klX4) (kJ := mlook jlX4) mfA_X4_isDigit ok_X4_isDigit fT_X4 kT_X4 jT_X4 jdk_ok True.intro (Nat.le_of_ble_eq_true rfl) (fun G hG => ?_)
  refine rRun hG 99999 ?_
  refine And.intro (by first | omega | (simp only [xB_s, xN_s, xP_s, xS_s, xK_s, xV_s, xF_s, xR_s, xL_s, xA_s]; omega)) (And.intro (fun c1 => ?_) (fun c1 => ?_))
  · try simp only [xB_s, xN_s, xP_s, xS_s, xK_s, xV_s, xF_s, xR_s, xL_s, xA_s] at c1
    refine rRun hG 99999 ?_
    refine rIR hG rfl rfl (by first | exact Or.inl rfl | exact Or.inr rfl | (show _ ∨ _; omega)) ?_
    exact ⟨by first | (rw [if_pos (by omega)]; done) | (rw [if_neg (by omega)]; done), rfl⟩
  · try simp only [xB_s, xN_s, xP_s, xS_s, xK_s, xV_s, xF_s, xR_s, xL_s, xA_s] at c1
    refine And.intro (by first | omega | (simp only [xB_s, xN_s, xP_s, xS_s, xK_s, xV_s, xF_s, xR_s, xL_s, xA_s]; omega)) (And.intro (fun c2 => ?_) (fun c2 => ?_))
    · try simp only [xB_s, xN_s, xP_s, xS_s, xK_s, xV_s, xF_s, xR_s, xL_s, xA_s] at c2
      refine rRun hG 99999 ?_
      refine rIR hG rfl rfl (by first | exact Or.inl rfl | exact Or.inr rfl | (show _ ∨ _; omega)) ?_
      exact ⟨by first | (rw [if_pos (by omega)]; done) | (rw [if_neg (by omega)]; done), rfl⟩
    · try simp only [xB_s, xN_s, xP_s, xS_s, xK_s, xV_s, xF_s, xR_s, xL_s, xA_s] at c2
      refine rIR hG rfl rfl (by first | exact Or.inl rfl | exact Or.inr rfl | (show _ ∨ _; omega)) ?_
      exact ⟨by first | (rw [if_pos (by omega)]; done) | (rw [if_neg (by omega)]; done), rfl⟩
set_option maxRecDepth 20000 in
set_option maxHeartbeats 1000000 in
theorem sp_X4_byteAt {uo : UD} {ux : XD} {ua ub : TD} {v0 v1 v2 : SD} {up uq : PD} {ur : HD} {i : Int} (h1 : inI i) (h2 : inI (xN ux)) : SpI l 1 yX4_byteAt cX4_byteAt 2 (some .int) [mr 1, mi i] (hC uo ux ua ub v0 v1 v2 up uq ur) (fun z h => z = bAt (xB ux) (xN ux) i ∧ h = hC uo ux ua ub v0 v1 v2 up uq ur) := by
  refine SpI.of (cd := kdX4_byteAt) (fT := mlook flX4) (kT := mlook klX4) (kJ := mlook jlX4) mfA_X4_byteAt ok_X4_byteAt fT_X4 kT_X4 jT_X4 jdk_ok True.intro (Nat.le_of_ble_eq_true rfl) (fun G hG => ?_)
  refine rRun hG 99999 ?_
  refine And.intro (by first | omega | (simp only [xB_s, xN_s, xP_s, xS_s, xK_s, xV_s, xF_s, xR_s, xL_s, xA_s]; omega)) (And.intro (fun c1 => ?_) (fun c1 => ?_))
  · try simp only [xB_s, xN_s, xP_s, xS_s, xK_s, xV_s, xF_s, xR_s, xL_s, xA_s] at c1
    refine rRun hG 99999 ?_
    refine rIR hG rfl rfl (True.intro) ?_
    refine ⟨?_, rfl⟩
    unfold bAt
    first | (rw [if_pos (by omega)]; done) | (rw [if_neg (by omega)]; done)
  · try simp only [xB_s, xN_s, xP_s, xS_s, xK_s, xV_s, xF_s, xR_s, xL_s, xA_s] at c1
    refine And.intro rfl (And.intro (by first | omega | (simp only [xB_s, xN_s, xP_s, xS_s, xK_s, xV_s, xF_s, xR_s, xL_s, xA_s]; omega)) (And.intro (fun c2 => ?_) (fun c2 => ?_)))
    · try simp only [xB_s, xN_s, xP_s, xS_s, xK_s, xV_s, xF_s, xR_s, xL_s, xA_s] at c2
      refine rRun hG 99999 ?_
      refine rIR hG rfl rfl (True.intro) ?_
      refine ⟨?_, rfl⟩
      unfold bAt
      first | (rw [if_pos (by omega)]; done) | (rw [if_neg (by omega)]; done)
    · try simp only [xB_s, xN_s, xP_s, xS_s, xK_s, xV_s, xF_s, xR_s, xL_s, xA_s] at c2
      refine And.intro rfl (And.intro (by decide) (And.intro (by first | omega | (simp only [xB_s, xN_s, xP_s, xS_s, xK_s, xV_s, xF_s, xR_s, xL_s, xA_s]; omega)) (And.intro (fun c3 => ?_) (fun c3 => ?_))))
      · try simp only [xB_s, xN_s, xP_s, xS_s, xK_s, xV_s, xF_s, xR_s, xL_s, xA_s] at c3
        refine rRun hG 99999 ?_
        refine rIR hG rfl rfl (True.intro) ?_
        refine ⟨?_, rfl⟩
        unfold bAt
        first | (rw [if_pos (by omega)]; done) | (rw [if_neg (by omega)]; done)
      · try simp only [xB_s, xN_s, xP_s, xS_s, xK_s, xV_s, xF_s, xR_s, xL_s, xA_s] at c3
        refine And.intro rfl (And.intro (by first | omega | (simp only [xB_s, xN_s, xP_s, xS_s, xK_s, xV_s, xF_s, xR_s, xL_s, xA_s]; omega)) (?_))
        refine rIR hG rfl rfl (True.intro) ?_
        refine ⟨?_, rfl⟩
        unfold bAt
        first | (rw [if_pos (by omega)]; done) | (rw [if_neg (by omega)]; done)
/-- where a run of bytes that are so ends -/
def runE (P : Int → Bool) (b : FN) (n : Int) : Nat → Int → Int
  | 0, i => i
  | f + 1, i => if i < n ∧ P (bAt b n i) = true then runE P b n f (i + 1) else i
def pSp (c : Int) : Bool := c == 32
def pLt (c : Int) : Bool := decide (97 ≤ c ∧ c ≤ 122)
def pDg (c : Int) : Bool := decide (48 ≤ c ∧ c ≤ 57)
theorem runE_s {P : Int → Bool} {b : FN} {n : Int} {f : Nat} {i : Int} : runE P b n (f + 1) i = if i < n ∧ P (bAt b n i) = true then runE P b n f (i + 1) else i := rfl
theorem runE_in {P : Int → Bool} {b : FN} {n : Int} : ∀ {f : Nat} {i : Int}, i ≤ n → i ≤ runE P b n f i ∧ runE P b n f i ≤ n
  | 0, i, h => ⟨Int.le_refl _, h⟩
  | f + 1, i, h => by
    rw [runE_s]
    split
    · rename_i q
      have := runE_in (P := P) (b := b) (n := n) (f := f) (i := i + 1) (by omega)
      omega
    · omega
/-- the run from i to the end -/
def runT (P : Int → Bool) (b : FN) (n i : Int) : Int := runE P b n (n - i).toNat i
theorem runT_go {P : Int → Bool} {b : FN} {n i : Int} (h : i < n) (hp : P (bAt b n i) = true) : runT P b n i = runT P b n (i + 1) := by
  unfold runT
  rw [show (n - i).toNat = (n - (i + 1)).toNat + 1 by omega, runE_s, if_pos ⟨h, hp⟩]
theorem runT_no {P : Int → Bool} {b : FN} {n i : Int} (h : ¬ (i < n ∧ P (bAt b n i) = true)) : runT P b n i = i := by
  unfold runT
  by_cases q : i < n
  · rw [show (n - i).toNat = (n - (i + 1)).toNat + 1 by omega, runE_s, if_neg h]
  · rw [show (n - i).toNat = 0 by omega]; rfl
theorem runT_in {P : Int → Bool} {b : FN} {n i : Int} (h : i ≤ n) : i ≤ runT P b n i ∧ runT P b n i ≤ n := runE_in h
/-- the number of a run of figures from i, cut above 99, v ahead of it -/
def numE (b : FN) (n : Int) : Nat → Int → Int → Int
  | 0, _, v => v
  | f + 1, i, v => if i < n ∧ pDg (bAt b n i) = true then numE b n f (i + 1) (min 100 (10 * v + bAt b n i - 48)) else v
def numT (b : FN) (n i v : Int) : Int := numE b n (n - i).toNat i v
theorem numT_go {b : FN} {n i v : Int} (h : i < n) (hp : pDg (bAt b n i) = true) : numT b n i v = numT b n (i + 1) (min 100 (10 * v + bAt b n i - 48)) := by
  unfold numT
  rw [show (n - i).toNat = (n - (i + 1)).toNat + 1 by omega]
  show (if i < n ∧ pDg (bAt b n i) = true then _ else _) = _
  rw [if_pos ⟨h, hp⟩]
theorem numT_no {b : FN} {n i v : Int} (h : ¬ (i < n ∧ pDg (bAt b n i) = true)) : numT b n i v = v := by
  unfold numT
  by_cases q : i < n
  · rw [show (n - i).toNat = (n - (i + 1)).toNat + 1 by omega]
    show (if i < n ∧ pDg (bAt b n i) = true then _ else _) = _
    rw [if_neg h]
  · rw [show (n - i).toNat = 0 by omega]; rfl
theorem bAt_in {x : XD} (hx : ∀ i, i < 150 → 0 ≤ xB x i ∧ xB x i ≤ 255) {n i : Int} : -1 ≤ bAt (xB x) n i ∧ bAt (xB x) n i ≤ 255 := by
  unfold bAt
  split
  · have := hx i.toNat (by omega); omega
  · omega
theorem numE_in {b : FN} {n : Int} : ∀ {f : Nat} {i v : Int}, 0 ≤ v ∧ v ≤ 100 → 0 ≤ numE b n f i v ∧ numE b n f i v ≤ 100
  | 0, i, v, h => h
  | f + 1, i, v, h => by
    show 0 ≤ (if i < n ∧ pDg (bAt b n i) = true then _ else _) ∧ (if i < n ∧ pDg (bAt b n i) = true then _ else _) ≤ 100
    by_cases q : i < n ∧ pDg (bAt b n i) = true
    · rw [if_pos q]
      have := of_decide_eq_true q.2
      exact numE_in (by omega)
    · rw [if_neg q]; exact h
set_option maxRecDepth 20000 in
set_option maxHeartbeats 1000000 in
theorem sp_X4_takeLetters {uo : UD} {ux : XD} {ua ub : TD} {v0 v1 v2 : SD} {up uq : PD} {ur : HD} {c : Int} (h1 : inI c) (hn : 0 ≤ xN ux ∧ xN ux ≤ 150) (hp : 0 ≤ xP ux ∧ xP ux ≤ xN ux) (hs : 0 ≤ xS ux ∧ xS ux ≤ 150) (hx : ∀ i, i < 150 → 0 ≤ xB ux i ∧ xB ux i ≤ 255) : SpV l 3 yX4_takeLetters cX4_takeLetters 2 none [mr 1, mi c] (hC uo ux ua ub v0 v1 v2 up uq ur) (fun h => h = hC uo (xSet ux (runT pLt (xB ux) (xN ux) (xP ux)) (xS ux) 1 (if runT pLt (xB ux) (xN ux) (xP ux) - xS ux = 1 then c else 0) (xF ux)) ua ub v0 v1 v2 up uq ur) := by
  refine SpV.of (cd := kdX4_takeLetters) (fT := mlook flX4) (kT := mlook klX4) (kJ := mlook jlX4) mfA_X4_takeLetters ok_X4_takeLetters fT_X4 kT_X4 jT_X4 jdk_ok True.intro (Nat.le_of_ble_eq_true rfl) (fun G hG => ?_)
  have J0 : ∀ (n : Nat) (i : Int), ((xP ux ≤ i ∧ i ≤ xN ux) ∧ runT pLt (xB ux) (xN ux) i = runT pLt (xB ux) (xN ux) (xP ux)) → (xN ux - i).toNat < n → G 0 [some (mr 1), some (mi c)] [] (hC uo (xSet ux i (xS ux) (xK ux) (xV ux) (xF ux)) ua ub v0 v1 v2 up uq ur) := by
    intro n
    induction n with
    | zero => intro i _ hm; exact absurd hm (Nat.not_lt_zero _)
    | succ n ih =>
      intro i hinv hm
      have hb9 := bAt_in (x := ux) hx (n := xN ux) (i := i)
      refine rRun hG 38 ?_
      refine And.intro rfl (And.intro rfl (And.intro (by first | omega | (simp only [xB_s, xN_s, xP_s, xS_s, xK_s, xV_s, xF_s, xR_s, xL_s, xA_s]; omega)) (And.intro (fun c1 => ?_) (fun c1 => ?_))))
      · try simp only [xB_s, xN_s, xP_s, xS_s, xK_s, xV_s, xF_s, xR_s, xL_s, xA_s] at c1
        have hi9 : i = runT pLt (xB ux) (xN ux) (xP ux) := by
          rw [← hinv.2]
          refine (runT_no ?_).symm
          rintro ⟨q1, q2⟩
          have q3 := of_decide_eq_true q2
          omega
        refine rRun hG 99999 ?_
        refine And.intro ⟨rfl, by exact Nat.le_of_ble_eq_true rfl, by exact True.intro⟩ (And.intro rfl (And.intro rfl (And.intro (by first | omega | (simp only [xB_s, xN_s, xP_s, xS_s, xK_s, xV_s, xF_s, xR_s, xL_s, xA_s]; omega)) (And.intro (fun c2 => ?_) (fun c2 => ?_)))))
        · try simp only [xB_s, xN_s, xP_s, xS_s, xK_s, xV_s, xF_s, xR_s, xL_s, xA_s] at c2
          refine rRun hG 99999 ?_
          refine And.intro ⟨rfl, by exact Nat.le_of_ble_eq_true rfl, by exact True.intro⟩ (?_)
          refine rVR hG rfl rfl rfl ?_
          rw [← hi9]
          first | (rw [if_pos (by omega)]; rfl) | (rw [if_neg (by omega)]; rfl)
        · try simp only [xB_s, xN_s, xP_s, xS_s, xK_s, xV_s, xF_s, xR_s, xL_s, xA_s] at c2
          refine rRun hG 99999 ?_
          refine And.intro ⟨rfl, by exact Nat.le_of_ble_eq_true rfl, by exact True.intro⟩ (?_)
          refine rVR hG rfl rfl rfl ?_
          rw [← hi9]
          first | (rw [if_pos (by omega)]; rfl) | (rw [if_neg (by omega)]; rfl)
      · try simp only [xB_s, xN_s, xP_s, xS_s, xK_s, xV_s, xF_s, xR_s, xL_s, xA_s] at c1
        refine And.intro rfl (?_)
        refine rV hG (sp_X4_byteAt (uo := uo) (ux := (xSet ux i (xS ux) (xK ux) (xV ux) (xF ux))) (ua := ua) (ub := ub) (v0 := v0) (v1 := v1) (v2 := v2) (up := up) (uq := uq) (ur := ur) (i := i) (by omega) (by show inI (xN ux); omega)) rfl rfl lk_X4_116 mf_X4_byteAt (by decide) (Nat.le_of_ble_eq_true rfl) ⟨_, _, _, rfl, rfl, rfl⟩ ?_
        rintro w _ ⟨hw, rfl⟩
        obtain rfl : w = bAt (xB ux) (xN ux) i := hw
        refine rS hG (sp_X4_isLetter (e := bAt (xB ux) (xN ux) i) (by omega)) rfl rfl lk_X4_120 mf_X4_isLetter (by decide) (Nat.le_of_ble_eq_true rfl) ?_
        rintro v _ ⟨hv, rfl⟩
        have v1 : (v = 1 ∧ (97 ≤ bAt (xB ux) (xN ux) i ∧ bAt (xB ux) (xN ux) i ≤ 122)) ∨ (v = 0 ∧ ¬ (97 ≤ bAt (xB ux) (xN ux) i ∧ bAt (xB ux) (xN ux) i ≤ 122)) := (by rw [hv]; by_cases q9 : (97 ≤ bAt (xB ux) (xN ux) i ∧ bAt (xB ux) (xN ux) i ≤ 122) <;> simp [q9])
        clear hv
        refine rRun hG 38 ?_
        refine And.intro (by first | omega | (simp only [xB_s, xN_s, xP_s, xS_s, xK_s, xV_s, xF_s, xR_s, xL_s, xA_s]; omega)) (And.intro (fun c5 => ?_) (fun c5 => ?_))
        · try simp only [xB_s, xN_s, xP_s, xS_s, xK_s, xV_s, xF_s, xR_s, xL_s, xA_s] at c5
          have hi9 : i = runT pLt (xB ux) (xN ux) (xP ux) := by
            rw [← hinv.2]
            refine (runT_no ?_).symm
            rintro ⟨q1, q2⟩
            have q3 := of_decide_eq_true q2
            omega
          refine rRun hG 99999 ?_
          refine And.intro ⟨rfl, by exact Nat.le_of_ble_eq_true rfl, by exact True.intro⟩ (And.intro rfl (And.intro rfl (And.intro (by first | omega | (simp only [xB_s, xN_s, xP_s, xS_s, xK_s, xV_s, xF_s, xR_s, xL_s, xA_s]; omega)) (And.intro (fun c6 => ?_) (fun c6 => ?_)))))
          · try simp only [xB_s, xN_s, xP_s, xS_s, xK_s, xV_s, xF_s, xR_s, xL_s, xA_s] at c6
            refine rRun hG 99999 ?_
            refine And.intro ⟨rfl, by exact Nat.le_of_ble_eq_true rfl, by exact True.intro⟩ (?_)
            refine rVR hG rfl rfl rfl ?_
            rw [← hi9]
            first | (rw [if_pos (by omega)]; rfl) | (rw [if_neg (by omega)]; rfl)
          · try simp only [xB_s, xN_s, xP_s, xS_s, xK_s, xV_s, xF_s, xR_s, xL_s, xA_s] at c6
            refine rRun hG 99999 ?_
            refine And.intro ⟨rfl, by exact Nat.le_of_ble_eq_true rfl, by exact True.intro⟩ (?_)
            refine rVR hG rfl rfl rfl ?_
            rw [← hi9]
            first | (rw [if_pos (by omega)]; rfl) | (rw [if_neg (by omega)]; rfl)
        · try simp only [xB_s, xN_s, xP_s, xS_s, xK_s, xV_s, xF_s, xR_s, xL_s, xA_s] at c5
          refine And.intro rfl (And.intro ⟨rfl, by exact Nat.le_of_ble_eq_true rfl, by exact True.intro⟩ (?_))
          refine ih (i + 1) ⟨by omega, ?_⟩ (by omega)
          rw [← hinv.2]
          exact (runT_go (by omega) (by unfold pLt; exact decide_eq_true (by omega))).symm
  exact J0 _ (xP ux) ⟨by omega, rfl⟩ (Nat.lt_succ_self _)
set_option maxRecDepth 20000 in
set_option maxHeartbeats 1000000 in
theorem sp_X4_takeNumber {uo : UD} {ux : XD} {ua ub : TD} {v0 v1 v2 : SD} {up uq : PD} {ur : HD} {c : Int} (h1 : inI c) (hn : 0 ≤ xN ux ∧ xN ux ≤ 150) (hp : 0 ≤ xP ux ∧ xP ux ≤ xN ux) (hs : 0 ≤ xS ux ∧ xS ux ≤ 150) (hx : ∀ i, i < 150 → 0 ≤ xB ux i ∧ xB ux i ≤ 255) : SpV l 3 yX4_takeNumber cX4_takeNumber 3 none [mr 1, mi c] (hC uo ux ua ub v0 v1 v2 up uq ur) (fun h => h = hC uo (xSet ux (runT pDg (xB ux) (xN ux) (xP ux)) (xS ux) (if 99 < numT (xB ux) (xN ux) (xP ux) 0 ∨ (c = 48 ∧ 1 < runT pDg (xB ux) (xN ux) (xP ux) - xS ux) then 4 else 2) (numT (xB ux) (xN ux) (xP ux) 0) (xF ux)) ua ub v0 v1 v2 up uq ur) := by
  refine SpV.of (cd := kdX4_takeNumber) (fT := mlook flX4) (kT := mlook klX4) (kJ := mlook jlX4) mfA_X4_takeNumber ok_X4_takeNumber fT_X4 kT_X4 jT_X4 jdk_ok True.intro (Nat.le_of_ble_eq_true rfl) (fun G hG => ?_)
  refine rRun hG 5 ?_
  refine And.intro ⟨rfl, by exact Nat.le_of_ble_eq_true rfl, by exact True.intro⟩ (?_)
  have J5 : ∀ (n : Nat) (i v : Int), ((xP ux ≤ i ∧ i ≤ xN ux) ∧ (0 ≤ v ∧ v ≤ 100) ∧ runT pDg (xB ux) (xN ux) i = runT pDg (xB ux) (xN ux) (xP ux) ∧ numT (xB ux) (xN ux) i v = numT (xB ux) (xN ux) (xP ux) 0) → (xN ux - i).toNat < n → G 5 [some (mr 1), some (mi c), none] [] (hC uo (xSet ux i (xS ux) (xK ux) v (xF ux)) ua ub v0 v1 v2 up uq ur) := by
    intro n
    induction n with
    | zero => intro i v _ hm; exact absurd hm (Nat.not_lt_zero _)
    | succ n ih =>
      intro i v hinv hm
      have hb9 := bAt_in (x := ux) hx (n := xN ux) (i := i)
      refine rRun hG 71 ?_
      refine And.intro rfl (And.intro rfl (And.intro (by first | omega | (simp only [xB_s, xN_s, xP_s, xS_s, xK_s, xV_s, xF_s, xR_s, xL_s, xA_s]; omega)) (And.intro (fun c1 => ?_) (fun c1 => ?_))))
      · try simp only [xB_s, xN_s, xP_s, xS_s, xK_s, xV_s, xF_s, xR_s, xL_s, xA_s] at c1
        have hno : ¬ (i < xN ux ∧ pDg (bAt (xB ux) (xN ux) i) = true) := by
          rintro ⟨q1, q2⟩
          have q3 := of_decide_eq_true q2
          omega
        have hi9 : i = runT pDg (xB ux) (xN ux) (xP ux) := by
          rw [← hinv.2.2.1]; exact (runT_no hno).symm
        have hv8 : v = numT (xB ux) (xN ux) (xP ux) 0 := by
          rw [← hinv.2.2.2]; exact (numT_no hno).symm
        refine rRun hG 99999 ?_
        refine And.intro (by first | omega | (simp only [xB_s, xN_s, xP_s, xS_s, xK_s, xV_s, xF_s, xR_s, xL_s, xA_s]; omega)) (And.intro (fun cy => ?_) (fun cy => ?_))
        · try simp only [xB_s, xN_s, xP_s, xS_s, xK_s, xV_s, xF_s, xR_s, xL_s, xA_s] at cy
          refine rRun hG 99999 ?_
          refine And.intro rfl (And.intro (by first | omega | (simp only [xB_s, xN_s, xP_s, xS_s, xK_s, xV_s, xF_s, xR_s, xL_s, xA_s]; omega)) (And.intro (fun c2 => ?_) (fun c2 => ?_)))
          · try simp only [xB_s, xN_s, xP_s, xS_s, xK_s, xV_s, xF_s, xR_s, xL_s, xA_s] at c2
            refine rRun hG 99999 ?_
            refine rRun hG 99999 ?_
            refine And.intro ⟨rfl, by exact Nat.le_of_ble_eq_true rfl, by exact True.intro⟩ (?_)
            refine rVR hG rfl rfl rfl ?_
            first | (exfalso; omega) | (rw [← hi9, ← hv8, if_pos (by omega)]; rfl) | (rw [← hi9, ← hv8, if_neg (by omega)]; rfl)
          · try simp only [xB_s, xN_s, xP_s, xS_s, xK_s, xV_s, xF_s, xR_s, xL_s, xA_s] at c2
            refine And.intro (by first | omega | (simp only [xB_s, xN_s, xP_s, xS_s, xK_s, xV_s, xF_s, xR_s, xL_s, xA_s]; omega)) (And.intro (fun c3 => ?_) (fun c3 => ?_))
            · skip
              refine rRun hG 99999 ?_
              refine And.intro ⟨rfl, by exact Nat.le_of_ble_eq_true rfl, by exact True.intro⟩ (?_)
              refine rVR hG rfl rfl rfl ?_
              first | (exfalso; omega) | (rw [← hi9, ← hv8, if_pos (by omega)]; rfl) | (rw [← hi9, ← hv8, if_neg (by omega)]; rfl)
            · skip
              refine rRun hG 99999 ?_
              refine And.intro ⟨rfl, by exact Nat.le_of_ble_eq_true rfl, by exact True.intro⟩ (?_)
              refine rVR hG rfl rfl rfl ?_
              first | (exfalso; omega) | (rw [← hi9, ← hv8, if_pos (by omega)]; rfl) | (rw [← hi9, ← hv8, if_neg (by omega)]; rfl)
        · try simp only [xB_s, xN_s, xP_s, xS_s, xK_s, xV_s, xF_s, xR_s, xL_s, xA_s] at cy
          refine And.intro rfl (And.intro rfl (And.intro (by first | omega | (simp only [xB_s, xN_s, xP_s, xS_s, xK_s, xV_s, xF_s, xR_s, xL_s, xA_s]; omega)) (And.intro (fun c4 => ?_) (fun c4 => ?_))))
          · try simp only [xB_s, xN_s, xP_s, xS_s, xK_s, xV_s, xF_s, xR_s, xL_s, xA_s] at c4
            refine rRun hG 99999 ?_
            refine And.intro rfl (And.intro (by first | omega | (simp only [xB_s, xN_s, xP_s, xS_s, xK_s, xV_s, xF_s, xR_s, xL_s, xA_s]; omega)) (And.intro (fun c5 => ?_) (fun c5 => ?_)))
            · try simp only [xB_s, xN_s, xP_s, xS_s, xK_s, xV_s, xF_s, xR_s, xL_s, xA_s] at c5
              refine rRun hG 99999 ?_
              refine rRun hG 99999 ?_
              refine And.intro ⟨rfl, by exact Nat.le_of_ble_eq_true rfl, by exact True.intro⟩ (?_)
              refine rVR hG rfl rfl rfl ?_
              first | (exfalso; omega) | (rw [← hi9, ← hv8, if_pos (by omega)]; rfl) | (rw [← hi9, ← hv8, if_neg (by omega)]; rfl)
            · try simp only [xB_s, xN_s, xP_s, xS_s, xK_s, xV_s, xF_s, xR_s, xL_s, xA_s] at c5
              refine And.intro (by first | omega | (simp only [xB_s, xN_s, xP_s, xS_s, xK_s, xV_s, xF_s, xR_s, xL_s, xA_s]; omega)) (And.intro (fun c6 => ?_) (fun c6 => ?_))
              · skip
                refine rRun hG 99999 ?_
                refine And.intro ⟨rfl, by exact Nat.le_of_ble_eq_true rfl, by exact True.intro⟩ (?_)
                refine rVR hG rfl rfl rfl ?_
                first | (exfalso; omega) | (rw [← hi9, ← hv8, if_pos (by omega)]; rfl) | (rw [← hi9, ← hv8, if_neg (by omega)]; rfl)
              · skip
                refine rRun hG 99999 ?_
                refine And.intro ⟨rfl, by exact Nat.le_of_ble_eq_true rfl, by exact True.intro⟩ (?_)
                refine rVR hG rfl rfl rfl ?_
                first | (exfalso; omega) | (rw [← hi9, ← hv8, if_pos (by omega)]; rfl) | (rw [← hi9, ← hv8, if_neg (by omega)]; rfl)
          · try simp only [xB_s, xN_s, xP_s, xS_s, xK_s, xV_s, xF_s, xR_s, xL_s, xA_s] at c4
            refine rRun hG 99999 ?_
            refine And.intro rfl (And.intro (by first | omega | (simp only [xB_s, xN_s, xP_s, xS_s, xK_s, xV_s, xF_s, xR_s, xL_s, xA_s]; omega)) (And.intro (fun c7 => ?_) (fun c7 => ?_)))
            · try simp only [xB_s, xN_s, xP_s, xS_s, xK_s, xV_s, xF_s, xR_s, xL_s, xA_s] at c7
              refine rRun hG 99999 ?_
              refine rRun hG 99999 ?_
              refine And.intro ⟨rfl, by exact Nat.le_of_ble_eq_true rfl, by exact True.intro⟩ (?_)
              refine rVR hG rfl rfl rfl ?_
              first | (exfalso; omega) | (rw [← hi9, ← hv8, if_pos (by omega)]; rfl) | (rw [← hi9, ← hv8, if_neg (by omega)]; rfl)
            · try simp only [xB_s, xN_s, xP_s, xS_s, xK_s, xV_s, xF_s, xR_s, xL_s, xA_s] at c7
              refine And.intro (by first | omega | (simp only [xB_s, xN_s, xP_s, xS_s, xK_s, xV_s, xF_s, xR_s, xL_s, xA_s]; omega)) (And.intro (fun c8 => ?_) (fun c8 => ?_))
              · skip
                refine rRun hG 99999 ?_
                refine And.intro ⟨rfl, by exact Nat.le_of_ble_eq_true rfl, by exact True.intro⟩ (?_)
                refine rVR hG rfl rfl rfl ?_
                first | (exfalso; omega) | (rw [← hi9, ← hv8, if_pos (by omega)]; rfl) | (rw [← hi9, ← hv8, if_neg (by omega)]; rfl)
              · skip
                refine rRun hG 99999 ?_
                refine And.intro ⟨rfl, by exact Nat.le_of_ble_eq_true rfl, by exact True.intro⟩ (?_)
                refine rVR hG rfl rfl rfl ?_
                first | (exfalso; omega) | (rw [← hi9, ← hv8, if_pos (by omega)]; rfl) | (rw [← hi9, ← hv8, if_neg (by omega)]; rfl)
      · try simp only [xB_s, xN_s, xP_s, xS_s, xK_s, xV_s, xF_s, xR_s, xL_s, xA_s] at c1
        refine And.intro rfl (?_)
        refine rV hG (sp_X4_byteAt (uo := uo) (ux := (xSet ux i (xS ux) (xK ux) v (xF ux))) (ua := ua) (ub := ub) (v0 := v0) (v1 := v1) (v2 := v2) (up := up) (uq := uq) (ur := ur) (i := i) (by omega) (by show inI (xN ux); omega)) rfl rfl lk_X4_116 mf_X4_byteAt (by decide) (Nat.le_of_ble_eq_true rfl) ⟨_, _, _, rfl, rfl, rfl⟩ ?_
        rintro w _ ⟨hw, rfl⟩
        obtain rfl : w = bAt (xB ux) (xN ux) i := hw
        refine rS hG (sp_X4_isDigit (e := bAt (xB ux) (xN ux) i) (by omega)) rfl rfl lk_X4_127 mf_X4_isDigit (by decide) (Nat.le_of_ble_eq_true rfl) ?_
        rintro v9 _ ⟨hv, rfl⟩
        have v91 : (v9 = 1 ∧ (48 ≤ bAt (xB ux) (xN ux) i ∧ bAt (xB ux) (xN ux) i ≤ 57)) ∨ (v9 = 0 ∧ ¬ (48 ≤ bAt (xB ux) (xN ux) i ∧ bAt (xB ux) (xN ux) i ≤ 57)) := (by rw [hv]; by_cases q9 : (48 ≤ bAt (xB ux) (xN ux) i ∧ bAt (xB ux) (xN ux) i ≤ 57) <;> simp [q9])
        clear hv
        refine rRun hG 71 ?_
        refine And.intro (by first | omega | (simp only [xB_s, xN_s, xP_s, xS_s, xK_s, xV_s, xF_s, xR_s, xL_s, xA_s]; omega)) (And.intro (fun c11 => ?_) (fun c11 => ?_))
        · try simp only [xB_s, xN_s, xP_s, xS_s, xK_s, xV_s, xF_s, xR_s, xL_s, xA_s] at c11
          have hno : ¬ (i < xN ux ∧ pDg (bAt (xB ux) (xN ux) i) = true) := by
            rintro ⟨q1, q2⟩
            have q3 := of_decide_eq_true q2
            omega
          have hi9 : i = runT pDg (xB ux) (xN ux) (xP ux) := by
            rw [← hinv.2.2.1]; exact (runT_no hno).symm
          have hv8 : v = numT (xB ux) (xN ux) (xP ux) 0 := by
            rw [← hinv.2.2.2]; exact (numT_no hno).symm
          refine rRun hG 99999 ?_
          refine And.intro (by first | omega | (simp only [xB_s, xN_s, xP_s, xS_s, xK_s, xV_s, xF_s, xR_s, xL_s, xA_s]; omega)) (And.intro (fun cy => ?_) (fun cy => ?_))
          · try simp only [xB_s, xN_s, xP_s, xS_s, xK_s, xV_s, xF_s, xR_s, xL_s, xA_s] at cy
            refine rRun hG 99999 ?_
            refine And.intro rfl (And.intro (by first | omega | (simp only [xB_s, xN_s, xP_s, xS_s, xK_s, xV_s, xF_s, xR_s, xL_s, xA_s]; omega)) (And.intro (fun c12 => ?_) (fun c12 => ?_)))
            · try simp only [xB_s, xN_s, xP_s, xS_s, xK_s, xV_s, xF_s, xR_s, xL_s, xA_s] at c12
              refine rRun hG 99999 ?_
              refine rRun hG 99999 ?_
              refine And.intro ⟨rfl, by exact Nat.le_of_ble_eq_true rfl, by exact True.intro⟩ (?_)
              refine rVR hG rfl rfl rfl ?_
              first | (exfalso; omega) | (rw [← hi9, ← hv8, if_pos (by omega)]; rfl) | (rw [← hi9, ← hv8, if_neg (by omega)]; rfl)
            · try simp only [xB_s, xN_s, xP_s, xS_s, xK_s, xV_s, xF_s, xR_s, xL_s, xA_s] at c12
              refine And.intro (by first | omega | (simp only [xB_s, xN_s, xP_s, xS_s, xK_s, xV_s, xF_s, xR_s, xL_s, xA_s]; omega)) (And.intro (fun c13 => ?_) (fun c13 => ?_))
              · skip
                refine rRun hG 99999 ?_
                refine And.intro ⟨rfl, by exact Nat.le_of_ble_eq_true rfl, by exact True.intro⟩ (?_)
                refine rVR hG rfl rfl rfl ?_
                first | (exfalso; omega) | (rw [← hi9, ← hv8, if_pos (by omega)]; rfl) | (rw [← hi9, ← hv8, if_neg (by omega)]; rfl)
              · skip
                refine rRun hG 99999 ?_
                refine And.intro ⟨rfl, by exact Nat.le_of_ble_eq_true rfl, by exact True.intro⟩ (?_)
                refine rVR hG rfl rfl rfl ?_
                first | (exfalso; omega) | (rw [← hi9, ← hv8, if_pos (by omega)]; rfl) | (rw [← hi9, ← hv8, if_neg (by omega)]; rfl)
          · try simp only [xB_s, xN_s, xP_s, xS_s, xK_s, xV_s, xF_s, xR_s, xL_s, xA_s] at cy
            refine And.intro rfl (And.intro rfl (And.intro (by first | omega | (simp only [xB_s, xN_s, xP_s, xS_s, xK_s, xV_s, xF_s, xR_s, xL_s, xA_s]; omega)) (And.intro (fun c14 => ?_) (fun c14 => ?_))))
            · try simp only [xB_s, xN_s, xP_s, xS_s, xK_s, xV_s, xF_s, xR_s, xL_s, xA_s] at c14
              refine rRun hG 99999 ?_
              refine And.intro rfl (And.intro (by first | omega | (simp only [xB_s, xN_s, xP_s, xS_s, xK_s, xV_s, xF_s, xR_s, xL_s, xA_s]; omega)) (And.intro (fun c15 => ?_) (fun c15 => ?_)))
              · try simp only [xB_s, xN_s, xP_s, xS_s, xK_s, xV_s, xF_s, xR_s, xL_s, xA_s] at c15
                refine rRun hG 99999 ?_
                refine rRun hG 99999 ?_
                refine And.intro ⟨rfl, by exact Nat.le_of_ble_eq_true rfl, by exact True.intro⟩ (?_)
                refine rVR hG rfl rfl rfl ?_
                first | (exfalso; omega) | (rw [← hi9, ← hv8, if_pos (by omega)]; rfl) | (rw [← hi9, ← hv8, if_neg (by omega)]; rfl)
              · try simp only [xB_s, xN_s, xP_s, xS_s, xK_s, xV_s, xF_s, xR_s, xL_s, xA_s] at c15
                refine And.intro (by first | omega | (simp only [xB_s, xN_s, xP_s, xS_s, xK_s, xV_s, xF_s, xR_s, xL_s, xA_s]; omega)) (And.intro (fun c16 => ?_) (fun c16 => ?_))
                · skip
                  refine rRun hG 99999 ?_
                  refine And.intro ⟨rfl, by exact Nat.le_of_ble_eq_true rfl, by exact True.intro⟩ (?_)
                  refine rVR hG rfl rfl rfl ?_
                  first | (exfalso; omega) | (rw [← hi9, ← hv8, if_pos (by omega)]; rfl) | (rw [← hi9, ← hv8, if_neg (by omega)]; rfl)
                · skip
                  refine rRun hG 99999 ?_
                  refine And.intro ⟨rfl, by exact Nat.le_of_ble_eq_true rfl, by exact True.intro⟩ (?_)
                  refine rVR hG rfl rfl rfl ?_
                  first | (exfalso; omega) | (rw [← hi9, ← hv8, if_pos (by omega)]; rfl) | (rw [← hi9, ← hv8, if_neg (by omega)]; rfl)
            · try simp only [xB_s, xN_s, xP_s, xS_s, xK_s, xV_s, xF_s, xR_s, xL_s, xA_s] at c14
              refine rRun hG 99999 ?_
              refine And.intro rfl (And.intro (by first | omega | (simp only [xB_s, xN_s, xP_s, xS_s, xK_s, xV_s, xF_s, xR_s, xL_s, xA_s]; omega)) (And.intro (fun c17 => ?_) (fun c17 => ?_)))
              · try simp only [xB_s, xN_s, xP_s, xS_s, xK_s, xV_s, xF_s, xR_s, xL_s, xA_s] at c17
                refine rRun hG 99999 ?_
                refine rRun hG 99999 ?_
                refine And.intro ⟨rfl, by exact Nat.le_of_ble_eq_true rfl, by exact True.intro⟩ (?_)
                refine rVR hG rfl rfl rfl ?_
                first | (exfalso; omega) | (rw [← hi9, ← hv8, if_pos (by omega)]; rfl) | (rw [← hi9, ← hv8, if_neg (by omega)]; rfl)
              · try simp only [xB_s, xN_s, xP_s, xS_s, xK_s, xV_s, xF_s, xR_s, xL_s, xA_s] at c17
                refine And.intro (by first | omega | (simp only [xB_s, xN_s, xP_s, xS_s, xK_s, xV_s, xF_s, xR_s, xL_s, xA_s]; omega)) (And.intro (fun c18 => ?_) (fun c18 => ?_))
                · skip
                  refine rRun hG 99999 ?_
                  refine And.intro ⟨rfl, by exact Nat.le_of_ble_eq_true rfl, by exact True.intro⟩ (?_)
                  refine rVR hG rfl rfl rfl ?_
                  first | (exfalso; omega) | (rw [← hi9, ← hv8, if_pos (by omega)]; rfl) | (rw [← hi9, ← hv8, if_neg (by omega)]; rfl)
                · skip
                  refine rRun hG 99999 ?_
                  refine And.intro ⟨rfl, by exact Nat.le_of_ble_eq_true rfl, by exact True.intro⟩ (?_)
                  refine rVR hG rfl rfl rfl ?_
                  first | (exfalso; omega) | (rw [← hi9, ← hv8, if_pos (by omega)]; rfl) | (rw [← hi9, ← hv8, if_neg (by omega)]; rfl)
        · try simp only [xB_s, xN_s, xP_s, xS_s, xK_s, xV_s, xF_s, xR_s, xL_s, xA_s] at c11
          refine And.intro rfl (And.intro rfl (?_))
          refine rV hG (sp_X4_byteAt (uo := uo) (ux := (xSet ux i (xS ux) (xK ux) v (xF ux))) (ua := ua) (ub := ub) (v0 := v0) (v1 := v1) (v2 := v2) (up := up) (uq := uq) (ur := ur) (i := i) (by omega) (by show inI (xN ux); omega)) rfl rfl lk_X4_116 mf_X4_byteAt (by decide) (Nat.le_of_ble_eq_true rfl) ⟨_, _, _, rfl, rfl, rfl⟩ ?_
          rintro w _ ⟨hw, rfl⟩
          obtain rfl : w = bAt (xB ux) (xN ux) i := hw
          refine rRun hG 71 ?_
          refine rMin hG rfl rfl lk_X4_133 (by decide) (Nat.le_of_ble_eq_true rfl) (by first | omega | (simp only [xB_s, xN_s, xP_s, xS_s, xK_s, xV_s, xF_s, xR_s, xL_s, xA_s]; omega)) ?_
          refine rRun hG 71 ?_
          refine And.intro ⟨rfl, by exact Nat.le_of_ble_eq_true rfl, by exact True.intro⟩ (And.intro rfl (And.intro ⟨rfl, by exact Nat.le_of_ble_eq_true rfl, by exact True.intro⟩ (?_)))
          refine ih (i + 1) (min 100 (10 * v + bAt (xB ux) (xN ux) i - 48)) ⟨by omega, by omega, ?_, ?_⟩ (by omega)
          · rw [← hinv.2.2.1]
            exact (runT_go (by omega) (by unfold pDg; exact decide_eq_true (by omega))).symm
          · rw [← hinv.2.2.2]
            exact (numT_go (by omega) (by unfold pDg; exact decide_eq_true (by omega))).symm
  exact J5 _ (xP ux) 0 ⟨by omega, by omega, rfl, rfl⟩ (Nat.lt_succ_self _)
/-- the next token -/
def tSt (x : XD) : Int := runT pSp (xB x) (xN x) (xP x)
def tC (x : XD) : Int := bAt (xB x) (xN x) (tSt x)
def ntk (x : XD) : XD :=
  if tC x < 0 then xSet x (tSt x) (tSt x) 0 (xV x) (xF x)
  else if 97 ≤ tC x ∧ tC x ≤ 122 then xSet x (runT pLt (xB x) (xN x) (tSt x)) (tSt x) 1 (if runT pLt (xB x) (xN x) (tSt x) - tSt x = 1 then tC x else 0) (xF x)
  else if 48 ≤ tC x ∧ tC x ≤ 57 then xSet x (runT pDg (xB x) (xN x) (tSt x)) (tSt x) (if 99 < numT (xB x) (xN x) (tSt x) 0 ∨ (tC x = 48 ∧ 1 < runT pDg (xB x) (xN x) (tSt x) - tSt x) then 4 else 2) (numT (xB x) (xN x) (tSt x) 0) (xF x)
  else xSet x (tSt x + 1) (tSt x) (if tC x = 59 then 3 else 4) (xV x) (xF x)
theorem tSt_in {x : XD} (h : 0 ≤ xP x ∧ xP x ≤ xN x) : xP x ≤ tSt x ∧ tSt x ≤ xN x := runT_in h.2
theorem ntk_E {x : XD} {w i : Int} (hc : tC x = w) (hi : i = tSt x) (h : w < 0) : ntk x = xSet x i i 0 (xV x) (xF x) := by
  subst hc hi; unfold ntk; rw [if_pos h]
theorem ntk_L {x : XD} {w i : Int} (hc : tC x = w) (hi : i = tSt x) (h : 97 ≤ w ∧ w ≤ 122) : ntk x = xSet x (runT pLt (xB x) (xN x) i) i 1 (if runT pLt (xB x) (xN x) i - i = 1 then w else 0) (xF x) := by
  subst hc hi; unfold ntk; rw [if_neg (by omega), if_pos h]
theorem ntk_D {x : XD} {w i : Int} (hc : tC x = w) (hi : i = tSt x) (h : 48 ≤ w ∧ w ≤ 57) : ntk x = xSet x (runT pDg (xB x) (xN x) i) i (if 99 < numT (xB x) (xN x) i 0 ∨ (w = 48 ∧ 1 < runT pDg (xB x) (xN x) i - i) then 4 else 2) (numT (xB x) (xN x) i 0) (xF x) := by
  subst hc hi; unfold ntk; rw [if_neg (by omega), if_neg (by omega), if_pos h]
theorem ntk_S {x : XD} {w i : Int} (hc : tC x = w) (hi : i = tSt x) (h : w = 59) : ntk x = xSet x (i + 1) i 3 (xV x) (xF x) := by
  subst hc hi; unfold ntk; rw [if_neg (by omega), if_neg (by omega), if_neg (by omega), if_pos h]
theorem ntk_O {x : XD} {w i : Int} (hc : tC x = w) (hi : i = tSt x) (h : 0 ≤ w) (h1 : ¬ (97 ≤ w ∧ w ≤ 122)) (h2 : ¬ (48 ≤ w ∧ w ≤ 57)) (h3 : ¬ w = 59) : ntk x = xSet x (i + 1) i 4 (xV x) (xF x) := by
  subst hc hi; unfold ntk; rw [if_neg (by omega), if_neg (by omega), if_neg (by omega), if_neg h3]
theorem ntk_L0 {x : XD} {i c k v f : Int} : xSet (xSet x i i k v f) (runT pLt (xB (xSet x i i k v f)) (xN (xSet x i i k v f)) (xP (xSet x i i k v f))) (xS (xSet x i i k v f)) 1 (if runT pLt (xB (xSet x i i k v f)) (xN (xSet x i i k v f)) (xP (xSet x i i k v f)) - xS (xSet x i i k v f) = 1 then c else 0) (xF (xSet x i i k v f)) = xSet x (runT pLt (xB x) (xN x) i) i 1 (if runT pLt (xB x) (xN x) i - i = 1 then c else 0) f := rfl
theorem ntk_D0 {x : XD} {i c k v f : Int} : xSet (xSet x i i k v f) (runT pDg (xB (xSet x i i k v f)) (xN (xSet x i i k v f)) (xP (xSet x i i k v f))) (xS (xSet x i i k v f)) (if 99 < numT (xB (xSet x i i k v f)) (xN (xSet x i i k v f)) (xP (xSet x i i k v f)) 0 ∨ (c = 48 ∧ 1 < runT pDg (xB (xSet x i i k v f)) (xN (xSet x i i k v f)) (xP (xSet x i i k v f)) - xS (xSet x i i k v f)) then 4 else 2) (numT (xB (xSet x i i k v f)) (xN (xSet x i i k v f)) (xP (xSet x i i k v f)) 0) (xF (xSet x i i k v f)) = xSet x (runT pDg (xB x) (xN x) i) i (if 99 < numT (xB x) (xN x) i 0 ∨ (c = 48 ∧ 1 < runT pDg (xB x) (xN x) i - i) then 4 else 2) (numT (xB x) (xN x) i 0) f := rfl
theorem bAt_lt {b : FN} {n i : Int} (h : ¬ bAt b n i < 0) : i < n := by
  unfold bAt at h
  split at h
  · omega
  · omega
theorem tC_lt {x : XD} (h : ¬ tC x < 0) : tSt x < xN x := by
  unfold tC bAt at h
  split at h
  · omega
  · omega
set_option maxRecDepth 20000 in
set_option maxHeartbeats 1000000 in
theorem sp_X4_nextToken {uo : UD} {ux : XD} {ua ub : TD} {v0 v1 v2 : SD} {up uq : PD} {ur : HD}  (hn : 0 ≤ xN ux ∧ xN ux ≤ 150) (hp : 0 ≤ xP ux ∧ xP ux ≤ xN ux) (hs : 0 ≤ xS ux ∧ xS ux ≤ 150) (hx : ∀ i, i < 150 → 0 ≤ xB ux i ∧ xB ux i ≤ 255) : SpV l 4 yX4_nextToken cX4_nextToken 2 none [mr 1] (hC uo ux ua ub v0 v1 v2 up uq ur) (fun h => h = hC uo (ntk ux) ua ub v0 v1 v2 up uq ur) := by
  refine SpV.of (cd := kdX4_nextToken) (fT := mlook flX4) (kT := mlook klX4) (kJ := mlook jlX4) mfA_X4_nextToken ok_X4_nextToken fT_X4 kT_X4 jT_X4 jdk_ok True.intro (Nat.le_of_ble_eq_true rfl) (fun G hG => ?_)
  have J0 : ∀ (n : Nat) (i : Int), ((xP ux ≤ i ∧ i ≤ xN ux) ∧ runT pSp (xB ux) (xN ux) i = tSt ux) → (xN ux - i).toNat < n → G 0 [some (mr 1), none] [] (hC uo (xSet ux i (xS ux) (xK ux) (xV ux) (xF ux)) ua ub v0 v1 v2 up uq ur) := by
    intro n
    induction n with
    | zero => intro i _ hm; exact absurd hm (Nat.not_lt_zero _)
    | succ n ih =>
      intro i hinv hm
      have hb9 := bAt_in (x := ux) hx (n := xN ux) (i := i)
      refine rRun hG 37 ?_
      refine And.intro rfl (And.intro rfl (And.intro (by first | omega | (simp only [xB_s, xN_s, xP_s, xS_s, xK_s, xV_s, xF_s, xR_s, xL_s, xA_s]; omega)) (And.intro (fun c1 => ?_) (fun c1 => ?_))))
      · try simp only [xB_s, xN_s, xP_s, xS_s, xK_s, xV_s, xF_s, xR_s, xL_s, xA_s] at c1
        have hi9 : i = tSt ux := by
          rw [← hinv.2]
          refine (runT_no ?_).symm
          rintro ⟨q1, q2⟩
          have q3 : bAt (xB ux) (xN ux) i = 32 := beq_iff_eq.mp q2
          omega
        refine rRun hG 99999 ?_
        refine And.intro rfl (And.intro ⟨rfl, by exact Nat.le_of_ble_eq_true rfl, by exact True.intro⟩ (And.intro rfl (?_)))
        refine rV hG (sp_X4_byteAt (uo := uo) (ux := (xSet ux i i (xK ux) (xV ux) (xF ux))) (ua := ua) (ub := ub) (v0 := v0) (v1 := v1) (v2 := v2) (up := up) (uq := uq) (ur := ur) (i := i) (by omega) (by show inI (xN ux); omega)) rfl rfl lk_X4_116 mf_X4_byteAt (by decide) (Nat.le_of_ble_eq_true rfl) ⟨_, _, _, rfl, rfl, rfl⟩ ?_
        rintro w _ ⟨hw9, rfl⟩
        have hw : w = bAt (xB ux) (xN ux) i := hw9
        clear hw9
        have hc9 : -1 ≤ w ∧ w ≤ 255 := by rw [hw]; exact hb9
        have hl9 : ¬ w < 0 → i < xN ux := fun q => bAt_lt (by rw [← hw]; exact q)
        refine rRun hG 99999 ?_
        refine And.intro (by first | omega | (simp only [xB_s, xN_s, xP_s, xS_s, xK_s, xV_s, xF_s, xR_s, xL_s, xA_s]; omega)) (And.intro (fun cz => ?_) (fun cz => ?_))
        · try simp only [xB_s, xN_s, xP_s, xS_s, xK_s, xV_s, xF_s, xR_s, xL_s, xA_s] at cz
          refine rRun hG 99999 ?_
          refine rS hG (sp_X4_isLetter (e := w) (by omega)) rfl rfl lk_X4_120 mf_X4_isLetter (by decide) (Nat.le_of_ble_eq_true rfl) ?_
          rintro w1 _ ⟨hv, rfl⟩
          have w11 : (w1 = 1 ∧ (97 ≤ w ∧ w ≤ 122)) ∨ (w1 = 0 ∧ ¬ (97 ≤ w ∧ w ≤ 122)) := (by rw [hv]; by_cases q9 : (97 ≤ w ∧ w ≤ 122) <;> simp [q9])
          clear hv
          refine rRun hG 99999 ?_
          refine And.intro (by first | omega | (simp only [xB_s, xN_s, xP_s, xS_s, xK_s, xV_s, xF_s, xR_s, xL_s, xA_s]; omega)) (And.intro (fun c4 => ?_) (fun c4 => ?_))
          · try simp only [xB_s, xN_s, xP_s, xS_s, xK_s, xV_s, xF_s, xR_s, xL_s, xA_s] at c4
            refine rRun hG 99999 ?_
            refine rS hG (sp_X4_isDigit (e := w) (by omega)) rfl rfl lk_X4_127 mf_X4_isDigit (by decide) (Nat.le_of_ble_eq_true rfl) ?_
            rintro w2 _ ⟨hv, rfl⟩
            have w21 : (w2 = 1 ∧ (48 ≤ w ∧ w ≤ 57)) ∨ (w2 = 0 ∧ ¬ (48 ≤ w ∧ w ≤ 57)) := (by rw [hv]; by_cases q9 : (48 ≤ w ∧ w ≤ 57) <;> simp [q9])
            clear hv
            refine rRun hG 99999 ?_
            refine And.intro (by first | omega | (simp only [xB_s, xN_s, xP_s, xS_s, xK_s, xV_s, xF_s, xR_s, xL_s, xA_s]; omega)) (And.intro (fun c6 => ?_) (fun c6 => ?_))
            · try simp only [xB_s, xN_s, xP_s, xS_s, xK_s, xV_s, xF_s, xR_s, xL_s, xA_s] at c6
              refine rRun hG 99999 ?_
              refine And.intro (by first | omega | (simp only [xB_s, xN_s, xP_s, xS_s, xK_s, xV_s, xF_s, xR_s, xL_s, xA_s]; omega)) (And.intro (fun c7 => ?_) (fun c7 => ?_))
              · try simp only [xB_s, xN_s, xP_s, xS_s, xK_s, xV_s, xF_s, xR_s, xL_s, xA_s] at c7
                refine rRun hG 99999 ?_
                refine And.intro ⟨rfl, by exact Nat.le_of_ble_eq_true rfl, by exact True.intro⟩ (And.intro rfl (And.intro ⟨rfl, by exact Nat.le_of_ble_eq_true rfl, by exact True.intro⟩ (?_)))
                refine rVR hG rfl rfl rfl ?_
                have hC9 : tC ux = w := by
                  unfold tC; rw [← hi9]; exact hw.symm
                first | (rw [ntk_E hC9 hi9 (by omega)]; rfl) | (rw [ntk_L hC9 hi9 (by omega)]; done) | (rw [ntk_D hC9 hi9 (by omega)]; done) | (rw [ntk_S hC9 hi9 (by omega)]; rfl) | (rw [ntk_O hC9 hi9 (by omega) (by omega) (by omega) (by omega)]; rfl)
              · try simp only [xB_s, xN_s, xP_s, xS_s, xK_s, xV_s, xF_s, xR_s, xL_s, xA_s] at c7
                refine rRun hG 99999 ?_
                refine And.intro ⟨rfl, by exact Nat.le_of_ble_eq_true rfl, by exact True.intro⟩ (And.intro rfl (And.intro ⟨rfl, by exact Nat.le_of_ble_eq_true rfl, by exact True.intro⟩ (?_)))
                refine rVR hG rfl rfl rfl ?_
                have hC9 : tC ux = w := by
                  unfold tC; rw [← hi9]; exact hw.symm
                first | (rw [ntk_E hC9 hi9 (by omega)]; rfl) | (rw [ntk_L hC9 hi9 (by omega)]; done) | (rw [ntk_D hC9 hi9 (by omega)]; done) | (rw [ntk_S hC9 hi9 (by omega)]; rfl) | (rw [ntk_O hC9 hi9 (by omega) (by omega) (by omega) (by omega)]; rfl)
            · try simp only [xB_s, xN_s, xP_s, xS_s, xK_s, xV_s, xF_s, xR_s, xL_s, xA_s] at c6
              have hl8 := hl9 (by omega)
              refine rVV hG (sp_X4_takeNumber (uo := uo) (ux := (xSet ux i i (xK ux) (xV ux) (xF ux))) (ua := ua) (ub := ub) (v0 := v0) (v1 := v1) (v2 := v2) (up := up) (uq := uq) (ur := ur) (c := w) (by omega) hn (by show 0 ≤ i ∧ i ≤ xN ux; omega) (by show 0 ≤ i ∧ i ≤ 150; omega) hx) rfl rfl lk_X4_130 mf_X4_takeNumber (by decide) (Nat.le_of_ble_eq_true rfl) ⟨_, _, _, rfl, rfl, rfl⟩ ?_
              rintro _ rfl
              rw [ntk_D0]
              refine rRun hG 99999 ?_
              refine rVR hG rfl rfl rfl ?_
              have hC9 : tC ux = w := by
                unfold tC; rw [← hi9]; exact hw.symm
              first | (rw [ntk_E hC9 hi9 (by omega)]; rfl) | (rw [ntk_L hC9 hi9 (by omega)]; done) | (rw [ntk_D hC9 hi9 (by omega)]; done) | (rw [ntk_S hC9 hi9 (by omega)]; rfl) | (rw [ntk_O hC9 hi9 (by omega) (by omega) (by omega) (by omega)]; rfl)
          · try simp only [xB_s, xN_s, xP_s, xS_s, xK_s, xV_s, xF_s, xR_s, xL_s, xA_s] at c4
            have hl8 := hl9 (by omega)
            refine rVV hG (sp_X4_takeLetters (uo := uo) (ux := (xSet ux i i (xK ux) (xV ux) (xF ux))) (ua := ua) (ub := ub) (v0 := v0) (v1 := v1) (v2 := v2) (up := up) (uq := uq) (ur := ur) (c := w) (by omega) hn (by show 0 ≤ i ∧ i ≤ xN ux; omega) (by show 0 ≤ i ∧ i ≤ 150; omega) hx) rfl rfl lk_X4_124 mf_X4_takeLetters (by decide) (Nat.le_of_ble_eq_true rfl) ⟨_, _, _, rfl, rfl, rfl⟩ ?_
            rintro _ rfl
            rw [ntk_L0]
            refine rRun hG 99999 ?_
            refine rVR hG rfl rfl rfl ?_
            have hC9 : tC ux = w := by
              unfold tC; rw [← hi9]; exact hw.symm
            first | (rw [ntk_E hC9 hi9 (by omega)]; rfl) | (rw [ntk_L hC9 hi9 (by omega)]; done) | (rw [ntk_D hC9 hi9 (by omega)]; done) | (rw [ntk_S hC9 hi9 (by omega)]; rfl) | (rw [ntk_O hC9 hi9 (by omega) (by omega) (by omega) (by omega)]; rfl)
        · try simp only [xB_s, xN_s, xP_s, xS_s, xK_s, xV_s, xF_s, xR_s, xL_s, xA_s] at cz
          refine And.intro ⟨rfl, by exact Nat.le_of_ble_eq_true rfl, by exact True.intro⟩ (?_)
          refine rVR hG rfl rfl rfl ?_
          have hC9 : tC ux = w := by
            unfold tC; rw [← hi9]; exact hw.symm
          first | (rw [ntk_E hC9 hi9 (by omega)]; rfl) | (rw [ntk_L hC9 hi9 (by omega)]; done) | (rw [ntk_D hC9 hi9 (by omega)]; done) | (rw [ntk_S hC9 hi9 (by omega)]; rfl) | (rw [ntk_O hC9 hi9 (by omega) (by omega) (by omega) (by omega)]; rfl)
      · try simp only [xB_s, xN_s, xP_s, xS_s, xK_s, xV_s, xF_s, xR_s, xL_s, xA_s] at c1
        refine And.intro rfl (?_)
        refine rV hG (sp_X4_byteAt (uo := uo) (ux := (xSet ux i (xS ux) (xK ux) (xV ux) (xF ux))) (ua := ua) (ub := ub) (v0 := v0) (v1 := v1) (v2 := v2) (up := up) (uq := uq) (ur := ur) (i := i) (by omega) (by show inI (xN ux); omega)) rfl rfl lk_X4_116 mf_X4_byteAt (by decide) (Nat.le_of_ble_eq_true rfl) ⟨_, _, _, rfl, rfl, rfl⟩ ?_
        rintro w _ ⟨hw, rfl⟩
        obtain rfl : w = bAt (xB ux) (xN ux) i := hw
        refine rRun hG 37 ?_
        refine And.intro (by first | omega | (simp only [xB_s, xN_s, xP_s, xS_s, xK_s, xV_s, xF_s, xR_s, xL_s, xA_s]; omega)) (And.intro (fun c11 => ?_) (fun c11 => ?_))
        · try simp only [xB_s, xN_s, xP_s, xS_s, xK_s, xV_s, xF_s, xR_s, xL_s, xA_s] at c11
          have hi9 : i = tSt ux := by
            rw [← hinv.2]
            refine (runT_no ?_).symm
            rintro ⟨q1, q2⟩
            have q3 : bAt (xB ux) (xN ux) i = 32 := beq_iff_eq.mp q2
            omega
          refine rRun hG 99999 ?_
          refine And.intro rfl (And.intro ⟨rfl, by exact Nat.le_of_ble_eq_true rfl, by exact True.intro⟩ (And.intro rfl (?_)))
          refine rV hG (sp_X4_byteAt (uo := uo) (ux := (xSet ux i i (xK ux) (xV ux) (xF ux))) (ua := ua) (ub := ub) (v0 := v0) (v1 := v1) (v2 := v2) (up := up) (uq := uq) (ur := ur) (i := i) (by omega) (by show inI (xN ux); omega)) rfl rfl lk_X4_116 mf_X4_byteAt (by decide) (Nat.le_of_ble_eq_true rfl) ⟨_, _, _, rfl, rfl, rfl⟩ ?_
          rintro w _ ⟨hw9, rfl⟩
          have hw : w = bAt (xB ux) (xN ux) i := hw9
          clear hw9
          have hc9 : -1 ≤ w ∧ w ≤ 255 := by rw [hw]; exact hb9
          have hl9 : ¬ w < 0 → i < xN ux := fun q => bAt_lt (by rw [← hw]; exact q)
          refine rRun hG 99999 ?_
          refine And.intro (by first | omega | (simp only [xB_s, xN_s, xP_s, xS_s, xK_s, xV_s, xF_s, xR_s, xL_s, xA_s]; omega)) (And.intro (fun cz => ?_) (fun cz => ?_))
          · try simp only [xB_s, xN_s, xP_s, xS_s, xK_s, xV_s, xF_s, xR_s, xL_s, xA_s] at cz
            refine rRun hG 99999 ?_
            refine rS hG (sp_X4_isLetter (e := w) (by omega)) rfl rfl lk_X4_120 mf_X4_isLetter (by decide) (Nat.le_of_ble_eq_true rfl) ?_
            rintro w1 _ ⟨hv, rfl⟩
            have w11 : (w1 = 1 ∧ (97 ≤ w ∧ w ≤ 122)) ∨ (w1 = 0 ∧ ¬ (97 ≤ w ∧ w ≤ 122)) := (by rw [hv]; by_cases q9 : (97 ≤ w ∧ w ≤ 122) <;> simp [q9])
            clear hv
            refine rRun hG 99999 ?_
            refine And.intro (by first | omega | (simp only [xB_s, xN_s, xP_s, xS_s, xK_s, xV_s, xF_s, xR_s, xL_s, xA_s]; omega)) (And.intro (fun c14 => ?_) (fun c14 => ?_))
            · try simp only [xB_s, xN_s, xP_s, xS_s, xK_s, xV_s, xF_s, xR_s, xL_s, xA_s] at c14
              refine rRun hG 99999 ?_
              refine rS hG (sp_X4_isDigit (e := w) (by omega)) rfl rfl lk_X4_127 mf_X4_isDigit (by decide) (Nat.le_of_ble_eq_true rfl) ?_
              rintro w2 _ ⟨hv, rfl⟩
              have w21 : (w2 = 1 ∧ (48 ≤ w ∧ w ≤ 57)) ∨ (w2 = 0 ∧ ¬ (48 ≤ w ∧ w ≤ 57)) := (by rw [hv]; by_cases q9 : (48 ≤ w ∧ w ≤ 57) <;> simp [q9])
              clear hv
              refine rRun hG 99999 ?_
              refine And.intro (by first | omega | (simp only [xB_s, xN_s, xP_s, xS_s, xK_s, xV_s, xF_s, xR_s, xL_s, xA_s]; omega)) (And.intro (fun c16 => ?_) (fun c16 => ?_))
              · try simp only [xB_s, xN_s, xP_s, xS_s, xK_s, xV_s, xF_s, xR_s, xL_s, xA_s] at c16
                refine rRun hG 99999 ?_
                refine And.intro (by first | omega | (simp only [xB_s, xN_s, xP_s, xS_s, xK_s, xV_s, xF_s, xR_s, xL_s, xA_s]; omega)) (And.intro (fun c17 => ?_) (fun c17 => ?_))
                · try simp only [xB_s, xN_s, xP_s, xS_s, xK_s, xV_s, xF_s, xR_s, xL_s, xA_s] at c17
                  refine rRun hG 99999 ?_
                  refine And.intro ⟨rfl, by exact Nat.le_of_ble_eq_true rfl, by exact True.intro⟩ (And.intro rfl (And.intro ⟨rfl, by exact Nat.le_of_ble_eq_true rfl, by exact True.intro⟩ (?_)))
                  refine rVR hG rfl rfl rfl ?_
                  have hC9 : tC ux = w := by
                    unfold tC; rw [← hi9]; exact hw.symm
                  first | (rw [ntk_E hC9 hi9 (by omega)]; rfl) | (rw [ntk_L hC9 hi9 (by omega)]; done) | (rw [ntk_D hC9 hi9 (by omega)]; done) | (rw [ntk_S hC9 hi9 (by omega)]; rfl) | (rw [ntk_O hC9 hi9 (by omega) (by omega) (by omega) (by omega)]; rfl)
                · try simp only [xB_s, xN_s, xP_s, xS_s, xK_s, xV_s, xF_s, xR_s, xL_s, xA_s] at c17
                  refine rRun hG 99999 ?_
                  refine And.intro ⟨rfl, by exact Nat.le_of_ble_eq_true rfl, by exact True.intro⟩ (And.intro rfl (And.intro ⟨rfl, by exact Nat.le_of_ble_eq_true rfl, by exact True.intro⟩ (?_)))
                  refine rVR hG rfl rfl rfl ?_
                  have hC9 : tC ux = w := by
                    unfold tC; rw [← hi9]; exact hw.symm
                  first | (rw [ntk_E hC9 hi9 (by omega)]; rfl) | (rw [ntk_L hC9 hi9 (by omega)]; done) | (rw [ntk_D hC9 hi9 (by omega)]; done) | (rw [ntk_S hC9 hi9 (by omega)]; rfl) | (rw [ntk_O hC9 hi9 (by omega) (by omega) (by omega) (by omega)]; rfl)
              · try simp only [xB_s, xN_s, xP_s, xS_s, xK_s, xV_s, xF_s, xR_s, xL_s, xA_s] at c16
                have hl8 := hl9 (by omega)
                refine rVV hG (sp_X4_takeNumber (uo := uo) (ux := (xSet ux i i (xK ux) (xV ux) (xF ux))) (ua := ua) (ub := ub) (v0 := v0) (v1 := v1) (v2 := v2) (up := up) (uq := uq) (ur := ur) (c := w) (by omega) hn (by show 0 ≤ i ∧ i ≤ xN ux; omega) (by show 0 ≤ i ∧ i ≤ 150; omega) hx) rfl rfl lk_X4_130 mf_X4_takeNumber (by decide) (Nat.le_of_ble_eq_true rfl) ⟨_, _, _, rfl, rfl, rfl⟩ ?_
                rintro _ rfl
                rw [ntk_D0]
                refine rRun hG 99999 ?_
                refine rVR hG rfl rfl rfl ?_
                have hC9 : tC ux = w := by
                  unfold tC; rw [← hi9]; exact hw.symm
                first | (rw [ntk_E hC9 hi9 (by omega)]; rfl) | (rw [ntk_L hC9 hi9 (by omega)]; done) | (rw [ntk_D hC9 hi9 (by omega)]; done) | (rw [ntk_S hC9 hi9 (by omega)]; rfl) | (rw [ntk_O hC9 hi9 (by omega) (by omega) (by omega) (by omega)]; rfl)
            · try simp only [xB_s, xN_s, xP_s, xS_s, xK_s, xV_s, xF_s, xR_s, xL_s, xA_s] at c14
              have hl8 := hl9 (by omega)
              refine rVV hG (sp_X4_takeLetters (uo := uo) (ux := (xSet ux i i (xK ux) (xV ux) (xF ux))) (ua := ua) (ub := ub) (v0 := v0) (v1 := v1) (v2 := v2) (up := up) (uq := uq) (ur := ur) (c := w) (by omega) hn (by show 0 ≤ i ∧ i ≤ xN ux; omega) (by show 0 ≤ i ∧ i ≤ 150; omega) hx) rfl rfl lk_X4_124 mf_X4_takeLetters (by decide) (Nat.le_of_ble_eq_true rfl) ⟨_, _, _, rfl, rfl, rfl⟩ ?_
              rintro _ rfl
              rw [ntk_L0]
              refine rRun hG 99999 ?_
              refine rVR hG rfl rfl rfl ?_
              have hC9 : tC ux = w := by
                unfold tC; rw [← hi9]; exact hw.symm
              first | (rw [ntk_E hC9 hi9 (by omega)]; rfl) | (rw [ntk_L hC9 hi9 (by omega)]; done) | (rw [ntk_D hC9 hi9 (by omega)]; done) | (rw [ntk_S hC9 hi9 (by omega)]; rfl) | (rw [ntk_O hC9 hi9 (by omega) (by omega) (by omega) (by omega)]; rfl)
          · try simp only [xB_s, xN_s, xP_s, xS_s, xK_s, xV_s, xF_s, xR_s, xL_s, xA_s] at cz
            refine And.intro ⟨rfl, by exact Nat.le_of_ble_eq_true rfl, by exact True.intro⟩ (?_)
            refine rVR hG rfl rfl rfl ?_
            have hC9 : tC ux = w := by
              unfold tC; rw [← hi9]; exact hw.symm
            first | (rw [ntk_E hC9 hi9 (by omega)]; rfl) | (rw [ntk_L hC9 hi9 (by omega)]; done) | (rw [ntk_D hC9 hi9 (by omega)]; done) | (rw [ntk_S hC9 hi9 (by omega)]; rfl) | (rw [ntk_O hC9 hi9 (by omega) (by omega) (by omega) (by omega)]; rfl)
        · try simp only [xB_s, xN_s, xP_s, xS_s, xK_s, xV_s, xF_s, xR_s, xL_s, xA_s] at c11
          refine And.intro rfl (And.intro ⟨rfl, by exact Nat.le_of_ble_eq_true rfl, by exact True.intro⟩ (?_))
          refine ih (i + 1) ⟨by omega, ?_⟩ (by omega)
          rw [← hinv.2]
          exact (runT_go (by omega) (by unfold pSp; exact beq_iff_eq.mpr (by omega))).symm
  exact J0 _ (xP ux) ⟨by omega, rfl⟩ (Nat.lt_succ_self _)
end WALKS
end
section
/-! Text: items; Told is told -/
section WALKS
variable {l : Launch}
def tWipe (t : TD) : TD := (tSun t, tBri t, tTra t, 0, 0, 0, 20, 2, 3)
def tAddDay (t : TD) (s : Int) : TD := if 0 ≤ tDay t ∧ tDay t < 14 then (mup (tSun t) (tDay t).toNat s, tBri t, tTra t, tDay t + 1, tNB t, tNT t, tRst t, tLim t, tAdd t) else t
def tAddBri (t : TD) (d s p c : Int) : TD := if 0 ≤ 4 * tNB t ∧ 4 * tNB t + 3 < 24 then (tSun t, mup (mup (mup (mup (tBri t) (4 * tNB t).toNat d) (4 * tNB t + 1).toNat s) (4 * tNB t + 2).toNat p) (4 * tNB t + 3).toNat c, tTra t, tDay t, tNB t + 1, tNT t, tRst t, tLim t, tAdd t) else t
def tAddTra (t : TD) (w s : Int) : TD := if 0 ≤ 2 * tNT t ∧ 2 * tNT t + 1 < 8 then (tSun t, tBri t, mup (mup (tTra t) (2 * tNT t).toNat w) (2 * tNT t + 1).toNat s, tDay t, tNB t, tNT t + 1, tRst t, tLim t, tAdd t) else t
def tSetRst (t : TD) (v : Int) : TD := (tSun t, tBri t, tTra t, tDay t, tNB t, tNT t, v, tLim t, tAdd t)
def tSetLim (t : TD) (v : Int) : TD := (tSun t, tBri t, tTra t, tDay t, tNB t, tNT t, tRst t, v, tAdd t)
def tSetAdd (t : TD) (v : Int) : TD := (tSun t, tBri t, tTra t, tDay t, tNB t, tNT t, tRst t, tLim t, v)
theorem tsel_put {k : Bool} {ua ub t : TD} : t = tsel k (cond k ua t) (cond k t ub) := by cases k <;> rfl
theorem cput_a {k : Bool} {ua t t' : TD} : cond k (cond k ua t) t' = cond k ua t' := by cases k <;> rfl
theorem cput_b {k : Bool} {ub t t' : TD} : cond k t' (cond k t ub) = cond k t' ub := by cases k <;> rfl
theorem cput_0 {k : Bool} {ua ub t : TD} (h : t = tsel k ua ub) : cond k ua t = ua ∧ cond k t ub = ub := by cases k <;> exact ⟨by first | rfl | exact h, by first | rfl | exact h⟩
set_option maxRecDepth 20000 in
set_option maxHeartbeats 2000000 in
theorem sp_X5_wipe {uo : UD} {ux : XD} {ua ub : TD} {v0 v1 v2 : SD} {up uq : PD} {ur : HD} {k : Bool} {t : TD} (ht : t = tsel k ua ub)   : SpV l 1 yX5_wipe cX5_wipe 1 none [mr (tix k)] (hC uo ux ua ub v0 v1 v2 up uq ur) (fun h => h = hC uo ux (cond k ua (tWipe t)) (cond k (tWipe t) ub) v0 v1 v2 up uq ur) := by
  cases k
  · obtain rfl : t = ua := ht
    refine SpV.of (cd := kdX5_wipe) (fT := mlook flX5) (kT := mlook klX5) (kJ := mlook jlX5) mfA_X5_wipe ok_X5_wipe fT_X5 kT_X5 jT_X5 jdk_ok True.intro (Nat.le_of_ble_eq_true rfl) (fun G hG => ?_)
    refine rRun hG 99999 ?_
    refine And.intro ⟨rfl, by exact Nat.le_of_ble_eq_true rfl, by exact True.intro⟩ (And.intro ⟨rfl, by exact Nat.le_of_ble_eq_true rfl, by exact True.intro⟩ (And.intro ⟨rfl, by exact Nat.le_of_ble_eq_true rfl, by exact True.intro⟩ (And.intro ⟨rfl, by exact Nat.le_of_ble_eq_true rfl, by exact True.intro⟩ (And.intro ⟨rfl, by exact Nat.le_of_ble_eq_true rfl, by exact True.intro⟩ (And.intro ⟨rfl, by exact Nat.le_of_ble_eq_true rfl, by exact True.intro⟩ (?_))))))
    refine rVR hG rfl rfl rfl ?_
    rfl
  · obtain rfl : t = ub := ht
    refine SpV.of (cd := kdX5_wipe) (fT := mlook flX5) (kT := mlook klX5) (kJ := mlook jlX5) mfA_X5_wipe ok_X5_wipe fT_X5 kT_X5 jT_X5 jdk_ok True.intro (Nat.le_of_ble_eq_true rfl) (fun G hG => ?_)
    refine rRun hG 99999 ?_
    refine And.intro ⟨rfl, by exact Nat.le_of_ble_eq_true rfl, by exact True.intro⟩ (And.intro ⟨rfl, by exact Nat.le_of_ble_eq_true rfl, by exact True.intro⟩ (And.intro ⟨rfl, by exact Nat.le_of_ble_eq_true rfl, by exact True.intro⟩ (And.intro ⟨rfl, by exact Nat.le_of_ble_eq_true rfl, by exact True.intro⟩ (And.intro ⟨rfl, by exact Nat.le_of_ble_eq_true rfl, by exact True.intro⟩ (And.intro ⟨rfl, by exact Nat.le_of_ble_eq_true rfl, by exact True.intro⟩ (?_))))))
    refine rVR hG rfl rfl rfl ?_
    rfl
set_option maxRecDepth 20000 in
set_option maxHeartbeats 2000000 in
theorem sp_X5_addDay {uo : UD} {ux : XD} {ua ub : TD} {v0 v1 v2 : SD} {up uq : PD} {ur : HD} {k : Bool} {t : TD} (ht : t = tsel k ua ub) {s : Int} (h1 : inI (tDay t)) : SpV l 1 yX5_addDay cX5_addDay 2 none [mr (tix k), mi s] (hC uo ux ua ub v0 v1 v2 up uq ur) (fun h => h = hC uo ux (cond k ua (tAddDay t s)) (cond k (tAddDay t s) ub) v0 v1 v2 up uq ur) := by
  cases k
  · obtain rfl : t = ua := ht
    refine SpV.of (cd := kdX5_addDay) (fT := mlook flX5) (kT := mlook klX5) (kJ := mlook jlX5) mfA_X5_addDay ok_X5_addDay fT_X5 kT_X5 jT_X5 jdk_ok True.intro (Nat.le_of_ble_eq_true rfl) (fun G hG => ?_)
    refine rRun hG 99999 ?_
    refine And.intro rfl (And.intro (by first | omega | (simp only [xB_s, xN_s, xP_s, xS_s, xK_s, xV_s, xF_s, xR_s, xL_s, xA_s]; omega)) (And.intro (fun c1 => ?_) (fun c1 => ?_)))
    · try simp only [xB_s, xN_s, xP_s, xS_s, xK_s, xV_s, xF_s, xR_s, xL_s, xA_s] at c1
      refine rVR hG rfl rfl rfl ?_
      unfold tAddDay
      first | (rw [if_pos (by omega)]; rfl) | (rw [if_neg (by omega)]; rfl)
    · try simp only [xB_s, xN_s, xP_s, xS_s, xK_s, xV_s, xF_s, xR_s, xL_s, xA_s] at c1
      refine And.intro rfl (And.intro rfl (And.intro (by decide) (And.intro (by first | omega | (simp only [xB_s, xN_s, xP_s, xS_s, xK_s, xV_s, xF_s, xR_s, xL_s, xA_s]; omega)) (And.intro (fun c2 => ?_) (fun c2 => ?_)))))
      · try simp only [xB_s, xN_s, xP_s, xS_s, xK_s, xV_s, xF_s, xR_s, xL_s, xA_s] at c2
        refine rVR hG rfl rfl rfl ?_
        unfold tAddDay
        first | (rw [if_pos (by omega)]; rfl) | (rw [if_neg (by omega)]; rfl)
      · try simp only [xB_s, xN_s, xP_s, xS_s, xK_s, xV_s, xF_s, xR_s, xL_s, xA_s] at c2
        refine And.intro rfl (And.intro rfl (And.intro (by first | omega | (simp only [xB_s, xN_s, xP_s, xS_s, xK_s, xV_s, xF_s, xR_s, xL_s, xA_s]; omega)) (And.intro rfl (And.intro ⟨rfl, by exact Nat.le_of_ble_eq_true rfl, by exact True.intro⟩ (?_)))))
        refine rVR hG rfl rfl rfl ?_
        unfold tAddDay
        first | (rw [if_pos (by omega)]; rfl) | (rw [if_neg (by omega)]; rfl)
  · obtain rfl : t = ub := ht
    refine SpV.of (cd := kdX5_addDay) (fT := mlook flX5) (kT := mlook klX5) (kJ := mlook jlX5) mfA_X5_addDay ok_X5_addDay fT_X5 kT_X5 jT_X5 jdk_ok True.intro (Nat.le_of_ble_eq_true rfl) (fun G hG => ?_)
    refine rRun hG 99999 ?_
    refine And.intro rfl (And.intro (by first | omega | (simp only [xB_s, xN_s, xP_s, xS_s, xK_s, xV_s, xF_s, xR_s, xL_s, xA_s]; omega)) (And.intro (fun c1 => ?_) (fun c1 => ?_)))
    · try simp only [xB_s, xN_s, xP_s, xS_s, xK_s, xV_s, xF_s, xR_s, xL_s, xA_s] at c1
      refine rVR hG rfl rfl rfl ?_
      unfold tAddDay
      first | (rw [if_pos (by omega)]; rfl) | (rw [if_neg (by omega)]; rfl)
    · try simp only [xB_s, xN_s, xP_s, xS_s, xK_s, xV_s, xF_s, xR_s, xL_s, xA_s] at c1
      refine And.intro rfl (And.intro rfl (And.intro (by decide) (And.intro (by first | omega | (simp only [xB_s, xN_s, xP_s, xS_s, xK_s, xV_s, xF_s, xR_s, xL_s, xA_s]; omega)) (And.intro (fun c2 => ?_) (fun c2 => ?_)))))
      · try simp only [xB_s, xN_s, xP_s, xS_s, xK_s, xV_s, xF_s, xR_s, xL_s, xA_s] at c2
        refine rVR hG rfl rfl rfl ?_
        unfold tAddDay
        first | (rw [if_pos (by omega)]; rfl) | (rw [if_neg (by omega)]; rfl)
      · try simp only [xB_s, xN_s, xP_s, xS_s, xK_s, xV_s, xF_s, xR_s, xL_s, xA_s] at c2
        refine And.intro rfl (And.intro rfl (And.intro (by first | omega | (simp only [xB_s, xN_s, xP_s, xS_s, xK_s, xV_s, xF_s, xR_s, xL_s, xA_s]; omega)) (And.intro rfl (And.intro ⟨rfl, by exact Nat.le_of_ble_eq_true rfl, by exact True.intro⟩ (?_)))))
        refine rVR hG rfl rfl rfl ?_
        unfold tAddDay
        first | (rw [if_pos (by omega)]; rfl) | (rw [if_neg (by omega)]; rfl)
set_option maxRecDepth 20000 in
set_option maxHeartbeats 2000000 in
theorem sp_X5_addBribe {uo : UD} {ux : XD} {ua ub : TD} {v0 v1 v2 : SD} {up uq : PD} {ur : HD} {k : Bool} {t : TD} (ht : t = tsel k ua ub) {d s p c : Int} (h1 : 0 ≤ tNB t ∧ tNB t ≤ 100) : SpV l 1 yX5_addBribe cX5_addBribe 6 none [mr (tix k), mi d, mi s, mi p, mi c] (hC uo ux ua ub v0 v1 v2 up uq ur) (fun h => h = hC uo ux (cond k ua (tAddBri t d s p c)) (cond k (tAddBri t d s p c) ub) v0 v1 v2 up uq ur) := by
  cases k
  · obtain rfl : t = ua := ht
    refine SpV.of (cd := kdX5_addBribe) (fT := mlook flX5) (kT := mlook klX5) (kJ := mlook jlX5) mfA_X5_addBribe ok_X5_addBribe fT_X5 kT_X5 jT_X5 jdk_ok True.intro (Nat.le_of_ble_eq_true rfl) (fun G hG => ?_)
    refine rRun hG 99999 ?_
    refine And.intro rfl (And.intro (by first | omega | (simp only [xB_s, xN_s, xP_s, xS_s, xK_s, xV_s, xF_s, xR_s, xL_s, xA_s]; omega)) (And.intro (fun c1 => ?_) (fun c1 => ?_)))
    · try simp only [xB_s, xN_s, xP_s, xS_s, xK_s, xV_s, xF_s, xR_s, xL_s, xA_s] at c1
      refine rVR hG rfl rfl rfl ?_
      unfold tAddBri
      first | (rw [if_pos (by omega)]; rfl) | (rw [if_neg (by omega)]; rfl)
    · try simp only [xB_s, xN_s, xP_s, xS_s, xK_s, xV_s, xF_s, xR_s, xL_s, xA_s] at c1
      refine And.intro rfl (And.intro (by decide) (And.intro (by first | omega | (simp only [xB_s, xN_s, xP_s, xS_s, xK_s, xV_s, xF_s, xR_s, xL_s, xA_s]; omega)) (And.intro (fun c2 => ?_) (fun c2 => ?_))))
      · try simp only [xB_s, xN_s, xP_s, xS_s, xK_s, xV_s, xF_s, xR_s, xL_s, xA_s] at c2
        refine rVR hG rfl rfl rfl ?_
        unfold tAddBri
        first | (rw [if_pos (by omega)]; rfl) | (rw [if_neg (by omega)]; rfl)
      · try simp only [xB_s, xN_s, xP_s, xS_s, xK_s, xV_s, xF_s, xR_s, xL_s, xA_s] at c2
        refine And.intro rfl (And.intro (by first | omega | (simp only [xB_s, xN_s, xP_s, xS_s, xK_s, xV_s, xF_s, xR_s, xL_s, xA_s]; omega)) (And.intro rfl (And.intro (by first | omega | (simp only [xB_s, xN_s, xP_s, xS_s, xK_s, xV_s, xF_s, xR_s, xL_s, xA_s]; omega)) (And.intro rfl (And.intro (by first | omega | (simp only [xB_s, xN_s, xP_s, xS_s, xK_s, xV_s, xF_s, xR_s, xL_s, xA_s]; omega)) (And.intro rfl (And.intro (by first | omega | (simp only [xB_s, xN_s, xP_s, xS_s, xK_s, xV_s, xF_s, xR_s, xL_s, xA_s]; omega)) (And.intro rfl (And.intro ⟨rfl, by exact Nat.le_of_ble_eq_true rfl, by exact True.intro⟩ (?_))))))))))
        refine rVR hG rfl rfl rfl ?_
        unfold tAddBri
        first | (rw [if_pos (by omega)]; rfl) | (rw [if_neg (by omega)]; rfl)
  · obtain rfl : t = ub := ht
    refine SpV.of (cd := kdX5_addBribe) (fT := mlook flX5) (kT := mlook klX5) (kJ := mlook jlX5) mfA_X5_addBribe ok_X5_addBribe fT_X5 kT_X5 jT_X5 jdk_ok True.intro (Nat.le_of_ble_eq_true rfl) (fun G hG => ?_)
    refine rRun hG 99999 ?_
    refine And.intro rfl (And.intro (by first | omega | (simp only [xB_s, xN_s, xP_s, xS_s, xK_s, xV_s, xF_s, xR_s, xL_s, xA_s]; omega)) (And.intro (fun c1 => ?_) (fun c1 => ?_)))
    · try simp only [xB_s, xN_s, xP_s, xS_s, xK_s, xV_s, xF_s, xR_s, xL_s, xA_s] at c1
      refine rVR hG rfl rfl rfl ?_
      unfold tAddBri
      first | (rw [if_pos (by omega)]; rfl) | (rw [if_neg (by omega)]; rfl)
    · try simp only [xB_s, xN_s, xP_s, xS_s, xK_s, xV_s, xF_s, xR_s, xL_s, xA_s] at c1
      refine And.intro rfl (And.intro (by decide) (And.intro (by first | omega | (simp only [xB_s, xN_s, xP_s, xS_s, xK_s, xV_s, xF_s, xR_s, xL_s, xA_s]; omega)) (And.intro (fun c2 => ?_) (fun c2 => ?_))))
      · try simp only [xB_s, xN_s, xP_s, xS_s, xK_s, xV_s, xF_s, xR_s, xL_s, xA_s] at c2
        refine rVR hG rfl rfl rfl ?_
        unfold tAddBri
        first | (rw [if_pos (by omega)]; rfl) | (rw [if_neg (by omega)]; rfl)
      · try simp only [xB_s, xN_s, xP_s, xS_s, xK_s, xV_s, xF_s, xR_s, xL_s, xA_s] at c2
        refine And.intro rfl (And.intro (by first | omega | (simp only [xB_s, xN_s, xP_s, xS_s, xK_s, xV_s, xF_s, xR_s, xL_s, xA_s]; omega)) (And.intro rfl (And.intro (by first | omega | (simp only [xB_s, xN_s, xP_s, xS_s, xK_s, xV_s, xF_s, xR_s, xL_s, xA_s]; omega)) (And.intro rfl (And.intro (by first | omega | (simp only [xB_s, xN_s, xP_s, xS_s, xK_s, xV_s, xF_s, xR_s, xL_s, xA_s]; omega)) (And.intro rfl (And.intro (by first | omega | (simp only [xB_s, xN_s, xP_s, xS_s, xK_s, xV_s, xF_s, xR_s, xL_s, xA_s]; omega)) (And.intro rfl (And.intro ⟨rfl, by exact Nat.le_of_ble_eq_true rfl, by exact True.intro⟩ (?_))))))))))
        refine rVR hG rfl rfl rfl ?_
        unfold tAddBri
        first | (rw [if_pos (by omega)]; rfl) | (rw [if_neg (by omega)]; rfl)
set_option maxRecDepth 20000 in
set_option maxHeartbeats 2000000 in
theorem sp_X5_addTrade {uo : UD} {ux : XD} {ua ub : TD} {v0 v1 v2 : SD} {up uq : PD} {ur : HD} {k : Bool} {t : TD} (ht : t = tsel k ua ub) {w s : Int} (h1 : 0 ≤ tNT t ∧ tNT t ≤ 100) : SpV l 1 yX5_addTrade cX5_addTrade 4 none [mr (tix k), mi w, mi s] (hC uo ux ua ub v0 v1 v2 up uq ur) (fun h => h = hC uo ux (cond k ua (tAddTra t w s)) (cond k (tAddTra t w s) ub) v0 v1 v2 up uq ur) := by
  cases k
  · obtain rfl : t = ua := ht
    refine SpV.of (cd := kdX5_addTrade) (fT := mlook flX5) (kT := mlook klX5) (kJ := mlook jlX5) mfA_X5_addTrade ok_X5_addTrade fT_X5 kT_X5 jT_X5 jdk_ok True.intro (Nat.le_of_ble_eq_true rfl) (fun G hG => ?_)
    refine rRun hG 99999 ?_
    refine And.intro rfl (And.intro (by first | omega | (simp only [xB_s, xN_s, xP_s, xS_s, xK_s, xV_s, xF_s, xR_s, xL_s, xA_s]; omega)) (And.intro (fun c1 => ?_) (fun c1 => ?_)))
    · try simp only [xB_s, xN_s, xP_s, xS_s, xK_s, xV_s, xF_s, xR_s, xL_s, xA_s] at c1
      refine rVR hG rfl rfl rfl ?_
      unfold tAddTra
      first | (rw [if_pos (by omega)]; rfl) | (rw [if_neg (by omega)]; rfl)
    · try simp only [xB_s, xN_s, xP_s, xS_s, xK_s, xV_s, xF_s, xR_s, xL_s, xA_s] at c1
      refine And.intro rfl (And.intro (by decide) (And.intro (by first | omega | (simp only [xB_s, xN_s, xP_s, xS_s, xK_s, xV_s, xF_s, xR_s, xL_s, xA_s]; omega)) (And.intro (fun c2 => ?_) (fun c2 => ?_))))
      · try simp only [xB_s, xN_s, xP_s, xS_s, xK_s, xV_s, xF_s, xR_s, xL_s, xA_s] at c2
        refine rVR hG rfl rfl rfl ?_
        unfold tAddTra
        first | (rw [if_pos (by omega)]; rfl) | (rw [if_neg (by omega)]; rfl)
      · try simp only [xB_s, xN_s, xP_s, xS_s, xK_s, xV_s, xF_s, xR_s, xL_s, xA_s] at c2
        refine And.intro rfl (And.intro (by first | omega | (simp only [xB_s, xN_s, xP_s, xS_s, xK_s, xV_s, xF_s, xR_s, xL_s, xA_s]; omega)) (And.intro rfl (And.intro (by first | omega | (simp only [xB_s, xN_s, xP_s, xS_s, xK_s, xV_s, xF_s, xR_s, xL_s, xA_s]; omega)) (And.intro rfl (And.intro ⟨rfl, by exact Nat.le_of_ble_eq_true rfl, by exact True.intro⟩ (?_))))))
        refine rVR hG rfl rfl rfl ?_
        unfold tAddTra
        first | (rw [if_pos (by omega)]; rfl) | (rw [if_neg (by omega)]; rfl)
  · obtain rfl : t = ub := ht
    refine SpV.of (cd := kdX5_addTrade) (fT := mlook flX5) (kT := mlook klX5) (kJ := mlook jlX5) mfA_X5_addTrade ok_X5_addTrade fT_X5 kT_X5 jT_X5 jdk_ok True.intro (Nat.le_of_ble_eq_true rfl) (fun G hG => ?_)
    refine rRun hG 99999 ?_
    refine And.intro rfl (And.intro (by first | omega | (simp only [xB_s, xN_s, xP_s, xS_s, xK_s, xV_s, xF_s, xR_s, xL_s, xA_s]; omega)) (And.intro (fun c1 => ?_) (fun c1 => ?_)))
    · try simp only [xB_s, xN_s, xP_s, xS_s, xK_s, xV_s, xF_s, xR_s, xL_s, xA_s] at c1
      refine rVR hG rfl rfl rfl ?_
      unfold tAddTra
      first | (rw [if_pos (by omega)]; rfl) | (rw [if_neg (by omega)]; rfl)
    · try simp only [xB_s, xN_s, xP_s, xS_s, xK_s, xV_s, xF_s, xR_s, xL_s, xA_s] at c1
      refine And.intro rfl (And.intro (by decide) (And.intro (by first | omega | (simp only [xB_s, xN_s, xP_s, xS_s, xK_s, xV_s, xF_s, xR_s, xL_s, xA_s]; omega)) (And.intro (fun c2 => ?_) (fun c2 => ?_))))
      · try simp only [xB_s, xN_s, xP_s, xS_s, xK_s, xV_s, xF_s, xR_s, xL_s, xA_s] at c2
        refine rVR hG rfl rfl rfl ?_
        unfold tAddTra
        first | (rw [if_pos (by omega)]; rfl) | (rw [if_neg (by omega)]; rfl)
      · try simp only [xB_s, xN_s, xP_s, xS_s, xK_s, xV_s, xF_s, xR_s, xL_s, xA_s] at c2
        refine And.intro rfl (And.intro (by first | omega | (simp only [xB_s, xN_s, xP_s, xS_s, xK_s, xV_s, xF_s, xR_s, xL_s, xA_s]; omega)) (And.intro rfl (And.intro (by first | omega | (simp only [xB_s, xN_s, xP_s, xS_s, xK_s, xV_s, xF_s, xR_s, xL_s, xA_s]; omega)) (And.intro rfl (And.intro ⟨rfl, by exact Nat.le_of_ble_eq_true rfl, by exact True.intro⟩ (?_))))))
        refine rVR hG rfl rfl rfl ?_
        unfold tAddTra
        first | (rw [if_pos (by omega)]; rfl) | (rw [if_neg (by omega)]; rfl)
def xFl (x : XD) : XD := xSet x (xP x) (xS x) (xK x) (xV x) (xS x)
def rfs (c : Int) (x : XD) : XD := if c = 0 then x else xFl x
def numX (lo hi : Int) (x : XD) : XD := if xF x = -1 then (if xK (ntk x) = 2 ∧ lo ≤ xV (ntk x) ∧ xV (ntk x) ≤ hi then ntk x else xFl (ntk x)) else x
def numR (lo : Int) (x : XD) : Int := if xF x = -1 then xV (ntk x) else lo
def stpX (x : XD) : XD := if xF x = -1 then (if xK (ntk x) = 3 then ntk x else xFl (ntk x)) else x
theorem XOK_set {x : XD} (h : XOK x) {p s k v f : Int} (hp : 0 ≤ p ∧ p ≤ xN x) (hs : 0 ≤ s ∧ s ≤ 150) (hk : 0 ≤ k ∧ k ≤ 4) (hv : 0 ≤ v ∧ v ≤ 255) (hf : -1 ≤ f ∧ f ≤ 150) : XOK (xSet x p s k v f) := ⟨h.1, hp, hs, hk, hv, hf, h.2.2.2.2.2.2⟩
theorem XOK_ntk {x : XD} (h : XOK x) : XOK (ntk x) := by
  obtain ⟨h1, h2, h3, h4, h5, h6, h7⟩ := id h
  have ht := tSt_in h2
  have hc := bAt_in (x := x) h7 (n := xN x) (i := tSt x)
  unfold ntk
  split
  · exact XOK_set h (by omega) (by omega) (by omega) (by omega) (by omega)
  · rename_i q
    have hl := tC_lt q
    split
    · have hr := runT_in (P := pLt) (b := xB x) (n := xN x) (i := tSt x) (by omega)
      refine XOK_set h (by omega) (by omega) (by omega) ?_ (by omega)
      split
      · omega
      · omega
    · split
      · have hr := runT_in (P := pDg) (b := xB x) (n := xN x) (i := tSt x) (by omega)
        have hn := numE_in (b := xB x) (n := xN x) (f := (xN x - tSt x).toNat) (i := tSt x) (v := 0) (by omega)
        refine XOK_set h (by omega) (by omega) ?_ (by show 0 ≤ numE _ _ _ _ _ ∧ numE _ _ _ _ _ ≤ 255; omega) (by omega)
        split <;> omega
      · refine XOK_set h (by omega) (by omega) ?_ (by omega) (by omega)
        split <;> omega
theorem XOK_fl {x : XD} (h : XOK x) : XOK (xFl x) := by
  obtain ⟨h1, h2, h3, h4, h5, h6, h7⟩ := id h
  exact XOK_set h h2 h3 h4 h5 (by omega)
theorem XOK_rfs {x : XD} (h : XOK x) {c : Int} : XOK (rfs c x) := by
  unfold rfs
  split
  · exact h
  · exact XOK_fl h
theorem XOK_num {x : XD} (h : XOK x) {lo hi : Int} : XOK (numX lo hi x) := by
  unfold numX
  split
  · split
    · exact XOK_ntk h
    · exact XOK_fl (XOK_ntk h)
  · exact h
theorem XOK_stp {x : XD} (h : XOK x) : XOK (stpX x) := by
  unfold stpX
  split
  · split
    · exact XOK_ntk h
    · exact XOK_fl (XOK_ntk h)
  · exact h
set_option maxRecDepth 20000 in
set_option maxHeartbeats 1000000 in
theorem sp_X4_refuseIf {uo : UD} {ux : XD} {ua ub : TD} {v0 v1 v2 : SD} {up uq : PD} {ur : HD} {c : Int} (h1 : inI c) : SpV l 1 yX4_refuseIf cX4_refuseIf 2 none [mr 1, mi c] (hC uo ux ua ub v0 v1 v2 up uq ur) (fun h => h = hC uo (rfs c ux) ua ub v0 v1 v2 up uq ur) := by
  refine SpV.of (cd := kdX4_refuseIf) (fT := mlook flX4) (kT := mlook klX4) (kJ := mlook jlX4) mfA_X4_refuseIf ok_X4_refuseIf fT_X4 kT_X4 jT_X4 jdk_ok True.intro (Nat.le_of_ble_eq_true rfl) (fun G hG => ?_)
  refine rRun hG 99999 ?_
  refine And.intro (by first | omega | (simp only [xB_s, xN_s, xP_s, xS_s, xK_s, xV_s, xF_s, xR_s, xL_s, xA_s]; omega)) (And.intro (fun c1 => ?_) (fun c1 => ?_))
  · try simp only [xB_s, xN_s, xP_s, xS_s, xK_s, xV_s, xF_s, xR_s, xL_s, xA_s] at c1
    refine rVR hG rfl rfl rfl ?_
    unfold rfs
    first | rw [if_pos c1] | (rw [if_neg c1]; rfl)
  · try simp only [xB_s, xN_s, xP_s, xS_s, xK_s, xV_s, xF_s, xR_s, xL_s, xA_s] at c1
    refine And.intro rfl (And.intro ⟨rfl, by exact Nat.le_of_ble_eq_true rfl, by exact True.intro⟩ (?_))
    refine rVR hG rfl rfl rfl ?_
    unfold rfs
    first | rw [if_pos c1] | (rw [if_neg c1]; rfl)
set_option maxRecDepth 20000 in
set_option maxHeartbeats 1000000 in
theorem sp_X4_number {uo : UD} {ux : XD} {ua ub : TD} {v0 v1 v2 : SD} {up uq : PD} {ur : HD} {lo hi : Int} (hX : XOK ux) (h1 : 0 ≤ lo ∧ lo ≤ 100) (h2 : 0 ≤ hi ∧ hi ≤ 100) : SpI l 5 yX4_number cX4_number 3 (some .int) [mr 1, mi lo, mi hi] (hC uo ux ua ub v0 v1 v2 up uq ur) (fun z h => z = numR lo ux ∧ h = hC uo (numX lo hi ux) ua ub v0 v1 v2 up uq ur) := by
  have hx1 := hX.1
  have hx2 := hX.2.1
  have hx3 := hX.2.2.1
  have hx4 := hX.2.2.2.1
  have hx5 := hX.2.2.2.2.1
  have hx6 := hX.2.2.2.2.2.1
  have hy := XOK_ntk hX
  have hy4 := hy.2.2.2.1
  have hy5 := hy.2.2.2.2.1
  refine SpI.of (cd := kdX4_number) (fT := mlook flX4) (kT := mlook klX4) (kJ := mlook jlX4) mfA_X4_number ok_X4_number fT_X4 kT_X4 jT_X4 jdk_ok True.intro (Nat.le_of_ble_eq_true rfl) (fun G hG => ?_)
  refine rRun hG 99999 ?_
  refine And.intro rfl (And.intro (by first | omega | (simp only [xB_s, xN_s, xP_s, xS_s, xK_s, xV_s, xF_s, xR_s, xL_s, xA_s]; omega)) (And.intro (fun c1 => ?_) (fun c1 => ?_)))
  · try simp only [xB_s, xN_s, xP_s, xS_s, xK_s, xV_s, xF_s, xR_s, xL_s, xA_s] at c1
    refine rRun hG 99999 ?_
    refine rVV hG (sp_X4_nextToken (uo := uo) (ux := ux) (ua := ua) (ub := ub) (v0 := v0) (v1 := v1) (v2 := v2) (up := up) (uq := uq) (ur := ur) (hX).1 (hX).2.1 (hX).2.2.1 (hX).2.2.2.2.2.2) rfl rfl lk_X4_48 mf_X4_nextToken (by decide) (Nat.le_of_ble_eq_true rfl) ⟨_, _, _, rfl, rfl, rfl⟩ ?_
    rintro _ rfl
    refine rRun hG 99999 ?_
    refine And.intro rfl (And.intro (by first | omega | (simp only [xB_s, xN_s, xP_s, xS_s, xK_s, xV_s, xF_s, xR_s, xL_s, xA_s]; omega)) (And.intro (fun c3 => ?_) (fun c3 => ?_)))
    · try simp only [xB_s, xN_s, xP_s, xS_s, xK_s, xV_s, xF_s, xR_s, xL_s, xA_s] at c3
      refine rRun hG 99999 ?_
      refine rVV hG (sp_X4_refuseIf (uo := uo) (ux := (ntk ux)) (ua := ua) (ub := ub) (v0 := v0) (v1 := v1) (v2 := v2) (up := up) (uq := uq) (ur := ur) (c := 1) (by omega)) rfl rfl lk_X4_77 mf_X4_refuseIf (by decide) (Nat.le_of_ble_eq_true rfl) ⟨_, _, _, rfl, rfl, rfl⟩ ?_
      rintro _ rfl
      refine rRun hG 99999 ?_
      refine And.intro rfl (?_)
      refine rIR hG rfl rfl (True.intro) ?_
      have e0 : rfs 1 (ntk ux) = xFl (ntk ux) := if_neg (by decide)
      rw [e0]
      refine ⟨?_, ?_⟩
      · unfold numR; rw [if_pos (by omega)]; rfl
      · unfold numX; rw [if_pos (by omega), if_neg (by omega)]
    · try simp only [xB_s, xN_s, xP_s, xS_s, xK_s, xV_s, xF_s, xR_s, xL_s, xA_s] at c3
      refine And.intro rfl (And.intro (by first | omega | (simp only [xB_s, xN_s, xP_s, xS_s, xK_s, xV_s, xF_s, xR_s, xL_s, xA_s]; omega)) (And.intro (fun c5 => ?_) (fun c5 => ?_)))
      · try simp only [xB_s, xN_s, xP_s, xS_s, xK_s, xV_s, xF_s, xR_s, xL_s, xA_s] at c5
        refine rRun hG 99999 ?_
        refine rVV hG (sp_X4_refuseIf (uo := uo) (ux := (ntk ux)) (ua := ua) (ub := ub) (v0 := v0) (v1 := v1) (v2 := v2) (up := up) (uq := uq) (ur := ur) (c := 1) (by omega)) rfl rfl lk_X4_77 mf_X4_refuseIf (by decide) (Nat.le_of_ble_eq_true rfl) ⟨_, _, _, rfl, rfl, rfl⟩ ?_
        rintro _ rfl
        refine rRun hG 99999 ?_
        refine And.intro rfl (?_)
        refine rIR hG rfl rfl (True.intro) ?_
        have e0 : rfs 1 (ntk ux) = xFl (ntk ux) := if_neg (by decide)
        rw [e0]
        refine ⟨?_, ?_⟩
        · unfold numR; rw [if_pos (by omega)]; rfl
        · unfold numX; rw [if_pos (by omega), if_neg (by omega)]
      · try simp only [xB_s, xN_s, xP_s, xS_s, xK_s, xV_s, xF_s, xR_s, xL_s, xA_s] at c5
        refine And.intro rfl (And.intro (by first | omega | (simp only [xB_s, xN_s, xP_s, xS_s, xK_s, xV_s, xF_s, xR_s, xL_s, xA_s]; omega)) (And.intro (fun c7 => ?_) (fun c7 => ?_)))
        · try simp only [xB_s, xN_s, xP_s, xS_s, xK_s, xV_s, xF_s, xR_s, xL_s, xA_s] at c7
          refine rRun hG 99999 ?_
          refine rVV hG (sp_X4_refuseIf (uo := uo) (ux := (ntk ux)) (ua := ua) (ub := ub) (v0 := v0) (v1 := v1) (v2 := v2) (up := up) (uq := uq) (ur := ur) (c := 0) (by omega)) rfl rfl lk_X4_77 mf_X4_refuseIf (by decide) (Nat.le_of_ble_eq_true rfl) ⟨_, _, _, rfl, rfl, rfl⟩ ?_
          rintro _ rfl
          refine rRun hG 99999 ?_
          refine And.intro rfl (?_)
          refine rIR hG rfl rfl (True.intro) ?_
          have e0 : rfs 0 (ntk ux) = ntk ux := if_pos rfl
          rw [e0]
          refine ⟨?_, ?_⟩
          · unfold numR; rw [if_pos (by omega)]
          · unfold numX; rw [if_pos (by omega), if_pos (by omega)]
        · try simp only [xB_s, xN_s, xP_s, xS_s, xK_s, xV_s, xF_s, xR_s, xL_s, xA_s] at c7
          refine rVV hG (sp_X4_refuseIf (uo := uo) (ux := (ntk ux)) (ua := ua) (ub := ub) (v0 := v0) (v1 := v1) (v2 := v2) (up := up) (uq := uq) (ur := ur) (c := 1) (by omega)) rfl rfl lk_X4_77 mf_X4_refuseIf (by decide) (Nat.le_of_ble_eq_true rfl) ⟨_, _, _, rfl, rfl, rfl⟩ ?_
          rintro _ rfl
          refine rRun hG 99999 ?_
          refine And.intro rfl (?_)
          refine rIR hG rfl rfl (True.intro) ?_
          have e0 : rfs 1 (ntk ux) = xFl (ntk ux) := if_neg (by decide)
          rw [e0]
          refine ⟨?_, ?_⟩
          · unfold numR; rw [if_pos (by omega)]; rfl
          · unfold numX; rw [if_pos (by omega), if_neg (by omega)]
  · try simp only [xB_s, xN_s, xP_s, xS_s, xK_s, xV_s, xF_s, xR_s, xL_s, xA_s] at c1
    refine rIR hG rfl rfl (True.intro) ?_
    unfold numR numX
    rw [if_neg (by omega), if_neg (by omega)]
    exact ⟨rfl, rfl⟩
theorem ntk_F {x : XD} : xF (ntk x) = xF x := by
  unfold ntk
  split
  · rfl
  · split
    · rfl
    · split <;> rfl
set_option maxRecDepth 20000 in
set_option maxHeartbeats 1000000 in
theorem sp_X4_stops {uo : UD} {ux : XD} {ua ub : TD} {v0 v1 v2 : SD} {up uq : PD} {ur : HD}  (hX : XOK ux) : SpI l 5 yX4_stops cX4_stops 1 (some .boolean) [mr 1] (hC uo ux ua ub v0 v1 v2 up uq ur) (fun z h => z = (if xF (stpX ux) = -1 then 1 else 0) ∧ h = hC uo (stpX ux) ua ub v0 v1 v2 up uq ur) := by
  have hx1 := hX.1
  have hx2 := hX.2.1
  have hx3 := hX.2.2.1
  have hx4 := hX.2.2.2.1
  have hx5 := hX.2.2.2.2.1
  have hx6 := hX.2.2.2.2.2.1
  have hy := XOK_ntk hX
  have hy4 := hy.2.2.2.1
  have hy5 := hy.2.2.2.2.1
  refine SpI.of (cd := kdX4_stops) (fT := mlook flX4) (kT := mlook klX4) (kJ := mlook jlX4) mfA_X4_stops ok_X4_stops fT_X4 kT_X4 jT_X4 jdk_ok True.intro (Nat.le_of_ble_eq_true rfl) (fun G hG => ?_)
  have J29 : ∀ y : XD, XOK y → y = stpX ux → G 29 [some (mr 1)] [] (hC uo y ua ub v0 v1 v2 up uq ur) := by
    intro y hY he
    have hy6 := hY.2.2.2.2.2.1
    refine rRun hG 99999 ?_
    refine And.intro rfl (And.intro (by first | omega | (simp only [xB_s, xN_s, xP_s, xS_s, xK_s, xV_s, xF_s, xR_s, xL_s, xA_s]; omega)) (And.intro (fun c1 => ?_) (fun c1 => ?_)))
    · try simp only [xB_s, xN_s, xP_s, xS_s, xK_s, xV_s, xF_s, xR_s, xL_s, xA_s] at c1
      refine rRun hG 99999 ?_
      refine rIR hG rfl rfl (by first | exact Or.inl rfl | exact Or.inr rfl | (show _ ∨ _; omega)) ?_
      refine ⟨?_, by rw [← he]⟩
      rw [← he]
      first | rw [if_pos (by omega)] | rw [if_neg (by omega)]
    · try simp only [xB_s, xN_s, xP_s, xS_s, xK_s, xV_s, xF_s, xR_s, xL_s, xA_s] at c1
      refine rIR hG rfl rfl (by first | exact Or.inl rfl | exact Or.inr rfl | (show _ ∨ _; omega)) ?_
      refine ⟨?_, by rw [← he]⟩
      rw [← he]
      first | rw [if_pos (by omega)] | rw [if_neg (by omega)]
  refine rRun hG 29 ?_
  refine And.intro rfl (And.intro (by first | omega | (simp only [xB_s, xN_s, xP_s, xS_s, xK_s, xV_s, xF_s, xR_s, xL_s, xA_s]; omega)) (And.intro (fun c1 => ?_) (fun c1 => ?_)))
  · try simp only [xB_s, xN_s, xP_s, xS_s, xK_s, xV_s, xF_s, xR_s, xL_s, xA_s] at c1
    exact J29 ux hX (by unfold stpX; rw [if_neg (by omega)])
  · try simp only [xB_s, xN_s, xP_s, xS_s, xK_s, xV_s, xF_s, xR_s, xL_s, xA_s] at c1
    refine rVV hG (sp_X4_nextToken (uo := uo) (ux := ux) (ua := ua) (ub := ub) (v0 := v0) (v1 := v1) (v2 := v2) (up := up) (uq := uq) (ur := ur) (hX).1 (hX).2.1 (hX).2.2.1 (hX).2.2.2.2.2.2) rfl rfl lk_X4_48 mf_X4_nextToken (by decide) (Nat.le_of_ble_eq_true rfl) ⟨_, _, _, rfl, rfl, rfl⟩ ?_
    rintro _ rfl
    refine rRun hG 29 ?_
    refine And.intro rfl (And.intro (by first | omega | (simp only [xB_s, xN_s, xP_s, xS_s, xK_s, xV_s, xF_s, xR_s, xL_s, xA_s]; omega)) (And.intro (fun ck => ?_) (fun ck => ?_)))
    · try simp only [xB_s, xN_s, xP_s, xS_s, xK_s, xV_s, xF_s, xR_s, xL_s, xA_s] at ck
      refine rRun hG 29 ?_
      refine rVV hG (sp_X4_refuseIf (uo := uo) (ux := (ntk ux)) (ua := ua) (ub := ub) (v0 := v0) (v1 := v1) (v2 := v2) (up := up) (uq := uq) (ur := ur) (c := 0) (by omega)) rfl rfl lk_X4_77 mf_X4_refuseIf (by decide) (Nat.le_of_ble_eq_true rfl) ⟨_, _, _, rfl, rfl, rfl⟩ ?_
      rintro _ rfl
      exact J29 _ (XOK_rfs hy) (by unfold stpX; rw [if_pos (by omega), if_pos (by omega)]; rfl)
    · try simp only [xB_s, xN_s, xP_s, xS_s, xK_s, xV_s, xF_s, xR_s, xL_s, xA_s] at ck
      refine rVV hG (sp_X4_refuseIf (uo := uo) (ux := (ntk ux)) (ua := ua) (ub := ub) (v0 := v0) (v1 := v1) (v2 := v2) (up := up) (uq := uq) (ur := ur) (c := 1) (by omega)) rfl rfl lk_X4_77 mf_X4_refuseIf (by decide) (Nat.le_of_ble_eq_true rfl) ⟨_, _, _, rfl, rfl, rfl⟩ ?_
      rintro _ rfl
      exact J29 _ (XOK_rfs hy) (by unfold stpX; rw [if_pos (by omega), if_neg (by omega)]; rfl)
def b2i (c : Prop) [Decidable c] : Int := if c then 1 else 0
/-- what an item of the text does: to the text's place, to what is told -/
def rdDayX (x : XD) (t : TD) : XD := stpX (numX 0 10 (rfs (b2i (14 ≤ tDay t)) x))
def rdDayT (x : XD) (t : TD) : TD := if xF (rdDayX x t) = -1 then tAddDay t (numR 0 (rfs (b2i (14 ≤ tDay t)) x)) else t
def rdB1 (x : XD) (t : TD) : XD := rfs (b2i (6 ≤ tNB t)) x
def rdB2 (x : XD) (t : TD) : XD := numX 0 13 (rdB1 x t)
def rdB3 (x : XD) (t : TD) : XD := numX 0 1 (rdB2 x t)
def rdB4 (x : XD) (t : TD) : XD := numX 0 5 (rdB3 x t)
def rdB5 (x : XD) (t : TD) : XD := numX 1 20 (rdB4 x t)
def rdBriX (x : XD) (t : TD) : XD := stpX (rdB5 x t)
def rdBriT (x : XD) (t : TD) : TD := if xF (rdBriX x t) = -1 then tAddBri t (numR 0 (rdB1 x t)) (numR 0 (rdB2 x t)) (numR 0 (rdB3 x t) - 2) (numR 1 (rdB4 x t)) else t
def rdT1 (x : XD) (t : TD) : XD := rfs (b2i (4 ≤ tNT t)) x
def rdT2 (x : XD) (t : TD) : XD := numX 1 9 (rdT1 x t)
def rdT3 (x : XD) (t : TD) : XD := numX 0 1 (rdT2 x t)
def rdTraX (x : XD) (t : TD) : XD := stpX (rdT3 x t)
def rdTraT (x : XD) (t : TD) : TD := if xF (rdTraX x t) = -1 then tAddTra t (numR 1 (rdT1 x t)) (numR 0 (rdT2 x t)) else t
def xFlg (x : XD) (r l a : Int) : XD := (xB x, xN x, xP x, xS x, xK x, xV x, xF x, r, l, a)
def rdR1 (x : XD) : XD := stpX (numX 1 60 (rfs (xR x) x))
def rdRstX (x : XD) : XD := if xF (rdR1 x) = -1 then xFlg (rdR1 x) 1 (xL (rdR1 x)) (xA (rdR1 x)) else rdR1 x
def rdRstT (x : XD) (t : TD) : TD := if xF (rdR1 x) = -1 then tSetRst t (numR 1 (rfs (xR x) x)) else t
def rdL1 (x : XD) : XD := stpX (numX 0 6 (rfs (xL x) x))
def rdLimX (x : XD) : XD := if xF (rdL1 x) = -1 then xFlg (rdL1 x) (xR (rdL1 x)) 1 (xA (rdL1 x)) else rdL1 x
def rdLimT (x : XD) (t : TD) : TD := if xF (rdL1 x) = -1 then tSetLim t (numR 0 (rfs (xL x) x)) else t
def rdA1 (x : XD) : XD := stpX (numX 0 9 (rfs (xA x) x))
def rdAddX (x : XD) : XD := if xF (rdA1 x) = -1 then xFlg (rdA1 x) (xR (rdA1 x)) (xL (rdA1 x)) 1 else rdA1 x
def rdAddT (x : XD) (t : TD) : TD := if xF (rdA1 x) = -1 then tSetAdd t (numR 0 (rfs (xA x) x)) else t
end WALKS
end
section
/-! Text: the items -/
section WALKS
variable {l : Launch}
theorem xB_g {x : XD} {r l a : Int} : xB (xFlg x r l a) = xB x := rfl
theorem tsel_2 {k : Bool} {ua ub t t' : TD} : t' = tsel k (cond k ua t') (cond k t' ub) := by cases k <;> rfl
set_option maxRecDepth 20000 in
set_option maxHeartbeats 2000000 in
theorem sp_X4_readDay {uo : UD} {ux : XD} {ua ub : TD} {v0 v1 v2 : SD} {up uq : PD} {ur : HD} {k : Bool} {t : TD} (ht : t = tsel k ua ub)  (hX : XOK ux) (hD : 0 ≤ tDay t ∧ tDay t ≤ 14) (hN : 0 ≤ tNB t ∧ tNB t ≤ 6) (hM : 0 ≤ tNT t ∧ tNT t ≤ 4) : SpV l 6 yX4_readDay cX4_readDay 3 none [mr 1, mr (tix k)] (hC uo ux ua ub v0 v1 v2 up uq ur) (fun h => h = hC uo (rdDayX ux t) (cond k ua (rdDayT ux t)) (cond k (rdDayT ux t) ub) v0 v1 v2 up uq ur) := by
  have hx6 := hX.2.2.2.2.2.1
  cases k
  · obtain rfl : t = ua := ht
    refine SpV.of (cd := kdX4_readDay) (fT := mlook flX4) (kT := mlook klX4) (kJ := mlook jlX4) mfA_X4_readDay ok_X4_readDay fT_X4 kT_X4 jT_X4 jdk_ok True.intro (Nat.le_of_ble_eq_true rfl) (fun G hG => ?_)
    have J : G 15 [some (mr 1), some (mr 3), none] [mi (b2i (14 ≤ tDay t)), mr 1] (hC uo ux t ub v0 v1 v2 up uq ur) := by
      refine rVV hG (sp_X4_refuseIf (uo := uo) (ux := ux) (ua := t) (ub := ub) (v0 := v0) (v1 := v1) (v2 := v2) (up := up) (uq := uq) (ur := ur) (c := b2i (14 ≤ tDay t)) (by unfold b2i; split <;> omega)) rfl rfl lk_X4_77 mf_X4_refuseIf (by decide) (Nat.le_of_ble_eq_true rfl) ⟨_, _, _, rfl, rfl, rfl⟩ ?_
      rintro _ rfl
      refine rRun hG 99999 ?_
      refine rV hG (sp_X4_number (uo := uo) (ux := (rfs (b2i (14 ≤ tDay t)) ux)) (ua := t) (ub := ub) (v0 := v0) (v1 := v1) (v2 := v2) (up := up) (uq := uq) (ur := ur) (lo := 0) (hi := 10) (XOK_rfs hX) (by omega) (by omega)) rfl rfl lk_X4_81 mf_X4_number (by decide) (Nat.le_of_ble_eq_true rfl) ⟨_, _, _, rfl, rfl, rfl⟩ ?_
      rintro _ _ ⟨rfl, rfl⟩
      refine rRun hG 99999 ?_
      refine rV hG (sp_X4_stops (uo := uo) (ux := (numX 0 10 (rfs (b2i (14 ≤ tDay t)) ux))) (ua := t) (ub := ub) (v0 := v0) (v1 := v1) (v2 := v2) (up := up) (uq := uq) (ur := ur) (XOK_num (XOK_rfs hX))) rfl rfl lk_X4_85 mf_X4_stops (by decide) (Nat.le_of_ble_eq_true rfl) ⟨_, _, _, rfl, rfl, rfl⟩ ?_
      rintro w9 _ ⟨hw, rfl⟩
      have hw1 : (w9 = 1 ∧ xF (stpX (numX 0 10 (rfs (b2i (14 ≤ tDay t)) ux))) = -1) ∨ (w9 = 0 ∧ ¬ xF (stpX (numX 0 10 (rfs (b2i (14 ≤ tDay t)) ux))) = -1) := (by rw [hw]; by_cases q9 : xF (stpX (numX 0 10 (rfs (b2i (14 ≤ tDay t)) ux))) = -1 <;> simp [q9])
      clear hw
      refine rRun hG 99999 ?_
      refine And.intro (by first | omega | (simp only [xB_s, xN_s, xP_s, xS_s, xK_s, xV_s, xF_s, xR_s, xL_s, xA_s]; omega)) (And.intro (fun cs => ?_) (fun cs => ?_))
      · try simp only [xB_s, xN_s, xP_s, xS_s, xK_s, xV_s, xF_s, xR_s, xL_s, xA_s] at cs
        refine rVR hG rfl rfl rfl ?_
        have hq : (w9 = 1 ∧ xF (rdDayX ux t) = -1) ∨ (w9 = 0 ∧ ¬ xF (rdDayX ux t) = -1) := hw1
        unfold rdDayT
        first | (rw [if_pos (by omega : xF (rdDayX ux t) = -1)]; done) | (rw [if_pos (by omega : xF (rdDayX ux t) = -1)]; rfl) | (rw [if_neg (by omega : ¬ xF (rdDayX ux t) = -1)]; done) | (rw [if_neg (by omega : ¬ xF (rdDayX ux t) = -1)]; rfl)
      · try simp only [xB_s, xN_s, xP_s, xS_s, xK_s, xV_s, xF_s, xR_s, xL_s, xA_s] at cs
        refine rVV hG (sp_X5_addDay (uo := uo) (ux := (rdDayX ux t)) (ua := t) (ub := ub) (v0 := v0) (v1 := v1) (v2 := v2) (up := up) (uq := uq) (ur := ur) (k := false) (t := t) (ht := rfl) (s := numR 0 (rfs (b2i (14 ≤ tDay t)) ux)) (by omega)) rfl rfl lk_X4_89 mf_X5_addDay (by decide) (Nat.le_of_ble_eq_true rfl) ⟨_, _, _, rfl, rfl, rfl⟩ ?_
        rintro _ rfl
        refine rVR hG rfl rfl rfl ?_
        have hq : (w9 = 1 ∧ xF (rdDayX ux t) = -1) ∨ (w9 = 0 ∧ ¬ xF (rdDayX ux t) = -1) := hw1
        unfold rdDayT
        first | (rw [if_pos (by omega : xF (rdDayX ux t) = -1)]; done) | (rw [if_pos (by omega : xF (rdDayX ux t) = -1)]; rfl) | (rw [if_neg (by omega : ¬ xF (rdDayX ux t) = -1)]; done) | (rw [if_neg (by omega : ¬ xF (rdDayX ux t) = -1)]; rfl)
    refine rRun hG 15 ?_
    refine And.intro rfl (And.intro (by first | omega | (simp only [xB_s, xN_s, xP_s, xS_s, xK_s, xV_s, xF_s, xR_s, xL_s, xA_s]; omega)) (And.intro (fun c1 => ?_) (fun c1 => ?_)))
    · try simp only [xB_s, xN_s, xP_s, xS_s, xK_s, xV_s, xF_s, xR_s, xL_s, xA_s] at c1
      refine rRun hG 15 ?_
      first | (rw [show b2i (14 ≤ tDay t) = 1 from if_pos (by omega)] at J; exact J) | (rw [show b2i (14 ≤ tDay t) = 0 from if_neg (by omega)] at J; exact J)
    · try simp only [xB_s, xN_s, xP_s, xS_s, xK_s, xV_s, xF_s, xR_s, xL_s, xA_s] at c1
      first | (rw [show b2i (14 ≤ tDay t) = 1 from if_pos (by omega)] at J; exact J) | (rw [show b2i (14 ≤ tDay t) = 0 from if_neg (by omega)] at J; exact J)
  · obtain rfl : t = ub := ht
    refine SpV.of (cd := kdX4_readDay) (fT := mlook flX4) (kT := mlook klX4) (kJ := mlook jlX4) mfA_X4_readDay ok_X4_readDay fT_X4 kT_X4 jT_X4 jdk_ok True.intro (Nat.le_of_ble_eq_true rfl) (fun G hG => ?_)
    have J : G 15 [some (mr 1), some (mr 7), none] [mi (b2i (14 ≤ tDay t)), mr 1] (hC uo ux ua t v0 v1 v2 up uq ur) := by
      refine rVV hG (sp_X4_refuseIf (uo := uo) (ux := ux) (ua := ua) (ub := t) (v0 := v0) (v1 := v1) (v2 := v2) (up := up) (uq := uq) (ur := ur) (c := b2i (14 ≤ tDay t)) (by unfold b2i; split <;> omega)) rfl rfl lk_X4_77 mf_X4_refuseIf (by decide) (Nat.le_of_ble_eq_true rfl) ⟨_, _, _, rfl, rfl, rfl⟩ ?_
      rintro _ rfl
      refine rRun hG 99999 ?_
      refine rV hG (sp_X4_number (uo := uo) (ux := (rfs (b2i (14 ≤ tDay t)) ux)) (ua := ua) (ub := t) (v0 := v0) (v1 := v1) (v2 := v2) (up := up) (uq := uq) (ur := ur) (lo := 0) (hi := 10) (XOK_rfs hX) (by omega) (by omega)) rfl rfl lk_X4_81 mf_X4_number (by decide) (Nat.le_of_ble_eq_true rfl) ⟨_, _, _, rfl, rfl, rfl⟩ ?_
      rintro _ _ ⟨rfl, rfl⟩
      refine rRun hG 99999 ?_
      refine rV hG (sp_X4_stops (uo := uo) (ux := (numX 0 10 (rfs (b2i (14 ≤ tDay t)) ux))) (ua := ua) (ub := t) (v0 := v0) (v1 := v1) (v2 := v2) (up := up) (uq := uq) (ur := ur) (XOK_num (XOK_rfs hX))) rfl rfl lk_X4_85 mf_X4_stops (by decide) (Nat.le_of_ble_eq_true rfl) ⟨_, _, _, rfl, rfl, rfl⟩ ?_
      rintro w9 _ ⟨hw, rfl⟩
      have hw1 : (w9 = 1 ∧ xF (stpX (numX 0 10 (rfs (b2i (14 ≤ tDay t)) ux))) = -1) ∨ (w9 = 0 ∧ ¬ xF (stpX (numX 0 10 (rfs (b2i (14 ≤ tDay t)) ux))) = -1) := (by rw [hw]; by_cases q9 : xF (stpX (numX 0 10 (rfs (b2i (14 ≤ tDay t)) ux))) = -1 <;> simp [q9])
      clear hw
      refine rRun hG 99999 ?_
      refine And.intro (by first | omega | (simp only [xB_s, xN_s, xP_s, xS_s, xK_s, xV_s, xF_s, xR_s, xL_s, xA_s]; omega)) (And.intro (fun cs => ?_) (fun cs => ?_))
      · try simp only [xB_s, xN_s, xP_s, xS_s, xK_s, xV_s, xF_s, xR_s, xL_s, xA_s] at cs
        refine rVR hG rfl rfl rfl ?_
        have hq : (w9 = 1 ∧ xF (rdDayX ux t) = -1) ∨ (w9 = 0 ∧ ¬ xF (rdDayX ux t) = -1) := hw1
        unfold rdDayT
        first | (rw [if_pos (by omega : xF (rdDayX ux t) = -1)]; done) | (rw [if_pos (by omega : xF (rdDayX ux t) = -1)]; rfl) | (rw [if_neg (by omega : ¬ xF (rdDayX ux t) = -1)]; done) | (rw [if_neg (by omega : ¬ xF (rdDayX ux t) = -1)]; rfl)
      · try simp only [xB_s, xN_s, xP_s, xS_s, xK_s, xV_s, xF_s, xR_s, xL_s, xA_s] at cs
        refine rVV hG (sp_X5_addDay (uo := uo) (ux := (rdDayX ux t)) (ua := ua) (ub := t) (v0 := v0) (v1 := v1) (v2 := v2) (up := up) (uq := uq) (ur := ur) (k := true) (t := t) (ht := rfl) (s := numR 0 (rfs (b2i (14 ≤ tDay t)) ux)) (by omega)) rfl rfl lk_X4_89 mf_X5_addDay (by decide) (Nat.le_of_ble_eq_true rfl) ⟨_, _, _, rfl, rfl, rfl⟩ ?_
        rintro _ rfl
        refine rVR hG rfl rfl rfl ?_
        have hq : (w9 = 1 ∧ xF (rdDayX ux t) = -1) ∨ (w9 = 0 ∧ ¬ xF (rdDayX ux t) = -1) := hw1
        unfold rdDayT
        first | (rw [if_pos (by omega : xF (rdDayX ux t) = -1)]; done) | (rw [if_pos (by omega : xF (rdDayX ux t) = -1)]; rfl) | (rw [if_neg (by omega : ¬ xF (rdDayX ux t) = -1)]; done) | (rw [if_neg (by omega : ¬ xF (rdDayX ux t) = -1)]; rfl)
    refine rRun hG 15 ?_
    refine And.intro rfl (And.intro (by first | omega | (simp only [xB_s, xN_s, xP_s, xS_s, xK_s, xV_s, xF_s, xR_s, xL_s, xA_s]; omega)) (And.intro (fun c1 => ?_) (fun c1 => ?_)))
    · try simp only [xB_s, xN_s, xP_s, xS_s, xK_s, xV_s, xF_s, xR_s, xL_s, xA_s] at c1
      refine rRun hG 15 ?_
      first | (rw [show b2i (14 ≤ tDay t) = 1 from if_pos (by omega)] at J; exact J) | (rw [show b2i (14 ≤ tDay t) = 0 from if_neg (by omega)] at J; exact J)
    · try simp only [xB_s, xN_s, xP_s, xS_s, xK_s, xV_s, xF_s, xR_s, xL_s, xA_s] at c1
      first | (rw [show b2i (14 ≤ tDay t) = 1 from if_pos (by omega)] at J; exact J) | (rw [show b2i (14 ≤ tDay t) = 0 from if_neg (by omega)] at J; exact J)
set_option maxRecDepth 20000 in
set_option maxHeartbeats 2000000 in
theorem sp_X4_readBribe {uo : UD} {ux : XD} {ua ub : TD} {v0 v1 v2 : SD} {up uq : PD} {ur : HD} {k : Bool} {t : TD} (ht : t = tsel k ua ub)  (hX : XOK ux) (hD : 0 ≤ tDay t ∧ tDay t ≤ 14) (hN : 0 ≤ tNB t ∧ tNB t ≤ 6) (hM : 0 ≤ tNT t ∧ tNT t ≤ 4) : SpV l 6 yX4_readBribe cX4_readBribe 6 none [mr 1, mr (tix k)] (hC uo ux ua ub v0 v1 v2 up uq ur) (fun h => h = hC uo (rdBriX ux t) (cond k ua (rdBriT ux t)) (cond k (rdBriT ux t) ub) v0 v1 v2 up uq ur) := by
  have hx6 := hX.2.2.2.2.2.1
  cases k
  · obtain rfl : t = ua := ht
    refine SpV.of (cd := kdX4_readBribe) (fT := mlook flX4) (kT := mlook klX4) (kJ := mlook jlX4) mfA_X4_readBribe ok_X4_readBribe fT_X4 kT_X4 jT_X4 jdk_ok True.intro (Nat.le_of_ble_eq_true rfl) (fun G hG => ?_)
    have J : G 15 [some (mr 1), some (mr 3), none, none, none, none] [mi (b2i (6 ≤ tNB t)), mr 1] (hC uo ux t ub v0 v1 v2 up uq ur) := by
      refine rVV hG (sp_X4_refuseIf (uo := uo) (ux := ux) (ua := t) (ub := ub) (v0 := v0) (v1 := v1) (v2 := v2) (up := up) (uq := uq) (ur := ur) (c := b2i (6 ≤ tNB t)) (by unfold b2i; split <;> omega)) rfl rfl lk_X4_77 mf_X4_refuseIf (by decide) (Nat.le_of_ble_eq_true rfl) ⟨_, _, _, rfl, rfl, rfl⟩ ?_
      rintro _ rfl
      refine rRun hG 99999 ?_
      refine rV hG (sp_X4_number (uo := uo) (ux := (rdB1 ux t)) (ua := t) (ub := ub) (v0 := v0) (v1 := v1) (v2 := v2) (up := up) (uq := uq) (ur := ur) (lo := 0) (hi := 13) (XOK_rfs hX) (by omega) (by omega)) rfl rfl lk_X4_81 mf_X4_number (by decide) (Nat.le_of_ble_eq_true rfl) ⟨_, _, _, rfl, rfl, rfl⟩ ?_
      rintro _ _ ⟨rfl, rfl⟩
      refine rRun hG 99999 ?_
      refine rV hG (sp_X4_number (uo := uo) (ux := (rdB2 ux t)) (ua := t) (ub := ub) (v0 := v0) (v1 := v1) (v2 := v2) (up := up) (uq := uq) (ur := ur) (lo := 0) (hi := 1) (XOK_num (XOK_rfs hX)) (by omega) (by omega)) rfl rfl lk_X4_81 mf_X4_number (by decide) (Nat.le_of_ble_eq_true rfl) ⟨_, _, _, rfl, rfl, rfl⟩ ?_
      rintro _ _ ⟨rfl, rfl⟩
      refine rRun hG 99999 ?_
      refine rV hG (sp_X4_number (uo := uo) (ux := (rdB3 ux t)) (ua := t) (ub := ub) (v0 := v0) (v1 := v1) (v2 := v2) (up := up) (uq := uq) (ur := ur) (lo := 0) (hi := 5) (XOK_num (XOK_num (XOK_rfs hX))) (by omega) (by omega)) rfl rfl lk_X4_81 mf_X4_number (by decide) (Nat.le_of_ble_eq_true rfl) ⟨_, _, _, rfl, rfl, rfl⟩ ?_
      rintro _ _ ⟨rfl, rfl⟩
      refine rRun hG 99999 ?_
      refine rV hG (sp_X4_number (uo := uo) (ux := (rdB4 ux t)) (ua := t) (ub := ub) (v0 := v0) (v1 := v1) (v2 := v2) (up := up) (uq := uq) (ur := ur) (lo := 1) (hi := 20) (XOK_num (XOK_num (XOK_num (XOK_rfs hX)))) (by omega) (by omega)) rfl rfl lk_X4_81 mf_X4_number (by decide) (Nat.le_of_ble_eq_true rfl) ⟨_, _, _, rfl, rfl, rfl⟩ ?_
      rintro _ _ ⟨rfl, rfl⟩
      refine rRun hG 99999 ?_
      refine rV hG (sp_X4_stops (uo := uo) (ux := (rdB5 ux t)) (ua := t) (ub := ub) (v0 := v0) (v1 := v1) (v2 := v2) (up := up) (uq := uq) (ur := ur) (XOK_num (XOK_num (XOK_num (XOK_num (XOK_rfs hX)))))) rfl rfl lk_X4_85 mf_X4_stops (by decide) (Nat.le_of_ble_eq_true rfl) ⟨_, _, _, rfl, rfl, rfl⟩ ?_
      rintro w9 _ ⟨hw, rfl⟩
      have hw1 : (w9 = 1 ∧ xF (stpX (rdB5 ux t)) = -1) ∨ (w9 = 0 ∧ ¬ xF (stpX (rdB5 ux t)) = -1) := (by rw [hw]; by_cases q9 : xF (stpX (rdB5 ux t)) = -1 <;> simp [q9])
      clear hw
      refine rRun hG 99999 ?_
      refine And.intro (by first | omega | (simp only [xB_s, xN_s, xP_s, xS_s, xK_s, xV_s, xF_s, xR_s, xL_s, xA_s]; omega)) (And.intro (fun cs => ?_) (fun cs => ?_))
      · try simp only [xB_s, xN_s, xP_s, xS_s, xK_s, xV_s, xF_s, xR_s, xL_s, xA_s] at cs
        refine rVR hG rfl rfl rfl ?_
        have hq : (w9 = 1 ∧ xF (rdBriX ux t) = -1) ∨ (w9 = 0 ∧ ¬ xF (rdBriX ux t) = -1) := hw1
        unfold rdBriT
        first | (rw [if_pos (by omega : xF (rdBriX ux t) = -1)]; done) | (rw [if_pos (by omega : xF (rdBriX ux t) = -1)]; rfl) | (rw [if_neg (by omega : ¬ xF (rdBriX ux t) = -1)]; done) | (rw [if_neg (by omega : ¬ xF (rdBriX ux t) = -1)]; rfl)
      · try simp only [xB_s, xN_s, xP_s, xS_s, xK_s, xV_s, xF_s, xR_s, xL_s, xA_s] at cs
        refine rVV hG (sp_X5_addBribe (uo := uo) (ux := (rdBriX ux t)) (ua := t) (ub := ub) (v0 := v0) (v1 := v1) (v2 := v2) (up := up) (uq := uq) (ur := ur) (k := false) (t := t) (ht := rfl) (d := numR 0 (rdB1 ux t)) (s := numR 0 (rdB2 ux t)) (p := numR 0 (rdB3 ux t) - 2) (c := numR 1 (rdB4 ux t)) (by omega)) rfl rfl lk_X4_96 mf_X5_addBribe (by decide) (Nat.le_of_ble_eq_true rfl) ⟨_, _, _, rfl, rfl, rfl⟩ ?_
        rintro _ rfl
        refine rVR hG rfl rfl rfl ?_
        have hq : (w9 = 1 ∧ xF (rdBriX ux t) = -1) ∨ (w9 = 0 ∧ ¬ xF (rdBriX ux t) = -1) := hw1
        unfold rdBriT
        first | (rw [if_pos (by omega : xF (rdBriX ux t) = -1)]; done) | (rw [if_pos (by omega : xF (rdBriX ux t) = -1)]; rfl) | (rw [if_neg (by omega : ¬ xF (rdBriX ux t) = -1)]; done) | (rw [if_neg (by omega : ¬ xF (rdBriX ux t) = -1)]; rfl)
    refine rRun hG 15 ?_
    refine And.intro rfl (And.intro (by first | omega | (simp only [xB_s, xN_s, xP_s, xS_s, xK_s, xV_s, xF_s, xR_s, xL_s, xA_s]; omega)) (And.intro (fun c1 => ?_) (fun c1 => ?_)))
    · try simp only [xB_s, xN_s, xP_s, xS_s, xK_s, xV_s, xF_s, xR_s, xL_s, xA_s] at c1
      refine rRun hG 15 ?_
      first | (rw [show b2i (6 ≤ tNB t) = 1 from if_pos (by omega)] at J; exact J) | (rw [show b2i (6 ≤ tNB t) = 0 from if_neg (by omega)] at J; exact J)
    · try simp only [xB_s, xN_s, xP_s, xS_s, xK_s, xV_s, xF_s, xR_s, xL_s, xA_s] at c1
      first | (rw [show b2i (6 ≤ tNB t) = 1 from if_pos (by omega)] at J; exact J) | (rw [show b2i (6 ≤ tNB t) = 0 from if_neg (by omega)] at J; exact J)
  · obtain rfl : t = ub := ht
    refine SpV.of (cd := kdX4_readBribe) (fT := mlook flX4) (kT := mlook klX4) (kJ := mlook jlX4) mfA_X4_readBribe ok_X4_readBribe fT_X4 kT_X4 jT_X4 jdk_ok True.intro (Nat.le_of_ble_eq_true rfl) (fun G hG => ?_)
    have J : G 15 [some (mr 1), some (mr 7), none, none, none, none] [mi (b2i (6 ≤ tNB t)), mr 1] (hC uo ux ua t v0 v1 v2 up uq ur) := by
      refine rVV hG (sp_X4_refuseIf (uo := uo) (ux := ux) (ua := ua) (ub := t) (v0 := v0) (v1 := v1) (v2 := v2) (up := up) (uq := uq) (ur := ur) (c := b2i (6 ≤ tNB t)) (by unfold b2i; split <;> omega)) rfl rfl lk_X4_77 mf_X4_refuseIf (by decide) (Nat.le_of_ble_eq_true rfl) ⟨_, _, _, rfl, rfl, rfl⟩ ?_
      rintro _ rfl
      refine rRun hG 99999 ?_
      refine rV hG (sp_X4_number (uo := uo) (ux := (rdB1 ux t)) (ua := ua) (ub := t) (v0 := v0) (v1 := v1) (v2 := v2) (up := up) (uq := uq) (ur := ur) (lo := 0) (hi := 13) (XOK_rfs hX) (by omega) (by omega)) rfl rfl lk_X4_81 mf_X4_number (by decide) (Nat.le_of_ble_eq_true rfl) ⟨_, _, _, rfl, rfl, rfl⟩ ?_
      rintro _ _ ⟨rfl, rfl⟩
      refine rRun hG 99999 ?_
      refine rV hG (sp_X4_number (uo := uo) (ux := (rdB2 ux t)) (ua := ua) (ub := t) (v0 := v0) (v1 := v1) (v2 := v2) (up := up) (uq := uq) (ur := ur) (lo := 0) (hi := 1) (XOK_num (XOK_rfs hX)) (by omega) (by omega)) rfl rfl lk_X4_81 mf_X4_number (by decide) (Nat.le_of_ble_eq_true rfl) ⟨_, _, _, rfl, rfl, rfl⟩ ?_
      rintro _ _ ⟨rfl, rfl⟩
      refine rRun hG 99999 ?_
      refine rV hG (sp_X4_number (uo := uo) (ux := (rdB3 ux t)) (ua := ua) (ub := t) (v0 := v0) (v1 := v1) (v2 := v2) (up := up) (uq := uq) (ur := ur) (lo := 0) (hi := 5) (XOK_num (XOK_num (XOK_rfs hX))) (by omega) (by omega)) rfl rfl lk_X4_81 mf_X4_number (by decide) (Nat.le_of_ble_eq_true rfl) ⟨_, _, _, rfl, rfl, rfl⟩ ?_
      rintro _ _ ⟨rfl, rfl⟩
      refine rRun hG 99999 ?_
      refine rV hG (sp_X4_number (uo := uo) (ux := (rdB4 ux t)) (ua := ua) (ub := t) (v0 := v0) (v1 := v1) (v2 := v2) (up := up) (uq := uq) (ur := ur) (lo := 1) (hi := 20) (XOK_num (XOK_num (XOK_num (XOK_rfs hX)))) (by omega) (by omega)) rfl rfl lk_X4_81 mf_X4_number (by decide) (Nat.le_of_ble_eq_true rfl) ⟨_, _, _, rfl, rfl, rfl⟩ ?_
      rintro _ _ ⟨rfl, rfl⟩
      refine rRun hG 99999 ?_
      refine rV hG (sp_X4_stops (uo := uo) (ux := (rdB5 ux t)) (ua := ua) (ub := t) (v0 := v0) (v1 := v1) (v2 := v2) (up := up) (uq := uq) (ur := ur) (XOK_num (XOK_num (XOK_num (XOK_num (XOK_rfs hX)))))) rfl rfl lk_X4_85 mf_X4_stops (by decide) (Nat.le_of_ble_eq_true rfl) ⟨_, _, _, rfl, rfl, rfl⟩ ?_
      rintro w9 _ ⟨hw, rfl⟩
      have hw1 : (w9 = 1 ∧ xF (stpX (rdB5 ux t)) = -1) ∨ (w9 = 0 ∧ ¬ xF (stpX (rdB5 ux t)) = -1) := (by rw [hw]; by_cases q9 : xF (stpX (rdB5 ux t)) = -1 <;> simp [q9])
      clear hw
      refine rRun hG 99999 ?_
      refine And.intro (by first | omega | (simp only [xB_s, xN_s, xP_s, xS_s, xK_s, xV_s, xF_s, xR_s, xL_s, xA_s]; omega)) (And.intro (fun cs => ?_) (fun cs => ?_))
      · try simp only [xB_s, xN_s, xP_s, xS_s, xK_s, xV_s, xF_s, xR_s, xL_s, xA_s] at cs
        refine rVR hG rfl rfl rfl ?_
        have hq : (w9 = 1 ∧ xF (rdBriX ux t) = -1) ∨ (w9 = 0 ∧ ¬ xF (rdBriX ux t) = -1) := hw1
        unfold rdBriT
        first | (rw [if_pos (by omega : xF (rdBriX ux t) = -1)]; done) | (rw [if_pos (by omega : xF (rdBriX ux t) = -1)]; rfl) | (rw [if_neg (by omega : ¬ xF (rdBriX ux t) = -1)]; done) | (rw [if_neg (by omega : ¬ xF (rdBriX ux t) = -1)]; rfl)
      · try simp only [xB_s, xN_s, xP_s, xS_s, xK_s, xV_s, xF_s, xR_s, xL_s, xA_s] at cs
        refine rVV hG (sp_X5_addBribe (uo := uo) (ux := (rdBriX ux t)) (ua := ua) (ub := t) (v0 := v0) (v1 := v1) (v2 := v2) (up := up) (uq := uq) (ur := ur) (k := true) (t := t) (ht := rfl) (d := numR 0 (rdB1 ux t)) (s := numR 0 (rdB2 ux t)) (p := numR 0 (rdB3 ux t) - 2) (c := numR 1 (rdB4 ux t)) (by omega)) rfl rfl lk_X4_96 mf_X5_addBribe (by decide) (Nat.le_of_ble_eq_true rfl) ⟨_, _, _, rfl, rfl, rfl⟩ ?_
        rintro _ rfl
        refine rVR hG rfl rfl rfl ?_
        have hq : (w9 = 1 ∧ xF (rdBriX ux t) = -1) ∨ (w9 = 0 ∧ ¬ xF (rdBriX ux t) = -1) := hw1
        unfold rdBriT
        first | (rw [if_pos (by omega : xF (rdBriX ux t) = -1)]; done) | (rw [if_pos (by omega : xF (rdBriX ux t) = -1)]; rfl) | (rw [if_neg (by omega : ¬ xF (rdBriX ux t) = -1)]; done) | (rw [if_neg (by omega : ¬ xF (rdBriX ux t) = -1)]; rfl)
    refine rRun hG 15 ?_
    refine And.intro rfl (And.intro (by first | omega | (simp only [xB_s, xN_s, xP_s, xS_s, xK_s, xV_s, xF_s, xR_s, xL_s, xA_s]; omega)) (And.intro (fun c1 => ?_) (fun c1 => ?_)))
    · try simp only [xB_s, xN_s, xP_s, xS_s, xK_s, xV_s, xF_s, xR_s, xL_s, xA_s] at c1
      refine rRun hG 15 ?_
      first | (rw [show b2i (6 ≤ tNB t) = 1 from if_pos (by omega)] at J; exact J) | (rw [show b2i (6 ≤ tNB t) = 0 from if_neg (by omega)] at J; exact J)
    · try simp only [xB_s, xN_s, xP_s, xS_s, xK_s, xV_s, xF_s, xR_s, xL_s, xA_s] at c1
      first | (rw [show b2i (6 ≤ tNB t) = 1 from if_pos (by omega)] at J; exact J) | (rw [show b2i (6 ≤ tNB t) = 0 from if_neg (by omega)] at J; exact J)
set_option maxRecDepth 20000 in
set_option maxHeartbeats 2000000 in
theorem sp_X4_readTrade {uo : UD} {ux : XD} {ua ub : TD} {v0 v1 v2 : SD} {up uq : PD} {ur : HD} {k : Bool} {t : TD} (ht : t = tsel k ua ub)  (hX : XOK ux) (hD : 0 ≤ tDay t ∧ tDay t ≤ 14) (hN : 0 ≤ tNB t ∧ tNB t ≤ 6) (hM : 0 ≤ tNT t ∧ tNT t ≤ 4) : SpV l 6 yX4_readTrade cX4_readTrade 4 none [mr 1, mr (tix k)] (hC uo ux ua ub v0 v1 v2 up uq ur) (fun h => h = hC uo (rdTraX ux t) (cond k ua (rdTraT ux t)) (cond k (rdTraT ux t) ub) v0 v1 v2 up uq ur) := by
  have hx6 := hX.2.2.2.2.2.1
  cases k
  · obtain rfl : t = ua := ht
    refine SpV.of (cd := kdX4_readTrade) (fT := mlook flX4) (kT := mlook klX4) (kJ := mlook jlX4) mfA_X4_readTrade ok_X4_readTrade fT_X4 kT_X4 jT_X4 jdk_ok True.intro (Nat.le_of_ble_eq_true rfl) (fun G hG => ?_)
    have J : G 14 [some (mr 1), some (mr 3), none, none] [mi (b2i (4 ≤ tNT t)), mr 1] (hC uo ux t ub v0 v1 v2 up uq ur) := by
      refine rVV hG (sp_X4_refuseIf (uo := uo) (ux := ux) (ua := t) (ub := ub) (v0 := v0) (v1 := v1) (v2 := v2) (up := up) (uq := uq) (ur := ur) (c := b2i (4 ≤ tNT t)) (by unfold b2i; split <;> omega)) rfl rfl lk_X4_77 mf_X4_refuseIf (by decide) (Nat.le_of_ble_eq_true rfl) ⟨_, _, _, rfl, rfl, rfl⟩ ?_
      rintro _ rfl
      refine rRun hG 99999 ?_
      refine rV hG (sp_X4_number (uo := uo) (ux := (rdT1 ux t)) (ua := t) (ub := ub) (v0 := v0) (v1 := v1) (v2 := v2) (up := up) (uq := uq) (ur := ur) (lo := 1) (hi := 9) (XOK_rfs hX) (by omega) (by omega)) rfl rfl lk_X4_81 mf_X4_number (by decide) (Nat.le_of_ble_eq_true rfl) ⟨_, _, _, rfl, rfl, rfl⟩ ?_
      rintro _ _ ⟨rfl, rfl⟩
      refine rRun hG 99999 ?_
      refine rV hG (sp_X4_number (uo := uo) (ux := (rdT2 ux t)) (ua := t) (ub := ub) (v0 := v0) (v1 := v1) (v2 := v2) (up := up) (uq := uq) (ur := ur) (lo := 0) (hi := 1) (XOK_num (XOK_rfs hX)) (by omega) (by omega)) rfl rfl lk_X4_81 mf_X4_number (by decide) (Nat.le_of_ble_eq_true rfl) ⟨_, _, _, rfl, rfl, rfl⟩ ?_
      rintro _ _ ⟨rfl, rfl⟩
      refine rRun hG 99999 ?_
      refine rV hG (sp_X4_stops (uo := uo) (ux := (rdT3 ux t)) (ua := t) (ub := ub) (v0 := v0) (v1 := v1) (v2 := v2) (up := up) (uq := uq) (ur := ur) (XOK_num (XOK_num (XOK_rfs hX)))) rfl rfl lk_X4_85 mf_X4_stops (by decide) (Nat.le_of_ble_eq_true rfl) ⟨_, _, _, rfl, rfl, rfl⟩ ?_
      rintro w9 _ ⟨hw, rfl⟩
      have hw1 : (w9 = 1 ∧ xF (stpX (rdT3 ux t)) = -1) ∨ (w9 = 0 ∧ ¬ xF (stpX (rdT3 ux t)) = -1) := (by rw [hw]; by_cases q9 : xF (stpX (rdT3 ux t)) = -1 <;> simp [q9])
      clear hw
      refine rRun hG 99999 ?_
      refine And.intro (by first | omega | (simp only [xB_s, xN_s, xP_s, xS_s, xK_s, xV_s, xF_s, xR_s, xL_s, xA_s]; omega)) (And.intro (fun cs => ?_) (fun cs => ?_))
      · try simp only [xB_s, xN_s, xP_s, xS_s, xK_s, xV_s, xF_s, xR_s, xL_s, xA_s] at cs
        refine rVR hG rfl rfl rfl ?_
        have hq : (w9 = 1 ∧ xF (rdTraX ux t) = -1) ∨ (w9 = 0 ∧ ¬ xF (rdTraX ux t) = -1) := hw1
        unfold rdTraT
        first | (rw [if_pos (by omega : xF (rdTraX ux t) = -1)]; done) | (rw [if_pos (by omega : xF (rdTraX ux t) = -1)]; rfl) | (rw [if_neg (by omega : ¬ xF (rdTraX ux t) = -1)]; done) | (rw [if_neg (by omega : ¬ xF (rdTraX ux t) = -1)]; rfl)
      · try simp only [xB_s, xN_s, xP_s, xS_s, xK_s, xV_s, xF_s, xR_s, xL_s, xA_s] at cs
        refine rVV hG (sp_X5_addTrade (uo := uo) (ux := (rdTraX ux t)) (ua := t) (ub := ub) (v0 := v0) (v1 := v1) (v2 := v2) (up := up) (uq := uq) (ur := ur) (k := false) (t := t) (ht := rfl) (w := numR 1 (rdT1 ux t)) (s := numR 0 (rdT2 ux t)) (by omega)) rfl rfl lk_X4_103 mf_X5_addTrade (by decide) (Nat.le_of_ble_eq_true rfl) ⟨_, _, _, rfl, rfl, rfl⟩ ?_
        rintro _ rfl
        refine rVR hG rfl rfl rfl ?_
        have hq : (w9 = 1 ∧ xF (rdTraX ux t) = -1) ∨ (w9 = 0 ∧ ¬ xF (rdTraX ux t) = -1) := hw1
        unfold rdTraT
        first | (rw [if_pos (by omega : xF (rdTraX ux t) = -1)]; done) | (rw [if_pos (by omega : xF (rdTraX ux t) = -1)]; rfl) | (rw [if_neg (by omega : ¬ xF (rdTraX ux t) = -1)]; done) | (rw [if_neg (by omega : ¬ xF (rdTraX ux t) = -1)]; rfl)
    refine rRun hG 14 ?_
    refine And.intro rfl (And.intro (by first | omega | (simp only [xB_s, xN_s, xP_s, xS_s, xK_s, xV_s, xF_s, xR_s, xL_s, xA_s]; omega)) (And.intro (fun c1 => ?_) (fun c1 => ?_)))
    · try simp only [xB_s, xN_s, xP_s, xS_s, xK_s, xV_s, xF_s, xR_s, xL_s, xA_s] at c1
      refine rRun hG 14 ?_
      first | (rw [show b2i (4 ≤ tNT t) = 1 from if_pos (by omega)] at J; exact J) | (rw [show b2i (4 ≤ tNT t) = 0 from if_neg (by omega)] at J; exact J)
    · try simp only [xB_s, xN_s, xP_s, xS_s, xK_s, xV_s, xF_s, xR_s, xL_s, xA_s] at c1
      first | (rw [show b2i (4 ≤ tNT t) = 1 from if_pos (by omega)] at J; exact J) | (rw [show b2i (4 ≤ tNT t) = 0 from if_neg (by omega)] at J; exact J)
  · obtain rfl : t = ub := ht
    refine SpV.of (cd := kdX4_readTrade) (fT := mlook flX4) (kT := mlook klX4) (kJ := mlook jlX4) mfA_X4_readTrade ok_X4_readTrade fT_X4 kT_X4 jT_X4 jdk_ok True.intro (Nat.le_of_ble_eq_true rfl) (fun G hG => ?_)
    have J : G 14 [some (mr 1), some (mr 7), none, none] [mi (b2i (4 ≤ tNT t)), mr 1] (hC uo ux ua t v0 v1 v2 up uq ur) := by
      refine rVV hG (sp_X4_refuseIf (uo := uo) (ux := ux) (ua := ua) (ub := t) (v0 := v0) (v1 := v1) (v2 := v2) (up := up) (uq := uq) (ur := ur) (c := b2i (4 ≤ tNT t)) (by unfold b2i; split <;> omega)) rfl rfl lk_X4_77 mf_X4_refuseIf (by decide) (Nat.le_of_ble_eq_true rfl) ⟨_, _, _, rfl, rfl, rfl⟩ ?_
      rintro _ rfl
      refine rRun hG 99999 ?_
      refine rV hG (sp_X4_number (uo := uo) (ux := (rdT1 ux t)) (ua := ua) (ub := t) (v0 := v0) (v1 := v1) (v2 := v2) (up := up) (uq := uq) (ur := ur) (lo := 1) (hi := 9) (XOK_rfs hX) (by omega) (by omega)) rfl rfl lk_X4_81 mf_X4_number (by decide) (Nat.le_of_ble_eq_true rfl) ⟨_, _, _, rfl, rfl, rfl⟩ ?_
      rintro _ _ ⟨rfl, rfl⟩
      refine rRun hG 99999 ?_
      refine rV hG (sp_X4_number (uo := uo) (ux := (rdT2 ux t)) (ua := ua) (ub := t) (v0 := v0) (v1 := v1) (v2 := v2) (up := up) (uq := uq) (ur := ur) (lo := 0) (hi := 1) (XOK_num (XOK_rfs hX)) (by omega) (by omega)) rfl rfl lk_X4_81 mf_X4_number (by decide) (Nat.le_of_ble_eq_true rfl) ⟨_, _, _, rfl, rfl, rfl⟩ ?_
      rintro _ _ ⟨rfl, rfl⟩
      refine rRun hG 99999 ?_
      refine rV hG (sp_X4_stops (uo := uo) (ux := (rdT3 ux t)) (ua := ua) (ub := t) (v0 := v0) (v1 := v1) (v2 := v2) (up := up) (uq := uq) (ur := ur) (XOK_num (XOK_num (XOK_rfs hX)))) rfl rfl lk_X4_85 mf_X4_stops (by decide) (Nat.le_of_ble_eq_true rfl) ⟨_, _, _, rfl, rfl, rfl⟩ ?_
      rintro w9 _ ⟨hw, rfl⟩
      have hw1 : (w9 = 1 ∧ xF (stpX (rdT3 ux t)) = -1) ∨ (w9 = 0 ∧ ¬ xF (stpX (rdT3 ux t)) = -1) := (by rw [hw]; by_cases q9 : xF (stpX (rdT3 ux t)) = -1 <;> simp [q9])
      clear hw
      refine rRun hG 99999 ?_
      refine And.intro (by first | omega | (simp only [xB_s, xN_s, xP_s, xS_s, xK_s, xV_s, xF_s, xR_s, xL_s, xA_s]; omega)) (And.intro (fun cs => ?_) (fun cs => ?_))
      · try simp only [xB_s, xN_s, xP_s, xS_s, xK_s, xV_s, xF_s, xR_s, xL_s, xA_s] at cs
        refine rVR hG rfl rfl rfl ?_
        have hq : (w9 = 1 ∧ xF (rdTraX ux t) = -1) ∨ (w9 = 0 ∧ ¬ xF (rdTraX ux t) = -1) := hw1
        unfold rdTraT
        first | (rw [if_pos (by omega : xF (rdTraX ux t) = -1)]; done) | (rw [if_pos (by omega : xF (rdTraX ux t) = -1)]; rfl) | (rw [if_neg (by omega : ¬ xF (rdTraX ux t) = -1)]; done) | (rw [if_neg (by omega : ¬ xF (rdTraX ux t) = -1)]; rfl)
      · try simp only [xB_s, xN_s, xP_s, xS_s, xK_s, xV_s, xF_s, xR_s, xL_s, xA_s] at cs
        refine rVV hG (sp_X5_addTrade (uo := uo) (ux := (rdTraX ux t)) (ua := ua) (ub := t) (v0 := v0) (v1 := v1) (v2 := v2) (up := up) (uq := uq) (ur := ur) (k := true) (t := t) (ht := rfl) (w := numR 1 (rdT1 ux t)) (s := numR 0 (rdT2 ux t)) (by omega)) rfl rfl lk_X4_103 mf_X5_addTrade (by decide) (Nat.le_of_ble_eq_true rfl) ⟨_, _, _, rfl, rfl, rfl⟩ ?_
        rintro _ rfl
        refine rVR hG rfl rfl rfl ?_
        have hq : (w9 = 1 ∧ xF (rdTraX ux t) = -1) ∨ (w9 = 0 ∧ ¬ xF (rdTraX ux t) = -1) := hw1
        unfold rdTraT
        first | (rw [if_pos (by omega : xF (rdTraX ux t) = -1)]; done) | (rw [if_pos (by omega : xF (rdTraX ux t) = -1)]; rfl) | (rw [if_neg (by omega : ¬ xF (rdTraX ux t) = -1)]; done) | (rw [if_neg (by omega : ¬ xF (rdTraX ux t) = -1)]; rfl)
    refine rRun hG 14 ?_
    refine And.intro rfl (And.intro (by first | omega | (simp only [xB_s, xN_s, xP_s, xS_s, xK_s, xV_s, xF_s, xR_s, xL_s, xA_s]; omega)) (And.intro (fun c1 => ?_) (fun c1 => ?_)))
    · try simp only [xB_s, xN_s, xP_s, xS_s, xK_s, xV_s, xF_s, xR_s, xL_s, xA_s] at c1
      refine rRun hG 14 ?_
      first | (rw [show b2i (4 ≤ tNT t) = 1 from if_pos (by omega)] at J; exact J) | (rw [show b2i (4 ≤ tNT t) = 0 from if_neg (by omega)] at J; exact J)
    · try simp only [xB_s, xN_s, xP_s, xS_s, xK_s, xV_s, xF_s, xR_s, xL_s, xA_s] at c1
      first | (rw [show b2i (4 ≤ tNT t) = 1 from if_pos (by omega)] at J; exact J) | (rw [show b2i (4 ≤ tNT t) = 0 from if_neg (by omega)] at J; exact J)
set_option maxRecDepth 20000 in
set_option maxHeartbeats 2000000 in
theorem sp_X4_readRest {uo : UD} {ux : XD} {ua ub : TD} {v0 v1 v2 : SD} {up uq : PD} {ur : HD} {k : Bool} {t : TD} (ht : t = tsel k ua ub)  (hX : XOK ux) (hf : inI (xR ux) ∧ inI (xL ux) ∧ inI (xA ux)) : SpV l 6 yX4_readRest cX4_readRest 3 none [mr 1, mr (tix k)] (hC uo ux ua ub v0 v1 v2 up uq ur) (fun h => h = hC uo (rdRstX ux) (cond k ua (rdRstT ux t)) (cond k (rdRstT ux t) ub) v0 v1 v2 up uq ur) := by
  cases k
  · obtain rfl : t = ua := ht
    refine SpV.of (cd := kdX4_readRest) (fT := mlook flX4) (kT := mlook klX4) (kJ := mlook jlX4) mfA_X4_readRest ok_X4_readRest fT_X4 kT_X4 jT_X4 jdk_ok True.intro (Nat.le_of_ble_eq_true rfl) (fun G hG => ?_)
    refine rRun hG 99999 ?_
    refine And.intro rfl (?_)
    refine rVV hG (sp_X4_refuseIf (uo := uo) (ux := ux) (ua := t) (ub := ub) (v0 := v0) (v1 := v1) (v2 := v2) (up := up) (uq := uq) (ur := ur) (c := xR ux) (by omega)) rfl rfl lk_X4_77 mf_X4_refuseIf (by decide) (Nat.le_of_ble_eq_true rfl) ⟨_, _, _, rfl, rfl, rfl⟩ ?_
    rintro _ rfl
    refine rRun hG 99999 ?_
    refine rV hG (sp_X4_number (uo := uo) (ux := (rfs (xR ux) ux)) (ua := t) (ub := ub) (v0 := v0) (v1 := v1) (v2 := v2) (up := up) (uq := uq) (ur := ur) (lo := 1) (hi := 60) (XOK_rfs hX) (by omega) (by omega)) rfl rfl lk_X4_81 mf_X4_number (by decide) (Nat.le_of_ble_eq_true rfl) ⟨_, _, _, rfl, rfl, rfl⟩ ?_
    rintro _ _ ⟨rfl, rfl⟩
    refine rRun hG 99999 ?_
    refine rV hG (sp_X4_stops (uo := uo) (ux := (numX 1 60 (rfs (xR ux) ux))) (ua := t) (ub := ub) (v0 := v0) (v1 := v1) (v2 := v2) (up := up) (uq := uq) (ur := ur) (XOK_num (XOK_rfs hX))) rfl rfl lk_X4_85 mf_X4_stops (by decide) (Nat.le_of_ble_eq_true rfl) ⟨_, _, _, rfl, rfl, rfl⟩ ?_
    rintro w9 _ ⟨hw, rfl⟩
    have hw1 : (w9 = 1 ∧ xF (stpX (numX 1 60 (rfs (xR ux) ux))) = -1) ∨ (w9 = 0 ∧ ¬ xF (stpX (numX 1 60 (rfs (xR ux) ux))) = -1) := (by rw [hw]; by_cases q9 : xF (stpX (numX 1 60 (rfs (xR ux) ux))) = -1 <;> simp [q9])
    clear hw
    refine rRun hG 99999 ?_
    refine And.intro (by first | omega | (simp only [xB_s, xN_s, xP_s, xS_s, xK_s, xV_s, xF_s, xR_s, xL_s, xA_s]; omega)) (And.intro (fun cs => ?_) (fun cs => ?_))
    · try simp only [xB_s, xN_s, xP_s, xS_s, xK_s, xV_s, xF_s, xR_s, xL_s, xA_s] at cs
      refine rVR hG rfl rfl rfl ?_
      have hq : (w9 = 1 ∧ xF (rdR1 ux) = -1) ∨ (w9 = 0 ∧ ¬ xF (rdR1 ux) = -1) := hw1
      unfold rdRstT rdRstX
      first | (rw [if_pos (by omega : xF (rdR1 ux) = -1), if_pos (by omega : xF (rdR1 ux) = -1)]; done) | (rw [if_pos (by omega : xF (rdR1 ux) = -1), if_pos (by omega : xF (rdR1 ux) = -1)]; rfl) | (rw [if_neg (by omega : ¬ xF (rdR1 ux) = -1), if_neg (by omega : ¬ xF (rdR1 ux) = -1)]; done) | (rw [if_neg (by omega : ¬ xF (rdR1 ux) = -1), if_neg (by omega : ¬ xF (rdR1 ux) = -1)]; rfl)
    · try simp only [xB_s, xN_s, xP_s, xS_s, xK_s, xV_s, xF_s, xR_s, xL_s, xA_s] at cs
      refine And.intro ⟨rfl, by exact Nat.le_of_ble_eq_true rfl, by exact True.intro⟩ (And.intro ⟨rfl, by exact Nat.le_of_ble_eq_true rfl, by exact Or.inr rfl⟩ (?_))
      refine rVR hG rfl rfl rfl ?_
      have hq : (w9 = 1 ∧ xF (rdR1 ux) = -1) ∨ (w9 = 0 ∧ ¬ xF (rdR1 ux) = -1) := hw1
      unfold rdRstT rdRstX
      first | (rw [if_pos (by omega : xF (rdR1 ux) = -1), if_pos (by omega : xF (rdR1 ux) = -1)]; done) | (rw [if_pos (by omega : xF (rdR1 ux) = -1), if_pos (by omega : xF (rdR1 ux) = -1)]; rfl) | (rw [if_neg (by omega : ¬ xF (rdR1 ux) = -1), if_neg (by omega : ¬ xF (rdR1 ux) = -1)]; done) | (rw [if_neg (by omega : ¬ xF (rdR1 ux) = -1), if_neg (by omega : ¬ xF (rdR1 ux) = -1)]; rfl)
  · obtain rfl : t = ub := ht
    refine SpV.of (cd := kdX4_readRest) (fT := mlook flX4) (kT := mlook klX4) (kJ := mlook jlX4) mfA_X4_readRest ok_X4_readRest fT_X4 kT_X4 jT_X4 jdk_ok True.intro (Nat.le_of_ble_eq_true rfl) (fun G hG => ?_)
    refine rRun hG 99999 ?_
    refine And.intro rfl (?_)
    refine rVV hG (sp_X4_refuseIf (uo := uo) (ux := ux) (ua := ua) (ub := t) (v0 := v0) (v1 := v1) (v2 := v2) (up := up) (uq := uq) (ur := ur) (c := xR ux) (by omega)) rfl rfl lk_X4_77 mf_X4_refuseIf (by decide) (Nat.le_of_ble_eq_true rfl) ⟨_, _, _, rfl, rfl, rfl⟩ ?_
    rintro _ rfl
    refine rRun hG 99999 ?_
    refine rV hG (sp_X4_number (uo := uo) (ux := (rfs (xR ux) ux)) (ua := ua) (ub := t) (v0 := v0) (v1 := v1) (v2 := v2) (up := up) (uq := uq) (ur := ur) (lo := 1) (hi := 60) (XOK_rfs hX) (by omega) (by omega)) rfl rfl lk_X4_81 mf_X4_number (by decide) (Nat.le_of_ble_eq_true rfl) ⟨_, _, _, rfl, rfl, rfl⟩ ?_
    rintro _ _ ⟨rfl, rfl⟩
    refine rRun hG 99999 ?_
    refine rV hG (sp_X4_stops (uo := uo) (ux := (numX 1 60 (rfs (xR ux) ux))) (ua := ua) (ub := t) (v0 := v0) (v1 := v1) (v2 := v2) (up := up) (uq := uq) (ur := ur) (XOK_num (XOK_rfs hX))) rfl rfl lk_X4_85 mf_X4_stops (by decide) (Nat.le_of_ble_eq_true rfl) ⟨_, _, _, rfl, rfl, rfl⟩ ?_
    rintro w9 _ ⟨hw, rfl⟩
    have hw1 : (w9 = 1 ∧ xF (stpX (numX 1 60 (rfs (xR ux) ux))) = -1) ∨ (w9 = 0 ∧ ¬ xF (stpX (numX 1 60 (rfs (xR ux) ux))) = -1) := (by rw [hw]; by_cases q9 : xF (stpX (numX 1 60 (rfs (xR ux) ux))) = -1 <;> simp [q9])
    clear hw
    refine rRun hG 99999 ?_
    refine And.intro (by first | omega | (simp only [xB_s, xN_s, xP_s, xS_s, xK_s, xV_s, xF_s, xR_s, xL_s, xA_s]; omega)) (And.intro (fun cs => ?_) (fun cs => ?_))
    · try simp only [xB_s, xN_s, xP_s, xS_s, xK_s, xV_s, xF_s, xR_s, xL_s, xA_s] at cs
      refine rVR hG rfl rfl rfl ?_
      have hq : (w9 = 1 ∧ xF (rdR1 ux) = -1) ∨ (w9 = 0 ∧ ¬ xF (rdR1 ux) = -1) := hw1
      unfold rdRstT rdRstX
      first | (rw [if_pos (by omega : xF (rdR1 ux) = -1), if_pos (by omega : xF (rdR1 ux) = -1)]; done) | (rw [if_pos (by omega : xF (rdR1 ux) = -1), if_pos (by omega : xF (rdR1 ux) = -1)]; rfl) | (rw [if_neg (by omega : ¬ xF (rdR1 ux) = -1), if_neg (by omega : ¬ xF (rdR1 ux) = -1)]; done) | (rw [if_neg (by omega : ¬ xF (rdR1 ux) = -1), if_neg (by omega : ¬ xF (rdR1 ux) = -1)]; rfl)
    · try simp only [xB_s, xN_s, xP_s, xS_s, xK_s, xV_s, xF_s, xR_s, xL_s, xA_s] at cs
      refine And.intro ⟨rfl, by exact Nat.le_of_ble_eq_true rfl, by exact True.intro⟩ (And.intro ⟨rfl, by exact Nat.le_of_ble_eq_true rfl, by exact Or.inr rfl⟩ (?_))
      refine rVR hG rfl rfl rfl ?_
      have hq : (w9 = 1 ∧ xF (rdR1 ux) = -1) ∨ (w9 = 0 ∧ ¬ xF (rdR1 ux) = -1) := hw1
      unfold rdRstT rdRstX
      first | (rw [if_pos (by omega : xF (rdR1 ux) = -1), if_pos (by omega : xF (rdR1 ux) = -1)]; done) | (rw [if_pos (by omega : xF (rdR1 ux) = -1), if_pos (by omega : xF (rdR1 ux) = -1)]; rfl) | (rw [if_neg (by omega : ¬ xF (rdR1 ux) = -1), if_neg (by omega : ¬ xF (rdR1 ux) = -1)]; done) | (rw [if_neg (by omega : ¬ xF (rdR1 ux) = -1), if_neg (by omega : ¬ xF (rdR1 ux) = -1)]; rfl)
set_option maxRecDepth 20000 in
set_option maxHeartbeats 2000000 in
theorem sp_X4_readLimit {uo : UD} {ux : XD} {ua ub : TD} {v0 v1 v2 : SD} {up uq : PD} {ur : HD} {k : Bool} {t : TD} (ht : t = tsel k ua ub)  (hX : XOK ux) (hf : inI (xR ux) ∧ inI (xL ux) ∧ inI (xA ux)) : SpV l 6 yX4_readLimit cX4_readLimit 3 none [mr 1, mr (tix k)] (hC uo ux ua ub v0 v1 v2 up uq ur) (fun h => h = hC uo (rdLimX ux) (cond k ua (rdLimT ux t)) (cond k (rdLimT ux t) ub) v0 v1 v2 up uq ur) := by
  cases k
  · obtain rfl : t = ua := ht
    refine SpV.of (cd := kdX4_readLimit) (fT := mlook flX4) (kT := mlook klX4) (kJ := mlook jlX4) mfA_X4_readLimit ok_X4_readLimit fT_X4 kT_X4 jT_X4 jdk_ok True.intro (Nat.le_of_ble_eq_true rfl) (fun G hG => ?_)
    refine rRun hG 99999 ?_
    refine And.intro rfl (?_)
    refine rVV hG (sp_X4_refuseIf (uo := uo) (ux := ux) (ua := t) (ub := ub) (v0 := v0) (v1 := v1) (v2 := v2) (up := up) (uq := uq) (ur := ur) (c := xL ux) (by omega)) rfl rfl lk_X4_77 mf_X4_refuseIf (by decide) (Nat.le_of_ble_eq_true rfl) ⟨_, _, _, rfl, rfl, rfl⟩ ?_
    rintro _ rfl
    refine rRun hG 99999 ?_
    refine rV hG (sp_X4_number (uo := uo) (ux := (rfs (xL ux) ux)) (ua := t) (ub := ub) (v0 := v0) (v1 := v1) (v2 := v2) (up := up) (uq := uq) (ur := ur) (lo := 0) (hi := 6) (XOK_rfs hX) (by omega) (by omega)) rfl rfl lk_X4_81 mf_X4_number (by decide) (Nat.le_of_ble_eq_true rfl) ⟨_, _, _, rfl, rfl, rfl⟩ ?_
    rintro _ _ ⟨rfl, rfl⟩
    refine rRun hG 99999 ?_
    refine rV hG (sp_X4_stops (uo := uo) (ux := (numX 0 6 (rfs (xL ux) ux))) (ua := t) (ub := ub) (v0 := v0) (v1 := v1) (v2 := v2) (up := up) (uq := uq) (ur := ur) (XOK_num (XOK_rfs hX))) rfl rfl lk_X4_85 mf_X4_stops (by decide) (Nat.le_of_ble_eq_true rfl) ⟨_, _, _, rfl, rfl, rfl⟩ ?_
    rintro w9 _ ⟨hw, rfl⟩
    have hw1 : (w9 = 1 ∧ xF (stpX (numX 0 6 (rfs (xL ux) ux))) = -1) ∨ (w9 = 0 ∧ ¬ xF (stpX (numX 0 6 (rfs (xL ux) ux))) = -1) := (by rw [hw]; by_cases q9 : xF (stpX (numX 0 6 (rfs (xL ux) ux))) = -1 <;> simp [q9])
    clear hw
    refine rRun hG 99999 ?_
    refine And.intro (by first | omega | (simp only [xB_s, xN_s, xP_s, xS_s, xK_s, xV_s, xF_s, xR_s, xL_s, xA_s]; omega)) (And.intro (fun cs => ?_) (fun cs => ?_))
    · try simp only [xB_s, xN_s, xP_s, xS_s, xK_s, xV_s, xF_s, xR_s, xL_s, xA_s] at cs
      refine rVR hG rfl rfl rfl ?_
      have hq : (w9 = 1 ∧ xF (rdL1 ux) = -1) ∨ (w9 = 0 ∧ ¬ xF (rdL1 ux) = -1) := hw1
      unfold rdLimT rdLimX
      first | (rw [if_pos (by omega : xF (rdL1 ux) = -1), if_pos (by omega : xF (rdL1 ux) = -1)]; done) | (rw [if_pos (by omega : xF (rdL1 ux) = -1), if_pos (by omega : xF (rdL1 ux) = -1)]; rfl) | (rw [if_neg (by omega : ¬ xF (rdL1 ux) = -1), if_neg (by omega : ¬ xF (rdL1 ux) = -1)]; done) | (rw [if_neg (by omega : ¬ xF (rdL1 ux) = -1), if_neg (by omega : ¬ xF (rdL1 ux) = -1)]; rfl)
    · try simp only [xB_s, xN_s, xP_s, xS_s, xK_s, xV_s, xF_s, xR_s, xL_s, xA_s] at cs
      refine And.intro ⟨rfl, by exact Nat.le_of_ble_eq_true rfl, by exact True.intro⟩ (And.intro ⟨rfl, by exact Nat.le_of_ble_eq_true rfl, by exact Or.inr rfl⟩ (?_))
      refine rVR hG rfl rfl rfl ?_
      have hq : (w9 = 1 ∧ xF (rdL1 ux) = -1) ∨ (w9 = 0 ∧ ¬ xF (rdL1 ux) = -1) := hw1
      unfold rdLimT rdLimX
      first | (rw [if_pos (by omega : xF (rdL1 ux) = -1), if_pos (by omega : xF (rdL1 ux) = -1)]; done) | (rw [if_pos (by omega : xF (rdL1 ux) = -1), if_pos (by omega : xF (rdL1 ux) = -1)]; rfl) | (rw [if_neg (by omega : ¬ xF (rdL1 ux) = -1), if_neg (by omega : ¬ xF (rdL1 ux) = -1)]; done) | (rw [if_neg (by omega : ¬ xF (rdL1 ux) = -1), if_neg (by omega : ¬ xF (rdL1 ux) = -1)]; rfl)
  · obtain rfl : t = ub := ht
    refine SpV.of (cd := kdX4_readLimit) (fT := mlook flX4) (kT := mlook klX4) (kJ := mlook jlX4) mfA_X4_readLimit ok_X4_readLimit fT_X4 kT_X4 jT_X4 jdk_ok True.intro (Nat.le_of_ble_eq_true rfl) (fun G hG => ?_)
    refine rRun hG 99999 ?_
    refine And.intro rfl (?_)
    refine rVV hG (sp_X4_refuseIf (uo := uo) (ux := ux) (ua := ua) (ub := t) (v0 := v0) (v1 := v1) (v2 := v2) (up := up) (uq := uq) (ur := ur) (c := xL ux) (by omega)) rfl rfl lk_X4_77 mf_X4_refuseIf (by decide) (Nat.le_of_ble_eq_true rfl) ⟨_, _, _, rfl, rfl, rfl⟩ ?_
    rintro _ rfl
    refine rRun hG 99999 ?_
    refine rV hG (sp_X4_number (uo := uo) (ux := (rfs (xL ux) ux)) (ua := ua) (ub := t) (v0 := v0) (v1 := v1) (v2 := v2) (up := up) (uq := uq) (ur := ur) (lo := 0) (hi := 6) (XOK_rfs hX) (by omega) (by omega)) rfl rfl lk_X4_81 mf_X4_number (by decide) (Nat.le_of_ble_eq_true rfl) ⟨_, _, _, rfl, rfl, rfl⟩ ?_
    rintro _ _ ⟨rfl, rfl⟩
    refine rRun hG 99999 ?_
    refine rV hG (sp_X4_stops (uo := uo) (ux := (numX 0 6 (rfs (xL ux) ux))) (ua := ua) (ub := t) (v0 := v0) (v1 := v1) (v2 := v2) (up := up) (uq := uq) (ur := ur) (XOK_num (XOK_rfs hX))) rfl rfl lk_X4_85 mf_X4_stops (by decide) (Nat.le_of_ble_eq_true rfl) ⟨_, _, _, rfl, rfl, rfl⟩ ?_
    rintro w9 _ ⟨hw, rfl⟩
    have hw1 : (w9 = 1 ∧ xF (stpX (numX 0 6 (rfs (xL ux) ux))) = -1) ∨ (w9 = 0 ∧ ¬ xF (stpX (numX 0 6 (rfs (xL ux) ux))) = -1) := (by rw [hw]; by_cases q9 : xF (stpX (numX 0 6 (rfs (xL ux) ux))) = -1 <;> simp [q9])
    clear hw
    refine rRun hG 99999 ?_
    refine And.intro (by first | omega | (simp only [xB_s, xN_s, xP_s, xS_s, xK_s, xV_s, xF_s, xR_s, xL_s, xA_s]; omega)) (And.intro (fun cs => ?_) (fun cs => ?_))
    · try simp only [xB_s, xN_s, xP_s, xS_s, xK_s, xV_s, xF_s, xR_s, xL_s, xA_s] at cs
      refine rVR hG rfl rfl rfl ?_
      have hq : (w9 = 1 ∧ xF (rdL1 ux) = -1) ∨ (w9 = 0 ∧ ¬ xF (rdL1 ux) = -1) := hw1
      unfold rdLimT rdLimX
      first | (rw [if_pos (by omega : xF (rdL1 ux) = -1), if_pos (by omega : xF (rdL1 ux) = -1)]; done) | (rw [if_pos (by omega : xF (rdL1 ux) = -1), if_pos (by omega : xF (rdL1 ux) = -1)]; rfl) | (rw [if_neg (by omega : ¬ xF (rdL1 ux) = -1), if_neg (by omega : ¬ xF (rdL1 ux) = -1)]; done) | (rw [if_neg (by omega : ¬ xF (rdL1 ux) = -1), if_neg (by omega : ¬ xF (rdL1 ux) = -1)]; rfl)
    · try simp only [xB_s, xN_s, xP_s, xS_s, xK_s, xV_s, xF_s, xR_s, xL_s, xA_s] at cs
      refine And.intro ⟨rfl, by exact Nat.le_of_ble_eq_true rfl, by exact True.intro⟩ (And.intro ⟨rfl, by exact Nat.le_of_ble_eq_true rfl, by exact Or.inr rfl⟩ (?_))
      refine rVR hG rfl rfl rfl ?_
      have hq : (w9 = 1 ∧ xF (rdL1 ux) = -1) ∨ (w9 = 0 ∧ ¬ xF (rdL1 ux) = -1) := hw1
      unfold rdLimT rdLimX
      first | (rw [if_pos (by omega : xF (rdL1 ux) = -1), if_pos (by omega : xF (rdL1 ux) = -1)]; done) | (rw [if_pos (by omega : xF (rdL1 ux) = -1), if_pos (by omega : xF (rdL1 ux) = -1)]; rfl) | (rw [if_neg (by omega : ¬ xF (rdL1 ux) = -1), if_neg (by omega : ¬ xF (rdL1 ux) = -1)]; done) | (rw [if_neg (by omega : ¬ xF (rdL1 ux) = -1), if_neg (by omega : ¬ xF (rdL1 ux) = -1)]; rfl)
set_option maxRecDepth 20000 in
set_option maxHeartbeats 2000000 in
theorem sp_X4_readAdded {uo : UD} {ux : XD} {ua ub : TD} {v0 v1 v2 : SD} {up uq : PD} {ur : HD} {k : Bool} {t : TD} (ht : t = tsel k ua ub)  (hX : XOK ux) (hf : inI (xR ux) ∧ inI (xL ux) ∧ inI (xA ux)) : SpV l 6 yX4_readAdded cX4_readAdded 3 none [mr 1, mr (tix k)] (hC uo ux ua ub v0 v1 v2 up uq ur) (fun h => h = hC uo (rdAddX ux) (cond k ua (rdAddT ux t)) (cond k (rdAddT ux t) ub) v0 v1 v2 up uq ur) := by
  cases k
  · obtain rfl : t = ua := ht
    refine SpV.of (cd := kdX4_readAdded) (fT := mlook flX4) (kT := mlook klX4) (kJ := mlook jlX4) mfA_X4_readAdded ok_X4_readAdded fT_X4 kT_X4 jT_X4 jdk_ok True.intro (Nat.le_of_ble_eq_true rfl) (fun G hG => ?_)
    refine rRun hG 99999 ?_
    refine And.intro rfl (?_)
    refine rVV hG (sp_X4_refuseIf (uo := uo) (ux := ux) (ua := t) (ub := ub) (v0 := v0) (v1 := v1) (v2 := v2) (up := up) (uq := uq) (ur := ur) (c := xA ux) (by omega)) rfl rfl lk_X4_77 mf_X4_refuseIf (by decide) (Nat.le_of_ble_eq_true rfl) ⟨_, _, _, rfl, rfl, rfl⟩ ?_
    rintro _ rfl
    refine rRun hG 99999 ?_
    refine rV hG (sp_X4_number (uo := uo) (ux := (rfs (xA ux) ux)) (ua := t) (ub := ub) (v0 := v0) (v1 := v1) (v2 := v2) (up := up) (uq := uq) (ur := ur) (lo := 0) (hi := 9) (XOK_rfs hX) (by omega) (by omega)) rfl rfl lk_X4_81 mf_X4_number (by decide) (Nat.le_of_ble_eq_true rfl) ⟨_, _, _, rfl, rfl, rfl⟩ ?_
    rintro _ _ ⟨rfl, rfl⟩
    refine rRun hG 99999 ?_
    refine rV hG (sp_X4_stops (uo := uo) (ux := (numX 0 9 (rfs (xA ux) ux))) (ua := t) (ub := ub) (v0 := v0) (v1 := v1) (v2 := v2) (up := up) (uq := uq) (ur := ur) (XOK_num (XOK_rfs hX))) rfl rfl lk_X4_85 mf_X4_stops (by decide) (Nat.le_of_ble_eq_true rfl) ⟨_, _, _, rfl, rfl, rfl⟩ ?_
    rintro w9 _ ⟨hw, rfl⟩
    have hw1 : (w9 = 1 ∧ xF (stpX (numX 0 9 (rfs (xA ux) ux))) = -1) ∨ (w9 = 0 ∧ ¬ xF (stpX (numX 0 9 (rfs (xA ux) ux))) = -1) := (by rw [hw]; by_cases q9 : xF (stpX (numX 0 9 (rfs (xA ux) ux))) = -1 <;> simp [q9])
    clear hw
    refine rRun hG 99999 ?_
    refine And.intro (by first | omega | (simp only [xB_s, xN_s, xP_s, xS_s, xK_s, xV_s, xF_s, xR_s, xL_s, xA_s]; omega)) (And.intro (fun cs => ?_) (fun cs => ?_))
    · try simp only [xB_s, xN_s, xP_s, xS_s, xK_s, xV_s, xF_s, xR_s, xL_s, xA_s] at cs
      refine rVR hG rfl rfl rfl ?_
      have hq : (w9 = 1 ∧ xF (rdA1 ux) = -1) ∨ (w9 = 0 ∧ ¬ xF (rdA1 ux) = -1) := hw1
      unfold rdAddT rdAddX
      first | (rw [if_pos (by omega : xF (rdA1 ux) = -1), if_pos (by omega : xF (rdA1 ux) = -1)]; done) | (rw [if_pos (by omega : xF (rdA1 ux) = -1), if_pos (by omega : xF (rdA1 ux) = -1)]; rfl) | (rw [if_neg (by omega : ¬ xF (rdA1 ux) = -1), if_neg (by omega : ¬ xF (rdA1 ux) = -1)]; done) | (rw [if_neg (by omega : ¬ xF (rdA1 ux) = -1), if_neg (by omega : ¬ xF (rdA1 ux) = -1)]; rfl)
    · try simp only [xB_s, xN_s, xP_s, xS_s, xK_s, xV_s, xF_s, xR_s, xL_s, xA_s] at cs
      refine And.intro ⟨rfl, by exact Nat.le_of_ble_eq_true rfl, by exact True.intro⟩ (And.intro ⟨rfl, by exact Nat.le_of_ble_eq_true rfl, by exact Or.inr rfl⟩ (?_))
      refine rVR hG rfl rfl rfl ?_
      have hq : (w9 = 1 ∧ xF (rdA1 ux) = -1) ∨ (w9 = 0 ∧ ¬ xF (rdA1 ux) = -1) := hw1
      unfold rdAddT rdAddX
      first | (rw [if_pos (by omega : xF (rdA1 ux) = -1), if_pos (by omega : xF (rdA1 ux) = -1)]; done) | (rw [if_pos (by omega : xF (rdA1 ux) = -1), if_pos (by omega : xF (rdA1 ux) = -1)]; rfl) | (rw [if_neg (by omega : ¬ xF (rdA1 ux) = -1), if_neg (by omega : ¬ xF (rdA1 ux) = -1)]; done) | (rw [if_neg (by omega : ¬ xF (rdA1 ux) = -1), if_neg (by omega : ¬ xF (rdA1 ux) = -1)]; rfl)
  · obtain rfl : t = ub := ht
    refine SpV.of (cd := kdX4_readAdded) (fT := mlook flX4) (kT := mlook klX4) (kJ := mlook jlX4) mfA_X4_readAdded ok_X4_readAdded fT_X4 kT_X4 jT_X4 jdk_ok True.intro (Nat.le_of_ble_eq_true rfl) (fun G hG => ?_)
    refine rRun hG 99999 ?_
    refine And.intro rfl (?_)
    refine rVV hG (sp_X4_refuseIf (uo := uo) (ux := ux) (ua := ua) (ub := t) (v0 := v0) (v1 := v1) (v2 := v2) (up := up) (uq := uq) (ur := ur) (c := xA ux) (by omega)) rfl rfl lk_X4_77 mf_X4_refuseIf (by decide) (Nat.le_of_ble_eq_true rfl) ⟨_, _, _, rfl, rfl, rfl⟩ ?_
    rintro _ rfl
    refine rRun hG 99999 ?_
    refine rV hG (sp_X4_number (uo := uo) (ux := (rfs (xA ux) ux)) (ua := ua) (ub := t) (v0 := v0) (v1 := v1) (v2 := v2) (up := up) (uq := uq) (ur := ur) (lo := 0) (hi := 9) (XOK_rfs hX) (by omega) (by omega)) rfl rfl lk_X4_81 mf_X4_number (by decide) (Nat.le_of_ble_eq_true rfl) ⟨_, _, _, rfl, rfl, rfl⟩ ?_
    rintro _ _ ⟨rfl, rfl⟩
    refine rRun hG 99999 ?_
    refine rV hG (sp_X4_stops (uo := uo) (ux := (numX 0 9 (rfs (xA ux) ux))) (ua := ua) (ub := t) (v0 := v0) (v1 := v1) (v2 := v2) (up := up) (uq := uq) (ur := ur) (XOK_num (XOK_rfs hX))) rfl rfl lk_X4_85 mf_X4_stops (by decide) (Nat.le_of_ble_eq_true rfl) ⟨_, _, _, rfl, rfl, rfl⟩ ?_
    rintro w9 _ ⟨hw, rfl⟩
    have hw1 : (w9 = 1 ∧ xF (stpX (numX 0 9 (rfs (xA ux) ux))) = -1) ∨ (w9 = 0 ∧ ¬ xF (stpX (numX 0 9 (rfs (xA ux) ux))) = -1) := (by rw [hw]; by_cases q9 : xF (stpX (numX 0 9 (rfs (xA ux) ux))) = -1 <;> simp [q9])
    clear hw
    refine rRun hG 99999 ?_
    refine And.intro (by first | omega | (simp only [xB_s, xN_s, xP_s, xS_s, xK_s, xV_s, xF_s, xR_s, xL_s, xA_s]; omega)) (And.intro (fun cs => ?_) (fun cs => ?_))
    · try simp only [xB_s, xN_s, xP_s, xS_s, xK_s, xV_s, xF_s, xR_s, xL_s, xA_s] at cs
      refine rVR hG rfl rfl rfl ?_
      have hq : (w9 = 1 ∧ xF (rdA1 ux) = -1) ∨ (w9 = 0 ∧ ¬ xF (rdA1 ux) = -1) := hw1
      unfold rdAddT rdAddX
      first | (rw [if_pos (by omega : xF (rdA1 ux) = -1), if_pos (by omega : xF (rdA1 ux) = -1)]; done) | (rw [if_pos (by omega : xF (rdA1 ux) = -1), if_pos (by omega : xF (rdA1 ux) = -1)]; rfl) | (rw [if_neg (by omega : ¬ xF (rdA1 ux) = -1), if_neg (by omega : ¬ xF (rdA1 ux) = -1)]; done) | (rw [if_neg (by omega : ¬ xF (rdA1 ux) = -1), if_neg (by omega : ¬ xF (rdA1 ux) = -1)]; rfl)
    · try simp only [xB_s, xN_s, xP_s, xS_s, xK_s, xV_s, xF_s, xR_s, xL_s, xA_s] at cs
      refine And.intro ⟨rfl, by exact Nat.le_of_ble_eq_true rfl, by exact True.intro⟩ (And.intro ⟨rfl, by exact Nat.le_of_ble_eq_true rfl, by exact Or.inr rfl⟩ (?_))
      refine rVR hG rfl rfl rfl ?_
      have hq : (w9 = 1 ∧ xF (rdA1 ux) = -1) ∨ (w9 = 0 ∧ ¬ xF (rdA1 ux) = -1) := hw1
      unfold rdAddT rdAddX
      first | (rw [if_pos (by omega : xF (rdA1 ux) = -1), if_pos (by omega : xF (rdA1 ux) = -1)]; done) | (rw [if_pos (by omega : xF (rdA1 ux) = -1), if_pos (by omega : xF (rdA1 ux) = -1)]; rfl) | (rw [if_neg (by omega : ¬ xF (rdA1 ux) = -1), if_neg (by omega : ¬ xF (rdA1 ux) = -1)]; done) | (rw [if_neg (by omega : ¬ xF (rdA1 ux) = -1), if_neg (by omega : ¬ xF (rdA1 ux) = -1)]; rfl)
end WALKS
end
section
/-! Text: the reading of it all -/
section WALKS
variable {l : Launch}
theorem le01 : (0 : Int) ≤ 1 ∧ (1 : Int) ≤ 1 := by decide
theorem le00 : (0 : Int) ≤ 0 ∧ (0 : Int) ≤ 1 := by decide
theorem le0n {n : Int} (h : 0 ≤ n) : (0 : Int) ≤ 0 ∧ (0 : Int) ≤ n := ⟨Int.le_refl _, h⟩
def FL (x : XD) : Prop := (0 ≤ xR x ∧ xR x ≤ 1) ∧ (0 ≤ xL x ∧ xL x ≤ 1) ∧ 0 ≤ xA x ∧ xA x ≤ 1
theorem FL_of {x y : XD} (h : FL x) (h1 : xR y = xR x) (h2 : xL y = xL x) (h3 : xA y = xA x) : FL y := by
  unfold FL; rw [h1, h2, h3]; exact h
theorem ntk_R {x : XD} : xR (ntk x) = xR x ∧ xL (ntk x) = xL x ∧ xA (ntk x) = xA x := by
  unfold ntk
  split
  · exact ⟨rfl, rfl, rfl⟩
  · split
    · exact ⟨rfl, rfl, rfl⟩
    · split <;> exact ⟨rfl, rfl, rfl⟩
theorem rfs_R {x : XD} {c : Int} : xR (rfs c x) = xR x ∧ xL (rfs c x) = xL x ∧ xA (rfs c x) = xA x := by
  unfold rfs
  split <;> exact ⟨rfl, rfl, rfl⟩
theorem num_R {x : XD} {lo hi : Int} : xR (numX lo hi x) = xR x ∧ xL (numX lo hi x) = xL x ∧ xA (numX lo hi x) = xA x := by
  unfold numX
  split
  · split
    · exact ntk_R
    · exact ntk_R (x := x)
  · exact ⟨rfl, rfl, rfl⟩
theorem stp_R {x : XD} : xR (stpX x) = xR x ∧ xL (stpX x) = xL x ∧ xA (stpX x) = xA x := by
  unfold stpX
  split
  · split
    · exact ntk_R
    · exact ntk_R (x := x)
  · exact ⟨rfl, rfl, rfl⟩
theorem FL_ntk {x : XD} (h : FL x) : FL (ntk x) := FL_of h ntk_R.1 ntk_R.2.1 ntk_R.2.2
theorem FL_rfs {x : XD} (h : FL x) {c : Int} : FL (rfs c x) := FL_of h rfs_R.1 rfs_R.2.1 rfs_R.2.2
theorem FL_num {x : XD} (h : FL x) {lo hi : Int} : FL (numX lo hi x) := FL_of h num_R.1 num_R.2.1 num_R.2.2
theorem FL_stp {x : XD} (h : FL x) : FL (stpX x) := FL_of h stp_R.1 stp_R.2.1 stp_R.2.2
def TCN (t : TD) : Prop := (0 ≤ tDay t ∧ tDay t ≤ 14) ∧ (0 ≤ tNB t ∧ tNB t ≤ 6) ∧ 0 ≤ tNT t ∧ tNT t ≤ 4
theorem TCN_day {t : TD} (h : TCN t) {s : Int} : TCN (tAddDay t s) := by
  obtain ⟨h1, h2, h3⟩ := id h
  unfold tAddDay
  split
  · exact ⟨(by show 0 ≤ tDay t + 1 ∧ tDay t + 1 ≤ 14; omega), h2, h3⟩
  · exact h
theorem TCN_bri {t : TD} (h : TCN t) {d s p c : Int} : TCN (tAddBri t d s p c) := by
  obtain ⟨h1, h2, h3⟩ := id h
  unfold tAddBri
  split
  · exact ⟨h1, (by show 0 ≤ tNB t + 1 ∧ tNB t + 1 ≤ 6; omega), h3⟩
  · exact h
theorem TCN_tra {t : TD} (h : TCN t) {w s : Int} : TCN (tAddTra t w s) := by
  obtain ⟨h1, h2, h3⟩ := id h
  unfold tAddTra
  split
  · exact ⟨h1, h2, (by show 0 ≤ tNT t + 1 ∧ tNT t + 1 ≤ 4; omega)⟩
  · exact h
def ltr (x : XD) : Int := if xK x = 1 then xV x else 0
def itmX (x : XD) (t : TD) : XD := if ltr x = 100 then rdDayX x t else if ltr x = 98 then rdBriX x t else if ltr x = 104 then rdTraX x t else if ltr x = 114 then rdRstX x else if ltr x = 108 then rdLimX x else if ltr x = 97 then rdAddX x else xFl x
def itmT (x : XD) (t : TD) : TD := if ltr x = 100 then rdDayT x t else if ltr x = 98 then rdBriT x t else if ltr x = 104 then rdTraT x t else if ltr x = 114 then rdRstT x t else if ltr x = 108 then rdLimT x t else if ltr x = 97 then rdAddT x t else t
def rdL : Nat → XD → TD → Nat → XD × TD × Nat
  | 0, x, t, i => (x, t, i)
  | n + 1, x, t, i => if ¬ xK x = 0 ∧ xF x = -1 then rdL n (ntk (itmX x t)) (itmT x t) (i + 1) else (x, t, i)
theorem rdL_s {n : Nat} {x : XD} {t : TD} {i : Nat} : rdL (n + 1) x t i = if ¬ xK x = 0 ∧ xF x = -1 then rdL n (ntk (itmX x t)) (itmT x t) (i + 1) else (x, t, i) := rfl
theorem rdL_no {n : Nat} {x : XD} {t : TD} {i : Nat} (h : ¬ (¬ xK x = 0 ∧ xF x = -1)) : rdL n x t i = (x, t, i) := by
  cases n with
  | zero => rfl
  | succ n => rw [rdL_s, if_neg h]
def begX (x : XD) : XD := (xB x, xN x, 0, xS x, xK x, xV x, -1, 0, 0, 0)
def rdAll (x : XD) (t : TD) : XD × TD × Nat := rdL 150 (ntk (begX x)) (tWipe t) 0
def rdAns (x : XD) (t : TD) : Int := if xF (rdAll x t).1 = -1 then ((rdAll x t).2.2 : Int) else -10 - xF (rdAll x t).1
theorem XOK_beg {x : XD} (h : XOK x) : XOK (begX x) := ⟨h.1, ⟨Int.le_refl _, h.1.1⟩, h.2.2.1, h.2.2.2.1, h.2.2.2.2.1, by show (-1 : Int) ≤ -1 ∧ (-1 : Int) ≤ 150; omega, h.2.2.2.2.2.2⟩
theorem XOK_flg {x : XD} (h : XOK x) {r l a : Int} : XOK (xFlg x r l a) := h
theorem XOK_itm {x : XD} (h : XOK x) {t : TD} : XOK (itmX x t) := by
  unfold itmX
  split
  · exact XOK_stp (XOK_num (XOK_rfs h))
  · split
    · exact XOK_stp (XOK_num (XOK_num (XOK_num (XOK_num (XOK_rfs h)))))
    · split
      · exact XOK_stp (XOK_num (XOK_num (XOK_rfs h)))
      · split
        · unfold rdRstX rdR1; split <;> exact XOK_stp (XOK_num (XOK_rfs h))
        · split
          · unfold rdLimX rdL1; split <;> exact XOK_stp (XOK_num (XOK_rfs h))
          · split
            · unfold rdAddX rdA1; split <;> exact XOK_stp (XOK_num (XOK_rfs h))
            · exact XOK_fl h
theorem FL_itm {x : XD} (h : FL x) {t : TD} : FL (itmX x t) := by
  have h1 := fun (c lo hi : Int) => FL_stp (FL_num (FL_rfs h (c := c)) (lo := lo) (hi := hi))
  unfold itmX
  split
  · exact h1 _ _ _
  · split
    · exact FL_stp (FL_num (FL_num (FL_num (FL_num (FL_rfs h)))))
    · split
      · exact FL_stp (FL_num (FL_num (FL_rfs h)))
      · split
        · unfold rdRstX; split
          · have q := h1 (xR x) 1 60; exact ⟨le01, q.2.1, q.2.2⟩
          · exact h1 _ _ _
        · split
          · unfold rdLimX; split
            · have q := h1 (xL x) 0 6; exact ⟨q.1, le01, q.2.2⟩
            · exact h1 _ _ _
          · split
            · unfold rdAddX; split
              · have q := h1 (xA x) 0 9; exact ⟨q.1, q.2.1, le01⟩
              · exact h1 _ _ _
            · exact h
theorem TCN_itm {x : XD} {t : TD} (h : TCN t) : TCN (itmT x t) := by
  unfold itmT
  split
  · unfold rdDayT; split
    · exact TCN_day h
    · exact h
  · split
    · unfold rdBriT; split
      · exact TCN_bri h
      · exact h
    · split
      · unfold rdTraT; split
        · exact TCN_tra h
        · exact h
      · split
        · unfold rdRstT; split <;> exact h
        · split
          · unfold rdLimT; split <;> exact h
          · split
            · unfold rdAddT; split <;> exact h
            · exact h
theorem tsel_3 {k : Bool} {ua ub t' : TD} : t' = tsel k (cond k ua t') (cond k t' ub) := by cases k <;> rfl
set_option maxRecDepth 20000 in
set_option maxHeartbeats 1000000 in
theorem sp_X4_add {uo : UD} {ux : XD} {ua ub : TD} {v0 v1 v2 : SD} {up uq : PD} {ur : HD} {c : Int} (h1 : 0 ≤ xN ux ∧ xN ux ≤ 150) : SpI l 1 yX4_add cX4_add 2 (some .boolean) [mr 1, mi c] (hC uo ux ua ub v0 v1 v2 up uq ur) (fun z h => (z = 0 ∧ 150 ≤ xN ux ∧ h = hC uo ux ua ub v0 v1 v2 up uq ur) ∨ (z = 1 ∧ xN ux < 150 ∧ h = hC uo (mup (xB ux) (xN ux).toNat c, xN ux + 1, xP ux, xS ux, xK ux, xV ux, xF ux, xR ux, xL ux, xA ux) ua ub v0 v1 v2 up uq ur)) := by
  refine SpI.of (cd := kdX4_add) (fT := mlook flX4) (kT := mlook klX4) (kJ := mlook jlX4) mfA_X4_add ok_X4_add fT_X4 kT_X4 jT_X4 jdk_ok True.intro (Nat.le_of_ble_eq_true rfl) (fun G hG => ?_)
  refine rRun hG 99999 ?_
  refine And.intro rfl (And.intro (by first | omega | (simp only [xB_s, xN_s, xP_s, xS_s, xK_s, xV_s, xF_s, xR_s, xL_s, xA_s]; omega)) (And.intro (fun c1 => ?_) (fun c1 => ?_)))
  · try simp only [xB_s, xN_s, xP_s, xS_s, xK_s, xV_s, xF_s, xR_s, xL_s, xA_s] at c1
    refine rRun hG 99999 ?_
    refine rIR hG rfl rfl (by first | exact Or.inl rfl | exact Or.inr rfl | (show _ ∨ _; omega)) ?_
    first | exact Or.inl ⟨rfl, by omega, rfl⟩ | exact Or.inr ⟨rfl, by omega, rfl⟩
  · try simp only [xB_s, xN_s, xP_s, xS_s, xK_s, xV_s, xF_s, xR_s, xL_s, xA_s] at c1
    refine And.intro rfl (And.intro rfl (And.intro (by decide) (And.intro (by first | omega | (simp only [xB_s, xN_s, xP_s, xS_s, xK_s, xV_s, xF_s, xR_s, xL_s, xA_s]; omega)) (And.intro (fun c2 => ?_) (fun c2 => ?_)))))
    · try simp only [xB_s, xN_s, xP_s, xS_s, xK_s, xV_s, xF_s, xR_s, xL_s, xA_s] at c2
      refine rRun hG 99999 ?_
      refine And.intro rfl (And.intro rfl (And.intro (by first | omega | (simp only [xB_s, xN_s, xP_s, xS_s, xK_s, xV_s, xF_s, xR_s, xL_s, xA_s]; omega)) (And.intro rfl (And.intro ⟨rfl, by exact Nat.le_of_ble_eq_true rfl, by first | exact True.intro | exact Or.inl rfl | exact Or.inr rfl⟩ (?_)))))
      refine rIR hG rfl rfl (by first | exact Or.inl rfl | exact Or.inr rfl | (show _ ∨ _; omega)) ?_
      first | exact Or.inl ⟨rfl, by omega, rfl⟩ | exact Or.inr ⟨rfl, by omega, rfl⟩
    · try simp only [xB_s, xN_s, xP_s, xS_s, xK_s, xV_s, xF_s, xR_s, xL_s, xA_s] at c2
      refine rIR hG rfl rfl (by first | exact Or.inl rfl | exact Or.inr rfl | (show _ ∨ _; omega)) ?_
      first | exact Or.inl ⟨rfl, by omega, rfl⟩ | exact Or.inr ⟨rfl, by omega, rfl⟩
set_option maxRecDepth 20000 in
set_option maxHeartbeats 1000000 in
theorem sp_X4_begin {uo : UD} {ux : XD} {ua ub : TD} {v0 v1 v2 : SD} {up uq : PD} {ur : HD} {k : Bool} {t : TD} (ht : t = tsel k ua ub)  : SpV l 2 yX4_begin cX4_begin 2 none [mr 1, mr (tix k)] (hC uo ux ua ub v0 v1 v2 up uq ur) (fun h => h = hC uo (begX ux) (cond k ua (tWipe t)) (cond k (tWipe t) ub) v0 v1 v2 up uq ur) := by
  refine SpV.of (cd := kdX4_begin) (fT := mlook flX4) (kT := mlook klX4) (kJ := mlook jlX4) mfA_X4_begin ok_X4_begin fT_X4 kT_X4 jT_X4 jdk_ok True.intro (Nat.le_of_ble_eq_true rfl) (fun G hG => ?_)
  refine rRun hG 99999 ?_
  refine rVV hG (sp_X5_wipe (uo := uo) (ux := ux) (ua := ua) (ub := ub) (v0 := v0) (v1 := v1) (v2 := v2) (up := up) (uq := uq) (ur := ur) (k := k) (t := t) ht) rfl rfl lk_X4_69 mf_X5_wipe (by decide) (Nat.le_of_ble_eq_true rfl) (by cases k <;> exact ⟨_, _, _, rfl, rfl, rfl⟩) ?_
  rintro _ rfl
  refine rRun hG 99999 ?_
  refine And.intro ⟨rfl, by exact Nat.le_of_ble_eq_true rfl, by first | exact True.intro | exact Or.inl rfl | exact Or.inr rfl⟩ (And.intro ⟨rfl, by exact Nat.le_of_ble_eq_true rfl, by first | exact True.intro | exact Or.inl rfl | exact Or.inr rfl⟩ (And.intro ⟨rfl, by exact Nat.le_of_ble_eq_true rfl, by first | exact True.intro | exact Or.inl rfl | exact Or.inr rfl⟩ (And.intro ⟨rfl, by exact Nat.le_of_ble_eq_true rfl, by first | exact True.intro | exact Or.inl rfl | exact Or.inr rfl⟩ (And.intro ⟨rfl, by exact Nat.le_of_ble_eq_true rfl, by first | exact True.intro | exact Or.inl rfl | exact Or.inr rfl⟩ (?_)))))
  refine rVR hG rfl rfl rfl ?_
  rfl
set_option maxRecDepth 20000 in
set_option maxHeartbeats 4000000 in
theorem sp_X4_readInto {uo : UD} {ux : XD} {ua ub : TD} {v0 v1 v2 : SD} {up uq : PD} {ur : HD} {k : Bool} {t : TD} (ht : t = tsel k ua ub) (hX : XOK ux) : SpI l 7 yX4_readInto cX4_readInto 3 (some .int) [mr 1, mr (tix k)] (hC uo ux ua ub v0 v1 v2 up uq ur) (fun z h => z = rdAns ux t ∧ h = hC uo (rdAll ux t).1 (cond k ua (rdAll ux t).2.1) (cond k (rdAll ux t).2.1 ub) v0 v1 v2 up uq ur) := by
  refine SpI.of (cd := kdX4_readInto) (fT := mlook flX4) (kT := mlook klX4) (kJ := mlook jlX4) mfA_X4_readInto ok_X4_readInto fT_X4 kT_X4 jT_X4 jdk_ok True.intro (Nat.le_of_ble_eq_true rfl) (fun G hG => ?_)
  have J202 : ∀ (x : XD) (T : TD) (i : Nat), XOK x → (x, T, i) = rdAll ux t → G 202 [some (mr 1), some (mr (tix k)), some (mi (i : Int))] [] (hC uo x (cond k ua T) (cond k T ub) v0 v1 v2 up uq ur) := by
    intro x T i hX he
    have hx6 := hX.2.2.2.2.2.1
    have e1 : x = (rdAll ux t).1 := congrArg Prod.fst he
    have e2 : T = (rdAll ux t).2.1 := congrArg (fun q => q.2.1) he
    have e3 : i = (rdAll ux t).2.2 := congrArg (fun q => q.2.2) he
    refine rRun hG 99999 ?_
    refine And.intro rfl (And.intro (by first | omega | (simp only [xB_s, xN_s, xP_s, xS_s, xK_s, xV_s, xF_s, xR_s, xL_s, xA_s]; omega)) (And.intro (fun c1 => ?_) (fun c1 => ?_)))
    · try simp only [xB_s, xN_s, xP_s, xS_s, xK_s, xV_s, xF_s, xR_s, xL_s, xA_s] at c1
      refine rRun hG 99999 ?_
      refine And.intro rfl (?_)
      refine rIR hG rfl rfl (True.intro) ?_
      refine ⟨?_, by rw [← e1, ← e2]⟩
      unfold rdAns
      rw [← e1, ← e3]
      first | (rw [if_pos (by omega)]; done) | (rw [if_neg (by omega)]; done)
    · try simp only [xB_s, xN_s, xP_s, xS_s, xK_s, xV_s, xF_s, xR_s, xL_s, xA_s] at c1
      refine rIR hG rfl rfl (True.intro) ?_
      refine ⟨?_, by rw [← e1, ← e2]⟩
      unfold rdAns
      rw [← e1, ← e3]
      first | (rw [if_pos (by omega)]; done) | (rw [if_neg (by omega)]; done)
  have J11 : ∀ (n i : Nat) (x : XD) (T : TD), XOK x → FL x → TCN T → i + n = 150 → rdL n x T i = rdAll ux t → G 11 [some (mr 1), some (mr (tix k)), some (mi (i : Int))] [] (hC uo x (cond k ua T) (cond k T ub) v0 v1 v2 up uq ur) := by
    intro n
    induction n with
    | zero =>
      intro i x T hX hF hT hi he
      have hx1 := hX.1
      have hx4 := hX.2.2.2.1
      have hx5 := hX.2.2.2.2.1
      have hx6 := hX.2.2.2.2.2.1
      refine rRun hG 202 ?_
      refine And.intro rfl (And.intro (by first | omega | (simp only [xB_s, xN_s, xP_s, xS_s, xK_s, xV_s, xF_s, xR_s, xL_s, xA_s]; omega)) (And.intro (fun c1 => ?_) (fun c1 => ?_)))
      · try simp only [xB_s, xN_s, xP_s, xS_s, xK_s, xV_s, xF_s, xR_s, xL_s, xA_s] at c1
        exact J202 x T i hX (by rw [← he, rdL_no (by omega)])
      · try simp only [xB_s, xN_s, xP_s, xS_s, xK_s, xV_s, xF_s, xR_s, xL_s, xA_s] at c1
        refine And.intro rfl (And.intro (by first | omega | (simp only [xB_s, xN_s, xP_s, xS_s, xK_s, xV_s, xF_s, xR_s, xL_s, xA_s]; omega)) (And.intro (fun c2 => ?_) (fun c2 => ?_)))
        · try simp only [xB_s, xN_s, xP_s, xS_s, xK_s, xV_s, xF_s, xR_s, xL_s, xA_s] at c2
          exact J202 x T i hX (by rw [← he, rdL_no (by omega)])
        · try simp only [xB_s, xN_s, xP_s, xS_s, xK_s, xV_s, xF_s, xR_s, xL_s, xA_s] at c2
          refine And.intro (by first | omega | (simp only [xB_s, xN_s, xP_s, xS_s, xK_s, xV_s, xF_s, xR_s, xL_s, xA_s]; omega)) (And.intro (fun c3 => ?_) (fun c3 => ?_))
          · try simp only [xB_s, xN_s, xP_s, xS_s, xK_s, xV_s, xF_s, xR_s, xL_s, xA_s] at c3
            exact J202 x T i hX he
          · try simp only [xB_s, xN_s, xP_s, xS_s, xK_s, xV_s, xF_s, xR_s, xL_s, xA_s] at c3
            exfalso; omega
    | succ n ih =>
      intro i x T hX hF hT hi he
      have hx1 := hX.1
      have hx4 := hX.2.2.2.1
      have hx5 := hX.2.2.2.2.1
      have hx6 := hX.2.2.2.2.2.1
      have J192 : ¬ xK x = 0 ∧ xF x = -1 → ∀ (X2 : XD) (T2 : TD), X2 = itmX x T → T2 = itmT x T → G 192 [some (mr 1), some (mr (tix k)), some (mi (i : Int))] [] (hC uo X2 (cond k ua T2) (cond k T2 ub) v0 v1 v2 up uq ur) := by
        intro hc X2 T2 hX2 hT2
        subst hX2
        subst hT2
        have hY := XOK_itm hX (t := T)
        rw [rdL_s, if_pos hc] at he
        refine rRun hG 99999 ?_
        refine rVV hG (sp_X4_nextToken (uo := uo) (ux := (itmX x T)) (ua := cond k ua (itmT x T)) (ub := cond k (itmT x T) ub) (v0 := v0) (v1 := v1) (v2 := v2) (up := up) (uq := uq) (ur := ur) hY.1 hY.2.1 hY.2.2.1 hY.2.2.2.2.2.2) rfl rfl lk_X4_48 mf_X4_nextToken (by decide) (Nat.le_of_ble_eq_true rfl) ⟨_, _, _, rfl, rfl, rfl⟩ ?_
        rintro _ rfl
        refine rRun hG 99999 ?_
        exact ih (i + 1) (ntk (itmX x T)) (itmT x T) (XOK_ntk hY) (FL_ntk (FL_itm hF)) (TCN_itm hT) (by omega) he
      have hl : 0 ≤ ltr x ∧ ltr x ≤ 255 := by
        unfold ltr
        split <;> omega
      have J49 : ¬ xK x = 0 ∧ xF x = -1 → G 49 [some (mr 1), some (mr (tix k)), some (mi (i : Int))] [mi (ltr x)] (hC uo x (cond k ua T) (cond k T ub) v0 v1 v2 up uq ur) := by
        intro hc
        refine rRun hG 192 ?_
        refine And.intro (by first | omega | (simp only [xB_s, xN_s, xP_s, xS_s, xK_s, xV_s, xF_s, xR_s, xL_s, xA_s]; omega)) (And.intro (fun c1 => ?_) (And.intro (fun c1 => ?_) (And.intro (fun c1 => ?_) (And.intro (fun c1 => ?_) (And.intro (fun c1 => ?_) (And.intro (fun c1 => ?_) (And.intro (fun c1 => ?_) (And.intro (fun c1 => ?_) (And.intro (fun c1 => ?_) (And.intro (fun c1 => ?_) (And.intro (fun c1 => ?_) (And.intro (fun c1 => ?_) (And.intro (fun c1 => ?_) (And.intro (fun c1 => ?_) (And.intro (fun c1 => ?_) (And.intro (fun c1 => ?_) (And.intro (fun c1 => ?_) (And.intro (fun c1 => ?_) (And.intro (fun c1 => ?_) (True.intro))))))))))))))))))))
        · skip
          refine rRun hG 192 ?_
          refine And.intro rfl (And.intro ⟨rfl, by exact Nat.le_of_ble_eq_true rfl, by first | exact True.intro | exact Or.inl rfl | exact Or.inr rfl⟩ (?_))
          exact J192 hc (xFl x) T (by unfold itmX; rw [if_neg (by omega), if_neg (by omega), if_neg (by omega), if_neg (by omega), if_neg (by omega), if_neg (by omega)]) (by unfold itmT; rw [if_neg (by omega), if_neg (by omega), if_neg (by omega), if_neg (by omega), if_neg (by omega), if_neg (by omega)])
        · skip
          refine rRun hG 192 ?_
          refine rVV hG (sp_X4_readAdded (uo := uo) (ux := x) (ua := cond k ua T) (ub := cond k T ub) (v0 := v0) (v1 := v1) (v2 := v2) (up := up) (uq := uq) (ur := ur) (k := k) (t := T) tsel_3 hX ⟨by have := hF.1; omega, by have := hF.2.1; omega, by have := hF.2.2; omega⟩) rfl rfl lk_X4_66 mf_X4_readAdded (by decide) (Nat.le_of_ble_eq_true rfl) ⟨_, _, _, rfl, rfl, rfl⟩ ?_
          rintro _ rfl
          rw [cput_a, cput_b]
          refine rRun hG 192 ?_
          exact J192 hc _ _ (by unfold itmX; rw [show ltr x = 97 by omega]; rfl) (by unfold itmT; rw [show ltr x = 97 by omega]; rfl)
        · skip
          refine rRun hG 192 ?_
          refine rVV hG (sp_X4_readBribe (uo := uo) (ux := x) (ua := cond k ua T) (ub := cond k T ub) (v0 := v0) (v1 := v1) (v2 := v2) (up := up) (uq := uq) (ur := ur) (k := k) (t := T) tsel_3 hX hT.1 hT.2.1 hT.2.2) rfl rfl lk_X4_54 mf_X4_readBribe (by decide) (Nat.le_of_ble_eq_true rfl) ⟨_, _, _, rfl, rfl, rfl⟩ ?_
          rintro _ rfl
          rw [cput_a, cput_b]
          refine rRun hG 192 ?_
          exact J192 hc _ _ (by unfold itmX; rw [show ltr x = 98 by omega]; rfl) (by unfold itmT; rw [show ltr x = 98 by omega]; rfl)
        · skip
          refine rRun hG 192 ?_
          refine And.intro rfl (And.intro ⟨rfl, by exact Nat.le_of_ble_eq_true rfl, by first | exact True.intro | exact Or.inl rfl | exact Or.inr rfl⟩ (?_))
          exact J192 hc (xFl x) T (by unfold itmX; rw [if_neg (by omega), if_neg (by omega), if_neg (by omega), if_neg (by omega), if_neg (by omega), if_neg (by omega)]) (by unfold itmT; rw [if_neg (by omega), if_neg (by omega), if_neg (by omega), if_neg (by omega), if_neg (by omega), if_neg (by omega)])
        · skip
          refine rRun hG 192 ?_
          refine rVV hG (sp_X4_readDay (uo := uo) (ux := x) (ua := cond k ua T) (ub := cond k T ub) (v0 := v0) (v1 := v1) (v2 := v2) (up := up) (uq := uq) (ur := ur) (k := k) (t := T) tsel_3 hX hT.1 hT.2.1 hT.2.2) rfl rfl lk_X4_51 mf_X4_readDay (by decide) (Nat.le_of_ble_eq_true rfl) ⟨_, _, _, rfl, rfl, rfl⟩ ?_
          rintro _ rfl
          rw [cput_a, cput_b]
          refine rRun hG 192 ?_
          exact J192 hc _ _ (by unfold itmX; rw [show ltr x = 100 by omega]; rfl) (by unfold itmT; rw [show ltr x = 100 by omega]; rfl)
        · skip
          refine rRun hG 192 ?_
          refine And.intro rfl (And.intro ⟨rfl, by exact Nat.le_of_ble_eq_true rfl, by first | exact True.intro | exact Or.inl rfl | exact Or.inr rfl⟩ (?_))
          exact J192 hc (xFl x) T (by unfold itmX; rw [if_neg (by omega), if_neg (by omega), if_neg (by omega), if_neg (by omega), if_neg (by omega), if_neg (by omega)]) (by unfold itmT; rw [if_neg (by omega), if_neg (by omega), if_neg (by omega), if_neg (by omega), if_neg (by omega), if_neg (by omega)])
        · skip
          refine rRun hG 192 ?_
          refine And.intro rfl (And.intro ⟨rfl, by exact Nat.le_of_ble_eq_true rfl, by first | exact True.intro | exact Or.inl rfl | exact Or.inr rfl⟩ (?_))
          exact J192 hc (xFl x) T (by unfold itmX; rw [if_neg (by omega), if_neg (by omega), if_neg (by omega), if_neg (by omega), if_neg (by omega), if_neg (by omega)]) (by unfold itmT; rw [if_neg (by omega), if_neg (by omega), if_neg (by omega), if_neg (by omega), if_neg (by omega), if_neg (by omega)])
        · skip
          refine rRun hG 192 ?_
          refine And.intro rfl (And.intro ⟨rfl, by exact Nat.le_of_ble_eq_true rfl, by first | exact True.intro | exact Or.inl rfl | exact Or.inr rfl⟩ (?_))
          exact J192 hc (xFl x) T (by unfold itmX; rw [if_neg (by omega), if_neg (by omega), if_neg (by omega), if_neg (by omega), if_neg (by omega), if_neg (by omega)]) (by unfold itmT; rw [if_neg (by omega), if_neg (by omega), if_neg (by omega), if_neg (by omega), if_neg (by omega), if_neg (by omega)])
        · skip
          refine rRun hG 192 ?_
          refine rVV hG (sp_X4_readTrade (uo := uo) (ux := x) (ua := cond k ua T) (ub := cond k T ub) (v0 := v0) (v1 := v1) (v2 := v2) (up := up) (uq := uq) (ur := ur) (k := k) (t := T) tsel_3 hX hT.1 hT.2.1 hT.2.2) rfl rfl lk_X4_57 mf_X4_readTrade (by decide) (Nat.le_of_ble_eq_true rfl) ⟨_, _, _, rfl, rfl, rfl⟩ ?_
          rintro _ rfl
          rw [cput_a, cput_b]
          refine rRun hG 192 ?_
          exact J192 hc _ _ (by unfold itmX; rw [show ltr x = 104 by omega]; rfl) (by unfold itmT; rw [show ltr x = 104 by omega]; rfl)
        · skip
          refine rRun hG 192 ?_
          refine And.intro rfl (And.intro ⟨rfl, by exact Nat.le_of_ble_eq_true rfl, by first | exact True.intro | exact Or.inl rfl | exact Or.inr rfl⟩ (?_))
          exact J192 hc (xFl x) T (by unfold itmX; rw [if_neg (by omega), if_neg (by omega), if_neg (by omega), if_neg (by omega), if_neg (by omega), if_neg (by omega)]) (by unfold itmT; rw [if_neg (by omega), if_neg (by omega), if_neg (by omega), if_neg (by omega), if_neg (by omega), if_neg (by omega)])
        · skip
          refine rRun hG 192 ?_
          refine And.intro rfl (And.intro ⟨rfl, by exact Nat.le_of_ble_eq_true rfl, by first | exact True.intro | exact Or.inl rfl | exact Or.inr rfl⟩ (?_))
          exact J192 hc (xFl x) T (by unfold itmX; rw [if_neg (by omega), if_neg (by omega), if_neg (by omega), if_neg (by omega), if_neg (by omega), if_neg (by omega)]) (by unfold itmT; rw [if_neg (by omega), if_neg (by omega), if_neg (by omega), if_neg (by omega), if_neg (by omega), if_neg (by omega)])
        · skip
          refine rRun hG 192 ?_
          refine And.intro rfl (And.intro ⟨rfl, by exact Nat.le_of_ble_eq_true rfl, by first | exact True.intro | exact Or.inl rfl | exact Or.inr rfl⟩ (?_))
          exact J192 hc (xFl x) T (by unfold itmX; rw [if_neg (by omega), if_neg (by omega), if_neg (by omega), if_neg (by omega), if_neg (by omega), if_neg (by omega)]) (by unfold itmT; rw [if_neg (by omega), if_neg (by omega), if_neg (by omega), if_neg (by omega), if_neg (by omega), if_neg (by omega)])
        · skip
          refine rRun hG 192 ?_
          refine rVV hG (sp_X4_readLimit (uo := uo) (ux := x) (ua := cond k ua T) (ub := cond k T ub) (v0 := v0) (v1 := v1) (v2 := v2) (up := up) (uq := uq) (ur := ur) (k := k) (t := T) tsel_3 hX ⟨by have := hF.1; omega, by have := hF.2.1; omega, by have := hF.2.2; omega⟩) rfl rfl lk_X4_63 mf_X4_readLimit (by decide) (Nat.le_of_ble_eq_true rfl) ⟨_, _, _, rfl, rfl, rfl⟩ ?_
          rintro _ rfl
          rw [cput_a, cput_b]
          refine rRun hG 192 ?_
          exact J192 hc _ _ (by unfold itmX; rw [show ltr x = 108 by omega]; rfl) (by unfold itmT; rw [show ltr x = 108 by omega]; rfl)
        · skip
          refine rRun hG 192 ?_
          refine And.intro rfl (And.intro ⟨rfl, by exact Nat.le_of_ble_eq_true rfl, by first | exact True.intro | exact Or.inl rfl | exact Or.inr rfl⟩ (?_))
          exact J192 hc (xFl x) T (by unfold itmX; rw [if_neg (by omega), if_neg (by omega), if_neg (by omega), if_neg (by omega), if_neg (by omega), if_neg (by omega)]) (by unfold itmT; rw [if_neg (by omega), if_neg (by omega), if_neg (by omega), if_neg (by omega), if_neg (by omega), if_neg (by omega)])
        · skip
          refine rRun hG 192 ?_
          refine And.intro rfl (And.intro ⟨rfl, by exact Nat.le_of_ble_eq_true rfl, by first | exact True.intro | exact Or.inl rfl | exact Or.inr rfl⟩ (?_))
          exact J192 hc (xFl x) T (by unfold itmX; rw [if_neg (by omega), if_neg (by omega), if_neg (by omega), if_neg (by omega), if_neg (by omega), if_neg (by omega)]) (by unfold itmT; rw [if_neg (by omega), if_neg (by omega), if_neg (by omega), if_neg (by omega), if_neg (by omega), if_neg (by omega)])
        · skip
          refine rRun hG 192 ?_
          refine And.intro rfl (And.intro ⟨rfl, by exact Nat.le_of_ble_eq_true rfl, by first | exact True.intro | exact Or.inl rfl | exact Or.inr rfl⟩ (?_))
          exact J192 hc (xFl x) T (by unfold itmX; rw [if_neg (by omega), if_neg (by omega), if_neg (by omega), if_neg (by omega), if_neg (by omega), if_neg (by omega)]) (by unfold itmT; rw [if_neg (by omega), if_neg (by omega), if_neg (by omega), if_neg (by omega), if_neg (by omega), if_neg (by omega)])
        · skip
          refine rRun hG 192 ?_
          refine And.intro rfl (And.intro ⟨rfl, by exact Nat.le_of_ble_eq_true rfl, by first | exact True.intro | exact Or.inl rfl | exact Or.inr rfl⟩ (?_))
          exact J192 hc (xFl x) T (by unfold itmX; rw [if_neg (by omega), if_neg (by omega), if_neg (by omega), if_neg (by omega), if_neg (by omega), if_neg (by omega)]) (by unfold itmT; rw [if_neg (by omega), if_neg (by omega), if_neg (by omega), if_neg (by omega), if_neg (by omega), if_neg (by omega)])
        · skip
          refine rRun hG 192 ?_
          refine And.intro rfl (And.intro ⟨rfl, by exact Nat.le_of_ble_eq_true rfl, by first | exact True.intro | exact Or.inl rfl | exact Or.inr rfl⟩ (?_))
          exact J192 hc (xFl x) T (by unfold itmX; rw [if_neg (by omega), if_neg (by omega), if_neg (by omega), if_neg (by omega), if_neg (by omega), if_neg (by omega)]) (by unfold itmT; rw [if_neg (by omega), if_neg (by omega), if_neg (by omega), if_neg (by omega), if_neg (by omega), if_neg (by omega)])
        · skip
          refine rRun hG 192 ?_
          refine rVV hG (sp_X4_readRest (uo := uo) (ux := x) (ua := cond k ua T) (ub := cond k T ub) (v0 := v0) (v1 := v1) (v2 := v2) (up := up) (uq := uq) (ur := ur) (k := k) (t := T) tsel_3 hX ⟨by have := hF.1; omega, by have := hF.2.1; omega, by have := hF.2.2; omega⟩) rfl rfl lk_X4_60 mf_X4_readRest (by decide) (Nat.le_of_ble_eq_true rfl) ⟨_, _, _, rfl, rfl, rfl⟩ ?_
          rintro _ rfl
          rw [cput_a, cput_b]
          refine rRun hG 192 ?_
          exact J192 hc _ _ (by unfold itmX; rw [show ltr x = 114 by omega]; rfl) (by unfold itmT; rw [show ltr x = 114 by omega]; rfl)
      refine rRun hG 49 ?_
      refine And.intro rfl (And.intro (by first | omega | (simp only [xB_s, xN_s, xP_s, xS_s, xK_s, xV_s, xF_s, xR_s, xL_s, xA_s]; omega)) (And.intro (fun c1 => ?_) (fun c1 => ?_)))
      · try simp only [xB_s, xN_s, xP_s, xS_s, xK_s, xV_s, xF_s, xR_s, xL_s, xA_s] at c1
        exact J202 x T i hX (by rw [← he, rdL_no (by omega)])
      · try simp only [xB_s, xN_s, xP_s, xS_s, xK_s, xV_s, xF_s, xR_s, xL_s, xA_s] at c1
        refine And.intro rfl (And.intro (by first | omega | (simp only [xB_s, xN_s, xP_s, xS_s, xK_s, xV_s, xF_s, xR_s, xL_s, xA_s]; omega)) (And.intro (fun c2 => ?_) (fun c2 => ?_)))
        · try simp only [xB_s, xN_s, xP_s, xS_s, xK_s, xV_s, xF_s, xR_s, xL_s, xA_s] at c2
          exact J202 x T i hX (by rw [← he, rdL_no (by omega)])
        · try simp only [xB_s, xN_s, xP_s, xS_s, xK_s, xV_s, xF_s, xR_s, xL_s, xA_s] at c2
          refine And.intro (by first | omega | (simp only [xB_s, xN_s, xP_s, xS_s, xK_s, xV_s, xF_s, xR_s, xL_s, xA_s]; omega)) (And.intro (fun c3 => ?_) (fun c3 => ?_))
          · try simp only [xB_s, xN_s, xP_s, xS_s, xK_s, xV_s, xF_s, xR_s, xL_s, xA_s] at c3
            exfalso; omega
          · try simp only [xB_s, xN_s, xP_s, xS_s, xK_s, xV_s, xF_s, xR_s, xL_s, xA_s] at c3
            refine And.intro rfl (And.intro (by first | omega | (simp only [xB_s, xN_s, xP_s, xS_s, xK_s, xV_s, xF_s, xR_s, xL_s, xA_s]; omega)) (And.intro (fun c4 => ?_) (fun c4 => ?_)))
            · try simp only [xB_s, xN_s, xP_s, xS_s, xK_s, xV_s, xF_s, xR_s, xL_s, xA_s] at c4
              refine rRun hG 49 ?_
              first | (rw [show ltr x = xV x from if_pos (by omega)] at J49; exact J49 ⟨by omega, by omega⟩) | (rw [show ltr x = 0 from if_neg (by omega)] at J49; exact J49 ⟨by omega, by omega⟩)
            · try simp only [xB_s, xN_s, xP_s, xS_s, xK_s, xV_s, xF_s, xR_s, xL_s, xA_s] at c4
              refine And.intro rfl (?_)
              first | (rw [show ltr x = xV x from if_pos (by omega)] at J49; exact J49 ⟨by omega, by omega⟩) | (rw [show ltr x = 0 from if_neg (by omega)] at J49; exact J49 ⟨by omega, by omega⟩)
  refine rRun hG 11 ?_
  refine rVV hG (sp_X4_begin (uo := uo) (ux := ux) (ua := ua) (ub := ub) (v0 := v0) (v1 := v1) (v2 := v2) (up := up) (uq := uq) (ur := ur) (k := k) (t := t) ht) rfl rfl lk_X4_44 mf_X4_begin (by decide) (Nat.le_of_ble_eq_true rfl) ⟨_, _, _, rfl, rfl, rfl⟩ ?_
  rintro _ rfl
  refine rRun hG 11 ?_
  have hY := XOK_beg hX
  refine rVV hG (sp_X4_nextToken (uo := uo) (ux := (begX ux)) (ua := cond k ua (tWipe t)) (ub := cond k (tWipe t) ub) (v0 := v0) (v1 := v1) (v2 := v2) (up := up) (uq := uq) (ur := ur) hY.1 hY.2.1 hY.2.2.1 hY.2.2.2.2.2.2) rfl rfl lk_X4_48 mf_X4_nextToken (by decide) (Nat.le_of_ble_eq_true rfl) ⟨_, _, _, rfl, rfl, rfl⟩ ?_
  rintro _ rfl
  exact J11 150 0 (ntk (begX ux)) (tWipe t) (XOK_ntk hY) (FL_ntk ⟨le00, le00, le00⟩) ⟨le0n (by decide), le0n (by decide), le0n (by decide)⟩ rfl rfl
end WALKS
end
section
/-! Odds -/
section WALKS
variable {l : Launch}
def olat (f : FN) (e r : Int) : Int := if 0 ≤ r ∧ r < 50 ∧ 0 ≤ (e + 9) * 50 + r ∧ (e + 9) * 50 + r < 950 then f ((e + 9) * 50 + r).toNat else 0
def otrn (t : TD) (lt : FN) (day e r : Int) : Int :=
  if e < -9 ∨ 9 < e then -1
  else if max e (-e) ≤ tLim t then 10 * olat lt e (max 0 r)
  else (if 0 ≤ day ∧ day < tDay t ∧ day < 14 then tSun t day.toNat else -1) * olat lt 0 (min 99 (max 0 r + tAdd t)) + (10 - (if 0 ≤ day ∧ day < tDay t ∧ day < 14 then tSun t day.toNat else -1)) * olat lt e (max 0 r)
theorem otrn_c {t : TD} {lt : FN} {day e r : Int} (h1 : ¬ (e < -9 ∨ 9 < e)) (h2 : ¬ max e (-e) ≤ tLim t) : otrn t lt day e r = (if 0 ≤ day ∧ day < tDay t ∧ day < 14 then tSun t day.toNat else -1) * olat lt 0 (min 99 (max 0 r + tAdd t)) + (10 - (if 0 ≤ day ∧ day < tDay t ∧ day < 14 then tSun t day.toNat else -1)) * olat lt e (max 0 r) := by
  unfold otrn; rw [if_neg h1, if_neg h2]
theorem otrn_b {t : TD} {lt : FN} {day e r : Int} (h1 : ¬ (e < -9 ∨ 9 < e)) (h2 : max e (-e) ≤ tLim t) : otrn t lt day e r = 10 * olat lt e (max 0 r) := by
  unfold otrn; rw [if_neg h1, if_pos h2]
set_option maxRecDepth 20000 in
set_option maxHeartbeats 800000 in
theorem sp_X1_laterAt {uo : UD} {ux : XD} {ua ub : TD} {v0 v1 v2 : SD} {up : PD} {kO : Bool} {hr lt : FN} {un lw pa : Int} {ur : HD} {e w : Int} (h1 : -1000 ≤ e ∧ e ≤ 1000) (h2 : -10000 ≤ w ∧ w ≤ 10000) : SpI l 1 yX1_laterAt cX1_laterAt 4 (some .int) [mr 20, mi e, mi w] (hC uo ux ua ub v0 v1 v2 up (kO, hr, lt, un, lw, pa) ur) (fun z h => z = olat lt e w ∧ h = hC uo ux ua ub v0 v1 v2 up (kO, hr, lt, un, lw, pa) ur) := by
  cases kO
  · skip
    refine SpI.of (cd := kdX1_laterAt) (fT := mlook flX1) (kT := mlook klX1) (kJ := mlook jlX1) mfA_X1_laterAt ok_X1_laterAt fT_X1 kT_X1 jT_X1 jdk_ok True.intro (Nat.le_of_ble_eq_true rfl) (fun G hG => ?_)
    refine rRun hG 99999 ?_
    refine And.intro (by first | omega | (dsimp only; omega)) (And.intro (fun c1 => ?_) (fun c1 => ?_))
    · try dsimp only at c1
      refine rRun hG 99999 ?_
      refine rIR hG rfl rfl (True.intro) ?_
      refine ⟨?_, rfl⟩
      unfold olat
      first | (rw [if_pos (by omega)]; rfl) | (rw [if_neg (by omega)])
    · try dsimp only at c1
      refine And.intro (by first | omega | (dsimp only; omega)) (And.intro (fun c2 => ?_) (fun c2 => ?_))
      · try dsimp only at c2
        refine rRun hG 99999 ?_
        refine And.intro (by first | omega | (dsimp only; omega)) (And.intro (fun c3 => ?_) (fun c3 => ?_))
        · try dsimp only at c3
          refine rRun hG 99999 ?_
          refine rIR hG rfl rfl (True.intro) ?_
          refine ⟨?_, rfl⟩
          unfold olat
          first | (rw [if_pos (by omega)]; rfl) | (rw [if_neg (by omega)])
        · try dsimp only at c3
          refine And.intro rfl (And.intro (by decide) (And.intro (by first | omega | (dsimp only; omega)) (And.intro (fun c4 => ?_) (fun c4 => ?_))))
          · try dsimp only at c4
            refine rRun hG 99999 ?_
            refine rIR hG rfl rfl (True.intro) ?_
            refine ⟨?_, rfl⟩
            unfold olat
            first | (rw [if_pos (by omega)]; rfl) | (rw [if_neg (by omega)])
          · try dsimp only at c4
            refine And.intro rfl (And.intro (by first | omega | (dsimp only; omega)) (?_))
            refine rIR hG rfl rfl (True.intro) ?_
            refine ⟨?_, rfl⟩
            unfold olat
            first | (rw [if_pos (by omega)]; rfl) | (rw [if_neg (by omega)])
      · try dsimp only at c2
        refine rIR hG rfl rfl (True.intro) ?_
        refine ⟨?_, rfl⟩
        unfold olat
        first | (rw [if_pos (by omega)]; rfl) | (rw [if_neg (by omega)])
  · skip
    refine SpI.of (cd := kdX1_laterAt) (fT := mlook flX1) (kT := mlook klX1) (kJ := mlook jlX1) mfA_X1_laterAt ok_X1_laterAt fT_X1 kT_X1 jT_X1 jdk_ok True.intro (Nat.le_of_ble_eq_true rfl) (fun G hG => ?_)
    refine rRun hG 99999 ?_
    refine And.intro (by first | omega | (dsimp only; omega)) (And.intro (fun c1 => ?_) (fun c1 => ?_))
    · try dsimp only at c1
      refine rRun hG 99999 ?_
      refine rIR hG rfl rfl (True.intro) ?_
      refine ⟨?_, rfl⟩
      unfold olat
      first | (rw [if_pos (by omega)]; rfl) | (rw [if_neg (by omega)])
    · try dsimp only at c1
      refine And.intro (by first | omega | (dsimp only; omega)) (And.intro (fun c2 => ?_) (fun c2 => ?_))
      · try dsimp only at c2
        refine rRun hG 99999 ?_
        refine And.intro (by first | omega | (dsimp only; omega)) (And.intro (fun c3 => ?_) (fun c3 => ?_))
        · try dsimp only at c3
          refine rRun hG 99999 ?_
          refine rIR hG rfl rfl (True.intro) ?_
          refine ⟨?_, rfl⟩
          unfold olat
          first | (rw [if_pos (by omega)]; rfl) | (rw [if_neg (by omega)])
        · try dsimp only at c3
          refine And.intro rfl (And.intro (by decide) (And.intro (by first | omega | (dsimp only; omega)) (And.intro (fun c4 => ?_) (fun c4 => ?_))))
          · try dsimp only at c4
            refine rRun hG 99999 ?_
            refine rIR hG rfl rfl (True.intro) ?_
            refine ⟨?_, rfl⟩
            unfold olat
            first | (rw [if_pos (by omega)]; rfl) | (rw [if_neg (by omega)])
          · try dsimp only at c4
            refine And.intro rfl (And.intro (by first | omega | (dsimp only; omega)) (?_))
            refine rIR hG rfl rfl (True.intro) ?_
            refine ⟨?_, rfl⟩
            unfold olat
            first | (rw [if_pos (by omega)]; rfl) | (rw [if_neg (by omega)])
      · try dsimp only at c2
        refine rIR hG rfl rfl (True.intro) ?_
        refine ⟨?_, rfl⟩
        unfold olat
        first | (rw [if_pos (by omega)]; rfl) | (rw [if_neg (by omega)])
set_option maxRecDepth 20000 in
set_option maxHeartbeats 800000 in
theorem sp_X1_put {uo : UD} {ux : XD} {ua ub : TD} {v0 v1 v2 : SD} {up : PD} {kO : Bool} {hr lt : FN} {un lw pa : Int} {ur : HD} {e w v : Int} (h1 : -1000 ≤ e ∧ e ≤ 1000) (h2 : -10000 ≤ w ∧ w ≤ 10000) : SpV l 1 yX1_put cX1_put 5 none [mr 20, mi e, mi w, mi v] (hC uo ux ua ub v0 v1 v2 up (kO, hr, lt, un, lw, pa) ur) (fun h => h = hC uo ux ua ub v0 v1 v2 up (kO, if 0 ≤ (e + 9) * 50 + w ∧ (e + 9) * 50 + w < 950 then mup hr ((e + 9) * 50 + w).toNat v else hr, lt, un, lw, pa) ur) := by
  cases kO
  · skip
    refine SpV.of (cd := kdX1_put) (fT := mlook flX1) (kT := mlook klX1) (kJ := mlook jlX1) mfA_X1_put ok_X1_put fT_X1 kT_X1 jT_X1 jdk_ok True.intro (Nat.le_of_ble_eq_true rfl) (fun G hG => ?_)
    refine rRun hG 99999 ?_
    refine And.intro (by first | omega | (dsimp only; omega)) (And.intro (fun c1 => ?_) (fun c1 => ?_))
    · try dsimp only at c1
      refine rVR hG rfl rfl rfl ?_
      first | (rw [if_pos (by omega)]; rfl) | (rw [if_neg (by omega)])
    · try dsimp only at c1
      refine And.intro rfl (And.intro (by decide) (And.intro (by first | omega | (dsimp only; omega)) (And.intro (fun c2 => ?_) (fun c2 => ?_))))
      · try dsimp only at c2
        refine rVR hG rfl rfl rfl ?_
        first | (rw [if_pos (by omega)]; rfl) | (rw [if_neg (by omega)])
      · try dsimp only at c2
        refine And.intro rfl (And.intro (by first | omega | (dsimp only; omega)) (?_))
        refine rVR hG rfl rfl rfl ?_
        first | (rw [if_pos (by omega)]; rfl) | (rw [if_neg (by omega)])
  · skip
    refine SpV.of (cd := kdX1_put) (fT := mlook flX1) (kT := mlook klX1) (kJ := mlook jlX1) mfA_X1_put ok_X1_put fT_X1 kT_X1 jT_X1 jdk_ok True.intro (Nat.le_of_ble_eq_true rfl) (fun G hG => ?_)
    refine rRun hG 99999 ?_
    refine And.intro (by first | omega | (dsimp only; omega)) (And.intro (fun c1 => ?_) (fun c1 => ?_))
    · try dsimp only at c1
      refine rVR hG rfl rfl rfl ?_
      first | (rw [if_pos (by omega)]; rfl) | (rw [if_neg (by omega)])
    · try dsimp only at c1
      refine And.intro rfl (And.intro (by decide) (And.intro (by first | omega | (dsimp only; omega)) (And.intro (fun c2 => ?_) (fun c2 => ?_))))
      · try dsimp only at c2
        refine rVR hG rfl rfl rfl ?_
        first | (rw [if_pos (by omega)]; rfl) | (rw [if_neg (by omega)])
      · try dsimp only at c2
        refine And.intro rfl (And.intro (by first | omega | (dsimp only; omega)) (?_))
        refine rVR hG rfl rfl rfl ?_
        first | (rw [if_pos (by omega)]; rfl) | (rw [if_neg (by omega)])
set_option maxRecDepth 20000 in
set_option maxHeartbeats 800000 in
theorem sp_X1_swapRows {uo : UD} {ux : XD} {ua ub : TD} {v0 v1 v2 : SD} {up : PD} {kO : Bool} {hr lt : FN} {un lw pa : Int} {ur : HD}   : SpV l 1 yX1_swapRows cX1_swapRows 2 none [mr 20] (hC uo ux ua ub v0 v1 v2 up (kO, hr, lt, un, lw, pa) ur) (fun h => h = hC uo ux ua ub v0 v1 v2 up (!kO, lt, hr, un, lw, pa) ur) := by
  cases kO
  · skip
    refine SpV.of (cd := kdX1_swapRows) (fT := mlook flX1) (kT := mlook klX1) (kJ := mlook jlX1) mfA_X1_swapRows ok_X1_swapRows fT_X1 kT_X1 jT_X1 jdk_ok True.intro (Nat.le_of_ble_eq_true rfl) (fun G hG => ?_)
    refine rRun hG 99999 ?_
    refine And.intro rfl (And.intro rfl (And.intro ⟨rfl, by exact Nat.le_of_ble_eq_true rfl, by first | exact True.intro | exact Or.inl rfl | exact Or.inr rfl⟩ (And.intro ⟨rfl, by exact Nat.le_of_ble_eq_true rfl, by first | exact True.intro | exact Or.inl rfl | exact Or.inr rfl⟩ (?_))))
    refine rVR hG rfl rfl rfl ?_
    rfl
  · skip
    refine SpV.of (cd := kdX1_swapRows) (fT := mlook flX1) (kT := mlook klX1) (kJ := mlook jlX1) mfA_X1_swapRows ok_X1_swapRows fT_X1 kT_X1 jT_X1 jdk_ok True.intro (Nat.le_of_ble_eq_true rfl) (fun G hG => ?_)
    refine rRun hG 99999 ?_
    refine And.intro rfl (And.intro rfl (And.intro ⟨rfl, by exact Nat.le_of_ble_eq_true rfl, by first | exact True.intro | exact Or.inl rfl | exact Or.inr rfl⟩ (And.intro ⟨rfl, by exact Nat.le_of_ble_eq_true rfl, by first | exact True.intro | exact Or.inl rfl | exact Or.inr rfl⟩ (?_))))
    refine rVR hG rfl rfl rfl ?_
    rfl
set_option maxRecDepth 20000 in
set_option maxHeartbeats 800000 in
theorem sp_X1_turned {uo : UD} {ux : XD} {ua ub : TD} {v0 v1 v2 : SD} {up : PD} {kO : Bool} {hr lt : FN} {un lw pa : Int} {ur : HD} {k : Bool} {t : TD} (ht : t = tsel k ua ub) {day e r : Int} (hT : TOK t) (h1 : 0 ≤ day ∧ day ≤ 100) (h2 : -100 ≤ e ∧ e ≤ 100) (h3 : -1000 ≤ r ∧ r ≤ 1000) : SpI l 3 yX1_turned cX1_turned 9 (some .int) [mr 20, mr (tix k), mi day, mi e, mi r] (hC uo ux ua ub v0 v1 v2 up (kO, hr, lt, un, lw, pa) ur) (fun z h => z = otrn t lt day e r ∧ h = hC uo ux ua ub v0 v1 v2 up (kO, hr, lt, un, lw, pa) ur) := by
  have hT1 := hT.1
  have hT5 := hT.2.2.2.2.1
  have hT6 := hT.2.2.2.2.2.1
  cases k
  · obtain rfl : t = ua := ht
    refine SpI.of (cd := kdX1_turned) (fT := mlook flX1) (kT := mlook klX1) (kJ := mlook jlX1) mfA_X1_turned ok_X1_turned fT_X1 kT_X1 jT_X1 jdk_ok True.intro (Nat.le_of_ble_eq_true rfl) (fun G hG => ?_)
    refine rRun hG 99999 ?_
    refine rSN hG (sp_X6_isBeyond (e := e) (by omega)) rfl rfl lkN_X1_75 mf_X6_isBeyond (by decide) (Nat.le_of_ble_eq_true rfl) ?_
    rintro w _ ⟨hw, rfl⟩
    have w1 : (w = 1 ∧ (e < -9 ∨ 9 < e)) ∨ (w = 0 ∧ ¬ (e < -9 ∨ 9 < e)) := (by rw [hw]; by_cases q9 : (e < -9 ∨ 9 < e) <;> simp [q9])
    clear hw
    refine rRun hG 99999 ?_
    refine And.intro (by first | omega | (dsimp only; omega)) (And.intro (fun c2 => ?_) (fun c2 => ?_))
    · try dsimp only at c2
      refine rRun hG 99999 ?_
      refine rMax hG rfl rfl lk_X1_79 (by decide) (Nat.le_of_ble_eq_true rfl) (by first | omega | (dsimp only; omega)) ?_
      refine rRun hG 99999 ?_
      refine rV hG (sp_X1_laterAt (uo := uo) (ux := ux) (ua := t) (ub := ub) (v0 := v0) (v1 := v1) (v2 := v2) (up := up) (ur := ur) (kO := kO) (hr := hr) (lt := lt) (un := un) (lw := lw) (pa := pa) (e := e) (w := max 0 r) (by omega) (by omega)) rfl rfl lk_X1_82 mf_X1_laterAt (by decide) (Nat.le_of_ble_eq_true rfl) ⟨_, _, _, rfl, rfl, rfl⟩ ?_
      rintro _ _ ⟨rfl, rfl⟩
      refine rRun hG 99999 ?_
      refine rLess hG (L' := [some _, some _, some _, some _, some _, some _, some _, none, none]) ⟨rfl, rfl, rfl, rfl, rfl, rfl, rfl, True.intro⟩ ?_
      refine rAbs hG rfl rfl lk_X1_85 (by decide) (Nat.le_of_ble_eq_true rfl) (by first | omega | (dsimp only; omega)) ?_
      refine rRun hG 99999 ?_
      refine And.intro rfl (And.intro (by first | omega | (dsimp only; omega)) (And.intro (fun c4 => ?_) (fun c4 => ?_)))
      · try dsimp only at c4
        refine rRun hG 99999 ?_
        refine rV hG (sp_X5_sunOf (uo := uo) (ux := ux) (ua := t) (ub := ub) (v0 := v0) (v1 := v1) (v2 := v2) (up := up) (uq := (kO, hr, lt, un, lw, pa)) (ur := ur) (k := false) (t := t) (ht := rfl) (i := day) (by omega) (by omega)) rfl rfl lk_X1_94 mf_X5_sunOf (by decide) (Nat.le_of_ble_eq_true rfl) ⟨_, _, _, rfl, rfl, rfl⟩ ?_
        rintro _ _ ⟨rfl, rfl⟩
        refine rRun hG 99999 ?_
        refine And.intro rfl (?_)
        refine rLess hG (L' := [some _, some _, some _, some _, some _, some _, some _, some _, none]) ⟨rfl, rfl, rfl, rfl, rfl, rfl, rfl, rfl, True.intro⟩ ?_
        refine rMin hG rfl rfl lk_X1_34 (by decide) (Nat.le_of_ble_eq_true rfl) (by first | omega | (dsimp only; omega)) ?_
        refine rV hG (sp_X1_laterAt (uo := uo) (ux := ux) (ua := t) (ub := ub) (v0 := v0) (v1 := v1) (v2 := v2) (up := up) (ur := ur) (kO := kO) (hr := hr) (lt := lt) (un := un) (lw := lw) (pa := pa) (e := 0) (w := min 99 (max 0 r + tAdd t)) (by omega) (by omega)) rfl rfl lk_X1_82 mf_X1_laterAt (by decide) (Nat.le_of_ble_eq_true rfl) ⟨_, _, _, rfl, rfl, rfl⟩ ?_
        rintro _ _ ⟨rfl, rfl⟩
        refine rRun hG 99999 ?_
        refine rIR hG rfl rfl (True.intro) ?_
        exact ⟨(otrn_c (by omega) (by omega)).symm, rfl⟩
      · try dsimp only at c4
        refine rIR hG rfl rfl (True.intro) ?_
        exact ⟨(otrn_b (by omega) (by omega)).symm, rfl⟩
    · try dsimp only at c2
      refine rIR hG rfl rfl (True.intro) ?_
      exact ⟨(if_pos (by omega)).symm, rfl⟩
  · obtain rfl : t = ub := ht
    refine SpI.of (cd := kdX1_turned) (fT := mlook flX1) (kT := mlook klX1) (kJ := mlook jlX1) mfA_X1_turned ok_X1_turned fT_X1 kT_X1 jT_X1 jdk_ok True.intro (Nat.le_of_ble_eq_true rfl) (fun G hG => ?_)
    refine rRun hG 99999 ?_
    refine rSN hG (sp_X6_isBeyond (e := e) (by omega)) rfl rfl lkN_X1_75 mf_X6_isBeyond (by decide) (Nat.le_of_ble_eq_true rfl) ?_
    rintro w _ ⟨hw, rfl⟩
    have w1 : (w = 1 ∧ (e < -9 ∨ 9 < e)) ∨ (w = 0 ∧ ¬ (e < -9 ∨ 9 < e)) := (by rw [hw]; by_cases q9 : (e < -9 ∨ 9 < e) <;> simp [q9])
    clear hw
    refine rRun hG 99999 ?_
    refine And.intro (by first | omega | (dsimp only; omega)) (And.intro (fun c2 => ?_) (fun c2 => ?_))
    · try dsimp only at c2
      refine rRun hG 99999 ?_
      refine rMax hG rfl rfl lk_X1_79 (by decide) (Nat.le_of_ble_eq_true rfl) (by first | omega | (dsimp only; omega)) ?_
      refine rRun hG 99999 ?_
      refine rV hG (sp_X1_laterAt (uo := uo) (ux := ux) (ua := ua) (ub := t) (v0 := v0) (v1 := v1) (v2 := v2) (up := up) (ur := ur) (kO := kO) (hr := hr) (lt := lt) (un := un) (lw := lw) (pa := pa) (e := e) (w := max 0 r) (by omega) (by omega)) rfl rfl lk_X1_82 mf_X1_laterAt (by decide) (Nat.le_of_ble_eq_true rfl) ⟨_, _, _, rfl, rfl, rfl⟩ ?_
      rintro _ _ ⟨rfl, rfl⟩
      refine rRun hG 99999 ?_
      refine rLess hG (L' := [some _, some _, some _, some _, some _, some _, some _, none, none]) ⟨rfl, rfl, rfl, rfl, rfl, rfl, rfl, True.intro⟩ ?_
      refine rAbs hG rfl rfl lk_X1_85 (by decide) (Nat.le_of_ble_eq_true rfl) (by first | omega | (dsimp only; omega)) ?_
      refine rRun hG 99999 ?_
      refine And.intro rfl (And.intro (by first | omega | (dsimp only; omega)) (And.intro (fun c4 => ?_) (fun c4 => ?_)))
      · try dsimp only at c4
        refine rRun hG 99999 ?_
        refine rV hG (sp_X5_sunOf (uo := uo) (ux := ux) (ua := ua) (ub := t) (v0 := v0) (v1 := v1) (v2 := v2) (up := up) (uq := (kO, hr, lt, un, lw, pa)) (ur := ur) (k := true) (t := t) (ht := rfl) (i := day) (by omega) (by omega)) rfl rfl lk_X1_94 mf_X5_sunOf (by decide) (Nat.le_of_ble_eq_true rfl) ⟨_, _, _, rfl, rfl, rfl⟩ ?_
        rintro _ _ ⟨rfl, rfl⟩
        refine rRun hG 99999 ?_
        refine And.intro rfl (?_)
        refine rLess hG (L' := [some _, some _, some _, some _, some _, some _, some _, some _, none]) ⟨rfl, rfl, rfl, rfl, rfl, rfl, rfl, rfl, True.intro⟩ ?_
        refine rMin hG rfl rfl lk_X1_34 (by decide) (Nat.le_of_ble_eq_true rfl) (by first | omega | (dsimp only; omega)) ?_
        refine rV hG (sp_X1_laterAt (uo := uo) (ux := ux) (ua := ua) (ub := t) (v0 := v0) (v1 := v1) (v2 := v2) (up := up) (ur := ur) (kO := kO) (hr := hr) (lt := lt) (un := un) (lw := lw) (pa := pa) (e := 0) (w := min 99 (max 0 r + tAdd t)) (by omega) (by omega)) rfl rfl lk_X1_82 mf_X1_laterAt (by decide) (Nat.le_of_ble_eq_true rfl) ⟨_, _, _, rfl, rfl, rfl⟩ ?_
        rintro _ _ ⟨rfl, rfl⟩
        refine rRun hG 99999 ?_
        refine rIR hG rfl rfl (True.intro) ?_
        exact ⟨(otrn_c (by omega) (by omega)).symm, rfl⟩
      · try dsimp only at c4
        refine rIR hG rfl rfl (True.intro) ?_
        exact ⟨(otrn_b (by omega) (by omega)).symm, rfl⟩
    · try dsimp only at c2
      refine rIR hG rfl rfl (True.intro) ?_
      exact ⟨(if_pos (by omega)).symm, rfl⟩
/-- the pace of the best that was found, or the one ahead of it -/
def obp (pa : Int) (r : Int × Int) : Int := if r.2 = -9 then pa else r.2
set_option maxRecDepth 20000 in
set_option maxHeartbeats 800000 in
theorem sp_X1_best {uo : UD} {ux : XD} {ua ub : TD} {v0 v1 v2 : SD} {up : PD} {kO : Bool} {hr lt : FN} {un lw pa : Int} {ur : HD} {k : Bool} {t : TD} (ht : t = tsel k ua ub) {day e w : Int} (hT : TOK t) (h1 : 0 ≤ day ∧ day ≤ 100) (h2 : -9 ≤ e ∧ e ≤ 9) (h3 : 0 ≤ w ∧ w ≤ 100) (hg : ∀ e r, -1 ≤ otrn t lt day e r ∧ otrn t lt day e r ≤ 2000000000) : SpI l 4 yX1_best cX1_best 8 (some .int) [mr 20, mr (tix k), mi day, mi e, mi w] (hC uo ux ua ub v0 v1 v2 up (kO, hr, lt, un, lw, pa) ur) (fun z h => z = (foldB (fun q => otrn t lt day (e + q) (w - 4 - q)) (-1) 6).1 ∧ h = hC uo ux ua ub v0 v1 v2 up (kO, hr, lt, un, lw, obp pa (foldB (fun q => otrn t lt day (e + q) (w - 4 - q)) (-1) 6)) ur) := by
  refine SpI.of (cd := kdX1_best) (fT := mlook flX1) (kT := mlook klX1) (kJ := mlook jlX1) mfA_X1_best ok_X1_best fT_X1 kT_X1 jT_X1 jdk_ok True.intro (Nat.le_of_ble_eq_true rfl) (fun G hG => ?_)
  refine rRun hG 7 ?_
  have J7 : ∀ (n : Nat) (i : Nat), i ≤ 6 → 6 - i < n → G 7 [some (mr 20), some (mr (tix k)), some (mi day), some (mi e), some (mi w), some (mi (foldB (fun q => otrn t lt day (e + q) (w - 4 - q)) (-1) i).1), some (mi ((i : Int) - 2)), none] [] (hC uo ux ua ub v0 v1 v2 up (kO, hr, lt, un, lw, obp pa (foldB (fun q => otrn t lt day (e + q) (w - 4 - q)) (-1) i)) ur) := by
    intro n
    induction n with
    | zero => intro i _ hm; exact absurd hm (Nat.not_lt_zero _)
    | succ n ih =>
      intro i hinv hm
      have hb1 := foldB_in (g := fun q => otrn t lt day (e + q) (w - 4 - q)) (b0 := -1) (M := 2000000000) (by omega) (fun q => (hg _ _).2) i
      refine rRun hG 99999 ?_
      refine And.intro (by first | omega | (dsimp only; omega)) (And.intro (fun c1 => ?_) (fun c1 => ?_))
      · try dsimp only at c1
        refine rRun hG 99999 ?_
        refine rIR hG rfl rfl (True.intro) ?_
        obtain rfl : i = 6 := by omega
        exact ⟨rfl, rfl⟩
      · try dsimp only at c1
        refine rV hG (sp_X1_turned (uo := uo) (ux := ux) (ua := ua) (ub := ub) (v0 := v0) (v1 := v1) (v2 := v2) (up := up) (ur := ur) (kO := kO) (hr := hr) (lt := lt) (un := un) (lw := lw) (pa := obp pa (foldB (fun q => otrn t lt day (e + q) (w - 4 - q)) (-1) i)) (k := k) (t := t) ht (day := day) (e := e + ((i : Int) - 2)) (r := w - 4 - ((i : Int) - 2)) hT h1 (by omega) (by omega)) rfl rfl lk_X1_72 mf_X1_turned (by decide) (Nat.le_of_ble_eq_true rfl) ⟨_, _, _, rfl, rfl, rfl⟩ ?_
        rintro _ _ ⟨rfl, rfl⟩
        have hb2 := hg (e + ((i : Int) - 2)) (w - 4 - ((i : Int) - 2))
        refine rRun hG 99999 ?_
        refine And.intro (by first | omega | (dsimp only; omega)) (And.intro (fun cc => ?_) (fun cc => ?_))
        · try dsimp only at cc
          refine rRun hG 99999 ?_
          have e9 := ih (i + 1) (by omega) (by omega)
          rw [foldB_s] at e9
          first | (rw [if_pos (Int.not_le.mp cc)] at e9; rw [show obp pa (_, ((i : Int) - 2)) = (i : Int) - 2 from if_neg (by show ¬ ((i : Int) - 2 = -9); omega)] at e9) | rw [if_neg (Int.not_lt.mpr cc)] at e9
          refine rLess hG ?_ e9
          exact ⟨rfl, rfl, rfl, rfl, rfl, rfl, congrArg mi (by omega), True.intro⟩
        · try dsimp only at cc
          refine And.intro ⟨rfl, by exact Nat.le_of_ble_eq_true rfl, by first | exact True.intro | exact Or.inl rfl | exact Or.inr rfl⟩ (?_)
          have e9 := ih (i + 1) (by omega) (by omega)
          rw [foldB_s] at e9
          first | (rw [if_pos (Int.not_le.mp cc)] at e9; rw [show obp pa (_, ((i : Int) - 2)) = (i : Int) - 2 from if_neg (by show ¬ ((i : Int) - 2 = -9); omega)] at e9) | rw [if_neg (Int.not_lt.mpr cc)] at e9
          refine rLess hG ?_ e9
          exact ⟨rfl, rfl, rfl, rfl, rfl, rfl, congrArg mi (by omega), True.intro⟩
  exact rLess hG (L' := [some (mr 20), some (mr (tix k)), some (mi day), some (mi e), some (mi w), some (mi (foldB (fun q => otrn t lt day (e + q) (w - 4 - q)) (-1) 0).1), some (mi (((0 : Nat) : Int) - 2)), none]) ⟨rfl, rfl, rfl, rfl, rfl, rfl, rfl, True.intro⟩ (J7 _ 0 (by omega) (Nat.lt_succ_self _))
end WALKS
end
section
/-! Odds: rows, the fraction -/
section WALKS
variable {l : Launch}
def orow (t : TD) (lt : FN) (lw day left e r : Int) : Int := if r = 0 then lw else if r ≤ 7 * left then (foldB (fun q => otrn t lt day (e + q) (r - 4 - q)) (-1) 6).1 else 0
def orowIs (f : FN) (V : Int → Int → Int) (n : Nat) : Prop := ∀ a : Nat, a < n → f a = V (((a / 50 : Nat) : Int) - 9) ((a % 50 : Nat) : Int)
theorem orowIs_put {f : FN} {V : Int → Int → Int} {ei j : Nat} (hj : j < 50) (h : orowIs f V (50 * ei + j)) {v : Int} (hv : v = V ((ei : Int) - 9) (j : Int)) : orowIs (mup f (50 * ei + j) v) V (50 * ei + (j + 1)) := by
  intro a ha
  by_cases q : a = 50 * ei + j
  · subst q
    rw [mup_s, hv, show (50 * ei + j) / 50 = ei by omega, show (50 * ei + j) % 50 = j by omega]
  · rw [mup_n q]; exact h a (by omega)
set_option maxRecDepth 20000 in
set_option maxHeartbeats 1500000 in
theorem sp_X1_fillRow {uo : UD} {ux : XD} {ua ub : TD} {v0 v1 v2 : SD} {up : PD} {kO : Bool} {hr lt : FN} {un lw pa : Int} {ur : HD} {k : Bool} {t : TD} (ht : t = tsel k ua ub) {day left : Int} (hT : TOK t) (h1 : 0 ≤ day ∧ day ≤ 100) (h2 : 0 ≤ left ∧ left ≤ 100) (hg : 1 ≤ left → ∀ e r, -1 ≤ otrn t lt day e r ∧ otrn t lt day e r ≤ 2000000000) : SpV l 5 yX1_fillRow cX1_fillRow 7 none [mr 20, mr (tix k), mi day, mi left] (hC uo ux ua ub v0 v1 v2 up (kO, hr, lt, un, lw, pa) ur) (fun h => ∃ (h9 : FN) (p9 : Int), orowIs h9 (orow t lt lw day left) 950 ∧ h = hC uo ux ua ub v0 v1 v2 up (kO, h9, lt, un, lw, p9) ur) := by
  refine SpV.of (cd := kdX1_fillRow) (fT := mlook flX1) (kT := mlook klX1) (kJ := mlook jlX1) mfA_X1_fillRow ok_X1_fillRow fT_X1 kT_X1 jT_X1 jdk_ok True.intro (Nat.le_of_ble_eq_true rfl) (fun G hG => ?_)
  have J25 : ∀ (ei : Nat), ei < 19 → (∀ (h8 : FN) (pa8 : Int), orowIs h8 (orow t lt lw day left) (50 * (ei + 1)) → G 81 [some (mr 20), some (mr (tix k)), some (mi day), some (mi left), some (mi ((ei : Int) - 9)), none, none] [] (hC uo ux ua ub v0 v1 v2 up (kO, h8, lt, un, lw, pa8) ur)) → ∀ (n j : Nat) (h8 : FN) (pa8 : Int), orowIs h8 (orow t lt lw day left) (50 * ei + j) → 1 ≤ j → j ≤ 50 → 50 - j < n → G 25 [some (mr 20), some (mr (tix k)), some (mi day), some (mi left), some (mi ((ei : Int) - 9)), some (mi (j : Int)), none] [] (hC uo ux ua ub v0 v1 v2 up (kO, h8, lt, un, lw, pa8) ur) := by
    intro ei hei hcont n
    induction n with
    | zero => intro j h8 pa8 _ _ _ hm; exact absurd hm (Nat.not_lt_zero _)
    | succ n ih =>
      intro j h8 pa8 hrow hj1 hj hm
      refine rRun hG 81 ?_
      refine And.intro (by first | omega | (dsimp only; omega)) (And.intro (fun c1 => ?_) (fun c1 => ?_))
      · try dsimp only at c1
        obtain rfl : j = 50 := by omega
        refine rLess hG ?_ (hcont h8 pa8 (by rw [show 50 * (ei + 1) = 50 * ei + 50 by omega]; exact hrow))
        exact ⟨rfl, rfl, rfl, rfl, rfl, True.intro⟩
      · try dsimp only at c1
        refine And.intro (by first | omega | (dsimp only; omega)) (And.intro (fun cr => ?_) (fun cr => ?_))
        · try dsimp only at cr
          refine rRun hG 81 ?_
          refine And.intro (by first | omega | (dsimp only; omega)) (And.intro (fun cf => ?_) (fun cf => ?_))
          · try dsimp only at cf
            refine rRun hG 81 ?_
            refine rVV hG (sp_X1_put (uo := uo) (ux := ux) (ua := ua) (ub := ub) (v0 := v0) (v1 := v1) (v2 := v2) (up := up) (ur := ur) (kO := kO) (hr := h8) (lt := lt) (un := un) (lw := lw) (pa := pa8) (e := ((ei : Int) - 9)) (w := (j : Int)) (v := 0) (by omega) (by omega)) rfl rfl lk_X1_68 mf_X1_put (by decide) (Nat.le_of_ble_eq_true rfl) ⟨_, _, _, rfl, rfl, rfl⟩ ?_
            rintro _ rfl
            rw [if_pos (by omega), show ((((ei : Int) - 9) + 9) * 50 + (j : Int)).toNat = 50 * ei + j by omega]
            refine rRun hG 81 ?_
            refine rLess hG ?_ (ih (j + 1) (mup h8 (50 * ei + j) (0)) pa8 (orowIs_put (by omega) hrow ?_) (by omega) (by omega) (by omega))
            · exact ⟨rfl, rfl, rfl, rfl, rfl, rfl, True.intro⟩
            · unfold orow; rw [if_neg (by omega), if_neg (by omega)]
          · try dsimp only at cf
            refine rV hG (sp_X1_best (uo := uo) (ux := ux) (ua := ua) (ub := ub) (v0 := v0) (v1 := v1) (v2 := v2) (up := up) (ur := ur) (kO := kO) (hr := h8) (lt := lt) (un := un) (lw := lw) (pa := pa8) (k := k) (t := t) ht (day := day) (e := ((ei : Int) - 9)) (w := (j : Int)) hT h1 (by omega) (by omega) (hg (by omega))) rfl rfl lk_X1_61 mf_X1_best (by decide) (Nat.le_of_ble_eq_true rfl) ⟨_, _, _, rfl, rfl, rfl⟩ ?_
            rintro _ _ ⟨rfl, rfl⟩
            refine rRun hG 81 ?_
            refine rVV hG (sp_X1_put (uo := uo) (ux := ux) (ua := ua) (ub := ub) (v0 := v0) (v1 := v1) (v2 := v2) (up := up) (ur := ur) (kO := kO) (hr := h8) (lt := lt) (un := un) (lw := lw) (pa := (obp pa8 (foldB (fun q => otrn t lt day (((ei : Int) - 9) + q) ((j : Int) - 4 - q)) (-1) 6))) (e := ((ei : Int) - 9)) (w := (j : Int)) (v := (foldB (fun q => otrn t lt day (((ei : Int) - 9) + q) ((j : Int) - 4 - q)) (-1) 6).1) (by omega) (by omega)) rfl rfl lk_X1_68 mf_X1_put (by decide) (Nat.le_of_ble_eq_true rfl) ⟨_, _, _, rfl, rfl, rfl⟩ ?_
            rintro _ rfl
            rw [if_pos (by omega), show ((((ei : Int) - 9) + 9) * 50 + (j : Int)).toNat = 50 * ei + j by omega]
            refine rRun hG 81 ?_
            refine rLess hG ?_ (ih (j + 1) (mup h8 (50 * ei + j) ((foldB (fun q => otrn t lt day (((ei : Int) - 9) + q) ((j : Int) - 4 - q)) (-1) 6).1)) (obp pa8 (foldB (fun q => otrn t lt day (((ei : Int) - 9) + q) ((j : Int) - 4 - q)) (-1) 6)) (orowIs_put (by omega) hrow ?_) (by omega) (by omega) (by omega))
            · exact ⟨rfl, rfl, rfl, rfl, rfl, rfl, True.intro⟩
            · unfold orow; rw [if_neg (by omega), if_pos (by omega)]
        · try dsimp only at cr
          refine rRun hG 81 ?_
          refine And.intro (by first | omega | (dsimp only; omega)) (And.intro (fun cf => ?_) (fun cf => ?_))
          · try dsimp only at cf
            refine rRun hG 81 ?_
            refine rVV hG (sp_X1_put (uo := uo) (ux := ux) (ua := ua) (ub := ub) (v0 := v0) (v1 := v1) (v2 := v2) (up := up) (ur := ur) (kO := kO) (hr := h8) (lt := lt) (un := un) (lw := lw) (pa := pa8) (e := ((ei : Int) - 9)) (w := (j : Int)) (v := 0) (by omega) (by omega)) rfl rfl lk_X1_68 mf_X1_put (by decide) (Nat.le_of_ble_eq_true rfl) ⟨_, _, _, rfl, rfl, rfl⟩ ?_
            rintro _ rfl
            rw [if_pos (by omega), show ((((ei : Int) - 9) + 9) * 50 + (j : Int)).toNat = 50 * ei + j by omega]
            refine rRun hG 81 ?_
            refine rLess hG ?_ (ih (j + 1) (mup h8 (50 * ei + j) (0)) pa8 (orowIs_put (by omega) hrow ?_) (by omega) (by omega) (by omega))
            · exact ⟨rfl, rfl, rfl, rfl, rfl, rfl, True.intro⟩
            · unfold orow; rw [if_neg (by omega), if_neg (by omega)]
          · try dsimp only at cf
            refine rV hG (sp_X1_best (uo := uo) (ux := ux) (ua := ua) (ub := ub) (v0 := v0) (v1 := v1) (v2 := v2) (up := up) (ur := ur) (kO := kO) (hr := h8) (lt := lt) (un := un) (lw := lw) (pa := pa8) (k := k) (t := t) ht (day := day) (e := ((ei : Int) - 9)) (w := (j : Int)) hT h1 (by omega) (by omega) (hg (by omega))) rfl rfl lk_X1_61 mf_X1_best (by decide) (Nat.le_of_ble_eq_true rfl) ⟨_, _, _, rfl, rfl, rfl⟩ ?_
            rintro _ _ ⟨rfl, rfl⟩
            refine rRun hG 81 ?_
            refine rVV hG (sp_X1_put (uo := uo) (ux := ux) (ua := ua) (ub := ub) (v0 := v0) (v1 := v1) (v2 := v2) (up := up) (ur := ur) (kO := kO) (hr := h8) (lt := lt) (un := un) (lw := lw) (pa := (obp pa8 (foldB (fun q => otrn t lt day (((ei : Int) - 9) + q) ((j : Int) - 4 - q)) (-1) 6))) (e := ((ei : Int) - 9)) (w := (j : Int)) (v := (foldB (fun q => otrn t lt day (((ei : Int) - 9) + q) ((j : Int) - 4 - q)) (-1) 6).1) (by omega) (by omega)) rfl rfl lk_X1_68 mf_X1_put (by decide) (Nat.le_of_ble_eq_true rfl) ⟨_, _, _, rfl, rfl, rfl⟩ ?_
            rintro _ rfl
            rw [if_pos (by omega), show ((((ei : Int) - 9) + 9) * 50 + (j : Int)).toNat = 50 * ei + j by omega]
            refine rRun hG 81 ?_
            refine rLess hG ?_ (ih (j + 1) (mup h8 (50 * ei + j) ((foldB (fun q => otrn t lt day (((ei : Int) - 9) + q) ((j : Int) - 4 - q)) (-1) 6).1)) (obp pa8 (foldB (fun q => otrn t lt day (((ei : Int) - 9) + q) ((j : Int) - 4 - q)) (-1) 6)) (orowIs_put (by omega) hrow ?_) (by omega) (by omega) (by omega))
            · exact ⟨rfl, rfl, rfl, rfl, rfl, rfl, True.intro⟩
            · unfold orow; rw [if_neg (by omega), if_pos (by omega)]
  have J4 : ∀ (n ei : Nat) (h8 : FN) (pa8 : Int), orowIs h8 (orow t lt lw day left) (50 * ei) → ei ≤ 19 → 19 - ei < n → G 4 [some (mr 20), some (mr (tix k)), some (mi day), some (mi left), some (mi ((ei : Int) - 9)), none, none] [] (hC uo ux ua ub v0 v1 v2 up (kO, h8, lt, un, lw, pa8) ur) := by
    intro n
    induction n with
    | zero => intro ei h8 pa8 _ _ hm; exact absurd hm (Nat.not_lt_zero _)
    | succ n ih =>
      intro ei h8 pa8 hrow hei hm
      have J81 : ei < 19 → ∀ (h8 : FN) (pa8 : Int), orowIs h8 (orow t lt lw day left) (50 * (ei + 1)) → G 81 [some (mr 20), some (mr (tix k)), some (mi day), some (mi left), some (mi ((ei : Int) - 9)), none, none] [] (hC uo ux ua ub v0 v1 v2 up (kO, h8, lt, un, lw, pa8) ur) := by
        intro hei2 h8 pa8 hr8
        refine rRun hG 99999 ?_
        refine rLess hG ?_ (ih (ei + 1) h8 pa8 hr8 (by omega) (by omega))
        exact ⟨rfl, rfl, rfl, rfl, congrArg mi (by omega), True.intro⟩
      refine rRun hG 25 ?_
      refine And.intro (by first | omega | (dsimp only; omega)) (And.intro (fun c1 => ?_) (fun c1 => ?_))
      · try dsimp only at c1
        refine rVR hG rfl rfl rfl ?_
        obtain rfl : ei = 19 := by omega
        exact ⟨h8, pa8, hrow, rfl⟩
      · try dsimp only at c1
        refine And.intro rfl (?_)
        refine rVV hG (sp_X1_put (uo := uo) (ux := ux) (ua := ua) (ub := ub) (v0 := v0) (v1 := v1) (v2 := v2) (up := up) (ur := ur) (kO := kO) (hr := h8) (lt := lt) (un := un) (lw := lw) (pa := pa8) (e := ((ei : Int) - 9)) (w := 0) (v := lw) (by omega) (by omega)) rfl rfl lk_X1_68 mf_X1_put (by decide) (Nat.le_of_ble_eq_true rfl) ⟨_, _, _, rfl, rfl, rfl⟩ ?_
        rintro _ rfl
        rw [if_pos (by omega), show ((((ei : Int) - 9) + 9) * 50 + 0).toNat = 50 * ei + 0 by omega]
        refine rRun hG 25 ?_
        refine rLess hG ?_ (J25 ei (by omega) (fun h8 pa8 q => J81 (by omega) h8 pa8 q) 50 1 (mup h8 (50 * ei + 0) lw) pa8 (orowIs_put (by omega) hrow (if_pos rfl).symm) (by omega) (by omega) (by omega))
        exact ⟨rfl, rfl, rfl, rfl, rfl, rfl, True.intro⟩
  refine rRun hG 4 ?_
  exact rLess hG (L' := [some (mr 20), some (mr (tix k)), some (mi day), some (mi left), some (mi (((0 : Nat) : Int) - 9)), none, none]) ⟨rfl, rfl, rfl, rfl, rfl, True.intro⟩ (J4 20 0 hr pa (fun a ha => absurd ha (Nat.not_lt_zero _)) (by omega) (by omega))
def red2 (r : Int × Int) : Int × Int := if r.1 % 2 = 0 ∧ r.2 % 2 = 0 then (r.1 / 2, r.2 / 2) else r
def red5 (r : Int × Int) : Int × Int := if r.1 % 5 = 0 ∧ r.2 % 5 = 0 then (r.1 / 5, r.2 / 5) else r
def redN : Nat → Int × Int → Int × Int
  | 0, r => r
  | n + 1, r => red5 (red2 (redN n r))
def rIn (r : Int × Int) : Prop := (0 ≤ r.1 ∧ r.1 ≤ 2000000000) ∧ 1 ≤ r.2 ∧ r.2 ≤ 2000000000
theorem rIn_2 {r : Int × Int} (h : rIn r) : rIn (red2 r) := by
  obtain ⟨h1, h2⟩ := id h
  unfold red2
  split
  · exact ⟨(by show 0 ≤ r.1 / 2 ∧ r.1 / 2 ≤ 2000000000; omega), (by show 1 ≤ r.2 / 2 ∧ r.2 / 2 ≤ 2000000000; omega)⟩
  · exact h
theorem rIn_5 {r : Int × Int} (h : rIn r) : rIn (red5 r) := by
  obtain ⟨h1, h2⟩ := id h
  unfold red5
  split
  · exact ⟨(by show 0 ≤ r.1 / 5 ∧ r.1 / 5 ≤ 2000000000; omega), (by show 1 ≤ r.2 / 5 ∧ r.2 / 5 ≤ 2000000000; omega)⟩
  · exact h
theorem rIn_N {r : Int × Int} (h : rIn r) : ∀ n, rIn (redN n r)
  | 0 => h
  | n + 1 => rIn_5 (rIn_2 (rIn_N h n))
set_option maxRecDepth 20000 in
set_option maxHeartbeats 800000 in
theorem sp_X1_reduce {uo : UD} {ux : XD} {ua ub : TD} {v0 v1 v2 : SD} {up : PD} {kO : Bool} {hr lt : FN} {un lw pa : Int} {ur : HD}  (hr9 : rIn (un, lw)) : SpV l 1 yX1_reduce cX1_reduce 2 none [mr 20] (hC uo ux ua ub v0 v1 v2 up (kO, hr, lt, un, lw, pa) ur) (fun h => h = hC uo ux ua ub v0 v1 v2 up (kO, hr, lt, (redN 8 (un, lw)).1, (redN 8 (un, lw)).2, pa) ur) := by
  refine SpV.of (cd := kdX1_reduce) (fT := mlook flX1) (kT := mlook klX1) (kJ := mlook jlX1) mfA_X1_reduce ok_X1_reduce fT_X1 kT_X1 jT_X1 jdk_ok True.intro (Nat.le_of_ble_eq_true rfl) (fun G hG => ?_)
  have J46 : ∀ (i : Nat), i < 8 → (G 84 [some (mr 20), some (mi (i : Int))] [] (hC uo ux ua ub v0 v1 v2 up (kO, hr, lt, (red5 (red2 (redN i (un, lw)))).1, (red5 (red2 (redN i (un, lw)))).2, pa) ur)) → G 46 [some (mr 20), some (mi (i : Int))] [] (hC uo ux ua ub v0 v1 v2 up (kO, hr, lt, (red2 (redN i (un, lw))).1, (red2 (redN i (un, lw))).2, pa) ur) := by
    intro i hi hc
    have hq := rIn_2 (rIn_N hr9 i)
    have hq1 := hq.1
    have hq2 := hq.2
    refine rRun hG 84 ?_
    refine And.intro rfl (And.intro (by first | omega | (dsimp only; omega)) (And.intro (by first | omega | (dsimp only; omega)) (And.intro (fun c1 => ?_) (fun c1 => ?_))))
    · try dsimp only at c1
      first | (rw [show red5 (red2 (redN i (un, lw))) = _ from if_pos (by omega)] at hc; exact hc) | (rw [show red5 (red2 (redN i (un, lw))) = red2 (redN i (un, lw)) from if_neg (by omega)] at hc; exact hc)
    · try dsimp only at c1
      refine And.intro rfl (And.intro (by first | omega | (dsimp only; omega)) (And.intro (by first | omega | (dsimp only; omega)) (And.intro (fun c2 => ?_) (fun c2 => ?_))))
      · try dsimp only at c2
        first | (rw [show red5 (red2 (redN i (un, lw))) = _ from if_pos (by omega)] at hc; exact hc) | (rw [show red5 (red2 (redN i (un, lw))) = red2 (redN i (un, lw)) from if_neg (by omega)] at hc; exact hc)
      · try dsimp only at c2
        refine And.intro rfl (And.intro (by first | omega | (dsimp only; omega)) (And.intro ⟨rfl, by exact Nat.le_of_ble_eq_true rfl, by first | exact True.intro | exact Or.inl rfl | exact Or.inr rfl⟩ (And.intro rfl (And.intro (by first | omega | (dsimp only; omega)) (And.intro ⟨rfl, by exact Nat.le_of_ble_eq_true rfl, by first | exact True.intro | exact Or.inl rfl | exact Or.inr rfl⟩ (?_))))))
        first | (rw [show red5 (red2 (redN i (un, lw))) = _ from if_pos (by omega)] at hc; exact hc) | (rw [show red5 (red2 (redN i (un, lw))) = red2 (redN i (un, lw)) from if_neg (by omega)] at hc; exact hc)
  have J2 : ∀ (n i : Nat), i ≤ 8 → 8 - i < n → G 2 [some (mr 20), some (mi (i : Int))] [] (hC uo ux ua ub v0 v1 v2 up (kO, hr, lt, (redN i (un, lw)).1, (redN i (un, lw)).2, pa) ur) := by
    intro n
    induction n with
    | zero => intro i _ hm; exact absurd hm (Nat.not_lt_zero _)
    | succ n ih =>
      intro i hi hm
      have hq := rIn_N hr9 i
      have hq1 := hq.1
      have hq2 := hq.2
      have J84 : i < 8 → G 84 [some (mr 20), some (mi (i : Int))] [] (hC uo ux ua ub v0 v1 v2 up (kO, hr, lt, (red5 (red2 (redN i (un, lw)))).1, (red5 (red2 (redN i (un, lw)))).2, pa) ur) := by
        intro hi8
        refine rRun hG 99999 ?_
        exact ih (i + 1) (by omega) (by omega)
      refine rRun hG 46 ?_
      refine And.intro (by first | omega | (dsimp only; omega)) (And.intro (fun c1 => ?_) (fun c1 => ?_))
      · try dsimp only at c1
        refine rVR hG rfl rfl rfl ?_
        obtain rfl : i = 8 := by omega
        rfl
      · try dsimp only at c1
        refine And.intro rfl (And.intro (by first | omega | (dsimp only; omega)) (And.intro (by first | omega | (dsimp only; omega)) (And.intro (fun c2 => ?_) (fun c2 => ?_))))
        · try dsimp only at c2
          have J := J46 i (by omega) (J84 (by omega))
          first | (rw [show red2 (redN i (un, lw)) = _ from if_pos (by omega)] at J; exact J) | (rw [show red2 (redN i (un, lw)) = redN i (un, lw) from if_neg (by omega)] at J; exact J)
        · try dsimp only at c2
          refine And.intro rfl (And.intro (by first | omega | (dsimp only; omega)) (And.intro (by first | omega | (dsimp only; omega)) (And.intro (fun c3 => ?_) (fun c3 => ?_))))
          · try dsimp only at c3
            have J := J46 i (by omega) (J84 (by omega))
            first | (rw [show red2 (redN i (un, lw)) = _ from if_pos (by omega)] at J; exact J) | (rw [show red2 (redN i (un, lw)) = redN i (un, lw) from if_neg (by omega)] at J; exact J)
          · try dsimp only at c3
            refine And.intro rfl (And.intro (by first | omega | (dsimp only; omega)) (And.intro ⟨rfl, by exact Nat.le_of_ble_eq_true rfl, by first | exact True.intro | exact Or.inl rfl | exact Or.inr rfl⟩ (And.intro rfl (And.intro (by first | omega | (dsimp only; omega)) (And.intro ⟨rfl, by exact Nat.le_of_ble_eq_true rfl, by first | exact True.intro | exact Or.inl rfl | exact Or.inr rfl⟩ (?_))))))
            have J := J46 i (by omega) (J84 (by omega))
            first | (rw [show red2 (redN i (un, lw)) = _ from if_pos (by omega)] at J; exact J) | (rw [show red2 (redN i (un, lw)) = redN i (un, lw) from if_neg (by omega)] at J; exact J)
  refine rRun hG 2 ?_
  exact J2 9 0 (by omega) (by omega)
end WALKS
end
section
/-! Odds: weigh -/
section WALKS
variable {l : Launch}
def ovl (V : Int → Int → Int) (e r : Int) : Int := if 0 ≤ r ∧ r < 50 ∧ -9 ≤ e ∧ e ≤ 9 then V e r else 0
def sunA (t : TD) (day : Int) : Int := if 0 ≤ day ∧ day < tDay t ∧ day < 14 then tSun t day.toNat else -1
def otV (t : TD) (V : Int → Int → Int) (day e r : Int) : Int :=
  if e < -9 ∨ 9 < e then -1
  else if max e (-e) ≤ tLim t then 10 * ovl V e (max 0 r)
  else sunA t day * ovl V 0 (min 99 (max 0 r + tAdd t)) + (10 - sunA t day) * ovl V e (max 0 r)
def OV (t : TD) (mo : FN) (n : Int) : Nat → Int → Int → Int
  | 0, _, r => if r = 0 then 1 else 0
  | j + 1, e, r => if r = 0 then (10 : Int) ^ (j + 1) else if r ≤ 7 * ((j : Int) + 1) then (foldB (fun q => otV t (OV t mo n j) (mo 0 + n - ((j : Int) + 1)) (e + q) (r - 4 - q)) (-1) 6).1 else 0
theorem olat_V {f : FN} {V : Int → Int → Int} (h : orowIs f V 950) {e r : Int} : olat f e r = ovl V e r := by
  unfold olat ovl
  by_cases q : 0 ≤ r ∧ r < 50 ∧ -9 ≤ e ∧ e ≤ 9
  · rw [if_pos (by omega), if_pos q, h _ (by omega)]
    congr 1 <;> omega
  · rw [if_neg (by omega), if_neg q]
theorem otrn_V {t : TD} {f : FN} {V : Int → Int → Int} (h : orowIs f V 950) {day e r : Int} : otrn t f day e r = otV t V day e r := by
  unfold otrn otV
  rw [olat_V h, olat_V h]; rfl
theorem foldB_ge {g : Int → Int} {b0 : Int} : ∀ (n i : Nat), i < n → g ((i : Int) - 2) ≤ (foldB g b0 n).1
  | 0, i, h => absurd h (Nat.not_lt_zero _)
  | n + 1, i, h => by
    rw [foldB_s]
    by_cases q : i = n
    · subst q
      split
      · exact Int.le_refl _
      · omega
    · have ih := foldB_ge (g := g) (b0 := b0) n i (by omega)
      split
      · rename_i w; exact Int.le_trans ih (Int.le_of_lt w)
      · exact ih
theorem foldB_pc {g : Int → Int} {b0 : Int} : ∀ (n : Nat), (foldB g b0 n).2 = -9 → (foldB g b0 n).1 = b0
  | 0, _ => rfl
  | n + 1, h => by
    rw [foldB_s] at h ⊢
    by_cases q : (foldB g b0 n).1 < g ((n : Int) - 2)
    · rw [if_pos q] at h
      have h2 : (n : Int) - 2 = -9 := h
      omega
    · rw [if_neg q] at h ⊢
      exact foldB_pc n h
theorem ovl_in {V : Int → Int → Int} {M : Int} (hM : 0 ≤ M) (h : ∀ e r, -9 ≤ e ∧ e ≤ 9 → 0 ≤ V e r ∧ V e r ≤ M) (e r : Int) : 0 ≤ ovl V e r ∧ ovl V e r ≤ M := by
  unfold ovl
  split
  · exact h e r (by omega)
  · omega
theorem mix_in {s A B M : Int} (hs : 0 ≤ s ∧ s ≤ 10) (hA : 0 ≤ A ∧ A ≤ M) (hB : 0 ≤ B ∧ B ≤ M) : 0 ≤ s * A + (10 - s) * B ∧ s * A + (10 - s) * B ≤ 10 * M := by
  have h1 := Int.mul_nonneg hs.1 hA.1
  have h2 := Int.mul_nonneg (show (0 : Int) ≤ 10 - s by omega) hB.1
  have h3 := Int.mul_le_mul_of_nonneg_left hA.2 hs.1
  have h4 := Int.mul_le_mul_of_nonneg_left hB.2 (show (0 : Int) ≤ 10 - s by omega)
  have h5 : s * M + (10 - s) * M = 10 * M := by rw [← Int.add_mul]; congr 1; omega
  omega
theorem otV_in {t : TD} (hT : TOK t) {V : Int → Int → Int} {M : Int} (hM : 0 ≤ M) (h : ∀ e r, -9 ≤ e ∧ e ≤ 9 → 0 ≤ V e r ∧ V e r ≤ M) {day : Int} (hd : 0 ≤ day ∧ day < tDay t) (e r : Int) : -1 ≤ otV t V day e r ∧ otV t V day e r ≤ 10 * M ∧ (-9 ≤ e ∧ e ≤ 9 → 0 ≤ otV t V day e r) := by
  have ha := ovl_in hM h e (max 0 r)
  have hb := ovl_in hM h 0 (min 99 (max 0 r + tAdd t))
  have hT1 := hT.1
  have hs : 0 ≤ sunA t day ∧ sunA t day ≤ 10 := by
    unfold sunA
    rw [if_pos (by omega)]
    exact hT.2.2.2.2.2.2.1 day.toNat (by omega)
  have hm := mix_in hs hb ha
  unfold otV
  split
  · omega
  · split
    · omega
    · omega
theorem ten_in : ∀ j : Nat, j ≤ 8 → (1 : Int) ≤ 10 ^ j ∧ (10 : Int) ^ j ≤ 100000000 := by decide
theorem OV_in {t : TD} {mo : FN} {n : Int} (hT : TOK t) (h0 : 0 ≤ mo 0) (hn : mo 0 + n ≤ tDay t) : ∀ (j : Nat), j ≤ 8 → (j : Int) ≤ n → ∀ (e r : Int), -9 ≤ e ∧ e ≤ 9 → 0 ≤ OV t mo n j e r ∧ OV t mo n j e r ≤ 10 ^ j
  | 0, _, _, e, r, _ => by
    show 0 ≤ (if r = 0 then 1 else 0) ∧ (if r = 0 then 1 else 0) ≤ (1 : Int)
    split <;> omega
  | j + 1, hj, hjn, e, r, he => by
    have ih := OV_in hT h0 hn j (by omega) (by omega)
    have hp := ten_in j (by omega)
    have h10 : (10 : Int) ^ (j + 1) = 10 * 10 ^ j := by rw [Int.pow_succ, Int.mul_comm]
    have hg := otV_in hT (V := OV t mo n j) (by omega) ih (day := mo 0 + n - ((j : Int) + 1)) (by omega)
    show 0 ≤ (if r = 0 then (10 : Int) ^ (j + 1) else if r ≤ 7 * ((j : Int) + 1) then (foldB (fun q => otV t (OV t mo n j) (mo 0 + n - ((j : Int) + 1)) (e + q) (r - 4 - q)) (-1) 6).1 else 0) ∧ (if r = 0 then (10 : Int) ^ (j + 1) else if r ≤ 7 * ((j : Int) + 1) then (foldB (fun q => otV t (OV t mo n j) (mo 0 + n - ((j : Int) + 1)) (e + q) (r - 4 - q)) (-1) 6).1 else 0) ≤ 10 ^ (j + 1)
    by_cases q : r = 0
    · rw [if_pos q]; omega
    · rw [if_neg q]
      by_cases q2 : r ≤ 7 * ((j : Int) + 1)
      · rw [if_pos q2]
        have hf := foldB_in (g := fun q => otV t (OV t mo n j) (mo 0 + n - ((j : Int) + 1)) (e + q) (r - 4 - q)) (b0 := -1) (M := 10 * 10 ^ j) (by omega) (fun p => (hg _ _).2.1) 6
        have hz := foldB_ge (g := fun q => otV t (OV t mo n j) (mo 0 + n - ((j : Int) + 1)) (e + q) (r - 4 - q)) (b0 := -1) 6 2 (by omega)
        have h0 := (hg (e + (((2 : Nat) : Int) - 2)) (r - 4 - (((2 : Nat) : Int) - 2))).2.2 (by omega)
        omega
      · rw [if_neg q2]; omega
/-- what a weighing answers: the upper, the lower number, the pace -/
def wghF (t : TD) (mo : FN) (dn : Int) : Int × Int := foldB (fun q => otV t (OV t mo dn (dn.toNat - 1)) (mo 0) (mo 2 + q) (mo 1 - 4 - q)) (-1) 6
def wghR (t : TD) (mo : FN) (dn : Int) : Int × Int := if mo 1 = 0 then (1, 1) else if dn ≤ 0 then (0, 1) else redN 8 ((wghF t mo dn).1, 10 ^ dn.toNat)
def wghP (t : TD) (mo : FN) (dn : Int) : Int := if mo 1 = 0 ∨ dn ≤ 0 then -9 else (wghF t mo dn).2
set_option maxRecDepth 20000 in
set_option maxHeartbeats 2000000 in
theorem sp_X1_weigh {uo : UD} {ux : XD} {ua ub : TD} {mo : FN} {kn kp : Int} {v1 v2 : SD} {up : PD} {kO : Bool} {hr lt : FN} {un lw pa : Int} {ur : HD} {k : Bool} {t : TD} (ht : t = tsel k ua ub) {n9 : Int} (hT : TOK t) (hn : 0 ≤ n9 ∧ n9 ≤ 8) (hd : 0 ≤ tDay t - mo 0) (hm0 : 0 ≤ mo 0 ∧ mo 0 ≤ 14) (hm1 : 0 ≤ mo 1 ∧ mo 1 ≤ 99) (hm2 : -9 ≤ mo 2 ∧ mo 2 ≤ 9) : SpV l 6 yX1_weigh cX1_weigh 6 none [mr 20, mr (tix k), mr 11, mi n9] (hC uo ux ua ub (mo, kn, kp) v1 v2 up (kO, hr, lt, un, lw, pa) ur) (fun h => ∃ (k9 : Bool) (h9 l9 : FN), h = hC uo ux ua ub (mo, kn, kp) v1 v2 up (k9, h9, l9, (wghR t mo (min n9 (tDay t - mo 0))).1, (wghR t mo (min n9 (tDay t - mo 0))).2, wghP t mo (min n9 (tDay t - mo 0))) ur) := by
  have hT1 := hT.1
  refine SpV.of (cd := kdX1_weigh) (fT := mlook flX1) (kT := mlook klX1) (kJ := mlook jlX1) mfA_X1_weigh ok_X1_weigh fT_X1 kT_X1 jT_X1 jdk_ok True.intro (Nat.le_of_ble_eq_true rfl) (fun G hG => ?_)
  have J106 : ∀ (k9 : Bool) (h9 l9 : FN) (p9 : Int), ¬ mo 1 = 0 → 0 < (min n9 (tDay t - mo 0)) → orowIs h9 (OV t mo (min n9 (tDay t - mo 0)) ((min n9 (tDay t - mo 0)).toNat - 1)) 950 → G 106 [some (mr 20), some (mr (tix k)), some (mr 11), some (mi n9), some (mi (min n9 (tDay t - mo 0))), none] [] (hC uo ux ua ub (mo, kn, kp) v1 v2 up (k9, h9, l9, 0, (10 ^ ((min n9 (tDay t - mo 0)).toNat - 1)), p9) ur) := by
    intro k9 h9 l9 p9 hm1z hdz hrow
    have hV := OV_in hT hm0.1 (n := (min n9 (tDay t - mo 0))) (by omega) ((min n9 (tDay t - mo 0)).toNat - 1) (by omega) (by omega)
    have hp := ten_in ((min n9 (tDay t - mo 0)).toNat - 1) (by omega)
    have hg := fun e r => otV_in hT (by omega) hV (day := mo 0) (by omega) e r
    have hg2 : ∀ e r, -1 ≤ otrn t h9 (mo 0) e r ∧ otrn t h9 (mo 0) e r ≤ 2000000000 := fun e r => by rw [otrn_V hrow]; have := hg e r; omega
    have h10 : (10 : Int) ^ ((min n9 (tDay t - mo 0)).toNat - 1) * 10 = 10 ^ (min n9 (tDay t - mo 0)).toNat := by rw [← Int.pow_succ]; congr 1; omega
    have eF : foldB (fun q => otrn t h9 (mo 0) (mo 2 + q) (mo 1 - 4 - q)) (-1) = foldB (fun q => otV t (OV t mo (min n9 (tDay t - mo 0)) ((min n9 (tDay t - mo 0)).toNat - 1)) (mo 0) (mo 2 + q) (mo 1 - 4 - q)) (-1) := foldB_cong (fun q => otrn_V hrow)
    have hf := foldB_in (g := fun q => otV t (OV t mo (min n9 (tDay t - mo 0)) ((min n9 (tDay t - mo 0)).toNat - 1)) (mo 0) (mo 2 + q) (mo 1 - 4 - q)) (b0 := -1) (M := 10 * 10 ^ ((min n9 (tDay t - mo 0)).toNat - 1)) (by omega) (fun p => (hg _ _).2.1) 6
    have hz := foldB_ge (g := fun q => otV t (OV t mo (min n9 (tDay t - mo 0)) ((min n9 (tDay t - mo 0)).toNat - 1)) (mo 0) (mo 2 + q) (mo 1 - 4 - q)) (b0 := -1) 6 2 (by omega)
    have h0 := (hg (mo 2 + (((2 : Nat) : Int) - 2)) (mo 1 - 4 - (((2 : Nat) : Int) - 2))).2.2 (by omega)
    have hpc : ¬ (wghF t mo (min n9 (tDay t - mo 0))).2 = -9 := fun q => by have q2 := foldB_pc 6 q; omega
    have hob : obp p9 (wghF t mo (min n9 (tDay t - mo 0))) = (wghF t mo (min n9 (tDay t - mo 0))).2 := if_neg hpc
    refine rRun hG 99999 ?_
    refine rVV hG (sp_X1_swapRows (uo := uo) (ux := ux) (ua := ua) (ub := ub) (v0 := (mo, kn, kp)) (v1 := v1) (v2 := v2) (up := up) (ur := ur) (kO := k9) (hr := h9) (lt := l9) (un := 0) (lw := (10 ^ ((min n9 (tDay t - mo 0)).toNat - 1))) (pa := p9)) rfl rfl lk_X1_48 mf_X1_swapRows (by decide) (Nat.le_of_ble_eq_true rfl) ⟨_, _, _, rfl, rfl, rfl⟩ ?_
    rintro _ rfl
    refine rRun hG 99999 ?_
    refine And.intro rfl (And.intro ⟨rfl, by exact Nat.le_of_ble_eq_true rfl, by first | exact True.intro | exact Or.inl rfl | exact Or.inr rfl⟩ (?_))
    refine rV hG (sp_X3_day (uo := uo) (ux := ux) (ua := ua) (ub := ub) (mo := mo) (kn := kn) (kp := kp) (v1 := v1) (v2 := v2) (up := up) (uq := ((!k9), l9, h9, 0, (10 ^ ((min n9 (tDay t - mo 0)).toNat - 1) * 10), p9)) (ur := ur)) rfl rfl lk_X1_51 mf_X3_day (by decide) (Nat.le_of_ble_eq_true rfl) ⟨_, _, _, rfl, rfl, rfl⟩ ?_
    rintro _ _ ⟨rfl, rfl⟩
    refine rRun hG 99999 ?_
    refine rV hG (sp_X3_error (uo := uo) (ux := ux) (ua := ua) (ub := ub) (mo := mo) (kn := kn) (kp := kp) (v1 := v1) (v2 := v2) (up := up) (uq := ((!k9), l9, h9, 0, (10 ^ ((min n9 (tDay t - mo 0)).toNat - 1) * 10), p9)) (ur := ur)) rfl rfl lk_X1_55 mf_X3_error (by decide) (Nat.le_of_ble_eq_true rfl) ⟨_, _, _, rfl, rfl, rfl⟩ ?_
    rintro _ _ ⟨rfl, rfl⟩
    refine rRun hG 99999 ?_
    refine rV hG (sp_X3_rest (uo := uo) (ux := ux) (ua := ua) (ub := ub) (mo := mo) (kn := kn) (kp := kp) (v1 := v1) (v2 := v2) (up := up) (uq := ((!k9), l9, h9, 0, (10 ^ ((min n9 (tDay t - mo 0)).toNat - 1) * 10), p9)) (ur := ur)) rfl rfl lk_X1_58 mf_X3_rest (by decide) (Nat.le_of_ble_eq_true rfl) ⟨_, _, _, rfl, rfl, rfl⟩ ?_
    rintro _ _ ⟨rfl, rfl⟩
    refine rV hG (sp_X1_best (uo := uo) (ux := ux) (ua := ua) (ub := ub) (v0 := (mo, kn, kp)) (v1 := v1) (v2 := v2) (up := up) (ur := ur) (kO := (!k9)) (hr := l9) (lt := h9) (un := 0) (lw := (10 ^ ((min n9 (tDay t - mo 0)).toNat - 1) * 10)) (pa := p9) (k := k) (t := t) ht (day := mo 0) (e := mo 2) (w := mo 1) hT (by omega) (by omega) (by omega) hg2) rfl rfl lk_X1_61 mf_X1_best (by decide) (Nat.le_of_ble_eq_true rfl) ⟨_, _, _, rfl, rfl, rfl⟩ ?_
    rintro _ _ ⟨rfl, rfl⟩
    refine rRun hG 99999 ?_
    refine And.intro ⟨rfl, by exact Nat.le_of_ble_eq_true rfl, by first | exact True.intro | exact Or.inl rfl | exact Or.inr rfl⟩ (?_)
    rw [eF]
    refine rVV hG (sp_X1_reduce (uo := uo) (ux := ux) (ua := ua) (ub := ub) (v0 := (mo, kn, kp)) (v1 := v1) (v2 := v2) (up := up) (ur := ur) (kO := (!k9)) (hr := l9) (lt := h9) (un := (wghF t mo (min n9 (tDay t - mo 0))).1) (lw := (10 ^ ((min n9 (tDay t - mo 0)).toNat - 1) * 10)) (pa := (obp p9 (wghF t mo (min n9 (tDay t - mo 0))))) ⟨⟨by show 0 ≤ (wghF t mo (min n9 (tDay t - mo 0))).1; unfold wghF; omega, by show (wghF t mo (min n9 (tDay t - mo 0))).1 ≤ 2000000000; unfold wghF; omega⟩, (by show 1 ≤ 10 ^ ((min n9 (tDay t - mo 0)).toNat - 1) * 10; omega), (by show 10 ^ ((min n9 (tDay t - mo 0)).toNat - 1) * 10 ≤ 2000000000; omega)⟩) rfl rfl lk_X1_65 mf_X1_reduce (by decide) (Nat.le_of_ble_eq_true rfl) ⟨_, _, _, rfl, rfl, rfl⟩ ?_
    rintro _ rfl
    refine rVR hG rfl rfl rfl ?_
    rw [hob, h10]
    have e1 : wghR t mo (min n9 (tDay t - mo 0)) = redN 8 ((wghF t mo (min n9 (tDay t - mo 0))).1, 10 ^ (min n9 (tDay t - mo 0)).toNat) := by unfold wghR; rw [if_neg hm1z, if_neg (by omega)]
    have e2 : wghP t mo (min n9 (tDay t - mo 0)) = (wghF t mo (min n9 (tDay t - mo 0))).2 := if_neg (by omega)
    rw [e1, e2]
    exact ⟨!k9, l9, h9, rfl⟩
  have J61 : ¬ mo 1 = 0 → ∀ (n j : Nat) (k9 : Bool) (h9 l9 : FN) (p9 : Int), orowIs h9 (OV t mo (min n9 (tDay t - mo 0)) j) 950 → j + 1 ≤ (min n9 (tDay t - mo 0)).toNat → (min n9 (tDay t - mo 0)).toNat - 1 - j < n → G 61 [some (mr 20), some (mr (tix k)), some (mr 11), some (mi n9), some (mi (min n9 (tDay t - mo 0))), some (mi (((j : Nat) : Int) + 1))] [] (hC uo ux ua ub (mo, kn, kp) v1 v2 up (k9, h9, l9, 0, (10 ^ j), p9) ur) := by
    intro hm1z n
    induction n with
    | zero => intro j k9 h9 l9 p9 _ _ hm; exact absurd hm (Nat.not_lt_zero _)
    | succ n ih =>
      intro j k9 h9 l9 p9 hrow hj hm
      have hV := OV_in hT hm0.1 (n := (min n9 (tDay t - mo 0))) (by omega) j (by omega) (by omega)
      have hp := ten_in j (by omega)
      refine rRun hG 106 ?_
      refine And.intro (by first | omega | (dsimp only; omega)) (And.intro (fun cl => ?_) (fun cl => ?_))
      · try dsimp only at cl
        obtain rfl : j = (min n9 (tDay t - mo 0)).toNat - 1 := by omega
        refine rLess hG ?_ (J106 k9 h9 l9 p9 hm1z (by omega) hrow)
        exact ⟨rfl, rfl, rfl, rfl, rfl, True.intro⟩
      · try dsimp only at cl
        refine rVV hG (sp_X1_swapRows (uo := uo) (ux := ux) (ua := ua) (ub := ub) (v0 := (mo, kn, kp)) (v1 := v1) (v2 := v2) (up := up) (ur := ur) (kO := k9) (hr := h9) (lt := l9) (un := 0) (lw := (10 ^ j)) (pa := p9)) rfl rfl lk_X1_48 mf_X1_swapRows (by decide) (Nat.le_of_ble_eq_true rfl) ⟨_, _, _, rfl, rfl, rfl⟩ ?_
        rintro _ rfl
        refine rRun hG 106 ?_
        refine And.intro rfl (And.intro ⟨rfl, by exact Nat.le_of_ble_eq_true rfl, by first | exact True.intro | exact Or.inl rfl | exact Or.inr rfl⟩ (?_))
        refine rV hG (sp_X3_day (uo := uo) (ux := ux) (ua := ua) (ub := ub) (mo := mo) (kn := kn) (kp := kp) (v1 := v1) (v2 := v2) (up := up) (uq := ((!k9), l9, h9, 0, (10 ^ j * 10), p9)) (ur := ur)) rfl rfl lk_X1_51 mf_X3_day (by decide) (Nat.le_of_ble_eq_true rfl) ⟨_, _, _, rfl, rfl, rfl⟩ ?_
        rintro _ _ ⟨rfl, rfl⟩
        refine rRun hG 106 ?_
        have hg := fun e r => otV_in hT (by omega) hV (day := (mo 0 + (min n9 (tDay t - mo 0)) - ((j : Int) + 1))) (by omega) e r
        have hg2 : ∀ e r, -1 ≤ otrn t h9 (mo 0 + (min n9 (tDay t - mo 0)) - ((j : Int) + 1)) e r ∧ otrn t h9 (mo 0 + (min n9 (tDay t - mo 0)) - ((j : Int) + 1)) e r ≤ 2000000000 := fun e r => by rw [otrn_V hrow]; have := hg e r; omega
        refine rVV hG (sp_X1_fillRow (uo := uo) (ux := ux) (ua := ua) (ub := ub) (v0 := (mo, kn, kp)) (v1 := v1) (v2 := v2) (up := up) (ur := ur) (kO := (!k9)) (hr := l9) (lt := h9) (un := 0) (lw := (10 ^ j * 10)) (pa := p9) (k := k) (t := t) ht (day := (mo 0 + (min n9 (tDay t - mo 0)) - ((j : Int) + 1))) (left := (j : Int) + 1) hT (by omega) (by omega) (fun _ => hg2)) rfl rfl lk_X1_44 mf_X1_fillRow (by decide) (Nat.le_of_ble_eq_true rfl) ⟨_, _, _, rfl, rfl, rfl⟩ ?_
        rintro _ ⟨h8, p8, hr8, rfl⟩
        have hr7 : orowIs h8 (OV t mo (min n9 (tDay t - mo 0)) (j + 1)) 950 := by
          intro a ha
          rw [hr8 a ha]
          show (if _ then _ else _) = (if _ then _ else _)
          rw [show foldB (fun q => otrn t h9 (mo 0 + (min n9 (tDay t - mo 0)) - ((j : Int) + 1)) ((((a / 50 : Nat) : Int) - 9) + q) (((a % 50 : Nat) : Int) - 4 - q)) (-1) = _ from foldB_cong (fun q => otrn_V hrow)]
          rw [show (10 : Int) ^ j * 10 = 10 ^ (j + 1) from (Int.pow_succ _ _).symm]
        refine rRun hG 106 ?_
        rw [show (10 : Int) ^ j * 10 = 10 ^ (j + 1) from (Int.pow_succ _ _).symm]
        refine rLess hG ?_ (ih (j + 1) (!k9) h8 h9 p8 hr7 (by omega) (by omega))
        exact ⟨rfl, rfl, rfl, rfl, rfl, congrArg mi (by omega), True.intro⟩
  have J30 : G 30 [some (mr 20), some (mr (tix k)), some (mr 11), some (mi n9), some (mi (min n9 (tDay t - mo 0))), none] [mi (b2i (mo 1 = 0)), mr 20] (hC uo ux ua ub (mo, kn, kp) v1 v2 up (kO, hr, lt, un, lw, -9) ur) := by
    refine rRun hG 61 ?_
    refine And.intro ⟨rfl, by exact Nat.le_of_ble_eq_true rfl, by first | exact True.intro | exact Or.inl rfl | exact Or.inr rfl⟩ (And.intro ⟨rfl, by exact Nat.le_of_ble_eq_true rfl, by first | exact True.intro | exact Or.inl rfl | exact Or.inr rfl⟩ (?_))
    refine rV hG (sp_X3_isFree (uo := uo) (ux := ux) (ua := ua) (ub := ub) (mo := mo) (kn := kn) (kp := kp) (v1 := v1) (v2 := v2) (up := up) (uq := (kO, hr, lt, (b2i (mo 1 = 0)), 1, -9)) (ur := ur) (by omega)) rfl rfl lk_X1_40 mf_X3_isFree (by decide) (Nat.le_of_ble_eq_true rfl) ⟨_, _, _, rfl, rfl, rfl⟩ ?_
    rintro w _ ⟨hw, rfl⟩
    have w1 : (w = 1 ∧ (mo 1 = 0)) ∨ (w = 0 ∧ ¬ (mo 1 = 0)) := (by rw [hw]; by_cases q9 : (mo 1 = 0) <;> simp [q9])
    clear hw
    refine rRun hG 61 ?_
    refine And.intro (by first | omega | (dsimp only; omega)) (And.intro (fun cf => ?_) (fun cf => ?_))
    · try dsimp only at cf
      refine rVR hG rfl rfl rfl ?_
      by_cases q : mo 1 = 0
      · have e1 : wghR t mo (min n9 (tDay t - mo 0)) = (1, 1) := if_pos q
        have e2 : wghP t mo (min n9 (tDay t - mo 0)) = -9 := if_pos (Or.inl q)
        rw [e1, e2, show (b2i (mo 1 = 0)) = 1 from if_pos q]
        exact ⟨kO, hr, lt, rfl⟩
      · have e1 : wghR t mo (min n9 (tDay t - mo 0)) = (0, 1) := by unfold wghR; rw [if_neg q, if_pos (by omega)]
        have e2 : wghP t mo (min n9 (tDay t - mo 0)) = -9 := if_pos (by omega)
        rw [e1, e2, show (b2i (mo 1 = 0)) = 0 from if_neg q]
        exact ⟨kO, hr, lt, rfl⟩
    · try dsimp only at cf
      refine And.intro (by first | omega | (dsimp only; omega)) (And.intro (fun cd => ?_) (fun cd => ?_))
      · try dsimp only at cd
        refine rRun hG 61 ?_
        rw [show (b2i (mo 1 = 0)) = 0 from if_neg (by omega)]
        refine rVV hG (sp_X1_fillRow (uo := uo) (ux := ux) (ua := ua) (ub := ub) (v0 := (mo, kn, kp)) (v1 := v1) (v2 := v2) (up := up) (ur := ur) (kO := kO) (hr := hr) (lt := lt) (un := 0) (lw := 1) (pa := -9) (k := k) (t := t) ht (day := 0) (left := 0) hT (by omega) (by omega) (fun q => absurd q (by decide))) rfl rfl lk_X1_44 mf_X1_fillRow (by decide) (Nat.le_of_ble_eq_true rfl) ⟨_, _, _, rfl, rfl, rfl⟩ ?_
        rintro _ ⟨h8, p8, hr8, rfl⟩
        have hr7 : orowIs h8 (OV t mo (min n9 (tDay t - mo 0)) 0) 950 := by
          intro a ha
          rw [hr8 a ha]
          show (if ((a % 50 : Nat) : Int) = 0 then 1 else if ((a % 50 : Nat) : Int) ≤ 7 * 0 then _ else 0) = (if ((a % 50 : Nat) : Int) = 0 then 1 else 0)
          by_cases q : ((a % 50 : Nat) : Int) = 0
          · rw [if_pos q, if_pos q]
          · rw [if_neg q, if_neg q, if_neg (by omega)]
        refine rRun hG 61 ?_
        refine rLess hG (L' := [some (mr 20), some (mr (tix k)), some (mr 11), some (mi n9), some (mi (min n9 (tDay t - mo 0))), some (mi (((0 : Nat) : Int) + 1))]) ⟨rfl, rfl, rfl, rfl, rfl, rfl, True.intro⟩ (J61 (by omega) _ 0 kO h8 lt p8 hr7 (by omega) (Nat.lt_succ_self _))
      · try dsimp only at cd
        refine rVR hG rfl rfl rfl ?_
        by_cases q : mo 1 = 0
        · have e1 : wghR t mo (min n9 (tDay t - mo 0)) = (1, 1) := if_pos q
          have e2 : wghP t mo (min n9 (tDay t - mo 0)) = -9 := if_pos (Or.inl q)
          rw [e1, e2, show (b2i (mo 1 = 0)) = 1 from if_pos q]
          exact ⟨kO, hr, lt, rfl⟩
        · have e1 : wghR t mo (min n9 (tDay t - mo 0)) = (0, 1) := by unfold wghR; rw [if_neg q, if_pos (by omega)]
          have e2 : wghP t mo (min n9 (tDay t - mo 0)) = -9 := if_pos (by omega)
          rw [e1, e2, show (b2i (mo 1 = 0)) = 0 from if_neg q]
          exact ⟨kO, hr, lt, rfl⟩
  refine rRun hG 30 ?_
  refine rV hG (sp_X3_daysLeft (uo := uo) (ux := ux) (ua := ua) (ub := ub) (mo := mo) (kn := kn) (kp := kp) (v1 := v1) (v2 := v2) (up := up) (uq := (kO, hr, lt, un, lw, pa)) (ur := ur) (k := k) (t := t) ht) rfl rfl lk_X1_28 mf_X3_daysLeft (by decide) (Nat.le_of_ble_eq_true rfl) ⟨_, _, _, rfl, rfl, rfl⟩ ?_
  rintro _ _ ⟨rfl, rfl⟩
  refine rMin hG rfl rfl lk_X1_34 (by decide) (Nat.le_of_ble_eq_true rfl) (by first | omega | (dsimp only; omega)) ?_
  refine rRun hG 30 ?_
  refine And.intro ⟨rfl, by exact Nat.le_of_ble_eq_true rfl, by first | exact True.intro | exact Or.inl rfl | exact Or.inr rfl⟩ (?_)
  refine rV hG (sp_X3_isFree (uo := uo) (ux := ux) (ua := ua) (ub := ub) (mo := mo) (kn := kn) (kp := kp) (v1 := v1) (v2 := v2) (up := up) (uq := (kO, hr, lt, un, lw, -9)) (ur := ur) (by omega)) rfl rfl lk_X1_40 mf_X3_isFree (by decide) (Nat.le_of_ble_eq_true rfl) ⟨_, _, _, rfl, rfl, rfl⟩ ?_
  rintro w _ ⟨hw, rfl⟩
  have w1 : (w = 1 ∧ (mo 1 = 0)) ∨ (w = 0 ∧ ¬ (mo 1 = 0)) := (by rw [hw]; by_cases q9 : (mo 1 = 0) <;> simp [q9])
  clear hw
  refine rRun hG 30 ?_
  refine And.intro (by first | omega | (dsimp only; omega)) (And.intro (fun cf => ?_) (fun cf => ?_))
  · try dsimp only at cf
    refine rRun hG 30 ?_
    first | (rw [show (b2i (mo 1 = 0)) = 1 from if_pos (by omega)] at J30; exact J30) | (rw [show (b2i (mo 1 = 0)) = 0 from if_neg (by omega)] at J30; exact J30)
  · try dsimp only at cf
    first | (rw [show (b2i (mo 1 = 0)) = 1 from if_pos (by omega)] at J30; exact J30) | (rw [show (b2i (mo 1 = 0)) = 0 from if_neg (by omega)] at J30; exact J30)
end WALKS
end
section
/-! Hearsay -/
section WALKS
variable {l : Launch}
/-- a set of errors: the places below n that are so, as bits -/
def bs (P : Nat → Bool) : Nat → Nat
  | 0 => 0
  | n + 1 => bs P n ||| (if P n = true then 2 ^ n else 0)
theorem bs_bit {P : Nat → Bool} : ∀ {n i : Nat}, (bs P n).testBit i = (decide (i < n) && P i)
  | 0, i => by simp [bs]
  | n + 1, i => by
    show (bs P n ||| (if P n = true then 2 ^ n else 0)).testBit i = _
    rw [Nat.testBit_or, bs_bit]
    by_cases hi : i = n
    · subst hi
      by_cases h : P i = true
      · simp [h, Nat.testBit_two_pow_self]
      · simp [h]
    · have e : (if P n = true then 2 ^ n else 0).testBit i = false := by
        split
        · rw [Nat.testBit_two_pow]; simp; omega
        · exact Nat.zero_testBit i
      rw [e, Bool.or_false]
      by_cases h1 : i < n
      · simp [h1, show i < n + 1 by omega]
      · simp [h1, show ¬ i < n + 1 by omega]
theorem bs_lt {P : Nat → Bool} : ∀ n, bs P n < 2 ^ n
  | 0 => Nat.one_pos
  | n + 1 => by
    have ih := bs_lt (P := P) n
    refine Nat.or_lt_two_pow (Nat.lt_of_lt_of_le ih (Nat.pow_le_pow_right (by decide) (by omega))) ?_
    split
    · exact Nat.pow_lt_pow_right (by decide) (by omega)
    · exact Nat.two_pow_pos _
def st19 (P : Nat → Bool) : Int := ((bs P 19 : Nat) : Int)
theorem st19_in {P : Nat → Bool} : 0 ≤ st19 P ∧ st19 P < 524288 := by
  have := bs_lt (P := P) 19
  unfold st19; omega
theorem bs_ext {P Q : Nat → Bool} {n : Nat} (h : ∀ i, i < n → P i = Q i) : bs P n = bs Q n := by
  apply Nat.eq_of_testBit_eq
  intro i
  rw [bs_bit, bs_bit]
  by_cases q : i < n
  · rw [h i q]
  · simp [q]
theorem nat_st {s : Nat} {P : Nat → Bool} (h : ∀ i, s.testBit i = (decide (i < 19) && P i)) : ((s : Nat) : Int) = st19 P := by
  unfold st19
  congr 1
  apply Nat.eq_of_testBit_eq
  intro i
  rw [h i, bs_bit]
theorem st_and {P Q : Nat → Bool} : zand (st19 P) (st19 Q) = st19 (fun i => P i && Q i) := by
  show (((bs P 19 &&& bs Q 19 : Nat)) : Int) = _
  apply nat_st
  intro i
  rw [Nat.testBit_and, bs_bit, bs_bit]
  cases decide (i < 19) <;> simp
def onP (P : Nat → Bool) (i : Nat) : Bool := P i || (decide (1 ≤ i) && P (i - 1)) || (decide (2 ≤ i) && P (i - 2)) || (decide (3 ≤ i) && P (i - 3)) || (decide (i + 1 < 19) && P (i + 1)) || (decide (i + 2 < 19) && P (i + 2))
def bkP (P : Nat → Bool) (i : Nat) : Bool := P i || (decide (1 ≤ i) && P (i - 1)) || (decide (2 ≤ i) && P (i - 2)) || (decide (i + 1 < 19) && P (i + 1)) || (decide (i + 2 < 19) && P (i + 2)) || (decide (i + 3 < 19) && P (i + 3))
theorem tb_mul {s k i : Nat} : (s * 2 ^ k).testBit i = (decide (k ≤ i) && s.testBit (i - k)) := by
  rw [← Nat.shiftLeft_eq, Nat.testBit_shiftLeft]
theorem tb_div {s k i : Nat} : (s / 2 ^ k).testBit i = s.testBit (k + i) := by
  rw [← Nat.shiftRight_eq_div_pow, Nat.testBit_shiftRight]
theorem tb_all {i : Nat} : (524287 : Nat).testBit i = decide (i < 19) := by
  rw [show (524287 : Nat) = 2 ^ 19 - 1 by decide, Nat.testBit_two_pow_sub_one]
def nOn (s : Nat) : Nat := (((s ||| ((s * 2 ^ 1 ||| s * 2 ^ 2) ||| s * 2 ^ 3)) ||| s / 2 ^ 1) ||| s / 2 ^ 2) &&& 524287
def nBk (s : Nat) : Nat := (((s ||| ((s / 2 ^ 1 ||| s / 2 ^ 2) ||| s / 2 ^ 3)) ||| s * 2 ^ 1) ||| s * 2 ^ 2) &&& 524287
theorem st_on {P : Nat → Bool} : ((nOn (bs P 19) : Nat) : Int) = st19 (onP P) := by
  apply nat_st
  intro i
  unfold nOn onP
  simp only [Nat.testBit_and, Nat.testBit_or, tb_mul, tb_div, tb_all, bs_bit]
  by_cases h : i < 19
  · rw [decide_eq_true h, decide_eq_true (show i - 1 < 19 by omega), decide_eq_true (show i - 2 < 19 by omega), decide_eq_true (show i - 3 < 19 by omega), Nat.add_comm 1 i, Nat.add_comm 2 i]
    simp only [Bool.true_and, Bool.and_true]
    ac_rfl
  · simp [h]
theorem st_bk {P : Nat → Bool} : ((nBk (bs P 19) : Nat) : Int) = st19 (bkP P) := by
  apply nat_st
  intro i
  unfold nBk bkP
  simp only [Nat.testBit_and, Nat.testBit_or, tb_mul, tb_div, tb_all, bs_bit]
  by_cases h : i < 19
  · rw [decide_eq_true h, decide_eq_true (show i - 1 < 19 by omega), decide_eq_true (show i - 2 < 19 by omega), Nat.add_comm 1 i, Nat.add_comm 2 i, Nat.add_comm 3 i]
    simp only [Bool.true_and, Bool.and_true]
    ac_rfl
  · simp [h]
theorem two_in : ∀ i : Nat, i < 19 → (1 : Int) * 2 ^ i ≤ 2147483647 := by decide
def wthP (lo hi : Int) (i : Nat) : Bool := decide (lo ≤ (i : Int) - 9 ∧ (i : Int) - 9 ≤ hi)
theorem bs_s {P : Nat → Bool} {n : Nat} : bs P (n + 1) = bs P n ||| (if P n = true then 2 ^ n else 0) := rfl
set_option maxRecDepth 20000 in
set_option maxHeartbeats 1000000 in
theorem sp_X0_within {hh : mH} {lo hi : Int} (h1 : inI lo) (h2 : inI hi) : SpI l 1 yX0_within cX0_within 4 (some .int) [mi lo, mi hi] (hh) (fun z h => z = st19 (wthP lo hi) ∧ h = hh) := by
  refine SpI.of (cd := kdX0_within) (fT := mlook flX0) (kT := mlook klX0) (kJ := mlook jlX0) mfA_X0_within ok_X0_within fT_X0 kT_X0 jT_X0 jdk_ok True.intro (Nat.le_of_ble_eq_true rfl) (fun G hG => ?_)
  refine rRun hG 5 ?_
  have J5 : ∀ (n : Nat) (i : Nat), i ≤ 19 → 19 - i < n → G 5 [some (mi lo), some (mi hi), some (mi ((bs (wthP lo hi) i : Nat) : Int)), some (mi ((i : Int) - 9))] [] (hh) := by
    intro n
    induction n with
    | zero => intro i _ hm; exact absurd hm (Nat.not_lt_zero _)
    | succ n ih =>
      intro i hinv hm
      refine rRun hG 99999 ?_
      refine And.intro (by first | omega | (dsimp only; omega)) (And.intro (fun c1 => ?_) (fun c1 => ?_))
      · try dsimp only at c1
        refine rRun hG 99999 ?_
        refine rIR hG rfl rfl (True.intro) ?_
        obtain rfl : i = 19 := by omega
        exact ⟨rfl, rfl⟩
      · try dsimp only at c1
        refine And.intro (by first | omega | (dsimp only; omega)) (And.intro (fun c2 => ?_) (fun c2 => ?_))
        · try dsimp only at c2
          refine rRun hG 99999 ?_
          have e9 := ih (i + 1) (by omega) (by omega)
          rw [bs_s] at e9
          first | (rw [if_pos (show wthP lo hi i = true from decide_eq_true (by omega))] at e9; refine rLess hG ?_ e9; exact ⟨rfl, rfl, congrArg mi (by rw [show ((i : Int) - 9 + 9).toNat = i by omega]; unfold zor; rw [Int.one_mul, Int.toNat_natCast, show ((2 : Int) ^ i).toNat = 2 ^ i from by rw [show ((2 : Int) ^ i) = ((2 ^ i : Nat) : Int) by simp]; rfl]), congrArg mi (by omega), True.intro⟩) | (rw [if_neg (show ¬ wthP lo hi i = true from fun q => by have := of_decide_eq_true q; omega), Nat.or_zero] at e9; refine rLess hG ?_ e9; exact ⟨rfl, rfl, rfl, congrArg mi (by omega), True.intro⟩)
        · try dsimp only at c2
          refine And.intro (by first | omega | (dsimp only; omega)) (And.intro (fun c3 => ?_) (fun c3 => ?_))
          · try dsimp only at c3
            refine rRun hG 99999 ?_
            have e9 := ih (i + 1) (by omega) (by omega)
            rw [bs_s] at e9
            first | (rw [if_pos (show wthP lo hi i = true from decide_eq_true (by omega))] at e9; refine rLess hG ?_ e9; exact ⟨rfl, rfl, congrArg mi (by rw [show ((i : Int) - 9 + 9).toNat = i by omega]; unfold zor; rw [Int.one_mul, Int.toNat_natCast, show ((2 : Int) ^ i).toNat = 2 ^ i from by rw [show ((2 : Int) ^ i) = ((2 ^ i : Nat) : Int) by simp]; rfl]), congrArg mi (by omega), True.intro⟩) | (rw [if_neg (show ¬ wthP lo hi i = true from fun q => by have := of_decide_eq_true q; omega), Nat.or_zero] at e9; refine rLess hG ?_ e9; exact ⟨rfl, rfl, rfl, congrArg mi (by omega), True.intro⟩)
          · try dsimp only at c3
            refine And.intro (by exact ⟨by omega, by omega, by rw [show ((i : Int) - 9 + 9).toNat = i by omega]; exact two_in i (by omega)⟩) (And.intro (by exact ⟨Int.natCast_nonneg _, Int.mul_nonneg (by decide) (Int.pow_nonneg (by decide))⟩) (?_))
            have e9 := ih (i + 1) (by omega) (by omega)
            rw [bs_s] at e9
            first | (rw [if_pos (show wthP lo hi i = true from decide_eq_true (by omega))] at e9; refine rLess hG ?_ e9; exact ⟨rfl, rfl, congrArg mi (by rw [show ((i : Int) - 9 + 9).toNat = i by omega]; unfold zor; rw [Int.one_mul, Int.toNat_natCast, show ((2 : Int) ^ i).toNat = 2 ^ i from by rw [show ((2 : Int) ^ i) = ((2 ^ i : Nat) : Int) by simp]; rfl]), congrArg mi (by omega), True.intro⟩) | (rw [if_neg (show ¬ wthP lo hi i = true from fun q => by have := of_decide_eq_true q; omega), Nat.or_zero] at e9; refine rLess hG ?_ e9; exact ⟨rfl, rfl, rfl, congrArg mi (by omega), True.intro⟩)
  exact rLess hG (L' := [some (mi lo), some (mi hi), some (mi ((bs (wthP lo hi) 0 : Nat) : Int)), some (mi (((0 : Nat) : Int) - 9))]) ⟨rfl, rfl, rfl, rfl, True.intro⟩ (J5 _ 0 (by omega) (Nat.lt_succ_self _))
theorem nn_n {a : Nat} : (0 : Int) ≤ (a : Int) := Int.natCast_nonneg a
theorem nn_m {a : Nat} {k : Int} : (0 : Int) ≤ (a : Int) * (2 : Int) ^ k.toNat := Int.mul_nonneg (Int.natCast_nonneg a) (Int.pow_nonneg (by decide))
theorem nn_d {a : Nat} {k : Int} : (0 : Int) ≤ (a : Int) / (2 : Int) ^ k.toNat := Int.ediv_nonneg (Int.natCast_nonneg a) (Int.pow_nonneg (by decide))
set_option maxRecDepth 20000 in
set_option maxHeartbeats 1000000 in
theorem sp_X0_aDayOn {hh : mH} {s : Nat} (h1 : s < 524288) : SpI l 1 yX0_aDayOn cX0_aDayOn 2 (some .int) [mi (s : Int)] (hh) (fun z h => z = ((nOn s : Nat) : Int) ∧ h = hh) := by
  refine SpI.of (cd := kdX0_aDayOn) (fT := mlook flX0) (kT := mlook klX0) (kJ := mlook jlX0) mfA_X0_aDayOn ok_X0_aDayOn fT_X0 kT_X0 jT_X0 jdk_ok True.intro (Nat.le_of_ble_eq_true rfl) (fun G hG => ?_)
  refine rRun hG 99999 ?_
  refine And.intro (by exact ⟨by omega, by decide, by (show (s : Int) * 2 ≤ 2147483647; omega)⟩) (And.intro (by exact ⟨by omega, by decide, by (show (s : Int) * 4 ≤ 2147483647; omega)⟩) (And.intro (by first | exact ⟨nn_n, nn_n⟩ | exact ⟨nn_m, nn_m⟩ | exact ⟨nn_n, nn_m⟩ | exact ⟨nn_d, nn_d⟩ | exact ⟨nn_n, nn_d⟩ | exact ⟨nn_n, by decide⟩) (And.intro (by exact ⟨by omega, by decide, by (show (s : Int) * 8 ≤ 2147483647; omega)⟩) (And.intro (by first | exact ⟨nn_n, nn_n⟩ | exact ⟨nn_m, nn_m⟩ | exact ⟨nn_n, nn_m⟩ | exact ⟨nn_d, nn_d⟩ | exact ⟨nn_n, nn_d⟩ | exact ⟨nn_n, by decide⟩) (And.intro (by first | exact ⟨nn_n, nn_n⟩ | exact ⟨nn_m, nn_m⟩ | exact ⟨nn_n, nn_m⟩ | exact ⟨nn_d, nn_d⟩ | exact ⟨nn_n, nn_d⟩ | exact ⟨nn_n, by decide⟩) (And.intro (by exact ⟨by omega, by decide⟩) (And.intro (by first | exact ⟨nn_n, nn_n⟩ | exact ⟨nn_m, nn_m⟩ | exact ⟨nn_n, nn_m⟩ | exact ⟨nn_d, nn_d⟩ | exact ⟨nn_n, nn_d⟩ | exact ⟨nn_n, by decide⟩) (And.intro (by exact ⟨by omega, by decide⟩) (And.intro (by first | exact ⟨nn_n, nn_n⟩ | exact ⟨nn_m, nn_m⟩ | exact ⟨nn_n, nn_m⟩ | exact ⟨nn_d, nn_d⟩ | exact ⟨nn_n, nn_d⟩ | exact ⟨nn_n, by decide⟩) (And.intro (by first | exact ⟨nn_n, nn_n⟩ | exact ⟨nn_m, nn_m⟩ | exact ⟨nn_n, nn_m⟩ | exact ⟨nn_d, nn_d⟩ | exact ⟨nn_n, nn_d⟩ | exact ⟨nn_n, by decide⟩) (?_)))))))))))
  refine rIR hG rfl rfl (True.intro) ?_
  exact ⟨rfl, rfl⟩
set_option maxRecDepth 20000 in
set_option maxHeartbeats 1000000 in
theorem sp_X0_aDayBack {hh : mH} {s : Nat} (h1 : s < 524288) : SpI l 1 yX0_aDayBack cX0_aDayBack 2 (some .int) [mi (s : Int)] (hh) (fun z h => z = ((nBk s : Nat) : Int) ∧ h = hh) := by
  refine SpI.of (cd := kdX0_aDayBack) (fT := mlook flX0) (kT := mlook klX0) (kJ := mlook jlX0) mfA_X0_aDayBack ok_X0_aDayBack fT_X0 kT_X0 jT_X0 jdk_ok True.intro (Nat.le_of_ble_eq_true rfl) (fun G hG => ?_)
  refine rRun hG 99999 ?_
  refine And.intro (by exact ⟨by omega, by decide⟩) (And.intro (by exact ⟨by omega, by decide⟩) (And.intro (by first | exact ⟨nn_n, nn_n⟩ | exact ⟨nn_m, nn_m⟩ | exact ⟨nn_n, nn_m⟩ | exact ⟨nn_d, nn_d⟩ | exact ⟨nn_n, nn_d⟩ | exact ⟨nn_n, by decide⟩) (And.intro (by exact ⟨by omega, by decide⟩) (And.intro (by first | exact ⟨nn_n, nn_n⟩ | exact ⟨nn_m, nn_m⟩ | exact ⟨nn_n, nn_m⟩ | exact ⟨nn_d, nn_d⟩ | exact ⟨nn_n, nn_d⟩ | exact ⟨nn_n, by decide⟩) (And.intro (by first | exact ⟨nn_n, nn_n⟩ | exact ⟨nn_m, nn_m⟩ | exact ⟨nn_n, nn_m⟩ | exact ⟨nn_d, nn_d⟩ | exact ⟨nn_n, nn_d⟩ | exact ⟨nn_n, by decide⟩) (And.intro (by exact ⟨by omega, by decide, by (show (s : Int) * 2 ≤ 2147483647; omega)⟩) (And.intro (by first | exact ⟨nn_n, nn_n⟩ | exact ⟨nn_m, nn_m⟩ | exact ⟨nn_n, nn_m⟩ | exact ⟨nn_d, nn_d⟩ | exact ⟨nn_n, nn_d⟩ | exact ⟨nn_n, by decide⟩) (And.intro (by exact ⟨by omega, by decide, by (show (s : Int) * 4 ≤ 2147483647; omega)⟩) (And.intro (by first | exact ⟨nn_n, nn_n⟩ | exact ⟨nn_m, nn_m⟩ | exact ⟨nn_n, nn_m⟩ | exact ⟨nn_d, nn_d⟩ | exact ⟨nn_n, nn_d⟩ | exact ⟨nn_n, by decide⟩) (And.intro (by first | exact ⟨nn_n, nn_n⟩ | exact ⟨nn_m, nn_m⟩ | exact ⟨nn_n, nn_m⟩ | exact ⟨nn_d, nn_d⟩ | exact ⟨nn_n, nn_d⟩ | exact ⟨nn_n, by decide⟩) (?_)))))))))))
  refine rIR hG rfl rfl (True.intro) ?_
  exact ⟨rfl, rfl⟩
end WALKS
end
section
/-! Hearsay: what is heard, what it can have been, how many ways -/
section WALKS
variable {l : Launch}
def alIs (al : FN) (A : Nat → Nat → Bool) : Prop := ∀ d, d < 14 → al d = st19 (A d)
theorem alIs_in {al : FN} {A : Nat → Nat → Bool} (h : alIs al A) {d : Nat} (hd : d < 14) : 0 ≤ al d ∧ al d < 524288 := by
  rw [h d hd]; exact st19_in
def albF (al : FN) (d : Int) : Int := if 0 ≤ d ∧ d < 14 then al d.toNat else 0
def hlat (f : FN) (e : Int) : Int := if 0 ≤ e + 9 ∧ e + 9 < 19 then f (e + 9).toNat else 0
def drpA (al : FN) : Nat → FN
  | 0 => al
  | i + 1 => mup (drpA al i) i 524287
theorem drpA_in {al : FN} : ∀ {i j : Nat}, j < i → drpA al i j = 524287
  | i + 1, j, h => by
    show mup (drpA al i) i 524287 j = 524287
    by_cases q : j = i
    · subst q; exact mup_s
    · rw [mup_n q]; exact drpA_in (by omega)
theorem st_all : st19 (fun _ => true) = 524287 := by decide +kernel
theorem st_512 : st19 (fun i => i == 9) = 512 := by decide +kernel
set_option maxRecDepth 20000 in
set_option maxHeartbeats 1000000 in
theorem sp_X0_allowedBehind {uo : UD} {ux : XD} {ua ub : TD} {v0 v1 v2 : SD} {up uq : PD} {kH : Bool} {al hr lt : FN} {hd : Int} {d : Int} (h1 : inI d) : SpI l 1 yX0_allowedBehind cX0_allowedBehind 2 (some .int) [mr 23, mi d] (hC uo ux ua ub v0 v1 v2 up uq (kH, al, hr, lt, hd)) (fun z h => z = albF al d ∧ h = hC uo ux ua ub v0 v1 v2 up uq (kH, al, hr, lt, hd)) := by
  refine SpI.of (cd := kdX0_allowedBehind) (fT := mlook flX0) (kT := mlook klX0) (kJ := mlook jlX0) mfA_X0_allowedBehind ok_X0_allowedBehind fT_X0 kT_X0 jT_X0 jdk_ok True.intro (Nat.le_of_ble_eq_true rfl) (fun G hG => ?_)
  refine rRun hG 99999 ?_
  refine And.intro (by first | omega | (dsimp only; omega)) (And.intro (fun c1 => ?_) (fun c1 => ?_))
  · try dsimp only at c1
    refine rRun hG 99999 ?_
    refine rIR hG rfl rfl (True.intro) ?_
    refine ⟨?_, rfl⟩
    unfold albF
    first | (rw [if_pos (by omega)]; done) | (rw [if_neg (by omega)]; done) | (rw [if_pos (by omega)]; rfl)
  · try dsimp only at c1
    refine And.intro rfl (And.intro (by decide) (And.intro (by first | omega | (dsimp only; omega)) (And.intro (fun c2 => ?_) (fun c2 => ?_))))
    · try dsimp only at c2
      refine rRun hG 99999 ?_
      refine rIR hG rfl rfl (True.intro) ?_
      refine ⟨?_, rfl⟩
      unfold albF
      first | (rw [if_pos (by omega)]; done) | (rw [if_neg (by omega)]; done) | (rw [if_pos (by omega)]; rfl)
    · try dsimp only at c2
      refine And.intro rfl (And.intro (by first | omega | (dsimp only; omega)) (?_))
      refine rIR hG rfl rfl (True.intro) ?_
      refine ⟨?_, rfl⟩
      unfold albF
      first | (rw [if_pos (by omega)]; done) | (rw [if_neg (by omega)]; done) | (rw [if_pos (by omega)]; rfl)
set_option maxRecDepth 20000 in
set_option maxHeartbeats 1000000 in
theorem sp_X0_drop {uo : UD} {ux : XD} {ua ub : TD} {v0 v1 v2 : SD} {up uq : PD} {kH : Bool} {al hr lt : FN} {hd : Int}   : SpV l 1 yX0_drop cX0_drop 2 none [mr 23] (hC uo ux ua ub v0 v1 v2 up uq (kH, al, hr, lt, hd)) (fun h => h = hC uo ux ua ub v0 v1 v2 up uq (kH, drpA al 14, hr, lt, 0)) := by
  refine SpV.of (cd := kdX0_drop) (fT := mlook flX0) (kT := mlook klX0) (kJ := mlook jlX0) mfA_X0_drop ok_X0_drop fT_X0 kT_X0 jT_X0 jdk_ok True.intro (Nat.le_of_ble_eq_true rfl) (fun G hG => ?_)
  refine rRun hG 7 ?_
  refine And.intro ⟨rfl, by exact Nat.le_of_ble_eq_true rfl, by first | exact True.intro | exact Or.inl rfl | exact Or.inr rfl⟩ (?_)
  have J7 : ∀ (n : Nat) (i : Nat), i ≤ 14 → 14 - i < n → G 7 [some (mr 23), some (mi (i : Int))] [] (hC uo ux ua ub v0 v1 v2 up uq (kH, drpA al i, hr, lt, 0)) := by
    intro n
    induction n with
    | zero => intro i _ hm; exact absurd hm (Nat.not_lt_zero _)
    | succ n ih =>
      intro i hinv hm
      refine rRun hG 99999 ?_
      refine And.intro rfl (And.intro (by decide) (And.intro (by first | omega | (dsimp only; omega)) (And.intro (fun c1 => ?_) (fun c1 => ?_))))
      · try dsimp only at c1
        refine rVR hG rfl rfl rfl ?_
        obtain rfl : i = 14 := by omega
        rfl
      · try dsimp only at c1
        refine And.intro rfl (And.intro (by first | omega | (dsimp only; omega)) (?_))
        exact ih (i + 1) (by omega) (by omega)
  exact J7 _ 0 (by omega) (Nat.lt_succ_self _)
set_option maxRecDepth 20000 in
set_option maxHeartbeats 1000000 in
theorem sp_X0_add {uo : UD} {ux : XD} {ua ub : TD} {v0 v1 v2 : SD} {up uq : PD} {kH : Bool} {al hr lt : FN} {hd : Int} {d : Nat} {e w : Int} (h1 : d < 14) (h2 : inI hd) (h3 : -100 ≤ e ∧ e ≤ 100) (h4 : 0 ≤ w ∧ w ≤ 100) (h5 : 0 ≤ al d) : SpI l 2 yX0_add cX0_add 4 (some .boolean) [mr 23, mi (d : Int), mi e, mi w] (hC uo ux ua ub v0 v1 v2 up uq (kH, al, hr, lt, hd)) (fun z h => (z = 0 ∧ 6 ≤ hd ∧ h = hC uo ux ua ub v0 v1 v2 up uq (kH, al, hr, lt, hd)) ∨ (z = 1 ∧ hd < 6 ∧ h = hC uo ux ua ub v0 v1 v2 up uq (kH, mup al d (zand (al d) (st19 (wthP (e - w) (e + w)))), hr, lt, hd + 1))) := by
  refine SpI.of (cd := kdX0_add) (fT := mlook flX0) (kT := mlook klX0) (kJ := mlook jlX0) mfA_X0_add ok_X0_add fT_X0 kT_X0 jT_X0 jdk_ok True.intro (Nat.le_of_ble_eq_true rfl) (fun G hG => ?_)
  refine rRun hG 99999 ?_
  refine And.intro rfl (And.intro (by first | omega | (dsimp only; omega)) (And.intro (fun c1 => ?_) (fun c1 => ?_)))
  · try dsimp only at c1
    refine rRun hG 99999 ?_
    refine rIR hG rfl rfl (by first | exact Or.inl rfl | exact Or.inr rfl | (show _ ∨ _; omega)) ?_
    exact Or.inl ⟨rfl, by omega, rfl⟩
  · try dsimp only at c1
    refine And.intro (by first | omega | (dsimp only; omega)) (And.intro (fun c2 => ?_) (fun c2 => ?_))
    · try dsimp only at c2
      refine rRun hG 99999 ?_
      refine rIR hG rfl rfl (by first | exact Or.inl rfl | exact Or.inr rfl | (show _ ∨ _; omega)) ?_
      exact Or.inl ⟨rfl, by omega, rfl⟩
    · try dsimp only at c2
      refine And.intro rfl (And.intro (by decide) (And.intro (by first | omega | (dsimp only; omega)) (And.intro (fun c3 => ?_) (fun c3 => ?_))))
      · try dsimp only at c3
        refine rRun hG 99999 ?_
        refine And.intro rfl (And.intro (by first | omega | (dsimp only; omega)) (?_))
        refine rS hG (sp_X0_within (lo := e - w) (hi := e + w) (by omega) (by omega)) rfl rfl lk_X0_29 mf_X0_within (by decide) (Nat.le_of_ble_eq_true rfl) ?_
        rintro _ _ ⟨rfl, rfl⟩
        refine rRun hG 99999 ?_
        refine And.intro (by exact ⟨h5, st19_in.1⟩) (And.intro (by first | omega | (dsimp only; omega)) (And.intro rfl (And.intro ⟨rfl, by exact Nat.le_of_ble_eq_true rfl, by first | exact True.intro | exact Or.inl rfl | exact Or.inr rfl⟩ (?_))))
        refine rIR hG rfl rfl (by first | exact Or.inl rfl | exact Or.inr rfl | (show _ ∨ _; omega)) ?_
        exact Or.inr ⟨rfl, by omega, rfl⟩
      · try dsimp only at c3
        refine rIR hG rfl rfl (by first | exact Or.inl rfl | exact Or.inr rfl | (show _ ∨ _; omega)) ?_
        exact Or.inl ⟨rfl, by omega, rfl⟩
set_option maxRecDepth 20000 in
set_option maxHeartbeats 1000000 in
theorem sp_X0_laterAt {uo : UD} {ux : XD} {ua ub : TD} {v0 v1 v2 : SD} {up uq : PD} {kH : Bool} {al hr lt : FN} {hd : Int} {e : Int} (h1 : -1000 ≤ e ∧ e ≤ 1000) : SpI l 1 yX0_laterAt cX0_laterAt 3 (some .int) [mr 23, mi e] (hC uo ux ua ub v0 v1 v2 up uq (kH, al, hr, lt, hd)) (fun z h => z = hlat lt e ∧ h = hC uo ux ua ub v0 v1 v2 up uq (kH, al, hr, lt, hd)) := by
  cases kH
  · skip
    refine SpI.of (cd := kdX0_laterAt) (fT := mlook flX0) (kT := mlook klX0) (kJ := mlook jlX0) mfA_X0_laterAt ok_X0_laterAt fT_X0 kT_X0 jT_X0 jdk_ok True.intro (Nat.le_of_ble_eq_true rfl) (fun G hG => ?_)
    refine rRun hG 99999 ?_
    refine And.intro (by first | omega | (dsimp only; omega)) (And.intro (fun c1 => ?_) (fun c1 => ?_))
    · try dsimp only at c1
      refine rRun hG 99999 ?_
      refine rIR hG rfl rfl (True.intro) ?_
      refine ⟨?_, rfl⟩
      unfold hlat
      first | (rw [if_pos (by omega)]; done) | (rw [if_pos (by omega)]; rfl) | (rw [if_neg (by omega)])
    · try dsimp only at c1
      refine And.intro rfl (And.intro (by decide) (And.intro (by first | omega | (dsimp only; omega)) (And.intro (fun c2 => ?_) (fun c2 => ?_))))
      · try dsimp only at c2
        refine rRun hG 99999 ?_
        refine rIR hG rfl rfl (True.intro) ?_
        refine ⟨?_, rfl⟩
        unfold hlat
        first | (rw [if_pos (by omega)]; done) | (rw [if_pos (by omega)]; rfl) | (rw [if_neg (by omega)])
      · try dsimp only at c2
        refine And.intro rfl (And.intro (by first | omega | (dsimp only; omega)) (?_))
        refine rIR hG rfl rfl (True.intro) ?_
        refine ⟨?_, rfl⟩
        unfold hlat
        first | (rw [if_pos (by omega)]; done) | (rw [if_pos (by omega)]; rfl) | (rw [if_neg (by omega)])
  · skip
    refine SpI.of (cd := kdX0_laterAt) (fT := mlook flX0) (kT := mlook klX0) (kJ := mlook jlX0) mfA_X0_laterAt ok_X0_laterAt fT_X0 kT_X0 jT_X0 jdk_ok True.intro (Nat.le_of_ble_eq_true rfl) (fun G hG => ?_)
    refine rRun hG 99999 ?_
    refine And.intro (by first | omega | (dsimp only; omega)) (And.intro (fun c1 => ?_) (fun c1 => ?_))
    · try dsimp only at c1
      refine rRun hG 99999 ?_
      refine rIR hG rfl rfl (True.intro) ?_
      refine ⟨?_, rfl⟩
      unfold hlat
      first | (rw [if_pos (by omega)]; done) | (rw [if_pos (by omega)]; rfl) | (rw [if_neg (by omega)])
    · try dsimp only at c1
      refine And.intro rfl (And.intro (by decide) (And.intro (by first | omega | (dsimp only; omega)) (And.intro (fun c2 => ?_) (fun c2 => ?_))))
      · try dsimp only at c2
        refine rRun hG 99999 ?_
        refine rIR hG rfl rfl (True.intro) ?_
        refine ⟨?_, rfl⟩
        unfold hlat
        first | (rw [if_pos (by omega)]; done) | (rw [if_pos (by omega)]; rfl) | (rw [if_neg (by omega)])
      · try dsimp only at c2
        refine And.intro rfl (And.intro (by first | omega | (dsimp only; omega)) (?_))
        refine rIR hG rfl rfl (True.intro) ?_
        refine ⟨?_, rfl⟩
        unfold hlat
        first | (rw [if_pos (by omega)]; done) | (rw [if_pos (by omega)]; rfl) | (rw [if_neg (by omega)])
set_option maxRecDepth 20000 in
set_option maxHeartbeats 1000000 in
theorem sp_X0_put {uo : UD} {ux : XD} {ua ub : TD} {v0 v1 v2 : SD} {up uq : PD} {kH : Bool} {al hr lt : FN} {hd : Int} {e w : Int} (h1 : -1000 ≤ e ∧ e ≤ 1000) : SpV l 1 yX0_put cX0_put 4 none [mr 23, mi e, mi w] (hC uo ux ua ub v0 v1 v2 up uq (kH, al, hr, lt, hd)) (fun h => h = hC uo ux ua ub v0 v1 v2 up uq (kH, al, if 0 ≤ e + 9 ∧ e + 9 < 19 then mup hr (e + 9).toNat w else hr, lt, hd)) := by
  cases kH
  · skip
    refine SpV.of (cd := kdX0_put) (fT := mlook flX0) (kT := mlook klX0) (kJ := mlook jlX0) mfA_X0_put ok_X0_put fT_X0 kT_X0 jT_X0 jdk_ok True.intro (Nat.le_of_ble_eq_true rfl) (fun G hG => ?_)
    refine rRun hG 99999 ?_
    refine And.intro (by first | omega | (dsimp only; omega)) (And.intro (fun c1 => ?_) (fun c1 => ?_))
    · try dsimp only at c1
      refine rVR hG rfl rfl rfl ?_
      first | (rw [if_pos (by omega)]; rfl) | (rw [if_neg (by omega)])
    · try dsimp only at c1
      refine And.intro rfl (And.intro (by decide) (And.intro (by first | omega | (dsimp only; omega)) (And.intro (fun c2 => ?_) (fun c2 => ?_))))
      · try dsimp only at c2
        refine rVR hG rfl rfl rfl ?_
        first | (rw [if_pos (by omega)]; rfl) | (rw [if_neg (by omega)])
      · try dsimp only at c2
        refine And.intro rfl (And.intro (by first | omega | (dsimp only; omega)) (?_))
        refine rVR hG rfl rfl rfl ?_
        first | (rw [if_pos (by omega)]; rfl) | (rw [if_neg (by omega)])
  · skip
    refine SpV.of (cd := kdX0_put) (fT := mlook flX0) (kT := mlook klX0) (kJ := mlook jlX0) mfA_X0_put ok_X0_put fT_X0 kT_X0 jT_X0 jdk_ok True.intro (Nat.le_of_ble_eq_true rfl) (fun G hG => ?_)
    refine rRun hG 99999 ?_
    refine And.intro (by first | omega | (dsimp only; omega)) (And.intro (fun c1 => ?_) (fun c1 => ?_))
    · try dsimp only at c1
      refine rVR hG rfl rfl rfl ?_
      first | (rw [if_pos (by omega)]; rfl) | (rw [if_neg (by omega)])
    · try dsimp only at c1
      refine And.intro rfl (And.intro (by decide) (And.intro (by first | omega | (dsimp only; omega)) (And.intro (fun c2 => ?_) (fun c2 => ?_))))
      · try dsimp only at c2
        refine rVR hG rfl rfl rfl ?_
        first | (rw [if_pos (by omega)]; rfl) | (rw [if_neg (by omega)])
      · try dsimp only at c2
        refine And.intro rfl (And.intro (by first | omega | (dsimp only; omega)) (?_))
        refine rVR hG rfl rfl rfl ?_
        first | (rw [if_pos (by omega)]; rfl) | (rw [if_neg (by omega)])
set_option maxRecDepth 20000 in
set_option maxHeartbeats 1000000 in
theorem sp_X0_swapRows {uo : UD} {ux : XD} {ua ub : TD} {v0 v1 v2 : SD} {up uq : PD} {kH : Bool} {al hr lt : FN} {hd : Int}   : SpV l 1 yX0_swapRows cX0_swapRows 2 none [mr 23] (hC uo ux ua ub v0 v1 v2 up uq (kH, al, hr, lt, hd)) (fun h => h = hC uo ux ua ub v0 v1 v2 up uq (!kH, al, lt, hr, hd)) := by
  cases kH
  · skip
    refine SpV.of (cd := kdX0_swapRows) (fT := mlook flX0) (kT := mlook klX0) (kJ := mlook jlX0) mfA_X0_swapRows ok_X0_swapRows fT_X0 kT_X0 jT_X0 jdk_ok True.intro (Nat.le_of_ble_eq_true rfl) (fun G hG => ?_)
    refine rRun hG 99999 ?_
    refine And.intro rfl (And.intro rfl (And.intro ⟨rfl, by exact Nat.le_of_ble_eq_true rfl, by first | exact True.intro | exact Or.inl rfl | exact Or.inr rfl⟩ (And.intro ⟨rfl, by exact Nat.le_of_ble_eq_true rfl, by first | exact True.intro | exact Or.inl rfl | exact Or.inr rfl⟩ (?_))))
    refine rVR hG rfl rfl rfl ?_
    rfl
  · skip
    refine SpV.of (cd := kdX0_swapRows) (fT := mlook flX0) (kT := mlook klX0) (kJ := mlook jlX0) mfA_X0_swapRows ok_X0_swapRows fT_X0 kT_X0 jT_X0 jdk_ok True.intro (Nat.le_of_ble_eq_true rfl) (fun G hG => ?_)
    refine rRun hG 99999 ?_
    refine And.intro rfl (And.intro rfl (And.intro ⟨rfl, by exact Nat.le_of_ble_eq_true rfl, by first | exact True.intro | exact Or.inl rfl | exact Or.inr rfl⟩ (And.intro ⟨rfl, by exact Nat.le_of_ble_eq_true rfl, by first | exact True.intro | exact Or.inl rfl | exact Or.inr rfl⟩ (?_))))
    refine rVR hG rfl rfl rfl ?_
    rfl
def fwA (A : Nat → Nat → Bool) : Nat → Nat → Bool
  | 0, i => i == 9
  | d + 1, i => onP (fwA A d) i && A d i
def bwA (A : Nat → Nat → Bool) : Nat → Nat → Bool
  | 0, _ => true
  | j + 1, i => bkP (fun a => bwA A j a && A (13 - j) a) i
theorem albF_A {al : FN} {A : Nat → Nat → Bool} (h : alIs al A) {d : Nat} (hd : d < 14) : albF al (d : Int) = st19 (A d) := by
  unfold albF
  rw [if_pos (by omega)]
  exact h d hd
set_option maxRecDepth 20000 in
set_option maxHeartbeats 1000000 in
theorem sp_X0_errorsBehind {uo : UD} {ux : XD} {ua ub : TD} {v0 v1 v2 : SD} {up uq : PD} {kH : Bool} {al hr lt : FN} {hd : Int} {d : Nat} {A : Nat → Nat → Bool} (hA : alIs al A) (hdl : d < 14) : SpI l 2 yX0_errorsBehind cX0_errorsBehind 5 (some .int) [mr 23, mi (d : Int)] (hC uo ux ua ub v0 v1 v2 up uq (kH, al, hr, lt, hd)) (fun z h => z = st19 (fun i => fwA A (d + 1) i && bwA A (13 - d) i) ∧ h = hC uo ux ua ub v0 v1 v2 up uq (kH, al, hr, lt, hd)) := by
  refine SpI.of (cd := kdX0_errorsBehind) (fT := mlook flX0) (kT := mlook klX0) (kJ := mlook jlX0) mfA_X0_errorsBehind ok_X0_errorsBehind fT_X0 kT_X0 jT_X0 jdk_ok True.intro (Nat.le_of_ble_eq_true rfl) (fun G hG => ?_)
  have J41 : ∀ (n j : Nat), j ≤ 13 - d → 13 - d - j < n → G 41 [some (mr 23), some (mi (d : Int)), some (mi (st19 (fwA A (d + 1)))), some (mi (st19 (bwA A j))), some (mi (13 - (j : Int)))] [] (hC uo ux ua ub v0 v1 v2 up uq (kH, al, hr, lt, hd)) := by
    intro n
    induction n with
    | zero => intro j _ hm; exact absurd hm (Nat.not_lt_zero _)
    | succ n ih =>
      intro j hj hm
      have hs := st19_in (P := fun a => bwA A j a && A (13 - j) a)
      refine rRun hG 99999 ?_
      refine And.intro (by first | omega | (dsimp only; omega)) (And.intro (fun c1 => ?_) (fun c1 => ?_))
      · try dsimp only at c1
        refine rRun hG 99999 ?_
        refine And.intro (by exact ⟨st19_in.1, st19_in.1⟩) (?_)
        refine rIR hG rfl rfl (True.intro) ?_
        obtain rfl : j = 13 - d := by omega
        exact ⟨st_and, rfl⟩
      · try dsimp only at c1
        refine And.intro (by first | omega | (dsimp only; omega)) (And.intro (fun c2 => ?_) (fun c2 => ?_))
        · try dsimp only at c2
          refine rRun hG 99999 ?_
          refine And.intro (by exact ⟨st19_in.1, st19_in.1⟩) (?_)
          refine rIR hG rfl rfl (True.intro) ?_
          obtain rfl : j = 13 - d := by omega
          exact ⟨st_and, rfl⟩
        · try dsimp only at c2
          refine rV hG (sp_X0_allowedBehind (uo := uo) (ux := ux) (ua := ua) (ub := ub) (v0 := v0) (v1 := v1) (v2 := v2) (up := up) (uq := uq) (kH := kH) (al := al) (hr := hr) (lt := lt) (hd := hd) (d := 13 - (j : Int)) (by omega)) rfl rfl lk_X0_37 mf_X0_allowedBehind (by decide) (Nat.le_of_ble_eq_true rfl) ⟨_, _, _, rfl, rfl, rfl⟩ ?_
          rintro w _ ⟨hw, rfl⟩
          rw [show (13 - (j : Int)) = ((13 - j : Nat) : Int) by omega, albF_A hA (by omega)] at hw
          subst hw
          refine rRun hG 99999 ?_
          refine And.intro (by exact ⟨st19_in.1, st19_in.1⟩) (?_)
          rw [st_and]
          refine rS hG (sp_X0_aDayBack (s := bs (fun a => bwA A j a && A (13 - j) a) 19) (by have := bs_lt (P := fun a => bwA A j a && A (13 - j) a) 19; omega)) rfl rfl lk_X0_40 mf_X0_aDayBack (by decide) (Nat.le_of_ble_eq_true rfl) ?_
          rintro w _ ⟨hw, rfl⟩
          rw [st_bk] at hw
          have hw9 : w = st19 (bwA A (j + 1)) := hw
          clear hw
          subst hw9
          refine rRun hG 99999 ?_
          exact rLess hG (L' := [some _, some _, some _, some _, some (mi (13 - ((j + 1 : Nat) : Int)))]) ⟨rfl, rfl, rfl, rfl, congrArg mi (by omega), True.intro⟩ (ih (j + 1) (by omega) (by omega))
  have J6 : ∀ (n i : Nat), i ≤ d + 1 → d + 1 - i < n → G 6 [some (mr 23), some (mi (d : Int)), some (mi (st19 (fwA A i))), some (mi (i : Int)), none] [] (hC uo ux ua ub v0 v1 v2 up uq (kH, al, hr, lt, hd)) := by
    intro n
    induction n with
    | zero => intro i _ hm; exact absurd hm (Nat.not_lt_zero _)
    | succ n ih =>
      intro i hi hm
      refine rRun hG 41 ?_
      refine And.intro (by first | omega | (dsimp only; omega)) (And.intro (fun c1 => ?_) (fun c1 => ?_))
      · try dsimp only at c1
        refine rRun hG 41 ?_
        obtain rfl : i = d + 1 := by omega
        exact rLess hG (L' := [some _, some _, some _, some (mi (st19 (bwA A 0))), some (mi (13 - ((0 : Nat) : Int)))]) ⟨rfl, rfl, rfl, congrArg mi st_all, rfl, True.intro⟩ (J41 _ 0 (by omega) (Nat.lt_succ_self _))
      · try dsimp only at c1
        refine And.intro (by first | omega | (dsimp only; omega)) (And.intro (fun c2 => ?_) (fun c2 => ?_))
        · try dsimp only at c2
          refine rRun hG 41 ?_
          obtain rfl : i = d + 1 := by omega
          exact rLess hG (L' := [some _, some _, some _, some (mi (st19 (bwA A 0))), some (mi (13 - ((0 : Nat) : Int)))]) ⟨rfl, rfl, rfl, congrArg mi st_all, rfl, True.intro⟩ (J41 _ 0 (by omega) (Nat.lt_succ_self _))
        · try dsimp only at c2
          refine rS hG (sp_X0_aDayOn (s := bs (fwA A i) 19) (by have := bs_lt (P := fwA A i) 19; omega)) rfl rfl lk_X0_33 mf_X0_aDayOn (by decide) (Nat.le_of_ble_eq_true rfl) ?_
          rintro w _ ⟨hw, rfl⟩
          rw [st_on] at hw
          subst hw
          refine rRun hG 41 ?_
          refine rV hG (sp_X0_allowedBehind (uo := uo) (ux := ux) (ua := ua) (ub := ub) (v0 := v0) (v1 := v1) (v2 := v2) (up := up) (uq := uq) (kH := kH) (al := al) (hr := hr) (lt := lt) (hd := hd) (d := (i : Int)) (by omega)) rfl rfl lk_X0_37 mf_X0_allowedBehind (by decide) (Nat.le_of_ble_eq_true rfl) ⟨_, _, _, rfl, rfl, rfl⟩ ?_
          rintro w _ ⟨hw, rfl⟩
          rw [albF_A hA (by omega)] at hw
          subst hw
          refine rRun hG 41 ?_
          refine And.intro (by exact ⟨st19_in.1, st19_in.1⟩) (?_)
          exact rLess hG (L' := [some _, some _, some (mi (st19 (fwA A (i + 1)))), some _, none]) ⟨rfl, rfl, congrArg mi st_and.symm, rfl, True.intro⟩ (ih (i + 1) (by omega) (by omega))
  refine rRun hG 6 ?_
  exact rLess hG (L' := [some _, some _, some (mi (st19 (fwA A 0))), some (mi ((0 : Nat) : Int)), none]) ⟨rfl, rfl, congrArg mi st_512, rfl, True.intro⟩ (J6 _ 0 (by omega) (Nat.lt_succ_self _))
def hadd (A : Nat → Nat → Bool) (f : FN) (d : Nat) (e : Int) (i : Nat) : Int := if (0 ≤ e + ((i : Int) - 2) + 9 ∧ e + ((i : Int) - 2) + 9 < 19) ∧ A d (e + ((i : Int) - 2) + 9).toNat = true then hlat f (e + ((i : Int) - 2)) else 0
def hsm (A : Nat → Nat → Bool) (f : FN) (d : Nat) (e : Int) : Nat → Int
  | 0 => 0
  | i + 1 => hsm A f d e i + hadd A f d e i
theorem hsm_s {A : Nat → Nat → Bool} {f : FN} {d : Nat} {e : Int} {i : Nat} : hsm A f d e (i + 1) = hsm A f d e i + hadd A f d e i := rfl
theorem hsm_in {A : Nat → Nat → Bool} {f : FN} {d : Nat} {e : Int} (h : ∀ e, 0 ≤ hlat f e ∧ hlat f e ≤ 1000002) : ∀ i : Nat, 0 ≤ hsm A f d e i ∧ hsm A f d e i ≤ 1000002 * (i : Int)
  | 0 => ⟨Int.le_refl _, Int.le_refl _⟩
  | i + 1 => by
    have ih := hsm_in (A := A) (d := d) (e := e) h i
    have h1 := h (e + ((i : Int) - 2))
    rw [hsm_s]
    unfold hadd
    split <;> omega
theorem st_none {P : Nat → Bool} : st19 P = 0 ↔ ∀ i, i < 19 → P i = false := by
  constructor
  · intro h i hi
    have h1 : bs P 19 = 0 := by unfold st19 at h; omega
    have h2 := bs_bit (P := P) (n := 19) (i := i)
    rw [h1, Nat.zero_testBit] at h2
    simpa [hi] using h2.symm
  · intro h
    have : bs P 19 = bs (fun _ => false) 19 := bs_ext h
    unfold st19
    rw [this]; decide +kernel
theorem wth_hit {x : Int} {Q : Nat → Bool} : st19 (fun i => wthP x x i && Q i) = 0 ↔ ¬ ((0 ≤ x + 9 ∧ x + 9 < 19) ∧ Q (x + 9).toNat = true) := by
  rw [st_none]
  constructor
  · rintro h ⟨h1, h2⟩
    have h3 := h (x + 9).toNat (by omega)
    rw [h2, Bool.and_true] at h3
    have h4 : wthP x x (x + 9).toNat = true := decide_eq_true (by omega)
    rw [h4] at h3; cases h3
  · intro h i hi
    by_cases q : wthP x x i = true
    · have q2 := of_decide_eq_true q
      have e : (x + 9).toNat = i := by omega
      rw [q, Bool.true_and]
      cases hq : Q i
      · rfl
      · exact absurd ⟨by omega, by rw [e]; exact hq⟩ h
    · have : wthP x x i = false := by simpa using q
      rw [this, Bool.false_and]
set_option maxRecDepth 20000 in
set_option maxHeartbeats 1000000 in
theorem sp_X0_rowsFrom {uo : UD} {ux : XD} {ua ub : TD} {v0 v1 v2 : SD} {up uq : PD} {kH : Bool} {al hr lt : FN} {hd : Int} {d : Nat} {e : Int} {A : Nat → Nat → Bool} (hA : alIs al A) (hdl : d < 14) (h1 : -100 ≤ e ∧ e ≤ 100) (hl : ∀ e, 0 ≤ hlat lt e ∧ hlat lt e ≤ 1000002) : SpI l 3 yX0_rowsFrom cX0_rowsFrom 6 (some .int) [mr 23, mi (d : Int), mi e] (hC uo ux ua ub v0 v1 v2 up uq (kH, al, hr, lt, hd)) (fun z h => z = hsm A lt d e 6 % 1000003 ∧ h = hC uo ux ua ub v0 v1 v2 up uq (kH, al, hr, lt, hd)) := by
  refine SpI.of (cd := kdX0_rowsFrom) (fT := mlook flX0) (kT := mlook klX0) (kJ := mlook jlX0) mfA_X0_rowsFrom ok_X0_rowsFrom fT_X0 kT_X0 jT_X0 jdk_ok True.intro (Nat.le_of_ble_eq_true rfl) (fun G hG => ?_)
  have J6 : ∀ (n i : Nat), i ≤ 6 → 6 - i < n → G 6 [some (mr 23), some (mi (d : Int)), some (mi e), some (mi (hsm A lt d e i)), some (mi ((i : Int) - 2)), none] [] (hC uo ux ua ub v0 v1 v2 up uq (kH, al, hr, lt, hd)) := by
    intro n
    induction n with
    | zero => intro i _ hm; exact absurd hm (Nat.not_lt_zero _)
    | succ n ih =>
      intro i hi hm
      have hsi := hsm_in (A := A) (d := d) (e := e) hl i
      have hli := hl (e + ((i : Int) - 2))
      refine rRun hG 99999 ?_
      refine And.intro (by first | omega | (dsimp only; omega)) (And.intro (fun c1 => ?_) (fun c1 => ?_))
      · try dsimp only at c1
        refine rRun hG 99999 ?_
        refine And.intro (by omega) (?_)
        refine rIR hG rfl rfl (True.intro) ?_
        obtain rfl : i = 6 := by omega
        exact ⟨rfl, rfl⟩
      · try dsimp only at c1
        refine rS hG (sp_X0_within (lo := (e + ((i : Int) - 2))) (hi := (e + ((i : Int) - 2))) (by omega) (by omega)) rfl rfl lk_X0_29 mf_X0_within (by decide) (Nat.le_of_ble_eq_true rfl) ?_
        rintro _ _ ⟨rfl, rfl⟩
        refine rRun hG 99999 ?_
        refine rV hG (sp_X0_allowedBehind (uo := uo) (ux := ux) (ua := ua) (ub := ub) (v0 := v0) (v1 := v1) (v2 := v2) (up := up) (uq := uq) (kH := kH) (al := al) (hr := hr) (lt := lt) (hd := hd) (d := (d : Int)) (by omega)) rfl rfl lk_X0_37 mf_X0_allowedBehind (by decide) (Nat.le_of_ble_eq_true rfl) ⟨_, _, _, rfl, rfl, rfl⟩ ?_
        rintro w _ ⟨hw, rfl⟩
        rw [albF_A hA hdl] at hw
        subst hw
        refine rRun hG 99999 ?_
        refine And.intro (by exact ⟨st19_in.1, st19_in.1⟩) (And.intro (by rw [st_and]; have := st19_in (P := fun a => wthP (e + ((i : Int) - 2)) (e + ((i : Int) - 2)) a && A d a); omega) (And.intro (fun cz => ?_) (fun cz => ?_)))
        · try dsimp only at cz
          refine rRun hG 99999 ?_
          rw [st_and] at cz
          have e9 := ih (i + 1) (by omega) (by omega)
          rw [hsm_s, show hadd A lt d e i = _ from if_neg (wth_hit.mp cz)] at e9
          refine rLess hG ?_ e9
          exact ⟨rfl, rfl, rfl, congrArg mi (by omega), congrArg mi (by omega), True.intro⟩
        · try dsimp only at cz
          refine rV hG (sp_X0_laterAt (uo := uo) (ux := ux) (ua := ua) (ub := ub) (v0 := v0) (v1 := v1) (v2 := v2) (up := up) (uq := uq) (kH := kH) (al := al) (hr := hr) (lt := lt) (hd := hd) (e := (e + ((i : Int) - 2))) (by omega)) rfl rfl lk_X0_61 mf_X0_laterAt (by decide) (Nat.le_of_ble_eq_true rfl) ⟨_, _, _, rfl, rfl, rfl⟩ ?_
          rintro _ _ ⟨rfl, rfl⟩
          refine rRun hG 99999 ?_
          rw [st_and] at cz
          have e9 := ih (i + 1) (by omega) (by omega)
          rw [hsm_s, show hadd A lt d e i = _ from if_pos (Classical.not_not.mp (fun q => cz (wth_hit.mpr q)))] at e9
          refine rLess hG ?_ e9
          exact ⟨rfl, rfl, rfl, rfl, congrArg mi (by omega), True.intro⟩
  refine rRun hG 6 ?_
  exact rLess hG (L' := [some (mr 23), some (mi (d : Int)), some (mi e), some (mi (hsm A lt d e 0)), some (mi (((0 : Nat) : Int) - 2)), none]) ⟨rfl, rfl, rfl, rfl, rfl, True.intro⟩ (J6 _ 0 (by omega) (Nat.lt_succ_self _))
end WALKS
end
section
/-! Hearsay: rows, the widest day; Integer.bitCount -/
section WALKS
variable {l : Launch}
def hvl (V : Int → Int) (e : Int) : Int := if 0 ≤ e + 9 ∧ e + 9 < 19 then V e else 0
def haddV (A : Nat → Nat → Bool) (V : Int → Int) (d : Nat) (e : Int) (i : Nat) : Int := if (0 ≤ e + ((i : Int) - 2) + 9 ∧ e + ((i : Int) - 2) + 9 < 19) ∧ A d (e + ((i : Int) - 2) + 9).toNat = true then hvl V (e + ((i : Int) - 2)) else 0
def hsmV (A : Nat → Nat → Bool) (V : Int → Int) (d : Nat) (e : Int) : Nat → Int
  | 0 => 0
  | i + 1 => hsmV A V d e i + haddV A V d e i
def HV (A : Nat → Nat → Bool) : Nat → Int → Int
  | 0, _ => 1
  | j + 1, e => hsmV A (HV A j) (13 - j) e 6 % 1000003
theorem hlat_V {f : FN} {V : Int → Int} (h : rowIs f V) {e : Int} : hlat f e = hvl V e := by
  unfold hlat hvl
  by_cases q : 0 ≤ e + 9 ∧ e + 9 < 19
  · rw [if_pos q, if_pos q, h _ (by omega)]
    congr 1; omega
  · rw [if_neg q, if_neg q]
theorem hsm_V {A : Nat → Nat → Bool} {f : FN} {V : Int → Int} (h : rowIs f V) {d : Nat} {e : Int} : ∀ i, hsm A f d e i = hsmV A V d e i
  | 0 => rfl
  | i + 1 => by
    show hsm A f d e i + hadd A f d e i = hsmV A V d e i + haddV A V d e i
    rw [hsm_V h i]
    unfold hadd haddV
    rw [hlat_V h]
theorem HV_in {A : Nat → Nat → Bool} : ∀ (j : Nat) (e : Int), 0 ≤ HV A j e ∧ HV A j e ≤ 1000002
  | 0, e => by show (0 : Int) ≤ 1 ∧ (1 : Int) ≤ 1000002; decide
  | j + 1, e => by
    show 0 ≤ hsmV A (HV A j) (13 - j) e 6 % 1000003 ∧ hsmV A (HV A j) (13 - j) e 6 % 1000003 ≤ 1000002
    omega
theorem HV_lat {A : Nat → Nat → Bool} {f : FN} {j : Nat} (h : rowIs f (HV A j)) (e : Int) : 0 ≤ hlat f e ∧ hlat f e ≤ 1000002 := by
  rw [hlat_V h]
  unfold hvl
  split
  · exact HV_in j e
  · omega
set_option maxRecDepth 20000 in
set_option maxHeartbeats 1500000 in
theorem sp_X0_rows {uo : UD} {ux : XD} {ua ub : TD} {v0 v1 v2 : SD} {up uq : PD} {kH : Bool} {al hr lt : FN} {hd : Int} {A : Nat → Nat → Bool} (hA : alIs al A) : SpI l 4 yX0_rows cX0_rows 3 (some .int) [mr 23] (hC uo ux ua ub v0 v1 v2 up uq (kH, al, hr, lt, hd)) (fun z h => z = hsmV A (HV A 13) 0 0 6 % 1000003 ∧ ∃ (k9 : Bool) (h9 l9 : FN), h = hC uo ux ua ub v0 v1 v2 up uq (k9, al, h9, l9, hd)) := by
  cases kH
  · skip
    refine SpI.of (cd := kdX0_rows) (fT := mlook flX0) (kT := mlook klX0) (kJ := mlook jlX0) mfA_X0_rows ok_X0_rows fT_X0 kT_X0 jT_X0 jdk_ok True.intro (Nat.le_of_ble_eq_true rfl) (fun G hG => ?_)
    have J67 : ∀ (k9 : Bool) (h9 l9 : FN), rowIs l9 (HV A 13) → G 67 [some (mr 23), none, none] [] (hC uo ux ua ub v0 v1 v2 up uq (k9, al, h9, l9, hd)) := by
      intro k9 h9 l9 hrow
      refine rRun hG 99999 ?_
      refine rV hG (sp_X0_rowsFrom (uo := uo) (ux := ux) (ua := ua) (ub := ub) (v0 := v0) (v1 := v1) (v2 := v2) (up := up) (uq := uq) (kH := k9) (al := al) (hr := h9) (lt := l9) (hd := hd) (d := 0) (e := 0) (A := A) hA (by omega) (by omega) (HV_lat hrow)) rfl rfl lk_X0_51 mf_X0_rowsFrom (by decide) (Nat.le_of_ble_eq_true rfl) ⟨_, _, _, rfl, rfl, rfl⟩ ?_
      rintro _ _ ⟨rfl, rfl⟩
      refine rIR hG rfl rfl (True.intro) ?_
      rw [hsm_V hrow]
      exact ⟨rfl, k9, h9, l9, rfl⟩
    have J34 : ∀ (j : Nat) (k9 : Bool) (l9 : FN), j ≤ 12 → rowIs l9 (HV A j) → (∀ (h8 : FN), rowIs h8 (HV A (j + 1)) → G 57 [some (mr 23), some (mi ((13 - j : Nat) : Int)), none] [] (hC uo ux ua ub v0 v1 v2 up uq (k9, al, h8, l9, hd))) → ∀ (n i : Nat) (h8 : FN), (∀ a : Nat, a < i → h8 a = HV A (j + 1) ((a : Int) - 9)) → i ≤ 19 → 19 - i < n → G 34 [some (mr 23), some (mi ((13 - j : Nat) : Int)), some (mi ((i : Int) - 9))] [] (hC uo ux ua ub v0 v1 v2 up uq (k9, al, h8, l9, hd)) := by
      intro j k9 l9 hj hrow hcont n
      induction n with
      | zero => intro i h8 _ _ hm; exact absurd hm (Nat.not_lt_zero _)
      | succ n ih =>
        intro i h8 hr8 hi hm
        refine rRun hG 57 ?_
        refine And.intro (by first | omega | (dsimp only; omega)) (And.intro (fun c1 => ?_) (fun c1 => ?_))
        · try dsimp only at c1
          obtain rfl : i = 19 := by omega
          refine rLess hG ?_ (hcont h8 (fun a ha => hr8 a ha))
          exact ⟨rfl, rfl, True.intro⟩
        · try dsimp only at c1
          have hdd : (13 - (j : Int)) = ((13 - j : Nat) : Int) := by omega
          refine rV hG (sp_X0_rowsFrom (uo := uo) (ux := ux) (ua := ua) (ub := ub) (v0 := v0) (v1 := v1) (v2 := v2) (up := up) (uq := uq) (kH := k9) (al := al) (hr := h8) (lt := l9) (hd := hd) (d := 13 - j) (e := ((i : Int) - 9)) (A := A) hA (by omega) (by omega) (HV_lat hrow)) rfl rfl lk_X0_51 mf_X0_rowsFrom (by decide) (Nat.le_of_ble_eq_true rfl) ⟨_, _, _, rfl, rfl, rfl⟩ ?_
          rintro _ _ ⟨rfl, rfl⟩
          refine rVV hG (sp_X0_put (uo := uo) (ux := ux) (ua := ua) (ub := ub) (v0 := v0) (v1 := v1) (v2 := v2) (up := up) (uq := uq) (kH := k9) (al := al) (hr := h8) (lt := l9) (hd := hd) (e := ((i : Int) - 9)) (w := (hsm A l9 (13 - j) ((i : Int) - 9) 6 % 1000003)) (by omega)) rfl rfl lk_X0_54 mf_X0_put (by decide) (Nat.le_of_ble_eq_true rfl) ⟨_, _, _, rfl, rfl, rfl⟩ ?_
          rintro _ rfl
          rw [if_pos (by omega), show (((i : Int) - 9) + 9).toNat = i by omega]
          refine rRun hG 57 ?_
          refine rLess hG ?_ (ih (i + 1) (mup h8 i (hsm A l9 (13 - j) ((i : Int) - 9) 6 % 1000003)) ?_ (by omega) (by omega))
          · exact ⟨rfl, rfl, congrArg mi (by omega), True.intro⟩
          · intro a ha
            by_cases q : a = i
            · subst q
              rw [mup_s, hsm_V hrow]; rfl
            · rw [mup_n q]; exact hr8 a (by omega)
    have J27 : ∀ (n j : Nat) (k9 : Bool) (h9 l9 : FN), rowIs l9 (HV A j) → j ≤ 13 → 13 - j < n → G 27 [some (mr 23), some (mi ((13 - j : Nat) : Int)), none] [] (hC uo ux ua ub v0 v1 v2 up uq (k9, al, h9, l9, hd)) := by
      intro n
      induction n with
      | zero => intro j k9 h9 l9 _ _ hm; exact absurd hm (Nat.not_lt_zero _)
      | succ n ih =>
        intro j k9 h9 l9 hrow hj hm
        have J57 : j ≤ 12 → ∀ (h8 : FN), rowIs h8 (HV A (j + 1)) → G 57 [some (mr 23), some (mi ((13 - j : Nat) : Int)), none] [] (hC uo ux ua ub v0 v1 v2 up uq (k9, al, h8, l9, hd)) := by
          intro hj2 h8 hr8
          refine rRun hG 99999 ?_
          refine rVV hG (sp_X0_swapRows (uo := uo) (ux := ux) (ua := ua) (ub := ub) (v0 := v0) (v1 := v1) (v2 := v2) (up := up) (uq := uq) (kH := k9) (al := al) (hr := h8) (lt := l9) (hd := hd)) rfl rfl lk_X0_58 mf_X0_swapRows (by decide) (Nat.le_of_ble_eq_true rfl) ⟨_, _, _, rfl, rfl, rfl⟩ ?_
          rintro _ rfl
          refine rRun hG 99999 ?_
          refine rLess hG ?_ (ih (j + 1) (!k9) l9 h8 hr8 (by omega) (by omega))
          exact ⟨rfl, congrArg mi (by omega), True.intro⟩
        refine rRun hG 34 ?_
        refine And.intro (by first | omega | (dsimp only; omega)) (And.intro (fun c1 => ?_) (fun c1 => ?_))
        · try dsimp only at c1
          obtain rfl : j = 13 := by omega
          refine rLess hG ?_ (J67 k9 h9 l9 hrow)
          exact ⟨rfl, True.intro⟩
        · try dsimp only at c1
          refine rLess hG (L' := [some (mr 23), some (mi ((13 - j : Nat) : Int)), some (mi (((0 : Nat) : Int) - 9))]) ⟨rfl, rfl, rfl, True.intro⟩ (J34 j k9 l9 (by omega) hrow (J57 (by omega)) 20 0 h9 (fun a ha => absurd ha (Nat.not_lt_zero _)) (by omega) (by omega))
    have J2 : ∀ (n i : Nat) (l8 : FN), (∀ a : Nat, a < i → l8 a = 1) → i ≤ 19 → 19 - i < n → G 2 [some (mr 23), some (mi (i : Int)), none] [] (hC uo ux ua ub v0 v1 v2 up uq (false, al, hr, l8, hd)) := by
      intro n
      induction n with
      | zero => intro i l8 _ _ hm; exact absurd hm (Nat.not_lt_zero _)
      | succ n ih =>
        intro i l8 hr8 hi hm
        refine rRun hG 27 ?_
        refine And.intro rfl (And.intro (by decide) (And.intro (by first | omega | (dsimp only; omega)) (And.intro (fun c1 => ?_) (fun c1 => ?_))))
        · try dsimp only at c1
          refine rRun hG 27 ?_
          obtain rfl : i = 19 := by omega
          exact rLess hG (L' := [some (mr 23), some (mi ((13 - 0 : Nat) : Int)), none]) ⟨rfl, rfl, True.intro⟩ (J27 _ 0 false hr l8 (fun a ha => hr8 a ha) (by omega) (Nat.lt_succ_self _))
        · try dsimp only at c1
          refine And.intro rfl (And.intro (by first | omega | (dsimp only; omega)) (?_))
          refine ih (i + 1) (mup l8 i 1) ?_ (by omega) (by omega)
          intro a ha
          by_cases q : a = i
          · subst q; exact mup_s
          · rw [mup_n q]; exact hr8 a (by omega)
    refine rRun hG 2 ?_
    exact J2 20 0 lt (fun a ha => absurd ha (Nat.not_lt_zero _)) (by omega) (by omega)
  · skip
    refine SpI.of (cd := kdX0_rows) (fT := mlook flX0) (kT := mlook klX0) (kJ := mlook jlX0) mfA_X0_rows ok_X0_rows fT_X0 kT_X0 jT_X0 jdk_ok True.intro (Nat.le_of_ble_eq_true rfl) (fun G hG => ?_)
    have J67 : ∀ (k9 : Bool) (h9 l9 : FN), rowIs l9 (HV A 13) → G 67 [some (mr 23), none, none] [] (hC uo ux ua ub v0 v1 v2 up uq (k9, al, h9, l9, hd)) := by
      intro k9 h9 l9 hrow
      refine rRun hG 99999 ?_
      refine rV hG (sp_X0_rowsFrom (uo := uo) (ux := ux) (ua := ua) (ub := ub) (v0 := v0) (v1 := v1) (v2 := v2) (up := up) (uq := uq) (kH := k9) (al := al) (hr := h9) (lt := l9) (hd := hd) (d := 0) (e := 0) (A := A) hA (by omega) (by omega) (HV_lat hrow)) rfl rfl lk_X0_51 mf_X0_rowsFrom (by decide) (Nat.le_of_ble_eq_true rfl) ⟨_, _, _, rfl, rfl, rfl⟩ ?_
      rintro _ _ ⟨rfl, rfl⟩
      refine rIR hG rfl rfl (True.intro) ?_
      rw [hsm_V hrow]
      exact ⟨rfl, k9, h9, l9, rfl⟩
    have J34 : ∀ (j : Nat) (k9 : Bool) (l9 : FN), j ≤ 12 → rowIs l9 (HV A j) → (∀ (h8 : FN), rowIs h8 (HV A (j + 1)) → G 57 [some (mr 23), some (mi ((13 - j : Nat) : Int)), none] [] (hC uo ux ua ub v0 v1 v2 up uq (k9, al, h8, l9, hd))) → ∀ (n i : Nat) (h8 : FN), (∀ a : Nat, a < i → h8 a = HV A (j + 1) ((a : Int) - 9)) → i ≤ 19 → 19 - i < n → G 34 [some (mr 23), some (mi ((13 - j : Nat) : Int)), some (mi ((i : Int) - 9))] [] (hC uo ux ua ub v0 v1 v2 up uq (k9, al, h8, l9, hd)) := by
      intro j k9 l9 hj hrow hcont n
      induction n with
      | zero => intro i h8 _ _ hm; exact absurd hm (Nat.not_lt_zero _)
      | succ n ih =>
        intro i h8 hr8 hi hm
        refine rRun hG 57 ?_
        refine And.intro (by first | omega | (dsimp only; omega)) (And.intro (fun c1 => ?_) (fun c1 => ?_))
        · try dsimp only at c1
          obtain rfl : i = 19 := by omega
          refine rLess hG ?_ (hcont h8 (fun a ha => hr8 a ha))
          exact ⟨rfl, rfl, True.intro⟩
        · try dsimp only at c1
          have hdd : (13 - (j : Int)) = ((13 - j : Nat) : Int) := by omega
          refine rV hG (sp_X0_rowsFrom (uo := uo) (ux := ux) (ua := ua) (ub := ub) (v0 := v0) (v1 := v1) (v2 := v2) (up := up) (uq := uq) (kH := k9) (al := al) (hr := h8) (lt := l9) (hd := hd) (d := 13 - j) (e := ((i : Int) - 9)) (A := A) hA (by omega) (by omega) (HV_lat hrow)) rfl rfl lk_X0_51 mf_X0_rowsFrom (by decide) (Nat.le_of_ble_eq_true rfl) ⟨_, _, _, rfl, rfl, rfl⟩ ?_
          rintro _ _ ⟨rfl, rfl⟩
          refine rVV hG (sp_X0_put (uo := uo) (ux := ux) (ua := ua) (ub := ub) (v0 := v0) (v1 := v1) (v2 := v2) (up := up) (uq := uq) (kH := k9) (al := al) (hr := h8) (lt := l9) (hd := hd) (e := ((i : Int) - 9)) (w := (hsm A l9 (13 - j) ((i : Int) - 9) 6 % 1000003)) (by omega)) rfl rfl lk_X0_54 mf_X0_put (by decide) (Nat.le_of_ble_eq_true rfl) ⟨_, _, _, rfl, rfl, rfl⟩ ?_
          rintro _ rfl
          rw [if_pos (by omega), show (((i : Int) - 9) + 9).toNat = i by omega]
          refine rRun hG 57 ?_
          refine rLess hG ?_ (ih (i + 1) (mup h8 i (hsm A l9 (13 - j) ((i : Int) - 9) 6 % 1000003)) ?_ (by omega) (by omega))
          · exact ⟨rfl, rfl, congrArg mi (by omega), True.intro⟩
          · intro a ha
            by_cases q : a = i
            · subst q
              rw [mup_s, hsm_V hrow]; rfl
            · rw [mup_n q]; exact hr8 a (by omega)
    have J27 : ∀ (n j : Nat) (k9 : Bool) (h9 l9 : FN), rowIs l9 (HV A j) → j ≤ 13 → 13 - j < n → G 27 [some (mr 23), some (mi ((13 - j : Nat) : Int)), none] [] (hC uo ux ua ub v0 v1 v2 up uq (k9, al, h9, l9, hd)) := by
      intro n
      induction n with
      | zero => intro j k9 h9 l9 _ _ hm; exact absurd hm (Nat.not_lt_zero _)
      | succ n ih =>
        intro j k9 h9 l9 hrow hj hm
        have J57 : j ≤ 12 → ∀ (h8 : FN), rowIs h8 (HV A (j + 1)) → G 57 [some (mr 23), some (mi ((13 - j : Nat) : Int)), none] [] (hC uo ux ua ub v0 v1 v2 up uq (k9, al, h8, l9, hd)) := by
          intro hj2 h8 hr8
          refine rRun hG 99999 ?_
          refine rVV hG (sp_X0_swapRows (uo := uo) (ux := ux) (ua := ua) (ub := ub) (v0 := v0) (v1 := v1) (v2 := v2) (up := up) (uq := uq) (kH := k9) (al := al) (hr := h8) (lt := l9) (hd := hd)) rfl rfl lk_X0_58 mf_X0_swapRows (by decide) (Nat.le_of_ble_eq_true rfl) ⟨_, _, _, rfl, rfl, rfl⟩ ?_
          rintro _ rfl
          refine rRun hG 99999 ?_
          refine rLess hG ?_ (ih (j + 1) (!k9) l9 h8 hr8 (by omega) (by omega))
          exact ⟨rfl, congrArg mi (by omega), True.intro⟩
        refine rRun hG 34 ?_
        refine And.intro (by first | omega | (dsimp only; omega)) (And.intro (fun c1 => ?_) (fun c1 => ?_))
        · try dsimp only at c1
          obtain rfl : j = 13 := by omega
          refine rLess hG ?_ (J67 k9 h9 l9 hrow)
          exact ⟨rfl, True.intro⟩
        · try dsimp only at c1
          refine rLess hG (L' := [some (mr 23), some (mi ((13 - j : Nat) : Int)), some (mi (((0 : Nat) : Int) - 9))]) ⟨rfl, rfl, rfl, True.intro⟩ (J34 j k9 l9 (by omega) hrow (J57 (by omega)) 20 0 h9 (fun a ha => absurd ha (Nat.not_lt_zero _)) (by omega) (by omega))
    have J2 : ∀ (n i : Nat) (l8 : FN), (∀ a : Nat, a < i → l8 a = 1) → i ≤ 19 → 19 - i < n → G 2 [some (mr 23), some (mi (i : Int)), none] [] (hC uo ux ua ub v0 v1 v2 up uq (true, al, hr, l8, hd)) := by
      intro n
      induction n with
      | zero => intro i l8 _ _ hm; exact absurd hm (Nat.not_lt_zero _)
      | succ n ih =>
        intro i l8 hr8 hi hm
        refine rRun hG 27 ?_
        refine And.intro rfl (And.intro (by decide) (And.intro (by first | omega | (dsimp only; omega)) (And.intro (fun c1 => ?_) (fun c1 => ?_))))
        · try dsimp only at c1
          refine rRun hG 27 ?_
          obtain rfl : i = 19 := by omega
          exact rLess hG (L' := [some (mr 23), some (mi ((13 - 0 : Nat) : Int)), none]) ⟨rfl, rfl, True.intro⟩ (J27 _ 0 true hr l8 (fun a ha => hr8 a ha) (by omega) (Nat.lt_succ_self _))
        · try dsimp only at c1
          refine And.intro rfl (And.intro (by first | omega | (dsimp only; omega)) (?_))
          refine ih (i + 1) (mup l8 i 1) ?_ (by omega) (by omega)
          intro a ha
          by_cases q : a = i
          · subst q; exact mup_s
          · rw [mup_n q]; exact hr8 a (by omega)
    refine rRun hG 2 ?_
    exact J2 20 0 lt (fun a ha => absurd ha (Nat.not_lt_zero _)) (by omega) (by omega)
def nb1 (s : Nat) : Nat := s - (s / 2 ^ 1 &&& 1431655765)
def nb2 (x : Nat) : Nat := (x &&& 858993459) + (x / 2 ^ 2 &&& 858993459)
def nb3 (x : Nat) : Nat := (x + x / 2 ^ 4) &&& 252645135
def nb4 (x : Nat) : Nat := x + x / 2 ^ 8
def nb5 (x : Nat) : Nat := x + x / 2 ^ 16
def nbc (s : Nat) : Nat := nb5 (nb4 (nb3 (nb2 (nb1 s)))) &&& 63
theorem nb1_le {s : Nat} : nb1 s ≤ s := Nat.sub_le _ _
theorem nb2_le {x : Nat} : nb2 x ≤ 2 * x := by
  have h1 := Nat.and_le_left (n := x) (m := 858993459)
  have h2 := Nat.and_le_left (n := x / 2 ^ 2) (m := 858993459)
  unfold nb2; omega
theorem nb3_le {x : Nat} : nb3 x ≤ 2 * x := by
  have h1 := Nat.and_le_left (n := x + x / 2 ^ 4) (m := 252645135)
  unfold nb3; omega
theorem nb4_le {x : Nat} : nb4 x ≤ 2 * x := by unfold nb4; omega
theorem nb5_le {x : Nat} : nb5 x ≤ 2 * x := by unfold nb5; omega
theorem nb1_c {s : Nat} : (s : Int) - zand ((s : Int) / (2 : Int) ^ (1 : Int).toNat) 1431655765 = ((nb1 s : Nat) : Int) := by
  have h1 := Nat.and_le_left (n := s / 2 ^ 1) (m := 1431655765)
  show (s : Int) - (((s / 2 ^ 1 &&& 1431655765 : Nat)) : Int) = ((nb1 s : Nat) : Int)
  unfold nb1
  omega
set_option maxRecDepth 20000 in
set_option maxHeartbeats 1000000 in
theorem sp_J6_bitCount_0f7a4 {hh : mH} {s : Nat} (h1 : s < 524288) : SpI l 1 yJ6_bitCount_0f7a4 cJ6_bitCount_0f7a4 1 (some .int) [mi (s : Int)] (hh) (fun z h => z = ((nbc s : Nat) : Int) ∧ h = hh) := by
  have b1 := nb1_le (s := s)
  have b2 := nb2_le (x := nb1 s)
  have b3 := nb3_le (x := nb2 (nb1 s))
  have b4 := nb4_le (x := nb3 (nb2 (nb1 s)))
  have b5 := nb5_le (x := nb4 (nb3 (nb2 (nb1 s))))
  refine SpI.of (cd := kdJ6_bitCount_0f7a4) (fT := mlook flJ6) (kT := mlook klJ6) (kJ := mlook jlJ6) mfA_J6_bitCount_0f7a4 ok_J6_bitCount_0f7a4 fT_J6 kT_J6 jT_J6 jdk_ok True.intro (Nat.le_of_ble_eq_true rfl) (fun G hG => ?_)
  refine rRun hG 10 ?_
  refine And.intro (by exact ⟨⟨nn_n, by omega⟩, by decide⟩) (And.intro (by first | exact ⟨nn_n, by decide⟩ | exact ⟨nn_d, by decide⟩ | exact ⟨by omega, by decide⟩) (?_))
  refine rLess hG (L' := [some (mi (((nb1 s) : Nat) : Int))]) ⟨congrArg mi ?_, True.intro⟩ ?_
  · exact nb1_c.symm
  refine rRun hG 24 ?_
  refine And.intro (by first | exact ⟨nn_n, by decide⟩ | exact ⟨nn_d, by decide⟩ | exact ⟨by omega, by decide⟩) (And.intro (by exact ⟨⟨nn_n, by omega⟩, by decide⟩) (And.intro (by first | exact ⟨nn_n, by decide⟩ | exact ⟨nn_d, by decide⟩ | exact ⟨by omega, by decide⟩) (?_)))
  refine rLess hG (L' := [some (mi (((nb2 (nb1 s)) : Nat) : Int))]) ⟨congrArg mi ?_, True.intro⟩ ?_
  · rfl
  refine rRun hG 34 ?_
  refine And.intro (by exact ⟨⟨nn_n, by omega⟩, by decide⟩) (And.intro (by exact ⟨Int.add_nonneg nn_n nn_d, by decide⟩) (?_))
  refine rLess hG (L' := [some (mi (((nb3 (nb2 (nb1 s))) : Nat) : Int))]) ⟨congrArg mi ?_, True.intro⟩ ?_
  · rfl
  refine rRun hG 41 ?_
  refine And.intro (by exact ⟨⟨nn_n, by omega⟩, by decide⟩) (?_)
  refine rLess hG (L' := [some (mi (((nb4 (nb3 (nb2 (nb1 s)))) : Nat) : Int))]) ⟨congrArg mi ?_, True.intro⟩ ?_
  · rfl
  refine rRun hG 48 ?_
  refine And.intro (by exact ⟨⟨nn_n, by omega⟩, by decide⟩) (?_)
  refine rLess hG (L' := [some (mi (((nb5 (nb4 (nb3 (nb2 (nb1 s))))) : Nat) : Int))]) ⟨congrArg mi ?_, True.intro⟩ ?_
  · rfl
  refine rRun hG 99999 ?_
  refine And.intro (by first | exact ⟨nn_n, by decide⟩ | exact ⟨nn_d, by decide⟩ | exact ⟨by omega, by decide⟩) (?_)
  refine rIR hG rfl rfl (True.intro) ?_
  exact ⟨rfl, rfl⟩
def cldP (A : Nat → Nat → Bool) (d i : Nat) : Bool := fwA A (d + 1) i && bwA A (13 - d) i
def wdF (A : Nat → Nat → Bool) : Nat → Int × Int
  | 0 => (0, -9)
  | d + 1 => if (wdF A d).1 < ((nbc (bs (cldP A d) 19) : Nat) : Int) then (((nbc (bs (cldP A d) 19) : Nat) : Int), (d : Int)) else wdF A d
theorem wdF_s {A : Nat → Nat → Bool} {d : Nat} : wdF A (d + 1) = if (wdF A d).1 < ((nbc (bs (cldP A d) 19) : Nat) : Int) then (((nbc (bs (cldP A d) 19) : Nat) : Int), (d : Int)) else wdF A d := rfl
theorem nbc_in {s : Nat} : nbc s ≤ 63 := Nat.and_le_right
theorem wdF_in {A : Nat → Nat → Bool} : ∀ d, 0 ≤ (wdF A d).1 ∧ (wdF A d).1 ≤ 63
  | 0 => by show (0 : Int) ≤ 0 ∧ (0 : Int) ≤ 63; decide
  | d + 1 => by
    have ih := wdF_in (A := A) d
    have h := nbc_in (s := bs (cldP A d) 19)
    rw [wdF_s]
    split
    · exact ⟨by show (0 : Int) ≤ _; omega, by show _ ≤ (63 : Int); omega⟩
    · exact ih
set_option maxRecDepth 20000 in
set_option maxHeartbeats 1000000 in
theorem sp_X0_widestDay {uo : UD} {ux : XD} {ua ub : TD} {v0 v1 v2 : SD} {up uq : PD} {kH : Bool} {al hr lt : FN} {hd : Int} {A : Nat → Nat → Bool} (hA : alIs al A) : SpI l 3 yX0_widestDay cX0_widestDay 5 (some .int) [mr 23] (hC uo ux ua ub v0 v1 v2 up uq (kH, al, hr, lt, hd)) (fun z h => z = (wdF A 14).2 ∧ h = hC uo ux ua ub v0 v1 v2 up uq (kH, al, hr, lt, hd)) := by
  refine SpI.of (cd := kdX0_widestDay) (fT := mlook flX0) (kT := mlook klX0) (kJ := mlook jlX0) mfA_X0_widestDay ok_X0_widestDay fT_X0 kT_X0 jT_X0 jdk_ok True.intro (Nat.le_of_ble_eq_true rfl) (fun G hG => ?_)
  have J7 : ∀ (n d : Nat), d ≤ 14 → 14 - d < n → G 7 [some (mr 23), some (mi (wdF A d).1), some (mi (wdF A d).2), some (mi (d : Int)), none] [] (hC uo ux ua ub v0 v1 v2 up uq (kH, al, hr, lt, hd)) := by
    intro n
    induction n with
    | zero => intro d _ hm; exact absurd hm (Nat.not_lt_zero _)
    | succ n ih =>
      intro d hd2 hm
      have hwi := wdF_in (A := A) d
      have hni := nbc_in (s := bs (cldP A d) 19)
      refine rRun hG 99999 ?_
      refine And.intro (by first | omega | (dsimp only; omega)) (And.intro (fun c1 => ?_) (fun c1 => ?_))
      · try dsimp only at c1
        refine rRun hG 99999 ?_
        refine rIR hG rfl rfl (True.intro) ?_
        obtain rfl : d = 14 := by omega
        exact ⟨rfl, rfl⟩
      · try dsimp only at c1
        refine rV hG (sp_X0_errorsBehind (uo := uo) (ux := ux) (ua := ua) (ub := ub) (v0 := v0) (v1 := v1) (v2 := v2) (up := up) (uq := uq) (kH := kH) (al := al) (hr := hr) (lt := lt) (hd := hd) (d := d) (A := A) hA (by omega)) rfl rfl lk_X0_43 mf_X0_errorsBehind (by decide) (Nat.le_of_ble_eq_true rfl) ⟨_, _, _, rfl, rfl, rfl⟩ ?_
        rintro w _ ⟨hw, rfl⟩
        have hw9 : w = ((bs (cldP A d) 19 : Nat) : Int) := hw
        clear hw
        subst hw9
        refine rS hG (sp_J6_bitCount_0f7a4 (s := bs (cldP A d) 19) (by have := bs_lt (P := cldP A d) 19; omega)) rfl rfl lk_X0_46 mf_J6_bitCount_0f7a4 (by decide) (Nat.le_of_ble_eq_true rfl) ?_
        rintro _ _ ⟨rfl, rfl⟩
        refine rRun hG 99999 ?_
        refine And.intro (by first | omega | (dsimp only; omega)) (And.intro (fun cc => ?_) (fun cc => ?_))
        · try dsimp only at cc
          refine rRun hG 99999 ?_
          have e9 := ih (d + 1) (by omega) (by omega)
          rw [wdF_s] at e9
          first | rw [if_pos (Int.not_le.mp cc)] at e9 | rw [if_neg (Int.not_lt.mpr cc)] at e9
          refine rLess hG ?_ e9
          exact ⟨rfl, rfl, rfl, rfl, True.intro⟩
        · try dsimp only at cc
          have e9 := ih (d + 1) (by omega) (by omega)
          rw [wdF_s] at e9
          first | rw [if_pos (Int.not_le.mp cc)] at e9 | rw [if_neg (Int.not_lt.mpr cc)] at e9
          refine rLess hG ?_ e9
          exact ⟨rfl, rfl, rfl, rfl, True.intro⟩
  refine rRun hG 7 ?_
  exact J7 15 0 (by omega) (by omega)
end WALKS
end
section
/-! Story: copy, begin; the class itself: what is told, what is done -/
section WALKS
variable {l : Launch}
set_option maxRecDepth 20000 in
set_option maxHeartbeats 1500000 in
theorem sp_X3_copy_a {uo : UD} {ux : XD} {ua ub : TD} {v0 v1 v2 : SD} {up uq : PD} {ur : HD}   : SpV l 1 yX3_copy cX3_copy 2 none [mr 13, mr 11] (hC uo ux ua ub v0 v1 v2 up uq ur) (fun h => h = hC uo ux ua ub v0 (mcpy v0.1 v1.1 0 0 99, v0.2.1, v1.2.2) v2 up uq ur) := by
  refine SpV.of (cd := kdX3_copy) (fT := mlook flX3) (kT := mlook klX3) (kJ := mlook jlX3) mfA_X3_copy ok_X3_copy fT_X3 kT_X3 jT_X3 jdk_ok True.intro (Nat.le_of_ble_eq_true rfl) (fun G hG => ?_)
  refine rRun hG 99999 ?_
  refine And.intro rfl (And.intro rfl (And.intro rfl (And.intro (by decide) (?_))))
  refine rCpy hG rfl rfl lk_X3_23 (by decide) (Nat.le_of_ble_eq_true rfl) rfl rfl (by exact ⟨⟨by decide, by decide, by decide⟩, by decide, by decide, by decide, by decide⟩) ?_
  refine rRun hG 99999 ?_
  refine And.intro rfl (And.intro ⟨rfl, by exact Nat.le_of_ble_eq_true rfl, by first | exact True.intro | exact Or.inl rfl | exact Or.inr rfl⟩ (?_))
  refine rVR hG rfl rfl rfl ?_
  rfl
set_option maxRecDepth 20000 in
set_option maxHeartbeats 1500000 in
theorem sp_X3_copy_b {uo : UD} {ux : XD} {ua ub : TD} {v0 v1 v2 : SD} {up uq : PD} {ur : HD}   : SpV l 1 yX3_copy cX3_copy 2 none [mr 15, mr 11] (hC uo ux ua ub v0 v1 v2 up uq ur) (fun h => h = hC uo ux ua ub v0 v1 (mcpy v0.1 v2.1 0 0 99, v0.2.1, v2.2.2) up uq ur) := by
  refine SpV.of (cd := kdX3_copy) (fT := mlook flX3) (kT := mlook klX3) (kJ := mlook jlX3) mfA_X3_copy ok_X3_copy fT_X3 kT_X3 jT_X3 jdk_ok True.intro (Nat.le_of_ble_eq_true rfl) (fun G hG => ?_)
  refine rRun hG 99999 ?_
  refine And.intro rfl (And.intro rfl (And.intro rfl (And.intro (by decide) (?_))))
  refine rCpy hG rfl rfl lk_X3_23 (by decide) (Nat.le_of_ble_eq_true rfl) rfl rfl (by exact ⟨⟨by decide, by decide, by decide⟩, by decide, by decide, by decide, by decide⟩) ?_
  refine rRun hG 99999 ?_
  refine And.intro rfl (And.intro ⟨rfl, by exact Nat.le_of_ble_eq_true rfl, by first | exact True.intro | exact Or.inl rfl | exact Or.inr rfl⟩ (?_))
  refine rVR hG rfl rfl rfl ?_
  rfl
set_option maxRecDepth 20000 in
set_option maxHeartbeats 1500000 in
theorem sp_X3_copy_c {uo : UD} {ux : XD} {ua ub : TD} {v0 v1 v2 : SD} {up uq : PD} {ur : HD}   : SpV l 1 yX3_copy cX3_copy 2 none [mr 11, mr 13] (hC uo ux ua ub v0 v1 v2 up uq ur) (fun h => h = hC uo ux ua ub (mcpy v1.1 v0.1 0 0 99, v1.2.1, v0.2.2) v1 v2 up uq ur) := by
  refine SpV.of (cd := kdX3_copy) (fT := mlook flX3) (kT := mlook klX3) (kJ := mlook jlX3) mfA_X3_copy ok_X3_copy fT_X3 kT_X3 jT_X3 jdk_ok True.intro (Nat.le_of_ble_eq_true rfl) (fun G hG => ?_)
  refine rRun hG 99999 ?_
  refine And.intro rfl (And.intro rfl (And.intro rfl (And.intro (by decide) (?_))))
  refine rCpy hG rfl rfl lk_X3_23 (by decide) (Nat.le_of_ble_eq_true rfl) rfl rfl (by exact ⟨⟨by decide, by decide, by decide⟩, by decide, by decide, by decide, by decide⟩) ?_
  refine rRun hG 99999 ?_
  refine And.intro rfl (And.intro ⟨rfl, by exact Nat.le_of_ble_eq_true rfl, by first | exact True.intro | exact Or.inl rfl | exact Or.inr rfl⟩ (?_))
  refine rVR hG rfl rfl rfl ?_
  rfl
set_option maxRecDepth 20000 in
set_option maxHeartbeats 1500000 in
theorem sp_X3_copy_d {uo : UD} {ux : XD} {ua ub : TD} {v0 v1 v2 : SD} {up uq : PD} {ur : HD}   : SpV l 1 yX3_copy cX3_copy 2 none [mr 11, mr 15] (hC uo ux ua ub v0 v1 v2 up uq ur) (fun h => h = hC uo ux ua ub (mcpy v2.1 v0.1 0 0 99, v2.2.1, v0.2.2) v1 v2 up uq ur) := by
  refine SpV.of (cd := kdX3_copy) (fT := mlook flX3) (kT := mlook klX3) (kJ := mlook jlX3) mfA_X3_copy ok_X3_copy fT_X3 kT_X3 jT_X3 jdk_ok True.intro (Nat.le_of_ble_eq_true rfl) (fun G hG => ?_)
  refine rRun hG 99999 ?_
  refine And.intro rfl (And.intro rfl (And.intro rfl (And.intro (by decide) (?_))))
  refine rCpy hG rfl rfl lk_X3_23 (by decide) (Nat.le_of_ble_eq_true rfl) rfl rfl (by exact ⟨⟨by decide, by decide, by decide⟩, by decide, by decide, by decide, by decide⟩) ?_
  refine rRun hG 99999 ?_
  refine And.intro rfl (And.intro ⟨rfl, by exact Nat.le_of_ble_eq_true rfl, by first | exact True.intro | exact Or.inl rfl | exact Or.inr rfl⟩ (?_))
  refine rVR hG rfl rfl rfl ?_
  rfl
def begM (mo : FN) : Nat → FN
  | 0 => mo
  | i + 1 => mup (begM mo i) i 0
theorem begM_in {mo : FN} : ∀ {i j : Nat}, j < i → begM mo i j = 0
  | i + 1, j, h => by
    show mup (begM mo i) i 0 j = 0
    by_cases q : j = i
    · subst q; exact mup_s
    · rw [mup_n q]; exact begM_in (by omega)
set_option maxRecDepth 20000 in
set_option maxHeartbeats 1500000 in
theorem sp_X3_begin {uo : UD} {ux : XD} {ua ub : TD} {mo : FN} {kn kp : Int} {v1 v2 : SD} {up uq : PD} {ur : HD} {r : Int}  : SpV l 1 yX3_begin cX3_begin 3 none [mr 11, mi r] (hC uo ux ua ub (mo, kn, kp) v1 v2 up uq ur) (fun h => h = hC uo ux ua ub (mup (begM mo 9) 1 r, 0, kp) v1 v2 up uq ur) := by
  refine SpV.of (cd := kdX3_begin) (fT := mlook flX3) (kT := mlook klX3) (kJ := mlook jlX3) mfA_X3_begin ok_X3_begin fT_X3 kT_X3 jT_X3 jdk_ok True.intro (Nat.le_of_ble_eq_true rfl) (fun G hG => ?_)
  refine rRun hG 2 ?_
  have J2 : ∀ (n : Nat) (i : Nat), i ≤ 9 → 9 - i < n → G 2 [some (mr 11), some (mi r), some (mi (i : Int))] [] (hC uo ux ua ub (begM mo i, kn, kp) v1 v2 up uq ur) := by
    intro n
    induction n with
    | zero => intro i _ hm; exact absurd hm (Nat.not_lt_zero _)
    | succ n ih =>
      intro i hinv hm
      refine rRun hG 30 ?_
      refine And.intro (by first | omega | (dsimp only; omega)) (And.intro (fun c1 => ?_) (fun c1 => ?_))
      · try dsimp only at c1
        obtain rfl : i = 9 := by omega
        refine rRun hG 99999 ?_
        refine And.intro rfl (And.intro (by decide) (And.intro ⟨rfl, by exact Nat.le_of_ble_eq_true rfl, by first | exact True.intro | exact Or.inl rfl | exact Or.inr rfl⟩ (?_)))
        refine rVR hG rfl rfl rfl ?_
        rfl
      · try dsimp only at c1
        refine And.intro rfl (And.intro (by decide) (And.intro (by first | omega | (dsimp only; omega)) (And.intro (fun c2 => ?_) (fun c2 => ?_))))
        · try dsimp only at c2
          exfalso; omega
        · try dsimp only at c2
          refine And.intro rfl (And.intro (by first | omega | (dsimp only; omega)) (?_))
          exact ih (i + 1) (by omega) (by omega)
  exact J2 _ 0 (by omega) (Nat.lt_succ_self _)
def xAdd (x : XD) (c : Int) : XD := (mup (xB x) (xN x).toNat c, xN x + 1, xP x, xS x, xK x, xV x, xF x, xR x, xL x, xA x)
def xClr (x : XD) : XD := (xB x, 0, xP x, xS x, xK x, xV x, xF x, xR x, xL x, xA x)
set_option maxRecDepth 20000 in
set_option maxHeartbeats 1500000 in
theorem sp_X6_type {k : Bool} {asked : Int} {ux : XD} {ua ub : TD} {mo : FN} {kn kp : Int} {v1 v2 : SD} {up uq : PD} {ur : HD} {c : Int} (h1 : inI c) (hn : 0 ≤ xN ux ∧ xN ux ≤ 150) : SpI l 2 yX6_type cX6_type 2 (some .int) [mr 0, mi c] (hC (k, asked) ux ua ub (mo, kn, kp) v1 v2 up uq ur) (fun z h => ((c < 0 ∨ 255 < c) ∧ z = -1 ∧ h = hC (k, asked) ux ua ub (mo, kn, kp) v1 v2 up uq ur) ∨ ((0 ≤ c ∧ c ≤ 255 ∧ 150 ≤ xN ux) ∧ z = -3 ∧ h = hC (k, asked) ux ua ub (mo, kn, kp) v1 v2 up uq ur) ∨ ((0 ≤ c ∧ c ≤ 255 ∧ xN ux < 150) ∧ z = xN ux + 1 ∧ h = hC (k, asked) (xAdd ux c) ua ub (mo, kn, kp) v1 v2 up uq ur)) := by
  refine SpI.of (cd := kdX6_type) (fT := mlook flX6) (kT := mlook klX6) (kJ := mlook jlX6) mfA_X6_type ok_X6_type fT_X6 kT_X6 jT_X6 jdk_ok True.intro (Nat.le_of_ble_eq_true rfl) (fun G hG => ?_)
  refine rRun hG 99999 ?_
  refine And.intro (by first | omega | (dsimp only; omega)) (And.intro (fun c1 => ?_) (fun c1 => ?_))
  · try dsimp only at c1
    refine rRun hG 99999 ?_
    refine rIR hG rfl rfl (True.intro) ?_
    exact Or.inl ⟨by omega, rfl, rfl⟩
  · try dsimp only at c1
    refine And.intro (by first | omega | (dsimp only; omega)) (And.intro (fun c2 => ?_) (fun c2 => ?_))
    · try dsimp only at c2
      refine rRun hG 99999 ?_
      refine And.intro rfl (?_)
      refine rV hG (sp_X4_add (uo := (k, asked)) (ux := ux) (ua := ua) (ub := ub) (v0 := (mo, kn, kp)) (v1 := v1) (v2 := v2) (up := up) (uq := uq) (ur := ur) (c := c) hn) rfl rfl lk_X6_72 mf_X4_add (by decide) (Nat.le_of_ble_eq_true rfl) ⟨_, _, _, rfl, rfl, rfl⟩ ?_
      rintro w _ hw
      have hw1 : (w = 0 ∧ 150 ≤ xN ux) ∨ (w = 1 ∧ xN ux < 150) := by rcases hw with q | q <;> omega
      refine rRun hG 99999 ?_
      refine And.intro (by first | omega | (dsimp only; omega)) (And.intro (fun cw => ?_) (fun cw => ?_))
      · try dsimp only at cw
        rcases hw with ⟨q1, q2, rfl⟩ | ⟨q1, q2, rfl⟩
        all_goals try (exfalso; omega)
        refine rRun hG 99999 ?_
        refine rIR hG rfl rfl (True.intro) ?_
        first | exact Or.inr (Or.inl ⟨by omega, rfl, rfl⟩) | exact Or.inr (Or.inr ⟨by omega, rfl, rfl⟩)
      · try dsimp only at cw
        rcases hw with ⟨q1, q2, rfl⟩ | ⟨q1, q2, rfl⟩
        · exfalso; omega
        refine And.intro rfl (And.intro rfl (?_))
        refine rIR hG rfl rfl (True.intro) ?_
        first | exact Or.inr (Or.inl ⟨by omega, rfl, rfl⟩) | exact Or.inr (Or.inr ⟨by omega, rfl, rfl⟩)
    · try dsimp only at c2
      refine rIR hG rfl rfl (True.intro) ?_
      exact Or.inl ⟨by omega, rfl, rfl⟩
set_option maxRecDepth 20000 in
set_option maxHeartbeats 1500000 in
theorem sp_X6_clear {k : Bool} {asked : Int} {ux : XD} {ua ub : TD} {mo : FN} {kn kp : Int} {v1 v2 : SD} {up uq : PD} {ur : HD}   : SpI l 1 yX6_clear cX6_clear 2 (some .int) [mr 0] (hC (k, asked) ux ua ub (mo, kn, kp) v1 v2 up uq ur) (fun z h => z = xN ux ∧ h = hC (k, asked) (xClr ux) ua ub (mo, kn, kp) v1 v2 up uq ur) := by
  refine SpI.of (cd := kdX6_clear) (fT := mlook flX6) (kT := mlook klX6) (kJ := mlook jlX6) mfA_X6_clear ok_X6_clear fT_X6 kT_X6 jT_X6 jdk_ok True.intro (Nat.le_of_ble_eq_true rfl) (fun G hG => ?_)
  refine rRun hG 99999 ?_
  refine And.intro rfl (And.intro rfl (And.intro rfl (And.intro ⟨rfl, by exact Nat.le_of_ble_eq_true rfl, by first | exact True.intro | exact Or.inl rfl | exact Or.inr rfl⟩ (?_))))
  refine rIR hG rfl rfl (True.intro) ?_
  exact ⟨rfl, rfl⟩
set_option maxRecDepth 20000 in
set_option maxHeartbeats 1500000 in
theorem sp_X6_sun {k : Bool} {asked : Int} {ux : XD} {ua ub : TD} {mo : FN} {kn kp : Int} {v1 v2 : SD} {up uq : PD} {ur : HD} {t : TD} (ht : t = tsel k ua ub) {d : Int} (h1 : inI d) (h2 : inI (tDay t)) : SpI l 2 yX6_sun cX6_sun 2 (some .int) [mr 0, mi d] (hC (k, asked) ux ua ub (mo, kn, kp) v1 v2 up uq ur) (fun z h => z = (if 0 ≤ d ∧ d < tDay t ∧ d < 14 then tSun t d.toNat else -1) ∧ h = hC (k, asked) ux ua ub (mo, kn, kp) v1 v2 up uq ur) := by
  refine SpI.of (cd := kdX6_sun) (fT := mlook flX6) (kT := mlook klX6) (kJ := mlook jlX6) mfA_X6_sun ok_X6_sun fT_X6 kT_X6 jT_X6 jdk_ok True.intro (Nat.le_of_ble_eq_true rfl) (fun G hG => ?_)
  refine rRun hG 99999 ?_
  refine And.intro rfl (?_)
  refine rV hG (sp_X5_sunOf (uo := (k, asked)) (ux := ux) (ua := ua) (ub := ub) (v0 := (mo, kn, kp)) (v1 := v1) (v2 := v2) (up := up) (uq := uq) (ur := ur) (k := k) (t := t) ht (i := d) h1 h2) rfl rfl lk_X6_90 mf_X5_sunOf (by decide) (Nat.le_of_ble_eq_true rfl) (by cases k <;> exact ⟨_, _, _, rfl, rfl, rfl⟩) ?_
  rintro _ _ ⟨rfl, rfl⟩
  refine rIR hG rfl rfl (True.intro) ?_
  exact ⟨rfl, rfl⟩
set_option maxRecDepth 20000 in
set_option maxHeartbeats 1500000 in
theorem sp_X6_bribe {k : Bool} {asked : Int} {ux : XD} {ua ub : TD} {mo : FN} {kn kp : Int} {v1 v2 : SD} {up uq : PD} {ur : HD} {t : TD} (ht : t = tsel k ua ub) {b w : Int} (h1 : inI b) (h2 : inI w) (h3 : 0 ≤ tNB t ∧ tNB t ≤ 6) : SpI l 2 yX6_bribe cX6_bribe 3 (some .int) [mr 0, mi b, mi w] (hC (k, asked) ux ua ub (mo, kn, kp) v1 v2 up uq ur) (fun z h => z = (if 0 ≤ b ∧ b < tNB t ∧ 0 ≤ w ∧ w ≤ 3 then tBri t (4 * b + w).toNat else -1000000) ∧ h = hC (k, asked) ux ua ub (mo, kn, kp) v1 v2 up uq ur) := by
  cases k
  · obtain rfl : t = ua := ht
    refine SpI.of (cd := kdX6_bribe) (fT := mlook flX6) (kT := mlook klX6) (kJ := mlook jlX6) mfA_X6_bribe ok_X6_bribe fT_X6 kT_X6 jT_X6 jdk_ok True.intro (Nat.le_of_ble_eq_true rfl) (fun G hG => ?_)
    refine rRun hG 99999 ?_
    refine And.intro (by first | omega | (dsimp only; omega)) (And.intro (fun c1 => ?_) (fun c1 => ?_))
    · try dsimp only at c1
      refine rRun hG 99999 ?_
      refine rIR hG rfl rfl (True.intro) ?_
      exact ⟨by first | (rw [if_pos (by omega)]; done) | (rw [if_neg (by omega)]; done), rfl⟩
    · try dsimp only at c1
      refine And.intro rfl (And.intro rfl (And.intro (by first | omega | (dsimp only; omega)) (And.intro (fun c2 => ?_) (fun c2 => ?_))))
      · try dsimp only at c2
        refine rRun hG 99999 ?_
        refine rIR hG rfl rfl (True.intro) ?_
        exact ⟨by first | (rw [if_pos (by omega)]; done) | (rw [if_neg (by omega)]; done), rfl⟩
      · try dsimp only at c2
        refine And.intro (by first | omega | (dsimp only; omega)) (And.intro (fun c3 => ?_) (fun c3 => ?_))
        · try dsimp only at c3
          refine rRun hG 99999 ?_
          refine rIR hG rfl rfl (True.intro) ?_
          exact ⟨by first | (rw [if_pos (by omega)]; done) | (rw [if_neg (by omega)]; done), rfl⟩
        · try dsimp only at c3
          refine And.intro (by first | omega | (dsimp only; omega)) (And.intro (fun c4 => ?_) (fun c4 => ?_))
          · try dsimp only at c4
            refine rRun hG 99999 ?_
            refine And.intro rfl (?_)
            refine rV hG (sp_X5_ofBribe (uo := (false, asked)) (ux := ux) (ua := t) (ub := ub) (v0 := (mo, kn, kp)) (v1 := v1) (v2 := v2) (up := up) (uq := uq) (ur := ur) (k := false) (t := t) (ht := rfl) (b := b) (w := w) (by omega)) rfl rfl lk_X6_98 mf_X5_ofBribe (by decide) (Nat.le_of_ble_eq_true rfl) ⟨_, _, _, rfl, rfl, rfl⟩ ?_
            rintro z _ ⟨hz, rfl⟩
            refine rIR hG rfl rfl (True.intro) ?_
            refine ⟨?_, rfl⟩
            rw [hz, if_pos (by omega), if_pos (by omega)]
          · try dsimp only at c4
            refine rIR hG rfl rfl (True.intro) ?_
            exact ⟨by first | (rw [if_pos (by omega)]; done) | (rw [if_neg (by omega)]; done), rfl⟩
  · obtain rfl : t = ub := ht
    refine SpI.of (cd := kdX6_bribe) (fT := mlook flX6) (kT := mlook klX6) (kJ := mlook jlX6) mfA_X6_bribe ok_X6_bribe fT_X6 kT_X6 jT_X6 jdk_ok True.intro (Nat.le_of_ble_eq_true rfl) (fun G hG => ?_)
    refine rRun hG 99999 ?_
    refine And.intro (by first | omega | (dsimp only; omega)) (And.intro (fun c1 => ?_) (fun c1 => ?_))
    · try dsimp only at c1
      refine rRun hG 99999 ?_
      refine rIR hG rfl rfl (True.intro) ?_
      exact ⟨by first | (rw [if_pos (by omega)]; done) | (rw [if_neg (by omega)]; done), rfl⟩
    · try dsimp only at c1
      refine And.intro rfl (And.intro rfl (And.intro (by first | omega | (dsimp only; omega)) (And.intro (fun c2 => ?_) (fun c2 => ?_))))
      · try dsimp only at c2
        refine rRun hG 99999 ?_
        refine rIR hG rfl rfl (True.intro) ?_
        exact ⟨by first | (rw [if_pos (by omega)]; done) | (rw [if_neg (by omega)]; done), rfl⟩
      · try dsimp only at c2
        refine And.intro (by first | omega | (dsimp only; omega)) (And.intro (fun c3 => ?_) (fun c3 => ?_))
        · try dsimp only at c3
          refine rRun hG 99999 ?_
          refine rIR hG rfl rfl (True.intro) ?_
          exact ⟨by first | (rw [if_pos (by omega)]; done) | (rw [if_neg (by omega)]; done), rfl⟩
        · try dsimp only at c3
          refine And.intro (by first | omega | (dsimp only; omega)) (And.intro (fun c4 => ?_) (fun c4 => ?_))
          · try dsimp only at c4
            refine rRun hG 99999 ?_
            refine And.intro rfl (?_)
            refine rV hG (sp_X5_ofBribe (uo := (true, asked)) (ux := ux) (ua := ua) (ub := t) (v0 := (mo, kn, kp)) (v1 := v1) (v2 := v2) (up := up) (uq := uq) (ur := ur) (k := true) (t := t) (ht := rfl) (b := b) (w := w) (by omega)) rfl rfl lk_X6_98 mf_X5_ofBribe (by decide) (Nat.le_of_ble_eq_true rfl) ⟨_, _, _, rfl, rfl, rfl⟩ ?_
            rintro z _ ⟨hz, rfl⟩
            refine rIR hG rfl rfl (True.intro) ?_
            refine ⟨?_, rfl⟩
            rw [hz, if_pos (by omega), if_pos (by omega)]
          · try dsimp only at c4
            refine rIR hG rfl rfl (True.intro) ?_
            exact ⟨by first | (rw [if_pos (by omega)]; done) | (rw [if_neg (by omega)]; done), rfl⟩
set_option maxRecDepth 20000 in
set_option maxHeartbeats 1500000 in
theorem sp_X6_trade {k : Bool} {asked : Int} {ux : XD} {ua ub : TD} {mo : FN} {kn kp : Int} {v1 v2 : SD} {up uq : PD} {ur : HD} {t : TD} (ht : t = tsel k ua ub) {i w : Int} (h1 : inI i) (h2 : inI w) (h3 : 0 ≤ tNT t ∧ tNT t ≤ 4) : SpI l 2 yX6_trade cX6_trade 3 (some .int) [mr 0, mi i, mi w] (hC (k, asked) ux ua ub (mo, kn, kp) v1 v2 up uq ur) (fun z h => z = (if 0 ≤ i ∧ i < tNT t ∧ 0 ≤ w ∧ w ≤ 2 then (if w = 2 then mo (5 + i).toNat else tTra t (2 * i + w).toNat) else -1) ∧ h = hC (k, asked) ux ua ub (mo, kn, kp) v1 v2 up uq ur) := by
  refine SpI.of (cd := kdX6_trade) (fT := mlook flX6) (kT := mlook klX6) (kJ := mlook jlX6) mfA_X6_trade ok_X6_trade fT_X6 kT_X6 jT_X6 jdk_ok True.intro (Nat.le_of_ble_eq_true rfl) (fun G hG => ?_)
  refine rRun hG 99999 ?_
  refine And.intro rfl (?_)
  refine rV hG (sp_X5_hasTrade (uo := (k, asked)) (ux := ux) (ua := ua) (ub := ub) (v0 := (mo, kn, kp)) (v1 := v1) (v2 := v2) (up := up) (uq := uq) (ur := ur) (k := k) (t := t) ht (i := i) h1 (by omega)) rfl rfl lk_X6_102 mf_X5_hasTrade (by decide) (Nat.le_of_ble_eq_true rfl) (by cases k <;> exact ⟨_, _, _, rfl, rfl, rfl⟩) ?_
  rintro w9 _ ⟨hw, rfl⟩
  have w91 : (w9 = 1 ∧ (0 ≤ i ∧ i < tNT t)) ∨ (w9 = 0 ∧ ¬ (0 ≤ i ∧ i < tNT t)) := (by rw [hw]; by_cases q9 : (0 ≤ i ∧ i < tNT t) <;> simp [q9])
  clear hw
  refine rRun hG 99999 ?_
  refine And.intro (by first | omega | (dsimp only; omega)) (And.intro (fun c2 => ?_) (fun c2 => ?_))
  · try dsimp only at c2
    refine rRun hG 99999 ?_
    refine rIR hG rfl rfl (True.intro) ?_
    refine ⟨?_, rfl⟩
    rw [if_neg (by omega)]
  · try dsimp only at c2
    refine And.intro (by first | omega | (dsimp only; omega)) (And.intro (fun c3 => ?_) (fun c3 => ?_))
    · try dsimp only at c3
      refine rRun hG 99999 ?_
      refine rIR hG rfl rfl (True.intro) ?_
      refine ⟨?_, rfl⟩
      rw [if_neg (by omega)]
    · try dsimp only at c3
      refine And.intro (by first | omega | (dsimp only; omega)) (And.intro (fun c4 => ?_) (fun c4 => ?_))
      · try dsimp only at c4
        refine rRun hG 99999 ?_
        refine And.intro (by first | omega | (dsimp only; omega)) (And.intro (fun c5 => ?_) (fun c5 => ?_))
        · try dsimp only at c5
          refine rRun hG 99999 ?_
          refine And.intro rfl (?_)
          refine rV hG (sp_X5_ofTrade (uo := (k, asked)) (ux := ux) (ua := ua) (ub := ub) (v0 := (mo, kn, kp)) (v1 := v1) (v2 := v2) (up := up) (uq := uq) (ur := ur) (k := k) (t := t) ht (b := i) (w := w) (by omega)) rfl rfl lk_X6_108 mf_X5_ofTrade (by decide) (Nat.le_of_ble_eq_true rfl) (by cases k <;> exact ⟨_, _, _, rfl, rfl, rfl⟩) ?_
          rintro z _ ⟨hz, rfl⟩
          refine rIR hG rfl rfl (True.intro) ?_
          refine ⟨?_, rfl⟩
          rw [hz]
          first | rw [if_pos (by omega), if_pos (by omega), if_pos (by omega)] | rw [if_pos (by omega), if_pos (by omega), if_neg (by omega)]
        · try dsimp only at c5
          refine And.intro rfl (?_)
          refine rV hG (sp_X3_harmOf (uo := (k, asked)) (ux := ux) (ua := ua) (ub := ub) (mo := mo) (kn := kn) (kp := kp) (v1 := v1) (v2 := v2) (up := up) (uq := uq) (ur := ur) (i := i) h1) rfl rfl lk_X6_105 mf_X3_harmOf (by decide) (Nat.le_of_ble_eq_true rfl) ⟨_, _, _, rfl, rfl, rfl⟩ ?_
          rintro z _ ⟨hz, rfl⟩
          refine rRun hG 99999 ?_
          refine rIR hG rfl rfl (True.intro) ?_
          refine ⟨?_, rfl⟩
          rw [hz]
          first | rw [if_pos (by omega), if_pos (by omega), if_pos (by omega)] | rw [if_pos (by omega), if_pos (by omega), if_neg (by omega)]
      · try dsimp only at c4
        refine rIR hG rfl rfl (True.intro) ?_
        refine ⟨?_, rfl⟩
        rw [if_neg (by omega)]
set_option maxRecDepth 20000 in
set_option maxHeartbeats 1500000 in
theorem sp_X6_undo {k : Bool} {asked : Int} {ux : XD} {ua ub : TD} {mo : FN} {kn kp : Int} {v1 v2 : SD} {up uq : PD} {ur : HD}  (h0 : 0 ≤ kn ∧ kn ≤ 10) : SpI l 2 yX6_undo cX6_undo 1 (some .int) [mr 0] (hC (k, asked) ux ua ub (mo, kn, kp) v1 v2 up uq ur) (fun z h => z = (if 0 < kn then kn - 1 else -2) ∧ h = hC (k, asked) ux ua ub (if 0 < kn then mcpy mo mo 9 0 90 else mo, if 0 < kn then kn - 1 else kn, kp) v1 v2 up uq ur) := by
  refine SpI.of (cd := kdX6_undo) (fT := mlook flX6) (kT := mlook klX6) (kJ := mlook jlX6) mfA_X6_undo ok_X6_undo fT_X6 kT_X6 jT_X6 jdk_ok True.intro (Nat.le_of_ble_eq_true rfl) (fun G hG => ?_)
  refine rRun hG 99999 ?_
  refine And.intro rfl (?_)
  refine rV hG (sp_X3_recall (uo := (k, asked)) (ux := ux) (ua := ua) (ub := ub) (mo := mo) (kn := kn) (kp := kp) (v1 := v1) (v2 := v2) (up := up) (uq := uq) (ur := ur) h0) rfl rfl lk_X6_141 mf_X3_recall (by decide) (Nat.le_of_ble_eq_true rfl) ⟨_, _, _, rfl, rfl, rfl⟩ ?_
  rintro w _ ⟨hw, rfl⟩
  have w1 : (w = 1 ∧ (0 < kn)) ∨ (w = 0 ∧ ¬ (0 < kn)) := (by rw [hw]; by_cases q9 : (0 < kn) <;> simp [q9])
  clear hw
  refine rRun hG 99999 ?_
  refine And.intro (by first | omega | (dsimp only; omega)) (And.intro (fun c2 => ?_) (fun c2 => ?_))
  · try dsimp only at c2
    refine rRun hG 99999 ?_
    refine rIR hG rfl rfl (True.intro) ?_
    refine ⟨?_, rfl⟩
    first | rw [if_neg (by omega)] | (dsimp only; rw [if_pos (by omega), if_pos (by omega)]) | (show (if 0 < kn then kn - 1 else kn) = _; rw [if_pos (by omega), if_pos (by omega)])
  · try dsimp only at c2
    refine And.intro rfl (And.intro rfl (?_))
    refine rIR hG rfl rfl (True.intro) ?_
    refine ⟨?_, rfl⟩
    first | rw [if_neg (by omega)] | (dsimp only; rw [if_pos (by omega), if_pos (by omega)]) | (show (if 0 < kn then kn - 1 else kn) = _; rw [if_pos (by omega), if_pos (by omega)])
set_option maxRecDepth 20000 in
set_option maxHeartbeats 1500000 in
theorem sp_X6_soonest {k : Bool} {asked : Int} {ux : XD} {ua ub : TD} {mo : FN} {kn kp : Int} {v1 v2 : SD} {up uq : PD} {ur : HD} {t : TD} (ht : t = tsel k ua ub)  (h0 : 0 ≤ tDay t ∧ tDay t ≤ 14) (h1 : 0 ≤ mo 0 ∧ mo 0 ≤ tDay t) (h2 : -100 ≤ mo 2 ∧ mo 2 ≤ 100) (h3 : 0 ≤ mo 1 ∧ mo 1 ≤ 1000) : SpI l 5 yX6_soonest cX6_soonest 1 (some .int) [mr 0] (hC (k, asked) ux ua ub (mo, kn, kp) v1 v2 up uq ur) (fun z h => z = soonR (mo 1) (mo 2) ((tDay t - mo 0).toNat + 1) 0 ∧ h = hC (k, asked) ux ua ub (mo, kn, kp) v1 v2 up uq ur) := by
  refine SpI.of (cd := kdX6_soonest) (fT := mlook flX6) (kT := mlook klX6) (kJ := mlook jlX6) mfA_X6_soonest ok_X6_soonest fT_X6 kT_X6 jT_X6 jdk_ok True.intro (Nat.le_of_ble_eq_true rfl) (fun G hG => ?_)
  refine rRun hG 99999 ?_
  refine And.intro rfl (And.intro rfl (?_))
  refine rV hG (sp_X3_soonestFree (uo := (k, asked)) (ux := ux) (ua := ua) (ub := ub) (mo := mo) (kn := kn) (kp := kp) (v1 := v1) (v2 := v2) (up := up) (uq := uq) (ur := ur) (k := k) (t := t) ht h0 h1 h2 h3) rfl rfl lk_X6_165 mf_X3_soonestFree (by decide) (Nat.le_of_ble_eq_true rfl) ⟨_, _, _, rfl, rfl, rfl⟩ ?_
  rintro _ _ ⟨rfl, rfl⟩
  refine rIR hG rfl rfl (True.intro) ?_
  exact ⟨rfl, rfl⟩
set_option maxRecDepth 20000 in
set_option maxHeartbeats 1500000 in
theorem sp_X6_catches {k : Bool} {asked : Int} {ux : XD} {ua ub : TD} {mo : FN} {kn kp : Int} {v1 v2 : SD} {up uq : PD} {ur : HD} {t : TD} (ht : t = tsel k ua ub) {pace : Int} (hp : inI pace) (h0 : 0 ≤ tDay t ∧ tDay t ≤ 14) (h1 : 0 ≤ mo 0 ∧ mo 0 ≤ tDay t) (h2 : -100 ≤ mo 2 ∧ mo 2 ≤ 100) (h3 : 0 ≤ mo 1 ∧ mo 1 ≤ 1000) (h5 : 0 ≤ tLim t ∧ tLim t ≤ 6) : SpI l 5 yX6_catches cX6_catches 2 (some .int) [mr 0, mi pace] (hC (k, asked) ux ua ub (mo, kn, kp) v1 v2 up uq ur) (fun z h => z = (if -2 ≤ pace ∧ pace ≤ 3 then (if tDay t ≤ mo 0 ∨ mo 1 = 0 then -9 else catR (tLim t) pace ((tDay t - mo 0).toNat + 1) 0 (mo 2) (mo 1)) else -1) ∧ h = hC (k, asked) ux ua ub (mo, kn, kp) v1 v2 up uq ur) := by
  refine SpI.of (cd := kdX6_catches) (fT := mlook flX6) (kT := mlook klX6) (kJ := mlook jlX6) mfA_X6_catches ok_X6_catches fT_X6 kT_X6 jT_X6 jdk_ok True.intro (Nat.le_of_ble_eq_true rfl) (fun G hG => ?_)
  refine rRun hG 99999 ?_
  refine rS hG (sp_X6_isPace (e := pace) hp) rfl rfl lk_X6_111 mf_X6_isPace (by decide) (Nat.le_of_ble_eq_true rfl) ?_
  rintro w _ ⟨hw, rfl⟩
  have w1 : (w = 1 ∧ (-2 ≤ pace ∧ pace ≤ 3)) ∨ (w = 0 ∧ ¬ (-2 ≤ pace ∧ pace ≤ 3)) := (by rw [hw]; by_cases q9 : (-2 ≤ pace ∧ pace ≤ 3) <;> simp [q9])
  clear hw
  refine rRun hG 99999 ?_
  refine And.intro (by first | omega | (dsimp only; omega)) (And.intro (fun c2 => ?_) (fun c2 => ?_))
  · try dsimp only at c2
    refine rRun hG 99999 ?_
    refine rIR hG rfl rfl (True.intro) ?_
    refine ⟨?_, rfl⟩
    first | rw [if_pos (by omega : -2 ≤ pace ∧ pace ≤ 3)] | rw [if_neg (by omega : ¬ (-2 ≤ pace ∧ pace ≤ 3))]
  · try dsimp only at c2
    refine And.intro rfl (And.intro rfl (?_))
    refine rV hG (sp_X3_caughtBehind (uo := (k, asked)) (ux := ux) (ua := ua) (ub := ub) (mo := mo) (kn := kn) (kp := kp) (v1 := v1) (v2 := v2) (up := up) (uq := uq) (ur := ur) (k := k) (t := t) ht (pace := pace) h0 h1 h2 h3 (by omega) h5) rfl rfl lk_X6_192 mf_X3_caughtBehind (by decide) (Nat.le_of_ble_eq_true rfl) ⟨_, _, _, rfl, rfl, rfl⟩ ?_
    rintro _ _ ⟨rfl, rfl⟩
    refine rRun hG 99999 ?_
    refine rIR hG rfl rfl (True.intro) ?_
    refine ⟨?_, rfl⟩
    first | rw [if_pos (by omega : -2 ≤ pace ∧ pace ≤ 3)] | rw [if_neg (by omega : ¬ (-2 ≤ pace ∧ pace ≤ 3))]
set_option maxRecDepth 20000 in
set_option maxHeartbeats 1500000 in
theorem sp_X6_trace {k : Bool} {asked : Int} {ux : XD} {ua ub : TD} {mo : FN} {kn kp : Int} {v1 v2 : SD} {up uq : PD} {ur : HD}   : SpJ l 1 yX6_trace cX6_trace 1 (some .long) [mr 0] (hC (k, asked) ux ua ub (mo, kn, kp) v1 v2 up uq ur) (fun z h => z = asked ∧ h = hC (k, asked) ux ua ub (mo, kn, kp) v1 v2 up uq ur) := by
  refine SpJ.of (cd := kdX6_trace) (fT := mlook flX6) (kT := mlook klX6) (kJ := mlook jlX6) mfA_X6_trace ok_X6_trace fT_X6 kT_X6 jT_X6 jdk_ok True.intro (Nat.le_of_ble_eq_true rfl) (fun G hG => ?_)
  refine rRun hG 99999 ?_
  refine And.intro rfl (?_)
  refine rLR hG rfl rfl rfl ?_
  exact ⟨rfl, rfl⟩
end WALKS
end
