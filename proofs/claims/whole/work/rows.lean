section
-- ===== PART A: goes FIRST, ahead of the names: the tables' words, and 'selects' of the private methods out of them =====
/-- a private method of a class that the tables say can be made, by its rows of tables_1 -/
def lw_okq (q : MethodName × Nat) : Prop := (q.1.cls ≠ "java/lang/invoke/MethodHandle" ∧ q.1.cls ≠ "java/lang/invoke/VarHandle") ∧ Cond.instantiable q.1.cls q.2 ∈ tables_1 ∧ Cond.privateMethod q.1 ∈ tables_1 ∧ Cond.instanceMethod q.1 ∈ tables_1
theorem lw_p0 : lw_okq (⟨"SkewEdges$Ledger", "spoils", "(II)Z"⟩, 10) := ⟨⟨by decide +kernel, by decide +kernel⟩, List.mem_of_getElem? (i := 20) (by decide +kernel), List.mem_of_getElem? (i := 316) (by decide +kernel), List.mem_of_getElem? (i := 317) (by decide +kernel)⟩
theorem lw_p1 : lw_okq (⟨"SkewEdges$Sequence", "gather", "(LSkewEdges$Ledger;)V"⟩, 2) := ⟨⟨by decide +kernel, by decide +kernel⟩, List.mem_of_getElem? (i := 136) (by decide +kernel), List.mem_of_getElem? (i := 353) (by decide +kernel), List.mem_of_getElem? (i := 354) (by decide +kernel)⟩
theorem lw_p2 : lw_okq (⟨"SkewEdges$Sequence", "gatherOverKey", "(LSkewEdges$Ledger;II)V"⟩, 2) := ⟨⟨by decide +kernel, by decide +kernel⟩, List.mem_of_getElem? (i := 136) (by decide +kernel), List.mem_of_getElem? (i := 357) (by decide +kernel), List.mem_of_getElem? (i := 358) (by decide +kernel)⟩
theorem lw_p3 : lw_okq (⟨"SkewEdges$Sequence", "depend", "(II)V"⟩, 2) := ⟨⟨by decide +kernel, by decide +kernel⟩, List.mem_of_getElem? (i := 136) (by decide +kernel), List.mem_of_getElem? (i := 366) (by decide +kernel), List.mem_of_getElem? (i := 367) (by decide +kernel)⟩
theorem lw_p4 : lw_okq (⟨"SkewEdges$Sequence", "lowestFree", "(I)I"⟩, 2) := ⟨⟨by decide +kernel, by decide +kernel⟩, List.mem_of_getElem? (i := 136) (by decide +kernel), List.mem_of_getElem? (i := 373) (by decide +kernel), List.mem_of_getElem? (i := 374) (by decide +kernel)⟩
theorem lw_p5 : lw_okq (⟨"SkewEdges$Pad", "passFirst", "()Z"⟩, 8) := ⟨⟨by decide +kernel, by decide +kernel⟩, List.mem_of_getElem? (i := 98) (by decide +kernel), List.mem_of_getElem? (i := 444) (by decide +kernel), List.mem_of_getElem? (i := 445) (by decide +kernel)⟩
theorem lw_p6 : lw_okq (⟨"SkewEdges$Pad", "passNumber", "()Z"⟩, 8) := ⟨⟨by decide +kernel, by decide +kernel⟩, List.mem_of_getElem? (i := 98) (by decide +kernel), List.mem_of_getElem? (i := 448) (by decide +kernel), List.mem_of_getElem? (i := 449) (by decide +kernel)⟩
theorem lw_p7 : lw_okq (⟨"SkewEdges$Pad", "isDigitNext", "()Z"⟩, 8) := ⟨⟨by decide +kernel, by decide +kernel⟩, List.mem_of_getElem? (i := 98) (by decide +kernel), List.mem_of_getElem? (i := 452) (by decide +kernel), List.mem_of_getElem? (i := 453) (by decide +kernel)⟩
theorem lw_p8 : lw_okq (⟨"SkewEdges$Pad", "passSecond", "()Z"⟩, 8) := ⟨⟨by decide +kernel, by decide +kernel⟩, List.mem_of_getElem? (i := 98) (by decide +kernel), List.mem_of_getElem? (i := 460) (by decide +kernel), List.mem_of_getElem? (i := 461) (by decide +kernel)⟩
theorem lw_p9 : lw_okq (⟨"SkewEdges$Pad", "passThird", "()Z"⟩, 8) := ⟨⟨by decide +kernel, by decide +kernel⟩, List.mem_of_getElem? (i := 98) (by decide +kernel), List.mem_of_getElem? (i := 464) (by decide +kernel), List.mem_of_getElem? (i := 465) (by decide +kernel)⟩
theorem lw_p10 : lw_okq (⟨"SkewEdges", "carryOne", "()I"⟩, 6) := ⟨⟨by decide +kernel, by decide +kernel⟩, List.mem_of_getElem? (i := 12) (by decide +kernel), List.mem_of_getElem? (i := 474) (by decide +kernel), List.mem_of_getElem? (i := 475) (by decide +kernel)⟩
theorem lw_p11 : lw_okq (⟨"SkewEdgesModel", "record", "()V"⟩, 16) := ⟨⟨by decide +kernel, by decide +kernel⟩, List.mem_of_getElem? (i := 499) (by decide +kernel), List.mem_of_getElem? (i := 569) (by decide +kernel), List.mem_of_getElem? (i := 570) (by decide +kernel)⟩
theorem lw_p12 : lw_okq (⟨"SkewEdgesModel", "beginOne", "()I"⟩, 16) := ⟨⟨by decide +kernel, by decide +kernel⟩, List.mem_of_getElem? (i := 499) (by decide +kernel), List.mem_of_getElem? (i := 581) (by decide +kernel), List.mem_of_getElem? (i := 582) (by decide +kernel)⟩
theorem lw_p13 : lw_okq (⟨"SkewEdgesModel", "setOf", "(I)I"⟩, 16) := ⟨⟨by decide +kernel, by decide +kernel⟩, List.mem_of_getElem? (i := 499) (by decide +kernel), List.mem_of_getElem? (i := 585) (by decide +kernel), List.mem_of_getElem? (i := 586) (by decide +kernel)⟩
theorem lw_p14 : lw_okq (⟨"SkewEdgesModel", "isIn", "(II)Z"⟩, 16) := ⟨⟨by decide +kernel, by decide +kernel⟩, List.mem_of_getElem? (i := 499) (by decide +kernel), List.mem_of_getElem? (i := 589) (by decide +kernel), List.mem_of_getElem? (i := 590) (by decide +kernel)⟩
theorem lw_p15 : lw_okq (⟨"SkewEdgesModel", "its", "(II)I"⟩, 16) := ⟨⟨by decide +kernel, by decide +kernel⟩, List.mem_of_getElem? (i := 499) (by decide +kernel), List.mem_of_getElem? (i := 593) (by decide +kernel), List.mem_of_getElem? (i := 594) (by decide +kernel)⟩
def lw_privs_1 : List (MethodName × Nat) := [(⟨"SkewEdges$Ledger", "spoils", "(II)Z"⟩, 10), (⟨"SkewEdges$Sequence", "gather", "(LSkewEdges$Ledger;)V"⟩, 2), (⟨"SkewEdges$Sequence", "gatherOverKey", "(LSkewEdges$Ledger;II)V"⟩, 2), (⟨"SkewEdges$Sequence", "depend", "(II)V"⟩, 2), (⟨"SkewEdges$Sequence", "lowestFree", "(I)I"⟩, 2), (⟨"SkewEdges$Pad", "passFirst", "()Z"⟩, 8), (⟨"SkewEdges$Pad", "passNumber", "()Z"⟩, 8), (⟨"SkewEdges$Pad", "isDigitNext", "()Z"⟩, 8), (⟨"SkewEdges$Pad", "passSecond", "()Z"⟩, 8), (⟨"SkewEdges$Pad", "passThird", "()Z"⟩, 8), (⟨"SkewEdges", "carryOne", "()I"⟩, 6), (⟨"SkewEdgesModel", "record", "()V"⟩, 16), (⟨"SkewEdgesModel", "beginOne", "()I"⟩, 16), (⟨"SkewEdgesModel", "setOf", "(I)I"⟩, 16), (⟨"SkewEdgesModel", "isIn", "(II)Z"⟩, 16), (⟨"SkewEdgesModel", "its", "(II)I"⟩, 16)]
theorem lw_r1 : ∀ q ∈ lw_privs_1, lw_okq q := List.forall_mem_cons.mpr ⟨lw_p0, List.forall_mem_cons.mpr ⟨lw_p1, List.forall_mem_cons.mpr ⟨lw_p2, List.forall_mem_cons.mpr ⟨lw_p3, List.forall_mem_cons.mpr ⟨lw_p4, List.forall_mem_cons.mpr ⟨lw_p5, List.forall_mem_cons.mpr ⟨lw_p6, List.forall_mem_cons.mpr ⟨lw_p7, List.forall_mem_cons.mpr ⟨lw_p8, List.forall_mem_cons.mpr ⟨lw_p9, List.forall_mem_cons.mpr ⟨lw_p10, List.forall_mem_cons.mpr ⟨lw_p11, List.forall_mem_cons.mpr ⟨lw_p12, List.forall_mem_cons.mpr ⟨lw_p13, List.forall_mem_cons.mpr ⟨lw_p14, List.forall_mem_cons.mpr ⟨lw_p15, fun _ h => absurd h List.not_mem_nil⟩⟩⟩⟩⟩⟩⟩⟩⟩⟩⟩⟩⟩⟩⟩⟩
theorem lw_p16 : lw_okq (⟨"SkewEdgesModel", "lay", "(III)V"⟩, 16) := ⟨⟨by decide +kernel, by decide +kernel⟩, List.mem_of_getElem? (i := 499) (by decide +kernel), List.mem_of_getElem? (i := 597) (by decide +kernel), List.mem_of_getElem? (i := 598) (by decide +kernel)⟩
theorem lw_p17 : lw_okq (⟨"SkewEdgesModel", "whyNotRead", "(II)I"⟩, 16) := ⟨⟨by decide +kernel, by decide +kernel⟩, List.mem_of_getElem? (i := 499) (by decide +kernel), List.mem_of_getElem? (i := 605) (by decide +kernel), List.mem_of_getElem? (i := 606) (by decide +kernel)⟩
theorem lw_p18 : lw_okq (⟨"SkewEdgesModel", "isTransaction", "(I)Z"⟩, 16) := ⟨⟨by decide +kernel, by decide +kernel⟩, List.mem_of_getElem? (i := 499) (by decide +kernel), List.mem_of_getElem? (i := 609) (by decide +kernel), List.mem_of_getElem? (i := 610) (by decide +kernel)⟩
theorem lw_p19 : lw_okq (⟨"SkewEdgesModel", "readOne", "(II)I"⟩, 16) := ⟨⟨by decide +kernel, by decide +kernel⟩, List.mem_of_getElem? (i := 499) (by decide +kernel), List.mem_of_getElem? (i := 616) (by decide +kernel), List.mem_of_getElem? (i := 617) (by decide +kernel)⟩
theorem lw_p20 : lw_okq (⟨"SkewEdgesModel", "writerSeen", "(II)I"⟩, 16) := ⟨⟨by decide +kernel, by decide +kernel⟩, List.mem_of_getElem? (i := 499) (by decide +kernel), List.mem_of_getElem? (i := 620) (by decide +kernel), List.mem_of_getElem? (i := 621) (by decide +kernel)⟩
theorem lw_p21 : lw_okq (⟨"SkewEdgesModel", "wrote", "(II)Z"⟩, 16) := ⟨⟨by decide +kernel, by decide +kernel⟩, List.mem_of_getElem? (i := 499) (by decide +kernel), List.mem_of_getElem? (i := 624) (by decide +kernel), List.mem_of_getElem? (i := 625) (by decide +kernel)⟩
theorem lw_p22 : lw_okq (⟨"SkewEdgesModel", "writerAhead", "(II)I"⟩, 16) := ⟨⟨by decide +kernel, by decide +kernel⟩, List.mem_of_getElem? (i := 499) (by decide +kernel), List.mem_of_getElem? (i := 628) (by decide +kernel), List.mem_of_getElem? (i := 629) (by decide +kernel)⟩
theorem lw_p23 : lw_okq (⟨"SkewEdgesModel", "whyNotWrite", "(III)I"⟩, 16) := ⟨⟨by decide +kernel, by decide +kernel⟩, List.mem_of_getElem? (i := 499) (by decide +kernel), List.mem_of_getElem? (i := 636) (by decide +kernel), List.mem_of_getElem? (i := 637) (by decide +kernel)⟩
theorem lw_p24 : lw_okq (⟨"SkewEdgesModel", "writeOne", "(III)I"⟩, 16) := ⟨⟨by decide +kernel, by decide +kernel⟩, List.mem_of_getElem? (i := 499) (by decide +kernel), List.mem_of_getElem? (i := 640) (by decide +kernel), List.mem_of_getElem? (i := 641) (by decide +kernel)⟩
theorem lw_p25 : lw_okq (⟨"SkewEdgesModel", "whyNotEnd", "(I)I"⟩, 16) := ⟨⟨by decide +kernel, by decide +kernel⟩, List.mem_of_getElem? (i := 499) (by decide +kernel), List.mem_of_getElem? (i := 648) (by decide +kernel), List.mem_of_getElem? (i := 649) (by decide +kernel)⟩
theorem lw_p26 : lw_okq (⟨"SkewEdgesModel", "commitOne", "(I)I"⟩, 16) := ⟨⟨by decide +kernel, by decide +kernel⟩, List.mem_of_getElem? (i := 499) (by decide +kernel), List.mem_of_getElem? (i := 652) (by decide +kernel), List.mem_of_getElem? (i := 653) (by decide +kernel)⟩
theorem lw_p27 : lw_okq (⟨"SkewEdgesModel", "reasonFor", "(II)I"⟩, 16) := ⟨⟨by decide +kernel, by decide +kernel⟩, List.mem_of_getElem? (i := 499) (by decide +kernel), List.mem_of_getElem? (i := 656) (by decide +kernel), List.mem_of_getElem? (i := 657) (by decide +kernel)⟩
theorem lw_p28 : lw_okq (⟨"SkewEdgesModel", "writerBehind", "(II)I"⟩, 16) := ⟨⟨by decide +kernel, by decide +kernel⟩, List.mem_of_getElem? (i := 499) (by decide +kernel), List.mem_of_getElem? (i := 660) (by decide +kernel), List.mem_of_getElem? (i := 661) (by decide +kernel)⟩
theorem lw_p29 : lw_okq (⟨"SkewEdgesModel", "findTriple", "(II)Z"⟩, 16) := ⟨⟨by decide +kernel, by decide +kernel⟩, List.mem_of_getElem? (i := 499) (by decide +kernel), List.mem_of_getElem? (i := 664) (by decide +kernel), List.mem_of_getElem? (i := 665) (by decide +kernel)⟩
theorem lw_p30 : lw_okq (⟨"SkewEdgesModel", "isTriple", "(III)Z"⟩, 16) := ⟨⟨by decide +kernel, by decide +kernel⟩, List.mem_of_getElem? (i := 499) (by decide +kernel), List.mem_of_getElem? (i := 668) (by decide +kernel), List.mem_of_getElem? (i := 669) (by decide +kernel)⟩
theorem lw_p31 : lw_okq (⟨"SkewEdgesModel", "isEdge", "(II)Z"⟩, 16) := ⟨⟨by decide +kernel, by decide +kernel⟩, List.mem_of_getElem? (i := 499) (by decide +kernel), List.mem_of_getElem? (i := 672) (by decide +kernel), List.mem_of_getElem? (i := 673) (by decide +kernel)⟩
def lw_privs_2 : List (MethodName × Nat) := [(⟨"SkewEdgesModel", "lay", "(III)V"⟩, 16), (⟨"SkewEdgesModel", "whyNotRead", "(II)I"⟩, 16), (⟨"SkewEdgesModel", "isTransaction", "(I)Z"⟩, 16), (⟨"SkewEdgesModel", "readOne", "(II)I"⟩, 16), (⟨"SkewEdgesModel", "writerSeen", "(II)I"⟩, 16), (⟨"SkewEdgesModel", "wrote", "(II)Z"⟩, 16), (⟨"SkewEdgesModel", "writerAhead", "(II)I"⟩, 16), (⟨"SkewEdgesModel", "whyNotWrite", "(III)I"⟩, 16), (⟨"SkewEdgesModel", "writeOne", "(III)I"⟩, 16), (⟨"SkewEdgesModel", "whyNotEnd", "(I)I"⟩, 16), (⟨"SkewEdgesModel", "commitOne", "(I)I"⟩, 16), (⟨"SkewEdgesModel", "reasonFor", "(II)I"⟩, 16), (⟨"SkewEdgesModel", "writerBehind", "(II)I"⟩, 16), (⟨"SkewEdgesModel", "findTriple", "(II)Z"⟩, 16), (⟨"SkewEdgesModel", "isTriple", "(III)Z"⟩, 16), (⟨"SkewEdgesModel", "isEdge", "(II)Z"⟩, 16)]
theorem lw_r2 : ∀ q ∈ lw_privs_2, lw_okq q := List.forall_mem_cons.mpr ⟨lw_p16, List.forall_mem_cons.mpr ⟨lw_p17, List.forall_mem_cons.mpr ⟨lw_p18, List.forall_mem_cons.mpr ⟨lw_p19, List.forall_mem_cons.mpr ⟨lw_p20, List.forall_mem_cons.mpr ⟨lw_p21, List.forall_mem_cons.mpr ⟨lw_p22, List.forall_mem_cons.mpr ⟨lw_p23, List.forall_mem_cons.mpr ⟨lw_p24, List.forall_mem_cons.mpr ⟨lw_p25, List.forall_mem_cons.mpr ⟨lw_p26, List.forall_mem_cons.mpr ⟨lw_p27, List.forall_mem_cons.mpr ⟨lw_p28, List.forall_mem_cons.mpr ⟨lw_p29, List.forall_mem_cons.mpr ⟨lw_p30, List.forall_mem_cons.mpr ⟨lw_p31, fun _ h => absurd h List.not_mem_nil⟩⟩⟩⟩⟩⟩⟩⟩⟩⟩⟩⟩⟩⟩⟩⟩
theorem lw_p32 : lw_okq (⟨"SkewEdgesModel", "overlap", "(II)Z"⟩, 16) := ⟨⟨by decide +kernel, by decide +kernel⟩, List.mem_of_getElem? (i := 499) (by decide +kernel), List.mem_of_getElem? (i := 676) (by decide +kernel), List.mem_of_getElem? (i := 677) (by decide +kernel)⟩
theorem lw_p33 : lw_okq (⟨"SkewEdgesModel", "isCommittedAhead", "(II)Z"⟩, 16) := ⟨⟨by decide +kernel, by decide +kernel⟩, List.mem_of_getElem? (i := 499) (by decide +kernel), List.mem_of_getElem? (i := 680) (by decide +kernel), List.mem_of_getElem? (i := 681) (by decide +kernel)⟩
theorem lw_p34 : lw_okq (⟨"SkewEdgesModel", "counts", "(IIII)Z"⟩, 16) := ⟨⟨by decide +kernel, by decide +kernel⟩, List.mem_of_getElem? (i := 499) (by decide +kernel), List.mem_of_getElem? (i := 684) (by decide +kernel), List.mem_of_getElem? (i := 685) (by decide +kernel)⟩
theorem lw_p35 : lw_okq (⟨"SkewEdgesModel", "abortOne", "(II)V"⟩, 16) := ⟨⟨by decide +kernel, by decide +kernel⟩, List.mem_of_getElem? (i := 499) (by decide +kernel), List.mem_of_getElem? (i := 688) (by decide +kernel), List.mem_of_getElem? (i := 689) (by decide +kernel)⟩
theorem lw_p36 : lw_okq (⟨"SkewEdgesModel", "edgesFrom", "(I)I"⟩, 16) := ⟨⟨by decide +kernel, by decide +kernel⟩, List.mem_of_getElem? (i := 499) (by decide +kernel), List.mem_of_getElem? (i := 707) (by decide +kernel), List.mem_of_getElem? (i := 708) (by decide +kernel)⟩
theorem lw_p37 : lw_okq (⟨"SkewEdgesModel", "edgesTo", "(I)I"⟩, 16) := ⟨⟨by decide +kernel, by decide +kernel⟩, List.mem_of_getElem? (i := 499) (by decide +kernel), List.mem_of_getElem? (i := 711) (by decide +kernel), List.mem_of_getElem? (i := 712) (by decide +kernel)⟩
theorem lw_p38 : lw_okq (⟨"SkewEdgesModel", "safety", "(I)I"⟩, 16) := ⟨⟨by decide +kernel, by decide +kernel⟩, List.mem_of_getElem? (i := 499) (by decide +kernel), List.mem_of_getElem? (i := 715) (by decide +kernel), List.mem_of_getElem? (i := 716) (by decide +kernel)⟩
theorem lw_p39 : lw_okq (⟨"SkewEdgesModel", "endangers", "(II)Z"⟩, 16) := ⟨⟨by decide +kernel, by decide +kernel⟩, List.mem_of_getElem? (i := 499) (by decide +kernel), List.mem_of_getElem? (i := 719) (by decide +kernel), List.mem_of_getElem? (i := 720) (by decide +kernel)⟩
theorem lw_p40 : lw_okq (⟨"SkewEdgesModel", "edges", "()I"⟩, 16) := ⟨⟨by decide +kernel, by decide +kernel⟩, List.mem_of_getElem? (i := 499) (by decide +kernel), List.mem_of_getElem? (i := 735) (by decide +kernel), List.mem_of_getElem? (i := 736) (by decide +kernel)⟩
theorem lw_p41 : lw_okq (⟨"SkewEdgesModel", "pivots", "()I"⟩, 16) := ⟨⟨by decide +kernel, by decide +kernel⟩, List.mem_of_getElem? (i := 499) (by decide +kernel), List.mem_of_getElem? (i := 739) (by decide +kernel), List.mem_of_getElem? (i := 740) (by decide +kernel)⟩
theorem lw_p42 : lw_okq (⟨"SkewEdgesModel", "triples", "()I"⟩, 16) := ⟨⟨by decide +kernel, by decide +kernel⟩, List.mem_of_getElem? (i := 499) (by decide +kernel), List.mem_of_getElem? (i := 743) (by decide +kernel), List.mem_of_getElem? (i := 744) (by decide +kernel)⟩
theorem lw_p43 : lw_okq (⟨"SkewEdgesModel", "isSerial", "()Z"⟩, 16) := ⟨⟨by decide +kernel, by decide +kernel⟩, List.mem_of_getElem? (i := 499) (by decide +kernel), List.mem_of_getElem? (i := 747) (by decide +kernel), List.mem_of_getElem? (i := 748) (by decide +kernel)⟩
theorem lw_p44 : lw_okq (⟨"SkewEdgesModel", "layOrder", "()I"⟩, 16) := ⟨⟨by decide +kernel, by decide +kernel⟩, List.mem_of_getElem? (i := 499) (by decide +kernel), List.mem_of_getElem? (i := 751) (by decide +kernel), List.mem_of_getElem? (i := 752) (by decide +kernel)⟩
theorem lw_p45 : lw_okq (⟨"SkewEdgesModel", "layAhead", "()V"⟩, 16) := ⟨⟨by decide +kernel, by decide +kernel⟩, List.mem_of_getElem? (i := 499) (by decide +kernel), List.mem_of_getElem? (i := 755) (by decide +kernel), List.mem_of_getElem? (i := 756) (by decide +kernel)⟩
theorem lw_p46 : lw_okq (⟨"SkewEdgesModel", "depend", "(II)V"⟩, 16) := ⟨⟨by decide +kernel, by decide +kernel⟩, List.mem_of_getElem? (i := 499) (by decide +kernel), List.mem_of_getElem? (i := 759) (by decide +kernel), List.mem_of_getElem? (i := 760) (by decide +kernel)⟩
theorem lw_p47 : lw_okq (⟨"SkewEdgesModel", "readPad", "()I"⟩, 16) := ⟨⟨by decide +kernel, by decide +kernel⟩, List.mem_of_getElem? (i := 499) (by decide +kernel), List.mem_of_getElem? (i := 796) (by decide +kernel), List.mem_of_getElem? (i := 797) (by decide +kernel)⟩
def lw_privs_3 : List (MethodName × Nat) := [(⟨"SkewEdgesModel", "overlap", "(II)Z"⟩, 16), (⟨"SkewEdgesModel", "isCommittedAhead", "(II)Z"⟩, 16), (⟨"SkewEdgesModel", "counts", "(IIII)Z"⟩, 16), (⟨"SkewEdgesModel", "abortOne", "(II)V"⟩, 16), (⟨"SkewEdgesModel", "edgesFrom", "(I)I"⟩, 16), (⟨"SkewEdgesModel", "edgesTo", "(I)I"⟩, 16), (⟨"SkewEdgesModel", "safety", "(I)I"⟩, 16), (⟨"SkewEdgesModel", "endangers", "(II)Z"⟩, 16), (⟨"SkewEdgesModel", "edges", "()I"⟩, 16), (⟨"SkewEdgesModel", "pivots", "()I"⟩, 16), (⟨"SkewEdgesModel", "triples", "()I"⟩, 16), (⟨"SkewEdgesModel", "isSerial", "()Z"⟩, 16), (⟨"SkewEdgesModel", "layOrder", "()I"⟩, 16), (⟨"SkewEdgesModel", "layAhead", "()V"⟩, 16), (⟨"SkewEdgesModel", "depend", "(II)V"⟩, 16), (⟨"SkewEdgesModel", "readPad", "()I"⟩, 16)]
theorem lw_r3 : ∀ q ∈ lw_privs_3, lw_okq q := List.forall_mem_cons.mpr ⟨lw_p32, List.forall_mem_cons.mpr ⟨lw_p33, List.forall_mem_cons.mpr ⟨lw_p34, List.forall_mem_cons.mpr ⟨lw_p35, List.forall_mem_cons.mpr ⟨lw_p36, List.forall_mem_cons.mpr ⟨lw_p37, List.forall_mem_cons.mpr ⟨lw_p38, List.forall_mem_cons.mpr ⟨lw_p39, List.forall_mem_cons.mpr ⟨lw_p40, List.forall_mem_cons.mpr ⟨lw_p41, List.forall_mem_cons.mpr ⟨lw_p42, List.forall_mem_cons.mpr ⟨lw_p43, List.forall_mem_cons.mpr ⟨lw_p44, List.forall_mem_cons.mpr ⟨lw_p45, List.forall_mem_cons.mpr ⟨lw_p46, List.forall_mem_cons.mpr ⟨lw_p47, fun _ h => absurd h List.not_mem_nil⟩⟩⟩⟩⟩⟩⟩⟩⟩⟩⟩⟩⟩⟩⟩⟩
theorem lw_p48 : lw_okq (⟨"SkewEdgesModel", "readOrder", "()V"⟩, 16) := ⟨⟨by decide +kernel, by decide +kernel⟩, List.mem_of_getElem? (i := 499) (by decide +kernel), List.mem_of_getElem? (i := 800) (by decide +kernel), List.mem_of_getElem? (i := 801) (by decide +kernel)⟩
theorem lw_p49 : lw_okq (⟨"SkewEdgesModel", "letter", "()I"⟩, 16) := ⟨⟨by decide +kernel, by decide +kernel⟩, List.mem_of_getElem? (i := 499) (by decide +kernel), List.mem_of_getElem? (i := 804) (by decide +kernel), List.mem_of_getElem? (i := 805) (by decide +kernel)⟩
theorem lw_p50 : lw_okq (⟨"SkewEdgesModel", "wants", "(Z)V"⟩, 16) := ⟨⟨by decide +kernel, by decide +kernel⟩, List.mem_of_getElem? (i := 499) (by decide +kernel), List.mem_of_getElem? (i := 808) (by decide +kernel), List.mem_of_getElem? (i := 809) (by decide +kernel)⟩
theorem lw_p51 : lw_okq (⟨"SkewEdgesModel", "number", "()I"⟩, 16) := ⟨⟨by decide +kernel, by decide +kernel⟩, List.mem_of_getElem? (i := 499) (by decide +kernel), List.mem_of_getElem? (i := 812) (by decide +kernel), List.mem_of_getElem? (i := 813) (by decide +kernel)⟩
theorem lw_p52 : lw_okq (⟨"SkewEdgesModel", "does", "(I)I"⟩, 16) := ⟨⟨by decide +kernel, by decide +kernel⟩, List.mem_of_getElem? (i := 499) (by decide +kernel), List.mem_of_getElem? (i := 820) (by decide +kernel), List.mem_of_getElem? (i := 821) (by decide +kernel)⟩
def lw_privs_4 : List (MethodName × Nat) := [(⟨"SkewEdgesModel", "readOrder", "()V"⟩, 16), (⟨"SkewEdgesModel", "letter", "()I"⟩, 16), (⟨"SkewEdgesModel", "wants", "(Z)V"⟩, 16), (⟨"SkewEdgesModel", "number", "()I"⟩, 16), (⟨"SkewEdgesModel", "does", "(I)I"⟩, 16)]
theorem lw_r4 : ∀ q ∈ lw_privs_4, lw_okq q := List.forall_mem_cons.mpr ⟨lw_p48, List.forall_mem_cons.mpr ⟨lw_p49, List.forall_mem_cons.mpr ⟨lw_p50, List.forall_mem_cons.mpr ⟨lw_p51, List.forall_mem_cons.mpr ⟨lw_p52, fun _ h => absurd h List.not_mem_nil⟩⟩⟩⟩⟩
def lw_privs : List (MethodName × Nat) := lw_privs_1 ++ (lw_privs_2 ++ (lw_privs_3 ++ (lw_privs_4)))
def lw_tbl : List Cond := k2_sels lw_privs ++ tables_1
theorem lw_privs_ok : ∀ q ∈ lw_privs, lw_okq q := by
  show ∀ q ∈ lw_privs_1 ++ (lw_privs_2 ++ (lw_privs_3 ++ (lw_privs_4))), lw_okq q
  exact List.forall_mem_append.mpr ⟨lw_r1, List.forall_mem_append.mpr ⟨lw_r2, List.forall_mem_append.mpr ⟨lw_r3, lw_r4⟩⟩⟩
-- ===== end of PART A; then your names; then what follows =====
end
section
/-! ===== BEGIN words of one list among another's, by their places ===== -/
theorem goodIn_r {big : List Cond} (ws : List Cond) (ps : List Nat) (hp : ws = ps.filterMap (fun i => big[i]?)) (h : ws.all goodWord = true) : GoodIn big ws := by
  intro w hw
  have h1 := List.all_eq_true.mp h w hw
  rw [hp] at hw
  obtain ⟨i, -, hi⟩ := List.mem_filterMap.mp hw
  have hm : w ∈ big := by first | exact List.mem_of_getElem? hi | exact List.getElem?_mem hi
  exact ⟨hm, good_of_word h1⟩
theorem goodIn_app {big a b : List Cond} (ha : GoodIn big a) (hb : GoodIn big b) : GoodIn big (a ++ b) := fun w h => (List.mem_append.mp h).elim (ha w) (hb w)
theorem goodIn_ca {big a b : List Cond} {c : Cond} (ha : GoodIn big (c :: a)) (hb : GoodIn big b) : GoodIn big (c :: (a ++ b)) := fun w h => (List.mem_cons.mp h).elim (fun e => ha w (List.mem_cons.mpr (Or.inl e))) (fun h => (List.mem_append.mp h).elim (fun h => ha w (List.mem_cons.mpr (Or.inr h))) (hb w))
theorem goodIn_sub {big ws : List Cond} (hm : ∀ w ∈ ws, w ∈ big) (h : ws.all goodWord = true) : GoodIn big ws := fun w hw => ⟨hm w hw, good_of_word (List.all_eq_true.mp h w hw)⟩
/-! ===== END ===== -/

/-! ===== BEGIN printed: names, fields, word lists, decode rows ===== -/
def RX0 : String := "SkewEdges$Commits"
def TX0 : u_T := fun k => match k with
  | _ => ("", "", "", false)
def tyX0 : Nat → FieldType := fun k => match k with
  | _ => .int
abbrev wsX00 : List Cond := u_ws RX0 TX0 0
theorem nmX0 : ∀ a, a < 0 → ∀ b, b < 0 → a ≠ b → (TX0 a).2.1 ≠ (TX0 b).2.1 := by decide +kernel
theorem tyX0_ok : ∀ k, k < 0 → parseFieldDescriptor (TX0 k).2.2.1 = some (tyX0 k) := by decide +kernel
abbrev cX0_refusal : ByteArray := prog_2_method_2_code
def yX0_refusal : MethodName := ⟨RX0, "refusal", "(LSkewEdges$Ledger;II)I"⟩
abbrev cX0_isLaterWriter : ByteArray := prog_2_method_3_code
def yX0_isLaterWriter : MethodName := ⟨RX0, "isLaterWriter", "(LSkewEdges$Ledger;I)Z"⟩
abbrev cX0_firstTriple : ByteArray := prog_2_method_4_code
def yX0_firstTriple : MethodName := ⟨RX0, "firstTriple", "(LSkewEdges$Ledger;II)I"⟩
abbrev cX0_firstOverPivot : ByteArray := prog_2_method_5_code
def yX0_firstOverPivot : MethodName := ⟨RX0, "firstOverPivot", "(LSkewEdges$Ledger;IIIII)I"⟩
abbrev cX0_counts : ByteArray := prog_2_method_6_code
def yX0_counts : MethodName := ⟨RX0, "counts", "(LSkewEdges$Ledger;IIII)Z"⟩
abbrev cX0_partOfTriple : ByteArray := prog_2_method_7_code
def yX0_partOfTriple : MethodName := ⟨RX0, "partOfTriple", "(II)I"⟩
def RX1 : String := "SkewEdges$History"
def TX1 : u_T := fun k => match k with
  | 0 => ("SkewEdges$History", "kept", "I", false)
  | 1 => ("SkewEdges$History", "next", "I", false)
  | _ => ("SkewEdges$History", "rows", "[LSkewEdges$Ledger;", true)
def tyX1 : Nat → FieldType := fun k => match k with
  | 0 => .int
  | 1 => .int
  | _ => .array (.object "SkewEdges$Ledger")
abbrev wsX10 : List Cond := u_ws RX1 TX1 3
theorem nmX1 : ∀ a, a < 3 → ∀ b, b < 3 → a ≠ b → (TX1 a).2.1 ≠ (TX1 b).2.1 := by decide +kernel
theorem tyX1_ok : ∀ k, k < 3 → parseFieldDescriptor (TX1 k).2.2.1 = some (tyX1 k) := by decide +kernel
abbrev cX1_init : ByteArray := prog_3_method_1_code
def yX1_init : MethodName := ⟨RX1, "<init>", "()V"⟩
abbrev cX1_prepare : ByteArray := prog_3_method_2_code
def yX1_prepare : MethodName := ⟨RX1, "prepare", "(LSkewEdges$Ledger;)V"⟩
abbrev cX1_keepUnlessError : ByteArray := prog_3_method_3_code
def yX1_keepUnlessError : MethodName := ⟨RX1, "keepUnlessError", "(I)I"⟩
abbrev cX1_stepBack : ByteArray := prog_3_method_4_code
def yX1_stepBack : MethodName := ⟨RX1, "stepBack", "(LSkewEdges$Ledger;)I"⟩
def RX2 : String := "SkewEdges$Ledger"
def TX2 : u_T := fun k => match k with
  | 0 => ("SkewEdges$Ledger", "rule", "I", false)
  | 1 => ("SkewEdges$Ledger", "moment", "I", false)
  | 2 => ("SkewEdges$Ledger", "total", "I", false)
  | 3 => ("SkewEdges$Ledger", "phase", "[I", true)
  | 4 => ("SkewEdges$Ledger", "beganAt", "[I", true)
  | 5 => ("SkewEdges$Ledger", "committedAt", "[I", true)
  | 6 => ("SkewEdges$Ledger", "readKeys", "[I", true)
  | 7 => ("SkewEdges$Ledger", "writtenKeys", "[I", true)
  | 8 => ("SkewEdges$Ledger", "reason", "[I", true)
  | _ => ("SkewEdges$Ledger", "values", "[I", true)
def tyX2 : Nat → FieldType := fun k => match k with
  | 0 => .int
  | 1 => .int
  | 2 => .int
  | 3 => .array .int
  | 4 => .array .int
  | 5 => .array .int
  | 6 => .array .int
  | 7 => .array .int
  | 8 => .array .int
  | _ => .array .int
abbrev wsX20 : List Cond := u_ws RX2 TX2 10
theorem nmX2 : ∀ a, a < 10 → ∀ b, b < 10 → a ≠ b → (TX2 a).2.1 ≠ (TX2 b).2.1 := by decide +kernel
theorem tyX2_ok : ∀ k, k < 10 → parseFieldDescriptor (TX2 k).2.2.1 = some (tyX2 k) := by decide +kernel
abbrev cX2_init : ByteArray := prog_4_method_1_code
def yX2_init : MethodName := ⟨RX2, "<init>", "()V"⟩
abbrev cX2_copyFrom : ByteArray := prog_4_method_2_code
def yX2_copyFrom : MethodName := ⟨RX2, "copyFrom", "(LSkewEdges$Ledger;)V"⟩
abbrev cX2_exists : ByteArray := prog_4_method_3_code
def yX2_exists : MethodName := ⟨RX2, "exists", "(I)Z"⟩
abbrev cX2_changeRule : ByteArray := prog_4_method_4_code
def yX2_changeRule : MethodName := ⟨RX2, "changeRule", "(I)I"⟩
abbrev cX2_start : ByteArray := prog_4_method_5_code
def yX2_start : MethodName := ⟨RX2, "start", "()I"⟩
abbrev cX2_look : ByteArray := prog_4_method_6_code
def yX2_look : MethodName := ⟨RX2, "look", "(II)I"⟩
abbrev cX2_enter : ByteArray := prog_4_method_7_code
def yX2_enter : MethodName := ⟨RX2, "enter", "(III)I"⟩
abbrev cX2_finish : ByteArray := prog_4_method_8_code
def yX2_finish : MethodName := ⟨RX2, "finish", "(I)I"⟩
abbrev cX2_giveUp : ByteArray := prog_4_method_9_code
def yX2_giveUp : MethodName := ⟨RX2, "giveUp", "(I)I"⟩
abbrev cX2_inPhase : ByteArray := prog_4_method_10_code
def yX2_inPhase : MethodName := ⟨RX2, "inPhase", "(I)I"⟩
abbrev cX2_writerAhead : ByteArray := prog_4_method_11_code
def yX2_writerAhead : MethodName := ⟨RX2, "writerAhead", "(II)I"⟩
abbrev cX2_writerBehind : ByteArray := prog_4_method_12_code
def yX2_writerBehind : MethodName := ⟨RX2, "writerBehind", "(II)I"⟩
abbrev cX2_seenWriter : ByteArray := prog_4_method_13_code
def yX2_seenWriter : MethodName := ⟨RX2, "seenWriter", "(II)I"⟩
abbrev cX2_valueOfVersion : ByteArray := prog_4_method_14_code
def yX2_valueOfVersion : MethodName := ⟨RX2, "valueOfVersion", "(II)I"⟩
abbrev cX2_edgeKeys : ByteArray := prog_4_method_15_code
def yX2_edgeKeys : MethodName := ⟨RX2, "edgeKeys", "(II)I"⟩
abbrev cX2_edgesFrom : ByteArray := prog_4_method_16_code
def yX2_edgesFrom : MethodName := ⟨RX2, "edgesFrom", "(I)I"⟩
abbrev cX2_edgesTo : ByteArray := prog_4_method_17_code
def yX2_edgesTo : MethodName := ⟨RX2, "edgesTo", "(I)I"⟩
abbrev cX2_edgeTotal : ByteArray := prog_4_method_18_code
def yX2_edgeTotal : MethodName := ⟨RX2, "edgeTotal", "()I"⟩
abbrev cX2_pivots : ByteArray := prog_4_method_19_code
def yX2_pivots : MethodName := ⟨RX2, "pivots", "()I"⟩
abbrev cX2_tripleTotal : ByteArray := prog_4_method_20_code
def yX2_tripleTotal : MethodName := ⟨RX2, "tripleTotal", "()I"⟩
abbrev cX2_snapshot : ByteArray := prog_4_method_21_code
def yX2_snapshot : MethodName := ⟨RX2, "snapshot", "(I)I"⟩
abbrev cX2_spoils : ByteArray := prog_4_method_22_code
def yX2_spoils : MethodName := ⟨RX2, "spoils", "(II)Z"⟩
def RX3 : String := "SkewEdges$Pad"
def TX3 : u_T := fun k => match k with
  | 0 => ("SkewEdges$Pad", "length", "I", false)
  | 1 => ("SkewEdges$Pad", "kind", "I", false)
  | 2 => ("SkewEdges$Pad", "first", "I", false)
  | 3 => ("SkewEdges$Pad", "second", "I", false)
  | 4 => ("SkewEdges$Pad", "third", "I", false)
  | 5 => ("SkewEdges$Pad", "at", "I", false)
  | 6 => ("SkewEdges$Pad", "number", "I", false)
  | _ => ("SkewEdges$Pad", "signs", "[C", true)
def tyX3 : Nat → FieldType := fun k => match k with
  | 0 => .int
  | 1 => .int
  | 2 => .int
  | 3 => .int
  | 4 => .int
  | 5 => .int
  | 6 => .int
  | _ => .array .char
abbrev wsX30 : List Cond := u_ws RX3 TX3 8
theorem nmX3 : ∀ a, a < 8 → ∀ b, b < 8 → a ≠ b → (TX3 a).2.1 ≠ (TX3 b).2.1 := by decide +kernel
theorem tyX3_ok : ∀ k, k < 8 → parseFieldDescriptor (TX3 k).2.2.1 = some (tyX3 k) := by decide +kernel
abbrev cX3_init : ByteArray := prog_5_method_1_code
def yX3_init : MethodName := ⟨RX3, "<init>", "()V"⟩
abbrev cX3_append : ByteArray := prog_5_method_2_code
def yX3_append : MethodName := ⟨RX3, "append", "(J)I"⟩
abbrev cX3_empty : ByteArray := prog_5_method_3_code
def yX3_empty : MethodName := ⟨RX3, "empty", "()I"⟩
abbrev cX3_rewind : ByteArray := prog_5_method_4_code
def yX3_rewind : MethodName := ⟨RX3, "rewind", "()V"⟩
abbrev cX3_firstFault : ByteArray := prog_5_method_5_code
def yX3_firstFault : MethodName := ⟨RX3, "firstFault", "()I"⟩
abbrev cX3_passOrder : ByteArray := prog_5_method_6_code
def yX3_passOrder : MethodName := ⟨RX3, "passOrder", "()Z"⟩
abbrev cX3_passSign : ByteArray := prog_5_method_7_code
def yX3_passSign : MethodName := ⟨RX3, "passSign", "(C)Z"⟩
abbrev cX3_passFirst : ByteArray := prog_5_method_8_code
def yX3_passFirst : MethodName := ⟨RX3, "passFirst", "()Z"⟩
abbrev cX3_passSecond : ByteArray := prog_5_method_9_code
def yX3_passSecond : MethodName := ⟨RX3, "passSecond", "()Z"⟩
abbrev cX3_passThird : ByteArray := prog_5_method_10_code
def yX3_passThird : MethodName := ⟨RX3, "passThird", "()Z"⟩
abbrev cX3_passNumber : ByteArray := prog_5_method_11_code
def yX3_passNumber : MethodName := ⟨RX3, "passNumber", "()Z"⟩
abbrev cX3_isDigitNext : ByteArray := prog_5_method_12_code
def yX3_isDigitNext : MethodName := ⟨RX3, "isDigitNext", "()Z"⟩
def RX4 : String := "SkewEdges$Sequence"
def TX4 : u_T := fun k => match k with
  | 0 => ("SkewEdges$Sequence", "ahead", "[I", true)
  | _ => ("SkewEdges$Sequence", "places", "[I", true)
def tyX4 : Nat → FieldType := fun k => match k with
  | 0 => .array .int
  | _ => .array .int
abbrev wsX40 : List Cond := u_ws RX4 TX4 2
theorem nmX4 : ∀ a, a < 2 → ∀ b, b < 2 → a ≠ b → (TX4 a).2.1 ≠ (TX4 b).2.1 := by decide +kernel
theorem tyX4_ok : ∀ k, k < 2 → parseFieldDescriptor (TX4 k).2.2.1 = some (tyX4 k) := by decide +kernel
abbrev cX4_init : ByteArray := prog_6_method_1_code
def yX4_init : MethodName := ⟨RX4, "<init>", "()V"⟩
abbrev cX4_at : ByteArray := prog_6_method_2_code
def yX4_at : MethodName := ⟨RX4, "at", "(I)I"⟩
abbrev cX4_arrange : ByteArray := prog_6_method_3_code
def yX4_arrange : MethodName := ⟨RX4, "arrange", "(LSkewEdges$Ledger;)Z"⟩
abbrev cX4_lowestFree : ByteArray := prog_6_method_4_code
def yX4_lowestFree : MethodName := ⟨RX4, "lowestFree", "(I)I"⟩
abbrev cX4_gather : ByteArray := prog_6_method_5_code
def yX4_gather : MethodName := ⟨RX4, "gather", "(LSkewEdges$Ledger;)V"⟩
abbrev cX4_gatherOverKey : ByteArray := prog_6_method_6_code
def yX4_gatherOverKey : MethodName := ⟨RX4, "gatherOverKey", "(LSkewEdges$Ledger;II)V"⟩
abbrev cX4_depend : ByteArray := prog_6_method_7_code
def yX4_depend : MethodName := ⟨RX4, "depend", "(II)V"⟩
def RX5 : String := "SkewEdges"
def TX5 : u_T := fun k => match k with
  | 0 => ("SkewEdges", "ledger", "LSkewEdges$Ledger;", true)
  | 1 => ("SkewEdges", "history", "LSkewEdges$History;", true)
  | 2 => ("SkewEdges", "slots", "[LSkewEdges$Ledger;", true)
  | 3 => ("SkewEdges", "saved", "[Z", true)
  | 4 => ("SkewEdges", "pad", "LSkewEdges$Pad;", true)
  | _ => ("SkewEdges", "sequence", "LSkewEdges$Sequence;", true)
def tyX5 : Nat → FieldType := fun k => match k with
  | 0 => .object "SkewEdges$Ledger"
  | 1 => .object "SkewEdges$History"
  | 2 => .array (.object "SkewEdges$Ledger")
  | 3 => .array .boolean
  | 4 => .object "SkewEdges$Pad"
  | _ => .object "SkewEdges$Sequence"
abbrev wsX50 : List Cond := u_ws RX5 TX5 6
theorem nmX5 : ∀ a, a < 6 → ∀ b, b < 6 → a ≠ b → (TX5 a).2.1 ≠ (TX5 b).2.1 := by decide +kernel
theorem tyX5_ok : ∀ k, k < 6 → parseFieldDescriptor (TX5 k).2.2.1 = some (tyX5 k) := by decide +kernel
abbrev cX5_init : ByteArray := prog_1_method_1_code
def yX5_init : MethodName := ⟨RX5, "<init>", "()V"⟩
abbrev cX5_rule : ByteArray := prog_1_method_2_code
def yX5_rule : MethodName := ⟨RX5, "rule", "(I)I"⟩
abbrev cX5_begin : ByteArray := prog_1_method_3_code
def yX5_begin : MethodName := ⟨RX5, "begin", "()I"⟩
abbrev cX5_read : ByteArray := prog_1_method_4_code
def yX5_read : MethodName := ⟨RX5, "read", "(II)I"⟩
abbrev cX5_write : ByteArray := prog_1_method_5_code
def yX5_write : MethodName := ⟨RX5, "write", "(III)I"⟩
abbrev cX5_commit : ByteArray := prog_1_method_6_code
def yX5_commit : MethodName := ⟨RX5, "commit", "(I)I"⟩
abbrev cX5_abort : ByteArray := prog_1_method_7_code
def yX5_abort : MethodName := ⟨RX5, "abort", "(I)I"⟩
abbrev cX5_value : ByteArray := prog_1_method_8_code
def yX5_value : MethodName := ⟨RX5, "value", "(I)I"⟩
abbrev cX5_of : ByteArray := prog_1_method_9_code
def yX5_of : MethodName := ⟨RX5, "of", "(II)I"⟩
abbrev cX5_edge : ByteArray := prog_1_method_10_code
def yX5_edge : MethodName := ⟨RX5, "edge", "(II)I"⟩
abbrev cX5_over : ByteArray := prog_1_method_11_code
def yX5_over : MethodName := ⟨RX5, "over", "(II)I"⟩
abbrev cX5_count : ByteArray := prog_1_method_12_code
def yX5_count : MethodName := ⟨RX5, "count", "(I)I"⟩
abbrev cX5_order : ByteArray := prog_1_method_13_code
def yX5_order : MethodName := ⟨RX5, "order", "(I)I"⟩
abbrev cX5_sees : ByteArray := prog_1_method_14_code
def yX5_sees : MethodName := ⟨RX5, "sees", "(II)I"⟩
abbrev cX5_would : ByteArray := prog_1_method_15_code
def yX5_would : MethodName := ⟨RX5, "would", "(I)I"⟩
abbrev cX5_triple : ByteArray := prog_1_method_16_code
def yX5_triple : MethodName := ⟨RX5, "triple", "(II)I"⟩
abbrev cX5_doomed : ByteArray := prog_1_method_17_code
def yX5_doomed : MethodName := ⟨RX5, "doomed", "(I)I"⟩
abbrev cX5_put : ByteArray := prog_1_method_18_code
def yX5_put : MethodName := ⟨RX5, "put", "(J)I"⟩
abbrev cX5_wipe : ByteArray := prog_1_method_19_code
def yX5_wipe : MethodName := ⟨RX5, "wipe", "()I"⟩
abbrev cX5_fault : ByteArray := prog_1_method_20_code
def yX5_fault : MethodName := ⟨RX5, "fault", "()I"⟩
abbrev cX5_carryOut : ByteArray := prog_1_method_21_code
def yX5_carryOut : MethodName := ⟨RX5, "carryOut", "()I"⟩
abbrev cX5_carryOne : ByteArray := prog_1_method_22_code
def yX5_carryOne : MethodName := ⟨RX5, "carryOne", "()I"⟩
abbrev cX5_undo : ByteArray := prog_1_method_23_code
def yX5_undo : MethodName := ⟨RX5, "undo", "()I"⟩
abbrev cX5_save : ByteArray := prog_1_method_24_code
def yX5_save : MethodName := ⟨RX5, "save", "(I)I"⟩
abbrev cX5_restore : ByteArray := prog_1_method_25_code
def yX5_restore : MethodName := ⟨RX5, "restore", "(I)I"⟩
abbrev cX5_isKey : ByteArray := prog_1_method_26_code
def yX5_isKey : MethodName := ⟨RX5, "isKey", "(I)Z"⟩
abbrev cX5_isRule : ByteArray := prog_1_method_27_code
def yX5_isRule : MethodName := ⟨RX5, "isRule", "(I)Z"⟩
abbrev cX5_isSlot : ByteArray := prog_1_method_28_code
def yX5_isSlot : MethodName := ⟨RX5, "isSlot", "(I)Z"⟩
abbrev cX5_contains : ByteArray := prog_1_method_29_code
def yX5_contains : MethodName := ⟨RX5, "contains", "(II)Z"⟩
def RX6 : String := "SkewEdgesModel"
def TX6 : u_T := fun k => match k with
  | 0 => ("SkewEdgesModel", "z", "[I", true)
  | 1 => ("SkewEdgesModel", "past", "[I", true)
  | 2 => ("SkewEdgesModel", "slots", "[I", true)
  | 3 => ("SkewEdgesModel", "isSaved", "[Z", true)
  | 4 => ("SkewEdgesModel", "pastMany", "I", false)
  | 5 => ("SkewEdgesModel", "pad", "[C", true)
  | 6 => ("SkewEdgesModel", "typed", "I", false)
  | 7 => ("SkewEdgesModel", "tripleA", "I", false)
  | 8 => ("SkewEdgesModel", "tripleP", "I", false)
  | 9 => ("SkewEdgesModel", "tripleC", "I", false)
  | 10 => ("SkewEdgesModel", "ahead", "[I", true)
  | 11 => ("SkewEdgesModel", "order", "[I", true)
  | 12 => ("SkewEdgesModel", "orders", "[I", true)
  | 13 => ("SkewEdgesModel", "orderMany", "I", false)
  | 14 => ("SkewEdgesModel", "spot", "I", false)
  | _ => ("SkewEdgesModel", "wrong", "I", false)
def tyX6 : Nat → FieldType := fun k => match k with
  | 0 => .array .int
  | 1 => .array .int
  | 2 => .array .int
  | 3 => .array .boolean
  | 4 => .int
  | 5 => .array .char
  | 6 => .int
  | 7 => .int
  | 8 => .int
  | 9 => .int
  | 10 => .array .int
  | 11 => .array .int
  | 12 => .array .int
  | 13 => .int
  | 14 => .int
  | _ => .int
abbrev wsX60 : List Cond := u_ws RX6 TX6 16
theorem nmX6 : ∀ a, a < 16 → ∀ b, b < 16 → a ≠ b → (TX6 a).2.1 ≠ (TX6 b).2.1 := by decide +kernel
theorem tyX6_ok : ∀ k, k < 16 → parseFieldDescriptor (TX6 k).2.2.1 = some (tyX6 k) := by decide +kernel
abbrev cX6_init : ByteArray := prog_8_method_1_code
def yX6_init : MethodName := ⟨RX6, "<init>", "()V"⟩
abbrev cX6_in : ByteArray := prog_8_method_2_code
def yX6_in : MethodName := ⟨RX6, "in", "(III)Z"⟩
abbrev cX6_isTransaction : ByteArray := prog_8_method_3_code
def yX6_isTransaction : MethodName := ⟨RX6, "isTransaction", "(I)Z"⟩
abbrev cX6_isKey : ByteArray := prog_8_method_4_code
def yX6_isKey : MethodName := ⟨RX6, "isKey", "(I)Z"⟩
abbrev cX6_its : ByteArray := prog_8_method_5_code
def yX6_its : MethodName := ⟨RX6, "its", "(II)I"⟩
abbrev cX6_lay : ByteArray := prog_8_method_6_code
def yX6_lay : MethodName := ⟨RX6, "lay", "(III)V"⟩
abbrev cX6_isIn : ByteArray := prog_8_method_7_code
def yX6_isIn : MethodName := ⟨RX6, "isIn", "(II)Z"⟩
abbrev cX6_wrote : ByteArray := prog_8_method_8_code
def yX6_wrote : MethodName := ⟨RX6, "wrote", "(II)Z"⟩
abbrev cX6_record : ByteArray := prog_8_method_9_code
def yX6_record : MethodName := ⟨RX6, "record", "()V"⟩
abbrev cX6_undo : ByteArray := prog_8_method_10_code
def yX6_undo : MethodName := ⟨RX6, "undo", "()I"⟩
abbrev cX6_save : ByteArray := prog_8_method_11_code
def yX6_save : MethodName := ⟨RX6, "save", "(I)I"⟩
abbrev cX6_restore : ByteArray := prog_8_method_12_code
def yX6_restore : MethodName := ⟨RX6, "restore", "(I)I"⟩
abbrev cX6_writerAhead : ByteArray := prog_8_method_13_code
def yX6_writerAhead : MethodName := ⟨RX6, "writerAhead", "(II)I"⟩
abbrev cX6_writerBehind : ByteArray := prog_8_method_14_code
def yX6_writerBehind : MethodName := ⟨RX6, "writerBehind", "(II)I"⟩
abbrev cX6_isCommittedAhead : ByteArray := prog_8_method_15_code
def yX6_isCommittedAhead : MethodName := ⟨RX6, "isCommittedAhead", "(II)Z"⟩
abbrev cX6_overlap : ByteArray := prog_8_method_16_code
def yX6_overlap : MethodName := ⟨RX6, "overlap", "(II)Z"⟩
abbrev cX6_isEdge : ByteArray := prog_8_method_17_code
def yX6_isEdge : MethodName := ⟨RX6, "isEdge", "(II)Z"⟩
abbrev cX6_isTriple : ByteArray := prog_8_method_18_code
def yX6_isTriple : MethodName := ⟨RX6, "isTriple", "(III)Z"⟩
abbrev cX6_counts : ByteArray := prog_8_method_19_code
def yX6_counts : MethodName := ⟨RX6, "counts", "(IIII)Z"⟩
abbrev cX6_findTriple : ByteArray := prog_8_method_20_code
def yX6_findTriple : MethodName := ⟨RX6, "findTriple", "(II)Z"⟩
abbrev cX6_reasonFor : ByteArray := prog_8_method_21_code
def yX6_reasonFor : MethodName := ⟨RX6, "reasonFor", "(II)I"⟩
abbrev cX6_rule : ByteArray := prog_8_method_22_code
def yX6_rule : MethodName := ⟨RX6, "rule", "(I)I"⟩
abbrev cX6_setOf : ByteArray := prog_8_method_23_code
def yX6_setOf : MethodName := ⟨RX6, "setOf", "(I)I"⟩
abbrev cX6_bits : ByteArray := prog_8_method_24_code
def yX6_bits : MethodName := ⟨RX6, "bits", "(I)I"⟩
abbrev cX6_beginOne : ByteArray := prog_8_method_25_code
def yX6_beginOne : MethodName := ⟨RX6, "beginOne", "()I"⟩
abbrev cX6_begin : ByteArray := prog_8_method_26_code
def yX6_begin : MethodName := ⟨RX6, "begin", "()I"⟩
abbrev cX6_whyNotRead : ByteArray := prog_8_method_27_code
def yX6_whyNotRead : MethodName := ⟨RX6, "whyNotRead", "(II)I"⟩
abbrev cX6_writerSeen : ByteArray := prog_8_method_28_code
def yX6_writerSeen : MethodName := ⟨RX6, "writerSeen", "(II)I"⟩
abbrev cX6_readOne : ByteArray := prog_8_method_29_code
def yX6_readOne : MethodName := ⟨RX6, "readOne", "(II)I"⟩
abbrev cX6_read : ByteArray := prog_8_method_30_code
def yX6_read : MethodName := ⟨RX6, "read", "(II)I"⟩
abbrev cX6_whyNotWrite : ByteArray := prog_8_method_31_code
def yX6_whyNotWrite : MethodName := ⟨RX6, "whyNotWrite", "(III)I"⟩
abbrev cX6_writeOne : ByteArray := prog_8_method_32_code
def yX6_writeOne : MethodName := ⟨RX6, "writeOne", "(III)I"⟩
abbrev cX6_write : ByteArray := prog_8_method_33_code
def yX6_write : MethodName := ⟨RX6, "write", "(III)I"⟩
abbrev cX6_whyNotEnd : ByteArray := prog_8_method_34_code
def yX6_whyNotEnd : MethodName := ⟨RX6, "whyNotEnd", "(I)I"⟩
abbrev cX6_abortOne : ByteArray := prog_8_method_35_code
def yX6_abortOne : MethodName := ⟨RX6, "abortOne", "(II)V"⟩
abbrev cX6_commitOne : ByteArray := prog_8_method_36_code
def yX6_commitOne : MethodName := ⟨RX6, "commitOne", "(I)I"⟩
abbrev cX6_commit : ByteArray := prog_8_method_37_code
def yX6_commit : MethodName := ⟨RX6, "commit", "(I)I"⟩
abbrev cX6_abort : ByteArray := prog_8_method_38_code
def yX6_abort : MethodName := ⟨RX6, "abort", "(I)I"⟩
abbrev cX6_value : ByteArray := prog_8_method_39_code
def yX6_value : MethodName := ⟨RX6, "value", "(I)I"⟩
abbrev cX6_edgesFrom : ByteArray := prog_8_method_40_code
def yX6_edgesFrom : MethodName := ⟨RX6, "edgesFrom", "(I)I"⟩
abbrev cX6_edgesTo : ByteArray := prog_8_method_41_code
def yX6_edgesTo : MethodName := ⟨RX6, "edgesTo", "(I)I"⟩
abbrev cX6_endangers : ByteArray := prog_8_method_42_code
def yX6_endangers : MethodName := ⟨RX6, "endangers", "(II)Z"⟩
abbrev cX6_safety : ByteArray := prog_8_method_43_code
def yX6_safety : MethodName := ⟨RX6, "safety", "(I)I"⟩
abbrev cX6_of : ByteArray := prog_8_method_44_code
def yX6_of : MethodName := ⟨RX6, "of", "(II)I"⟩
abbrev cX6_edge : ByteArray := prog_8_method_45_code
def yX6_edge : MethodName := ⟨RX6, "edge", "(II)I"⟩
abbrev cX6_over : ByteArray := prog_8_method_46_code
def yX6_over : MethodName := ⟨RX6, "over", "(II)I"⟩
abbrev cX6_edges : ByteArray := prog_8_method_47_code
def yX6_edges : MethodName := ⟨RX6, "edges", "()I"⟩
abbrev cX6_pivots : ByteArray := prog_8_method_48_code
def yX6_pivots : MethodName := ⟨RX6, "pivots", "()I"⟩
abbrev cX6_triples : ByteArray := prog_8_method_49_code
def yX6_triples : MethodName := ⟨RX6, "triples", "()I"⟩
abbrev cX6_count : ByteArray := prog_8_method_50_code
def yX6_count : MethodName := ⟨RX6, "count", "(I)I"⟩
abbrev cX6_depend : ByteArray := prog_8_method_51_code
def yX6_depend : MethodName := ⟨RX6, "depend", "(II)V"⟩
abbrev cX6_layAhead : ByteArray := prog_8_method_52_code
def yX6_layAhead : MethodName := ⟨RX6, "layAhead", "()V"⟩
abbrev cX6_layOrder : ByteArray := prog_8_method_53_code
def yX6_layOrder : MethodName := ⟨RX6, "layOrder", "()I"⟩
abbrev cX6_isSerial : ByteArray := prog_8_method_54_code
def yX6_isSerial : MethodName := ⟨RX6, "isSerial", "()Z"⟩
abbrev cX6_order : ByteArray := prog_8_method_55_code
def yX6_order : MethodName := ⟨RX6, "order", "(I)I"⟩
abbrev cX6_sees : ByteArray := prog_8_method_56_code
def yX6_sees : MethodName := ⟨RX6, "sees", "(II)I"⟩
abbrev cX6_would : ByteArray := prog_8_method_57_code
def yX6_would : MethodName := ⟨RX6, "would", "(I)I"⟩
abbrev cX6_triple : ByteArray := prog_8_method_58_code
def yX6_triple : MethodName := ⟨RX6, "triple", "(II)I"⟩
abbrev cX6_doomed : ByteArray := prog_8_method_59_code
def yX6_doomed : MethodName := ⟨RX6, "doomed", "(I)I"⟩
abbrev cX6_put : ByteArray := prog_8_method_60_code
def yX6_put : MethodName := ⟨RX6, "put", "(J)I"⟩
abbrev cX6_wipe : ByteArray := prog_8_method_61_code
def yX6_wipe : MethodName := ⟨RX6, "wipe", "()I"⟩
abbrev cX6_letter : ByteArray := prog_8_method_62_code
def yX6_letter : MethodName := ⟨RX6, "letter", "()I"⟩
abbrev cX6_wants : ByteArray := prog_8_method_63_code
def yX6_wants : MethodName := ⟨RX6, "wants", "(Z)V"⟩
abbrev cX6_number : ByteArray := prog_8_method_64_code
def yX6_number : MethodName := ⟨RX6, "number", "()I"⟩
abbrev cX6_readOrder : ByteArray := prog_8_method_65_code
def yX6_readOrder : MethodName := ⟨RX6, "readOrder", "()V"⟩
abbrev cX6_readPad : ByteArray := prog_8_method_66_code
def yX6_readPad : MethodName := ⟨RX6, "readPad", "()I"⟩
abbrev cX6_fault : ByteArray := prog_8_method_67_code
def yX6_fault : MethodName := ⟨RX6, "fault", "()I"⟩
abbrev cX6_does : ByteArray := prog_8_method_68_code
def yX6_does : MethodName := ⟨RX6, "does", "(I)I"⟩
abbrev cX6_carryOut : ByteArray := prog_8_method_69_code
def yX6_carryOut : MethodName := ⟨RX6, "carryOut", "()I"⟩
def RJ6 : String := "java/lang/Integer"
def TJ6 : u_T := fun k => match k with
  | _ => ("", "", "", false)
def tyJ6 : Nat → FieldType := fun k => match k with
  | _ => .int
abbrev wsJ60 : List Cond := u_ws RJ6 TJ6 0
theorem nmJ6 : ∀ a, a < 0 → ∀ b, b < 0 → a ≠ b → (TJ6 a).2.1 ≠ (TJ6 b).2.1 := by decide +kernel
theorem tyJ6_ok : ∀ k, k < 0 → parseFieldDescriptor (TJ6 k).2.2.1 = some (tyJ6 k) := by decide +kernel
abbrev cJ6_bitCount_0f7a4 : ByteArray := prog_9_method_49_code
def yJ6_bitCount_0f7a4 : MethodName := ⟨RJ6, "bitCount", "(I)I"⟩
def RJ9 : String := "java/lang/Math"
def TJ9 : u_T := fun k => match k with
  | _ => ("", "", "", false)
def tyJ9 : Nat → FieldType := fun k => match k with
  | _ => .int
abbrev wsJ90 : List Cond := u_ws RJ9 TJ9 0
theorem nmJ9 : ∀ a, a < 0 → ∀ b, b < 0 → a ≠ b → (TJ9 a).2.1 ≠ (TJ9 b).2.1 := by decide +kernel
theorem tyJ9_ok : ∀ k, k < 0 → parseFieldDescriptor (TJ9 k).2.2.1 = some (tyJ9 k) := by decide +kernel
abbrev cJ9_min_7cf53 : ByteArray := prog_10_method_69_code
def yJ9_min_7cf53 : MethodName := ⟨RJ9, "min", "(II)I"⟩
def RJ10 : String := "java/lang/System"
def TJ10 : u_T := fun k => match k with
  | _ => ("", "", "", false)
def tyJ10 : Nat → FieldType := fun k => match k with
  | _ => .int
abbrev wsJ100 : List Cond := u_ws RJ10 TJ10 0
theorem nmJ10 : ∀ a, a < 0 → ∀ b, b < 0 → a ≠ b → (TJ10 a).2.1 ≠ (TJ10 b).2.1 := by decide +kernel
theorem tyJ10_ok : ∀ k, k < 0 → parseFieldDescriptor (TJ10 k).2.2.1 = some (tyJ10 k) := by decide +kernel
def RL : String := "SkewEdgesLaw"
abbrev cL_law : ByteArray := code
def yL_law : MethodName := ⟨RL, "law", "([I)Z"⟩
def wsX0_isLaterWriter : List Cond := .code yX0_isLaterWriter cX0_isLaterWriter 4 (some .boolean) :: ([.fieldLink RX0 19 "SkewEdges$Ledger" "writtenKeys" "[I", .fieldLink RX0 25 "SkewEdges$Ledger" "total" "I", .fieldLink RX0 29 "SkewEdges$Ledger" "phase" "[I", .fieldLink RX0 32 "SkewEdges$Ledger" "committedAt" "[I", .fieldLink RX0 35 "SkewEdges$Ledger" "beganAt" "[I"] ++ wsX20)
def wsX2_inPhase : List Cond := .code yX2_inPhase cX2_inPhase 4 (some .int) :: ([.fieldLink RX2 18 "SkewEdges$Ledger" "total" "I", .fieldLink RX2 21 "SkewEdges$Ledger" "phase" "[I"] ++ wsX20)
def wsX5_contains : List Cond := .code yX5_contains cX5_contains 2 (some .boolean) :: ([])
def wsX2_edgeKeys : List Cond := .code yX2_edgeKeys cX2_edgeKeys 3 (some .int) :: ([.fieldLink RX2 21 "SkewEdges$Ledger" "phase" "[I", .fieldLink RX2 28 "SkewEdges$Ledger" "committedAt" "[I", .fieldLink RX2 25 "SkewEdges$Ledger" "beganAt" "[I", .fieldLink RX2 31 "SkewEdges$Ledger" "readKeys" "[I", .fieldLink RX2 34 "SkewEdges$Ledger" "writtenKeys" "[I"] ++ wsX20)
def wsX2_edgesTo : List Cond := .code yX2_edgesTo cX2_edgesTo 4 (some .int) :: ([.fieldLink RX2 18 "SkewEdges$Ledger" "total" "I", .methodLink RX2 88 yX2_edgeKeys, .instanceMethod yX2_edgeKeys, .selects RX2 yX2_edgeKeys yX2_edgeKeys, .initialized RX2, .code yX2_edgeKeys cX2_edgeKeys 3 (some .int), .fieldLink RX2 21 "SkewEdges$Ledger" "phase" "[I", .fieldLink RX2 28 "SkewEdges$Ledger" "committedAt" "[I", .fieldLink RX2 25 "SkewEdges$Ledger" "beganAt" "[I", .fieldLink RX2 31 "SkewEdges$Ledger" "readKeys" "[I", .fieldLink RX2 34 "SkewEdges$Ledger" "writtenKeys" "[I"] ++ wsX20)
def wsX2_edgesFrom : List Cond := .code yX2_edgesFrom cX2_edgesFrom 4 (some .int) :: ([.fieldLink RX2 18 "SkewEdges$Ledger" "total" "I", .methodLink RX2 88 yX2_edgeKeys, .instanceMethod yX2_edgeKeys, .selects RX2 yX2_edgeKeys yX2_edgeKeys, .initialized RX2, .code yX2_edgeKeys cX2_edgeKeys 3 (some .int), .fieldLink RX2 21 "SkewEdges$Ledger" "phase" "[I", .fieldLink RX2 28 "SkewEdges$Ledger" "committedAt" "[I", .fieldLink RX2 25 "SkewEdges$Ledger" "beganAt" "[I", .fieldLink RX2 31 "SkewEdges$Ledger" "readKeys" "[I", .fieldLink RX2 34 "SkewEdges$Ledger" "writtenKeys" "[I"] ++ wsX20)
def wsX0_counts : List Cond := .code yX0_counts cX0_counts 6 (some .boolean) :: ([.fieldLink RX0 29 "SkewEdges$Ledger" "phase" "[I", .fieldLink RX0 32 "SkewEdges$Ledger" "committedAt" "[I", .fieldLink RX0 19 "SkewEdges$Ledger" "writtenKeys" "[I", .fieldLink RX0 35 "SkewEdges$Ledger" "beganAt" "[I"] ++ wsX20)
def wsX0_firstOverPivot : List Cond := .code yX0_firstOverPivot cX0_firstOverPivot 9 (some .int) :: ([.fieldLink RX0 25 "SkewEdges$Ledger" "total" "I", .static yX5_contains, .initialized RX5, .code yX5_contains cX5_contains 2 (some .boolean), .methodLink RX0 56 yX0_counts, .static yX0_counts, .initialized RX0, .code yX0_counts cX0_counts 6 (some .boolean), .fieldLink RX0 29 "SkewEdges$Ledger" "phase" "[I", .fieldLink RX0 32 "SkewEdges$Ledger" "committedAt" "[I", .fieldLink RX0 19 "SkewEdges$Ledger" "writtenKeys" "[I", .fieldLink RX0 35 "SkewEdges$Ledger" "beganAt" "[I"] ++ wsX20)
def wsX0_firstTriple_r1 : List Cond := [Cond.fieldLink RX0 25 "SkewEdges$Ledger" "total" "I", Cond.methodLink RX0 38 yX2_inPhase, Cond.instanceMethod yX2_inPhase, Cond.selects RX2 yX2_inPhase yX2_inPhase, Cond.initialized RX2, Cond.code yX2_inPhase cX2_inPhase 4 (some .int), Cond.fieldLink RX2 18 "SkewEdges$Ledger" "total" "I", Cond.fieldLink RX2 21 "SkewEdges$Ledger" "phase" "[I", Cond.static yX5_contains, Cond.initialized RX5, Cond.code yX5_contains cX5_contains 2 (some .boolean), Cond.methodLink RX0 46 yX2_edgesTo, Cond.instanceMethod yX2_edgesTo, Cond.selects RX2 yX2_edgesTo yX2_edgesTo, Cond.code yX2_edgesTo cX2_edgesTo 4 (some .int), Cond.methodLink RX2 88 yX2_edgeKeys, Cond.instanceMethod yX2_edgeKeys, Cond.selects RX2 yX2_edgeKeys yX2_edgeKeys, Cond.code yX2_edgeKeys cX2_edgeKeys 3 (some .int), Cond.fieldLink RX2 28 "SkewEdges$Ledger" "committedAt" "[I", Cond.fieldLink RX2 25 "SkewEdges$Ledger" "beganAt" "[I", Cond.fieldLink RX2 31 "SkewEdges$Ledger" "readKeys" "[I", Cond.fieldLink RX2 34 "SkewEdges$Ledger" "writtenKeys" "[I", Cond.methodLink RX0 49 yX2_edgesFrom]
def wsX0_firstTriple_r2 : List Cond := [Cond.instanceMethod yX2_edgesFrom, Cond.selects RX2 yX2_edgesFrom yX2_edgesFrom, Cond.code yX2_edgesFrom cX2_edgesFrom 4 (some .int), Cond.methodLink RX0 52 yX0_firstOverPivot, Cond.static yX0_firstOverPivot, Cond.initialized RX0, Cond.code yX0_firstOverPivot cX0_firstOverPivot 9 (some .int), Cond.methodLink RX0 56 yX0_counts, Cond.static yX0_counts, Cond.code yX0_counts cX0_counts 6 (some .boolean), Cond.fieldLink RX0 29 "SkewEdges$Ledger" "phase" "[I", Cond.fieldLink RX0 32 "SkewEdges$Ledger" "committedAt" "[I", Cond.fieldLink RX0 19 "SkewEdges$Ledger" "writtenKeys" "[I", Cond.fieldLink RX0 35 "SkewEdges$Ledger" "beganAt" "[I"]
def wsX0_firstTriple : List Cond := .code yX0_firstTriple cX0_firstTriple 8 (some .int) :: ((wsX0_firstTriple_r1 ++ wsX0_firstTriple_r2) ++ wsX20)
def wsX0_refusal_r1 : List Cond := [Cond.methodLink RX0 9 yX0_isLaterWriter, Cond.static yX0_isLaterWriter, Cond.initialized RX0, Cond.code yX0_isLaterWriter cX0_isLaterWriter 4 (some .boolean), Cond.fieldLink RX0 19 "SkewEdges$Ledger" "writtenKeys" "[I", Cond.fieldLink RX0 25 "SkewEdges$Ledger" "total" "I", Cond.fieldLink RX0 29 "SkewEdges$Ledger" "phase" "[I", Cond.fieldLink RX0 32 "SkewEdges$Ledger" "committedAt" "[I", Cond.fieldLink RX0 35 "SkewEdges$Ledger" "beganAt" "[I", Cond.methodLink RX0 15 yX0_firstTriple, Cond.static yX0_firstTriple, Cond.code yX0_firstTriple cX0_firstTriple 8 (some .int), Cond.methodLink RX0 38 yX2_inPhase, Cond.instanceMethod yX2_inPhase, Cond.selects RX2 yX2_inPhase yX2_inPhase, Cond.initialized RX2, Cond.code yX2_inPhase cX2_inPhase 4 (some .int), Cond.fieldLink RX2 18 "SkewEdges$Ledger" "total" "I", Cond.fieldLink RX2 21 "SkewEdges$Ledger" "phase" "[I", Cond.static yX5_contains, Cond.initialized RX5, Cond.code yX5_contains cX5_contains 2 (some .boolean), Cond.methodLink RX0 46 yX2_edgesTo, Cond.instanceMethod yX2_edgesTo]
def wsX0_refusal_r2 : List Cond := [Cond.selects RX2 yX2_edgesTo yX2_edgesTo, Cond.code yX2_edgesTo cX2_edgesTo 4 (some .int), Cond.methodLink RX2 88 yX2_edgeKeys, Cond.instanceMethod yX2_edgeKeys, Cond.selects RX2 yX2_edgeKeys yX2_edgeKeys, Cond.code yX2_edgeKeys cX2_edgeKeys 3 (some .int), Cond.fieldLink RX2 28 "SkewEdges$Ledger" "committedAt" "[I", Cond.fieldLink RX2 25 "SkewEdges$Ledger" "beganAt" "[I", Cond.fieldLink RX2 31 "SkewEdges$Ledger" "readKeys" "[I", Cond.fieldLink RX2 34 "SkewEdges$Ledger" "writtenKeys" "[I", Cond.methodLink RX0 49 yX2_edgesFrom, Cond.instanceMethod yX2_edgesFrom, Cond.selects RX2 yX2_edgesFrom yX2_edgesFrom, Cond.code yX2_edgesFrom cX2_edgesFrom 4 (some .int), Cond.methodLink RX0 52 yX0_firstOverPivot, Cond.static yX0_firstOverPivot, Cond.code yX0_firstOverPivot cX0_firstOverPivot 9 (some .int), Cond.methodLink RX0 56 yX0_counts, Cond.static yX0_counts, Cond.code yX0_counts cX0_counts 6 (some .boolean)]
def wsX0_refusal : List Cond := .code yX0_refusal cX0_refusal 3 (some .int) :: ((wsX0_refusal_r1 ++ wsX0_refusal_r2) ++ wsX20)
def wsX0_partOfTriple : List Cond := .code yX0_partOfTriple cX0_partOfTriple 2 (some .int) :: ([])
def wsX2_init : List Cond := .code yX2_init cX2_init 1 none :: ([.methodLink RX2 3 objectInit, .instanceMethod objectInit, .code objectInit ⟨#[0xb1]⟩ 1 none, .fieldLink RX2 9 "SkewEdges$Ledger" "rule" "I", .fieldLink RX2 15 "SkewEdges$Ledger" "moment" "I", .fieldLink RX2 18 "SkewEdges$Ledger" "total" "I", .arrayClass .int, .fieldLink RX2 21 "SkewEdges$Ledger" "phase" "[I", .fieldLink RX2 25 "SkewEdges$Ledger" "beganAt" "[I", .fieldLink RX2 28 "SkewEdges$Ledger" "committedAt" "[I", .fieldLink RX2 31 "SkewEdges$Ledger" "readKeys" "[I", .fieldLink RX2 34 "SkewEdges$Ledger" "writtenKeys" "[I", .fieldLink RX2 37 "SkewEdges$Ledger" "reason" "[I", .fieldLink RX2 40 "SkewEdges$Ledger" "values" "[I"] ++ wsX20)
def wsX1_init : List Cond := .code yX1_init cX1_init 2 none :: ([.methodLink RX1 3 objectInit, .instanceMethod objectInit, .code objectInit ⟨#[0xb1]⟩ 1 none, .fieldLink RX1 9 "SkewEdges$History" "kept" "I", .fieldLink RX1 15 "SkewEdges$History" "next" "I", .classLink RX1 18 RX2, .fieldLink RX1 20 "SkewEdges$History" "rows" "[LSkewEdges$Ledger;", .instantiable RX2 10, .initialized RX2, .methodLink RX1 24 yX2_init, .instanceMethod yX2_init, .code yX2_init cX2_init 1 none, .methodLink RX2 3 objectInit, .fieldLink RX2 9 "SkewEdges$Ledger" "rule" "I", .fieldLink RX2 15 "SkewEdges$Ledger" "moment" "I", .fieldLink RX2 18 "SkewEdges$Ledger" "total" "I", .arrayClass .int, .fieldLink RX2 21 "SkewEdges$Ledger" "phase" "[I", .fieldLink RX2 25 "SkewEdges$Ledger" "beganAt" "[I", .fieldLink RX2 28 "SkewEdges$Ledger" "committedAt" "[I", .fieldLink RX2 31 "SkewEdges$Ledger" "readKeys" "[I", .fieldLink RX2 34 "SkewEdges$Ledger" "writtenKeys" "[I", .fieldLink RX2 37 "SkewEdges$Ledger" "reason" "[I", .fieldLink RX2 40 "SkewEdges$Ledger" "values" "[I"] ++ wsX10 ++ wsX20)
def wsX2_copyFrom : List Cond := .code yX2_copyFrom cX2_copyFrom 2 none :: ([.fieldLink RX2 9 "SkewEdges$Ledger" "rule" "I", .fieldLink RX2 15 "SkewEdges$Ledger" "moment" "I", .fieldLink RX2 18 "SkewEdges$Ledger" "total" "I", .fieldLink RX2 21 "SkewEdges$Ledger" "phase" "[I", .methodLink RX2 43 arraycopyName, .native arraycopyName, .static arraycopyName, .initialized "java/lang/System", .fieldLink RX2 25 "SkewEdges$Ledger" "beganAt" "[I", .fieldLink RX2 28 "SkewEdges$Ledger" "committedAt" "[I", .fieldLink RX2 31 "SkewEdges$Ledger" "readKeys" "[I", .fieldLink RX2 34 "SkewEdges$Ledger" "writtenKeys" "[I", .fieldLink RX2 37 "SkewEdges$Ledger" "reason" "[I", .fieldLink RX2 40 "SkewEdges$Ledger" "values" "[I"] ++ wsX20)
def wsX1_prepare : List Cond := .code yX1_prepare cX1_prepare 2 none :: ([.fieldLink RX1 20 "SkewEdges$History" "rows" "[LSkewEdges$Ledger;", .fieldLink RX1 15 "SkewEdges$History" "next" "I", .methodLink RX1 25 yX2_copyFrom, .instanceMethod yX2_copyFrom, .selects RX2 yX2_copyFrom yX2_copyFrom, .initialized RX2, .code yX2_copyFrom cX2_copyFrom 2 none, .fieldLink RX2 9 "SkewEdges$Ledger" "rule" "I", .fieldLink RX2 15 "SkewEdges$Ledger" "moment" "I", .fieldLink RX2 18 "SkewEdges$Ledger" "total" "I", .fieldLink RX2 21 "SkewEdges$Ledger" "phase" "[I", .methodLink RX2 43 arraycopyName, .native arraycopyName, .static arraycopyName, .initialized "java/lang/System", .fieldLink RX2 25 "SkewEdges$Ledger" "beganAt" "[I", .fieldLink RX2 28 "SkewEdges$Ledger" "committedAt" "[I", .fieldLink RX2 31 "SkewEdges$Ledger" "readKeys" "[I", .fieldLink RX2 34 "SkewEdges$Ledger" "writtenKeys" "[I", .fieldLink RX2 37 "SkewEdges$Ledger" "reason" "[I", .fieldLink RX2 40 "SkewEdges$Ledger" "values" "[I"] ++ wsX10 ++ wsX20)
def wsX1_keepUnlessError : List Cond := .code yX1_keepUnlessError cX1_keepUnlessError 2 (some .int) :: ([.fieldLink RX1 15 "SkewEdges$History" "next" "I", .fieldLink RX1 9 "SkewEdges$History" "kept" "I", .methodLink RX1 29 Lib.Math.min.name, .static Lib.Math.min.name, .initialized "java/lang/Math", .code Lib.Math.min.name Lib.Math.min.code 2 (some .int)] ++ wsX10)
def wsX1_stepBack : List Cond := .code yX1_stepBack cX1_stepBack 2 (some .int) :: ([.fieldLink RX1 9 "SkewEdges$History" "kept" "I", .fieldLink RX1 15 "SkewEdges$History" "next" "I", .fieldLink RX1 20 "SkewEdges$History" "rows" "[LSkewEdges$Ledger;", .methodLink RX1 25 yX2_copyFrom, .instanceMethod yX2_copyFrom, .selects RX2 yX2_copyFrom yX2_copyFrom, .initialized RX2, .code yX2_copyFrom cX2_copyFrom 2 none, .fieldLink RX2 9 "SkewEdges$Ledger" "rule" "I", .fieldLink RX2 15 "SkewEdges$Ledger" "moment" "I", .fieldLink RX2 18 "SkewEdges$Ledger" "total" "I", .fieldLink RX2 21 "SkewEdges$Ledger" "phase" "[I", .methodLink RX2 43 arraycopyName, .native arraycopyName, .static arraycopyName, .initialized "java/lang/System", .fieldLink RX2 25 "SkewEdges$Ledger" "beganAt" "[I", .fieldLink RX2 28 "SkewEdges$Ledger" "committedAt" "[I", .fieldLink RX2 31 "SkewEdges$Ledger" "readKeys" "[I", .fieldLink RX2 34 "SkewEdges$Ledger" "writtenKeys" "[I", .fieldLink RX2 37 "SkewEdges$Ledger" "reason" "[I", .fieldLink RX2 40 "SkewEdges$Ledger" "values" "[I"] ++ wsX10 ++ wsX20)
def wsX2_exists : List Cond := .code yX2_exists cX2_exists 2 (some .boolean) :: ([.fieldLink RX2 18 "SkewEdges$Ledger" "total" "I"] ++ wsX20)
def wsX5_isRule : List Cond := .code yX5_isRule cX5_isRule 1 (some .boolean) :: ([])
def wsX2_changeRule : List Cond := .code yX2_changeRule cX2_changeRule 3 (some .int) :: ([.fieldLink RX2 9 "SkewEdges$Ledger" "rule" "I", .static yX5_isRule, .initialized RX5, .code yX5_isRule cX5_isRule 1 (some .boolean)] ++ wsX20)
def wsX2_start : List Cond := .code yX2_start cX2_start 2 (some .int) :: ([.fieldLink RX2 18 "SkewEdges$Ledger" "total" "I", .fieldLink RX2 15 "SkewEdges$Ledger" "moment" "I", .fieldLink RX2 21 "SkewEdges$Ledger" "phase" "[I", .fieldLink RX2 25 "SkewEdges$Ledger" "beganAt" "[I", .fieldLink RX2 28 "SkewEdges$Ledger" "committedAt" "[I", .fieldLink RX2 31 "SkewEdges$Ledger" "readKeys" "[I", .fieldLink RX2 34 "SkewEdges$Ledger" "writtenKeys" "[I", .fieldLink RX2 37 "SkewEdges$Ledger" "reason" "[I"] ++ wsX20)
def wsX5_isKey : List Cond := .code yX5_isKey cX5_isKey 1 (some .boolean) :: ([])
def wsX2_writerAhead : List Cond := .code yX2_writerAhead cX2_writerAhead 6 (some .int) :: ([.fieldLink RX2 18 "SkewEdges$Ledger" "total" "I", .fieldLink RX2 21 "SkewEdges$Ledger" "phase" "[I", .fieldLink RX2 34 "SkewEdges$Ledger" "writtenKeys" "[I", .fieldLink RX2 28 "SkewEdges$Ledger" "committedAt" "[I", .static yX5_contains, .initialized RX5, .code yX5_contains cX5_contains 2 (some .boolean)] ++ wsX20)
def wsX2_seenWriter : List Cond := .code yX2_seenWriter cX2_seenWriter 3 (some .int) :: ([.fieldLink RX2 34 "SkewEdges$Ledger" "writtenKeys" "[I", .fieldLink RX2 25 "SkewEdges$Ledger" "beganAt" "[I", .static yX5_contains, .initialized RX5, .code yX5_contains cX5_contains 2 (some .boolean), .methodLink RX2 85 yX2_writerAhead, .instanceMethod yX2_writerAhead, .selects RX2 yX2_writerAhead yX2_writerAhead, .initialized RX2, .code yX2_writerAhead cX2_writerAhead 6 (some .int), .fieldLink RX2 18 "SkewEdges$Ledger" "total" "I", .fieldLink RX2 21 "SkewEdges$Ledger" "phase" "[I", .fieldLink RX2 28 "SkewEdges$Ledger" "committedAt" "[I"] ++ wsX20)
def wsX2_valueOfVersion : List Cond := .code yX2_valueOfVersion cX2_valueOfVersion 3 (some .int) :: ([.fieldLink RX2 40 "SkewEdges$Ledger" "values" "[I", .methodLink RX2 53 yX2_exists, .instanceMethod yX2_exists, .selects RX2 yX2_exists yX2_exists, .initialized RX2, .code yX2_exists cX2_exists 2 (some .boolean), .fieldLink RX2 18 "SkewEdges$Ledger" "total" "I"] ++ wsX20)
def wsX2_look_r1 : List Cond := [Cond.fieldLink RX2 21 "SkewEdges$Ledger" "phase" "[I", Cond.fieldLink RX2 34 "SkewEdges$Ledger" "writtenKeys" "[I", Cond.fieldLink RX2 31 "SkewEdges$Ledger" "readKeys" "[I", Cond.methodLink RX2 53 yX2_exists, Cond.instanceMethod yX2_exists, Cond.selects RX2 yX2_exists yX2_exists, Cond.initialized RX2, Cond.code yX2_exists cX2_exists 2 (some .boolean), Cond.fieldLink RX2 18 "SkewEdges$Ledger" "total" "I", Cond.static yX5_isKey, Cond.initialized RX5, Cond.code yX5_isKey cX5_isKey 1 (some .boolean), Cond.static yX5_contains, Cond.code yX5_contains cX5_contains 2 (some .boolean), Cond.methodLink RX2 63 yX2_seenWriter, Cond.instanceMethod yX2_seenWriter, Cond.selects RX2 yX2_seenWriter yX2_seenWriter, Cond.code yX2_seenWriter cX2_seenWriter 3 (some .int), Cond.fieldLink RX2 25 "SkewEdges$Ledger" "beganAt" "[I", Cond.methodLink RX2 85 yX2_writerAhead, Cond.instanceMethod yX2_writerAhead, Cond.selects RX2 yX2_writerAhead yX2_writerAhead, Cond.code yX2_writerAhead cX2_writerAhead 6 (some .int), Cond.fieldLink RX2 28 "SkewEdges$Ledger" "committedAt" "[I"]
def wsX2_look_r2 : List Cond := [Cond.methodLink RX2 67 yX2_valueOfVersion, Cond.instanceMethod yX2_valueOfVersion, Cond.selects RX2 yX2_valueOfVersion yX2_valueOfVersion, Cond.code yX2_valueOfVersion cX2_valueOfVersion 3 (some .int), Cond.fieldLink RX2 40 "SkewEdges$Ledger" "values" "[I"]
def wsX2_look : List Cond := .code yX2_look cX2_look 3 (some .int) :: ((wsX2_look_r1 ++ wsX2_look_r2) ++ wsX20)
def wsX2_enter : List Cond := .code yX2_enter cX2_enter 4 (some .int) :: ([.fieldLink RX2 21 "SkewEdges$Ledger" "phase" "[I", .fieldLink RX2 34 "SkewEdges$Ledger" "writtenKeys" "[I", .fieldLink RX2 40 "SkewEdges$Ledger" "values" "[I", .methodLink RX2 53 yX2_exists, .instanceMethod yX2_exists, .selects RX2 yX2_exists yX2_exists, .initialized RX2, .code yX2_exists cX2_exists 2 (some .boolean), .fieldLink RX2 18 "SkewEdges$Ledger" "total" "I", .static yX5_isKey, .initialized RX5, .code yX5_isKey cX5_isKey 1 (some .boolean)] ++ wsX20)
def wsX2_finish_r1 : List Cond := [Cond.fieldLink RX2 21 "SkewEdges$Ledger" "phase" "[I", Cond.fieldLink RX2 9 "SkewEdges$Ledger" "rule" "I", Cond.fieldLink RX2 37 "SkewEdges$Ledger" "reason" "[I", Cond.fieldLink RX2 15 "SkewEdges$Ledger" "moment" "I", Cond.fieldLink RX2 28 "SkewEdges$Ledger" "committedAt" "[I", Cond.methodLink RX2 53 yX2_exists, Cond.instanceMethod yX2_exists, Cond.selects RX2 yX2_exists yX2_exists, Cond.initialized RX2, Cond.code yX2_exists cX2_exists 2 (some .boolean), Cond.fieldLink RX2 18 "SkewEdges$Ledger" "total" "I", Cond.methodLink RX2 70 yX0_refusal, Cond.static yX0_refusal, Cond.initialized RX0, Cond.code yX0_refusal cX0_refusal 3 (some .int), Cond.methodLink RX0 9 yX0_isLaterWriter, Cond.static yX0_isLaterWriter, Cond.code yX0_isLaterWriter cX0_isLaterWriter 4 (some .boolean), Cond.fieldLink RX0 19 "SkewEdges$Ledger" "writtenKeys" "[I", Cond.fieldLink RX0 25 "SkewEdges$Ledger" "total" "I", Cond.fieldLink RX0 29 "SkewEdges$Ledger" "phase" "[I", Cond.fieldLink RX0 32 "SkewEdges$Ledger" "committedAt" "[I", Cond.fieldLink RX0 35 "SkewEdges$Ledger" "beganAt" "[I", Cond.methodLink RX0 15 yX0_firstTriple]
def wsX2_finish_r2 : List Cond := [Cond.static yX0_firstTriple, Cond.code yX0_firstTriple cX0_firstTriple 8 (some .int), Cond.methodLink RX0 38 yX2_inPhase, Cond.instanceMethod yX2_inPhase, Cond.selects RX2 yX2_inPhase yX2_inPhase, Cond.code yX2_inPhase cX2_inPhase 4 (some .int), Cond.static yX5_contains, Cond.initialized RX5, Cond.code yX5_contains cX5_contains 2 (some .boolean), Cond.methodLink RX0 46 yX2_edgesTo, Cond.instanceMethod yX2_edgesTo, Cond.selects RX2 yX2_edgesTo yX2_edgesTo, Cond.code yX2_edgesTo cX2_edgesTo 4 (some .int), Cond.methodLink RX2 88 yX2_edgeKeys, Cond.instanceMethod yX2_edgeKeys, Cond.selects RX2 yX2_edgeKeys yX2_edgeKeys, Cond.code yX2_edgeKeys cX2_edgeKeys 3 (some .int), Cond.fieldLink RX2 25 "SkewEdges$Ledger" "beganAt" "[I", Cond.fieldLink RX2 31 "SkewEdges$Ledger" "readKeys" "[I", Cond.fieldLink RX2 34 "SkewEdges$Ledger" "writtenKeys" "[I", Cond.methodLink RX0 49 yX2_edgesFrom, Cond.instanceMethod yX2_edgesFrom, Cond.selects RX2 yX2_edgesFrom yX2_edgesFrom, Cond.code yX2_edgesFrom cX2_edgesFrom 4 (some .int)]
def wsX2_finish_r3 : List Cond := [Cond.methodLink RX0 52 yX0_firstOverPivot, Cond.static yX0_firstOverPivot, Cond.code yX0_firstOverPivot cX0_firstOverPivot 9 (some .int), Cond.methodLink RX0 56 yX0_counts, Cond.static yX0_counts, Cond.code yX0_counts cX0_counts 6 (some .boolean)]
def wsX2_finish : List Cond := .code yX2_finish cX2_finish 3 (some .int) :: ((wsX2_finish_r1 ++ (wsX2_finish_r2 ++ wsX2_finish_r3)) ++ wsX20)
def wsJ6_bitCount_0f7a4 : List Cond := .code yJ6_bitCount_0f7a4 cJ6_bitCount_0f7a4 1 (some .int) :: ([.constant RJ6 265 (1431655765), .constant RJ6 266 (858993459), .constant RJ6 267 (252645135)])
def wsX2_giveUp : List Cond := .code yX2_giveUp cX2_giveUp 2 (some .int) :: ([.fieldLink RX2 21 "SkewEdges$Ledger" "phase" "[I", .fieldLink RX2 37 "SkewEdges$Ledger" "reason" "[I", .methodLink RX2 53 yX2_exists, .instanceMethod yX2_exists, .selects RX2 yX2_exists yX2_exists, .initialized RX2, .code yX2_exists cX2_exists 2 (some .boolean), .fieldLink RX2 18 "SkewEdges$Ledger" "total" "I", .methodLink RX2 76 yX2_inPhase, .instanceMethod yX2_inPhase, .selects RX2 yX2_inPhase yX2_inPhase, .code yX2_inPhase cX2_inPhase 4 (some .int), .methodLink RX2 80 yJ6_bitCount_0f7a4, .static yJ6_bitCount_0f7a4, .initialized RJ6, .code yJ6_bitCount_0f7a4 cJ6_bitCount_0f7a4 1 (some .int), .constant RJ6 265 (1431655765), .constant RJ6 266 (858993459), .constant RJ6 267 (252645135)] ++ wsX20)
def wsX2_writerBehind : List Cond := .code yX2_writerBehind cX2_writerBehind 6 (some .int) :: ([.fieldLink RX2 15 "SkewEdges$Ledger" "moment" "I", .fieldLink RX2 18 "SkewEdges$Ledger" "total" "I", .fieldLink RX2 21 "SkewEdges$Ledger" "phase" "[I", .fieldLink RX2 34 "SkewEdges$Ledger" "writtenKeys" "[I", .fieldLink RX2 28 "SkewEdges$Ledger" "committedAt" "[I", .static yX5_contains, .initialized RX5, .code yX5_contains cX5_contains 2 (some .boolean)] ++ wsX20)
def wsX2_edgeTotal : List Cond := .code yX2_edgeTotal cX2_edgeTotal 3 (some .int) :: ([.fieldLink RX2 18 "SkewEdges$Ledger" "total" "I", .methodLink RX2 91 yX2_edgesFrom, .instanceMethod yX2_edgesFrom, .selects RX2 yX2_edgesFrom yX2_edgesFrom, .initialized RX2, .code yX2_edgesFrom cX2_edgesFrom 4 (some .int), .methodLink RX2 88 yX2_edgeKeys, .instanceMethod yX2_edgeKeys, .selects RX2 yX2_edgeKeys yX2_edgeKeys, .code yX2_edgeKeys cX2_edgeKeys 3 (some .int), .fieldLink RX2 21 "SkewEdges$Ledger" "phase" "[I", .fieldLink RX2 28 "SkewEdges$Ledger" "committedAt" "[I", .fieldLink RX2 25 "SkewEdges$Ledger" "beganAt" "[I", .fieldLink RX2 31 "SkewEdges$Ledger" "readKeys" "[I", .fieldLink RX2 34 "SkewEdges$Ledger" "writtenKeys" "[I", .methodLink RX2 80 yJ6_bitCount_0f7a4, .static yJ6_bitCount_0f7a4, .initialized RJ6, .code yJ6_bitCount_0f7a4 cJ6_bitCount_0f7a4 1 (some .int), .constant RJ6 265 (1431655765), .constant RJ6 266 (858993459), .constant RJ6 267 (252645135)] ++ wsX20)
def wsX2_pivots : List Cond := .code yX2_pivots cX2_pivots 3 (some .int) :: ([.fieldLink RX2 18 "SkewEdges$Ledger" "total" "I", .methodLink RX2 94 yX2_edgesTo, .instanceMethod yX2_edgesTo, .selects RX2 yX2_edgesTo yX2_edgesTo, .initialized RX2, .code yX2_edgesTo cX2_edgesTo 4 (some .int), .methodLink RX2 88 yX2_edgeKeys, .instanceMethod yX2_edgeKeys, .selects RX2 yX2_edgeKeys yX2_edgeKeys, .code yX2_edgeKeys cX2_edgeKeys 3 (some .int), .fieldLink RX2 21 "SkewEdges$Ledger" "phase" "[I", .fieldLink RX2 28 "SkewEdges$Ledger" "committedAt" "[I", .fieldLink RX2 25 "SkewEdges$Ledger" "beganAt" "[I", .fieldLink RX2 31 "SkewEdges$Ledger" "readKeys" "[I", .fieldLink RX2 34 "SkewEdges$Ledger" "writtenKeys" "[I", .methodLink RX2 91 yX2_edgesFrom, .instanceMethod yX2_edgesFrom, .selects RX2 yX2_edgesFrom yX2_edgesFrom, .code yX2_edgesFrom cX2_edgesFrom 4 (some .int)] ++ wsX20)
def wsX2_tripleTotal_r1 : List Cond := [Cond.fieldLink RX2 18 "SkewEdges$Ledger" "total" "I", Cond.methodLink RX2 94 yX2_edgesTo, Cond.instanceMethod yX2_edgesTo, Cond.selects RX2 yX2_edgesTo yX2_edgesTo, Cond.initialized RX2, Cond.code yX2_edgesTo cX2_edgesTo 4 (some .int), Cond.methodLink RX2 88 yX2_edgeKeys, Cond.instanceMethod yX2_edgeKeys, Cond.selects RX2 yX2_edgeKeys yX2_edgeKeys, Cond.code yX2_edgeKeys cX2_edgeKeys 3 (some .int), Cond.fieldLink RX2 21 "SkewEdges$Ledger" "phase" "[I", Cond.fieldLink RX2 28 "SkewEdges$Ledger" "committedAt" "[I", Cond.fieldLink RX2 25 "SkewEdges$Ledger" "beganAt" "[I", Cond.fieldLink RX2 31 "SkewEdges$Ledger" "readKeys" "[I", Cond.fieldLink RX2 34 "SkewEdges$Ledger" "writtenKeys" "[I", Cond.methodLink RX2 80 yJ6_bitCount_0f7a4, Cond.static yJ6_bitCount_0f7a4, Cond.initialized RJ6, Cond.code yJ6_bitCount_0f7a4 cJ6_bitCount_0f7a4 1 (some .int), Cond.constant RJ6 265 (1431655765), Cond.constant RJ6 266 (858993459), Cond.constant RJ6 267 (252645135), Cond.methodLink RX2 91 yX2_edgesFrom, Cond.instanceMethod yX2_edgesFrom]
def wsX2_tripleTotal_r2 : List Cond := [Cond.selects RX2 yX2_edgesFrom yX2_edgesFrom, Cond.code yX2_edgesFrom cX2_edgesFrom 4 (some .int)]
def wsX2_tripleTotal : List Cond := .code yX2_tripleTotal cX2_tripleTotal 3 (some .int) :: ((wsX2_tripleTotal_r1 ++ wsX2_tripleTotal_r2) ++ wsX20)
def wsX2_spoils : List Cond := .code yX2_spoils cX2_spoils 5 (some .boolean) :: ([.fieldLink RX2 21 "SkewEdges$Ledger" "phase" "[I", .fieldLink RX2 28 "SkewEdges$Ledger" "committedAt" "[I", .fieldLink RX2 18 "SkewEdges$Ledger" "total" "I", .methodLink RX2 91 yX2_edgesFrom, .instanceMethod yX2_edgesFrom, .selects RX2 yX2_edgesFrom yX2_edgesFrom, .initialized RX2, .code yX2_edgesFrom cX2_edgesFrom 4 (some .int), .methodLink RX2 88 yX2_edgeKeys, .instanceMethod yX2_edgeKeys, .selects RX2 yX2_edgeKeys yX2_edgeKeys, .code yX2_edgeKeys cX2_edgeKeys 3 (some .int), .fieldLink RX2 25 "SkewEdges$Ledger" "beganAt" "[I", .fieldLink RX2 31 "SkewEdges$Ledger" "readKeys" "[I", .fieldLink RX2 34 "SkewEdges$Ledger" "writtenKeys" "[I", .static yX5_contains, .initialized RX5, .code yX5_contains cX5_contains 2 (some .boolean)] ++ wsX20)
def wsX2_snapshot : List Cond := .code yX2_snapshot cX2_snapshot 4 (some .int) :: ([.fieldLink RX2 34 "SkewEdges$Ledger" "writtenKeys" "[I", .fieldLink RX2 21 "SkewEdges$Ledger" "phase" "[I", .fieldLink RX2 25 "SkewEdges$Ledger" "beganAt" "[I", .methodLink RX2 97 yX2_spoils, .instanceMethod yX2_spoils, .selects RX2 yX2_spoils yX2_spoils, .initialized RX2, .code yX2_spoils cX2_spoils 5 (some .boolean), .fieldLink RX2 28 "SkewEdges$Ledger" "committedAt" "[I", .fieldLink RX2 18 "SkewEdges$Ledger" "total" "I", .methodLink RX2 91 yX2_edgesFrom, .instanceMethod yX2_edgesFrom, .selects RX2 yX2_edgesFrom yX2_edgesFrom, .code yX2_edgesFrom cX2_edgesFrom 4 (some .int), .methodLink RX2 88 yX2_edgeKeys, .instanceMethod yX2_edgeKeys, .selects RX2 yX2_edgeKeys yX2_edgeKeys, .code yX2_edgeKeys cX2_edgeKeys 3 (some .int), .fieldLink RX2 31 "SkewEdges$Ledger" "readKeys" "[I", .static yX5_contains, .initialized RX5, .code yX5_contains cX5_contains 2 (some .boolean)] ++ wsX20)
def wsX3_init : List Cond := .code yX3_init cX3_init 1 none :: ([.methodLink RX3 3 objectInit, .instanceMethod objectInit, .code objectInit ⟨#[0xb1]⟩ 1 none, .arrayClass .char, .fieldLink RX3 9 "SkewEdges$Pad" "signs" "[C"] ++ wsX30)
def wsX3_append : List Cond := .code yX3_append cX3_append 7 (some .int) :: ([.constantLong RX3 15 (255), .constantLong RX3 17 (33), .constantLong RX3 19 (126), .fieldLink RX3 21 "SkewEdges$Pad" "length" "I", .fieldLink RX3 9 "SkewEdges$Pad" "signs" "[C"] ++ wsX30)
def wsX3_empty : List Cond := .code yX3_empty cX3_empty 2 (some .int) :: ([.fieldLink RX3 21 "SkewEdges$Pad" "length" "I"] ++ wsX30)
def wsX3_rewind : List Cond := .code yX3_rewind cX3_rewind 1 none :: ([.fieldLink RX3 25 "SkewEdges$Pad" "at" "I"] ++ wsX30)
def wsX3_isDigitNext : List Cond := .code yX3_isDigitNext cX3_isDigitNext 1 (some .boolean) :: ([.fieldLink RX3 25 "SkewEdges$Pad" "at" "I", .fieldLink RX3 21 "SkewEdges$Pad" "length" "I", .fieldLink RX3 9 "SkewEdges$Pad" "signs" "[C"] ++ wsX30)
def wsX3_passNumber : List Cond := .code yX3_passNumber cX3_passNumber 2 (some .boolean) :: ([.fieldLink RX3 54 "SkewEdges$Pad" "number" "I", .fieldLink RX3 9 "SkewEdges$Pad" "signs" "[C", .fieldLink RX3 25 "SkewEdges$Pad" "at" "I", .methodLink RX3 66 yX3_isDigitNext, .instanceMethod yX3_isDigitNext, .selects RX3 yX3_isDigitNext yX3_isDigitNext, .initialized RX3, .code yX3_isDigitNext cX3_isDigitNext 1 (some .boolean), .fieldLink RX3 21 "SkewEdges$Pad" "length" "I"] ++ wsX30)
def wsX3_passFirst : List Cond := .code yX3_passFirst cX3_passFirst 2 (some .boolean) :: ([.fieldLink RX3 54 "SkewEdges$Pad" "number" "I", .fieldLink RX3 57 "SkewEdges$Pad" "first" "I", .methodLink RX3 51 yX3_passNumber, .instanceMethod yX3_passNumber, .selects RX3 yX3_passNumber yX3_passNumber, .initialized RX3, .code yX3_passNumber cX3_passNumber 2 (some .boolean), .fieldLink RX3 9 "SkewEdges$Pad" "signs" "[C", .fieldLink RX3 25 "SkewEdges$Pad" "at" "I", .methodLink RX3 66 yX3_isDigitNext, .instanceMethod yX3_isDigitNext, .selects RX3 yX3_isDigitNext yX3_isDigitNext, .code yX3_isDigitNext cX3_isDigitNext 1 (some .boolean), .fieldLink RX3 21 "SkewEdges$Pad" "length" "I"] ++ wsX30)
def wsX3_passSign : List Cond := .code yX3_passSign cX3_passSign 2 (some .boolean) :: ([.fieldLink RX3 25 "SkewEdges$Pad" "at" "I", .fieldLink RX3 21 "SkewEdges$Pad" "length" "I", .fieldLink RX3 9 "SkewEdges$Pad" "signs" "[C"] ++ wsX30)
def wsX3_passSecond : List Cond := .code yX3_passSecond cX3_passSecond 2 (some .boolean) :: ([.fieldLink RX3 54 "SkewEdges$Pad" "number" "I", .fieldLink RX3 60 "SkewEdges$Pad" "second" "I", .methodLink RX3 51 yX3_passNumber, .instanceMethod yX3_passNumber, .selects RX3 yX3_passNumber yX3_passNumber, .initialized RX3, .code yX3_passNumber cX3_passNumber 2 (some .boolean), .fieldLink RX3 9 "SkewEdges$Pad" "signs" "[C", .fieldLink RX3 25 "SkewEdges$Pad" "at" "I", .methodLink RX3 66 yX3_isDigitNext, .instanceMethod yX3_isDigitNext, .selects RX3 yX3_isDigitNext yX3_isDigitNext, .code yX3_isDigitNext cX3_isDigitNext 1 (some .boolean), .fieldLink RX3 21 "SkewEdges$Pad" "length" "I"] ++ wsX30)
def wsX3_passThird : List Cond := .code yX3_passThird cX3_passThird 2 (some .boolean) :: ([.fieldLink RX3 54 "SkewEdges$Pad" "number" "I", .fieldLink RX3 63 "SkewEdges$Pad" "third" "I", .methodLink RX3 51 yX3_passNumber, .instanceMethod yX3_passNumber, .selects RX3 yX3_passNumber yX3_passNumber, .initialized RX3, .code yX3_passNumber cX3_passNumber 2 (some .boolean), .fieldLink RX3 9 "SkewEdges$Pad" "signs" "[C", .fieldLink RX3 25 "SkewEdges$Pad" "at" "I", .methodLink RX3 66 yX3_isDigitNext, .instanceMethod yX3_isDigitNext, .selects RX3 yX3_isDigitNext yX3_isDigitNext, .code yX3_isDigitNext cX3_isDigitNext 1 (some .boolean), .fieldLink RX3 21 "SkewEdges$Pad" "length" "I"] ++ wsX30)
def wsX3_passOrder_r1 : List Cond := [Cond.fieldLink RX3 25 "SkewEdges$Pad" "at" "I", Cond.fieldLink RX3 21 "SkewEdges$Pad" "length" "I", Cond.fieldLink RX3 9 "SkewEdges$Pad" "signs" "[C", Cond.fieldLink RX3 39 "SkewEdges$Pad" "kind" "I", Cond.methodLink RX3 42 yX3_passFirst, Cond.instanceMethod yX3_passFirst, Cond.selects RX3 yX3_passFirst yX3_passFirst, Cond.initialized RX3, Cond.code yX3_passFirst cX3_passFirst 2 (some .boolean), Cond.fieldLink RX3 54 "SkewEdges$Pad" "number" "I", Cond.fieldLink RX3 57 "SkewEdges$Pad" "first" "I", Cond.methodLink RX3 51 yX3_passNumber, Cond.instanceMethod yX3_passNumber, Cond.selects RX3 yX3_passNumber yX3_passNumber, Cond.code yX3_passNumber cX3_passNumber 2 (some .boolean), Cond.methodLink RX3 66 yX3_isDigitNext, Cond.instanceMethod yX3_isDigitNext, Cond.selects RX3 yX3_isDigitNext yX3_isDigitNext, Cond.code yX3_isDigitNext cX3_isDigitNext 1 (some .boolean), Cond.methodLink RX3 35 yX3_passSign, Cond.instanceMethod yX3_passSign, Cond.selects RX3 yX3_passSign yX3_passSign, Cond.code yX3_passSign cX3_passSign 2 (some .boolean), Cond.methodLink RX3 45 yX3_passSecond]
def wsX3_passOrder_r2 : List Cond := [Cond.instanceMethod yX3_passSecond, Cond.selects RX3 yX3_passSecond yX3_passSecond, Cond.code yX3_passSecond cX3_passSecond 2 (some .boolean), Cond.fieldLink RX3 60 "SkewEdges$Pad" "second" "I", Cond.methodLink RX3 48 yX3_passThird, Cond.instanceMethod yX3_passThird, Cond.selects RX3 yX3_passThird yX3_passThird, Cond.code yX3_passThird cX3_passThird 2 (some .boolean), Cond.fieldLink RX3 63 "SkewEdges$Pad" "third" "I"]
def wsX3_passOrder : List Cond := .code yX3_passOrder cX3_passOrder 1 (some .boolean) :: ((wsX3_passOrder_r1 ++ wsX3_passOrder_r2) ++ wsX30)
def wsX3_firstFault_r1 : List Cond := [Cond.fieldLink RX3 25 "SkewEdges$Pad" "at" "I", Cond.fieldLink RX3 21 "SkewEdges$Pad" "length" "I", Cond.methodLink RX3 28 yX3_rewind, Cond.instanceMethod yX3_rewind, Cond.selects RX3 yX3_rewind yX3_rewind, Cond.initialized RX3, Cond.code yX3_rewind cX3_rewind 1 none, Cond.methodLink RX3 31 yX3_passOrder, Cond.instanceMethod yX3_passOrder, Cond.selects RX3 yX3_passOrder yX3_passOrder, Cond.code yX3_passOrder cX3_passOrder 1 (some .boolean), Cond.fieldLink RX3 9 "SkewEdges$Pad" "signs" "[C", Cond.fieldLink RX3 39 "SkewEdges$Pad" "kind" "I", Cond.methodLink RX3 42 yX3_passFirst, Cond.instanceMethod yX3_passFirst, Cond.selects RX3 yX3_passFirst yX3_passFirst, Cond.code yX3_passFirst cX3_passFirst 2 (some .boolean), Cond.fieldLink RX3 54 "SkewEdges$Pad" "number" "I", Cond.fieldLink RX3 57 "SkewEdges$Pad" "first" "I", Cond.methodLink RX3 51 yX3_passNumber, Cond.instanceMethod yX3_passNumber, Cond.selects RX3 yX3_passNumber yX3_passNumber, Cond.code yX3_passNumber cX3_passNumber 2 (some .boolean), Cond.methodLink RX3 66 yX3_isDigitNext]
def wsX3_firstFault_r2 : List Cond := [Cond.instanceMethod yX3_isDigitNext, Cond.selects RX3 yX3_isDigitNext yX3_isDigitNext, Cond.code yX3_isDigitNext cX3_isDigitNext 1 (some .boolean), Cond.methodLink RX3 35 yX3_passSign, Cond.instanceMethod yX3_passSign, Cond.selects RX3 yX3_passSign yX3_passSign, Cond.code yX3_passSign cX3_passSign 2 (some .boolean), Cond.methodLink RX3 45 yX3_passSecond, Cond.instanceMethod yX3_passSecond, Cond.selects RX3 yX3_passSecond yX3_passSecond, Cond.code yX3_passSecond cX3_passSecond 2 (some .boolean), Cond.fieldLink RX3 60 "SkewEdges$Pad" "second" "I", Cond.methodLink RX3 48 yX3_passThird, Cond.instanceMethod yX3_passThird, Cond.selects RX3 yX3_passThird yX3_passThird, Cond.code yX3_passThird cX3_passThird 2 (some .boolean), Cond.fieldLink RX3 63 "SkewEdges$Pad" "third" "I"]
def wsX3_firstFault : List Cond := .code yX3_firstFault cX3_firstFault 2 (some .int) :: ((wsX3_firstFault_r1 ++ wsX3_firstFault_r2) ++ wsX30)
def wsX4_init : List Cond := .code yX4_init cX4_init 1 none :: ([.methodLink RX4 3 objectInit, .instanceMethod objectInit, .code objectInit ⟨#[0xb1]⟩ 1 none, .arrayClass .int, .fieldLink RX4 9 "SkewEdges$Sequence" "ahead" "[I", .fieldLink RX4 15 "SkewEdges$Sequence" "places" "[I"] ++ wsX40)
def wsX4_at : List Cond := .code yX4_at cX4_at 2 (some .int) :: ([.fieldLink RX4 15 "SkewEdges$Sequence" "places" "[I"] ++ wsX40)
def wsX4_depend : List Cond := .code yX4_depend cX4_depend 3 none :: ([.fieldLink RX4 9 "SkewEdges$Sequence" "ahead" "[I"] ++ wsX40)
def wsX4_gatherOverKey_r1 : List Cond := [Cond.fieldLink RX4 51 "SkewEdges$Ledger" "writtenKeys" "[I", Cond.fieldLink RX4 54 "SkewEdges$Ledger" "committedAt" "[I", Cond.fieldLink RX4 65 "SkewEdges$Ledger" "readKeys" "[I", Cond.fieldLink RX4 68 "SkewEdges$Ledger" "beganAt" "[I", Cond.static yX5_contains, Cond.initialized RX5, Cond.code yX5_contains cX5_contains 2 (some .boolean), Cond.methodLink RX4 57 yX2_writerBehind, Cond.instanceMethod yX2_writerBehind, Cond.selects RX2 yX2_writerBehind yX2_writerBehind, Cond.initialized RX2, Cond.code yX2_writerBehind cX2_writerBehind 6 (some .int), Cond.fieldLink RX2 15 "SkewEdges$Ledger" "moment" "I", Cond.fieldLink RX2 18 "SkewEdges$Ledger" "total" "I", Cond.fieldLink RX2 21 "SkewEdges$Ledger" "phase" "[I", Cond.fieldLink RX2 34 "SkewEdges$Ledger" "writtenKeys" "[I", Cond.fieldLink RX2 28 "SkewEdges$Ledger" "committedAt" "[I", Cond.methodLink RX4 61 yX4_depend, Cond.instanceMethod yX4_depend, Cond.selects RX4 yX4_depend yX4_depend, Cond.initialized RX4, Cond.code yX4_depend cX4_depend 3 none, Cond.fieldLink RX4 9 "SkewEdges$Sequence" "ahead" "[I", Cond.methodLink RX4 71 yX2_writerAhead]
def wsX4_gatherOverKey_r2 : List Cond := [Cond.instanceMethod yX2_writerAhead, Cond.selects RX2 yX2_writerAhead yX2_writerAhead, Cond.code yX2_writerAhead cX2_writerAhead 6 (some .int)]
def wsX4_gatherOverKey : List Cond := .code yX4_gatherOverKey cX4_gatherOverKey 4 none :: ((wsX4_gatherOverKey_r1 ++ wsX4_gatherOverKey_r2) ++ wsX20 ++ wsX40)
def wsX4_gather_r1 : List Cond := [Cond.fieldLink RX4 9 "SkewEdges$Sequence" "ahead" "[I", Cond.fieldLink RX4 40 "SkewEdges$Ledger" "total" "I", Cond.fieldLink RX4 44 "SkewEdges$Ledger" "phase" "[I", Cond.methodLink RX4 47 yX4_gatherOverKey, Cond.instanceMethod yX4_gatherOverKey, Cond.selects RX4 yX4_gatherOverKey yX4_gatherOverKey, Cond.initialized RX4, Cond.code yX4_gatherOverKey cX4_gatherOverKey 4 none, Cond.fieldLink RX4 51 "SkewEdges$Ledger" "writtenKeys" "[I", Cond.fieldLink RX4 54 "SkewEdges$Ledger" "committedAt" "[I", Cond.fieldLink RX4 65 "SkewEdges$Ledger" "readKeys" "[I", Cond.fieldLink RX4 68 "SkewEdges$Ledger" "beganAt" "[I", Cond.static yX5_contains, Cond.initialized RX5, Cond.code yX5_contains cX5_contains 2 (some .boolean), Cond.methodLink RX4 57 yX2_writerBehind, Cond.instanceMethod yX2_writerBehind, Cond.selects RX2 yX2_writerBehind yX2_writerBehind, Cond.initialized RX2, Cond.code yX2_writerBehind cX2_writerBehind 6 (some .int), Cond.fieldLink RX2 15 "SkewEdges$Ledger" "moment" "I", Cond.fieldLink RX2 18 "SkewEdges$Ledger" "total" "I", Cond.fieldLink RX2 21 "SkewEdges$Ledger" "phase" "[I", Cond.fieldLink RX2 34 "SkewEdges$Ledger" "writtenKeys" "[I"]
def wsX4_gather_r2 : List Cond := [Cond.fieldLink RX2 28 "SkewEdges$Ledger" "committedAt" "[I", Cond.methodLink RX4 61 yX4_depend, Cond.instanceMethod yX4_depend, Cond.selects RX4 yX4_depend yX4_depend, Cond.code yX4_depend cX4_depend 3 none, Cond.methodLink RX4 71 yX2_writerAhead, Cond.instanceMethod yX2_writerAhead, Cond.selects RX2 yX2_writerAhead yX2_writerAhead, Cond.code yX2_writerAhead cX2_writerAhead 6 (some .int)]
def wsX4_gather : List Cond := .code yX4_gather cX4_gather 4 none :: ((wsX4_gather_r1 ++ wsX4_gather_r2) ++ wsX40 ++ wsX20)
def wsX4_lowestFree : List Cond := .code yX4_lowestFree cX4_lowestFree 3 (some .int) :: ([.fieldLink RX4 9 "SkewEdges$Sequence" "ahead" "[I", .static yX5_contains, .initialized RX5, .code yX5_contains cX5_contains 2 (some .boolean)] ++ wsX40)
def wsX4_arrange_r1 : List Cond := [Cond.fieldLink RX4 15 "SkewEdges$Sequence" "places" "[I", Cond.methodLink RX4 18 yX4_gather, Cond.instanceMethod yX4_gather, Cond.selects RX4 yX4_gather yX4_gather, Cond.initialized RX4, Cond.code yX4_gather cX4_gather 4 none, Cond.fieldLink RX4 9 "SkewEdges$Sequence" "ahead" "[I", Cond.fieldLink RX4 40 "SkewEdges$Ledger" "total" "I", Cond.fieldLink RX4 44 "SkewEdges$Ledger" "phase" "[I", Cond.methodLink RX4 47 yX4_gatherOverKey, Cond.instanceMethod yX4_gatherOverKey, Cond.selects RX4 yX4_gatherOverKey yX4_gatherOverKey, Cond.code yX4_gatherOverKey cX4_gatherOverKey 4 none, Cond.fieldLink RX4 51 "SkewEdges$Ledger" "writtenKeys" "[I", Cond.fieldLink RX4 54 "SkewEdges$Ledger" "committedAt" "[I", Cond.fieldLink RX4 65 "SkewEdges$Ledger" "readKeys" "[I", Cond.fieldLink RX4 68 "SkewEdges$Ledger" "beganAt" "[I", Cond.static yX5_contains, Cond.initialized RX5, Cond.code yX5_contains cX5_contains 2 (some .boolean), Cond.methodLink RX4 57 yX2_writerBehind, Cond.instanceMethod yX2_writerBehind, Cond.selects RX2 yX2_writerBehind yX2_writerBehind, Cond.initialized RX2]
def wsX4_arrange_r2 : List Cond := [Cond.code yX2_writerBehind cX2_writerBehind 6 (some .int), Cond.fieldLink RX2 15 "SkewEdges$Ledger" "moment" "I", Cond.fieldLink RX2 18 "SkewEdges$Ledger" "total" "I", Cond.fieldLink RX2 21 "SkewEdges$Ledger" "phase" "[I", Cond.fieldLink RX2 34 "SkewEdges$Ledger" "writtenKeys" "[I", Cond.fieldLink RX2 28 "SkewEdges$Ledger" "committedAt" "[I", Cond.methodLink RX4 61 yX4_depend, Cond.instanceMethod yX4_depend, Cond.selects RX4 yX4_depend yX4_depend, Cond.code yX4_depend cX4_depend 3 none, Cond.methodLink RX4 71 yX2_writerAhead, Cond.instanceMethod yX2_writerAhead, Cond.selects RX2 yX2_writerAhead yX2_writerAhead, Cond.code yX2_writerAhead cX2_writerAhead 6 (some .int), Cond.methodLink RX4 22 yX2_inPhase, Cond.instanceMethod yX2_inPhase, Cond.selects RX2 yX2_inPhase yX2_inPhase, Cond.code yX2_inPhase cX2_inPhase 4 (some .int), Cond.methodLink RX4 28 yJ6_bitCount_0f7a4, Cond.static yJ6_bitCount_0f7a4, Cond.initialized RJ6, Cond.code yJ6_bitCount_0f7a4 cJ6_bitCount_0f7a4 1 (some .int), Cond.constant RJ6 265 (1431655765), Cond.constant RJ6 266 (858993459)]
def wsX4_arrange_r3 : List Cond := [Cond.constant RJ6 267 (252645135), Cond.methodLink RX4 33 yX4_lowestFree, Cond.instanceMethod yX4_lowestFree, Cond.selects RX4 yX4_lowestFree yX4_lowestFree, Cond.code yX4_lowestFree cX4_lowestFree 3 (some .int)]
def wsX4_arrange : List Cond := .code yX4_arrange cX4_arrange 6 (some .boolean) :: ((wsX4_arrange_r1 ++ (wsX4_arrange_r2 ++ wsX4_arrange_r3)) ++ wsX40 ++ wsX20)
def wsX5_init_r1 : List Cond := [Cond.methodLink RX5 1 objectInit, Cond.instanceMethod objectInit, Cond.code objectInit ⟨#[0xb1]⟩ 1 none, Cond.classLink RX5 7 RX2, Cond.instantiable RX2 10, Cond.initialized RX2, Cond.fieldLink RX5 10 "SkewEdges" "ledger" "LSkewEdges$Ledger;", Cond.classLink RX5 16 RX1, Cond.instantiable RX1 3, Cond.initialized RX1, Cond.fieldLink RX5 19 "SkewEdges" "history" "LSkewEdges$History;", Cond.fieldLink RX5 23 "SkewEdges" "slots" "[LSkewEdges$Ledger;", Cond.arrayClass .boolean, Cond.fieldLink RX5 27 "SkewEdges" "saved" "[Z", Cond.classLink RX5 31 RX3, Cond.instantiable RX3 8, Cond.initialized RX3, Cond.fieldLink RX5 34 "SkewEdges" "pad" "LSkewEdges$Pad;", Cond.classLink RX5 38 RX4, Cond.instantiable RX4 2, Cond.initialized RX4, Cond.fieldLink RX5 41 "SkewEdges" "sequence" "LSkewEdges$Sequence;", Cond.methodLink RX5 9 yX2_init, Cond.instanceMethod yX2_init]
def wsX5_init_r2 : List Cond := [Cond.code yX2_init cX2_init 1 none, Cond.methodLink RX2 3 objectInit, Cond.fieldLink RX2 9 "SkewEdges$Ledger" "rule" "I", Cond.fieldLink RX2 15 "SkewEdges$Ledger" "moment" "I", Cond.fieldLink RX2 18 "SkewEdges$Ledger" "total" "I", Cond.arrayClass .int, Cond.fieldLink RX2 21 "SkewEdges$Ledger" "phase" "[I", Cond.fieldLink RX2 25 "SkewEdges$Ledger" "beganAt" "[I", Cond.fieldLink RX2 28 "SkewEdges$Ledger" "committedAt" "[I", Cond.fieldLink RX2 31 "SkewEdges$Ledger" "readKeys" "[I", Cond.fieldLink RX2 34 "SkewEdges$Ledger" "writtenKeys" "[I", Cond.fieldLink RX2 37 "SkewEdges$Ledger" "reason" "[I", Cond.fieldLink RX2 40 "SkewEdges$Ledger" "values" "[I", Cond.methodLink RX5 18 yX1_init, Cond.instanceMethod yX1_init, Cond.code yX1_init cX1_init 2 none, Cond.methodLink RX1 3 objectInit, Cond.fieldLink RX1 9 "SkewEdges$History" "kept" "I", Cond.fieldLink RX1 15 "SkewEdges$History" "next" "I", Cond.classLink RX1 18 RX2, Cond.fieldLink RX1 20 "SkewEdges$History" "rows" "[LSkewEdges$Ledger;", Cond.methodLink RX1 24 yX2_init, Cond.methodLink RX5 33 yX3_init, Cond.instanceMethod yX3_init]
def wsX5_init_r3 : List Cond := [Cond.code yX3_init cX3_init 1 none, Cond.methodLink RX3 3 objectInit, Cond.arrayClass .char, Cond.fieldLink RX3 9 "SkewEdges$Pad" "signs" "[C", Cond.methodLink RX5 40 yX4_init, Cond.instanceMethod yX4_init, Cond.code yX4_init cX4_init 1 none, Cond.methodLink RX4 3 objectInit, Cond.fieldLink RX4 9 "SkewEdges$Sequence" "ahead" "[I", Cond.fieldLink RX4 15 "SkewEdges$Sequence" "places" "[I"]
def wsX5_init : List Cond := .code yX5_init cX5_init 2 none :: ((wsX5_init_r1 ++ (wsX5_init_r2 ++ wsX5_init_r3)) ++ wsX20 ++ wsX50 ++ wsX10 ++ wsX30 ++ wsX40)
def wsX5_rule_r1 : List Cond := [Cond.fieldLink RX5 19 "SkewEdges" "history" "LSkewEdges$History;", Cond.fieldLink RX5 10 "SkewEdges" "ledger" "LSkewEdges$Ledger;", Cond.methodLink RX5 45 yX1_prepare, Cond.instanceMethod yX1_prepare, Cond.selects RX1 yX1_prepare yX1_prepare, Cond.initialized RX1, Cond.code yX1_prepare cX1_prepare 2 none, Cond.fieldLink RX1 20 "SkewEdges$History" "rows" "[LSkewEdges$Ledger;", Cond.fieldLink RX1 15 "SkewEdges$History" "next" "I", Cond.methodLink RX1 25 yX2_copyFrom, Cond.instanceMethod yX2_copyFrom, Cond.selects RX2 yX2_copyFrom yX2_copyFrom, Cond.initialized RX2, Cond.code yX2_copyFrom cX2_copyFrom 2 none, Cond.fieldLink RX2 9 "SkewEdges$Ledger" "rule" "I", Cond.fieldLink RX2 15 "SkewEdges$Ledger" "moment" "I", Cond.fieldLink RX2 18 "SkewEdges$Ledger" "total" "I", Cond.fieldLink RX2 21 "SkewEdges$Ledger" "phase" "[I", Cond.methodLink RX2 43 arraycopyName, Cond.native arraycopyName, Cond.static arraycopyName, Cond.initialized "java/lang/System", Cond.fieldLink RX2 25 "SkewEdges$Ledger" "beganAt" "[I", Cond.fieldLink RX2 28 "SkewEdges$Ledger" "committedAt" "[I"]
def wsX5_rule_r2 : List Cond := [Cond.fieldLink RX2 31 "SkewEdges$Ledger" "readKeys" "[I", Cond.fieldLink RX2 34 "SkewEdges$Ledger" "writtenKeys" "[I", Cond.fieldLink RX2 37 "SkewEdges$Ledger" "reason" "[I", Cond.fieldLink RX2 40 "SkewEdges$Ledger" "values" "[I", Cond.methodLink RX5 49 yX2_changeRule, Cond.instanceMethod yX2_changeRule, Cond.selects RX2 yX2_changeRule yX2_changeRule, Cond.code yX2_changeRule cX2_changeRule 3 (some .int), Cond.static yX5_isRule, Cond.initialized RX5, Cond.code yX5_isRule cX5_isRule 1 (some .boolean), Cond.methodLink RX5 53 yX1_keepUnlessError, Cond.instanceMethod yX1_keepUnlessError, Cond.selects RX1 yX1_keepUnlessError yX1_keepUnlessError, Cond.code yX1_keepUnlessError cX1_keepUnlessError 2 (some .int), Cond.fieldLink RX1 9 "SkewEdges$History" "kept" "I", Cond.methodLink RX1 29 Lib.Math.min.name, Cond.static Lib.Math.min.name, Cond.initialized "java/lang/Math", Cond.code Lib.Math.min.name Lib.Math.min.code 2 (some .int)]
def wsX5_rule : List Cond := .code yX5_rule cX5_rule 2 (some .int) :: ((wsX5_rule_r1 ++ wsX5_rule_r2) ++ wsX50 ++ wsX10 ++ wsX20)
def wsX5_begin_r1 : List Cond := [Cond.fieldLink RX5 19 "SkewEdges" "history" "LSkewEdges$History;", Cond.fieldLink RX5 10 "SkewEdges" "ledger" "LSkewEdges$Ledger;", Cond.methodLink RX5 45 yX1_prepare, Cond.instanceMethod yX1_prepare, Cond.selects RX1 yX1_prepare yX1_prepare, Cond.initialized RX1, Cond.code yX1_prepare cX1_prepare 2 none, Cond.fieldLink RX1 20 "SkewEdges$History" "rows" "[LSkewEdges$Ledger;", Cond.fieldLink RX1 15 "SkewEdges$History" "next" "I", Cond.methodLink RX1 25 yX2_copyFrom, Cond.instanceMethod yX2_copyFrom, Cond.selects RX2 yX2_copyFrom yX2_copyFrom, Cond.initialized RX2, Cond.code yX2_copyFrom cX2_copyFrom 2 none, Cond.fieldLink RX2 9 "SkewEdges$Ledger" "rule" "I", Cond.fieldLink RX2 15 "SkewEdges$Ledger" "moment" "I", Cond.fieldLink RX2 18 "SkewEdges$Ledger" "total" "I", Cond.fieldLink RX2 21 "SkewEdges$Ledger" "phase" "[I", Cond.methodLink RX2 43 arraycopyName, Cond.native arraycopyName, Cond.static arraycopyName, Cond.initialized "java/lang/System", Cond.fieldLink RX2 25 "SkewEdges$Ledger" "beganAt" "[I", Cond.fieldLink RX2 28 "SkewEdges$Ledger" "committedAt" "[I"]
def wsX5_begin_r2 : List Cond := [Cond.fieldLink RX2 31 "SkewEdges$Ledger" "readKeys" "[I", Cond.fieldLink RX2 34 "SkewEdges$Ledger" "writtenKeys" "[I", Cond.fieldLink RX2 37 "SkewEdges$Ledger" "reason" "[I", Cond.fieldLink RX2 40 "SkewEdges$Ledger" "values" "[I", Cond.methodLink RX5 56 yX2_start, Cond.instanceMethod yX2_start, Cond.selects RX2 yX2_start yX2_start, Cond.code yX2_start cX2_start 2 (some .int), Cond.methodLink RX5 53 yX1_keepUnlessError, Cond.instanceMethod yX1_keepUnlessError, Cond.selects RX1 yX1_keepUnlessError yX1_keepUnlessError, Cond.code yX1_keepUnlessError cX1_keepUnlessError 2 (some .int), Cond.fieldLink RX1 9 "SkewEdges$History" "kept" "I", Cond.methodLink RX1 29 Lib.Math.min.name, Cond.static Lib.Math.min.name, Cond.initialized "java/lang/Math", Cond.code Lib.Math.min.name Lib.Math.min.code 2 (some .int)]
def wsX5_begin : List Cond := .code yX5_begin cX5_begin 1 (some .int) :: ((wsX5_begin_r1 ++ wsX5_begin_r2) ++ wsX50 ++ wsX10 ++ wsX20)
def wsX5_read_r1 : List Cond := [Cond.fieldLink RX5 19 "SkewEdges" "history" "LSkewEdges$History;", Cond.fieldLink RX5 10 "SkewEdges" "ledger" "LSkewEdges$Ledger;", Cond.methodLink RX5 45 yX1_prepare, Cond.instanceMethod yX1_prepare, Cond.selects RX1 yX1_prepare yX1_prepare, Cond.initialized RX1, Cond.code yX1_prepare cX1_prepare 2 none, Cond.fieldLink RX1 20 "SkewEdges$History" "rows" "[LSkewEdges$Ledger;", Cond.fieldLink RX1 15 "SkewEdges$History" "next" "I", Cond.methodLink RX1 25 yX2_copyFrom, Cond.instanceMethod yX2_copyFrom, Cond.selects RX2 yX2_copyFrom yX2_copyFrom, Cond.initialized RX2, Cond.code yX2_copyFrom cX2_copyFrom 2 none, Cond.fieldLink RX2 9 "SkewEdges$Ledger" "rule" "I", Cond.fieldLink RX2 15 "SkewEdges$Ledger" "moment" "I", Cond.fieldLink RX2 18 "SkewEdges$Ledger" "total" "I", Cond.fieldLink RX2 21 "SkewEdges$Ledger" "phase" "[I", Cond.methodLink RX2 43 arraycopyName, Cond.native arraycopyName, Cond.static arraycopyName, Cond.initialized "java/lang/System", Cond.fieldLink RX2 25 "SkewEdges$Ledger" "beganAt" "[I", Cond.fieldLink RX2 28 "SkewEdges$Ledger" "committedAt" "[I"]
def wsX5_read_r2 : List Cond := [Cond.fieldLink RX2 31 "SkewEdges$Ledger" "readKeys" "[I", Cond.fieldLink RX2 34 "SkewEdges$Ledger" "writtenKeys" "[I", Cond.fieldLink RX2 37 "SkewEdges$Ledger" "reason" "[I", Cond.fieldLink RX2 40 "SkewEdges$Ledger" "values" "[I", Cond.methodLink RX5 60 yX2_look, Cond.instanceMethod yX2_look, Cond.selects RX2 yX2_look yX2_look, Cond.code yX2_look cX2_look 3 (some .int), Cond.methodLink RX2 53 yX2_exists, Cond.instanceMethod yX2_exists, Cond.selects RX2 yX2_exists yX2_exists, Cond.code yX2_exists cX2_exists 2 (some .boolean), Cond.static yX5_isKey, Cond.initialized RX5, Cond.code yX5_isKey cX5_isKey 1 (some .boolean), Cond.static yX5_contains, Cond.code yX5_contains cX5_contains 2 (some .boolean), Cond.methodLink RX2 63 yX2_seenWriter, Cond.instanceMethod yX2_seenWriter, Cond.selects RX2 yX2_seenWriter yX2_seenWriter, Cond.code yX2_seenWriter cX2_seenWriter 3 (some .int), Cond.methodLink RX2 85 yX2_writerAhead, Cond.instanceMethod yX2_writerAhead, Cond.selects RX2 yX2_writerAhead yX2_writerAhead]
def wsX5_read_r3 : List Cond := [Cond.code yX2_writerAhead cX2_writerAhead 6 (some .int), Cond.methodLink RX2 67 yX2_valueOfVersion, Cond.instanceMethod yX2_valueOfVersion, Cond.selects RX2 yX2_valueOfVersion yX2_valueOfVersion, Cond.code yX2_valueOfVersion cX2_valueOfVersion 3 (some .int), Cond.methodLink RX5 53 yX1_keepUnlessError, Cond.instanceMethod yX1_keepUnlessError, Cond.selects RX1 yX1_keepUnlessError yX1_keepUnlessError, Cond.code yX1_keepUnlessError cX1_keepUnlessError 2 (some .int), Cond.fieldLink RX1 9 "SkewEdges$History" "kept" "I", Cond.methodLink RX1 29 Lib.Math.min.name, Cond.static Lib.Math.min.name, Cond.initialized "java/lang/Math", Cond.code Lib.Math.min.name Lib.Math.min.code 2 (some .int)]
def wsX5_read : List Cond := .code yX5_read cX5_read 3 (some .int) :: ((wsX5_read_r1 ++ (wsX5_read_r2 ++ wsX5_read_r3)) ++ wsX50 ++ wsX10 ++ wsX20)
def wsX5_write_r1 : List Cond := [Cond.fieldLink RX5 19 "SkewEdges" "history" "LSkewEdges$History;", Cond.fieldLink RX5 10 "SkewEdges" "ledger" "LSkewEdges$Ledger;", Cond.methodLink RX5 45 yX1_prepare, Cond.instanceMethod yX1_prepare, Cond.selects RX1 yX1_prepare yX1_prepare, Cond.initialized RX1, Cond.code yX1_prepare cX1_prepare 2 none, Cond.fieldLink RX1 20 "SkewEdges$History" "rows" "[LSkewEdges$Ledger;", Cond.fieldLink RX1 15 "SkewEdges$History" "next" "I", Cond.methodLink RX1 25 yX2_copyFrom, Cond.instanceMethod yX2_copyFrom, Cond.selects RX2 yX2_copyFrom yX2_copyFrom, Cond.initialized RX2, Cond.code yX2_copyFrom cX2_copyFrom 2 none, Cond.fieldLink RX2 9 "SkewEdges$Ledger" "rule" "I", Cond.fieldLink RX2 15 "SkewEdges$Ledger" "moment" "I", Cond.fieldLink RX2 18 "SkewEdges$Ledger" "total" "I", Cond.fieldLink RX2 21 "SkewEdges$Ledger" "phase" "[I", Cond.methodLink RX2 43 arraycopyName, Cond.native arraycopyName, Cond.static arraycopyName, Cond.initialized "java/lang/System", Cond.fieldLink RX2 25 "SkewEdges$Ledger" "beganAt" "[I", Cond.fieldLink RX2 28 "SkewEdges$Ledger" "committedAt" "[I"]
def wsX5_write_r2 : List Cond := [Cond.fieldLink RX2 31 "SkewEdges$Ledger" "readKeys" "[I", Cond.fieldLink RX2 34 "SkewEdges$Ledger" "writtenKeys" "[I", Cond.fieldLink RX2 37 "SkewEdges$Ledger" "reason" "[I", Cond.fieldLink RX2 40 "SkewEdges$Ledger" "values" "[I", Cond.methodLink RX5 64 yX2_enter, Cond.instanceMethod yX2_enter, Cond.selects RX2 yX2_enter yX2_enter, Cond.code yX2_enter cX2_enter 4 (some .int), Cond.methodLink RX2 53 yX2_exists, Cond.instanceMethod yX2_exists, Cond.selects RX2 yX2_exists yX2_exists, Cond.code yX2_exists cX2_exists 2 (some .boolean), Cond.static yX5_isKey, Cond.initialized RX5, Cond.code yX5_isKey cX5_isKey 1 (some .boolean), Cond.methodLink RX5 53 yX1_keepUnlessError, Cond.instanceMethod yX1_keepUnlessError, Cond.selects RX1 yX1_keepUnlessError yX1_keepUnlessError, Cond.code yX1_keepUnlessError cX1_keepUnlessError 2 (some .int), Cond.fieldLink RX1 9 "SkewEdges$History" "kept" "I", Cond.methodLink RX1 29 Lib.Math.min.name, Cond.static Lib.Math.min.name, Cond.initialized "java/lang/Math", Cond.code Lib.Math.min.name Lib.Math.min.code 2 (some .int)]
def wsX5_write : List Cond := .code yX5_write cX5_write 4 (some .int) :: ((wsX5_write_r1 ++ wsX5_write_r2) ++ wsX50 ++ wsX10 ++ wsX20)
def wsX5_commit_r1 : List Cond := [Cond.fieldLink RX5 19 "SkewEdges" "history" "LSkewEdges$History;", Cond.fieldLink RX5 10 "SkewEdges" "ledger" "LSkewEdges$Ledger;", Cond.methodLink RX5 45 yX1_prepare, Cond.instanceMethod yX1_prepare, Cond.selects RX1 yX1_prepare yX1_prepare, Cond.initialized RX1, Cond.code yX1_prepare cX1_prepare 2 none, Cond.fieldLink RX1 20 "SkewEdges$History" "rows" "[LSkewEdges$Ledger;", Cond.fieldLink RX1 15 "SkewEdges$History" "next" "I", Cond.methodLink RX1 25 yX2_copyFrom, Cond.instanceMethod yX2_copyFrom, Cond.selects RX2 yX2_copyFrom yX2_copyFrom, Cond.initialized RX2, Cond.code yX2_copyFrom cX2_copyFrom 2 none, Cond.fieldLink RX2 9 "SkewEdges$Ledger" "rule" "I", Cond.fieldLink RX2 15 "SkewEdges$Ledger" "moment" "I", Cond.fieldLink RX2 18 "SkewEdges$Ledger" "total" "I", Cond.fieldLink RX2 21 "SkewEdges$Ledger" "phase" "[I", Cond.methodLink RX2 43 arraycopyName, Cond.native arraycopyName, Cond.static arraycopyName, Cond.initialized "java/lang/System", Cond.fieldLink RX2 25 "SkewEdges$Ledger" "beganAt" "[I", Cond.fieldLink RX2 28 "SkewEdges$Ledger" "committedAt" "[I"]
def wsX5_commit_r2 : List Cond := [Cond.fieldLink RX2 31 "SkewEdges$Ledger" "readKeys" "[I", Cond.fieldLink RX2 34 "SkewEdges$Ledger" "writtenKeys" "[I", Cond.fieldLink RX2 37 "SkewEdges$Ledger" "reason" "[I", Cond.fieldLink RX2 40 "SkewEdges$Ledger" "values" "[I", Cond.methodLink RX5 68 yX2_finish, Cond.instanceMethod yX2_finish, Cond.selects RX2 yX2_finish yX2_finish, Cond.code yX2_finish cX2_finish 3 (some .int), Cond.methodLink RX2 53 yX2_exists, Cond.instanceMethod yX2_exists, Cond.selects RX2 yX2_exists yX2_exists, Cond.code yX2_exists cX2_exists 2 (some .boolean), Cond.methodLink RX2 70 yX0_refusal, Cond.static yX0_refusal, Cond.initialized RX0, Cond.code yX0_refusal cX0_refusal 3 (some .int), Cond.methodLink RX0 9 yX0_isLaterWriter, Cond.static yX0_isLaterWriter, Cond.code yX0_isLaterWriter cX0_isLaterWriter 4 (some .boolean), Cond.fieldLink RX0 19 "SkewEdges$Ledger" "writtenKeys" "[I", Cond.fieldLink RX0 25 "SkewEdges$Ledger" "total" "I", Cond.fieldLink RX0 29 "SkewEdges$Ledger" "phase" "[I", Cond.fieldLink RX0 32 "SkewEdges$Ledger" "committedAt" "[I", Cond.fieldLink RX0 35 "SkewEdges$Ledger" "beganAt" "[I"]
def wsX5_commit_r3 : List Cond := [Cond.methodLink RX0 15 yX0_firstTriple, Cond.static yX0_firstTriple, Cond.code yX0_firstTriple cX0_firstTriple 8 (some .int), Cond.methodLink RX0 38 yX2_inPhase, Cond.instanceMethod yX2_inPhase, Cond.selects RX2 yX2_inPhase yX2_inPhase, Cond.code yX2_inPhase cX2_inPhase 4 (some .int), Cond.static yX5_contains, Cond.initialized RX5, Cond.code yX5_contains cX5_contains 2 (some .boolean), Cond.methodLink RX0 46 yX2_edgesTo, Cond.instanceMethod yX2_edgesTo, Cond.selects RX2 yX2_edgesTo yX2_edgesTo, Cond.code yX2_edgesTo cX2_edgesTo 4 (some .int), Cond.methodLink RX2 88 yX2_edgeKeys, Cond.instanceMethod yX2_edgeKeys, Cond.selects RX2 yX2_edgeKeys yX2_edgeKeys, Cond.code yX2_edgeKeys cX2_edgeKeys 3 (some .int), Cond.methodLink RX0 49 yX2_edgesFrom, Cond.instanceMethod yX2_edgesFrom, Cond.selects RX2 yX2_edgesFrom yX2_edgesFrom, Cond.code yX2_edgesFrom cX2_edgesFrom 4 (some .int), Cond.methodLink RX0 52 yX0_firstOverPivot, Cond.static yX0_firstOverPivot]
def wsX5_commit_r4 : List Cond := [Cond.code yX0_firstOverPivot cX0_firstOverPivot 9 (some .int), Cond.methodLink RX0 56 yX0_counts, Cond.static yX0_counts, Cond.code yX0_counts cX0_counts 6 (some .boolean), Cond.methodLink RX5 53 yX1_keepUnlessError, Cond.instanceMethod yX1_keepUnlessError, Cond.selects RX1 yX1_keepUnlessError yX1_keepUnlessError, Cond.code yX1_keepUnlessError cX1_keepUnlessError 2 (some .int), Cond.fieldLink RX1 9 "SkewEdges$History" "kept" "I", Cond.methodLink RX1 29 Lib.Math.min.name, Cond.static Lib.Math.min.name, Cond.initialized "java/lang/Math", Cond.code Lib.Math.min.name Lib.Math.min.code 2 (some .int)]
def wsX5_commit : List Cond := .code yX5_commit cX5_commit 2 (some .int) :: ((wsX5_commit_r1 ++ (wsX5_commit_r2 ++ (wsX5_commit_r3 ++ wsX5_commit_r4))) ++ wsX50 ++ wsX10 ++ wsX20)
def wsX5_abort_r1 : List Cond := [Cond.fieldLink RX5 19 "SkewEdges" "history" "LSkewEdges$History;", Cond.fieldLink RX5 10 "SkewEdges" "ledger" "LSkewEdges$Ledger;", Cond.methodLink RX5 45 yX1_prepare, Cond.instanceMethod yX1_prepare, Cond.selects RX1 yX1_prepare yX1_prepare, Cond.initialized RX1, Cond.code yX1_prepare cX1_prepare 2 none, Cond.fieldLink RX1 20 "SkewEdges$History" "rows" "[LSkewEdges$Ledger;", Cond.fieldLink RX1 15 "SkewEdges$History" "next" "I", Cond.methodLink RX1 25 yX2_copyFrom, Cond.instanceMethod yX2_copyFrom, Cond.selects RX2 yX2_copyFrom yX2_copyFrom, Cond.initialized RX2, Cond.code yX2_copyFrom cX2_copyFrom 2 none, Cond.fieldLink RX2 9 "SkewEdges$Ledger" "rule" "I", Cond.fieldLink RX2 15 "SkewEdges$Ledger" "moment" "I", Cond.fieldLink RX2 18 "SkewEdges$Ledger" "total" "I", Cond.fieldLink RX2 21 "SkewEdges$Ledger" "phase" "[I", Cond.methodLink RX2 43 arraycopyName, Cond.native arraycopyName, Cond.static arraycopyName, Cond.initialized "java/lang/System", Cond.fieldLink RX2 25 "SkewEdges$Ledger" "beganAt" "[I", Cond.fieldLink RX2 28 "SkewEdges$Ledger" "committedAt" "[I"]
def wsX5_abort_r2 : List Cond := [Cond.fieldLink RX2 31 "SkewEdges$Ledger" "readKeys" "[I", Cond.fieldLink RX2 34 "SkewEdges$Ledger" "writtenKeys" "[I", Cond.fieldLink RX2 37 "SkewEdges$Ledger" "reason" "[I", Cond.fieldLink RX2 40 "SkewEdges$Ledger" "values" "[I", Cond.methodLink RX5 71 yX2_giveUp, Cond.instanceMethod yX2_giveUp, Cond.selects RX2 yX2_giveUp yX2_giveUp, Cond.code yX2_giveUp cX2_giveUp 2 (some .int), Cond.methodLink RX2 53 yX2_exists, Cond.instanceMethod yX2_exists, Cond.selects RX2 yX2_exists yX2_exists, Cond.code yX2_exists cX2_exists 2 (some .boolean), Cond.methodLink RX2 76 yX2_inPhase, Cond.instanceMethod yX2_inPhase, Cond.selects RX2 yX2_inPhase yX2_inPhase, Cond.code yX2_inPhase cX2_inPhase 4 (some .int), Cond.methodLink RX2 80 yJ6_bitCount_0f7a4, Cond.static yJ6_bitCount_0f7a4, Cond.initialized RJ6, Cond.code yJ6_bitCount_0f7a4 cJ6_bitCount_0f7a4 1 (some .int), Cond.constant RJ6 265 (1431655765), Cond.constant RJ6 266 (858993459), Cond.constant RJ6 267 (252645135), Cond.methodLink RX5 53 yX1_keepUnlessError]
def wsX5_abort_r3 : List Cond := [Cond.instanceMethod yX1_keepUnlessError, Cond.selects RX1 yX1_keepUnlessError yX1_keepUnlessError, Cond.code yX1_keepUnlessError cX1_keepUnlessError 2 (some .int), Cond.fieldLink RX1 9 "SkewEdges$History" "kept" "I", Cond.methodLink RX1 29 Lib.Math.min.name, Cond.static Lib.Math.min.name, Cond.initialized "java/lang/Math", Cond.code Lib.Math.min.name Lib.Math.min.code 2 (some .int)]
def wsX5_abort : List Cond := .code yX5_abort cX5_abort 2 (some .int) :: ((wsX5_abort_r1 ++ (wsX5_abort_r2 ++ wsX5_abort_r3)) ++ wsX50 ++ wsX10 ++ wsX20)
def wsX5_value_r1 : List Cond := [Cond.fieldLink RX5 10 "SkewEdges" "ledger" "LSkewEdges$Ledger;", Cond.fieldLink RX5 78 "SkewEdges$Ledger" "moment" "I", Cond.methodLink RX5 74 yX5_isKey, Cond.static yX5_isKey, Cond.initialized RX5, Cond.code yX5_isKey cX5_isKey 1 (some .boolean), Cond.methodLink RX5 82 yX2_writerAhead, Cond.instanceMethod yX2_writerAhead, Cond.selects RX2 yX2_writerAhead yX2_writerAhead, Cond.initialized RX2, Cond.code yX2_writerAhead cX2_writerAhead 6 (some .int), Cond.fieldLink RX2 18 "SkewEdges$Ledger" "total" "I", Cond.fieldLink RX2 21 "SkewEdges$Ledger" "phase" "[I", Cond.fieldLink RX2 34 "SkewEdges$Ledger" "writtenKeys" "[I", Cond.fieldLink RX2 28 "SkewEdges$Ledger" "committedAt" "[I", Cond.static yX5_contains, Cond.code yX5_contains cX5_contains 2 (some .boolean), Cond.methodLink RX5 85 yX2_valueOfVersion, Cond.instanceMethod yX2_valueOfVersion, Cond.selects RX2 yX2_valueOfVersion yX2_valueOfVersion, Cond.code yX2_valueOfVersion cX2_valueOfVersion 3 (some .int), Cond.fieldLink RX2 40 "SkewEdges$Ledger" "values" "[I", Cond.methodLink RX2 53 yX2_exists, Cond.instanceMethod yX2_exists]
def wsX5_value_r2 : List Cond := [Cond.selects RX2 yX2_exists yX2_exists, Cond.code yX2_exists cX2_exists 2 (some .boolean)]
def wsX5_value : List Cond := .code yX5_value cX5_value 2 (some .int) :: ((wsX5_value_r1 ++ wsX5_value_r2) ++ wsX50 ++ wsX20)
def wsX5_of_r1 : List Cond := [Cond.fieldLink RX5 10 "SkewEdges" "ledger" "LSkewEdges$Ledger;", Cond.fieldLink RX5 91 "SkewEdges$Ledger" "phase" "[I", Cond.fieldLink RX5 95 "SkewEdges$Ledger" "beganAt" "[I", Cond.fieldLink RX5 98 "SkewEdges$Ledger" "committedAt" "[I", Cond.fieldLink RX5 101 "SkewEdges$Ledger" "readKeys" "[I", Cond.fieldLink RX5 104 "SkewEdges$Ledger" "writtenKeys" "[I", Cond.fieldLink RX5 113 "SkewEdges$Ledger" "reason" "[I", Cond.methodLink RX5 88 yX2_exists, Cond.instanceMethod yX2_exists, Cond.selects RX2 yX2_exists yX2_exists, Cond.initialized RX2, Cond.code yX2_exists cX2_exists 2 (some .boolean), Cond.fieldLink RX2 18 "SkewEdges$Ledger" "total" "I", Cond.methodLink RX5 107 yX2_edgesFrom, Cond.instanceMethod yX2_edgesFrom, Cond.selects RX2 yX2_edgesFrom yX2_edgesFrom, Cond.code yX2_edgesFrom cX2_edgesFrom 4 (some .int), Cond.methodLink RX2 88 yX2_edgeKeys, Cond.instanceMethod yX2_edgeKeys, Cond.selects RX2 yX2_edgeKeys yX2_edgeKeys, Cond.code yX2_edgeKeys cX2_edgeKeys 3 (some .int), Cond.fieldLink RX2 21 "SkewEdges$Ledger" "phase" "[I", Cond.fieldLink RX2 28 "SkewEdges$Ledger" "committedAt" "[I", Cond.fieldLink RX2 25 "SkewEdges$Ledger" "beganAt" "[I"]
def wsX5_of_r2 : List Cond := [Cond.fieldLink RX2 31 "SkewEdges$Ledger" "readKeys" "[I", Cond.fieldLink RX2 34 "SkewEdges$Ledger" "writtenKeys" "[I", Cond.methodLink RX5 110 yX2_edgesTo, Cond.instanceMethod yX2_edgesTo, Cond.selects RX2 yX2_edgesTo yX2_edgesTo, Cond.code yX2_edgesTo cX2_edgesTo 4 (some .int), Cond.methodLink RX5 116 yX2_snapshot, Cond.instanceMethod yX2_snapshot, Cond.selects RX2 yX2_snapshot yX2_snapshot, Cond.code yX2_snapshot cX2_snapshot 4 (some .int), Cond.methodLink RX2 97 yX2_spoils, Cond.instanceMethod yX2_spoils, Cond.selects RX2 yX2_spoils yX2_spoils, Cond.code yX2_spoils cX2_spoils 5 (some .boolean), Cond.methodLink RX2 91 yX2_edgesFrom, Cond.static yX5_contains, Cond.initialized RX5, Cond.code yX5_contains cX5_contains 2 (some .boolean)]
def wsX5_of : List Cond := .code yX5_of cX5_of 3 (some .int) :: ((wsX5_of_r1 ++ wsX5_of_r2) ++ wsX50 ++ wsX20)
def wsX5_edge : List Cond := .code yX5_edge cX5_edge 3 (some .int) :: ([.fieldLink RX5 10 "SkewEdges" "ledger" "LSkewEdges$Ledger;", .methodLink RX5 88 yX2_exists, .instanceMethod yX2_exists, .selects RX2 yX2_exists yX2_exists, .initialized RX2, .code yX2_exists cX2_exists 2 (some .boolean), .fieldLink RX2 18 "SkewEdges$Ledger" "total" "I", .methodLink RX5 119 yX2_edgeKeys, .instanceMethod yX2_edgeKeys, .selects RX2 yX2_edgeKeys yX2_edgeKeys, .code yX2_edgeKeys cX2_edgeKeys 3 (some .int), .fieldLink RX2 21 "SkewEdges$Ledger" "phase" "[I", .fieldLink RX2 28 "SkewEdges$Ledger" "committedAt" "[I", .fieldLink RX2 25 "SkewEdges$Ledger" "beganAt" "[I", .fieldLink RX2 31 "SkewEdges$Ledger" "readKeys" "[I", .fieldLink RX2 34 "SkewEdges$Ledger" "writtenKeys" "[I"] ++ wsX50 ++ wsX20)
def wsX5_over : List Cond := .code yX5_over cX5_over 5 (some .int) :: ([.fieldLink RX5 10 "SkewEdges" "ledger" "LSkewEdges$Ledger;", .methodLink RX5 88 yX2_exists, .instanceMethod yX2_exists, .selects RX2 yX2_exists yX2_exists, .initialized RX2, .code yX2_exists cX2_exists 2 (some .boolean), .fieldLink RX2 18 "SkewEdges$Ledger" "total" "I", .methodLink RX5 119 yX2_edgeKeys, .instanceMethod yX2_edgeKeys, .selects RX2 yX2_edgeKeys yX2_edgeKeys, .code yX2_edgeKeys cX2_edgeKeys 3 (some .int), .fieldLink RX2 21 "SkewEdges$Ledger" "phase" "[I", .fieldLink RX2 28 "SkewEdges$Ledger" "committedAt" "[I", .fieldLink RX2 25 "SkewEdges$Ledger" "beganAt" "[I", .fieldLink RX2 31 "SkewEdges$Ledger" "readKeys" "[I", .fieldLink RX2 34 "SkewEdges$Ledger" "writtenKeys" "[I", .methodLink RX5 122 yX5_contains, .static yX5_contains, .initialized RX5, .code yX5_contains cX5_contains 2 (some .boolean)] ++ wsX50 ++ wsX20)
def wsX5_count_r1 : List Cond := [Cond.fieldLink RX5 10 "SkewEdges" "ledger" "LSkewEdges$Ledger;", Cond.fieldLink RX5 126 "SkewEdges$Ledger" "total" "I", Cond.fieldLink RX5 78 "SkewEdges$Ledger" "moment" "I", Cond.fieldLink RX5 132 "SkewEdges$Ledger" "rule" "I", Cond.fieldLink RX5 41 "SkewEdges" "sequence" "LSkewEdges$Sequence;", Cond.fieldLink RX5 34 "SkewEdges" "pad" "LSkewEdges$Pad;", Cond.fieldLink RX5 148 "SkewEdges$Pad" "length" "I", Cond.fieldLink RX5 19 "SkewEdges" "history" "LSkewEdges$History;", Cond.fieldLink RX5 151 "SkewEdges$History" "kept" "I", Cond.methodLink RX5 129 yX2_inPhase, Cond.instanceMethod yX2_inPhase, Cond.selects RX2 yX2_inPhase yX2_inPhase, Cond.initialized RX2, Cond.code yX2_inPhase cX2_inPhase 4 (some .int), Cond.fieldLink RX2 18 "SkewEdges$Ledger" "total" "I", Cond.fieldLink RX2 21 "SkewEdges$Ledger" "phase" "[I", Cond.methodLink RX5 135 yX2_edgeTotal, Cond.instanceMethod yX2_edgeTotal, Cond.selects RX2 yX2_edgeTotal yX2_edgeTotal, Cond.code yX2_edgeTotal cX2_edgeTotal 3 (some .int), Cond.methodLink RX2 91 yX2_edgesFrom, Cond.instanceMethod yX2_edgesFrom, Cond.selects RX2 yX2_edgesFrom yX2_edgesFrom, Cond.code yX2_edgesFrom cX2_edgesFrom 4 (some .int)]
def wsX5_count_r2 : List Cond := [Cond.methodLink RX2 88 yX2_edgeKeys, Cond.instanceMethod yX2_edgeKeys, Cond.selects RX2 yX2_edgeKeys yX2_edgeKeys, Cond.code yX2_edgeKeys cX2_edgeKeys 3 (some .int), Cond.fieldLink RX2 28 "SkewEdges$Ledger" "committedAt" "[I", Cond.fieldLink RX2 25 "SkewEdges$Ledger" "beganAt" "[I", Cond.fieldLink RX2 31 "SkewEdges$Ledger" "readKeys" "[I", Cond.fieldLink RX2 34 "SkewEdges$Ledger" "writtenKeys" "[I", Cond.methodLink RX2 80 yJ6_bitCount_0f7a4, Cond.static yJ6_bitCount_0f7a4, Cond.initialized RJ6, Cond.code yJ6_bitCount_0f7a4 cJ6_bitCount_0f7a4 1 (some .int), Cond.constant RJ6 265 (1431655765), Cond.constant RJ6 266 (858993459), Cond.constant RJ6 267 (252645135), Cond.methodLink RX5 138 yX2_pivots, Cond.instanceMethod yX2_pivots, Cond.selects RX2 yX2_pivots yX2_pivots, Cond.code yX2_pivots cX2_pivots 3 (some .int), Cond.methodLink RX2 94 yX2_edgesTo, Cond.instanceMethod yX2_edgesTo, Cond.selects RX2 yX2_edgesTo yX2_edgesTo, Cond.code yX2_edgesTo cX2_edgesTo 4 (some .int), Cond.methodLink RX5 141 yX2_tripleTotal]
def wsX5_count_r3 : List Cond := [Cond.instanceMethod yX2_tripleTotal, Cond.selects RX2 yX2_tripleTotal yX2_tripleTotal, Cond.code yX2_tripleTotal cX2_tripleTotal 3 (some .int), Cond.methodLink RX5 144 yX4_arrange, Cond.instanceMethod yX4_arrange, Cond.selects RX4 yX4_arrange yX4_arrange, Cond.initialized RX4, Cond.code yX4_arrange cX4_arrange 6 (some .boolean), Cond.fieldLink RX4 15 "SkewEdges$Sequence" "places" "[I", Cond.methodLink RX4 18 yX4_gather, Cond.instanceMethod yX4_gather, Cond.selects RX4 yX4_gather yX4_gather, Cond.code yX4_gather cX4_gather 4 none, Cond.fieldLink RX4 9 "SkewEdges$Sequence" "ahead" "[I", Cond.fieldLink RX4 40 "SkewEdges$Ledger" "total" "I", Cond.fieldLink RX4 44 "SkewEdges$Ledger" "phase" "[I", Cond.methodLink RX4 47 yX4_gatherOverKey, Cond.instanceMethod yX4_gatherOverKey, Cond.selects RX4 yX4_gatherOverKey yX4_gatherOverKey, Cond.code yX4_gatherOverKey cX4_gatherOverKey 4 none, Cond.fieldLink RX4 51 "SkewEdges$Ledger" "writtenKeys" "[I", Cond.fieldLink RX4 54 "SkewEdges$Ledger" "committedAt" "[I", Cond.fieldLink RX4 65 "SkewEdges$Ledger" "readKeys" "[I", Cond.fieldLink RX4 68 "SkewEdges$Ledger" "beganAt" "[I"]
def wsX5_count_r4 : List Cond := [Cond.static yX5_contains, Cond.initialized RX5, Cond.code yX5_contains cX5_contains 2 (some .boolean), Cond.methodLink RX4 57 yX2_writerBehind, Cond.instanceMethod yX2_writerBehind, Cond.selects RX2 yX2_writerBehind yX2_writerBehind, Cond.code yX2_writerBehind cX2_writerBehind 6 (some .int), Cond.fieldLink RX2 15 "SkewEdges$Ledger" "moment" "I", Cond.methodLink RX4 61 yX4_depend, Cond.instanceMethod yX4_depend, Cond.selects RX4 yX4_depend yX4_depend, Cond.code yX4_depend cX4_depend 3 none, Cond.methodLink RX4 71 yX2_writerAhead, Cond.instanceMethod yX2_writerAhead, Cond.selects RX2 yX2_writerAhead yX2_writerAhead, Cond.code yX2_writerAhead cX2_writerAhead 6 (some .int), Cond.methodLink RX4 22 yX2_inPhase, Cond.methodLink RX4 28 yJ6_bitCount_0f7a4, Cond.methodLink RX4 33 yX4_lowestFree, Cond.instanceMethod yX4_lowestFree, Cond.selects RX4 yX4_lowestFree yX4_lowestFree, Cond.code yX4_lowestFree cX4_lowestFree 3 (some .int)]
def wsX5_count : List Cond := .code yX5_count cX5_count 2 (some .int) :: ((wsX5_count_r1 ++ (wsX5_count_r2 ++ (wsX5_count_r3 ++ wsX5_count_r4))) ++ wsX50 ++ wsX20 ++ wsX30 ++ wsX10 ++ wsX40)
def wsX5_order_r1 : List Cond := [Cond.fieldLink RX5 10 "SkewEdges" "ledger" "LSkewEdges$Ledger;", Cond.fieldLink RX5 41 "SkewEdges" "sequence" "LSkewEdges$Sequence;", Cond.methodLink RX5 129 yX2_inPhase, Cond.instanceMethod yX2_inPhase, Cond.selects RX2 yX2_inPhase yX2_inPhase, Cond.initialized RX2, Cond.code yX2_inPhase cX2_inPhase 4 (some .int), Cond.fieldLink RX2 18 "SkewEdges$Ledger" "total" "I", Cond.fieldLink RX2 21 "SkewEdges$Ledger" "phase" "[I", Cond.methodLink RX5 154 yJ6_bitCount_0f7a4, Cond.static yJ6_bitCount_0f7a4, Cond.initialized RJ6, Cond.code yJ6_bitCount_0f7a4 cJ6_bitCount_0f7a4 1 (some .int), Cond.constant RJ6 265 (1431655765), Cond.constant RJ6 266 (858993459), Cond.constant RJ6 267 (252645135), Cond.methodLink RX5 144 yX4_arrange, Cond.instanceMethod yX4_arrange, Cond.selects RX4 yX4_arrange yX4_arrange, Cond.initialized RX4, Cond.code yX4_arrange cX4_arrange 6 (some .boolean), Cond.fieldLink RX4 15 "SkewEdges$Sequence" "places" "[I", Cond.methodLink RX4 18 yX4_gather, Cond.instanceMethod yX4_gather]
def wsX5_order_r2 : List Cond := [Cond.selects RX4 yX4_gather yX4_gather, Cond.code yX4_gather cX4_gather 4 none, Cond.fieldLink RX4 9 "SkewEdges$Sequence" "ahead" "[I", Cond.fieldLink RX4 40 "SkewEdges$Ledger" "total" "I", Cond.fieldLink RX4 44 "SkewEdges$Ledger" "phase" "[I", Cond.methodLink RX4 47 yX4_gatherOverKey, Cond.instanceMethod yX4_gatherOverKey, Cond.selects RX4 yX4_gatherOverKey yX4_gatherOverKey, Cond.code yX4_gatherOverKey cX4_gatherOverKey 4 none, Cond.fieldLink RX4 51 "SkewEdges$Ledger" "writtenKeys" "[I", Cond.fieldLink RX4 54 "SkewEdges$Ledger" "committedAt" "[I", Cond.fieldLink RX4 65 "SkewEdges$Ledger" "readKeys" "[I", Cond.fieldLink RX4 68 "SkewEdges$Ledger" "beganAt" "[I", Cond.static yX5_contains, Cond.initialized RX5, Cond.code yX5_contains cX5_contains 2 (some .boolean), Cond.methodLink RX4 57 yX2_writerBehind, Cond.instanceMethod yX2_writerBehind, Cond.selects RX2 yX2_writerBehind yX2_writerBehind, Cond.code yX2_writerBehind cX2_writerBehind 6 (some .int), Cond.fieldLink RX2 15 "SkewEdges$Ledger" "moment" "I", Cond.fieldLink RX2 34 "SkewEdges$Ledger" "writtenKeys" "[I", Cond.fieldLink RX2 28 "SkewEdges$Ledger" "committedAt" "[I", Cond.methodLink RX4 61 yX4_depend]
def wsX5_order_r3 : List Cond := [Cond.instanceMethod yX4_depend, Cond.selects RX4 yX4_depend yX4_depend, Cond.code yX4_depend cX4_depend 3 none, Cond.methodLink RX4 71 yX2_writerAhead, Cond.instanceMethod yX2_writerAhead, Cond.selects RX2 yX2_writerAhead yX2_writerAhead, Cond.code yX2_writerAhead cX2_writerAhead 6 (some .int), Cond.methodLink RX4 22 yX2_inPhase, Cond.methodLink RX4 28 yJ6_bitCount_0f7a4, Cond.methodLink RX4 33 yX4_lowestFree, Cond.instanceMethod yX4_lowestFree, Cond.selects RX4 yX4_lowestFree yX4_lowestFree, Cond.code yX4_lowestFree cX4_lowestFree 3 (some .int), Cond.methodLink RX5 159 yX4_at, Cond.instanceMethod yX4_at, Cond.selects RX4 yX4_at yX4_at, Cond.code yX4_at cX4_at 2 (some .int)]
def wsX5_order : List Cond := .code yX5_order cX5_order 2 (some .int) :: ((wsX5_order_r1 ++ (wsX5_order_r2 ++ wsX5_order_r3)) ++ wsX50 ++ wsX20 ++ wsX40)
def wsX5_sees_r1 : List Cond := [Cond.fieldLink RX5 10 "SkewEdges" "ledger" "LSkewEdges$Ledger;", Cond.methodLink RX5 88 yX2_exists, Cond.instanceMethod yX2_exists, Cond.selects RX2 yX2_exists yX2_exists, Cond.initialized RX2, Cond.code yX2_exists cX2_exists 2 (some .boolean), Cond.fieldLink RX2 18 "SkewEdges$Ledger" "total" "I", Cond.methodLink RX5 74 yX5_isKey, Cond.static yX5_isKey, Cond.initialized RX5, Cond.code yX5_isKey cX5_isKey 1 (some .boolean), Cond.methodLink RX5 162 yX2_seenWriter, Cond.instanceMethod yX2_seenWriter, Cond.selects RX2 yX2_seenWriter yX2_seenWriter, Cond.code yX2_seenWriter cX2_seenWriter 3 (some .int), Cond.fieldLink RX2 34 "SkewEdges$Ledger" "writtenKeys" "[I", Cond.fieldLink RX2 25 "SkewEdges$Ledger" "beganAt" "[I", Cond.static yX5_contains, Cond.code yX5_contains cX5_contains 2 (some .boolean), Cond.methodLink RX2 85 yX2_writerAhead, Cond.instanceMethod yX2_writerAhead, Cond.selects RX2 yX2_writerAhead yX2_writerAhead, Cond.code yX2_writerAhead cX2_writerAhead 6 (some .int), Cond.fieldLink RX2 21 "SkewEdges$Ledger" "phase" "[I"]
def wsX5_sees_r2 : List Cond := [Cond.fieldLink RX2 28 "SkewEdges$Ledger" "committedAt" "[I"]
def wsX5_sees : List Cond := .code yX5_sees cX5_sees 3 (some .int) :: ((wsX5_sees_r1 ++ wsX5_sees_r2) ++ wsX50 ++ wsX20)
def wsX5_would_r1 : List Cond := [Cond.fieldLink RX5 10 "SkewEdges" "ledger" "LSkewEdges$Ledger;", Cond.fieldLink RX5 91 "SkewEdges$Ledger" "phase" "[I", Cond.fieldLink RX5 132 "SkewEdges$Ledger" "rule" "I", Cond.methodLink RX5 88 yX2_exists, Cond.instanceMethod yX2_exists, Cond.selects RX2 yX2_exists yX2_exists, Cond.initialized RX2, Cond.code yX2_exists cX2_exists 2 (some .boolean), Cond.fieldLink RX2 18 "SkewEdges$Ledger" "total" "I", Cond.methodLink RX5 165 yX0_refusal, Cond.static yX0_refusal, Cond.initialized RX0, Cond.code yX0_refusal cX0_refusal 3 (some .int), Cond.methodLink RX0 9 yX0_isLaterWriter, Cond.static yX0_isLaterWriter, Cond.code yX0_isLaterWriter cX0_isLaterWriter 4 (some .boolean), Cond.fieldLink RX0 19 "SkewEdges$Ledger" "writtenKeys" "[I", Cond.fieldLink RX0 25 "SkewEdges$Ledger" "total" "I", Cond.fieldLink RX0 29 "SkewEdges$Ledger" "phase" "[I", Cond.fieldLink RX0 32 "SkewEdges$Ledger" "committedAt" "[I", Cond.fieldLink RX0 35 "SkewEdges$Ledger" "beganAt" "[I", Cond.methodLink RX0 15 yX0_firstTriple, Cond.static yX0_firstTriple, Cond.code yX0_firstTriple cX0_firstTriple 8 (some .int)]
def wsX5_would_r2 : List Cond := [Cond.methodLink RX0 38 yX2_inPhase, Cond.instanceMethod yX2_inPhase, Cond.selects RX2 yX2_inPhase yX2_inPhase, Cond.code yX2_inPhase cX2_inPhase 4 (some .int), Cond.fieldLink RX2 21 "SkewEdges$Ledger" "phase" "[I", Cond.static yX5_contains, Cond.initialized RX5, Cond.code yX5_contains cX5_contains 2 (some .boolean), Cond.methodLink RX0 46 yX2_edgesTo, Cond.instanceMethod yX2_edgesTo, Cond.selects RX2 yX2_edgesTo yX2_edgesTo, Cond.code yX2_edgesTo cX2_edgesTo 4 (some .int), Cond.methodLink RX2 88 yX2_edgeKeys, Cond.instanceMethod yX2_edgeKeys, Cond.selects RX2 yX2_edgeKeys yX2_edgeKeys, Cond.code yX2_edgeKeys cX2_edgeKeys 3 (some .int), Cond.fieldLink RX2 28 "SkewEdges$Ledger" "committedAt" "[I", Cond.fieldLink RX2 25 "SkewEdges$Ledger" "beganAt" "[I", Cond.fieldLink RX2 31 "SkewEdges$Ledger" "readKeys" "[I", Cond.fieldLink RX2 34 "SkewEdges$Ledger" "writtenKeys" "[I", Cond.methodLink RX0 49 yX2_edgesFrom, Cond.instanceMethod yX2_edgesFrom, Cond.selects RX2 yX2_edgesFrom yX2_edgesFrom, Cond.code yX2_edgesFrom cX2_edgesFrom 4 (some .int)]
def wsX5_would_r3 : List Cond := [Cond.methodLink RX0 52 yX0_firstOverPivot, Cond.static yX0_firstOverPivot, Cond.code yX0_firstOverPivot cX0_firstOverPivot 9 (some .int), Cond.methodLink RX0 56 yX0_counts, Cond.static yX0_counts, Cond.code yX0_counts cX0_counts 6 (some .boolean)]
def wsX5_would : List Cond := .code yX5_would cX5_would 2 (some .int) :: ((wsX5_would_r1 ++ (wsX5_would_r2 ++ wsX5_would_r3)) ++ wsX50 ++ wsX20)
def wsX5_triple_r1 : List Cond := [Cond.fieldLink RX5 10 "SkewEdges" "ledger" "LSkewEdges$Ledger;", Cond.fieldLink RX5 91 "SkewEdges$Ledger" "phase" "[I", Cond.fieldLink RX5 132 "SkewEdges$Ledger" "rule" "I", Cond.methodLink RX5 88 yX2_exists, Cond.instanceMethod yX2_exists, Cond.selects RX2 yX2_exists yX2_exists, Cond.initialized RX2, Cond.code yX2_exists cX2_exists 2 (some .boolean), Cond.fieldLink RX2 18 "SkewEdges$Ledger" "total" "I", Cond.methodLink RX5 165 yX0_refusal, Cond.static yX0_refusal, Cond.initialized RX0, Cond.code yX0_refusal cX0_refusal 3 (some .int), Cond.methodLink RX0 9 yX0_isLaterWriter, Cond.static yX0_isLaterWriter, Cond.code yX0_isLaterWriter cX0_isLaterWriter 4 (some .boolean), Cond.fieldLink RX0 19 "SkewEdges$Ledger" "writtenKeys" "[I", Cond.fieldLink RX0 25 "SkewEdges$Ledger" "total" "I", Cond.fieldLink RX0 29 "SkewEdges$Ledger" "phase" "[I", Cond.fieldLink RX0 32 "SkewEdges$Ledger" "committedAt" "[I", Cond.fieldLink RX0 35 "SkewEdges$Ledger" "beganAt" "[I", Cond.methodLink RX0 15 yX0_firstTriple, Cond.static yX0_firstTriple, Cond.code yX0_firstTriple cX0_firstTriple 8 (some .int)]
def wsX5_triple_r2 : List Cond := [Cond.methodLink RX0 38 yX2_inPhase, Cond.instanceMethod yX2_inPhase, Cond.selects RX2 yX2_inPhase yX2_inPhase, Cond.code yX2_inPhase cX2_inPhase 4 (some .int), Cond.fieldLink RX2 21 "SkewEdges$Ledger" "phase" "[I", Cond.static yX5_contains, Cond.initialized RX5, Cond.code yX5_contains cX5_contains 2 (some .boolean), Cond.methodLink RX0 46 yX2_edgesTo, Cond.instanceMethod yX2_edgesTo, Cond.selects RX2 yX2_edgesTo yX2_edgesTo, Cond.code yX2_edgesTo cX2_edgesTo 4 (some .int), Cond.methodLink RX2 88 yX2_edgeKeys, Cond.instanceMethod yX2_edgeKeys, Cond.selects RX2 yX2_edgeKeys yX2_edgeKeys, Cond.code yX2_edgeKeys cX2_edgeKeys 3 (some .int), Cond.fieldLink RX2 28 "SkewEdges$Ledger" "committedAt" "[I", Cond.fieldLink RX2 25 "SkewEdges$Ledger" "beganAt" "[I", Cond.fieldLink RX2 31 "SkewEdges$Ledger" "readKeys" "[I", Cond.fieldLink RX2 34 "SkewEdges$Ledger" "writtenKeys" "[I", Cond.methodLink RX0 49 yX2_edgesFrom, Cond.instanceMethod yX2_edgesFrom, Cond.selects RX2 yX2_edgesFrom yX2_edgesFrom, Cond.code yX2_edgesFrom cX2_edgesFrom 4 (some .int)]
def wsX5_triple_r3 : List Cond := [Cond.methodLink RX0 52 yX0_firstOverPivot, Cond.static yX0_firstOverPivot, Cond.code yX0_firstOverPivot cX0_firstOverPivot 9 (some .int), Cond.methodLink RX0 56 yX0_counts, Cond.static yX0_counts, Cond.code yX0_counts cX0_counts 6 (some .boolean), Cond.methodLink RX5 171 yX0_firstTriple, Cond.methodLink RX5 174 yX0_partOfTriple, Cond.static yX0_partOfTriple, Cond.code yX0_partOfTriple cX0_partOfTriple 2 (some .int)]
def wsX5_triple : List Cond := .code yX5_triple cX5_triple 3 (some .int) :: ((wsX5_triple_r1 ++ (wsX5_triple_r2 ++ wsX5_triple_r3)) ++ wsX50 ++ wsX20)
def wsX5_doomed_r1 : List Cond := [Cond.fieldLink RX5 10 "SkewEdges" "ledger" "LSkewEdges$Ledger;", Cond.methodLink RX5 177 yX5_isRule, Cond.static yX5_isRule, Cond.initialized RX5, Cond.code yX5_isRule cX5_isRule 1 (some .boolean), Cond.methodLink RX5 129 yX2_inPhase, Cond.instanceMethod yX2_inPhase, Cond.selects RX2 yX2_inPhase yX2_inPhase, Cond.initialized RX2, Cond.code yX2_inPhase cX2_inPhase 4 (some .int), Cond.fieldLink RX2 18 "SkewEdges$Ledger" "total" "I", Cond.fieldLink RX2 21 "SkewEdges$Ledger" "phase" "[I", Cond.methodLink RX5 122 yX5_contains, Cond.static yX5_contains, Cond.code yX5_contains cX5_contains 2 (some .boolean), Cond.methodLink RX5 165 yX0_refusal, Cond.static yX0_refusal, Cond.initialized RX0, Cond.code yX0_refusal cX0_refusal 3 (some .int), Cond.methodLink RX0 9 yX0_isLaterWriter, Cond.static yX0_isLaterWriter, Cond.code yX0_isLaterWriter cX0_isLaterWriter 4 (some .boolean), Cond.fieldLink RX0 19 "SkewEdges$Ledger" "writtenKeys" "[I", Cond.fieldLink RX0 25 "SkewEdges$Ledger" "total" "I"]
def wsX5_doomed_r2 : List Cond := [Cond.fieldLink RX0 29 "SkewEdges$Ledger" "phase" "[I", Cond.fieldLink RX0 32 "SkewEdges$Ledger" "committedAt" "[I", Cond.fieldLink RX0 35 "SkewEdges$Ledger" "beganAt" "[I", Cond.methodLink RX0 15 yX0_firstTriple, Cond.static yX0_firstTriple, Cond.code yX0_firstTriple cX0_firstTriple 8 (some .int), Cond.methodLink RX0 38 yX2_inPhase, Cond.methodLink RX0 46 yX2_edgesTo, Cond.instanceMethod yX2_edgesTo, Cond.selects RX2 yX2_edgesTo yX2_edgesTo, Cond.code yX2_edgesTo cX2_edgesTo 4 (some .int), Cond.methodLink RX2 88 yX2_edgeKeys, Cond.instanceMethod yX2_edgeKeys, Cond.selects RX2 yX2_edgeKeys yX2_edgeKeys, Cond.code yX2_edgeKeys cX2_edgeKeys 3 (some .int), Cond.fieldLink RX2 28 "SkewEdges$Ledger" "committedAt" "[I", Cond.fieldLink RX2 25 "SkewEdges$Ledger" "beganAt" "[I", Cond.fieldLink RX2 31 "SkewEdges$Ledger" "readKeys" "[I", Cond.fieldLink RX2 34 "SkewEdges$Ledger" "writtenKeys" "[I", Cond.methodLink RX0 49 yX2_edgesFrom, Cond.instanceMethod yX2_edgesFrom, Cond.selects RX2 yX2_edgesFrom yX2_edgesFrom, Cond.code yX2_edgesFrom cX2_edgesFrom 4 (some .int), Cond.methodLink RX0 52 yX0_firstOverPivot]
def wsX5_doomed_r3 : List Cond := [Cond.static yX0_firstOverPivot, Cond.code yX0_firstOverPivot cX0_firstOverPivot 9 (some .int), Cond.methodLink RX0 56 yX0_counts, Cond.static yX0_counts, Cond.code yX0_counts cX0_counts 6 (some .boolean)]
def wsX5_doomed : List Cond := .code yX5_doomed cX5_doomed 5 (some .int) :: ((wsX5_doomed_r1 ++ (wsX5_doomed_r2 ++ wsX5_doomed_r3)) ++ wsX50 ++ wsX20)
def wsX5_put : List Cond := .code yX5_put cX5_put 3 (some .int) :: ([.fieldLink RX5 34 "SkewEdges" "pad" "LSkewEdges$Pad;", .methodLink RX5 180 yX3_append, .instanceMethod yX3_append, .selects RX3 yX3_append yX3_append, .initialized RX3, .code yX3_append cX3_append 7 (some .int), .constantLong RX3 15 (255), .constantLong RX3 17 (33), .constantLong RX3 19 (126), .fieldLink RX3 21 "SkewEdges$Pad" "length" "I", .fieldLink RX3 9 "SkewEdges$Pad" "signs" "[C"] ++ wsX50 ++ wsX30)
def wsX5_wipe : List Cond := .code yX5_wipe cX5_wipe 1 (some .int) :: ([.fieldLink RX5 34 "SkewEdges" "pad" "LSkewEdges$Pad;", .methodLink RX5 184 yX3_empty, .instanceMethod yX3_empty, .selects RX3 yX3_empty yX3_empty, .initialized RX3, .code yX3_empty cX3_empty 2 (some .int), .fieldLink RX3 21 "SkewEdges$Pad" "length" "I"] ++ wsX50 ++ wsX30)
def wsX5_fault_r1 : List Cond := [Cond.fieldLink RX5 34 "SkewEdges" "pad" "LSkewEdges$Pad;", Cond.methodLink RX5 187 yX3_firstFault, Cond.instanceMethod yX3_firstFault, Cond.selects RX3 yX3_firstFault yX3_firstFault, Cond.initialized RX3, Cond.code yX3_firstFault cX3_firstFault 2 (some .int), Cond.fieldLink RX3 25 "SkewEdges$Pad" "at" "I", Cond.fieldLink RX3 21 "SkewEdges$Pad" "length" "I", Cond.methodLink RX3 28 yX3_rewind, Cond.instanceMethod yX3_rewind, Cond.selects RX3 yX3_rewind yX3_rewind, Cond.code yX3_rewind cX3_rewind 1 none, Cond.methodLink RX3 31 yX3_passOrder, Cond.instanceMethod yX3_passOrder, Cond.selects RX3 yX3_passOrder yX3_passOrder, Cond.code yX3_passOrder cX3_passOrder 1 (some .boolean), Cond.fieldLink RX3 9 "SkewEdges$Pad" "signs" "[C", Cond.fieldLink RX3 39 "SkewEdges$Pad" "kind" "I", Cond.methodLink RX3 42 yX3_passFirst, Cond.instanceMethod yX3_passFirst, Cond.selects RX3 yX3_passFirst yX3_passFirst, Cond.code yX3_passFirst cX3_passFirst 2 (some .boolean), Cond.fieldLink RX3 54 "SkewEdges$Pad" "number" "I", Cond.fieldLink RX3 57 "SkewEdges$Pad" "first" "I"]
def wsX5_fault_r2 : List Cond := [Cond.methodLink RX3 51 yX3_passNumber, Cond.instanceMethod yX3_passNumber, Cond.selects RX3 yX3_passNumber yX3_passNumber, Cond.code yX3_passNumber cX3_passNumber 2 (some .boolean), Cond.methodLink RX3 66 yX3_isDigitNext, Cond.instanceMethod yX3_isDigitNext, Cond.selects RX3 yX3_isDigitNext yX3_isDigitNext, Cond.code yX3_isDigitNext cX3_isDigitNext 1 (some .boolean), Cond.methodLink RX3 35 yX3_passSign, Cond.instanceMethod yX3_passSign, Cond.selects RX3 yX3_passSign yX3_passSign, Cond.code yX3_passSign cX3_passSign 2 (some .boolean), Cond.methodLink RX3 45 yX3_passSecond, Cond.instanceMethod yX3_passSecond, Cond.selects RX3 yX3_passSecond yX3_passSecond, Cond.code yX3_passSecond cX3_passSecond 2 (some .boolean), Cond.fieldLink RX3 60 "SkewEdges$Pad" "second" "I", Cond.methodLink RX3 48 yX3_passThird, Cond.instanceMethod yX3_passThird, Cond.selects RX3 yX3_passThird yX3_passThird, Cond.code yX3_passThird cX3_passThird 2 (some .boolean), Cond.fieldLink RX3 63 "SkewEdges$Pad" "third" "I"]
def wsX5_fault : List Cond := .code yX5_fault cX5_fault 1 (some .int) :: ((wsX5_fault_r1 ++ wsX5_fault_r2) ++ wsX50 ++ wsX30)
def wsX5_carryOne_r1 : List Cond := [Cond.fieldLink RX5 34 "SkewEdges" "pad" "LSkewEdges$Pad;", Cond.fieldLink RX5 204 "SkewEdges$Pad" "kind" "I", Cond.fieldLink RX5 10 "SkewEdges" "ledger" "LSkewEdges$Ledger;", Cond.fieldLink RX5 207 "SkewEdges$Pad" "first" "I", Cond.fieldLink RX5 210 "SkewEdges$Pad" "second" "I", Cond.fieldLink RX5 213 "SkewEdges$Pad" "third" "I", Cond.methodLink RX5 56 yX2_start, Cond.instanceMethod yX2_start, Cond.selects RX2 yX2_start yX2_start, Cond.initialized RX2, Cond.code yX2_start cX2_start 2 (some .int), Cond.fieldLink RX2 18 "SkewEdges$Ledger" "total" "I", Cond.fieldLink RX2 15 "SkewEdges$Ledger" "moment" "I", Cond.fieldLink RX2 21 "SkewEdges$Ledger" "phase" "[I", Cond.fieldLink RX2 25 "SkewEdges$Ledger" "beganAt" "[I", Cond.fieldLink RX2 28 "SkewEdges$Ledger" "committedAt" "[I", Cond.fieldLink RX2 31 "SkewEdges$Ledger" "readKeys" "[I", Cond.fieldLink RX2 34 "SkewEdges$Ledger" "writtenKeys" "[I", Cond.fieldLink RX2 37 "SkewEdges$Ledger" "reason" "[I", Cond.methodLink RX5 60 yX2_look, Cond.instanceMethod yX2_look, Cond.selects RX2 yX2_look yX2_look, Cond.code yX2_look cX2_look 3 (some .int), Cond.methodLink RX2 53 yX2_exists]
def wsX5_carryOne_r2 : List Cond := [Cond.instanceMethod yX2_exists, Cond.selects RX2 yX2_exists yX2_exists, Cond.code yX2_exists cX2_exists 2 (some .boolean), Cond.static yX5_isKey, Cond.initialized RX5, Cond.code yX5_isKey cX5_isKey 1 (some .boolean), Cond.static yX5_contains, Cond.code yX5_contains cX5_contains 2 (some .boolean), Cond.methodLink RX2 63 yX2_seenWriter, Cond.instanceMethod yX2_seenWriter, Cond.selects RX2 yX2_seenWriter yX2_seenWriter, Cond.code yX2_seenWriter cX2_seenWriter 3 (some .int), Cond.methodLink RX2 85 yX2_writerAhead, Cond.instanceMethod yX2_writerAhead, Cond.selects RX2 yX2_writerAhead yX2_writerAhead, Cond.code yX2_writerAhead cX2_writerAhead 6 (some .int), Cond.methodLink RX2 67 yX2_valueOfVersion, Cond.instanceMethod yX2_valueOfVersion, Cond.selects RX2 yX2_valueOfVersion yX2_valueOfVersion, Cond.code yX2_valueOfVersion cX2_valueOfVersion 3 (some .int), Cond.fieldLink RX2 40 "SkewEdges$Ledger" "values" "[I", Cond.methodLink RX5 64 yX2_enter, Cond.instanceMethod yX2_enter, Cond.selects RX2 yX2_enter yX2_enter]
def wsX5_carryOne_r3 : List Cond := [Cond.code yX2_enter cX2_enter 4 (some .int), Cond.methodLink RX5 68 yX2_finish, Cond.instanceMethod yX2_finish, Cond.selects RX2 yX2_finish yX2_finish, Cond.code yX2_finish cX2_finish 3 (some .int), Cond.fieldLink RX2 9 "SkewEdges$Ledger" "rule" "I", Cond.methodLink RX2 70 yX0_refusal, Cond.static yX0_refusal, Cond.initialized RX0, Cond.code yX0_refusal cX0_refusal 3 (some .int), Cond.methodLink RX0 9 yX0_isLaterWriter, Cond.static yX0_isLaterWriter, Cond.code yX0_isLaterWriter cX0_isLaterWriter 4 (some .boolean), Cond.fieldLink RX0 19 "SkewEdges$Ledger" "writtenKeys" "[I", Cond.fieldLink RX0 25 "SkewEdges$Ledger" "total" "I", Cond.fieldLink RX0 29 "SkewEdges$Ledger" "phase" "[I", Cond.fieldLink RX0 32 "SkewEdges$Ledger" "committedAt" "[I", Cond.fieldLink RX0 35 "SkewEdges$Ledger" "beganAt" "[I", Cond.methodLink RX0 15 yX0_firstTriple, Cond.static yX0_firstTriple, Cond.code yX0_firstTriple cX0_firstTriple 8 (some .int), Cond.methodLink RX0 38 yX2_inPhase, Cond.instanceMethod yX2_inPhase, Cond.selects RX2 yX2_inPhase yX2_inPhase]
def wsX5_carryOne_r4 : List Cond := [Cond.code yX2_inPhase cX2_inPhase 4 (some .int), Cond.methodLink RX0 46 yX2_edgesTo, Cond.instanceMethod yX2_edgesTo, Cond.selects RX2 yX2_edgesTo yX2_edgesTo, Cond.code yX2_edgesTo cX2_edgesTo 4 (some .int), Cond.methodLink RX2 88 yX2_edgeKeys, Cond.instanceMethod yX2_edgeKeys, Cond.selects RX2 yX2_edgeKeys yX2_edgeKeys, Cond.code yX2_edgeKeys cX2_edgeKeys 3 (some .int), Cond.methodLink RX0 49 yX2_edgesFrom, Cond.instanceMethod yX2_edgesFrom, Cond.selects RX2 yX2_edgesFrom yX2_edgesFrom, Cond.code yX2_edgesFrom cX2_edgesFrom 4 (some .int), Cond.methodLink RX0 52 yX0_firstOverPivot, Cond.static yX0_firstOverPivot, Cond.code yX0_firstOverPivot cX0_firstOverPivot 9 (some .int), Cond.methodLink RX0 56 yX0_counts, Cond.static yX0_counts, Cond.code yX0_counts cX0_counts 6 (some .boolean), Cond.methodLink RX5 71 yX2_giveUp, Cond.instanceMethod yX2_giveUp, Cond.selects RX2 yX2_giveUp yX2_giveUp, Cond.code yX2_giveUp cX2_giveUp 2 (some .int), Cond.methodLink RX2 76 yX2_inPhase]
def wsX5_carryOne_r5 : List Cond := [Cond.methodLink RX2 80 yJ6_bitCount_0f7a4, Cond.static yJ6_bitCount_0f7a4, Cond.initialized RJ6, Cond.code yJ6_bitCount_0f7a4 cJ6_bitCount_0f7a4 1 (some .int), Cond.constant RJ6 265 (1431655765), Cond.constant RJ6 266 (858993459), Cond.constant RJ6 267 (252645135)]
def wsX5_carryOne : List Cond := .code yX5_carryOne cX5_carryOne 1 (some .int) :: ((wsX5_carryOne_r1 ++ (wsX5_carryOne_r2 ++ (wsX5_carryOne_r3 ++ (wsX5_carryOne_r4 ++ wsX5_carryOne_r5)))) ++ wsX50 ++ wsX30 ++ wsX20)
def wsX5_carryOut_r1 : List Cond := [Cond.fieldLink RX5 34 "SkewEdges" "pad" "LSkewEdges$Pad;", Cond.fieldLink RX5 19 "SkewEdges" "history" "LSkewEdges$History;", Cond.fieldLink RX5 10 "SkewEdges" "ledger" "LSkewEdges$Ledger;", Cond.methodLink RX5 187 yX3_firstFault, Cond.instanceMethod yX3_firstFault, Cond.selects RX3 yX3_firstFault yX3_firstFault, Cond.initialized RX3, Cond.code yX3_firstFault cX3_firstFault 2 (some .int), Cond.fieldLink RX3 25 "SkewEdges$Pad" "at" "I", Cond.fieldLink RX3 21 "SkewEdges$Pad" "length" "I", Cond.methodLink RX3 28 yX3_rewind, Cond.instanceMethod yX3_rewind, Cond.selects RX3 yX3_rewind yX3_rewind, Cond.code yX3_rewind cX3_rewind 1 none, Cond.methodLink RX3 31 yX3_passOrder, Cond.instanceMethod yX3_passOrder, Cond.selects RX3 yX3_passOrder yX3_passOrder, Cond.code yX3_passOrder cX3_passOrder 1 (some .boolean), Cond.fieldLink RX3 9 "SkewEdges$Pad" "signs" "[C", Cond.fieldLink RX3 39 "SkewEdges$Pad" "kind" "I", Cond.methodLink RX3 42 yX3_passFirst, Cond.instanceMethod yX3_passFirst, Cond.selects RX3 yX3_passFirst yX3_passFirst, Cond.code yX3_passFirst cX3_passFirst 2 (some .boolean)]
def wsX5_carryOut_r2 : List Cond := [Cond.fieldLink RX3 54 "SkewEdges$Pad" "number" "I", Cond.fieldLink RX3 57 "SkewEdges$Pad" "first" "I", Cond.methodLink RX3 51 yX3_passNumber, Cond.instanceMethod yX3_passNumber, Cond.selects RX3 yX3_passNumber yX3_passNumber, Cond.code yX3_passNumber cX3_passNumber 2 (some .boolean), Cond.methodLink RX3 66 yX3_isDigitNext, Cond.instanceMethod yX3_isDigitNext, Cond.selects RX3 yX3_isDigitNext yX3_isDigitNext, Cond.code yX3_isDigitNext cX3_isDigitNext 1 (some .boolean), Cond.methodLink RX3 35 yX3_passSign, Cond.instanceMethod yX3_passSign, Cond.selects RX3 yX3_passSign yX3_passSign, Cond.code yX3_passSign cX3_passSign 2 (some .boolean), Cond.methodLink RX3 45 yX3_passSecond, Cond.instanceMethod yX3_passSecond, Cond.selects RX3 yX3_passSecond yX3_passSecond, Cond.code yX3_passSecond cX3_passSecond 2 (some .boolean), Cond.fieldLink RX3 60 "SkewEdges$Pad" "second" "I", Cond.methodLink RX3 48 yX3_passThird, Cond.instanceMethod yX3_passThird, Cond.selects RX3 yX3_passThird yX3_passThird, Cond.code yX3_passThird cX3_passThird 2 (some .boolean), Cond.fieldLink RX3 63 "SkewEdges$Pad" "third" "I"]
def wsX5_carryOut_r3 : List Cond := [Cond.methodLink RX5 45 yX1_prepare, Cond.instanceMethod yX1_prepare, Cond.selects RX1 yX1_prepare yX1_prepare, Cond.initialized RX1, Cond.code yX1_prepare cX1_prepare 2 none, Cond.fieldLink RX1 20 "SkewEdges$History" "rows" "[LSkewEdges$Ledger;", Cond.fieldLink RX1 15 "SkewEdges$History" "next" "I", Cond.methodLink RX1 25 yX2_copyFrom, Cond.instanceMethod yX2_copyFrom, Cond.selects RX2 yX2_copyFrom yX2_copyFrom, Cond.initialized RX2, Cond.code yX2_copyFrom cX2_copyFrom 2 none, Cond.fieldLink RX2 9 "SkewEdges$Ledger" "rule" "I", Cond.fieldLink RX2 15 "SkewEdges$Ledger" "moment" "I", Cond.fieldLink RX2 18 "SkewEdges$Ledger" "total" "I", Cond.fieldLink RX2 21 "SkewEdges$Ledger" "phase" "[I", Cond.methodLink RX2 43 arraycopyName, Cond.native arraycopyName, Cond.static arraycopyName, Cond.initialized "java/lang/System", Cond.fieldLink RX2 25 "SkewEdges$Ledger" "beganAt" "[I", Cond.fieldLink RX2 28 "SkewEdges$Ledger" "committedAt" "[I", Cond.fieldLink RX2 31 "SkewEdges$Ledger" "readKeys" "[I", Cond.fieldLink RX2 34 "SkewEdges$Ledger" "writtenKeys" "[I"]
def wsX5_carryOut_r4 : List Cond := [Cond.fieldLink RX2 37 "SkewEdges$Ledger" "reason" "[I", Cond.fieldLink RX2 40 "SkewEdges$Ledger" "values" "[I", Cond.methodLink RX5 190 yX3_rewind, Cond.methodLink RX5 193 yX3_passOrder, Cond.methodLink RX5 197 yX5_carryOne, Cond.instanceMethod yX5_carryOne, Cond.selects RX5 yX5_carryOne yX5_carryOne, Cond.initialized RX5, Cond.code yX5_carryOne cX5_carryOne 1 (some .int), Cond.fieldLink RX5 204 "SkewEdges$Pad" "kind" "I", Cond.fieldLink RX5 207 "SkewEdges$Pad" "first" "I", Cond.fieldLink RX5 210 "SkewEdges$Pad" "second" "I", Cond.fieldLink RX5 213 "SkewEdges$Pad" "third" "I", Cond.methodLink RX5 56 yX2_start, Cond.instanceMethod yX2_start, Cond.selects RX2 yX2_start yX2_start, Cond.code yX2_start cX2_start 2 (some .int), Cond.methodLink RX5 60 yX2_look, Cond.instanceMethod yX2_look, Cond.selects RX2 yX2_look yX2_look, Cond.code yX2_look cX2_look 3 (some .int), Cond.methodLink RX2 53 yX2_exists, Cond.instanceMethod yX2_exists, Cond.selects RX2 yX2_exists yX2_exists]
def wsX5_carryOut_r5 : List Cond := [Cond.code yX2_exists cX2_exists 2 (some .boolean), Cond.static yX5_isKey, Cond.code yX5_isKey cX5_isKey 1 (some .boolean), Cond.static yX5_contains, Cond.code yX5_contains cX5_contains 2 (some .boolean), Cond.methodLink RX2 63 yX2_seenWriter, Cond.instanceMethod yX2_seenWriter, Cond.selects RX2 yX2_seenWriter yX2_seenWriter, Cond.code yX2_seenWriter cX2_seenWriter 3 (some .int), Cond.methodLink RX2 85 yX2_writerAhead, Cond.instanceMethod yX2_writerAhead, Cond.selects RX2 yX2_writerAhead yX2_writerAhead, Cond.code yX2_writerAhead cX2_writerAhead 6 (some .int), Cond.methodLink RX2 67 yX2_valueOfVersion, Cond.instanceMethod yX2_valueOfVersion, Cond.selects RX2 yX2_valueOfVersion yX2_valueOfVersion, Cond.code yX2_valueOfVersion cX2_valueOfVersion 3 (some .int), Cond.methodLink RX5 64 yX2_enter, Cond.instanceMethod yX2_enter, Cond.selects RX2 yX2_enter yX2_enter, Cond.code yX2_enter cX2_enter 4 (some .int), Cond.methodLink RX5 68 yX2_finish, Cond.instanceMethod yX2_finish, Cond.selects RX2 yX2_finish yX2_finish]
def wsX5_carryOut_r6 : List Cond := [Cond.code yX2_finish cX2_finish 3 (some .int), Cond.methodLink RX2 70 yX0_refusal, Cond.static yX0_refusal, Cond.initialized RX0, Cond.code yX0_refusal cX0_refusal 3 (some .int), Cond.methodLink RX0 9 yX0_isLaterWriter, Cond.static yX0_isLaterWriter, Cond.code yX0_isLaterWriter cX0_isLaterWriter 4 (some .boolean), Cond.fieldLink RX0 19 "SkewEdges$Ledger" "writtenKeys" "[I", Cond.fieldLink RX0 25 "SkewEdges$Ledger" "total" "I", Cond.fieldLink RX0 29 "SkewEdges$Ledger" "phase" "[I", Cond.fieldLink RX0 32 "SkewEdges$Ledger" "committedAt" "[I", Cond.fieldLink RX0 35 "SkewEdges$Ledger" "beganAt" "[I", Cond.methodLink RX0 15 yX0_firstTriple, Cond.static yX0_firstTriple, Cond.code yX0_firstTriple cX0_firstTriple 8 (some .int), Cond.methodLink RX0 38 yX2_inPhase, Cond.instanceMethod yX2_inPhase, Cond.selects RX2 yX2_inPhase yX2_inPhase, Cond.code yX2_inPhase cX2_inPhase 4 (some .int), Cond.methodLink RX0 46 yX2_edgesTo, Cond.instanceMethod yX2_edgesTo, Cond.selects RX2 yX2_edgesTo yX2_edgesTo, Cond.code yX2_edgesTo cX2_edgesTo 4 (some .int)]
def wsX5_carryOut_r7 : List Cond := [Cond.methodLink RX2 88 yX2_edgeKeys, Cond.instanceMethod yX2_edgeKeys, Cond.selects RX2 yX2_edgeKeys yX2_edgeKeys, Cond.code yX2_edgeKeys cX2_edgeKeys 3 (some .int), Cond.methodLink RX0 49 yX2_edgesFrom, Cond.instanceMethod yX2_edgesFrom, Cond.selects RX2 yX2_edgesFrom yX2_edgesFrom, Cond.code yX2_edgesFrom cX2_edgesFrom 4 (some .int), Cond.methodLink RX0 52 yX0_firstOverPivot, Cond.static yX0_firstOverPivot, Cond.code yX0_firstOverPivot cX0_firstOverPivot 9 (some .int), Cond.methodLink RX0 56 yX0_counts, Cond.static yX0_counts, Cond.code yX0_counts cX0_counts 6 (some .boolean), Cond.methodLink RX5 71 yX2_giveUp, Cond.instanceMethod yX2_giveUp, Cond.selects RX2 yX2_giveUp yX2_giveUp, Cond.code yX2_giveUp cX2_giveUp 2 (some .int), Cond.methodLink RX2 76 yX2_inPhase, Cond.methodLink RX2 80 yJ6_bitCount_0f7a4, Cond.static yJ6_bitCount_0f7a4, Cond.initialized RJ6, Cond.code yJ6_bitCount_0f7a4 cJ6_bitCount_0f7a4 1 (some .int), Cond.constant RJ6 265 (1431655765)]
def wsX5_carryOut_r8 : List Cond := [Cond.constant RJ6 266 (858993459), Cond.constant RJ6 267 (252645135), Cond.methodLink RX5 200 yX3_passSign, Cond.methodLink RX5 184 yX3_empty, Cond.instanceMethod yX3_empty, Cond.selects RX3 yX3_empty yX3_empty, Cond.code yX3_empty cX3_empty 2 (some .int), Cond.methodLink RX5 53 yX1_keepUnlessError, Cond.instanceMethod yX1_keepUnlessError, Cond.selects RX1 yX1_keepUnlessError yX1_keepUnlessError, Cond.code yX1_keepUnlessError cX1_keepUnlessError 2 (some .int), Cond.fieldLink RX1 9 "SkewEdges$History" "kept" "I", Cond.methodLink RX1 29 Lib.Math.min.name, Cond.static Lib.Math.min.name, Cond.initialized "java/lang/Math", Cond.code Lib.Math.min.name Lib.Math.min.code 2 (some .int)]
def wsX5_carryOut : List Cond := .code yX5_carryOut cX5_carryOut 3 (some .int) :: ((wsX5_carryOut_r1 ++ (wsX5_carryOut_r2 ++ (wsX5_carryOut_r3 ++ (wsX5_carryOut_r4 ++ (wsX5_carryOut_r5 ++ (wsX5_carryOut_r6 ++ (wsX5_carryOut_r7 ++ wsX5_carryOut_r8))))))) ++ wsX50 ++ wsX30 ++ wsX10 ++ wsX20)
def wsX5_undo_r1 : List Cond := [Cond.fieldLink RX5 19 "SkewEdges" "history" "LSkewEdges$History;", Cond.fieldLink RX5 10 "SkewEdges" "ledger" "LSkewEdges$Ledger;", Cond.methodLink RX5 216 yX1_stepBack, Cond.instanceMethod yX1_stepBack, Cond.selects RX1 yX1_stepBack yX1_stepBack, Cond.initialized RX1, Cond.code yX1_stepBack cX1_stepBack 2 (some .int), Cond.fieldLink RX1 9 "SkewEdges$History" "kept" "I", Cond.fieldLink RX1 15 "SkewEdges$History" "next" "I", Cond.fieldLink RX1 20 "SkewEdges$History" "rows" "[LSkewEdges$Ledger;", Cond.methodLink RX1 25 yX2_copyFrom, Cond.instanceMethod yX2_copyFrom, Cond.selects RX2 yX2_copyFrom yX2_copyFrom, Cond.initialized RX2, Cond.code yX2_copyFrom cX2_copyFrom 2 none, Cond.fieldLink RX2 9 "SkewEdges$Ledger" "rule" "I", Cond.fieldLink RX2 15 "SkewEdges$Ledger" "moment" "I", Cond.fieldLink RX2 18 "SkewEdges$Ledger" "total" "I", Cond.fieldLink RX2 21 "SkewEdges$Ledger" "phase" "[I", Cond.methodLink RX2 43 arraycopyName, Cond.native arraycopyName, Cond.static arraycopyName, Cond.initialized "java/lang/System", Cond.fieldLink RX2 25 "SkewEdges$Ledger" "beganAt" "[I"]
def wsX5_undo_r2 : List Cond := [Cond.fieldLink RX2 28 "SkewEdges$Ledger" "committedAt" "[I", Cond.fieldLink RX2 31 "SkewEdges$Ledger" "readKeys" "[I", Cond.fieldLink RX2 34 "SkewEdges$Ledger" "writtenKeys" "[I", Cond.fieldLink RX2 37 "SkewEdges$Ledger" "reason" "[I", Cond.fieldLink RX2 40 "SkewEdges$Ledger" "values" "[I"]
def wsX5_undo : List Cond := .code yX5_undo cX5_undo 1 (some .int) :: ((wsX5_undo_r1 ++ wsX5_undo_r2) ++ wsX50 ++ wsX10 ++ wsX20)
def wsX5_isSlot : List Cond := .code yX5_isSlot cX5_isSlot 1 (some .boolean) :: ([])
def wsX5_save_r1 : List Cond := [Cond.fieldLink RX5 23 "SkewEdges" "slots" "[LSkewEdges$Ledger;", Cond.fieldLink RX5 10 "SkewEdges" "ledger" "LSkewEdges$Ledger;", Cond.fieldLink RX5 27 "SkewEdges" "saved" "[Z", Cond.fieldLink RX5 126 "SkewEdges$Ledger" "total" "I", Cond.methodLink RX5 220 yX5_isSlot, Cond.static yX5_isSlot, Cond.initialized RX5, Cond.code yX5_isSlot cX5_isSlot 1 (some .boolean), Cond.methodLink RX5 223 yX2_copyFrom, Cond.instanceMethod yX2_copyFrom, Cond.selects RX2 yX2_copyFrom yX2_copyFrom, Cond.initialized RX2, Cond.code yX2_copyFrom cX2_copyFrom 2 none, Cond.fieldLink RX2 9 "SkewEdges$Ledger" "rule" "I", Cond.fieldLink RX2 15 "SkewEdges$Ledger" "moment" "I", Cond.fieldLink RX2 18 "SkewEdges$Ledger" "total" "I", Cond.fieldLink RX2 21 "SkewEdges$Ledger" "phase" "[I", Cond.methodLink RX2 43 arraycopyName, Cond.native arraycopyName, Cond.static arraycopyName, Cond.initialized "java/lang/System", Cond.fieldLink RX2 25 "SkewEdges$Ledger" "beganAt" "[I", Cond.fieldLink RX2 28 "SkewEdges$Ledger" "committedAt" "[I", Cond.fieldLink RX2 31 "SkewEdges$Ledger" "readKeys" "[I"]
def wsX5_save_r2 : List Cond := [Cond.fieldLink RX2 34 "SkewEdges$Ledger" "writtenKeys" "[I", Cond.fieldLink RX2 37 "SkewEdges$Ledger" "reason" "[I", Cond.fieldLink RX2 40 "SkewEdges$Ledger" "values" "[I"]
def wsX5_save : List Cond := .code yX5_save cX5_save 2 (some .int) :: ((wsX5_save_r1 ++ wsX5_save_r2) ++ wsX50 ++ wsX20)
def wsX5_restore_r1 : List Cond := [Cond.fieldLink RX5 27 "SkewEdges" "saved" "[Z", Cond.fieldLink RX5 19 "SkewEdges" "history" "LSkewEdges$History;", Cond.fieldLink RX5 10 "SkewEdges" "ledger" "LSkewEdges$Ledger;", Cond.fieldLink RX5 23 "SkewEdges" "slots" "[LSkewEdges$Ledger;", Cond.fieldLink RX5 126 "SkewEdges$Ledger" "total" "I", Cond.methodLink RX5 220 yX5_isSlot, Cond.static yX5_isSlot, Cond.initialized RX5, Cond.code yX5_isSlot cX5_isSlot 1 (some .boolean), Cond.methodLink RX5 45 yX1_prepare, Cond.instanceMethod yX1_prepare, Cond.selects RX1 yX1_prepare yX1_prepare, Cond.initialized RX1, Cond.code yX1_prepare cX1_prepare 2 none, Cond.fieldLink RX1 20 "SkewEdges$History" "rows" "[LSkewEdges$Ledger;", Cond.fieldLink RX1 15 "SkewEdges$History" "next" "I", Cond.methodLink RX1 25 yX2_copyFrom, Cond.instanceMethod yX2_copyFrom, Cond.selects RX2 yX2_copyFrom yX2_copyFrom, Cond.initialized RX2, Cond.code yX2_copyFrom cX2_copyFrom 2 none, Cond.fieldLink RX2 9 "SkewEdges$Ledger" "rule" "I", Cond.fieldLink RX2 15 "SkewEdges$Ledger" "moment" "I", Cond.fieldLink RX2 18 "SkewEdges$Ledger" "total" "I"]
def wsX5_restore_r2 : List Cond := [Cond.fieldLink RX2 21 "SkewEdges$Ledger" "phase" "[I", Cond.methodLink RX2 43 arraycopyName, Cond.native arraycopyName, Cond.static arraycopyName, Cond.initialized "java/lang/System", Cond.fieldLink RX2 25 "SkewEdges$Ledger" "beganAt" "[I", Cond.fieldLink RX2 28 "SkewEdges$Ledger" "committedAt" "[I", Cond.fieldLink RX2 31 "SkewEdges$Ledger" "readKeys" "[I", Cond.fieldLink RX2 34 "SkewEdges$Ledger" "writtenKeys" "[I", Cond.fieldLink RX2 37 "SkewEdges$Ledger" "reason" "[I", Cond.fieldLink RX2 40 "SkewEdges$Ledger" "values" "[I", Cond.methodLink RX5 223 yX2_copyFrom, Cond.methodLink RX5 53 yX1_keepUnlessError, Cond.instanceMethod yX1_keepUnlessError, Cond.selects RX1 yX1_keepUnlessError yX1_keepUnlessError, Cond.code yX1_keepUnlessError cX1_keepUnlessError 2 (some .int), Cond.fieldLink RX1 9 "SkewEdges$History" "kept" "I", Cond.methodLink RX1 29 Lib.Math.min.name, Cond.static Lib.Math.min.name, Cond.initialized "java/lang/Math", Cond.code Lib.Math.min.name Lib.Math.min.code 2 (some .int)]
def wsX5_restore : List Cond := .code yX5_restore cX5_restore 2 (some .int) :: ((wsX5_restore_r1 ++ wsX5_restore_r2) ++ wsX50 ++ wsX20 ++ wsX10)
def wsX6_init : List Cond := .code yX6_init cX6_init 1 none :: ([.methodLink RX6 1 objectInit, .instanceMethod objectInit, .code objectInit ⟨#[0xb1]⟩ 1 none, .arrayClass .int, .fieldLink RX6 7 "SkewEdgesModel" "z" "[I", .fieldLink RX6 13 "SkewEdgesModel" "past" "[I", .fieldLink RX6 16 "SkewEdgesModel" "slots" "[I", .arrayClass .boolean, .fieldLink RX6 19 "SkewEdgesModel" "isSaved" "[Z", .arrayClass .char, .fieldLink RX6 23 "SkewEdgesModel" "pad" "[C", .fieldLink RX6 27 "SkewEdgesModel" "ahead" "[I", .fieldLink RX6 30 "SkewEdgesModel" "order" "[I", .fieldLink RX6 33 "SkewEdgesModel" "orders" "[I"] ++ wsX60)
def wsX6_in : List Cond := .code yX6_in cX6_in 3 (some .boolean) :: ([])
def wsX6_isTransaction : List Cond := .code yX6_isTransaction cX6_isTransaction 2 (some .boolean) :: ([.fieldLink RX6 7 "SkewEdgesModel" "z" "[I"] ++ wsX60)
def wsX6_isKey : List Cond := .code yX6_isKey cX6_isKey 1 (some .boolean) :: ([.methodLink RX6 36 yX6_in, .static yX6_in, .initialized RX6, .code yX6_in cX6_in 3 (some .boolean)])
def wsX6_its : List Cond := .code yX6_its cX6_its 3 (some .int) :: ([.fieldLink RX6 7 "SkewEdgesModel" "z" "[I"] ++ wsX60)
def wsX6_lay : List Cond := .code yX6_lay cX6_lay 4 none :: ([.fieldLink RX6 7 "SkewEdgesModel" "z" "[I"] ++ wsX60)
def wsX6_isIn : List Cond := .code yX6_isIn cX6_isIn 3 (some .boolean) :: ([.methodLink RX6 40 yX6_its, .instanceMethod yX6_its, .selects RX6 yX6_its yX6_its, .initialized RX6, .code yX6_its cX6_its 3 (some .int), .fieldLink RX6 7 "SkewEdgesModel" "z" "[I"] ++ wsX60)
def wsX6_wrote : List Cond := .code yX6_wrote cX6_wrote 3 (some .boolean) :: ([.methodLink RX6 40 yX6_its, .instanceMethod yX6_its, .selects RX6 yX6_its yX6_its, .initialized RX6, .code yX6_its cX6_its 3 (some .int), .fieldLink RX6 7 "SkewEdgesModel" "z" "[I"] ++ wsX60)
def wsX6_record : List Cond := .code yX6_record cX6_record 2 none :: ([.fieldLink RX6 44 "SkewEdgesModel" "pastMany" "I", .fieldLink RX6 13 "SkewEdgesModel" "past" "[I", .fieldLink RX6 7 "SkewEdgesModel" "z" "[I"] ++ wsX60)
def wsX6_undo : List Cond := .code yX6_undo cX6_undo 2 (some .int) :: ([.fieldLink RX6 44 "SkewEdgesModel" "pastMany" "I", .fieldLink RX6 7 "SkewEdgesModel" "z" "[I", .fieldLink RX6 13 "SkewEdgesModel" "past" "[I"] ++ wsX60)
def wsX6_save : List Cond := .code yX6_save cX6_save 3 (some .int) :: ([.fieldLink RX6 19 "SkewEdgesModel" "isSaved" "[Z", .fieldLink RX6 16 "SkewEdgesModel" "slots" "[I", .fieldLink RX6 7 "SkewEdgesModel" "z" "[I", .methodLink RX6 36 yX6_in, .static yX6_in, .initialized RX6, .code yX6_in cX6_in 3 (some .boolean)] ++ wsX60)
def wsX6_restore : List Cond := .code yX6_restore cX6_restore 3 (some .int) :: ([.fieldLink RX6 19 "SkewEdgesModel" "isSaved" "[Z", .fieldLink RX6 7 "SkewEdgesModel" "z" "[I", .fieldLink RX6 16 "SkewEdgesModel" "slots" "[I", .methodLink RX6 36 yX6_in, .static yX6_in, .initialized RX6, .code yX6_in cX6_in 3 (some .boolean), .methodLink RX6 48 yX6_record, .instanceMethod yX6_record, .selects RX6 yX6_record yX6_record, .code yX6_record cX6_record 2 none, .fieldLink RX6 44 "SkewEdgesModel" "pastMany" "I", .fieldLink RX6 13 "SkewEdgesModel" "past" "[I"] ++ wsX60)
def wsX6_writerAhead : List Cond := .code yX6_writerAhead cX6_writerAhead 6 (some .int) :: ([.fieldLink RX6 7 "SkewEdgesModel" "z" "[I", .methodLink RX6 51 yX6_isIn, .instanceMethod yX6_isIn, .selects RX6 yX6_isIn yX6_isIn, .initialized RX6, .code yX6_isIn cX6_isIn 3 (some .boolean), .methodLink RX6 40 yX6_its, .instanceMethod yX6_its, .selects RX6 yX6_its yX6_its, .code yX6_its cX6_its 3 (some .int), .methodLink RX6 55 yX6_wrote, .instanceMethod yX6_wrote, .selects RX6 yX6_wrote yX6_wrote, .code yX6_wrote cX6_wrote 3 (some .boolean)] ++ wsX60)
def wsX6_writerBehind : List Cond := .code yX6_writerBehind cX6_writerBehind 6 (some .int) :: ([.fieldLink RX6 7 "SkewEdgesModel" "z" "[I", .methodLink RX6 51 yX6_isIn, .instanceMethod yX6_isIn, .selects RX6 yX6_isIn yX6_isIn, .initialized RX6, .code yX6_isIn cX6_isIn 3 (some .boolean), .methodLink RX6 40 yX6_its, .instanceMethod yX6_its, .selects RX6 yX6_its yX6_its, .code yX6_its cX6_its 3 (some .int), .methodLink RX6 55 yX6_wrote, .instanceMethod yX6_wrote, .selects RX6 yX6_wrote yX6_wrote, .code yX6_wrote cX6_wrote 3 (some .boolean)] ++ wsX60)
def wsX6_isCommittedAhead : List Cond := .code yX6_isCommittedAhead cX6_isCommittedAhead 3 (some .boolean) :: ([.methodLink RX6 51 yX6_isIn, .instanceMethod yX6_isIn, .selects RX6 yX6_isIn yX6_isIn, .initialized RX6, .code yX6_isIn cX6_isIn 3 (some .boolean), .methodLink RX6 40 yX6_its, .instanceMethod yX6_its, .selects RX6 yX6_its yX6_its, .code yX6_its cX6_its 3 (some .int), .fieldLink RX6 7 "SkewEdgesModel" "z" "[I"] ++ wsX60)
def wsX6_overlap : List Cond := .code yX6_overlap cX6_overlap 4 (some .boolean) :: ([.methodLink RX6 51 yX6_isIn, .instanceMethod yX6_isIn, .selects RX6 yX6_isIn yX6_isIn, .initialized RX6, .code yX6_isIn cX6_isIn 3 (some .boolean), .methodLink RX6 40 yX6_its, .instanceMethod yX6_its, .selects RX6 yX6_its yX6_its, .code yX6_its cX6_its 3 (some .int), .fieldLink RX6 7 "SkewEdgesModel" "z" "[I", .methodLink RX6 58 yX6_isCommittedAhead, .instanceMethod yX6_isCommittedAhead, .selects RX6 yX6_isCommittedAhead yX6_isCommittedAhead, .code yX6_isCommittedAhead cX6_isCommittedAhead 3 (some .boolean)] ++ wsX60)
def wsX6_isEdge : List Cond := .code yX6_isEdge cX6_isEdge 3 (some .boolean) :: ([.methodLink RX6 40 yX6_its, .instanceMethod yX6_its, .selects RX6 yX6_its yX6_its, .initialized RX6, .code yX6_its cX6_its 3 (some .int), .fieldLink RX6 7 "SkewEdgesModel" "z" "[I", .methodLink RX6 61 yX6_overlap, .instanceMethod yX6_overlap, .selects RX6 yX6_overlap yX6_overlap, .code yX6_overlap cX6_overlap 4 (some .boolean), .methodLink RX6 51 yX6_isIn, .instanceMethod yX6_isIn, .selects RX6 yX6_isIn yX6_isIn, .code yX6_isIn cX6_isIn 3 (some .boolean), .methodLink RX6 58 yX6_isCommittedAhead, .instanceMethod yX6_isCommittedAhead, .selects RX6 yX6_isCommittedAhead yX6_isCommittedAhead, .code yX6_isCommittedAhead cX6_isCommittedAhead 3 (some .boolean)] ++ wsX60)
def wsX6_isTriple : List Cond := .code yX6_isTriple cX6_isTriple 4 (some .boolean) :: ([.methodLink RX6 64 yX6_isEdge, .instanceMethod yX6_isEdge, .selects RX6 yX6_isEdge yX6_isEdge, .initialized RX6, .code yX6_isEdge cX6_isEdge 3 (some .boolean), .methodLink RX6 40 yX6_its, .instanceMethod yX6_its, .selects RX6 yX6_its yX6_its, .code yX6_its cX6_its 3 (some .int), .fieldLink RX6 7 "SkewEdgesModel" "z" "[I", .methodLink RX6 61 yX6_overlap, .instanceMethod yX6_overlap, .selects RX6 yX6_overlap yX6_overlap, .code yX6_overlap cX6_overlap 4 (some .boolean), .methodLink RX6 51 yX6_isIn, .instanceMethod yX6_isIn, .selects RX6 yX6_isIn yX6_isIn, .code yX6_isIn cX6_isIn 3 (some .boolean), .methodLink RX6 58 yX6_isCommittedAhead, .instanceMethod yX6_isCommittedAhead, .selects RX6 yX6_isCommittedAhead yX6_isCommittedAhead, .code yX6_isCommittedAhead cX6_isCommittedAhead 3 (some .boolean)] ++ wsX60)
def wsX6_counts : List Cond := .code yX6_counts cX6_counts 7 (some .boolean) :: ([.methodLink RX6 40 yX6_its, .instanceMethod yX6_its, .selects RX6 yX6_its yX6_its, .initialized RX6, .code yX6_its cX6_its 3 (some .int), .fieldLink RX6 7 "SkewEdgesModel" "z" "[I"] ++ wsX60)
def wsX6_findTriple_r1 : List Cond := [Cond.fieldLink RX6 7 "SkewEdgesModel" "z" "[I", Cond.fieldLink RX6 74 "SkewEdgesModel" "tripleA" "I", Cond.fieldLink RX6 77 "SkewEdgesModel" "tripleP" "I", Cond.fieldLink RX6 80 "SkewEdgesModel" "tripleC" "I", Cond.methodLink RX6 51 yX6_isIn, Cond.instanceMethod yX6_isIn, Cond.selects RX6 yX6_isIn yX6_isIn, Cond.initialized RX6, Cond.code yX6_isIn cX6_isIn 3 (some .boolean), Cond.methodLink RX6 40 yX6_its, Cond.instanceMethod yX6_its, Cond.selects RX6 yX6_its yX6_its, Cond.code yX6_its cX6_its 3 (some .int), Cond.methodLink RX6 67 yX6_isTriple, Cond.instanceMethod yX6_isTriple, Cond.selects RX6 yX6_isTriple yX6_isTriple, Cond.code yX6_isTriple cX6_isTriple 4 (some .boolean), Cond.methodLink RX6 64 yX6_isEdge, Cond.instanceMethod yX6_isEdge, Cond.selects RX6 yX6_isEdge yX6_isEdge, Cond.code yX6_isEdge cX6_isEdge 3 (some .boolean), Cond.methodLink RX6 61 yX6_overlap, Cond.instanceMethod yX6_overlap, Cond.selects RX6 yX6_overlap yX6_overlap]
def wsX6_findTriple_r2 : List Cond := [Cond.code yX6_overlap cX6_overlap 4 (some .boolean), Cond.methodLink RX6 58 yX6_isCommittedAhead, Cond.instanceMethod yX6_isCommittedAhead, Cond.selects RX6 yX6_isCommittedAhead yX6_isCommittedAhead, Cond.code yX6_isCommittedAhead cX6_isCommittedAhead 3 (some .boolean), Cond.methodLink RX6 70 yX6_counts, Cond.instanceMethod yX6_counts, Cond.selects RX6 yX6_counts yX6_counts, Cond.code yX6_counts cX6_counts 7 (some .boolean)]
def wsX6_findTriple : List Cond := .code yX6_findTriple cX6_findTriple 7 (some .boolean) :: ((wsX6_findTriple_r1 ++ wsX6_findTriple_r2) ++ wsX60)
def wsX6_reasonFor_r1 : List Cond := [Cond.fieldLink RX6 7 "SkewEdgesModel" "z" "[I", Cond.methodLink RX6 55 yX6_wrote, Cond.instanceMethod yX6_wrote, Cond.selects RX6 yX6_wrote yX6_wrote, Cond.initialized RX6, Cond.code yX6_wrote cX6_wrote 3 (some .boolean), Cond.methodLink RX6 40 yX6_its, Cond.instanceMethod yX6_its, Cond.selects RX6 yX6_its yX6_its, Cond.code yX6_its cX6_its 3 (some .int), Cond.methodLink RX6 83 yX6_writerBehind, Cond.instanceMethod yX6_writerBehind, Cond.selects RX6 yX6_writerBehind yX6_writerBehind, Cond.code yX6_writerBehind cX6_writerBehind 6 (some .int), Cond.methodLink RX6 51 yX6_isIn, Cond.instanceMethod yX6_isIn, Cond.selects RX6 yX6_isIn yX6_isIn, Cond.code yX6_isIn cX6_isIn 3 (some .boolean), Cond.methodLink RX6 86 yX6_lay, Cond.instanceMethod yX6_lay, Cond.selects RX6 yX6_lay yX6_lay, Cond.code yX6_lay cX6_lay 4 none, Cond.methodLink RX6 90 yX6_findTriple, Cond.instanceMethod yX6_findTriple]
def wsX6_reasonFor_r2 : List Cond := [Cond.selects RX6 yX6_findTriple yX6_findTriple, Cond.code yX6_findTriple cX6_findTriple 7 (some .boolean), Cond.fieldLink RX6 74 "SkewEdgesModel" "tripleA" "I", Cond.fieldLink RX6 77 "SkewEdgesModel" "tripleP" "I", Cond.fieldLink RX6 80 "SkewEdgesModel" "tripleC" "I", Cond.methodLink RX6 67 yX6_isTriple, Cond.instanceMethod yX6_isTriple, Cond.selects RX6 yX6_isTriple yX6_isTriple, Cond.code yX6_isTriple cX6_isTriple 4 (some .boolean), Cond.methodLink RX6 64 yX6_isEdge, Cond.instanceMethod yX6_isEdge, Cond.selects RX6 yX6_isEdge yX6_isEdge, Cond.code yX6_isEdge cX6_isEdge 3 (some .boolean), Cond.methodLink RX6 61 yX6_overlap, Cond.instanceMethod yX6_overlap, Cond.selects RX6 yX6_overlap yX6_overlap, Cond.code yX6_overlap cX6_overlap 4 (some .boolean), Cond.methodLink RX6 58 yX6_isCommittedAhead, Cond.instanceMethod yX6_isCommittedAhead, Cond.selects RX6 yX6_isCommittedAhead yX6_isCommittedAhead, Cond.code yX6_isCommittedAhead cX6_isCommittedAhead 3 (some .boolean), Cond.methodLink RX6 70 yX6_counts, Cond.instanceMethod yX6_counts, Cond.selects RX6 yX6_counts yX6_counts]
def wsX6_reasonFor_r3 : List Cond := [Cond.code yX6_counts cX6_counts 7 (some .boolean)]
def wsX6_reasonFor : List Cond := .code yX6_reasonFor cX6_reasonFor 4 (some .int) :: ((wsX6_reasonFor_r1 ++ (wsX6_reasonFor_r2 ++ wsX6_reasonFor_r3)) ++ wsX60)
def wsX6_rule : List Cond := .code yX6_rule cX6_rule 3 (some .int) :: ([.fieldLink RX6 7 "SkewEdgesModel" "z" "[I", .methodLink RX6 36 yX6_in, .static yX6_in, .initialized RX6, .code yX6_in cX6_in 3 (some .boolean), .methodLink RX6 48 yX6_record, .instanceMethod yX6_record, .selects RX6 yX6_record yX6_record, .code yX6_record cX6_record 2 none, .fieldLink RX6 44 "SkewEdgesModel" "pastMany" "I", .fieldLink RX6 13 "SkewEdgesModel" "past" "[I"] ++ wsX60)
def wsX6_setOf : List Cond := .code yX6_setOf cX6_setOf 4 (some .int) :: ([.fieldLink RX6 7 "SkewEdgesModel" "z" "[I", .methodLink RX6 51 yX6_isIn, .instanceMethod yX6_isIn, .selects RX6 yX6_isIn yX6_isIn, .initialized RX6, .code yX6_isIn cX6_isIn 3 (some .boolean), .methodLink RX6 40 yX6_its, .instanceMethod yX6_its, .selects RX6 yX6_its yX6_its, .code yX6_its cX6_its 3 (some .int)] ++ wsX60)
def wsX6_bits : List Cond := .code yX6_bits cX6_bits 3 (some .int) :: ([])
def wsX6_beginOne : List Cond := .code yX6_beginOne cX6_beginOne 4 (some .int) :: ([.fieldLink RX6 7 "SkewEdgesModel" "z" "[I", .methodLink RX6 93 yX6_setOf, .instanceMethod yX6_setOf, .selects RX6 yX6_setOf yX6_setOf, .initialized RX6, .code yX6_setOf cX6_setOf 4 (some .int), .methodLink RX6 51 yX6_isIn, .instanceMethod yX6_isIn, .selects RX6 yX6_isIn yX6_isIn, .code yX6_isIn cX6_isIn 3 (some .boolean), .methodLink RX6 40 yX6_its, .instanceMethod yX6_its, .selects RX6 yX6_its yX6_its, .code yX6_its cX6_its 3 (some .int), .methodLink RX6 86 yX6_lay, .instanceMethod yX6_lay, .selects RX6 yX6_lay yX6_lay, .code yX6_lay cX6_lay 4 none] ++ wsX60)
def wsX6_begin_r1 : List Cond := [Cond.fieldLink RX6 7 "SkewEdgesModel" "z" "[I", Cond.methodLink RX6 48 yX6_record, Cond.instanceMethod yX6_record, Cond.selects RX6 yX6_record yX6_record, Cond.initialized RX6, Cond.code yX6_record cX6_record 2 none, Cond.fieldLink RX6 44 "SkewEdgesModel" "pastMany" "I", Cond.fieldLink RX6 13 "SkewEdgesModel" "past" "[I", Cond.methodLink RX6 97 yX6_beginOne, Cond.instanceMethod yX6_beginOne, Cond.selects RX6 yX6_beginOne yX6_beginOne, Cond.code yX6_beginOne cX6_beginOne 4 (some .int), Cond.methodLink RX6 93 yX6_setOf, Cond.instanceMethod yX6_setOf, Cond.selects RX6 yX6_setOf yX6_setOf, Cond.code yX6_setOf cX6_setOf 4 (some .int), Cond.methodLink RX6 51 yX6_isIn, Cond.instanceMethod yX6_isIn, Cond.selects RX6 yX6_isIn yX6_isIn, Cond.code yX6_isIn cX6_isIn 3 (some .boolean), Cond.methodLink RX6 40 yX6_its, Cond.instanceMethod yX6_its, Cond.selects RX6 yX6_its yX6_its, Cond.code yX6_its cX6_its 3 (some .int)]
def wsX6_begin_r2 : List Cond := [Cond.methodLink RX6 86 yX6_lay, Cond.instanceMethod yX6_lay, Cond.selects RX6 yX6_lay yX6_lay, Cond.code yX6_lay cX6_lay 4 none]
def wsX6_begin : List Cond := .code yX6_begin cX6_begin 1 (some .int) :: ((wsX6_begin_r1 ++ wsX6_begin_r2) ++ wsX60)
def wsX6_whyNotRead : List Cond := .code yX6_whyNotRead cX6_whyNotRead 3 (some .int) :: ([.methodLink RX6 101 yX6_isTransaction, .instanceMethod yX6_isTransaction, .selects RX6 yX6_isTransaction yX6_isTransaction, .initialized RX6, .code yX6_isTransaction cX6_isTransaction 2 (some .boolean), .fieldLink RX6 7 "SkewEdgesModel" "z" "[I", .methodLink RX6 105 yX6_isKey, .static yX6_isKey, .code yX6_isKey cX6_isKey 1 (some .boolean), .methodLink RX6 36 yX6_in, .static yX6_in, .code yX6_in cX6_in 3 (some .boolean), .methodLink RX6 51 yX6_isIn, .instanceMethod yX6_isIn, .selects RX6 yX6_isIn yX6_isIn, .code yX6_isIn cX6_isIn 3 (some .boolean), .methodLink RX6 40 yX6_its, .instanceMethod yX6_its, .selects RX6 yX6_its yX6_its, .code yX6_its cX6_its 3 (some .int)] ++ wsX60)
def wsX6_writerSeen : List Cond := .code yX6_writerSeen cX6_writerSeen 3 (some .int) :: ([.methodLink RX6 55 yX6_wrote, .instanceMethod yX6_wrote, .selects RX6 yX6_wrote yX6_wrote, .initialized RX6, .code yX6_wrote cX6_wrote 3 (some .boolean), .methodLink RX6 40 yX6_its, .instanceMethod yX6_its, .selects RX6 yX6_its yX6_its, .code yX6_its cX6_its 3 (some .int), .fieldLink RX6 7 "SkewEdgesModel" "z" "[I", .methodLink RX6 108 yX6_writerAhead, .instanceMethod yX6_writerAhead, .selects RX6 yX6_writerAhead yX6_writerAhead, .code yX6_writerAhead cX6_writerAhead 6 (some .int), .methodLink RX6 51 yX6_isIn, .instanceMethod yX6_isIn, .selects RX6 yX6_isIn yX6_isIn, .code yX6_isIn cX6_isIn 3 (some .boolean)] ++ wsX60)
def wsX6_readOne_r1 : List Cond := [Cond.methodLink RX6 111 yX6_writerSeen, Cond.instanceMethod yX6_writerSeen, Cond.selects RX6 yX6_writerSeen yX6_writerSeen, Cond.initialized RX6, Cond.code yX6_writerSeen cX6_writerSeen 3 (some .int), Cond.methodLink RX6 55 yX6_wrote, Cond.instanceMethod yX6_wrote, Cond.selects RX6 yX6_wrote yX6_wrote, Cond.code yX6_wrote cX6_wrote 3 (some .boolean), Cond.methodLink RX6 40 yX6_its, Cond.instanceMethod yX6_its, Cond.selects RX6 yX6_its yX6_its, Cond.code yX6_its cX6_its 3 (some .int), Cond.fieldLink RX6 7 "SkewEdgesModel" "z" "[I", Cond.methodLink RX6 108 yX6_writerAhead, Cond.instanceMethod yX6_writerAhead, Cond.selects RX6 yX6_writerAhead yX6_writerAhead, Cond.code yX6_writerAhead cX6_writerAhead 6 (some .int), Cond.methodLink RX6 51 yX6_isIn, Cond.instanceMethod yX6_isIn, Cond.selects RX6 yX6_isIn yX6_isIn, Cond.code yX6_isIn cX6_isIn 3 (some .boolean), Cond.methodLink RX6 86 yX6_lay, Cond.instanceMethod yX6_lay]
def wsX6_readOne_r2 : List Cond := [Cond.selects RX6 yX6_lay yX6_lay, Cond.code yX6_lay cX6_lay 4 none]
def wsX6_readOne : List Cond := .code yX6_readOne cX6_readOne 4 (some .int) :: ((wsX6_readOne_r1 ++ wsX6_readOne_r2) ++ wsX60)
def wsX6_read_r1 : List Cond := [Cond.methodLink RX6 114 yX6_whyNotRead, Cond.instanceMethod yX6_whyNotRead, Cond.selects RX6 yX6_whyNotRead yX6_whyNotRead, Cond.initialized RX6, Cond.code yX6_whyNotRead cX6_whyNotRead 3 (some .int), Cond.methodLink RX6 101 yX6_isTransaction, Cond.instanceMethod yX6_isTransaction, Cond.selects RX6 yX6_isTransaction yX6_isTransaction, Cond.code yX6_isTransaction cX6_isTransaction 2 (some .boolean), Cond.fieldLink RX6 7 "SkewEdgesModel" "z" "[I", Cond.methodLink RX6 105 yX6_isKey, Cond.static yX6_isKey, Cond.code yX6_isKey cX6_isKey 1 (some .boolean), Cond.methodLink RX6 36 yX6_in, Cond.static yX6_in, Cond.code yX6_in cX6_in 3 (some .boolean), Cond.methodLink RX6 51 yX6_isIn, Cond.instanceMethod yX6_isIn, Cond.selects RX6 yX6_isIn yX6_isIn, Cond.code yX6_isIn cX6_isIn 3 (some .boolean), Cond.methodLink RX6 40 yX6_its, Cond.instanceMethod yX6_its, Cond.selects RX6 yX6_its yX6_its, Cond.code yX6_its cX6_its 3 (some .int)]
def wsX6_read_r2 : List Cond := [Cond.methodLink RX6 48 yX6_record, Cond.instanceMethod yX6_record, Cond.selects RX6 yX6_record yX6_record, Cond.code yX6_record cX6_record 2 none, Cond.fieldLink RX6 44 "SkewEdgesModel" "pastMany" "I", Cond.fieldLink RX6 13 "SkewEdgesModel" "past" "[I", Cond.methodLink RX6 117 yX6_readOne, Cond.instanceMethod yX6_readOne, Cond.selects RX6 yX6_readOne yX6_readOne, Cond.code yX6_readOne cX6_readOne 4 (some .int), Cond.methodLink RX6 111 yX6_writerSeen, Cond.instanceMethod yX6_writerSeen, Cond.selects RX6 yX6_writerSeen yX6_writerSeen, Cond.code yX6_writerSeen cX6_writerSeen 3 (some .int), Cond.methodLink RX6 55 yX6_wrote, Cond.instanceMethod yX6_wrote, Cond.selects RX6 yX6_wrote yX6_wrote, Cond.code yX6_wrote cX6_wrote 3 (some .boolean), Cond.methodLink RX6 108 yX6_writerAhead, Cond.instanceMethod yX6_writerAhead, Cond.selects RX6 yX6_writerAhead yX6_writerAhead, Cond.code yX6_writerAhead cX6_writerAhead 6 (some .int), Cond.methodLink RX6 86 yX6_lay, Cond.instanceMethod yX6_lay]
def wsX6_read_r3 : List Cond := [Cond.selects RX6 yX6_lay yX6_lay, Cond.code yX6_lay cX6_lay 4 none]
def wsX6_read : List Cond := .code yX6_read cX6_read 4 (some .int) :: ((wsX6_read_r1 ++ (wsX6_read_r2 ++ wsX6_read_r3)) ++ wsX60)
def wsX6_whyNotWrite : List Cond := .code yX6_whyNotWrite cX6_whyNotWrite 4 (some .int) :: ([.methodLink RX6 101 yX6_isTransaction, .instanceMethod yX6_isTransaction, .selects RX6 yX6_isTransaction yX6_isTransaction, .initialized RX6, .code yX6_isTransaction cX6_isTransaction 2 (some .boolean), .fieldLink RX6 7 "SkewEdgesModel" "z" "[I", .methodLink RX6 105 yX6_isKey, .static yX6_isKey, .code yX6_isKey cX6_isKey 1 (some .boolean), .methodLink RX6 36 yX6_in, .static yX6_in, .code yX6_in cX6_in 3 (some .boolean), .methodLink RX6 51 yX6_isIn, .instanceMethod yX6_isIn, .selects RX6 yX6_isIn yX6_isIn, .code yX6_isIn cX6_isIn 3 (some .boolean), .methodLink RX6 40 yX6_its, .instanceMethod yX6_its, .selects RX6 yX6_its yX6_its, .code yX6_its cX6_its 3 (some .int)] ++ wsX60)
def wsX6_writeOne : List Cond := .code yX6_writeOne cX6_writeOne 4 (some .int) :: ([.methodLink RX6 40 yX6_its, .instanceMethod yX6_its, .selects RX6 yX6_its yX6_its, .initialized RX6, .code yX6_its cX6_its 3 (some .int), .fieldLink RX6 7 "SkewEdgesModel" "z" "[I", .methodLink RX6 86 yX6_lay, .instanceMethod yX6_lay, .selects RX6 yX6_lay yX6_lay, .code yX6_lay cX6_lay 4 none] ++ wsX60)
def wsX6_write_r1 : List Cond := [Cond.methodLink RX6 120 yX6_whyNotWrite, Cond.instanceMethod yX6_whyNotWrite, Cond.selects RX6 yX6_whyNotWrite yX6_whyNotWrite, Cond.initialized RX6, Cond.code yX6_whyNotWrite cX6_whyNotWrite 4 (some .int), Cond.methodLink RX6 101 yX6_isTransaction, Cond.instanceMethod yX6_isTransaction, Cond.selects RX6 yX6_isTransaction yX6_isTransaction, Cond.code yX6_isTransaction cX6_isTransaction 2 (some .boolean), Cond.fieldLink RX6 7 "SkewEdgesModel" "z" "[I", Cond.methodLink RX6 105 yX6_isKey, Cond.static yX6_isKey, Cond.code yX6_isKey cX6_isKey 1 (some .boolean), Cond.methodLink RX6 36 yX6_in, Cond.static yX6_in, Cond.code yX6_in cX6_in 3 (some .boolean), Cond.methodLink RX6 51 yX6_isIn, Cond.instanceMethod yX6_isIn, Cond.selects RX6 yX6_isIn yX6_isIn, Cond.code yX6_isIn cX6_isIn 3 (some .boolean), Cond.methodLink RX6 40 yX6_its, Cond.instanceMethod yX6_its, Cond.selects RX6 yX6_its yX6_its, Cond.code yX6_its cX6_its 3 (some .int)]
def wsX6_write_r2 : List Cond := [Cond.methodLink RX6 48 yX6_record, Cond.instanceMethod yX6_record, Cond.selects RX6 yX6_record yX6_record, Cond.code yX6_record cX6_record 2 none, Cond.fieldLink RX6 44 "SkewEdgesModel" "pastMany" "I", Cond.fieldLink RX6 13 "SkewEdgesModel" "past" "[I", Cond.methodLink RX6 124 yX6_writeOne, Cond.instanceMethod yX6_writeOne, Cond.selects RX6 yX6_writeOne yX6_writeOne, Cond.code yX6_writeOne cX6_writeOne 4 (some .int), Cond.methodLink RX6 86 yX6_lay, Cond.instanceMethod yX6_lay, Cond.selects RX6 yX6_lay yX6_lay, Cond.code yX6_lay cX6_lay 4 none]
def wsX6_write : List Cond := .code yX6_write cX6_write 5 (some .int) :: ((wsX6_write_r1 ++ wsX6_write_r2) ++ wsX60)
def wsX6_whyNotEnd : List Cond := .code yX6_whyNotEnd cX6_whyNotEnd 2 (some .int) :: ([.methodLink RX6 101 yX6_isTransaction, .instanceMethod yX6_isTransaction, .selects RX6 yX6_isTransaction yX6_isTransaction, .initialized RX6, .code yX6_isTransaction cX6_isTransaction 2 (some .boolean), .fieldLink RX6 7 "SkewEdgesModel" "z" "[I", .methodLink RX6 51 yX6_isIn, .instanceMethod yX6_isIn, .selects RX6 yX6_isIn yX6_isIn, .code yX6_isIn cX6_isIn 3 (some .boolean), .methodLink RX6 40 yX6_its, .instanceMethod yX6_its, .selects RX6 yX6_its yX6_its, .code yX6_its cX6_its 3 (some .int)] ++ wsX60)
def wsX6_abortOne : List Cond := .code yX6_abortOne cX6_abortOne 3 none :: ([.methodLink RX6 86 yX6_lay, .instanceMethod yX6_lay, .selects RX6 yX6_lay yX6_lay, .initialized RX6, .code yX6_lay cX6_lay 4 none, .fieldLink RX6 7 "SkewEdgesModel" "z" "[I"] ++ wsX60)
def wsX6_commitOne_r1 : List Cond := [Cond.fieldLink RX6 7 "SkewEdgesModel" "z" "[I", Cond.methodLink RX6 127 yX6_reasonFor, Cond.instanceMethod yX6_reasonFor, Cond.selects RX6 yX6_reasonFor yX6_reasonFor, Cond.initialized RX6, Cond.code yX6_reasonFor cX6_reasonFor 4 (some .int), Cond.methodLink RX6 55 yX6_wrote, Cond.instanceMethod yX6_wrote, Cond.selects RX6 yX6_wrote yX6_wrote, Cond.code yX6_wrote cX6_wrote 3 (some .boolean), Cond.methodLink RX6 40 yX6_its, Cond.instanceMethod yX6_its, Cond.selects RX6 yX6_its yX6_its, Cond.code yX6_its cX6_its 3 (some .int), Cond.methodLink RX6 83 yX6_writerBehind, Cond.instanceMethod yX6_writerBehind, Cond.selects RX6 yX6_writerBehind yX6_writerBehind, Cond.code yX6_writerBehind cX6_writerBehind 6 (some .int), Cond.methodLink RX6 51 yX6_isIn, Cond.instanceMethod yX6_isIn, Cond.selects RX6 yX6_isIn yX6_isIn, Cond.code yX6_isIn cX6_isIn 3 (some .boolean), Cond.methodLink RX6 86 yX6_lay, Cond.instanceMethod yX6_lay]
def wsX6_commitOne_r2 : List Cond := [Cond.selects RX6 yX6_lay yX6_lay, Cond.code yX6_lay cX6_lay 4 none, Cond.methodLink RX6 90 yX6_findTriple, Cond.instanceMethod yX6_findTriple, Cond.selects RX6 yX6_findTriple yX6_findTriple, Cond.code yX6_findTriple cX6_findTriple 7 (some .boolean), Cond.fieldLink RX6 74 "SkewEdgesModel" "tripleA" "I", Cond.fieldLink RX6 77 "SkewEdgesModel" "tripleP" "I", Cond.fieldLink RX6 80 "SkewEdgesModel" "tripleC" "I", Cond.methodLink RX6 67 yX6_isTriple, Cond.instanceMethod yX6_isTriple, Cond.selects RX6 yX6_isTriple yX6_isTriple, Cond.code yX6_isTriple cX6_isTriple 4 (some .boolean), Cond.methodLink RX6 64 yX6_isEdge, Cond.instanceMethod yX6_isEdge, Cond.selects RX6 yX6_isEdge yX6_isEdge, Cond.code yX6_isEdge cX6_isEdge 3 (some .boolean), Cond.methodLink RX6 61 yX6_overlap, Cond.instanceMethod yX6_overlap, Cond.selects RX6 yX6_overlap yX6_overlap, Cond.code yX6_overlap cX6_overlap 4 (some .boolean), Cond.methodLink RX6 58 yX6_isCommittedAhead, Cond.instanceMethod yX6_isCommittedAhead, Cond.selects RX6 yX6_isCommittedAhead yX6_isCommittedAhead]
def wsX6_commitOne_r3 : List Cond := [Cond.code yX6_isCommittedAhead cX6_isCommittedAhead 3 (some .boolean), Cond.methodLink RX6 70 yX6_counts, Cond.instanceMethod yX6_counts, Cond.selects RX6 yX6_counts yX6_counts, Cond.code yX6_counts cX6_counts 7 (some .boolean), Cond.methodLink RX6 130 yX6_abortOne, Cond.instanceMethod yX6_abortOne, Cond.selects RX6 yX6_abortOne yX6_abortOne, Cond.code yX6_abortOne cX6_abortOne 3 none]
def wsX6_commitOne : List Cond := .code yX6_commitOne cX6_commitOne 3 (some .int) :: ((wsX6_commitOne_r1 ++ (wsX6_commitOne_r2 ++ wsX6_commitOne_r3)) ++ wsX60)
def wsX6_commit_r1 : List Cond := [Cond.methodLink RX6 134 yX6_whyNotEnd, Cond.instanceMethod yX6_whyNotEnd, Cond.selects RX6 yX6_whyNotEnd yX6_whyNotEnd, Cond.initialized RX6, Cond.code yX6_whyNotEnd cX6_whyNotEnd 2 (some .int), Cond.methodLink RX6 101 yX6_isTransaction, Cond.instanceMethod yX6_isTransaction, Cond.selects RX6 yX6_isTransaction yX6_isTransaction, Cond.code yX6_isTransaction cX6_isTransaction 2 (some .boolean), Cond.fieldLink RX6 7 "SkewEdgesModel" "z" "[I", Cond.methodLink RX6 51 yX6_isIn, Cond.instanceMethod yX6_isIn, Cond.selects RX6 yX6_isIn yX6_isIn, Cond.code yX6_isIn cX6_isIn 3 (some .boolean), Cond.methodLink RX6 40 yX6_its, Cond.instanceMethod yX6_its, Cond.selects RX6 yX6_its yX6_its, Cond.code yX6_its cX6_its 3 (some .int), Cond.methodLink RX6 48 yX6_record, Cond.instanceMethod yX6_record, Cond.selects RX6 yX6_record yX6_record, Cond.code yX6_record cX6_record 2 none, Cond.fieldLink RX6 44 "SkewEdgesModel" "pastMany" "I", Cond.fieldLink RX6 13 "SkewEdgesModel" "past" "[I"]
def wsX6_commit_r2 : List Cond := [Cond.methodLink RX6 137 yX6_commitOne, Cond.instanceMethod yX6_commitOne, Cond.selects RX6 yX6_commitOne yX6_commitOne, Cond.code yX6_commitOne cX6_commitOne 3 (some .int), Cond.methodLink RX6 127 yX6_reasonFor, Cond.instanceMethod yX6_reasonFor, Cond.selects RX6 yX6_reasonFor yX6_reasonFor, Cond.code yX6_reasonFor cX6_reasonFor 4 (some .int), Cond.methodLink RX6 55 yX6_wrote, Cond.instanceMethod yX6_wrote, Cond.selects RX6 yX6_wrote yX6_wrote, Cond.code yX6_wrote cX6_wrote 3 (some .boolean), Cond.methodLink RX6 83 yX6_writerBehind, Cond.instanceMethod yX6_writerBehind, Cond.selects RX6 yX6_writerBehind yX6_writerBehind, Cond.code yX6_writerBehind cX6_writerBehind 6 (some .int), Cond.methodLink RX6 86 yX6_lay, Cond.instanceMethod yX6_lay, Cond.selects RX6 yX6_lay yX6_lay, Cond.code yX6_lay cX6_lay 4 none, Cond.methodLink RX6 90 yX6_findTriple, Cond.instanceMethod yX6_findTriple, Cond.selects RX6 yX6_findTriple yX6_findTriple, Cond.code yX6_findTriple cX6_findTriple 7 (some .boolean)]
def wsX6_commit_r3 : List Cond := [Cond.fieldLink RX6 74 "SkewEdgesModel" "tripleA" "I", Cond.fieldLink RX6 77 "SkewEdgesModel" "tripleP" "I", Cond.fieldLink RX6 80 "SkewEdgesModel" "tripleC" "I", Cond.methodLink RX6 67 yX6_isTriple, Cond.instanceMethod yX6_isTriple, Cond.selects RX6 yX6_isTriple yX6_isTriple, Cond.code yX6_isTriple cX6_isTriple 4 (some .boolean), Cond.methodLink RX6 64 yX6_isEdge, Cond.instanceMethod yX6_isEdge, Cond.selects RX6 yX6_isEdge yX6_isEdge, Cond.code yX6_isEdge cX6_isEdge 3 (some .boolean), Cond.methodLink RX6 61 yX6_overlap, Cond.instanceMethod yX6_overlap, Cond.selects RX6 yX6_overlap yX6_overlap, Cond.code yX6_overlap cX6_overlap 4 (some .boolean), Cond.methodLink RX6 58 yX6_isCommittedAhead, Cond.instanceMethod yX6_isCommittedAhead, Cond.selects RX6 yX6_isCommittedAhead yX6_isCommittedAhead, Cond.code yX6_isCommittedAhead cX6_isCommittedAhead 3 (some .boolean), Cond.methodLink RX6 70 yX6_counts, Cond.instanceMethod yX6_counts, Cond.selects RX6 yX6_counts yX6_counts, Cond.code yX6_counts cX6_counts 7 (some .boolean), Cond.methodLink RX6 130 yX6_abortOne]
def wsX6_commit_r4 : List Cond := [Cond.instanceMethod yX6_abortOne, Cond.selects RX6 yX6_abortOne yX6_abortOne, Cond.code yX6_abortOne cX6_abortOne 3 none]
def wsX6_commit : List Cond := .code yX6_commit cX6_commit 3 (some .int) :: ((wsX6_commit_r1 ++ (wsX6_commit_r2 ++ (wsX6_commit_r3 ++ wsX6_commit_r4))) ++ wsX60)
def wsX6_abort_r1 : List Cond := [Cond.methodLink RX6 134 yX6_whyNotEnd, Cond.instanceMethod yX6_whyNotEnd, Cond.selects RX6 yX6_whyNotEnd yX6_whyNotEnd, Cond.initialized RX6, Cond.code yX6_whyNotEnd cX6_whyNotEnd 2 (some .int), Cond.methodLink RX6 101 yX6_isTransaction, Cond.instanceMethod yX6_isTransaction, Cond.selects RX6 yX6_isTransaction yX6_isTransaction, Cond.code yX6_isTransaction cX6_isTransaction 2 (some .boolean), Cond.fieldLink RX6 7 "SkewEdgesModel" "z" "[I", Cond.methodLink RX6 51 yX6_isIn, Cond.instanceMethod yX6_isIn, Cond.selects RX6 yX6_isIn yX6_isIn, Cond.code yX6_isIn cX6_isIn 3 (some .boolean), Cond.methodLink RX6 40 yX6_its, Cond.instanceMethod yX6_its, Cond.selects RX6 yX6_its yX6_its, Cond.code yX6_its cX6_its 3 (some .int), Cond.methodLink RX6 48 yX6_record, Cond.instanceMethod yX6_record, Cond.selects RX6 yX6_record yX6_record, Cond.code yX6_record cX6_record 2 none, Cond.fieldLink RX6 44 "SkewEdgesModel" "pastMany" "I", Cond.fieldLink RX6 13 "SkewEdgesModel" "past" "[I"]
def wsX6_abort_r2 : List Cond := [Cond.methodLink RX6 130 yX6_abortOne, Cond.instanceMethod yX6_abortOne, Cond.selects RX6 yX6_abortOne yX6_abortOne, Cond.code yX6_abortOne cX6_abortOne 3 none, Cond.methodLink RX6 86 yX6_lay, Cond.instanceMethod yX6_lay, Cond.selects RX6 yX6_lay yX6_lay, Cond.code yX6_lay cX6_lay 4 none, Cond.methodLink RX6 93 yX6_setOf, Cond.instanceMethod yX6_setOf, Cond.selects RX6 yX6_setOf yX6_setOf, Cond.code yX6_setOf cX6_setOf 4 (some .int), Cond.methodLink RX6 140 yX6_bits, Cond.static yX6_bits, Cond.code yX6_bits cX6_bits 3 (some .int)]
def wsX6_abort : List Cond := .code yX6_abort cX6_abort 3 (some .int) :: ((wsX6_abort_r1 ++ wsX6_abort_r2) ++ wsX60)
def wsX6_value : List Cond := .code yX6_value cX6_value 3 (some .int) :: ([.fieldLink RX6 7 "SkewEdgesModel" "z" "[I", .methodLink RX6 105 yX6_isKey, .static yX6_isKey, .initialized RX6, .code yX6_isKey cX6_isKey 1 (some .boolean), .methodLink RX6 36 yX6_in, .static yX6_in, .code yX6_in cX6_in 3 (some .boolean), .methodLink RX6 108 yX6_writerAhead, .instanceMethod yX6_writerAhead, .selects RX6 yX6_writerAhead yX6_writerAhead, .code yX6_writerAhead cX6_writerAhead 6 (some .int), .methodLink RX6 51 yX6_isIn, .instanceMethod yX6_isIn, .selects RX6 yX6_isIn yX6_isIn, .code yX6_isIn cX6_isIn 3 (some .boolean), .methodLink RX6 40 yX6_its, .instanceMethod yX6_its, .selects RX6 yX6_its yX6_its, .code yX6_its cX6_its 3 (some .int), .methodLink RX6 55 yX6_wrote, .instanceMethod yX6_wrote, .selects RX6 yX6_wrote yX6_wrote, .code yX6_wrote cX6_wrote 3 (some .boolean)] ++ wsX60)
def wsX6_edgesFrom : List Cond := .code yX6_edgesFrom cX6_edgesFrom 4 (some .int) :: ([.fieldLink RX6 7 "SkewEdgesModel" "z" "[I", .methodLink RX6 64 yX6_isEdge, .instanceMethod yX6_isEdge, .selects RX6 yX6_isEdge yX6_isEdge, .initialized RX6, .code yX6_isEdge cX6_isEdge 3 (some .boolean), .methodLink RX6 40 yX6_its, .instanceMethod yX6_its, .selects RX6 yX6_its yX6_its, .code yX6_its cX6_its 3 (some .int), .methodLink RX6 61 yX6_overlap, .instanceMethod yX6_overlap, .selects RX6 yX6_overlap yX6_overlap, .code yX6_overlap cX6_overlap 4 (some .boolean), .methodLink RX6 51 yX6_isIn, .instanceMethod yX6_isIn, .selects RX6 yX6_isIn yX6_isIn, .code yX6_isIn cX6_isIn 3 (some .boolean), .methodLink RX6 58 yX6_isCommittedAhead, .instanceMethod yX6_isCommittedAhead, .selects RX6 yX6_isCommittedAhead yX6_isCommittedAhead, .code yX6_isCommittedAhead cX6_isCommittedAhead 3 (some .boolean)] ++ wsX60)
def wsX6_edgesTo : List Cond := .code yX6_edgesTo cX6_edgesTo 4 (some .int) :: ([.fieldLink RX6 7 "SkewEdgesModel" "z" "[I", .methodLink RX6 64 yX6_isEdge, .instanceMethod yX6_isEdge, .selects RX6 yX6_isEdge yX6_isEdge, .initialized RX6, .code yX6_isEdge cX6_isEdge 3 (some .boolean), .methodLink RX6 40 yX6_its, .instanceMethod yX6_its, .selects RX6 yX6_its yX6_its, .code yX6_its cX6_its 3 (some .int), .methodLink RX6 61 yX6_overlap, .instanceMethod yX6_overlap, .selects RX6 yX6_overlap yX6_overlap, .code yX6_overlap cX6_overlap 4 (some .boolean), .methodLink RX6 51 yX6_isIn, .instanceMethod yX6_isIn, .selects RX6 yX6_isIn yX6_isIn, .code yX6_isIn cX6_isIn 3 (some .boolean), .methodLink RX6 58 yX6_isCommittedAhead, .instanceMethod yX6_isCommittedAhead, .selects RX6 yX6_isCommittedAhead yX6_isCommittedAhead, .code yX6_isCommittedAhead cX6_isCommittedAhead 3 (some .boolean)] ++ wsX60)
def wsX6_endangers : List Cond := .code yX6_endangers cX6_endangers 5 (some .boolean) :: ([.fieldLink RX6 7 "SkewEdgesModel" "z" "[I", .methodLink RX6 51 yX6_isIn, .instanceMethod yX6_isIn, .selects RX6 yX6_isIn yX6_isIn, .initialized RX6, .code yX6_isIn cX6_isIn 3 (some .boolean), .methodLink RX6 40 yX6_its, .instanceMethod yX6_its, .selects RX6 yX6_its yX6_its, .code yX6_its cX6_its 3 (some .int), .methodLink RX6 64 yX6_isEdge, .instanceMethod yX6_isEdge, .selects RX6 yX6_isEdge yX6_isEdge, .code yX6_isEdge cX6_isEdge 3 (some .boolean), .methodLink RX6 61 yX6_overlap, .instanceMethod yX6_overlap, .selects RX6 yX6_overlap yX6_overlap, .code yX6_overlap cX6_overlap 4 (some .boolean), .methodLink RX6 58 yX6_isCommittedAhead, .instanceMethod yX6_isCommittedAhead, .selects RX6 yX6_isCommittedAhead yX6_isCommittedAhead, .code yX6_isCommittedAhead cX6_isCommittedAhead 3 (some .boolean)] ++ wsX60)
def wsX6_safety_r1 : List Cond := [Cond.fieldLink RX6 7 "SkewEdgesModel" "z" "[I", Cond.methodLink RX6 51 yX6_isIn, Cond.instanceMethod yX6_isIn, Cond.selects RX6 yX6_isIn yX6_isIn, Cond.initialized RX6, Cond.code yX6_isIn cX6_isIn 3 (some .boolean), Cond.methodLink RX6 40 yX6_its, Cond.instanceMethod yX6_its, Cond.selects RX6 yX6_its yX6_its, Cond.code yX6_its cX6_its 3 (some .int), Cond.methodLink RX6 143 yX6_endangers, Cond.instanceMethod yX6_endangers, Cond.selects RX6 yX6_endangers yX6_endangers, Cond.code yX6_endangers cX6_endangers 5 (some .boolean), Cond.methodLink RX6 64 yX6_isEdge, Cond.instanceMethod yX6_isEdge, Cond.selects RX6 yX6_isEdge yX6_isEdge, Cond.code yX6_isEdge cX6_isEdge 3 (some .boolean), Cond.methodLink RX6 61 yX6_overlap, Cond.instanceMethod yX6_overlap, Cond.selects RX6 yX6_overlap yX6_overlap, Cond.code yX6_overlap cX6_overlap 4 (some .boolean), Cond.methodLink RX6 58 yX6_isCommittedAhead, Cond.instanceMethod yX6_isCommittedAhead]
def wsX6_safety_r2 : List Cond := [Cond.selects RX6 yX6_isCommittedAhead yX6_isCommittedAhead, Cond.code yX6_isCommittedAhead cX6_isCommittedAhead 3 (some .boolean)]
def wsX6_safety : List Cond := .code yX6_safety cX6_safety 4 (some .int) :: ((wsX6_safety_r1 ++ wsX6_safety_r2) ++ wsX60)
def wsX6_of_r1 : List Cond := [Cond.methodLink RX6 101 yX6_isTransaction, Cond.instanceMethod yX6_isTransaction, Cond.selects RX6 yX6_isTransaction yX6_isTransaction, Cond.initialized RX6, Cond.code yX6_isTransaction cX6_isTransaction 2 (some .boolean), Cond.fieldLink RX6 7 "SkewEdgesModel" "z" "[I", Cond.methodLink RX6 40 yX6_its, Cond.instanceMethod yX6_its, Cond.selects RX6 yX6_its yX6_its, Cond.code yX6_its cX6_its 3 (some .int), Cond.methodLink RX6 146 yX6_edgesFrom, Cond.instanceMethod yX6_edgesFrom, Cond.selects RX6 yX6_edgesFrom yX6_edgesFrom, Cond.code yX6_edgesFrom cX6_edgesFrom 4 (some .int), Cond.methodLink RX6 64 yX6_isEdge, Cond.instanceMethod yX6_isEdge, Cond.selects RX6 yX6_isEdge yX6_isEdge, Cond.code yX6_isEdge cX6_isEdge 3 (some .boolean), Cond.methodLink RX6 61 yX6_overlap, Cond.instanceMethod yX6_overlap, Cond.selects RX6 yX6_overlap yX6_overlap, Cond.code yX6_overlap cX6_overlap 4 (some .boolean), Cond.methodLink RX6 51 yX6_isIn, Cond.instanceMethod yX6_isIn]
def wsX6_of_r2 : List Cond := [Cond.selects RX6 yX6_isIn yX6_isIn, Cond.code yX6_isIn cX6_isIn 3 (some .boolean), Cond.methodLink RX6 58 yX6_isCommittedAhead, Cond.instanceMethod yX6_isCommittedAhead, Cond.selects RX6 yX6_isCommittedAhead yX6_isCommittedAhead, Cond.code yX6_isCommittedAhead cX6_isCommittedAhead 3 (some .boolean), Cond.methodLink RX6 149 yX6_edgesTo, Cond.instanceMethod yX6_edgesTo, Cond.selects RX6 yX6_edgesTo yX6_edgesTo, Cond.code yX6_edgesTo cX6_edgesTo 4 (some .int), Cond.methodLink RX6 152 yX6_safety, Cond.instanceMethod yX6_safety, Cond.selects RX6 yX6_safety yX6_safety, Cond.code yX6_safety cX6_safety 4 (some .int), Cond.methodLink RX6 143 yX6_endangers, Cond.instanceMethod yX6_endangers, Cond.selects RX6 yX6_endangers yX6_endangers, Cond.code yX6_endangers cX6_endangers 5 (some .boolean)]
def wsX6_of : List Cond := .code yX6_of cX6_of 3 (some .int) :: ((wsX6_of_r1 ++ wsX6_of_r2) ++ wsX60)
def wsX6_edge_r1 : List Cond := [Cond.methodLink RX6 101 yX6_isTransaction, Cond.instanceMethod yX6_isTransaction, Cond.selects RX6 yX6_isTransaction yX6_isTransaction, Cond.initialized RX6, Cond.code yX6_isTransaction cX6_isTransaction 2 (some .boolean), Cond.fieldLink RX6 7 "SkewEdgesModel" "z" "[I", Cond.methodLink RX6 64 yX6_isEdge, Cond.instanceMethod yX6_isEdge, Cond.selects RX6 yX6_isEdge yX6_isEdge, Cond.code yX6_isEdge cX6_isEdge 3 (some .boolean), Cond.methodLink RX6 40 yX6_its, Cond.instanceMethod yX6_its, Cond.selects RX6 yX6_its yX6_its, Cond.code yX6_its cX6_its 3 (some .int), Cond.methodLink RX6 61 yX6_overlap, Cond.instanceMethod yX6_overlap, Cond.selects RX6 yX6_overlap yX6_overlap, Cond.code yX6_overlap cX6_overlap 4 (some .boolean), Cond.methodLink RX6 51 yX6_isIn, Cond.instanceMethod yX6_isIn, Cond.selects RX6 yX6_isIn yX6_isIn, Cond.code yX6_isIn cX6_isIn 3 (some .boolean), Cond.methodLink RX6 58 yX6_isCommittedAhead, Cond.instanceMethod yX6_isCommittedAhead]
def wsX6_edge_r2 : List Cond := [Cond.selects RX6 yX6_isCommittedAhead yX6_isCommittedAhead, Cond.code yX6_isCommittedAhead cX6_isCommittedAhead 3 (some .boolean)]
def wsX6_edge : List Cond := .code yX6_edge cX6_edge 3 (some .int) :: ((wsX6_edge_r1 ++ wsX6_edge_r2) ++ wsX60)
def wsX6_over_r1 : List Cond := [Cond.methodLink RX6 101 yX6_isTransaction, Cond.instanceMethod yX6_isTransaction, Cond.selects RX6 yX6_isTransaction yX6_isTransaction, Cond.initialized RX6, Cond.code yX6_isTransaction cX6_isTransaction 2 (some .boolean), Cond.fieldLink RX6 7 "SkewEdgesModel" "z" "[I", Cond.methodLink RX6 64 yX6_isEdge, Cond.instanceMethod yX6_isEdge, Cond.selects RX6 yX6_isEdge yX6_isEdge, Cond.code yX6_isEdge cX6_isEdge 3 (some .boolean), Cond.methodLink RX6 40 yX6_its, Cond.instanceMethod yX6_its, Cond.selects RX6 yX6_its yX6_its, Cond.code yX6_its cX6_its 3 (some .int), Cond.methodLink RX6 61 yX6_overlap, Cond.instanceMethod yX6_overlap, Cond.selects RX6 yX6_overlap yX6_overlap, Cond.code yX6_overlap cX6_overlap 4 (some .boolean), Cond.methodLink RX6 51 yX6_isIn, Cond.instanceMethod yX6_isIn, Cond.selects RX6 yX6_isIn yX6_isIn, Cond.code yX6_isIn cX6_isIn 3 (some .boolean), Cond.methodLink RX6 58 yX6_isCommittedAhead, Cond.instanceMethod yX6_isCommittedAhead]
def wsX6_over_r2 : List Cond := [Cond.selects RX6 yX6_isCommittedAhead yX6_isCommittedAhead, Cond.code yX6_isCommittedAhead cX6_isCommittedAhead 3 (some .boolean), Cond.methodLink RX6 140 yX6_bits, Cond.static yX6_bits, Cond.code yX6_bits cX6_bits 3 (some .int)]
def wsX6_over : List Cond := .code yX6_over cX6_over 4 (some .int) :: ((wsX6_over_r1 ++ wsX6_over_r2) ++ wsX60)
def wsX6_edges_r1 : List Cond := [Cond.fieldLink RX6 7 "SkewEdgesModel" "z" "[I", Cond.methodLink RX6 146 yX6_edgesFrom, Cond.instanceMethod yX6_edgesFrom, Cond.selects RX6 yX6_edgesFrom yX6_edgesFrom, Cond.initialized RX6, Cond.code yX6_edgesFrom cX6_edgesFrom 4 (some .int), Cond.methodLink RX6 64 yX6_isEdge, Cond.instanceMethod yX6_isEdge, Cond.selects RX6 yX6_isEdge yX6_isEdge, Cond.code yX6_isEdge cX6_isEdge 3 (some .boolean), Cond.methodLink RX6 40 yX6_its, Cond.instanceMethod yX6_its, Cond.selects RX6 yX6_its yX6_its, Cond.code yX6_its cX6_its 3 (some .int), Cond.methodLink RX6 61 yX6_overlap, Cond.instanceMethod yX6_overlap, Cond.selects RX6 yX6_overlap yX6_overlap, Cond.code yX6_overlap cX6_overlap 4 (some .boolean), Cond.methodLink RX6 51 yX6_isIn, Cond.instanceMethod yX6_isIn, Cond.selects RX6 yX6_isIn yX6_isIn, Cond.code yX6_isIn cX6_isIn 3 (some .boolean), Cond.methodLink RX6 58 yX6_isCommittedAhead, Cond.instanceMethod yX6_isCommittedAhead]
def wsX6_edges_r2 : List Cond := [Cond.selects RX6 yX6_isCommittedAhead yX6_isCommittedAhead, Cond.code yX6_isCommittedAhead cX6_isCommittedAhead 3 (some .boolean), Cond.methodLink RX6 140 yX6_bits, Cond.static yX6_bits, Cond.code yX6_bits cX6_bits 3 (some .int)]
def wsX6_edges : List Cond := .code yX6_edges cX6_edges 3 (some .int) :: ((wsX6_edges_r1 ++ wsX6_edges_r2) ++ wsX60)
def wsX6_pivots_r1 : List Cond := [Cond.fieldLink RX6 7 "SkewEdgesModel" "z" "[I", Cond.methodLink RX6 146 yX6_edgesFrom, Cond.instanceMethod yX6_edgesFrom, Cond.selects RX6 yX6_edgesFrom yX6_edgesFrom, Cond.initialized RX6, Cond.code yX6_edgesFrom cX6_edgesFrom 4 (some .int), Cond.methodLink RX6 64 yX6_isEdge, Cond.instanceMethod yX6_isEdge, Cond.selects RX6 yX6_isEdge yX6_isEdge, Cond.code yX6_isEdge cX6_isEdge 3 (some .boolean), Cond.methodLink RX6 40 yX6_its, Cond.instanceMethod yX6_its, Cond.selects RX6 yX6_its yX6_its, Cond.code yX6_its cX6_its 3 (some .int), Cond.methodLink RX6 61 yX6_overlap, Cond.instanceMethod yX6_overlap, Cond.selects RX6 yX6_overlap yX6_overlap, Cond.code yX6_overlap cX6_overlap 4 (some .boolean), Cond.methodLink RX6 51 yX6_isIn, Cond.instanceMethod yX6_isIn, Cond.selects RX6 yX6_isIn yX6_isIn, Cond.code yX6_isIn cX6_isIn 3 (some .boolean), Cond.methodLink RX6 58 yX6_isCommittedAhead, Cond.instanceMethod yX6_isCommittedAhead]
def wsX6_pivots_r2 : List Cond := [Cond.selects RX6 yX6_isCommittedAhead yX6_isCommittedAhead, Cond.code yX6_isCommittedAhead cX6_isCommittedAhead 3 (some .boolean), Cond.methodLink RX6 149 yX6_edgesTo, Cond.instanceMethod yX6_edgesTo, Cond.selects RX6 yX6_edgesTo yX6_edgesTo, Cond.code yX6_edgesTo cX6_edgesTo 4 (some .int)]
def wsX6_pivots : List Cond := .code yX6_pivots cX6_pivots 3 (some .int) :: ((wsX6_pivots_r1 ++ wsX6_pivots_r2) ++ wsX60)
def wsX6_triples_r1 : List Cond := [Cond.fieldLink RX6 7 "SkewEdgesModel" "z" "[I", Cond.methodLink RX6 146 yX6_edgesFrom, Cond.instanceMethod yX6_edgesFrom, Cond.selects RX6 yX6_edgesFrom yX6_edgesFrom, Cond.initialized RX6, Cond.code yX6_edgesFrom cX6_edgesFrom 4 (some .int), Cond.methodLink RX6 64 yX6_isEdge, Cond.instanceMethod yX6_isEdge, Cond.selects RX6 yX6_isEdge yX6_isEdge, Cond.code yX6_isEdge cX6_isEdge 3 (some .boolean), Cond.methodLink RX6 40 yX6_its, Cond.instanceMethod yX6_its, Cond.selects RX6 yX6_its yX6_its, Cond.code yX6_its cX6_its 3 (some .int), Cond.methodLink RX6 61 yX6_overlap, Cond.instanceMethod yX6_overlap, Cond.selects RX6 yX6_overlap yX6_overlap, Cond.code yX6_overlap cX6_overlap 4 (some .boolean), Cond.methodLink RX6 51 yX6_isIn, Cond.instanceMethod yX6_isIn, Cond.selects RX6 yX6_isIn yX6_isIn, Cond.code yX6_isIn cX6_isIn 3 (some .boolean), Cond.methodLink RX6 58 yX6_isCommittedAhead, Cond.instanceMethod yX6_isCommittedAhead]
def wsX6_triples_r2 : List Cond := [Cond.selects RX6 yX6_isCommittedAhead yX6_isCommittedAhead, Cond.code yX6_isCommittedAhead cX6_isCommittedAhead 3 (some .boolean), Cond.methodLink RX6 140 yX6_bits, Cond.static yX6_bits, Cond.code yX6_bits cX6_bits 3 (some .int), Cond.methodLink RX6 149 yX6_edgesTo, Cond.instanceMethod yX6_edgesTo, Cond.selects RX6 yX6_edgesTo yX6_edgesTo, Cond.code yX6_edgesTo cX6_edgesTo 4 (some .int)]
def wsX6_triples : List Cond := .code yX6_triples cX6_triples 3 (some .int) :: ((wsX6_triples_r1 ++ wsX6_triples_r2) ++ wsX60)
def wsX6_depend : List Cond := .code yX6_depend cX6_depend 3 none :: ([.fieldLink RX6 27 "SkewEdgesModel" "ahead" "[I"] ++ wsX60)
def wsX6_layAhead_r1 : List Cond := [Cond.fieldLink RX6 27 "SkewEdgesModel" "ahead" "[I", Cond.fieldLink RX6 7 "SkewEdgesModel" "z" "[I", Cond.methodLink RX6 51 yX6_isIn, Cond.instanceMethod yX6_isIn, Cond.selects RX6 yX6_isIn yX6_isIn, Cond.initialized RX6, Cond.code yX6_isIn cX6_isIn 3 (some .boolean), Cond.methodLink RX6 40 yX6_its, Cond.instanceMethod yX6_its, Cond.selects RX6 yX6_its yX6_its, Cond.code yX6_its cX6_its 3 (some .int), Cond.methodLink RX6 55 yX6_wrote, Cond.instanceMethod yX6_wrote, Cond.selects RX6 yX6_wrote yX6_wrote, Cond.code yX6_wrote cX6_wrote 3 (some .boolean), Cond.methodLink RX6 83 yX6_writerBehind, Cond.instanceMethod yX6_writerBehind, Cond.selects RX6 yX6_writerBehind yX6_writerBehind, Cond.code yX6_writerBehind cX6_writerBehind 6 (some .int), Cond.methodLink RX6 171 yX6_depend, Cond.instanceMethod yX6_depend, Cond.selects RX6 yX6_depend yX6_depend, Cond.code yX6_depend cX6_depend 3 none, Cond.methodLink RX6 108 yX6_writerAhead]
def wsX6_layAhead_r2 : List Cond := [Cond.instanceMethod yX6_writerAhead, Cond.selects RX6 yX6_writerAhead yX6_writerAhead, Cond.code yX6_writerAhead cX6_writerAhead 6 (some .int)]
def wsX6_layAhead : List Cond := .code yX6_layAhead cX6_layAhead 4 none :: ((wsX6_layAhead_r1 ++ wsX6_layAhead_r2) ++ wsX60)
def wsX6_layOrder_r1 : List Cond := [Cond.fieldLink RX6 7 "SkewEdgesModel" "z" "[I", Cond.fieldLink RX6 27 "SkewEdgesModel" "ahead" "[I", Cond.fieldLink RX6 30 "SkewEdgesModel" "order" "[I", Cond.methodLink RX6 174 yX6_layAhead, Cond.instanceMethod yX6_layAhead, Cond.selects RX6 yX6_layAhead yX6_layAhead, Cond.initialized RX6, Cond.code yX6_layAhead cX6_layAhead 4 none, Cond.methodLink RX6 51 yX6_isIn, Cond.instanceMethod yX6_isIn, Cond.selects RX6 yX6_isIn yX6_isIn, Cond.code yX6_isIn cX6_isIn 3 (some .boolean), Cond.methodLink RX6 40 yX6_its, Cond.instanceMethod yX6_its, Cond.selects RX6 yX6_its yX6_its, Cond.code yX6_its cX6_its 3 (some .int), Cond.methodLink RX6 55 yX6_wrote, Cond.instanceMethod yX6_wrote, Cond.selects RX6 yX6_wrote yX6_wrote, Cond.code yX6_wrote cX6_wrote 3 (some .boolean), Cond.methodLink RX6 83 yX6_writerBehind, Cond.instanceMethod yX6_writerBehind, Cond.selects RX6 yX6_writerBehind yX6_writerBehind, Cond.code yX6_writerBehind cX6_writerBehind 6 (some .int)]
def wsX6_layOrder_r2 : List Cond := [Cond.methodLink RX6 171 yX6_depend, Cond.instanceMethod yX6_depend, Cond.selects RX6 yX6_depend yX6_depend, Cond.code yX6_depend cX6_depend 3 none, Cond.methodLink RX6 108 yX6_writerAhead, Cond.instanceMethod yX6_writerAhead, Cond.selects RX6 yX6_writerAhead yX6_writerAhead, Cond.code yX6_writerAhead cX6_writerAhead 6 (some .int), Cond.methodLink RX6 93 yX6_setOf, Cond.instanceMethod yX6_setOf, Cond.selects RX6 yX6_setOf yX6_setOf, Cond.code yX6_setOf cX6_setOf 4 (some .int)]
def wsX6_layOrder : List Cond := .code yX6_layOrder cX6_layOrder 6 (some .int) :: ((wsX6_layOrder_r1 ++ wsX6_layOrder_r2) ++ wsX60)
def wsX6_isSerial_r1 : List Cond := [Cond.methodLink RX6 177 yX6_layOrder, Cond.instanceMethod yX6_layOrder, Cond.selects RX6 yX6_layOrder yX6_layOrder, Cond.initialized RX6, Cond.code yX6_layOrder cX6_layOrder 6 (some .int), Cond.fieldLink RX6 7 "SkewEdgesModel" "z" "[I", Cond.fieldLink RX6 27 "SkewEdgesModel" "ahead" "[I", Cond.fieldLink RX6 30 "SkewEdgesModel" "order" "[I", Cond.methodLink RX6 174 yX6_layAhead, Cond.instanceMethod yX6_layAhead, Cond.selects RX6 yX6_layAhead yX6_layAhead, Cond.code yX6_layAhead cX6_layAhead 4 none, Cond.methodLink RX6 51 yX6_isIn, Cond.instanceMethod yX6_isIn, Cond.selects RX6 yX6_isIn yX6_isIn, Cond.code yX6_isIn cX6_isIn 3 (some .boolean), Cond.methodLink RX6 40 yX6_its, Cond.instanceMethod yX6_its, Cond.selects RX6 yX6_its yX6_its, Cond.code yX6_its cX6_its 3 (some .int), Cond.methodLink RX6 55 yX6_wrote, Cond.instanceMethod yX6_wrote, Cond.selects RX6 yX6_wrote yX6_wrote, Cond.code yX6_wrote cX6_wrote 3 (some .boolean)]
def wsX6_isSerial_r2 : List Cond := [Cond.methodLink RX6 83 yX6_writerBehind, Cond.instanceMethod yX6_writerBehind, Cond.selects RX6 yX6_writerBehind yX6_writerBehind, Cond.code yX6_writerBehind cX6_writerBehind 6 (some .int), Cond.methodLink RX6 171 yX6_depend, Cond.instanceMethod yX6_depend, Cond.selects RX6 yX6_depend yX6_depend, Cond.code yX6_depend cX6_depend 3 none, Cond.methodLink RX6 108 yX6_writerAhead, Cond.instanceMethod yX6_writerAhead, Cond.selects RX6 yX6_writerAhead yX6_writerAhead, Cond.code yX6_writerAhead cX6_writerAhead 6 (some .int), Cond.methodLink RX6 93 yX6_setOf, Cond.instanceMethod yX6_setOf, Cond.selects RX6 yX6_setOf yX6_setOf, Cond.code yX6_setOf cX6_setOf 4 (some .int), Cond.methodLink RX6 140 yX6_bits, Cond.static yX6_bits, Cond.code yX6_bits cX6_bits 3 (some .int)]
def wsX6_isSerial : List Cond := .code yX6_isSerial cX6_isSerial 1 (some .boolean) :: ((wsX6_isSerial_r1 ++ wsX6_isSerial_r2) ++ wsX60)
def wsX6_count_r1 : List Cond := [Cond.fieldLink RX6 7 "SkewEdgesModel" "z" "[I", Cond.fieldLink RX6 168 "SkewEdgesModel" "typed" "I", Cond.fieldLink RX6 44 "SkewEdgesModel" "pastMany" "I", Cond.methodLink RX6 93 yX6_setOf, Cond.instanceMethod yX6_setOf, Cond.selects RX6 yX6_setOf yX6_setOf, Cond.initialized RX6, Cond.code yX6_setOf cX6_setOf 4 (some .int), Cond.methodLink RX6 51 yX6_isIn, Cond.instanceMethod yX6_isIn, Cond.selects RX6 yX6_isIn yX6_isIn, Cond.code yX6_isIn cX6_isIn 3 (some .boolean), Cond.methodLink RX6 40 yX6_its, Cond.instanceMethod yX6_its, Cond.selects RX6 yX6_its yX6_its, Cond.code yX6_its cX6_its 3 (some .int), Cond.methodLink RX6 155 yX6_edges, Cond.instanceMethod yX6_edges, Cond.selects RX6 yX6_edges yX6_edges, Cond.code yX6_edges cX6_edges 3 (some .int), Cond.methodLink RX6 146 yX6_edgesFrom, Cond.instanceMethod yX6_edgesFrom, Cond.selects RX6 yX6_edgesFrom yX6_edgesFrom, Cond.code yX6_edgesFrom cX6_edgesFrom 4 (some .int)]
def wsX6_count_r2 : List Cond := [Cond.methodLink RX6 64 yX6_isEdge, Cond.instanceMethod yX6_isEdge, Cond.selects RX6 yX6_isEdge yX6_isEdge, Cond.code yX6_isEdge cX6_isEdge 3 (some .boolean), Cond.methodLink RX6 61 yX6_overlap, Cond.instanceMethod yX6_overlap, Cond.selects RX6 yX6_overlap yX6_overlap, Cond.code yX6_overlap cX6_overlap 4 (some .boolean), Cond.methodLink RX6 58 yX6_isCommittedAhead, Cond.instanceMethod yX6_isCommittedAhead, Cond.selects RX6 yX6_isCommittedAhead yX6_isCommittedAhead, Cond.code yX6_isCommittedAhead cX6_isCommittedAhead 3 (some .boolean), Cond.methodLink RX6 140 yX6_bits, Cond.static yX6_bits, Cond.code yX6_bits cX6_bits 3 (some .int), Cond.methodLink RX6 158 yX6_pivots, Cond.instanceMethod yX6_pivots, Cond.selects RX6 yX6_pivots yX6_pivots, Cond.code yX6_pivots cX6_pivots 3 (some .int), Cond.methodLink RX6 149 yX6_edgesTo, Cond.instanceMethod yX6_edgesTo, Cond.selects RX6 yX6_edgesTo yX6_edgesTo, Cond.code yX6_edgesTo cX6_edgesTo 4 (some .int), Cond.methodLink RX6 161 yX6_triples]
def wsX6_count_r3 : List Cond := [Cond.instanceMethod yX6_triples, Cond.selects RX6 yX6_triples yX6_triples, Cond.code yX6_triples cX6_triples 3 (some .int), Cond.methodLink RX6 164 yX6_isSerial, Cond.instanceMethod yX6_isSerial, Cond.selects RX6 yX6_isSerial yX6_isSerial, Cond.code yX6_isSerial cX6_isSerial 1 (some .boolean), Cond.methodLink RX6 177 yX6_layOrder, Cond.instanceMethod yX6_layOrder, Cond.selects RX6 yX6_layOrder yX6_layOrder, Cond.code yX6_layOrder cX6_layOrder 6 (some .int), Cond.fieldLink RX6 27 "SkewEdgesModel" "ahead" "[I", Cond.fieldLink RX6 30 "SkewEdgesModel" "order" "[I", Cond.methodLink RX6 174 yX6_layAhead, Cond.instanceMethod yX6_layAhead, Cond.selects RX6 yX6_layAhead yX6_layAhead, Cond.code yX6_layAhead cX6_layAhead 4 none, Cond.methodLink RX6 55 yX6_wrote, Cond.instanceMethod yX6_wrote, Cond.selects RX6 yX6_wrote yX6_wrote, Cond.code yX6_wrote cX6_wrote 3 (some .boolean), Cond.methodLink RX6 83 yX6_writerBehind, Cond.instanceMethod yX6_writerBehind, Cond.selects RX6 yX6_writerBehind yX6_writerBehind]
def wsX6_count_r4 : List Cond := [Cond.code yX6_writerBehind cX6_writerBehind 6 (some .int), Cond.methodLink RX6 171 yX6_depend, Cond.instanceMethod yX6_depend, Cond.selects RX6 yX6_depend yX6_depend, Cond.code yX6_depend cX6_depend 3 none, Cond.methodLink RX6 108 yX6_writerAhead, Cond.instanceMethod yX6_writerAhead, Cond.selects RX6 yX6_writerAhead yX6_writerAhead, Cond.code yX6_writerAhead cX6_writerAhead 6 (some .int)]
def wsX6_count : List Cond := .code yX6_count cX6_count 2 (some .int) :: ((wsX6_count_r1 ++ (wsX6_count_r2 ++ (wsX6_count_r3 ++ wsX6_count_r4))) ++ wsX60)
def wsX6_order_r1 : List Cond := [Cond.fieldLink RX6 30 "SkewEdgesModel" "order" "[I", Cond.methodLink RX6 93 yX6_setOf, Cond.instanceMethod yX6_setOf, Cond.selects RX6 yX6_setOf yX6_setOf, Cond.initialized RX6, Cond.code yX6_setOf cX6_setOf 4 (some .int), Cond.fieldLink RX6 7 "SkewEdgesModel" "z" "[I", Cond.methodLink RX6 51 yX6_isIn, Cond.instanceMethod yX6_isIn, Cond.selects RX6 yX6_isIn yX6_isIn, Cond.code yX6_isIn cX6_isIn 3 (some .boolean), Cond.methodLink RX6 40 yX6_its, Cond.instanceMethod yX6_its, Cond.selects RX6 yX6_its yX6_its, Cond.code yX6_its cX6_its 3 (some .int), Cond.methodLink RX6 140 yX6_bits, Cond.static yX6_bits, Cond.code yX6_bits cX6_bits 3 (some .int), Cond.methodLink RX6 164 yX6_isSerial, Cond.instanceMethod yX6_isSerial, Cond.selects RX6 yX6_isSerial yX6_isSerial, Cond.code yX6_isSerial cX6_isSerial 1 (some .boolean), Cond.methodLink RX6 177 yX6_layOrder, Cond.instanceMethod yX6_layOrder]
def wsX6_order_r2 : List Cond := [Cond.selects RX6 yX6_layOrder yX6_layOrder, Cond.code yX6_layOrder cX6_layOrder 6 (some .int), Cond.fieldLink RX6 27 "SkewEdgesModel" "ahead" "[I", Cond.methodLink RX6 174 yX6_layAhead, Cond.instanceMethod yX6_layAhead, Cond.selects RX6 yX6_layAhead yX6_layAhead, Cond.code yX6_layAhead cX6_layAhead 4 none, Cond.methodLink RX6 55 yX6_wrote, Cond.instanceMethod yX6_wrote, Cond.selects RX6 yX6_wrote yX6_wrote, Cond.code yX6_wrote cX6_wrote 3 (some .boolean), Cond.methodLink RX6 83 yX6_writerBehind, Cond.instanceMethod yX6_writerBehind, Cond.selects RX6 yX6_writerBehind yX6_writerBehind, Cond.code yX6_writerBehind cX6_writerBehind 6 (some .int), Cond.methodLink RX6 171 yX6_depend, Cond.instanceMethod yX6_depend, Cond.selects RX6 yX6_depend yX6_depend, Cond.code yX6_depend cX6_depend 3 none, Cond.methodLink RX6 108 yX6_writerAhead, Cond.instanceMethod yX6_writerAhead, Cond.selects RX6 yX6_writerAhead yX6_writerAhead, Cond.code yX6_writerAhead cX6_writerAhead 6 (some .int)]
def wsX6_order : List Cond := .code yX6_order cX6_order 2 (some .int) :: ((wsX6_order_r1 ++ wsX6_order_r2) ++ wsX60)
def wsX6_sees_r1 : List Cond := [Cond.methodLink RX6 101 yX6_isTransaction, Cond.instanceMethod yX6_isTransaction, Cond.selects RX6 yX6_isTransaction yX6_isTransaction, Cond.initialized RX6, Cond.code yX6_isTransaction cX6_isTransaction 2 (some .boolean), Cond.fieldLink RX6 7 "SkewEdgesModel" "z" "[I", Cond.methodLink RX6 105 yX6_isKey, Cond.static yX6_isKey, Cond.code yX6_isKey cX6_isKey 1 (some .boolean), Cond.methodLink RX6 36 yX6_in, Cond.static yX6_in, Cond.code yX6_in cX6_in 3 (some .boolean), Cond.methodLink RX6 111 yX6_writerSeen, Cond.instanceMethod yX6_writerSeen, Cond.selects RX6 yX6_writerSeen yX6_writerSeen, Cond.code yX6_writerSeen cX6_writerSeen 3 (some .int), Cond.methodLink RX6 55 yX6_wrote, Cond.instanceMethod yX6_wrote, Cond.selects RX6 yX6_wrote yX6_wrote, Cond.code yX6_wrote cX6_wrote 3 (some .boolean), Cond.methodLink RX6 40 yX6_its, Cond.instanceMethod yX6_its, Cond.selects RX6 yX6_its yX6_its, Cond.code yX6_its cX6_its 3 (some .int)]
def wsX6_sees_r2 : List Cond := [Cond.methodLink RX6 108 yX6_writerAhead, Cond.instanceMethod yX6_writerAhead, Cond.selects RX6 yX6_writerAhead yX6_writerAhead, Cond.code yX6_writerAhead cX6_writerAhead 6 (some .int), Cond.methodLink RX6 51 yX6_isIn, Cond.instanceMethod yX6_isIn, Cond.selects RX6 yX6_isIn yX6_isIn, Cond.code yX6_isIn cX6_isIn 3 (some .boolean)]
def wsX6_sees : List Cond := .code yX6_sees cX6_sees 3 (some .int) :: ((wsX6_sees_r1 ++ wsX6_sees_r2) ++ wsX60)
def wsX6_would_r1 : List Cond := [Cond.fieldLink RX6 7 "SkewEdgesModel" "z" "[I", Cond.methodLink RX6 134 yX6_whyNotEnd, Cond.instanceMethod yX6_whyNotEnd, Cond.selects RX6 yX6_whyNotEnd yX6_whyNotEnd, Cond.initialized RX6, Cond.code yX6_whyNotEnd cX6_whyNotEnd 2 (some .int), Cond.methodLink RX6 101 yX6_isTransaction, Cond.instanceMethod yX6_isTransaction, Cond.selects RX6 yX6_isTransaction yX6_isTransaction, Cond.code yX6_isTransaction cX6_isTransaction 2 (some .boolean), Cond.methodLink RX6 51 yX6_isIn, Cond.instanceMethod yX6_isIn, Cond.selects RX6 yX6_isIn yX6_isIn, Cond.code yX6_isIn cX6_isIn 3 (some .boolean), Cond.methodLink RX6 40 yX6_its, Cond.instanceMethod yX6_its, Cond.selects RX6 yX6_its yX6_its, Cond.code yX6_its cX6_its 3 (some .int), Cond.methodLink RX6 127 yX6_reasonFor, Cond.instanceMethod yX6_reasonFor, Cond.selects RX6 yX6_reasonFor yX6_reasonFor, Cond.code yX6_reasonFor cX6_reasonFor 4 (some .int), Cond.methodLink RX6 55 yX6_wrote, Cond.instanceMethod yX6_wrote]
def wsX6_would_r2 : List Cond := [Cond.selects RX6 yX6_wrote yX6_wrote, Cond.code yX6_wrote cX6_wrote 3 (some .boolean), Cond.methodLink RX6 83 yX6_writerBehind, Cond.instanceMethod yX6_writerBehind, Cond.selects RX6 yX6_writerBehind yX6_writerBehind, Cond.code yX6_writerBehind cX6_writerBehind 6 (some .int), Cond.methodLink RX6 86 yX6_lay, Cond.instanceMethod yX6_lay, Cond.selects RX6 yX6_lay yX6_lay, Cond.code yX6_lay cX6_lay 4 none, Cond.methodLink RX6 90 yX6_findTriple, Cond.instanceMethod yX6_findTriple, Cond.selects RX6 yX6_findTriple yX6_findTriple, Cond.code yX6_findTriple cX6_findTriple 7 (some .boolean), Cond.fieldLink RX6 74 "SkewEdgesModel" "tripleA" "I", Cond.fieldLink RX6 77 "SkewEdgesModel" "tripleP" "I", Cond.fieldLink RX6 80 "SkewEdgesModel" "tripleC" "I", Cond.methodLink RX6 67 yX6_isTriple, Cond.instanceMethod yX6_isTriple, Cond.selects RX6 yX6_isTriple yX6_isTriple, Cond.code yX6_isTriple cX6_isTriple 4 (some .boolean), Cond.methodLink RX6 64 yX6_isEdge, Cond.instanceMethod yX6_isEdge, Cond.selects RX6 yX6_isEdge yX6_isEdge]
def wsX6_would_r3 : List Cond := [Cond.code yX6_isEdge cX6_isEdge 3 (some .boolean), Cond.methodLink RX6 61 yX6_overlap, Cond.instanceMethod yX6_overlap, Cond.selects RX6 yX6_overlap yX6_overlap, Cond.code yX6_overlap cX6_overlap 4 (some .boolean), Cond.methodLink RX6 58 yX6_isCommittedAhead, Cond.instanceMethod yX6_isCommittedAhead, Cond.selects RX6 yX6_isCommittedAhead yX6_isCommittedAhead, Cond.code yX6_isCommittedAhead cX6_isCommittedAhead 3 (some .boolean), Cond.methodLink RX6 70 yX6_counts, Cond.instanceMethod yX6_counts, Cond.selects RX6 yX6_counts yX6_counts, Cond.code yX6_counts cX6_counts 7 (some .boolean)]
def wsX6_would : List Cond := .code yX6_would cX6_would 3 (some .int) :: ((wsX6_would_r1 ++ (wsX6_would_r2 ++ wsX6_would_r3)) ++ wsX60)
def wsX6_triple_r1 : List Cond := [Cond.fieldLink RX6 7 "SkewEdgesModel" "z" "[I", Cond.fieldLink RX6 74 "SkewEdgesModel" "tripleA" "I", Cond.fieldLink RX6 77 "SkewEdgesModel" "tripleP" "I", Cond.fieldLink RX6 80 "SkewEdgesModel" "tripleC" "I", Cond.methodLink RX6 101 yX6_isTransaction, Cond.instanceMethod yX6_isTransaction, Cond.selects RX6 yX6_isTransaction yX6_isTransaction, Cond.initialized RX6, Cond.code yX6_isTransaction cX6_isTransaction 2 (some .boolean), Cond.methodLink RX6 36 yX6_in, Cond.static yX6_in, Cond.code yX6_in cX6_in 3 (some .boolean), Cond.methodLink RX6 51 yX6_isIn, Cond.instanceMethod yX6_isIn, Cond.selects RX6 yX6_isIn yX6_isIn, Cond.code yX6_isIn cX6_isIn 3 (some .boolean), Cond.methodLink RX6 40 yX6_its, Cond.instanceMethod yX6_its, Cond.selects RX6 yX6_its yX6_its, Cond.code yX6_its cX6_its 3 (some .int), Cond.methodLink RX6 127 yX6_reasonFor, Cond.instanceMethod yX6_reasonFor, Cond.selects RX6 yX6_reasonFor yX6_reasonFor, Cond.code yX6_reasonFor cX6_reasonFor 4 (some .int)]
def wsX6_triple_r2 : List Cond := [Cond.methodLink RX6 55 yX6_wrote, Cond.instanceMethod yX6_wrote, Cond.selects RX6 yX6_wrote yX6_wrote, Cond.code yX6_wrote cX6_wrote 3 (some .boolean), Cond.methodLink RX6 83 yX6_writerBehind, Cond.instanceMethod yX6_writerBehind, Cond.selects RX6 yX6_writerBehind yX6_writerBehind, Cond.code yX6_writerBehind cX6_writerBehind 6 (some .int), Cond.methodLink RX6 86 yX6_lay, Cond.instanceMethod yX6_lay, Cond.selects RX6 yX6_lay yX6_lay, Cond.code yX6_lay cX6_lay 4 none, Cond.methodLink RX6 90 yX6_findTriple, Cond.instanceMethod yX6_findTriple, Cond.selects RX6 yX6_findTriple yX6_findTriple, Cond.code yX6_findTriple cX6_findTriple 7 (some .boolean), Cond.methodLink RX6 67 yX6_isTriple, Cond.instanceMethod yX6_isTriple, Cond.selects RX6 yX6_isTriple yX6_isTriple, Cond.code yX6_isTriple cX6_isTriple 4 (some .boolean), Cond.methodLink RX6 64 yX6_isEdge, Cond.instanceMethod yX6_isEdge, Cond.selects RX6 yX6_isEdge yX6_isEdge, Cond.code yX6_isEdge cX6_isEdge 3 (some .boolean)]
def wsX6_triple_r3 : List Cond := [Cond.methodLink RX6 61 yX6_overlap, Cond.instanceMethod yX6_overlap, Cond.selects RX6 yX6_overlap yX6_overlap, Cond.code yX6_overlap cX6_overlap 4 (some .boolean), Cond.methodLink RX6 58 yX6_isCommittedAhead, Cond.instanceMethod yX6_isCommittedAhead, Cond.selects RX6 yX6_isCommittedAhead yX6_isCommittedAhead, Cond.code yX6_isCommittedAhead cX6_isCommittedAhead 3 (some .boolean), Cond.methodLink RX6 70 yX6_counts, Cond.instanceMethod yX6_counts, Cond.selects RX6 yX6_counts yX6_counts, Cond.code yX6_counts cX6_counts 7 (some .boolean)]
def wsX6_triple : List Cond := .code yX6_triple cX6_triple 3 (some .int) :: ((wsX6_triple_r1 ++ (wsX6_triple_r2 ++ wsX6_triple_r3)) ++ wsX60)
def wsX6_doomed_r1 : List Cond := [Cond.fieldLink RX6 7 "SkewEdgesModel" "z" "[I", Cond.methodLink RX6 36 yX6_in, Cond.static yX6_in, Cond.initialized RX6, Cond.code yX6_in cX6_in 3 (some .boolean), Cond.methodLink RX6 51 yX6_isIn, Cond.instanceMethod yX6_isIn, Cond.selects RX6 yX6_isIn yX6_isIn, Cond.code yX6_isIn cX6_isIn 3 (some .boolean), Cond.methodLink RX6 40 yX6_its, Cond.instanceMethod yX6_its, Cond.selects RX6 yX6_its yX6_its, Cond.code yX6_its cX6_its 3 (some .int), Cond.methodLink RX6 127 yX6_reasonFor, Cond.instanceMethod yX6_reasonFor, Cond.selects RX6 yX6_reasonFor yX6_reasonFor, Cond.code yX6_reasonFor cX6_reasonFor 4 (some .int), Cond.methodLink RX6 55 yX6_wrote, Cond.instanceMethod yX6_wrote, Cond.selects RX6 yX6_wrote yX6_wrote, Cond.code yX6_wrote cX6_wrote 3 (some .boolean), Cond.methodLink RX6 83 yX6_writerBehind, Cond.instanceMethod yX6_writerBehind, Cond.selects RX6 yX6_writerBehind yX6_writerBehind]
def wsX6_doomed_r2 : List Cond := [Cond.code yX6_writerBehind cX6_writerBehind 6 (some .int), Cond.methodLink RX6 86 yX6_lay, Cond.instanceMethod yX6_lay, Cond.selects RX6 yX6_lay yX6_lay, Cond.code yX6_lay cX6_lay 4 none, Cond.methodLink RX6 90 yX6_findTriple, Cond.instanceMethod yX6_findTriple, Cond.selects RX6 yX6_findTriple yX6_findTriple, Cond.code yX6_findTriple cX6_findTriple 7 (some .boolean), Cond.fieldLink RX6 74 "SkewEdgesModel" "tripleA" "I", Cond.fieldLink RX6 77 "SkewEdgesModel" "tripleP" "I", Cond.fieldLink RX6 80 "SkewEdgesModel" "tripleC" "I", Cond.methodLink RX6 67 yX6_isTriple, Cond.instanceMethod yX6_isTriple, Cond.selects RX6 yX6_isTriple yX6_isTriple, Cond.code yX6_isTriple cX6_isTriple 4 (some .boolean), Cond.methodLink RX6 64 yX6_isEdge, Cond.instanceMethod yX6_isEdge, Cond.selects RX6 yX6_isEdge yX6_isEdge, Cond.code yX6_isEdge cX6_isEdge 3 (some .boolean), Cond.methodLink RX6 61 yX6_overlap, Cond.instanceMethod yX6_overlap, Cond.selects RX6 yX6_overlap yX6_overlap, Cond.code yX6_overlap cX6_overlap 4 (some .boolean)]
def wsX6_doomed_r3 : List Cond := [Cond.methodLink RX6 58 yX6_isCommittedAhead, Cond.instanceMethod yX6_isCommittedAhead, Cond.selects RX6 yX6_isCommittedAhead yX6_isCommittedAhead, Cond.code yX6_isCommittedAhead cX6_isCommittedAhead 3 (some .boolean), Cond.methodLink RX6 70 yX6_counts, Cond.instanceMethod yX6_counts, Cond.selects RX6 yX6_counts yX6_counts, Cond.code yX6_counts cX6_counts 7 (some .boolean)]
def wsX6_doomed : List Cond := .code yX6_doomed cX6_doomed 5 (some .int) :: ((wsX6_doomed_r1 ++ (wsX6_doomed_r2 ++ wsX6_doomed_r3)) ++ wsX60)
def wsX6_put : List Cond := .code yX6_put cX6_put 8 (some .int) :: ([.constantLong RX6 180 (255), .fieldLink RX6 168 "SkewEdgesModel" "typed" "I", .fieldLink RX6 23 "SkewEdgesModel" "pad" "[C", .methodLink RX6 36 yX6_in, .static yX6_in, .initialized RX6, .code yX6_in cX6_in 3 (some .boolean)] ++ wsX60)
def wsX6_wipe : List Cond := .code yX6_wipe cX6_wipe 2 (some .int) :: ([.fieldLink RX6 168 "SkewEdgesModel" "typed" "I"] ++ wsX60)
def wsX6_letter : List Cond := .code yX6_letter cX6_letter 1 (some .int) :: ([.fieldLink RX6 182 "SkewEdgesModel" "spot" "I", .fieldLink RX6 168 "SkewEdgesModel" "typed" "I", .fieldLink RX6 23 "SkewEdgesModel" "pad" "[C"] ++ wsX60)
def wsX6_wants : List Cond := .code yX6_wants cX6_wants 2 none :: ([.fieldLink RX6 185 "SkewEdgesModel" "wrong" "I", .fieldLink RX6 182 "SkewEdgesModel" "spot" "I"] ++ wsX60)
def wsX6_number : List Cond := .code yX6_number cX6_number 3 (some .int) :: ([.fieldLink RX6 185 "SkewEdgesModel" "wrong" "I", .fieldLink RX6 182 "SkewEdgesModel" "spot" "I", .methodLink RX6 188 yX6_letter, .instanceMethod yX6_letter, .selects RX6 yX6_letter yX6_letter, .initialized RX6, .code yX6_letter cX6_letter 1 (some .int), .fieldLink RX6 168 "SkewEdgesModel" "typed" "I", .fieldLink RX6 23 "SkewEdgesModel" "pad" "[C", .methodLink RX6 36 yX6_in, .static yX6_in, .code yX6_in cX6_in 3 (some .boolean), .methodLink RX6 191 yX6_wants, .instanceMethod yX6_wants, .selects RX6 yX6_wants yX6_wants, .code yX6_wants cX6_wants 2 none] ++ wsX60)
def wsX6_readOrder : List Cond := .code yX6_readOrder cX6_readOrder 6 none :: ([.fieldLink RX6 195 "SkewEdgesModel" "orderMany" "I", .fieldLink RX6 33 "SkewEdgesModel" "orders" "[I", .methodLink RX6 188 yX6_letter, .instanceMethod yX6_letter, .selects RX6 yX6_letter yX6_letter, .initialized RX6, .code yX6_letter cX6_letter 1 (some .int), .fieldLink RX6 182 "SkewEdgesModel" "spot" "I", .fieldLink RX6 168 "SkewEdgesModel" "typed" "I", .fieldLink RX6 23 "SkewEdgesModel" "pad" "[C", .methodLink RX6 191 yX6_wants, .instanceMethod yX6_wants, .selects RX6 yX6_wants yX6_wants, .code yX6_wants cX6_wants 2 none, .fieldLink RX6 185 "SkewEdgesModel" "wrong" "I", .methodLink RX6 198 yX6_number, .instanceMethod yX6_number, .selects RX6 yX6_number yX6_number, .code yX6_number cX6_number 3 (some .int), .methodLink RX6 36 yX6_in, .static yX6_in, .code yX6_in cX6_in 3 (some .boolean)] ++ wsX60)
def wsX6_readPad_r1 : List Cond := [Cond.fieldLink RX6 195 "SkewEdgesModel" "orderMany" "I", Cond.fieldLink RX6 182 "SkewEdgesModel" "spot" "I", Cond.fieldLink RX6 185 "SkewEdgesModel" "wrong" "I", Cond.fieldLink RX6 168 "SkewEdgesModel" "typed" "I", Cond.methodLink RX6 201 yX6_readOrder, Cond.instanceMethod yX6_readOrder, Cond.selects RX6 yX6_readOrder yX6_readOrder, Cond.initialized RX6, Cond.code yX6_readOrder cX6_readOrder 6 none, Cond.fieldLink RX6 33 "SkewEdgesModel" "orders" "[I", Cond.methodLink RX6 188 yX6_letter, Cond.instanceMethod yX6_letter, Cond.selects RX6 yX6_letter yX6_letter, Cond.code yX6_letter cX6_letter 1 (some .int), Cond.fieldLink RX6 23 "SkewEdgesModel" "pad" "[C", Cond.methodLink RX6 191 yX6_wants, Cond.instanceMethod yX6_wants, Cond.selects RX6 yX6_wants yX6_wants, Cond.code yX6_wants cX6_wants 2 none, Cond.methodLink RX6 198 yX6_number, Cond.instanceMethod yX6_number, Cond.selects RX6 yX6_number yX6_number, Cond.code yX6_number cX6_number 3 (some .int), Cond.methodLink RX6 36 yX6_in]
def wsX6_readPad_r2 : List Cond := [Cond.static yX6_in, Cond.code yX6_in cX6_in 3 (some .boolean)]
def wsX6_readPad : List Cond := .code yX6_readPad cX6_readPad 2 (some .int) :: ((wsX6_readPad_r1 ++ wsX6_readPad_r2) ++ wsX60)
def wsX6_fault_r1 : List Cond := [Cond.methodLink RX6 204 yX6_readPad, Cond.instanceMethod yX6_readPad, Cond.selects RX6 yX6_readPad yX6_readPad, Cond.initialized RX6, Cond.code yX6_readPad cX6_readPad 2 (some .int), Cond.fieldLink RX6 195 "SkewEdgesModel" "orderMany" "I", Cond.fieldLink RX6 182 "SkewEdgesModel" "spot" "I", Cond.fieldLink RX6 185 "SkewEdgesModel" "wrong" "I", Cond.fieldLink RX6 168 "SkewEdgesModel" "typed" "I", Cond.methodLink RX6 201 yX6_readOrder, Cond.instanceMethod yX6_readOrder, Cond.selects RX6 yX6_readOrder yX6_readOrder, Cond.code yX6_readOrder cX6_readOrder 6 none, Cond.fieldLink RX6 33 "SkewEdgesModel" "orders" "[I", Cond.methodLink RX6 188 yX6_letter, Cond.instanceMethod yX6_letter, Cond.selects RX6 yX6_letter yX6_letter, Cond.code yX6_letter cX6_letter 1 (some .int), Cond.fieldLink RX6 23 "SkewEdgesModel" "pad" "[C", Cond.methodLink RX6 191 yX6_wants, Cond.instanceMethod yX6_wants, Cond.selects RX6 yX6_wants yX6_wants, Cond.code yX6_wants cX6_wants 2 none, Cond.methodLink RX6 198 yX6_number]
def wsX6_fault_r2 : List Cond := [Cond.instanceMethod yX6_number, Cond.selects RX6 yX6_number yX6_number, Cond.code yX6_number cX6_number 3 (some .int), Cond.methodLink RX6 36 yX6_in, Cond.static yX6_in, Cond.code yX6_in cX6_in 3 (some .boolean)]
def wsX6_fault : List Cond := .code yX6_fault cX6_fault 1 (some .int) :: ((wsX6_fault_r1 ++ wsX6_fault_r2) ++ wsX60)
def wsX6_does_r1 : List Cond := [Cond.fieldLink RX6 33 "SkewEdgesModel" "orders" "[I", Cond.fieldLink RX6 7 "SkewEdgesModel" "z" "[I", Cond.methodLink RX6 97 yX6_beginOne, Cond.instanceMethod yX6_beginOne, Cond.selects RX6 yX6_beginOne yX6_beginOne, Cond.initialized RX6, Cond.code yX6_beginOne cX6_beginOne 4 (some .int), Cond.methodLink RX6 93 yX6_setOf, Cond.instanceMethod yX6_setOf, Cond.selects RX6 yX6_setOf yX6_setOf, Cond.code yX6_setOf cX6_setOf 4 (some .int), Cond.methodLink RX6 51 yX6_isIn, Cond.instanceMethod yX6_isIn, Cond.selects RX6 yX6_isIn yX6_isIn, Cond.code yX6_isIn cX6_isIn 3 (some .boolean), Cond.methodLink RX6 40 yX6_its, Cond.instanceMethod yX6_its, Cond.selects RX6 yX6_its yX6_its, Cond.code yX6_its cX6_its 3 (some .int), Cond.methodLink RX6 86 yX6_lay, Cond.instanceMethod yX6_lay, Cond.selects RX6 yX6_lay yX6_lay, Cond.code yX6_lay cX6_lay 4 none, Cond.methodLink RX6 114 yX6_whyNotRead]
def wsX6_does_r2 : List Cond := [Cond.instanceMethod yX6_whyNotRead, Cond.selects RX6 yX6_whyNotRead yX6_whyNotRead, Cond.code yX6_whyNotRead cX6_whyNotRead 3 (some .int), Cond.methodLink RX6 101 yX6_isTransaction, Cond.instanceMethod yX6_isTransaction, Cond.selects RX6 yX6_isTransaction yX6_isTransaction, Cond.code yX6_isTransaction cX6_isTransaction 2 (some .boolean), Cond.methodLink RX6 105 yX6_isKey, Cond.static yX6_isKey, Cond.code yX6_isKey cX6_isKey 1 (some .boolean), Cond.methodLink RX6 36 yX6_in, Cond.static yX6_in, Cond.code yX6_in cX6_in 3 (some .boolean), Cond.methodLink RX6 117 yX6_readOne, Cond.instanceMethod yX6_readOne, Cond.selects RX6 yX6_readOne yX6_readOne, Cond.code yX6_readOne cX6_readOne 4 (some .int), Cond.methodLink RX6 111 yX6_writerSeen, Cond.instanceMethod yX6_writerSeen, Cond.selects RX6 yX6_writerSeen yX6_writerSeen, Cond.code yX6_writerSeen cX6_writerSeen 3 (some .int), Cond.methodLink RX6 55 yX6_wrote, Cond.instanceMethod yX6_wrote, Cond.selects RX6 yX6_wrote yX6_wrote]
def wsX6_does_r3 : List Cond := [Cond.code yX6_wrote cX6_wrote 3 (some .boolean), Cond.methodLink RX6 108 yX6_writerAhead, Cond.instanceMethod yX6_writerAhead, Cond.selects RX6 yX6_writerAhead yX6_writerAhead, Cond.code yX6_writerAhead cX6_writerAhead 6 (some .int), Cond.methodLink RX6 120 yX6_whyNotWrite, Cond.instanceMethod yX6_whyNotWrite, Cond.selects RX6 yX6_whyNotWrite yX6_whyNotWrite, Cond.code yX6_whyNotWrite cX6_whyNotWrite 4 (some .int), Cond.methodLink RX6 124 yX6_writeOne, Cond.instanceMethod yX6_writeOne, Cond.selects RX6 yX6_writeOne yX6_writeOne, Cond.code yX6_writeOne cX6_writeOne 4 (some .int), Cond.methodLink RX6 134 yX6_whyNotEnd, Cond.instanceMethod yX6_whyNotEnd, Cond.selects RX6 yX6_whyNotEnd yX6_whyNotEnd, Cond.code yX6_whyNotEnd cX6_whyNotEnd 2 (some .int), Cond.methodLink RX6 137 yX6_commitOne, Cond.instanceMethod yX6_commitOne, Cond.selects RX6 yX6_commitOne yX6_commitOne, Cond.code yX6_commitOne cX6_commitOne 3 (some .int), Cond.methodLink RX6 127 yX6_reasonFor, Cond.instanceMethod yX6_reasonFor, Cond.selects RX6 yX6_reasonFor yX6_reasonFor]
def wsX6_does_r4 : List Cond := [Cond.code yX6_reasonFor cX6_reasonFor 4 (some .int), Cond.methodLink RX6 83 yX6_writerBehind, Cond.instanceMethod yX6_writerBehind, Cond.selects RX6 yX6_writerBehind yX6_writerBehind, Cond.code yX6_writerBehind cX6_writerBehind 6 (some .int), Cond.methodLink RX6 90 yX6_findTriple, Cond.instanceMethod yX6_findTriple, Cond.selects RX6 yX6_findTriple yX6_findTriple, Cond.code yX6_findTriple cX6_findTriple 7 (some .boolean), Cond.fieldLink RX6 74 "SkewEdgesModel" "tripleA" "I", Cond.fieldLink RX6 77 "SkewEdgesModel" "tripleP" "I", Cond.fieldLink RX6 80 "SkewEdgesModel" "tripleC" "I", Cond.methodLink RX6 67 yX6_isTriple, Cond.instanceMethod yX6_isTriple, Cond.selects RX6 yX6_isTriple yX6_isTriple, Cond.code yX6_isTriple cX6_isTriple 4 (some .boolean), Cond.methodLink RX6 64 yX6_isEdge, Cond.instanceMethod yX6_isEdge, Cond.selects RX6 yX6_isEdge yX6_isEdge, Cond.code yX6_isEdge cX6_isEdge 3 (some .boolean), Cond.methodLink RX6 61 yX6_overlap, Cond.instanceMethod yX6_overlap, Cond.selects RX6 yX6_overlap yX6_overlap, Cond.code yX6_overlap cX6_overlap 4 (some .boolean)]
def wsX6_does_r5 : List Cond := [Cond.methodLink RX6 58 yX6_isCommittedAhead, Cond.instanceMethod yX6_isCommittedAhead, Cond.selects RX6 yX6_isCommittedAhead yX6_isCommittedAhead, Cond.code yX6_isCommittedAhead cX6_isCommittedAhead 3 (some .boolean), Cond.methodLink RX6 70 yX6_counts, Cond.instanceMethod yX6_counts, Cond.selects RX6 yX6_counts yX6_counts, Cond.code yX6_counts cX6_counts 7 (some .boolean), Cond.methodLink RX6 130 yX6_abortOne, Cond.instanceMethod yX6_abortOne, Cond.selects RX6 yX6_abortOne yX6_abortOne, Cond.code yX6_abortOne cX6_abortOne 3 none]
def wsX6_does : List Cond := .code yX6_does cX6_does 6 (some .int) :: ((wsX6_does_r1 ++ (wsX6_does_r2 ++ (wsX6_does_r3 ++ (wsX6_does_r4 ++ wsX6_does_r5)))) ++ wsX60)
def wsX6_carryOut_r1 : List Cond := [Cond.fieldLink RX6 195 "SkewEdgesModel" "orderMany" "I", Cond.fieldLink RX6 168 "SkewEdgesModel" "typed" "I", Cond.methodLink RX6 204 yX6_readPad, Cond.instanceMethod yX6_readPad, Cond.selects RX6 yX6_readPad yX6_readPad, Cond.initialized RX6, Cond.code yX6_readPad cX6_readPad 2 (some .int), Cond.fieldLink RX6 182 "SkewEdgesModel" "spot" "I", Cond.fieldLink RX6 185 "SkewEdgesModel" "wrong" "I", Cond.methodLink RX6 201 yX6_readOrder, Cond.instanceMethod yX6_readOrder, Cond.selects RX6 yX6_readOrder yX6_readOrder, Cond.code yX6_readOrder cX6_readOrder 6 none, Cond.fieldLink RX6 33 "SkewEdgesModel" "orders" "[I", Cond.methodLink RX6 188 yX6_letter, Cond.instanceMethod yX6_letter, Cond.selects RX6 yX6_letter yX6_letter, Cond.code yX6_letter cX6_letter 1 (some .int), Cond.fieldLink RX6 23 "SkewEdgesModel" "pad" "[C", Cond.methodLink RX6 191 yX6_wants, Cond.instanceMethod yX6_wants, Cond.selects RX6 yX6_wants yX6_wants, Cond.code yX6_wants cX6_wants 2 none, Cond.methodLink RX6 198 yX6_number]
def wsX6_carryOut_r2 : List Cond := [Cond.instanceMethod yX6_number, Cond.selects RX6 yX6_number yX6_number, Cond.code yX6_number cX6_number 3 (some .int), Cond.methodLink RX6 36 yX6_in, Cond.static yX6_in, Cond.code yX6_in cX6_in 3 (some .boolean), Cond.methodLink RX6 48 yX6_record, Cond.instanceMethod yX6_record, Cond.selects RX6 yX6_record yX6_record, Cond.code yX6_record cX6_record 2 none, Cond.fieldLink RX6 44 "SkewEdgesModel" "pastMany" "I", Cond.fieldLink RX6 13 "SkewEdgesModel" "past" "[I", Cond.fieldLink RX6 7 "SkewEdgesModel" "z" "[I", Cond.methodLink RX6 207 yX6_does, Cond.instanceMethod yX6_does, Cond.selects RX6 yX6_does yX6_does, Cond.code yX6_does cX6_does 6 (some .int), Cond.methodLink RX6 97 yX6_beginOne, Cond.instanceMethod yX6_beginOne, Cond.selects RX6 yX6_beginOne yX6_beginOne, Cond.code yX6_beginOne cX6_beginOne 4 (some .int), Cond.methodLink RX6 93 yX6_setOf, Cond.instanceMethod yX6_setOf, Cond.selects RX6 yX6_setOf yX6_setOf]
def wsX6_carryOut_r3 : List Cond := [Cond.code yX6_setOf cX6_setOf 4 (some .int), Cond.methodLink RX6 51 yX6_isIn, Cond.instanceMethod yX6_isIn, Cond.selects RX6 yX6_isIn yX6_isIn, Cond.code yX6_isIn cX6_isIn 3 (some .boolean), Cond.methodLink RX6 40 yX6_its, Cond.instanceMethod yX6_its, Cond.selects RX6 yX6_its yX6_its, Cond.code yX6_its cX6_its 3 (some .int), Cond.methodLink RX6 86 yX6_lay, Cond.instanceMethod yX6_lay, Cond.selects RX6 yX6_lay yX6_lay, Cond.code yX6_lay cX6_lay 4 none, Cond.methodLink RX6 114 yX6_whyNotRead, Cond.instanceMethod yX6_whyNotRead, Cond.selects RX6 yX6_whyNotRead yX6_whyNotRead, Cond.code yX6_whyNotRead cX6_whyNotRead 3 (some .int), Cond.methodLink RX6 101 yX6_isTransaction, Cond.instanceMethod yX6_isTransaction, Cond.selects RX6 yX6_isTransaction yX6_isTransaction, Cond.code yX6_isTransaction cX6_isTransaction 2 (some .boolean), Cond.methodLink RX6 105 yX6_isKey, Cond.static yX6_isKey, Cond.code yX6_isKey cX6_isKey 1 (some .boolean)]
def wsX6_carryOut_r4 : List Cond := [Cond.methodLink RX6 117 yX6_readOne, Cond.instanceMethod yX6_readOne, Cond.selects RX6 yX6_readOne yX6_readOne, Cond.code yX6_readOne cX6_readOne 4 (some .int), Cond.methodLink RX6 111 yX6_writerSeen, Cond.instanceMethod yX6_writerSeen, Cond.selects RX6 yX6_writerSeen yX6_writerSeen, Cond.code yX6_writerSeen cX6_writerSeen 3 (some .int), Cond.methodLink RX6 55 yX6_wrote, Cond.instanceMethod yX6_wrote, Cond.selects RX6 yX6_wrote yX6_wrote, Cond.code yX6_wrote cX6_wrote 3 (some .boolean), Cond.methodLink RX6 108 yX6_writerAhead, Cond.instanceMethod yX6_writerAhead, Cond.selects RX6 yX6_writerAhead yX6_writerAhead, Cond.code yX6_writerAhead cX6_writerAhead 6 (some .int), Cond.methodLink RX6 120 yX6_whyNotWrite, Cond.instanceMethod yX6_whyNotWrite, Cond.selects RX6 yX6_whyNotWrite yX6_whyNotWrite, Cond.code yX6_whyNotWrite cX6_whyNotWrite 4 (some .int), Cond.methodLink RX6 124 yX6_writeOne, Cond.instanceMethod yX6_writeOne, Cond.selects RX6 yX6_writeOne yX6_writeOne, Cond.code yX6_writeOne cX6_writeOne 4 (some .int)]
def wsX6_carryOut_r5 : List Cond := [Cond.methodLink RX6 134 yX6_whyNotEnd, Cond.instanceMethod yX6_whyNotEnd, Cond.selects RX6 yX6_whyNotEnd yX6_whyNotEnd, Cond.code yX6_whyNotEnd cX6_whyNotEnd 2 (some .int), Cond.methodLink RX6 137 yX6_commitOne, Cond.instanceMethod yX6_commitOne, Cond.selects RX6 yX6_commitOne yX6_commitOne, Cond.code yX6_commitOne cX6_commitOne 3 (some .int), Cond.methodLink RX6 127 yX6_reasonFor, Cond.instanceMethod yX6_reasonFor, Cond.selects RX6 yX6_reasonFor yX6_reasonFor, Cond.code yX6_reasonFor cX6_reasonFor 4 (some .int), Cond.methodLink RX6 83 yX6_writerBehind, Cond.instanceMethod yX6_writerBehind, Cond.selects RX6 yX6_writerBehind yX6_writerBehind, Cond.code yX6_writerBehind cX6_writerBehind 6 (some .int), Cond.methodLink RX6 90 yX6_findTriple, Cond.instanceMethod yX6_findTriple, Cond.selects RX6 yX6_findTriple yX6_findTriple, Cond.code yX6_findTriple cX6_findTriple 7 (some .boolean), Cond.fieldLink RX6 74 "SkewEdgesModel" "tripleA" "I", Cond.fieldLink RX6 77 "SkewEdgesModel" "tripleP" "I", Cond.fieldLink RX6 80 "SkewEdgesModel" "tripleC" "I", Cond.methodLink RX6 67 yX6_isTriple]
def wsX6_carryOut_r6 : List Cond := [Cond.instanceMethod yX6_isTriple, Cond.selects RX6 yX6_isTriple yX6_isTriple, Cond.code yX6_isTriple cX6_isTriple 4 (some .boolean), Cond.methodLink RX6 64 yX6_isEdge, Cond.instanceMethod yX6_isEdge, Cond.selects RX6 yX6_isEdge yX6_isEdge, Cond.code yX6_isEdge cX6_isEdge 3 (some .boolean), Cond.methodLink RX6 61 yX6_overlap, Cond.instanceMethod yX6_overlap, Cond.selects RX6 yX6_overlap yX6_overlap, Cond.code yX6_overlap cX6_overlap 4 (some .boolean), Cond.methodLink RX6 58 yX6_isCommittedAhead, Cond.instanceMethod yX6_isCommittedAhead, Cond.selects RX6 yX6_isCommittedAhead yX6_isCommittedAhead, Cond.code yX6_isCommittedAhead cX6_isCommittedAhead 3 (some .boolean), Cond.methodLink RX6 70 yX6_counts, Cond.instanceMethod yX6_counts, Cond.selects RX6 yX6_counts yX6_counts, Cond.code yX6_counts cX6_counts 7 (some .boolean), Cond.methodLink RX6 130 yX6_abortOne, Cond.instanceMethod yX6_abortOne, Cond.selects RX6 yX6_abortOne yX6_abortOne, Cond.code yX6_abortOne cX6_abortOne 3 none]
def wsX6_carryOut : List Cond := .code yX6_carryOut cX6_carryOut 2 (some .int) :: ((wsX6_carryOut_r1 ++ (wsX6_carryOut_r2 ++ (wsX6_carryOut_r3 ++ (wsX6_carryOut_r4 ++ (wsX6_carryOut_r5 ++ wsX6_carryOut_r6))))) ++ wsX60)
def wsJ9_min_7cf53 : List Cond := .code yJ9_min_7cf53 cJ9_min_7cf53 2 (some .int) :: ([])
def wsL_law_r1 : List Cond := [Cond.classLink RL 7 RX5, Cond.instantiable RX5 6, Cond.initialized RX5, Cond.classLink RL 10 RX6, Cond.instantiable RX6 16, Cond.initialized RX6, Cond.constantLong RL 81 (4294967295), Cond.methodLink RL 9 yX5_init, Cond.instanceMethod yX5_init, Cond.code yX5_init cX5_init 2 none, Cond.methodLink RX5 1 objectInit, Cond.instanceMethod objectInit, Cond.code objectInit ⟨#[0xb1]⟩ 1 none, Cond.classLink RX5 7 RX2, Cond.instantiable RX2 10, Cond.initialized RX2, Cond.fieldLink RX5 10 "SkewEdges" "ledger" "LSkewEdges$Ledger;", Cond.classLink RX5 16 RX1, Cond.instantiable RX1 3, Cond.initialized RX1, Cond.fieldLink RX5 19 "SkewEdges" "history" "LSkewEdges$History;", Cond.fieldLink RX5 23 "SkewEdges" "slots" "[LSkewEdges$Ledger;", Cond.arrayClass .boolean, Cond.fieldLink RX5 27 "SkewEdges" "saved" "[Z"]
def wsL_law_r2 : List Cond := [Cond.classLink RX5 31 RX3, Cond.instantiable RX3 8, Cond.initialized RX3, Cond.fieldLink RX5 34 "SkewEdges" "pad" "LSkewEdges$Pad;", Cond.classLink RX5 38 RX4, Cond.instantiable RX4 2, Cond.initialized RX4, Cond.fieldLink RX5 41 "SkewEdges" "sequence" "LSkewEdges$Sequence;", Cond.methodLink RX5 9 yX2_init, Cond.instanceMethod yX2_init, Cond.code yX2_init cX2_init 1 none, Cond.methodLink RX2 3 objectInit, Cond.fieldLink RX2 9 "SkewEdges$Ledger" "rule" "I", Cond.fieldLink RX2 15 "SkewEdges$Ledger" "moment" "I", Cond.fieldLink RX2 18 "SkewEdges$Ledger" "total" "I", Cond.arrayClass .int, Cond.fieldLink RX2 21 "SkewEdges$Ledger" "phase" "[I", Cond.fieldLink RX2 25 "SkewEdges$Ledger" "beganAt" "[I", Cond.fieldLink RX2 28 "SkewEdges$Ledger" "committedAt" "[I", Cond.fieldLink RX2 31 "SkewEdges$Ledger" "readKeys" "[I", Cond.fieldLink RX2 34 "SkewEdges$Ledger" "writtenKeys" "[I", Cond.fieldLink RX2 37 "SkewEdges$Ledger" "reason" "[I", Cond.fieldLink RX2 40 "SkewEdges$Ledger" "values" "[I", Cond.methodLink RX5 18 yX1_init]
def wsL_law_r3 : List Cond := [Cond.instanceMethod yX1_init, Cond.code yX1_init cX1_init 2 none, Cond.methodLink RX1 3 objectInit, Cond.fieldLink RX1 9 "SkewEdges$History" "kept" "I", Cond.fieldLink RX1 15 "SkewEdges$History" "next" "I", Cond.classLink RX1 18 RX2, Cond.fieldLink RX1 20 "SkewEdges$History" "rows" "[LSkewEdges$Ledger;", Cond.methodLink RX1 24 yX2_init, Cond.methodLink RX5 33 yX3_init, Cond.instanceMethod yX3_init, Cond.code yX3_init cX3_init 1 none, Cond.methodLink RX3 3 objectInit, Cond.arrayClass .char, Cond.fieldLink RX3 9 "SkewEdges$Pad" "signs" "[C", Cond.methodLink RX5 40 yX4_init, Cond.instanceMethod yX4_init, Cond.code yX4_init cX4_init 1 none, Cond.methodLink RX4 3 objectInit, Cond.fieldLink RX4 9 "SkewEdges$Sequence" "ahead" "[I", Cond.fieldLink RX4 15 "SkewEdges$Sequence" "places" "[I", Cond.methodLink RL 12 yX6_init, Cond.instanceMethod yX6_init, Cond.code yX6_init cX6_init 1 none, Cond.methodLink RX6 1 objectInit]
def wsL_law_r4 : List Cond := [Cond.fieldLink RX6 7 "SkewEdgesModel" "z" "[I", Cond.fieldLink RX6 13 "SkewEdgesModel" "past" "[I", Cond.fieldLink RX6 16 "SkewEdgesModel" "slots" "[I", Cond.fieldLink RX6 19 "SkewEdgesModel" "isSaved" "[Z", Cond.fieldLink RX6 23 "SkewEdgesModel" "pad" "[C", Cond.fieldLink RX6 27 "SkewEdgesModel" "ahead" "[I", Cond.fieldLink RX6 30 "SkewEdgesModel" "order" "[I", Cond.fieldLink RX6 33 "SkewEdgesModel" "orders" "[I", Cond.methodLink RL 13 yX5_rule, Cond.instanceMethod yX5_rule, Cond.selects RX5 yX5_rule yX5_rule, Cond.code yX5_rule cX5_rule 2 (some .int), Cond.methodLink RX5 45 yX1_prepare, Cond.instanceMethod yX1_prepare, Cond.selects RX1 yX1_prepare yX1_prepare, Cond.code yX1_prepare cX1_prepare 2 none, Cond.methodLink RX1 25 yX2_copyFrom, Cond.instanceMethod yX2_copyFrom, Cond.selects RX2 yX2_copyFrom yX2_copyFrom, Cond.code yX2_copyFrom cX2_copyFrom 2 none, Cond.methodLink RX2 43 arraycopyName, Cond.native arraycopyName, Cond.static arraycopyName, Cond.initialized "java/lang/System"]
def wsL_law_r5 : List Cond := [Cond.methodLink RX5 49 yX2_changeRule, Cond.instanceMethod yX2_changeRule, Cond.selects RX2 yX2_changeRule yX2_changeRule, Cond.code yX2_changeRule cX2_changeRule 3 (some .int), Cond.static yX5_isRule, Cond.code yX5_isRule cX5_isRule 1 (some .boolean), Cond.methodLink RX5 53 yX1_keepUnlessError, Cond.instanceMethod yX1_keepUnlessError, Cond.selects RX1 yX1_keepUnlessError yX1_keepUnlessError, Cond.code yX1_keepUnlessError cX1_keepUnlessError 2 (some .int), Cond.methodLink RX1 29 Lib.Math.min.name, Cond.static Lib.Math.min.name, Cond.initialized "java/lang/Math", Cond.code Lib.Math.min.name Lib.Math.min.code 2 (some .int), Cond.methodLink RL 17 yX6_rule, Cond.instanceMethod yX6_rule, Cond.selects RX6 yX6_rule yX6_rule, Cond.code yX6_rule cX6_rule 3 (some .int), Cond.methodLink RX6 36 yX6_in, Cond.static yX6_in, Cond.code yX6_in cX6_in 3 (some .boolean), Cond.methodLink RX6 48 yX6_record, Cond.instanceMethod yX6_record, Cond.selects RX6 yX6_record yX6_record]
def wsL_law_r6 : List Cond := [Cond.code yX6_record cX6_record 2 none, Cond.fieldLink RX6 44 "SkewEdgesModel" "pastMany" "I", Cond.methodLink RL 18 yX5_begin, Cond.instanceMethod yX5_begin, Cond.selects RX5 yX5_begin yX5_begin, Cond.code yX5_begin cX5_begin 1 (some .int), Cond.methodLink RX5 56 yX2_start, Cond.instanceMethod yX2_start, Cond.selects RX2 yX2_start yX2_start, Cond.code yX2_start cX2_start 2 (some .int), Cond.methodLink RL 22 yX6_begin, Cond.instanceMethod yX6_begin, Cond.selects RX6 yX6_begin yX6_begin, Cond.code yX6_begin cX6_begin 1 (some .int), Cond.methodLink RX6 97 yX6_beginOne, Cond.instanceMethod yX6_beginOne, Cond.selects RX6 yX6_beginOne yX6_beginOne, Cond.code yX6_beginOne cX6_beginOne 4 (some .int), Cond.methodLink RX6 93 yX6_setOf, Cond.instanceMethod yX6_setOf, Cond.selects RX6 yX6_setOf yX6_setOf, Cond.code yX6_setOf cX6_setOf 4 (some .int), Cond.methodLink RX6 51 yX6_isIn, Cond.instanceMethod yX6_isIn]
def wsL_law_r7 : List Cond := [Cond.selects RX6 yX6_isIn yX6_isIn, Cond.code yX6_isIn cX6_isIn 3 (some .boolean), Cond.methodLink RX6 40 yX6_its, Cond.instanceMethod yX6_its, Cond.selects RX6 yX6_its yX6_its, Cond.code yX6_its cX6_its 3 (some .int), Cond.methodLink RX6 86 yX6_lay, Cond.instanceMethod yX6_lay, Cond.selects RX6 yX6_lay yX6_lay, Cond.code yX6_lay cX6_lay 4 none, Cond.methodLink RL 23 yX5_read, Cond.instanceMethod yX5_read, Cond.selects RX5 yX5_read yX5_read, Cond.code yX5_read cX5_read 3 (some .int), Cond.methodLink RX5 60 yX2_look, Cond.instanceMethod yX2_look, Cond.selects RX2 yX2_look yX2_look, Cond.code yX2_look cX2_look 3 (some .int), Cond.methodLink RX2 53 yX2_exists, Cond.instanceMethod yX2_exists, Cond.selects RX2 yX2_exists yX2_exists, Cond.code yX2_exists cX2_exists 2 (some .boolean), Cond.static yX5_isKey, Cond.code yX5_isKey cX5_isKey 1 (some .boolean)]
def wsL_law_r8 : List Cond := [Cond.static yX5_contains, Cond.code yX5_contains cX5_contains 2 (some .boolean), Cond.methodLink RX2 63 yX2_seenWriter, Cond.instanceMethod yX2_seenWriter, Cond.selects RX2 yX2_seenWriter yX2_seenWriter, Cond.code yX2_seenWriter cX2_seenWriter 3 (some .int), Cond.methodLink RX2 85 yX2_writerAhead, Cond.instanceMethod yX2_writerAhead, Cond.selects RX2 yX2_writerAhead yX2_writerAhead, Cond.code yX2_writerAhead cX2_writerAhead 6 (some .int), Cond.methodLink RX2 67 yX2_valueOfVersion, Cond.instanceMethod yX2_valueOfVersion, Cond.selects RX2 yX2_valueOfVersion yX2_valueOfVersion, Cond.code yX2_valueOfVersion cX2_valueOfVersion 3 (some .int), Cond.methodLink RL 27 yX6_read, Cond.instanceMethod yX6_read, Cond.selects RX6 yX6_read yX6_read, Cond.code yX6_read cX6_read 4 (some .int), Cond.methodLink RX6 114 yX6_whyNotRead, Cond.instanceMethod yX6_whyNotRead, Cond.selects RX6 yX6_whyNotRead yX6_whyNotRead, Cond.code yX6_whyNotRead cX6_whyNotRead 3 (some .int), Cond.methodLink RX6 101 yX6_isTransaction, Cond.instanceMethod yX6_isTransaction]
def wsL_law_r9 : List Cond := [Cond.selects RX6 yX6_isTransaction yX6_isTransaction, Cond.code yX6_isTransaction cX6_isTransaction 2 (some .boolean), Cond.methodLink RX6 105 yX6_isKey, Cond.static yX6_isKey, Cond.code yX6_isKey cX6_isKey 1 (some .boolean), Cond.methodLink RX6 117 yX6_readOne, Cond.instanceMethod yX6_readOne, Cond.selects RX6 yX6_readOne yX6_readOne, Cond.code yX6_readOne cX6_readOne 4 (some .int), Cond.methodLink RX6 111 yX6_writerSeen, Cond.instanceMethod yX6_writerSeen, Cond.selects RX6 yX6_writerSeen yX6_writerSeen, Cond.code yX6_writerSeen cX6_writerSeen 3 (some .int), Cond.methodLink RX6 55 yX6_wrote, Cond.instanceMethod yX6_wrote, Cond.selects RX6 yX6_wrote yX6_wrote, Cond.code yX6_wrote cX6_wrote 3 (some .boolean), Cond.methodLink RX6 108 yX6_writerAhead, Cond.instanceMethod yX6_writerAhead, Cond.selects RX6 yX6_writerAhead yX6_writerAhead, Cond.code yX6_writerAhead cX6_writerAhead 6 (some .int), Cond.methodLink RL 28 yX5_write, Cond.instanceMethod yX5_write, Cond.selects RX5 yX5_write yX5_write]
def wsL_law_r10 : List Cond := [Cond.code yX5_write cX5_write 4 (some .int), Cond.methodLink RX5 64 yX2_enter, Cond.instanceMethod yX2_enter, Cond.selects RX2 yX2_enter yX2_enter, Cond.code yX2_enter cX2_enter 4 (some .int), Cond.methodLink RL 32 yX6_write, Cond.instanceMethod yX6_write, Cond.selects RX6 yX6_write yX6_write, Cond.code yX6_write cX6_write 5 (some .int), Cond.methodLink RX6 120 yX6_whyNotWrite, Cond.instanceMethod yX6_whyNotWrite, Cond.selects RX6 yX6_whyNotWrite yX6_whyNotWrite, Cond.code yX6_whyNotWrite cX6_whyNotWrite 4 (some .int), Cond.methodLink RX6 124 yX6_writeOne, Cond.instanceMethod yX6_writeOne, Cond.selects RX6 yX6_writeOne yX6_writeOne, Cond.code yX6_writeOne cX6_writeOne 4 (some .int), Cond.methodLink RL 33 yX5_commit, Cond.instanceMethod yX5_commit, Cond.selects RX5 yX5_commit yX5_commit, Cond.code yX5_commit cX5_commit 2 (some .int), Cond.methodLink RX5 68 yX2_finish, Cond.instanceMethod yX2_finish, Cond.selects RX2 yX2_finish yX2_finish]
def wsL_law_r11 : List Cond := [Cond.code yX2_finish cX2_finish 3 (some .int), Cond.methodLink RX2 70 yX0_refusal, Cond.static yX0_refusal, Cond.initialized RX0, Cond.code yX0_refusal cX0_refusal 3 (some .int), Cond.methodLink RX0 9 yX0_isLaterWriter, Cond.static yX0_isLaterWriter, Cond.code yX0_isLaterWriter cX0_isLaterWriter 4 (some .boolean), Cond.fieldLink RX0 19 "SkewEdges$Ledger" "writtenKeys" "[I", Cond.fieldLink RX0 25 "SkewEdges$Ledger" "total" "I", Cond.fieldLink RX0 29 "SkewEdges$Ledger" "phase" "[I", Cond.fieldLink RX0 32 "SkewEdges$Ledger" "committedAt" "[I", Cond.fieldLink RX0 35 "SkewEdges$Ledger" "beganAt" "[I", Cond.methodLink RX0 15 yX0_firstTriple, Cond.static yX0_firstTriple, Cond.code yX0_firstTriple cX0_firstTriple 8 (some .int), Cond.methodLink RX0 38 yX2_inPhase, Cond.instanceMethod yX2_inPhase, Cond.selects RX2 yX2_inPhase yX2_inPhase, Cond.code yX2_inPhase cX2_inPhase 4 (some .int), Cond.methodLink RX0 46 yX2_edgesTo, Cond.instanceMethod yX2_edgesTo, Cond.selects RX2 yX2_edgesTo yX2_edgesTo, Cond.code yX2_edgesTo cX2_edgesTo 4 (some .int)]
def wsL_law_r12 : List Cond := [Cond.methodLink RX2 88 yX2_edgeKeys, Cond.instanceMethod yX2_edgeKeys, Cond.selects RX2 yX2_edgeKeys yX2_edgeKeys, Cond.code yX2_edgeKeys cX2_edgeKeys 3 (some .int), Cond.methodLink RX0 49 yX2_edgesFrom, Cond.instanceMethod yX2_edgesFrom, Cond.selects RX2 yX2_edgesFrom yX2_edgesFrom, Cond.code yX2_edgesFrom cX2_edgesFrom 4 (some .int), Cond.methodLink RX0 52 yX0_firstOverPivot, Cond.static yX0_firstOverPivot, Cond.code yX0_firstOverPivot cX0_firstOverPivot 9 (some .int), Cond.methodLink RX0 56 yX0_counts, Cond.static yX0_counts, Cond.code yX0_counts cX0_counts 6 (some .boolean), Cond.methodLink RL 36 yX6_commit, Cond.instanceMethod yX6_commit, Cond.selects RX6 yX6_commit yX6_commit, Cond.code yX6_commit cX6_commit 3 (some .int), Cond.methodLink RX6 134 yX6_whyNotEnd, Cond.instanceMethod yX6_whyNotEnd, Cond.selects RX6 yX6_whyNotEnd yX6_whyNotEnd, Cond.code yX6_whyNotEnd cX6_whyNotEnd 2 (some .int), Cond.methodLink RX6 137 yX6_commitOne, Cond.instanceMethod yX6_commitOne]
def wsL_law_r13 : List Cond := [Cond.selects RX6 yX6_commitOne yX6_commitOne, Cond.code yX6_commitOne cX6_commitOne 3 (some .int), Cond.methodLink RX6 127 yX6_reasonFor, Cond.instanceMethod yX6_reasonFor, Cond.selects RX6 yX6_reasonFor yX6_reasonFor, Cond.code yX6_reasonFor cX6_reasonFor 4 (some .int), Cond.methodLink RX6 83 yX6_writerBehind, Cond.instanceMethod yX6_writerBehind, Cond.selects RX6 yX6_writerBehind yX6_writerBehind, Cond.code yX6_writerBehind cX6_writerBehind 6 (some .int), Cond.methodLink RX6 90 yX6_findTriple, Cond.instanceMethod yX6_findTriple, Cond.selects RX6 yX6_findTriple yX6_findTriple, Cond.code yX6_findTriple cX6_findTriple 7 (some .boolean), Cond.fieldLink RX6 74 "SkewEdgesModel" "tripleA" "I", Cond.fieldLink RX6 77 "SkewEdgesModel" "tripleP" "I", Cond.fieldLink RX6 80 "SkewEdgesModel" "tripleC" "I", Cond.methodLink RX6 67 yX6_isTriple, Cond.instanceMethod yX6_isTriple, Cond.selects RX6 yX6_isTriple yX6_isTriple, Cond.code yX6_isTriple cX6_isTriple 4 (some .boolean), Cond.methodLink RX6 64 yX6_isEdge, Cond.instanceMethod yX6_isEdge, Cond.selects RX6 yX6_isEdge yX6_isEdge]
def wsL_law_r14 : List Cond := [Cond.code yX6_isEdge cX6_isEdge 3 (some .boolean), Cond.methodLink RX6 61 yX6_overlap, Cond.instanceMethod yX6_overlap, Cond.selects RX6 yX6_overlap yX6_overlap, Cond.code yX6_overlap cX6_overlap 4 (some .boolean), Cond.methodLink RX6 58 yX6_isCommittedAhead, Cond.instanceMethod yX6_isCommittedAhead, Cond.selects RX6 yX6_isCommittedAhead yX6_isCommittedAhead, Cond.code yX6_isCommittedAhead cX6_isCommittedAhead 3 (some .boolean), Cond.methodLink RX6 70 yX6_counts, Cond.instanceMethod yX6_counts, Cond.selects RX6 yX6_counts yX6_counts, Cond.code yX6_counts cX6_counts 7 (some .boolean), Cond.methodLink RX6 130 yX6_abortOne, Cond.instanceMethod yX6_abortOne, Cond.selects RX6 yX6_abortOne yX6_abortOne, Cond.code yX6_abortOne cX6_abortOne 3 none, Cond.methodLink RL 37 yX5_abort, Cond.instanceMethod yX5_abort, Cond.selects RX5 yX5_abort yX5_abort, Cond.code yX5_abort cX5_abort 2 (some .int), Cond.methodLink RX5 71 yX2_giveUp, Cond.instanceMethod yX2_giveUp, Cond.selects RX2 yX2_giveUp yX2_giveUp]
def wsL_law_r15 : List Cond := [Cond.code yX2_giveUp cX2_giveUp 2 (some .int), Cond.methodLink RX2 76 yX2_inPhase, Cond.methodLink RX2 80 yJ6_bitCount_0f7a4, Cond.static yJ6_bitCount_0f7a4, Cond.initialized RJ6, Cond.code yJ6_bitCount_0f7a4 cJ6_bitCount_0f7a4 1 (some .int), Cond.constant RJ6 265 (1431655765), Cond.constant RJ6 266 (858993459), Cond.constant RJ6 267 (252645135), Cond.methodLink RL 40 yX6_abort, Cond.instanceMethod yX6_abort, Cond.selects RX6 yX6_abort yX6_abort, Cond.code yX6_abort cX6_abort 3 (some .int), Cond.methodLink RX6 140 yX6_bits, Cond.static yX6_bits, Cond.code yX6_bits cX6_bits 3 (some .int), Cond.methodLink RL 41 yX5_value, Cond.instanceMethod yX5_value, Cond.selects RX5 yX5_value yX5_value, Cond.code yX5_value cX5_value 2 (some .int), Cond.fieldLink RX5 78 "SkewEdges$Ledger" "moment" "I", Cond.methodLink RX5 74 yX5_isKey, Cond.methodLink RX5 82 yX2_writerAhead, Cond.methodLink RX5 85 yX2_valueOfVersion]
def wsL_law_r16 : List Cond := [Cond.methodLink RL 44 yX6_value, Cond.instanceMethod yX6_value, Cond.selects RX6 yX6_value yX6_value, Cond.code yX6_value cX6_value 3 (some .int), Cond.methodLink RL 45 yX5_of, Cond.instanceMethod yX5_of, Cond.selects RX5 yX5_of yX5_of, Cond.code yX5_of cX5_of 3 (some .int), Cond.fieldLink RX5 91 "SkewEdges$Ledger" "phase" "[I", Cond.fieldLink RX5 95 "SkewEdges$Ledger" "beganAt" "[I", Cond.fieldLink RX5 98 "SkewEdges$Ledger" "committedAt" "[I", Cond.fieldLink RX5 101 "SkewEdges$Ledger" "readKeys" "[I", Cond.fieldLink RX5 104 "SkewEdges$Ledger" "writtenKeys" "[I", Cond.fieldLink RX5 113 "SkewEdges$Ledger" "reason" "[I", Cond.methodLink RX5 88 yX2_exists, Cond.methodLink RX5 107 yX2_edgesFrom, Cond.methodLink RX5 110 yX2_edgesTo, Cond.methodLink RX5 116 yX2_snapshot, Cond.instanceMethod yX2_snapshot, Cond.selects RX2 yX2_snapshot yX2_snapshot, Cond.code yX2_snapshot cX2_snapshot 4 (some .int), Cond.methodLink RX2 97 yX2_spoils, Cond.instanceMethod yX2_spoils, Cond.selects RX2 yX2_spoils yX2_spoils]
def wsL_law_r17 : List Cond := [Cond.code yX2_spoils cX2_spoils 5 (some .boolean), Cond.methodLink RX2 91 yX2_edgesFrom, Cond.methodLink RL 48 yX6_of, Cond.instanceMethod yX6_of, Cond.selects RX6 yX6_of yX6_of, Cond.code yX6_of cX6_of 3 (some .int), Cond.methodLink RX6 146 yX6_edgesFrom, Cond.instanceMethod yX6_edgesFrom, Cond.selects RX6 yX6_edgesFrom yX6_edgesFrom, Cond.code yX6_edgesFrom cX6_edgesFrom 4 (some .int), Cond.methodLink RX6 149 yX6_edgesTo, Cond.instanceMethod yX6_edgesTo, Cond.selects RX6 yX6_edgesTo yX6_edgesTo, Cond.code yX6_edgesTo cX6_edgesTo 4 (some .int), Cond.methodLink RX6 152 yX6_safety, Cond.instanceMethod yX6_safety, Cond.selects RX6 yX6_safety yX6_safety, Cond.code yX6_safety cX6_safety 4 (some .int), Cond.methodLink RX6 143 yX6_endangers, Cond.instanceMethod yX6_endangers, Cond.selects RX6 yX6_endangers yX6_endangers, Cond.code yX6_endangers cX6_endangers 5 (some .boolean), Cond.methodLink RL 49 yX5_edge, Cond.instanceMethod yX5_edge]
def wsL_law_r18 : List Cond := [Cond.selects RX5 yX5_edge yX5_edge, Cond.code yX5_edge cX5_edge 3 (some .int), Cond.methodLink RX5 119 yX2_edgeKeys, Cond.methodLink RL 52 yX6_edge, Cond.instanceMethod yX6_edge, Cond.selects RX6 yX6_edge yX6_edge, Cond.code yX6_edge cX6_edge 3 (some .int), Cond.methodLink RL 53 yX5_over, Cond.instanceMethod yX5_over, Cond.selects RX5 yX5_over yX5_over, Cond.code yX5_over cX5_over 5 (some .int), Cond.methodLink RX5 122 yX5_contains, Cond.methodLink RL 56 yX6_over, Cond.instanceMethod yX6_over, Cond.selects RX6 yX6_over yX6_over, Cond.code yX6_over cX6_over 4 (some .int), Cond.methodLink RL 57 yX5_count, Cond.instanceMethod yX5_count, Cond.selects RX5 yX5_count yX5_count, Cond.code yX5_count cX5_count 2 (some .int), Cond.fieldLink RX5 126 "SkewEdges$Ledger" "total" "I", Cond.fieldLink RX5 132 "SkewEdges$Ledger" "rule" "I", Cond.fieldLink RX5 148 "SkewEdges$Pad" "length" "I", Cond.fieldLink RX5 151 "SkewEdges$History" "kept" "I"]
def wsL_law_r19 : List Cond := [Cond.methodLink RX5 129 yX2_inPhase, Cond.methodLink RX5 135 yX2_edgeTotal, Cond.instanceMethod yX2_edgeTotal, Cond.selects RX2 yX2_edgeTotal yX2_edgeTotal, Cond.code yX2_edgeTotal cX2_edgeTotal 3 (some .int), Cond.methodLink RX5 138 yX2_pivots, Cond.instanceMethod yX2_pivots, Cond.selects RX2 yX2_pivots yX2_pivots, Cond.code yX2_pivots cX2_pivots 3 (some .int), Cond.methodLink RX2 94 yX2_edgesTo, Cond.methodLink RX5 141 yX2_tripleTotal, Cond.instanceMethod yX2_tripleTotal, Cond.selects RX2 yX2_tripleTotal yX2_tripleTotal, Cond.code yX2_tripleTotal cX2_tripleTotal 3 (some .int), Cond.methodLink RX5 144 yX4_arrange, Cond.instanceMethod yX4_arrange, Cond.selects RX4 yX4_arrange yX4_arrange, Cond.code yX4_arrange cX4_arrange 6 (some .boolean), Cond.methodLink RX4 18 yX4_gather, Cond.instanceMethod yX4_gather, Cond.selects RX4 yX4_gather yX4_gather, Cond.code yX4_gather cX4_gather 4 none, Cond.fieldLink RX4 40 "SkewEdges$Ledger" "total" "I", Cond.fieldLink RX4 44 "SkewEdges$Ledger" "phase" "[I"]
def wsL_law_r20 : List Cond := [Cond.methodLink RX4 47 yX4_gatherOverKey, Cond.instanceMethod yX4_gatherOverKey, Cond.selects RX4 yX4_gatherOverKey yX4_gatherOverKey, Cond.code yX4_gatherOverKey cX4_gatherOverKey 4 none, Cond.fieldLink RX4 51 "SkewEdges$Ledger" "writtenKeys" "[I", Cond.fieldLink RX4 54 "SkewEdges$Ledger" "committedAt" "[I", Cond.fieldLink RX4 65 "SkewEdges$Ledger" "readKeys" "[I", Cond.fieldLink RX4 68 "SkewEdges$Ledger" "beganAt" "[I", Cond.methodLink RX4 57 yX2_writerBehind, Cond.instanceMethod yX2_writerBehind, Cond.selects RX2 yX2_writerBehind yX2_writerBehind, Cond.code yX2_writerBehind cX2_writerBehind 6 (some .int), Cond.methodLink RX4 61 yX4_depend, Cond.instanceMethod yX4_depend, Cond.selects RX4 yX4_depend yX4_depend, Cond.code yX4_depend cX4_depend 3 none, Cond.methodLink RX4 71 yX2_writerAhead, Cond.methodLink RX4 22 yX2_inPhase, Cond.methodLink RX4 28 yJ6_bitCount_0f7a4, Cond.methodLink RX4 33 yX4_lowestFree, Cond.instanceMethod yX4_lowestFree, Cond.selects RX4 yX4_lowestFree yX4_lowestFree, Cond.code yX4_lowestFree cX4_lowestFree 3 (some .int), Cond.methodLink RL 60 yX6_count]
def wsL_law_r21 : List Cond := [Cond.instanceMethod yX6_count, Cond.selects RX6 yX6_count yX6_count, Cond.code yX6_count cX6_count 2 (some .int), Cond.fieldLink RX6 168 "SkewEdgesModel" "typed" "I", Cond.methodLink RX6 155 yX6_edges, Cond.instanceMethod yX6_edges, Cond.selects RX6 yX6_edges yX6_edges, Cond.code yX6_edges cX6_edges 3 (some .int), Cond.methodLink RX6 158 yX6_pivots, Cond.instanceMethod yX6_pivots, Cond.selects RX6 yX6_pivots yX6_pivots, Cond.code yX6_pivots cX6_pivots 3 (some .int), Cond.methodLink RX6 161 yX6_triples, Cond.instanceMethod yX6_triples, Cond.selects RX6 yX6_triples yX6_triples, Cond.code yX6_triples cX6_triples 3 (some .int), Cond.methodLink RX6 164 yX6_isSerial, Cond.instanceMethod yX6_isSerial, Cond.selects RX6 yX6_isSerial yX6_isSerial, Cond.code yX6_isSerial cX6_isSerial 1 (some .boolean), Cond.methodLink RX6 177 yX6_layOrder, Cond.instanceMethod yX6_layOrder, Cond.selects RX6 yX6_layOrder yX6_layOrder, Cond.code yX6_layOrder cX6_layOrder 6 (some .int)]
def wsL_law_r22 : List Cond := [Cond.methodLink RX6 174 yX6_layAhead, Cond.instanceMethod yX6_layAhead, Cond.selects RX6 yX6_layAhead yX6_layAhead, Cond.code yX6_layAhead cX6_layAhead 4 none, Cond.methodLink RX6 171 yX6_depend, Cond.instanceMethod yX6_depend, Cond.selects RX6 yX6_depend yX6_depend, Cond.code yX6_depend cX6_depend 3 none, Cond.methodLink RL 61 yX5_order, Cond.instanceMethod yX5_order, Cond.selects RX5 yX5_order yX5_order, Cond.code yX5_order cX5_order 2 (some .int), Cond.methodLink RX5 154 yJ6_bitCount_0f7a4, Cond.methodLink RX5 159 yX4_at, Cond.instanceMethod yX4_at, Cond.selects RX4 yX4_at yX4_at, Cond.code yX4_at cX4_at 2 (some .int), Cond.methodLink RL 64 yX6_order, Cond.instanceMethod yX6_order, Cond.selects RX6 yX6_order yX6_order, Cond.code yX6_order cX6_order 2 (some .int), Cond.methodLink RL 65 yX5_sees, Cond.instanceMethod yX5_sees, Cond.selects RX5 yX5_sees yX5_sees]
def wsL_law_r23 : List Cond := [Cond.code yX5_sees cX5_sees 3 (some .int), Cond.methodLink RX5 162 yX2_seenWriter, Cond.methodLink RL 68 yX6_sees, Cond.instanceMethod yX6_sees, Cond.selects RX6 yX6_sees yX6_sees, Cond.code yX6_sees cX6_sees 3 (some .int), Cond.methodLink RL 69 yX5_would, Cond.instanceMethod yX5_would, Cond.selects RX5 yX5_would yX5_would, Cond.code yX5_would cX5_would 2 (some .int), Cond.methodLink RX5 165 yX0_refusal, Cond.methodLink RL 72 yX6_would, Cond.instanceMethod yX6_would, Cond.selects RX6 yX6_would yX6_would, Cond.code yX6_would cX6_would 3 (some .int), Cond.methodLink RL 73 yX5_triple, Cond.instanceMethod yX5_triple, Cond.selects RX5 yX5_triple yX5_triple, Cond.code yX5_triple cX5_triple 3 (some .int), Cond.methodLink RX5 171 yX0_firstTriple, Cond.methodLink RX5 174 yX0_partOfTriple, Cond.static yX0_partOfTriple, Cond.code yX0_partOfTriple cX0_partOfTriple 2 (some .int), Cond.methodLink RL 76 yX6_triple]
def wsL_law_r24 : List Cond := [Cond.instanceMethod yX6_triple, Cond.selects RX6 yX6_triple yX6_triple, Cond.code yX6_triple cX6_triple 3 (some .int), Cond.methodLink RL 77 yX5_doomed, Cond.instanceMethod yX5_doomed, Cond.selects RX5 yX5_doomed yX5_doomed, Cond.code yX5_doomed cX5_doomed 5 (some .int), Cond.methodLink RX5 177 yX5_isRule, Cond.methodLink RL 80 yX6_doomed, Cond.instanceMethod yX6_doomed, Cond.selects RX6 yX6_doomed yX6_doomed, Cond.code yX6_doomed cX6_doomed 5 (some .int), Cond.methodLink RL 83 yX5_put, Cond.instanceMethod yX5_put, Cond.selects RX5 yX5_put yX5_put, Cond.code yX5_put cX5_put 3 (some .int), Cond.methodLink RX5 180 yX3_append, Cond.instanceMethod yX3_append, Cond.selects RX3 yX3_append yX3_append, Cond.code yX3_append cX3_append 7 (some .int), Cond.constantLong RX3 15 (255), Cond.constantLong RX3 17 (33), Cond.constantLong RX3 19 (126), Cond.fieldLink RX3 21 "SkewEdges$Pad" "length" "I"]
def wsL_law_r25 : List Cond := [Cond.methodLink RL 87 yX6_put, Cond.instanceMethod yX6_put, Cond.selects RX6 yX6_put yX6_put, Cond.code yX6_put cX6_put 8 (some .int), Cond.constantLong RX6 180 (255), Cond.methodLink RL 88 yX5_wipe, Cond.instanceMethod yX5_wipe, Cond.selects RX5 yX5_wipe yX5_wipe, Cond.code yX5_wipe cX5_wipe 1 (some .int), Cond.methodLink RX5 184 yX3_empty, Cond.instanceMethod yX3_empty, Cond.selects RX3 yX3_empty yX3_empty, Cond.code yX3_empty cX3_empty 2 (some .int), Cond.methodLink RL 91 yX6_wipe, Cond.instanceMethod yX6_wipe, Cond.selects RX6 yX6_wipe yX6_wipe, Cond.code yX6_wipe cX6_wipe 2 (some .int), Cond.methodLink RL 92 yX5_fault, Cond.instanceMethod yX5_fault, Cond.selects RX5 yX5_fault yX5_fault, Cond.code yX5_fault cX5_fault 1 (some .int), Cond.methodLink RX5 187 yX3_firstFault, Cond.instanceMethod yX3_firstFault, Cond.selects RX3 yX3_firstFault yX3_firstFault]
def wsL_law_r26 : List Cond := [Cond.code yX3_firstFault cX3_firstFault 2 (some .int), Cond.fieldLink RX3 25 "SkewEdges$Pad" "at" "I", Cond.methodLink RX3 28 yX3_rewind, Cond.instanceMethod yX3_rewind, Cond.selects RX3 yX3_rewind yX3_rewind, Cond.code yX3_rewind cX3_rewind 1 none, Cond.methodLink RX3 31 yX3_passOrder, Cond.instanceMethod yX3_passOrder, Cond.selects RX3 yX3_passOrder yX3_passOrder, Cond.code yX3_passOrder cX3_passOrder 1 (some .boolean), Cond.fieldLink RX3 39 "SkewEdges$Pad" "kind" "I", Cond.methodLink RX3 42 yX3_passFirst, Cond.instanceMethod yX3_passFirst, Cond.selects RX3 yX3_passFirst yX3_passFirst, Cond.code yX3_passFirst cX3_passFirst 2 (some .boolean), Cond.fieldLink RX3 54 "SkewEdges$Pad" "number" "I", Cond.fieldLink RX3 57 "SkewEdges$Pad" "first" "I", Cond.methodLink RX3 51 yX3_passNumber, Cond.instanceMethod yX3_passNumber, Cond.selects RX3 yX3_passNumber yX3_passNumber, Cond.code yX3_passNumber cX3_passNumber 2 (some .boolean), Cond.methodLink RX3 66 yX3_isDigitNext, Cond.instanceMethod yX3_isDigitNext, Cond.selects RX3 yX3_isDigitNext yX3_isDigitNext]
def wsL_law_r27 : List Cond := [Cond.code yX3_isDigitNext cX3_isDigitNext 1 (some .boolean), Cond.methodLink RX3 35 yX3_passSign, Cond.instanceMethod yX3_passSign, Cond.selects RX3 yX3_passSign yX3_passSign, Cond.code yX3_passSign cX3_passSign 2 (some .boolean), Cond.methodLink RX3 45 yX3_passSecond, Cond.instanceMethod yX3_passSecond, Cond.selects RX3 yX3_passSecond yX3_passSecond, Cond.code yX3_passSecond cX3_passSecond 2 (some .boolean), Cond.fieldLink RX3 60 "SkewEdges$Pad" "second" "I", Cond.methodLink RX3 48 yX3_passThird, Cond.instanceMethod yX3_passThird, Cond.selects RX3 yX3_passThird yX3_passThird, Cond.code yX3_passThird cX3_passThird 2 (some .boolean), Cond.fieldLink RX3 63 "SkewEdges$Pad" "third" "I", Cond.methodLink RL 95 yX6_fault, Cond.instanceMethod yX6_fault, Cond.selects RX6 yX6_fault yX6_fault, Cond.code yX6_fault cX6_fault 1 (some .int), Cond.methodLink RX6 204 yX6_readPad, Cond.instanceMethod yX6_readPad, Cond.selects RX6 yX6_readPad yX6_readPad, Cond.code yX6_readPad cX6_readPad 2 (some .int), Cond.fieldLink RX6 195 "SkewEdgesModel" "orderMany" "I"]
def wsL_law_r28 : List Cond := [Cond.fieldLink RX6 182 "SkewEdgesModel" "spot" "I", Cond.fieldLink RX6 185 "SkewEdgesModel" "wrong" "I", Cond.methodLink RX6 201 yX6_readOrder, Cond.instanceMethod yX6_readOrder, Cond.selects RX6 yX6_readOrder yX6_readOrder, Cond.code yX6_readOrder cX6_readOrder 6 none, Cond.methodLink RX6 188 yX6_letter, Cond.instanceMethod yX6_letter, Cond.selects RX6 yX6_letter yX6_letter, Cond.code yX6_letter cX6_letter 1 (some .int), Cond.methodLink RX6 191 yX6_wants, Cond.instanceMethod yX6_wants, Cond.selects RX6 yX6_wants yX6_wants, Cond.code yX6_wants cX6_wants 2 none, Cond.methodLink RX6 198 yX6_number, Cond.instanceMethod yX6_number, Cond.selects RX6 yX6_number yX6_number, Cond.code yX6_number cX6_number 3 (some .int), Cond.methodLink RL 96 yX5_carryOut, Cond.instanceMethod yX5_carryOut, Cond.selects RX5 yX5_carryOut yX5_carryOut, Cond.code yX5_carryOut cX5_carryOut 3 (some .int), Cond.methodLink RX5 190 yX3_rewind, Cond.methodLink RX5 193 yX3_passOrder]
def wsL_law_r29 : List Cond := [Cond.methodLink RX5 197 yX5_carryOne, Cond.instanceMethod yX5_carryOne, Cond.selects RX5 yX5_carryOne yX5_carryOne, Cond.code yX5_carryOne cX5_carryOne 1 (some .int), Cond.fieldLink RX5 204 "SkewEdges$Pad" "kind" "I", Cond.fieldLink RX5 207 "SkewEdges$Pad" "first" "I", Cond.fieldLink RX5 210 "SkewEdges$Pad" "second" "I", Cond.fieldLink RX5 213 "SkewEdges$Pad" "third" "I", Cond.methodLink RX5 200 yX3_passSign, Cond.methodLink RL 99 yX6_carryOut, Cond.instanceMethod yX6_carryOut, Cond.selects RX6 yX6_carryOut yX6_carryOut, Cond.code yX6_carryOut cX6_carryOut 2 (some .int), Cond.methodLink RX6 207 yX6_does, Cond.instanceMethod yX6_does, Cond.selects RX6 yX6_does yX6_does, Cond.code yX6_does cX6_does 6 (some .int), Cond.methodLink RL 100 yX5_undo, Cond.instanceMethod yX5_undo, Cond.selects RX5 yX5_undo yX5_undo, Cond.code yX5_undo cX5_undo 1 (some .int), Cond.methodLink RX5 216 yX1_stepBack, Cond.instanceMethod yX1_stepBack, Cond.selects RX1 yX1_stepBack yX1_stepBack]
def wsL_law_r30 : List Cond := [Cond.code yX1_stepBack cX1_stepBack 2 (some .int), Cond.methodLink RL 103 yX6_undo, Cond.instanceMethod yX6_undo, Cond.selects RX6 yX6_undo yX6_undo, Cond.code yX6_undo cX6_undo 2 (some .int), Cond.methodLink RL 104 yX5_save, Cond.instanceMethod yX5_save, Cond.selects RX5 yX5_save yX5_save, Cond.code yX5_save cX5_save 2 (some .int), Cond.methodLink RX5 220 yX5_isSlot, Cond.static yX5_isSlot, Cond.code yX5_isSlot cX5_isSlot 1 (some .boolean), Cond.methodLink RX5 223 yX2_copyFrom, Cond.methodLink RL 107 yX6_save, Cond.instanceMethod yX6_save, Cond.selects RX6 yX6_save yX6_save, Cond.code yX6_save cX6_save 3 (some .int), Cond.methodLink RL 108 yX5_restore, Cond.instanceMethod yX5_restore, Cond.selects RX5 yX5_restore yX5_restore, Cond.code yX5_restore cX5_restore 2 (some .int), Cond.methodLink RL 111 yX6_restore, Cond.instanceMethod yX6_restore, Cond.selects RX6 yX6_restore yX6_restore]
def wsL_law_r31 : List Cond := [Cond.code yX6_restore cX6_restore 3 (some .int)]
def wsL_law : List Cond := (wsL_law_r1 ++ (wsL_law_r2 ++ (wsL_law_r3 ++ (wsL_law_r4 ++ (wsL_law_r5 ++ (wsL_law_r6 ++ (wsL_law_r7 ++ (wsL_law_r8 ++ (wsL_law_r9 ++ (wsL_law_r10 ++ (wsL_law_r11 ++ (wsL_law_r12 ++ (wsL_law_r13 ++ (wsL_law_r14 ++ (wsL_law_r15 ++ (wsL_law_r16 ++ (wsL_law_r17 ++ (wsL_law_r18 ++ (wsL_law_r19 ++ (wsL_law_r20 ++ (wsL_law_r21 ++ (wsL_law_r22 ++ (wsL_law_r23 ++ (wsL_law_r24 ++ (wsL_law_r25 ++ (wsL_law_r26 ++ (wsL_law_r27 ++ (wsL_law_r28 ++ (wsL_law_r29 ++ (wsL_law_r30 ++ wsL_law_r31)))))))))))))))))))))))))))))) ++ wsX50 ++ wsX60 ++ wsX20 ++ wsX10 ++ wsX30 ++ wsX40 ++ ([] : List Cond)
set_option maxRecDepth 20000 in
theorem ggX0_refusal_X0_isLaterWriter : GoodIn wsX0_refusal wsX0_isLaterWriter := goodIn_r _ [4, 5, 6, 7, 8, 9, 45, 46, 47, 48, 49, 50, 51, 52, 53, 54] (by decide +kernel) (by decide +kernel)
set_option maxRecDepth 20000 in
theorem gX0_refusal_X0_isLaterWriter : GoodIn wsX0_refusal (va_wsS RX0 9 yX0_isLaterWriter wsX0_isLaterWriter) := goodIn_app (goodIn_of _ (by decide +kernel)) ggX0_refusal_X0_isLaterWriter
set_option maxRecDepth 20000 in
theorem ggX0_refusal_X0_firstTriple : GoodIn wsX0_refusal wsX0_firstTriple := goodIn_r _ [12, 6, 13, 14, 15, 16, 17, 18, 19, 20, 21, 22, 23, 24, 25, 26, 27, 28, 29, 30, 31, 32, 33, 34, 35, 36, 37, 38, 39, 40, 3, 41, 42, 43, 44, 7, 8, 5, 9, 45, 46, 47, 48, 49, 50, 51, 52, 53, 54] (by decide +kernel) (by decide +kernel)
set_option maxRecDepth 20000 in
theorem gX0_refusal_X0_firstTriple : GoodIn wsX0_refusal (va_wsS RX0 15 yX0_firstTriple wsX0_firstTriple) := goodIn_app (goodIn_of _ (by decide +kernel)) ggX0_refusal_X0_firstTriple

theorem dJ6_bitCount_0f7a4_0 : decode cJ6_bitCount_0f7a4 0 = .ok (.iload_n 0, 1) := by decide +kernel
theorem dJ6_bitCount_0f7a4_1 : decode cJ6_bitCount_0f7a4 1 = .ok (.iload_n 0, 1) := by decide +kernel
theorem dJ6_bitCount_0f7a4_2 : decode cJ6_bitCount_0f7a4 2 = .ok (.iconst 1, 1) := by decide +kernel
theorem dJ6_bitCount_0f7a4_3 : decode cJ6_bitCount_0f7a4 3 = .ok (.iushr, 1) := by decide +kernel
theorem dJ6_bitCount_0f7a4_4 : decode cJ6_bitCount_0f7a4 4 = .ok (.ldc_w 265, 3) := by decide +kernel
theorem dJ6_bitCount_0f7a4_7 : decode cJ6_bitCount_0f7a4 7 = .ok (.iand, 1) := by decide +kernel
theorem dJ6_bitCount_0f7a4_8 : decode cJ6_bitCount_0f7a4 8 = .ok (.isub, 1) := by decide +kernel
theorem dJ6_bitCount_0f7a4_9 : decode cJ6_bitCount_0f7a4 9 = .ok (.istore_n 0, 1) := by decide +kernel
theorem dJ6_bitCount_0f7a4_10 : decode cJ6_bitCount_0f7a4 10 = .ok (.iload_n 0, 1) := by decide +kernel
theorem dJ6_bitCount_0f7a4_11 : decode cJ6_bitCount_0f7a4 11 = .ok (.ldc_w 266, 3) := by decide +kernel
theorem dJ6_bitCount_0f7a4_14 : decode cJ6_bitCount_0f7a4 14 = .ok (.iand, 1) := by decide +kernel
theorem dJ6_bitCount_0f7a4_15 : decode cJ6_bitCount_0f7a4 15 = .ok (.iload_n 0, 1) := by decide +kernel
theorem dJ6_bitCount_0f7a4_16 : decode cJ6_bitCount_0f7a4 16 = .ok (.iconst 2, 1) := by decide +kernel
theorem dJ6_bitCount_0f7a4_17 : decode cJ6_bitCount_0f7a4 17 = .ok (.iushr, 1) := by decide +kernel
theorem dJ6_bitCount_0f7a4_18 : decode cJ6_bitCount_0f7a4 18 = .ok (.ldc_w 266, 3) := by decide +kernel
theorem dJ6_bitCount_0f7a4_21 : decode cJ6_bitCount_0f7a4 21 = .ok (.iand, 1) := by decide +kernel
theorem dJ6_bitCount_0f7a4_22 : decode cJ6_bitCount_0f7a4 22 = .ok (.iadd, 1) := by decide +kernel
theorem dJ6_bitCount_0f7a4_23 : decode cJ6_bitCount_0f7a4 23 = .ok (.istore_n 0, 1) := by decide +kernel
theorem dJ6_bitCount_0f7a4_24 : decode cJ6_bitCount_0f7a4 24 = .ok (.iload_n 0, 1) := by decide +kernel
theorem dJ6_bitCount_0f7a4_25 : decode cJ6_bitCount_0f7a4 25 = .ok (.iload_n 0, 1) := by decide +kernel
theorem dJ6_bitCount_0f7a4_26 : decode cJ6_bitCount_0f7a4 26 = .ok (.iconst 4, 1) := by decide +kernel
theorem dJ6_bitCount_0f7a4_27 : decode cJ6_bitCount_0f7a4 27 = .ok (.iushr, 1) := by decide +kernel
theorem dJ6_bitCount_0f7a4_28 : decode cJ6_bitCount_0f7a4 28 = .ok (.iadd, 1) := by decide +kernel
theorem dJ6_bitCount_0f7a4_29 : decode cJ6_bitCount_0f7a4 29 = .ok (.ldc_w 267, 3) := by decide +kernel
theorem dJ6_bitCount_0f7a4_32 : decode cJ6_bitCount_0f7a4 32 = .ok (.iand, 1) := by decide +kernel
theorem dJ6_bitCount_0f7a4_33 : decode cJ6_bitCount_0f7a4 33 = .ok (.istore_n 0, 1) := by decide +kernel
theorem dJ6_bitCount_0f7a4_34 : decode cJ6_bitCount_0f7a4 34 = .ok (.iload_n 0, 1) := by decide +kernel
theorem dJ6_bitCount_0f7a4_35 : decode cJ6_bitCount_0f7a4 35 = .ok (.iload_n 0, 1) := by decide +kernel
theorem dJ6_bitCount_0f7a4_36 : decode cJ6_bitCount_0f7a4 36 = .ok (.bipush 8, 2) := by decide +kernel
theorem dJ6_bitCount_0f7a4_38 : decode cJ6_bitCount_0f7a4 38 = .ok (.iushr, 1) := by decide +kernel
theorem dJ6_bitCount_0f7a4_39 : decode cJ6_bitCount_0f7a4 39 = .ok (.iadd, 1) := by decide +kernel
theorem dJ6_bitCount_0f7a4_40 : decode cJ6_bitCount_0f7a4 40 = .ok (.istore_n 0, 1) := by decide +kernel
theorem dJ6_bitCount_0f7a4_41 : decode cJ6_bitCount_0f7a4 41 = .ok (.iload_n 0, 1) := by decide +kernel
theorem dJ6_bitCount_0f7a4_42 : decode cJ6_bitCount_0f7a4 42 = .ok (.iload_n 0, 1) := by decide +kernel
theorem dJ6_bitCount_0f7a4_43 : decode cJ6_bitCount_0f7a4 43 = .ok (.bipush 16, 2) := by decide +kernel
theorem dJ6_bitCount_0f7a4_45 : decode cJ6_bitCount_0f7a4 45 = .ok (.iushr, 1) := by decide +kernel
theorem dJ6_bitCount_0f7a4_46 : decode cJ6_bitCount_0f7a4 46 = .ok (.iadd, 1) := by decide +kernel
theorem dJ6_bitCount_0f7a4_47 : decode cJ6_bitCount_0f7a4 47 = .ok (.istore_n 0, 1) := by decide +kernel
theorem dJ6_bitCount_0f7a4_48 : decode cJ6_bitCount_0f7a4 48 = .ok (.iload_n 0, 1) := by decide +kernel
theorem dJ6_bitCount_0f7a4_49 : decode cJ6_bitCount_0f7a4 49 = .ok (.bipush 63, 2) := by decide +kernel
theorem dJ6_bitCount_0f7a4_51 : decode cJ6_bitCount_0f7a4 51 = .ok (.iand, 1) := by decide +kernel
theorem dJ6_bitCount_0f7a4_52 : decode cJ6_bitCount_0f7a4 52 = .ok (.ireturn, 1) := by decide +kernel
theorem dJ9_min_7cf53_0 : decode cJ9_min_7cf53 0 = .ok (.iload_n 0, 1) := by decide +kernel
theorem dJ9_min_7cf53_1 : decode cJ9_min_7cf53 1 = .ok (.iload_n 1, 1) := by decide +kernel
theorem dJ9_min_7cf53_2 : decode cJ9_min_7cf53 2 = .ok (.if_icmp .gt 7, 3) := by decide +kernel
theorem dJ9_min_7cf53_5 : decode cJ9_min_7cf53 5 = .ok (.iload_n 0, 1) := by decide +kernel
theorem dJ9_min_7cf53_6 : decode cJ9_min_7cf53 6 = .ok (.goto 4, 3) := by decide +kernel
theorem dJ9_min_7cf53_9 : decode cJ9_min_7cf53 9 = .ok (.iload_n 1, 1) := by decide +kernel
theorem dJ9_min_7cf53_10 : decode cJ9_min_7cf53 10 = .ok (.ireturn, 1) := by decide +kernel
abbrev vwCl : List vw_C := [(RX1, TX1, 3), (RX2, TX2, 10), (RX3, TX3, 8), (RX4, TX4, 2), (RX5, TX5, 6), (RX6, TX6, 16)]
end
section
theorem dX0_refusal_0 : decode cX0_refusal 0 = .ok (.aload_n 0, 1) := by decide +kernel
theorem dX0_refusal_1 : decode cX0_refusal 1 = .ok (.iload_n 1, 1) := by decide +kernel
theorem dX0_refusal_2 : decode cX0_refusal 2 = .ok (.invokestatic 9, 3) := by decide +kernel
theorem dX0_refusal_5 : decode cX0_refusal 5 = .ok (.ifCond .eq 5, 3) := by decide +kernel
theorem dX0_refusal_8 : decode cX0_refusal 8 = .ok (.iconst 1, 1) := by decide +kernel
theorem dX0_refusal_9 : decode cX0_refusal 9 = .ok (.ireturn, 1) := by decide +kernel
theorem dX0_refusal_10 : decode cX0_refusal 10 = .ok (.aload_n 0, 1) := by decide +kernel
theorem dX0_refusal_11 : decode cX0_refusal 11 = .ok (.iload_n 1, 1) := by decide +kernel
theorem dX0_refusal_12 : decode cX0_refusal 12 = .ok (.iload_n 2, 1) := by decide +kernel
theorem dX0_refusal_13 : decode cX0_refusal 13 = .ok (.invokestatic 15, 3) := by decide +kernel
theorem dX0_refusal_16 : decode cX0_refusal 16 = .ok (.bipush (-6), 2) := by decide +kernel
theorem dX0_refusal_18 : decode cX0_refusal 18 = .ok (.if_icmp .ne 7, 3) := by decide +kernel
theorem dX0_refusal_21 : decode cX0_refusal 21 = .ok (.iconst 0, 1) := by decide +kernel
theorem dX0_refusal_22 : decode cX0_refusal 22 = .ok (.goto 4, 3) := by decide +kernel
theorem dX0_refusal_25 : decode cX0_refusal 25 = .ok (.iconst 2, 1) := by decide +kernel
theorem dX0_refusal_26 : decode cX0_refusal 26 = .ok (.ireturn, 1) := by decide +kernel
theorem dX0_isLaterWriter_0 : decode cX0_isLaterWriter 0 = .ok (.aload_n 0, 1) := by decide +kernel
theorem dX0_isLaterWriter_1 : decode cX0_isLaterWriter 1 = .ok (.getfield 19, 3) := by decide +kernel
theorem dX0_isLaterWriter_4 : decode cX0_isLaterWriter 4 = .ok (.iload_n 1, 1) := by decide +kernel
theorem dX0_isLaterWriter_5 : decode cX0_isLaterWriter 5 = .ok (.iaload, 1) := by decide +kernel
theorem dX0_isLaterWriter_6 : decode cX0_isLaterWriter 6 = .ok (.istore_n 2, 1) := by decide +kernel
theorem dX0_isLaterWriter_7 : decode cX0_isLaterWriter 7 = .ok (.iconst 0, 1) := by decide +kernel
theorem dX0_isLaterWriter_8 : decode cX0_isLaterWriter 8 = .ok (.istore_n 3, 1) := by decide +kernel
theorem dX0_isLaterWriter_9 : decode cX0_isLaterWriter 9 = .ok (.iload_n 3, 1) := by decide +kernel
theorem dX0_isLaterWriter_10 : decode cX0_isLaterWriter 10 = .ok (.aload_n 0, 1) := by decide +kernel
theorem dX0_isLaterWriter_11 : decode cX0_isLaterWriter 11 = .ok (.getfield 25, 3) := by decide +kernel
theorem dX0_isLaterWriter_14 : decode cX0_isLaterWriter 14 = .ok (.if_icmp .ge 47, 3) := by decide +kernel
theorem dX0_isLaterWriter_17 : decode cX0_isLaterWriter 17 = .ok (.aload_n 0, 1) := by decide +kernel
theorem dX0_isLaterWriter_18 : decode cX0_isLaterWriter 18 = .ok (.getfield 29, 3) := by decide +kernel
theorem dX0_isLaterWriter_21 : decode cX0_isLaterWriter 21 = .ok (.iload_n 3, 1) := by decide +kernel
theorem dX0_isLaterWriter_22 : decode cX0_isLaterWriter 22 = .ok (.iaload, 1) := by decide +kernel
theorem dX0_isLaterWriter_23 : decode cX0_isLaterWriter 23 = .ok (.iconst 1, 1) := by decide +kernel
theorem dX0_isLaterWriter_24 : decode cX0_isLaterWriter 24 = .ok (.if_icmp .ne 31, 3) := by decide +kernel
theorem dX0_isLaterWriter_27 : decode cX0_isLaterWriter 27 = .ok (.aload_n 0, 1) := by decide +kernel
theorem dX0_isLaterWriter_28 : decode cX0_isLaterWriter 28 = .ok (.getfield 32, 3) := by decide +kernel
theorem dX0_isLaterWriter_31 : decode cX0_isLaterWriter 31 = .ok (.iload_n 3, 1) := by decide +kernel
theorem dX0_isLaterWriter_32 : decode cX0_isLaterWriter 32 = .ok (.iaload, 1) := by decide +kernel
theorem dX0_isLaterWriter_33 : decode cX0_isLaterWriter 33 = .ok (.aload_n 0, 1) := by decide +kernel
theorem dX0_isLaterWriter_34 : decode cX0_isLaterWriter 34 = .ok (.getfield 35, 3) := by decide +kernel
theorem dX0_isLaterWriter_37 : decode cX0_isLaterWriter 37 = .ok (.iload_n 1, 1) := by decide +kernel
theorem dX0_isLaterWriter_38 : decode cX0_isLaterWriter 38 = .ok (.iaload, 1) := by decide +kernel
theorem dX0_isLaterWriter_39 : decode cX0_isLaterWriter 39 = .ok (.if_icmp .le 16, 3) := by decide +kernel
theorem dX0_isLaterWriter_42 : decode cX0_isLaterWriter 42 = .ok (.aload_n 0, 1) := by decide +kernel
theorem dX0_isLaterWriter_43 : decode cX0_isLaterWriter 43 = .ok (.getfield 19, 3) := by decide +kernel
theorem dX0_isLaterWriter_46 : decode cX0_isLaterWriter 46 = .ok (.iload_n 3, 1) := by decide +kernel
theorem dX0_isLaterWriter_47 : decode cX0_isLaterWriter 47 = .ok (.iaload, 1) := by decide +kernel
theorem dX0_isLaterWriter_48 : decode cX0_isLaterWriter 48 = .ok (.iload_n 2, 1) := by decide +kernel
theorem dX0_isLaterWriter_49 : decode cX0_isLaterWriter 49 = .ok (.iand, 1) := by decide +kernel
theorem dX0_isLaterWriter_50 : decode cX0_isLaterWriter 50 = .ok (.ifCond .eq 5, 3) := by decide +kernel
theorem dX0_isLaterWriter_53 : decode cX0_isLaterWriter 53 = .ok (.iconst 1, 1) := by decide +kernel
theorem dX0_isLaterWriter_54 : decode cX0_isLaterWriter 54 = .ok (.ireturn, 1) := by decide +kernel
theorem dX0_isLaterWriter_55 : decode cX0_isLaterWriter 55 = .ok (.iinc 3 1, 3) := by decide +kernel
theorem dX0_isLaterWriter_58 : decode cX0_isLaterWriter 58 = .ok (.goto (-49), 3) := by decide +kernel
theorem dX0_isLaterWriter_61 : decode cX0_isLaterWriter 61 = .ok (.iconst 0, 1) := by decide +kernel
theorem dX0_isLaterWriter_62 : decode cX0_isLaterWriter 62 = .ok (.ireturn, 1) := by decide +kernel
set_option maxRecDepth 20000 in
theorem ggX0_firstTriple_X2_inPhase : GoodIn wsX0_firstTriple wsX2_inPhase := goodIn_r _ [6, 7, 8, 39, 40, 41, 42, 43, 44, 45, 46, 47, 48] (by decide +kernel) (by decide +kernel)
set_option maxRecDepth 20000 in
theorem gX0_firstTriple_X2_inPhase : GoodIn wsX0_firstTriple (wsV RX0 38 RX2 yX2_inPhase wsX2_inPhase) := goodIn_app (goodIn_of _ (by decide +kernel)) ggX0_firstTriple_X2_inPhase
set_option maxRecDepth 20000 in
theorem ggX0_firstTriple_X5_contains : GoodIn wsX0_firstTriple wsX5_contains := goodIn_r _ [11] (by decide +kernel) (by decide +kernel)
set_option maxRecDepth 20000 in
theorem gX0_firstTriple_X5_contains_n42 : GoodIn wsX0_firstTriple (wsX5_contains) := ggX0_firstTriple_X5_contains
set_option maxRecDepth 20000 in
theorem ggX0_firstTriple_X2_edgesTo : GoodIn wsX0_firstTriple wsX2_edgesTo := goodIn_r _ [15, 7, 16, 17, 18, 5, 19, 8, 20, 21, 22, 23, 39, 40, 41, 42, 43, 44, 45, 46, 47, 48] (by decide +kernel) (by decide +kernel)
set_option maxRecDepth 20000 in
theorem gX0_firstTriple_X2_edgesTo : GoodIn wsX0_firstTriple (wsV RX0 46 RX2 yX2_edgesTo wsX2_edgesTo) := goodIn_app (goodIn_of _ (by decide +kernel)) ggX0_firstTriple_X2_edgesTo
set_option maxRecDepth 20000 in
theorem ggX0_firstTriple_X2_edgesFrom : GoodIn wsX0_firstTriple wsX2_edgesFrom := goodIn_r _ [27, 7, 16, 17, 18, 5, 19, 8, 20, 21, 22, 23, 39, 40, 41, 42, 43, 44, 45, 46, 47, 48] (by decide +kernel) (by decide +kernel)
set_option maxRecDepth 20000 in
theorem gX0_firstTriple_X2_edgesFrom : GoodIn wsX0_firstTriple (wsV RX0 49 RX2 yX2_edgesFrom wsX2_edgesFrom) := goodIn_app (goodIn_of _ (by decide +kernel)) ggX0_firstTriple_X2_edgesFrom
set_option maxRecDepth 20000 in
theorem ggX0_firstTriple_X0_firstOverPivot : GoodIn wsX0_firstTriple wsX0_firstOverPivot := goodIn_r _ [31, 1, 9, 10, 11, 32, 33, 30, 34, 35, 36, 37, 38, 39, 40, 41, 42, 43, 44, 45, 46, 47, 48] (by decide +kernel) (by decide +kernel)
set_option maxRecDepth 20000 in
theorem gX0_firstTriple_X0_firstOverPivot : GoodIn wsX0_firstTriple (va_wsS RX0 52 yX0_firstOverPivot wsX0_firstOverPivot) := goodIn_app (goodIn_of _ (by decide +kernel)) ggX0_firstTriple_X0_firstOverPivot
theorem dX0_firstTriple_0 : decode cX0_firstTriple 0 = .ok (.aload_n 0, 1) := by decide +kernel
theorem dX0_firstTriple_1 : decode cX0_firstTriple 1 = .ok (.iconst 1, 1) := by decide +kernel
theorem dX0_firstTriple_2 : decode cX0_firstTriple 2 = .ok (.invokevirtual 38, 3) := by decide +kernel
theorem dX0_firstTriple_5 : decode cX0_firstTriple 5 = .ok (.iconst 1, 1) := by decide +kernel
theorem dX0_firstTriple_6 : decode cX0_firstTriple 6 = .ok (.iload_n 1, 1) := by decide +kernel
theorem dX0_firstTriple_7 : decode cX0_firstTriple 7 = .ok (.ishl, 1) := by decide +kernel
theorem dX0_firstTriple_8 : decode cX0_firstTriple 8 = .ok (.ior, 1) := by decide +kernel
theorem dX0_firstTriple_9 : decode cX0_firstTriple 9 = .ok (.istore_n 3, 1) := by decide +kernel
theorem dX0_firstTriple_10 : decode cX0_firstTriple 10 = .ok (.iconst 0, 1) := by decide +kernel
theorem dX0_firstTriple_11 : decode cX0_firstTriple 11 = .ok (.istore 4, 2) := by decide +kernel
theorem dX0_firstTriple_13 : decode cX0_firstTriple 13 = .ok (.iload 4, 2) := by decide +kernel
theorem dX0_firstTriple_15 : decode cX0_firstTriple 15 = .ok (.aload_n 0, 1) := by decide +kernel
theorem dX0_firstTriple_16 : decode cX0_firstTriple 16 = .ok (.getfield 25, 3) := by decide +kernel
theorem dX0_firstTriple_19 : decode cX0_firstTriple 19 = .ok (.if_icmp .ge 62, 3) := by decide +kernel
theorem dX0_firstTriple_22 : decode cX0_firstTriple 22 = .ok (.iload_n 3, 1) := by decide +kernel
theorem dX0_firstTriple_23 : decode cX0_firstTriple 23 = .ok (.iload 4, 2) := by decide +kernel
theorem dX0_firstTriple_25 : decode cX0_firstTriple 25 = .ok (.invokestatic 42, 3) := by decide +kernel
theorem dX0_firstTriple_28 : decode cX0_firstTriple 28 = .ok (.ifCond .eq 47, 3) := by decide +kernel
theorem dX0_firstTriple_31 : decode cX0_firstTriple 31 = .ok (.aload_n 0, 1) := by decide +kernel
theorem dX0_firstTriple_32 : decode cX0_firstTriple 32 = .ok (.iload 4, 2) := by decide +kernel
theorem dX0_firstTriple_34 : decode cX0_firstTriple 34 = .ok (.invokevirtual 46, 3) := by decide +kernel
theorem dX0_firstTriple_37 : decode cX0_firstTriple 37 = .ok (.iload_n 3, 1) := by decide +kernel
theorem dX0_firstTriple_38 : decode cX0_firstTriple 38 = .ok (.iand, 1) := by decide +kernel
theorem dX0_firstTriple_39 : decode cX0_firstTriple 39 = .ok (.istore 5, 2) := by decide +kernel
theorem dX0_firstTriple_41 : decode cX0_firstTriple 41 = .ok (.aload_n 0, 1) := by decide +kernel
theorem dX0_firstTriple_42 : decode cX0_firstTriple 42 = .ok (.iload 4, 2) := by decide +kernel
theorem dX0_firstTriple_44 : decode cX0_firstTriple 44 = .ok (.invokevirtual 49, 3) := by decide +kernel
theorem dX0_firstTriple_47 : decode cX0_firstTriple 47 = .ok (.iload_n 3, 1) := by decide +kernel
theorem dX0_firstTriple_48 : decode cX0_firstTriple 48 = .ok (.iand, 1) := by decide +kernel
theorem dX0_firstTriple_49 : decode cX0_firstTriple 49 = .ok (.istore 6, 2) := by decide +kernel
theorem dX0_firstTriple_51 : decode cX0_firstTriple 51 = .ok (.aload_n 0, 1) := by decide +kernel
theorem dX0_firstTriple_52 : decode cX0_firstTriple 52 = .ok (.iload_n 1, 1) := by decide +kernel
theorem dX0_firstTriple_53 : decode cX0_firstTriple 53 = .ok (.iload_n 2, 1) := by decide +kernel
theorem dX0_firstTriple_54 : decode cX0_firstTriple 54 = .ok (.iload 4, 2) := by decide +kernel
theorem dX0_firstTriple_56 : decode cX0_firstTriple 56 = .ok (.iload 5, 2) := by decide +kernel
theorem dX0_firstTriple_58 : decode cX0_firstTriple 58 = .ok (.iload 6, 2) := by decide +kernel
theorem dX0_firstTriple_60 : decode cX0_firstTriple 60 = .ok (.invokestatic 52, 3) := by decide +kernel
theorem dX0_firstTriple_63 : decode cX0_firstTriple 63 = .ok (.istore 7, 2) := by decide +kernel
theorem dX0_firstTriple_65 : decode cX0_firstTriple 65 = .ok (.iload 7, 2) := by decide +kernel
theorem dX0_firstTriple_67 : decode cX0_firstTriple 67 = .ok (.bipush (-6), 2) := by decide +kernel
theorem dX0_firstTriple_69 : decode cX0_firstTriple 69 = .ok (.if_icmp .eq 6, 3) := by decide +kernel
theorem dX0_firstTriple_72 : decode cX0_firstTriple 72 = .ok (.iload 7, 2) := by decide +kernel
theorem dX0_firstTriple_74 : decode cX0_firstTriple 74 = .ok (.ireturn, 1) := by decide +kernel
theorem dX0_firstTriple_75 : decode cX0_firstTriple 75 = .ok (.iinc 4 1, 3) := by decide +kernel
theorem dX0_firstTriple_78 : decode cX0_firstTriple 78 = .ok (.goto (-65), 3) := by decide +kernel
theorem dX0_firstTriple_81 : decode cX0_firstTriple 81 = .ok (.bipush (-6), 2) := by decide +kernel
theorem dX0_firstTriple_83 : decode cX0_firstTriple 83 = .ok (.ireturn, 1) := by decide +kernel
set_option maxRecDepth 20000 in
theorem ggX0_firstOverPivot_X5_contains : GoodIn wsX0_firstOverPivot wsX5_contains := goodIn_r _ [4] (by decide +kernel) (by decide +kernel)
set_option maxRecDepth 20000 in
theorem gX0_firstOverPivot_X5_contains_n42 : GoodIn wsX0_firstOverPivot (wsX5_contains) := ggX0_firstOverPivot_X5_contains
set_option maxRecDepth 20000 in
theorem ggX0_firstOverPivot_X0_counts : GoodIn wsX0_firstOverPivot wsX0_counts := goodIn_r _ [8, 9, 10, 11, 12, 13, 14, 15, 16, 17, 18, 19, 20, 21, 22] (by decide +kernel) (by decide +kernel)
set_option maxRecDepth 20000 in
theorem gX0_firstOverPivot_X0_counts : GoodIn wsX0_firstOverPivot (va_wsS RX0 56 yX0_counts wsX0_counts) := goodIn_app (goodIn_of _ (by decide +kernel)) ggX0_firstOverPivot_X0_counts
theorem dX0_firstOverPivot_0 : decode cX0_firstOverPivot 0 = .ok (.iconst 0, 1) := by decide +kernel
theorem dX0_firstOverPivot_1 : decode cX0_firstOverPivot 1 = .ok (.istore 6, 2) := by decide +kernel
theorem dX0_firstOverPivot_3 : decode cX0_firstOverPivot 3 = .ok (.iload 6, 2) := by decide +kernel
theorem dX0_firstOverPivot_5 : decode cX0_firstOverPivot 5 = .ok (.aload_n 0, 1) := by decide +kernel
theorem dX0_firstOverPivot_6 : decode cX0_firstOverPivot 6 = .ok (.getfield 25, 3) := by decide +kernel
theorem dX0_firstOverPivot_9 : decode cX0_firstOverPivot 9 = .ok (.if_icmp .ge 101, 3) := by decide +kernel
theorem dX0_firstOverPivot_12 : decode cX0_firstOverPivot 12 = .ok (.iconst 0, 1) := by decide +kernel
theorem dX0_firstOverPivot_13 : decode cX0_firstOverPivot 13 = .ok (.istore 7, 2) := by decide +kernel
theorem dX0_firstOverPivot_15 : decode cX0_firstOverPivot 15 = .ok (.iload 7, 2) := by decide +kernel
theorem dX0_firstOverPivot_17 : decode cX0_firstOverPivot 17 = .ok (.aload_n 0, 1) := by decide +kernel
theorem dX0_firstOverPivot_18 : decode cX0_firstOverPivot 18 = .ok (.getfield 25, 3) := by decide +kernel
theorem dX0_firstOverPivot_21 : decode cX0_firstOverPivot 21 = .ok (.if_icmp .ge 83, 3) := by decide +kernel
theorem dX0_firstOverPivot_24 : decode cX0_firstOverPivot 24 = .ok (.iload 6, 2) := by decide +kernel
theorem dX0_firstOverPivot_26 : decode cX0_firstOverPivot 26 = .ok (.iload_n 1, 1) := by decide +kernel
theorem dX0_firstOverPivot_27 : decode cX0_firstOverPivot 27 = .ok (.if_icmp .eq 14, 3) := by decide +kernel
theorem dX0_firstOverPivot_30 : decode cX0_firstOverPivot 30 = .ok (.iload_n 3, 1) := by decide +kernel
theorem dX0_firstOverPivot_31 : decode cX0_firstOverPivot 31 = .ok (.iload_n 1, 1) := by decide +kernel
theorem dX0_firstOverPivot_32 : decode cX0_firstOverPivot 32 = .ok (.if_icmp .eq 9, 3) := by decide +kernel
theorem dX0_firstOverPivot_35 : decode cX0_firstOverPivot 35 = .ok (.iload 7, 2) := by decide +kernel
theorem dX0_firstOverPivot_37 : decode cX0_firstOverPivot 37 = .ok (.iload_n 1, 1) := by decide +kernel
theorem dX0_firstOverPivot_38 : decode cX0_firstOverPivot 38 = .ok (.if_icmp .ne 7, 3) := by decide +kernel
theorem dX0_firstOverPivot_41 : decode cX0_firstOverPivot 41 = .ok (.iconst 1, 1) := by decide +kernel
theorem dX0_firstOverPivot_42 : decode cX0_firstOverPivot 42 = .ok (.goto 4, 3) := by decide +kernel
theorem dX0_firstOverPivot_45 : decode cX0_firstOverPivot 45 = .ok (.iconst 0, 1) := by decide +kernel
theorem dX0_firstOverPivot_46 : decode cX0_firstOverPivot 46 = .ok (.istore 8, 2) := by decide +kernel
theorem dX0_firstOverPivot_48 : decode cX0_firstOverPivot 48 = .ok (.iload 8, 2) := by decide +kernel
theorem dX0_firstOverPivot_50 : decode cX0_firstOverPivot 50 = .ok (.ifCond .eq 48, 3) := by decide +kernel
theorem dX0_firstOverPivot_53 : decode cX0_firstOverPivot 53 = .ok (.iload 4, 2) := by decide +kernel
theorem dX0_firstOverPivot_55 : decode cX0_firstOverPivot 55 = .ok (.iload 6, 2) := by decide +kernel
theorem dX0_firstOverPivot_57 : decode cX0_firstOverPivot 57 = .ok (.invokestatic 42, 3) := by decide +kernel
theorem dX0_firstOverPivot_60 : decode cX0_firstOverPivot 60 = .ok (.ifCond .eq 38, 3) := by decide +kernel
theorem dX0_firstOverPivot_63 : decode cX0_firstOverPivot 63 = .ok (.iload 5, 2) := by decide +kernel
theorem dX0_firstOverPivot_65 : decode cX0_firstOverPivot 65 = .ok (.iload 7, 2) := by decide +kernel
theorem dX0_firstOverPivot_67 : decode cX0_firstOverPivot 67 = .ok (.invokestatic 42, 3) := by decide +kernel
theorem dX0_firstOverPivot_70 : decode cX0_firstOverPivot 70 = .ok (.ifCond .eq 28, 3) := by decide +kernel
theorem dX0_firstOverPivot_73 : decode cX0_firstOverPivot 73 = .ok (.aload_n 0, 1) := by decide +kernel
theorem dX0_firstOverPivot_74 : decode cX0_firstOverPivot 74 = .ok (.iload_n 2, 1) := by decide +kernel
theorem dX0_firstOverPivot_75 : decode cX0_firstOverPivot 75 = .ok (.iload 6, 2) := by decide +kernel
theorem dX0_firstOverPivot_77 : decode cX0_firstOverPivot 77 = .ok (.iload_n 3, 1) := by decide +kernel
theorem dX0_firstOverPivot_78 : decode cX0_firstOverPivot 78 = .ok (.iload 7, 2) := by decide +kernel
theorem dX0_firstOverPivot_80 : decode cX0_firstOverPivot 80 = .ok (.invokestatic 56, 3) := by decide +kernel
theorem dX0_firstOverPivot_83 : decode cX0_firstOverPivot 83 = .ok (.ifCond .eq 15, 3) := by decide +kernel
theorem dX0_firstOverPivot_86 : decode cX0_firstOverPivot 86 = .ok (.iload_n 3, 1) := by decide +kernel
theorem dX0_firstOverPivot_87 : decode cX0_firstOverPivot 87 = .ok (.iconst 4, 1) := by decide +kernel
theorem dX0_firstOverPivot_88 : decode cX0_firstOverPivot 88 = .ok (.ishl, 1) := by decide +kernel
theorem dX0_firstOverPivot_89 : decode cX0_firstOverPivot 89 = .ok (.iload 6, 2) := by decide +kernel
theorem dX0_firstOverPivot_91 : decode cX0_firstOverPivot 91 = .ok (.ior, 1) := by decide +kernel
theorem dX0_firstOverPivot_92 : decode cX0_firstOverPivot 92 = .ok (.iconst 4, 1) := by decide +kernel
theorem dX0_firstOverPivot_93 : decode cX0_firstOverPivot 93 = .ok (.ishl, 1) := by decide +kernel
theorem dX0_firstOverPivot_94 : decode cX0_firstOverPivot 94 = .ok (.iload 7, 2) := by decide +kernel
theorem dX0_firstOverPivot_96 : decode cX0_firstOverPivot 96 = .ok (.ior, 1) := by decide +kernel
theorem dX0_firstOverPivot_97 : decode cX0_firstOverPivot 97 = .ok (.ireturn, 1) := by decide +kernel
theorem dX0_firstOverPivot_98 : decode cX0_firstOverPivot 98 = .ok (.iinc 7 1, 3) := by decide +kernel
theorem dX0_firstOverPivot_101 : decode cX0_firstOverPivot 101 = .ok (.goto (-86), 3) := by decide +kernel
theorem dX0_firstOverPivot_104 : decode cX0_firstOverPivot 104 = .ok (.iinc 6 1, 3) := by decide +kernel
theorem dX0_firstOverPivot_107 : decode cX0_firstOverPivot 107 = .ok (.goto (-104), 3) := by decide +kernel
theorem dX0_firstOverPivot_110 : decode cX0_firstOverPivot 110 = .ok (.bipush (-6), 2) := by decide +kernel
theorem dX0_firstOverPivot_112 : decode cX0_firstOverPivot 112 = .ok (.ireturn, 1) := by decide +kernel
theorem dX0_counts_0 : decode cX0_counts 0 = .ok (.iload_n 1, 1) := by decide +kernel
theorem dX0_counts_1 : decode cX0_counts 1 = .ok (.ifCond .eq 8, 3) := by decide +kernel
theorem dX0_counts_4 : decode cX0_counts 4 = .ok (.iload_n 1, 1) := by decide +kernel
theorem dX0_counts_5 : decode cX0_counts 5 = .ok (.iconst 3, 1) := by decide +kernel
theorem dX0_counts_6 : decode cX0_counts 6 = .ok (.if_icmp .ne 13, 3) := by decide +kernel
theorem dX0_counts_9 : decode cX0_counts 9 = .ok (.iload_n 1, 1) := by decide +kernel
theorem dX0_counts_10 : decode cX0_counts 10 = .ok (.ifCond .ne 7, 3) := by decide +kernel
theorem dX0_counts_13 : decode cX0_counts 13 = .ok (.iconst 1, 1) := by decide +kernel
theorem dX0_counts_14 : decode cX0_counts 14 = .ok (.goto 4, 3) := by decide +kernel
theorem dX0_counts_17 : decode cX0_counts 17 = .ok (.iconst 0, 1) := by decide +kernel
theorem dX0_counts_18 : decode cX0_counts 18 = .ok (.ireturn, 1) := by decide +kernel
theorem dX0_counts_19 : decode cX0_counts 19 = .ok (.aload_n 0, 1) := by decide +kernel
theorem dX0_counts_20 : decode cX0_counts 20 = .ok (.getfield 29, 3) := by decide +kernel
theorem dX0_counts_23 : decode cX0_counts 23 = .ok (.iload 4, 2) := by decide +kernel
theorem dX0_counts_25 : decode cX0_counts 25 = .ok (.iaload, 1) := by decide +kernel
theorem dX0_counts_26 : decode cX0_counts 26 = .ok (.iconst 1, 1) := by decide +kernel
theorem dX0_counts_27 : decode cX0_counts 27 = .ok (.if_icmp .eq 5, 3) := by decide +kernel
theorem dX0_counts_30 : decode cX0_counts 30 = .ok (.iconst 0, 1) := by decide +kernel
theorem dX0_counts_31 : decode cX0_counts 31 = .ok (.ireturn, 1) := by decide +kernel
theorem dX0_counts_32 : decode cX0_counts 32 = .ok (.aload_n 0, 1) := by decide +kernel
theorem dX0_counts_33 : decode cX0_counts 33 = .ok (.getfield 32, 3) := by decide +kernel
theorem dX0_counts_36 : decode cX0_counts 36 = .ok (.iload 4, 2) := by decide +kernel
theorem dX0_counts_38 : decode cX0_counts 38 = .ok (.iaload, 1) := by decide +kernel
theorem dX0_counts_39 : decode cX0_counts 39 = .ok (.istore 5, 2) := by decide +kernel
theorem dX0_counts_41 : decode cX0_counts 41 = .ok (.aload_n 0, 1) := by decide +kernel
theorem dX0_counts_42 : decode cX0_counts 42 = .ok (.getfield 29, 3) := by decide +kernel
theorem dX0_counts_45 : decode cX0_counts 45 = .ok (.iload_n 3, 1) := by decide +kernel
theorem dX0_counts_46 : decode cX0_counts 46 = .ok (.iaload, 1) := by decide +kernel
theorem dX0_counts_47 : decode cX0_counts 47 = .ok (.iconst 1, 1) := by decide +kernel
theorem dX0_counts_48 : decode cX0_counts 48 = .ok (.if_icmp .ne 16, 3) := by decide +kernel
theorem dX0_counts_51 : decode cX0_counts 51 = .ok (.aload_n 0, 1) := by decide +kernel
theorem dX0_counts_52 : decode cX0_counts 52 = .ok (.getfield 32, 3) := by decide +kernel
theorem dX0_counts_55 : decode cX0_counts 55 = .ok (.iload_n 3, 1) := by decide +kernel
theorem dX0_counts_56 : decode cX0_counts 56 = .ok (.iaload, 1) := by decide +kernel
theorem dX0_counts_57 : decode cX0_counts 57 = .ok (.iload 5, 2) := by decide +kernel
theorem dX0_counts_59 : decode cX0_counts 59 = .ok (.if_icmp .ge 5, 3) := by decide +kernel
theorem dX0_counts_62 : decode cX0_counts 62 = .ok (.iconst 0, 1) := by decide +kernel
theorem dX0_counts_63 : decode cX0_counts 63 = .ok (.ireturn, 1) := by decide +kernel
theorem dX0_counts_64 : decode cX0_counts 64 = .ok (.aload_n 0, 1) := by decide +kernel
theorem dX0_counts_65 : decode cX0_counts 65 = .ok (.getfield 29, 3) := by decide +kernel
theorem dX0_counts_68 : decode cX0_counts 68 = .ok (.iload_n 2, 1) := by decide +kernel
theorem dX0_counts_69 : decode cX0_counts 69 = .ok (.iaload, 1) := by decide +kernel
theorem dX0_counts_70 : decode cX0_counts 70 = .ok (.iconst 1, 1) := by decide +kernel
theorem dX0_counts_71 : decode cX0_counts 71 = .ok (.if_icmp .ne 16, 3) := by decide +kernel
theorem dX0_counts_74 : decode cX0_counts 74 = .ok (.aload_n 0, 1) := by decide +kernel
theorem dX0_counts_75 : decode cX0_counts 75 = .ok (.getfield 32, 3) := by decide +kernel
theorem dX0_counts_78 : decode cX0_counts 78 = .ok (.iload_n 2, 1) := by decide +kernel
theorem dX0_counts_79 : decode cX0_counts 79 = .ok (.iaload, 1) := by decide +kernel
theorem dX0_counts_80 : decode cX0_counts 80 = .ok (.iload 5, 2) := by decide +kernel
theorem dX0_counts_82 : decode cX0_counts 82 = .ok (.if_icmp .ge 5, 3) := by decide +kernel
theorem dX0_counts_85 : decode cX0_counts 85 = .ok (.iconst 0, 1) := by decide +kernel
theorem dX0_counts_86 : decode cX0_counts 86 = .ok (.ireturn, 1) := by decide +kernel
theorem dX0_counts_87 : decode cX0_counts 87 = .ok (.iload_n 1, 1) := by decide +kernel
theorem dX0_counts_88 : decode cX0_counts 88 = .ok (.iconst 1, 1) := by decide +kernel
theorem dX0_counts_89 : decode cX0_counts 89 = .ok (.if_icmp .eq 23, 3) := by decide +kernel
theorem dX0_counts_92 : decode cX0_counts 92 = .ok (.aload_n 0, 1) := by decide +kernel
theorem dX0_counts_93 : decode cX0_counts 93 = .ok (.getfield 19, 3) := by decide +kernel
theorem dX0_counts_96 : decode cX0_counts 96 = .ok (.iload_n 2, 1) := by decide +kernel
theorem dX0_counts_97 : decode cX0_counts 97 = .ok (.iaload, 1) := by decide +kernel
theorem dX0_counts_98 : decode cX0_counts 98 = .ok (.ifCond .ne 14, 3) := by decide +kernel
theorem dX0_counts_101 : decode cX0_counts 101 = .ok (.iload 5, 2) := by decide +kernel
theorem dX0_counts_103 : decode cX0_counts 103 = .ok (.aload_n 0, 1) := by decide +kernel
theorem dX0_counts_104 : decode cX0_counts 104 = .ok (.getfield 35, 3) := by decide +kernel
theorem dX0_counts_107 : decode cX0_counts 107 = .ok (.iload_n 2, 1) := by decide +kernel
theorem dX0_counts_108 : decode cX0_counts 108 = .ok (.iaload, 1) := by decide +kernel
theorem dX0_counts_109 : decode cX0_counts 109 = .ok (.if_icmp .ge 7, 3) := by decide +kernel
theorem dX0_counts_112 : decode cX0_counts 112 = .ok (.iconst 1, 1) := by decide +kernel
theorem dX0_counts_113 : decode cX0_counts 113 = .ok (.goto 4, 3) := by decide +kernel
theorem dX0_counts_116 : decode cX0_counts 116 = .ok (.iconst 0, 1) := by decide +kernel
theorem dX0_counts_117 : decode cX0_counts 117 = .ok (.ireturn, 1) := by decide +kernel
theorem dX0_partOfTriple_0 : decode cX0_partOfTriple 0 = .ok (.iload_n 1, 1) := by decide +kernel
theorem dX0_partOfTriple_1 : decode cX0_partOfTriple 1 = .ok (.lookupswitch 42 #[(0, 27), (1, 34)], 27) := by decide +kernel
theorem dX0_partOfTriple_28 : decode cX0_partOfTriple 28 = .ok (.iload_n 0, 1) := by decide +kernel
theorem dX0_partOfTriple_29 : decode cX0_partOfTriple 29 = .ok (.iconst 4, 1) := by decide +kernel
theorem dX0_partOfTriple_30 : decode cX0_partOfTriple 30 = .ok (.ishr, 1) := by decide +kernel
theorem dX0_partOfTriple_31 : decode cX0_partOfTriple 31 = .ok (.bipush 15, 2) := by decide +kernel
theorem dX0_partOfTriple_33 : decode cX0_partOfTriple 33 = .ok (.iand, 1) := by decide +kernel
theorem dX0_partOfTriple_34 : decode cX0_partOfTriple 34 = .ok (.ireturn, 1) := by decide +kernel
theorem dX0_partOfTriple_35 : decode cX0_partOfTriple 35 = .ok (.iload_n 0, 1) := by decide +kernel
theorem dX0_partOfTriple_36 : decode cX0_partOfTriple 36 = .ok (.bipush 8, 2) := by decide +kernel
theorem dX0_partOfTriple_38 : decode cX0_partOfTriple 38 = .ok (.ishr, 1) := by decide +kernel
theorem dX0_partOfTriple_39 : decode cX0_partOfTriple 39 = .ok (.bipush 15, 2) := by decide +kernel
theorem dX0_partOfTriple_41 : decode cX0_partOfTriple 41 = .ok (.iand, 1) := by decide +kernel
theorem dX0_partOfTriple_42 : decode cX0_partOfTriple 42 = .ok (.ireturn, 1) := by decide +kernel
theorem dX0_partOfTriple_43 : decode cX0_partOfTriple 43 = .ok (.iload_n 0, 1) := by decide +kernel
theorem dX0_partOfTriple_44 : decode cX0_partOfTriple 44 = .ok (.bipush 15, 2) := by decide +kernel
theorem dX0_partOfTriple_46 : decode cX0_partOfTriple 46 = .ok (.iand, 1) := by decide +kernel
theorem dX0_partOfTriple_47 : decode cX0_partOfTriple 47 = .ok (.ireturn, 1) := by decide +kernel
set_option maxRecDepth 20000 in
theorem ggX1_init_X2_init : GoodIn wsX1_init wsX2_init := goodIn_r _ [12, 13, 2, 3, 14, 15, 16, 17, 18, 19, 20, 21, 22, 23, 24, 28, 29, 30, 31, 32, 33, 34, 35, 36, 37] (by decide +kernel) (by decide +kernel)
set_option maxRecDepth 20000 in
theorem gX1_init_X2_init : GoodIn wsX1_init (wsX2_init) := ggX1_init_X2_init
theorem dX1_init_0 : decode cX1_init 0 = .ok (.aload_n 0, 1) := by decide +kernel
theorem dX1_init_1 : decode cX1_init 1 = .ok (.invokespecial 3, 3) := by decide +kernel
theorem dX1_init_4 : decode cX1_init 4 = .ok (.aload_n 0, 1) := by decide +kernel
theorem dX1_init_5 : decode cX1_init 5 = .ok (.iconst 0, 1) := by decide +kernel
theorem dX1_init_6 : decode cX1_init 6 = .ok (.putfield 9, 3) := by decide +kernel
theorem dX1_init_9 : decode cX1_init 9 = .ok (.aload_n 0, 1) := by decide +kernel
theorem dX1_init_10 : decode cX1_init 10 = .ok (.iconst 0, 1) := by decide +kernel
theorem dX1_init_11 : decode cX1_init 11 = .ok (.putfield 15, 3) := by decide +kernel
theorem dX1_init_14 : decode cX1_init 14 = .ok (.aload_n 0, 1) := by decide +kernel
theorem dX1_init_15 : decode cX1_init 15 = .ok (.bipush 7, 2) := by decide +kernel
theorem dX1_init_17 : decode cX1_init 17 = .ok (.anewarray 18, 3) := by decide +kernel
theorem dX1_init_20 : decode cX1_init 20 = .ok (.putfield 20, 3) := by decide +kernel
theorem dX1_init_23 : decode cX1_init 23 = .ok (.iconst 0, 1) := by decide +kernel
theorem dX1_init_24 : decode cX1_init 24 = .ok (.istore_n 1, 1) := by decide +kernel
theorem dX1_init_25 : decode cX1_init 25 = .ok (.iload_n 1, 1) := by decide +kernel
theorem dX1_init_26 : decode cX1_init 26 = .ok (.bipush 7, 2) := by decide +kernel
theorem dX1_init_28 : decode cX1_init 28 = .ok (.if_icmp .ge 22, 3) := by decide +kernel
theorem dX1_init_31 : decode cX1_init 31 = .ok (.aload_n 0, 1) := by decide +kernel
theorem dX1_init_32 : decode cX1_init 32 = .ok (.getfield 20, 3) := by decide +kernel
theorem dX1_init_35 : decode cX1_init 35 = .ok (.iload_n 1, 1) := by decide +kernel
theorem dX1_init_36 : decode cX1_init 36 = .ok (.new 18, 3) := by decide +kernel
theorem dX1_init_39 : decode cX1_init 39 = .ok (.dup, 1) := by decide +kernel
theorem dX1_init_40 : decode cX1_init 40 = .ok (.invokespecial 24, 3) := by decide +kernel
theorem dX1_init_43 : decode cX1_init 43 = .ok (.aastore, 1) := by decide +kernel
theorem dX1_init_44 : decode cX1_init 44 = .ok (.iinc 1 1, 3) := by decide +kernel
theorem dX1_init_47 : decode cX1_init 47 = .ok (.goto (-22), 3) := by decide +kernel
theorem dX1_init_50 : decode cX1_init 50 = .ok (.return_, 1) := by decide +kernel
set_option maxRecDepth 20000 in
theorem ggX1_prepare_X2_copyFrom : GoodIn wsX1_prepare wsX2_copyFrom := goodIn_r _ [7, 8, 9, 10, 11, 12, 13, 14, 15, 16, 17, 18, 19, 20, 21, 25, 26, 27, 28, 29, 30, 31, 32, 33, 34] (by decide +kernel) (by decide +kernel)
set_option maxRecDepth 20000 in
theorem gX1_prepare_X2_copyFrom : GoodIn wsX1_prepare (wsV RX1 25 RX2 yX2_copyFrom wsX2_copyFrom) := goodIn_app (goodIn_of _ (by decide +kernel)) ggX1_prepare_X2_copyFrom
theorem dX1_prepare_0 : decode cX1_prepare 0 = .ok (.aload_n 0, 1) := by decide +kernel
theorem dX1_prepare_1 : decode cX1_prepare 1 = .ok (.getfield 20, 3) := by decide +kernel
theorem dX1_prepare_4 : decode cX1_prepare 4 = .ok (.aload_n 0, 1) := by decide +kernel
theorem dX1_prepare_5 : decode cX1_prepare 5 = .ok (.getfield 15, 3) := by decide +kernel
theorem dX1_prepare_8 : decode cX1_prepare 8 = .ok (.aaload, 1) := by decide +kernel
theorem dX1_prepare_9 : decode cX1_prepare 9 = .ok (.aload_n 1, 1) := by decide +kernel
theorem dX1_prepare_10 : decode cX1_prepare 10 = .ok (.invokevirtual 25, 3) := by decide +kernel
theorem dX1_prepare_13 : decode cX1_prepare 13 = .ok (.return_, 1) := by decide +kernel
theorem dX1_keepUnlessError_0 : decode cX1_keepUnlessError 0 = .ok (.iload_n 1, 1) := by decide +kernel
theorem dX1_keepUnlessError_1 : decode cX1_keepUnlessError 1 = .ok (.ifCond .lt 43, 3) := by decide +kernel
theorem dX1_keepUnlessError_4 : decode cX1_keepUnlessError 4 = .ok (.aload_n 0, 1) := by decide +kernel
theorem dX1_keepUnlessError_5 : decode cX1_keepUnlessError 5 = .ok (.aload_n 0, 1) := by decide +kernel
theorem dX1_keepUnlessError_6 : decode cX1_keepUnlessError 6 = .ok (.getfield 15, 3) := by decide +kernel
theorem dX1_keepUnlessError_9 : decode cX1_keepUnlessError 9 = .ok (.iconst 1, 1) := by decide +kernel
theorem dX1_keepUnlessError_10 : decode cX1_keepUnlessError 10 = .ok (.iadd, 1) := by decide +kernel
theorem dX1_keepUnlessError_11 : decode cX1_keepUnlessError 11 = .ok (.bipush 7, 2) := by decide +kernel
theorem dX1_keepUnlessError_13 : decode cX1_keepUnlessError 13 = .ok (.if_icmp .ge 12, 3) := by decide +kernel
theorem dX1_keepUnlessError_16 : decode cX1_keepUnlessError 16 = .ok (.aload_n 0, 1) := by decide +kernel
theorem dX1_keepUnlessError_17 : decode cX1_keepUnlessError 17 = .ok (.getfield 15, 3) := by decide +kernel
theorem dX1_keepUnlessError_20 : decode cX1_keepUnlessError 20 = .ok (.iconst 1, 1) := by decide +kernel
theorem dX1_keepUnlessError_21 : decode cX1_keepUnlessError 21 = .ok (.iadd, 1) := by decide +kernel
theorem dX1_keepUnlessError_22 : decode cX1_keepUnlessError 22 = .ok (.goto 4, 3) := by decide +kernel
theorem dX1_keepUnlessError_25 : decode cX1_keepUnlessError 25 = .ok (.iconst 0, 1) := by decide +kernel
theorem dX1_keepUnlessError_26 : decode cX1_keepUnlessError 26 = .ok (.putfield 15, 3) := by decide +kernel
theorem dX1_keepUnlessError_29 : decode cX1_keepUnlessError 29 = .ok (.aload_n 0, 1) := by decide +kernel
theorem dX1_keepUnlessError_30 : decode cX1_keepUnlessError 30 = .ok (.aload_n 0, 1) := by decide +kernel
theorem dX1_keepUnlessError_31 : decode cX1_keepUnlessError 31 = .ok (.getfield 9, 3) := by decide +kernel
theorem dX1_keepUnlessError_34 : decode cX1_keepUnlessError 34 = .ok (.iconst 1, 1) := by decide +kernel
theorem dX1_keepUnlessError_35 : decode cX1_keepUnlessError 35 = .ok (.iadd, 1) := by decide +kernel
theorem dX1_keepUnlessError_36 : decode cX1_keepUnlessError 36 = .ok (.bipush 6, 2) := by decide +kernel
theorem dX1_keepUnlessError_38 : decode cX1_keepUnlessError 38 = .ok (.invokestatic 29, 3) := by decide +kernel
theorem dX1_keepUnlessError_41 : decode cX1_keepUnlessError 41 = .ok (.putfield 9, 3) := by decide +kernel
theorem dX1_keepUnlessError_44 : decode cX1_keepUnlessError 44 = .ok (.iload_n 1, 1) := by decide +kernel
theorem dX1_keepUnlessError_45 : decode cX1_keepUnlessError 45 = .ok (.ireturn, 1) := by decide +kernel
set_option maxRecDepth 20000 in
theorem ggX1_stepBack_X2_copyFrom : GoodIn wsX1_stepBack wsX2_copyFrom := goodIn_r _ [8, 9, 10, 11, 12, 13, 14, 15, 16, 17, 18, 19, 20, 21, 22, 26, 27, 28, 29, 30, 31, 32, 33, 34, 35] (by decide +kernel) (by decide +kernel)
set_option maxRecDepth 20000 in
theorem gX1_stepBack_X2_copyFrom : GoodIn wsX1_stepBack (wsV RX1 25 RX2 yX2_copyFrom wsX2_copyFrom) := goodIn_app (goodIn_of _ (by decide +kernel)) ggX1_stepBack_X2_copyFrom
theorem dX1_stepBack_0 : decode cX1_stepBack 0 = .ok (.aload_n 0, 1) := by decide +kernel
theorem dX1_stepBack_1 : decode cX1_stepBack 1 = .ok (.getfield 9, 3) := by decide +kernel
theorem dX1_stepBack_4 : decode cX1_stepBack 4 = .ok (.ifCond .ne 6, 3) := by decide +kernel
theorem dX1_stepBack_7 : decode cX1_stepBack 7 = .ok (.bipush (-5), 2) := by decide +kernel
theorem dX1_stepBack_9 : decode cX1_stepBack 9 = .ok (.ireturn, 1) := by decide +kernel
theorem dX1_stepBack_10 : decode cX1_stepBack 10 = .ok (.aload_n 0, 1) := by decide +kernel
theorem dX1_stepBack_11 : decode cX1_stepBack 11 = .ok (.dup, 1) := by decide +kernel
theorem dX1_stepBack_12 : decode cX1_stepBack 12 = .ok (.getfield 9, 3) := by decide +kernel
theorem dX1_stepBack_15 : decode cX1_stepBack 15 = .ok (.iconst 1, 1) := by decide +kernel
theorem dX1_stepBack_16 : decode cX1_stepBack 16 = .ok (.isub, 1) := by decide +kernel
theorem dX1_stepBack_17 : decode cX1_stepBack 17 = .ok (.putfield 9, 3) := by decide +kernel
theorem dX1_stepBack_20 : decode cX1_stepBack 20 = .ok (.aload_n 0, 1) := by decide +kernel
theorem dX1_stepBack_21 : decode cX1_stepBack 21 = .ok (.aload_n 0, 1) := by decide +kernel
theorem dX1_stepBack_22 : decode cX1_stepBack 22 = .ok (.getfield 15, 3) := by decide +kernel
theorem dX1_stepBack_25 : decode cX1_stepBack 25 = .ok (.ifCond .le 12, 3) := by decide +kernel
theorem dX1_stepBack_28 : decode cX1_stepBack 28 = .ok (.aload_n 0, 1) := by decide +kernel
theorem dX1_stepBack_29 : decode cX1_stepBack 29 = .ok (.getfield 15, 3) := by decide +kernel
theorem dX1_stepBack_32 : decode cX1_stepBack 32 = .ok (.iconst 1, 1) := by decide +kernel
theorem dX1_stepBack_33 : decode cX1_stepBack 33 = .ok (.isub, 1) := by decide +kernel
theorem dX1_stepBack_34 : decode cX1_stepBack 34 = .ok (.goto 5, 3) := by decide +kernel
theorem dX1_stepBack_37 : decode cX1_stepBack 37 = .ok (.bipush 6, 2) := by decide +kernel
theorem dX1_stepBack_39 : decode cX1_stepBack 39 = .ok (.putfield 15, 3) := by decide +kernel
theorem dX1_stepBack_42 : decode cX1_stepBack 42 = .ok (.aload_n 1, 1) := by decide +kernel
theorem dX1_stepBack_43 : decode cX1_stepBack 43 = .ok (.aload_n 0, 1) := by decide +kernel
theorem dX1_stepBack_44 : decode cX1_stepBack 44 = .ok (.getfield 20, 3) := by decide +kernel
theorem dX1_stepBack_47 : decode cX1_stepBack 47 = .ok (.aload_n 0, 1) := by decide +kernel
theorem dX1_stepBack_48 : decode cX1_stepBack 48 = .ok (.getfield 15, 3) := by decide +kernel
theorem dX1_stepBack_51 : decode cX1_stepBack 51 = .ok (.aaload, 1) := by decide +kernel
theorem dX1_stepBack_52 : decode cX1_stepBack 52 = .ok (.invokevirtual 25, 3) := by decide +kernel
theorem dX1_stepBack_55 : decode cX1_stepBack 55 = .ok (.aload_n 0, 1) := by decide +kernel
theorem dX1_stepBack_56 : decode cX1_stepBack 56 = .ok (.getfield 9, 3) := by decide +kernel
theorem dX1_stepBack_59 : decode cX1_stepBack 59 = .ok (.ireturn, 1) := by decide +kernel
theorem dX2_init_0 : decode cX2_init 0 = .ok (.aload_n 0, 1) := by decide +kernel
theorem dX2_init_1 : decode cX2_init 1 = .ok (.invokespecial 3, 3) := by decide +kernel
theorem dX2_init_4 : decode cX2_init 4 = .ok (.aload_n 0, 1) := by decide +kernel
theorem dX2_init_5 : decode cX2_init 5 = .ok (.iconst 1, 1) := by decide +kernel
theorem dX2_init_6 : decode cX2_init 6 = .ok (.putfield 9, 3) := by decide +kernel
theorem dX2_init_9 : decode cX2_init 9 = .ok (.aload_n 0, 1) := by decide +kernel
theorem dX2_init_10 : decode cX2_init 10 = .ok (.iconst 0, 1) := by decide +kernel
theorem dX2_init_11 : decode cX2_init 11 = .ok (.putfield 15, 3) := by decide +kernel
theorem dX2_init_14 : decode cX2_init 14 = .ok (.aload_n 0, 1) := by decide +kernel
theorem dX2_init_15 : decode cX2_init 15 = .ok (.iconst 0, 1) := by decide +kernel
theorem dX2_init_16 : decode cX2_init 16 = .ok (.putfield 18, 3) := by decide +kernel
theorem dX2_init_19 : decode cX2_init 19 = .ok (.aload_n 0, 1) := by decide +kernel
theorem dX2_init_20 : decode cX2_init 20 = .ok (.bipush 12, 2) := by decide +kernel
theorem dX2_init_22 : decode cX2_init 22 = .ok (.newarray .int, 2) := by decide +kernel
theorem dX2_init_24 : decode cX2_init 24 = .ok (.putfield 21, 3) := by decide +kernel
theorem dX2_init_27 : decode cX2_init 27 = .ok (.aload_n 0, 1) := by decide +kernel
theorem dX2_init_28 : decode cX2_init 28 = .ok (.bipush 12, 2) := by decide +kernel
theorem dX2_init_30 : decode cX2_init 30 = .ok (.newarray .int, 2) := by decide +kernel
theorem dX2_init_32 : decode cX2_init 32 = .ok (.putfield 25, 3) := by decide +kernel
theorem dX2_init_35 : decode cX2_init 35 = .ok (.aload_n 0, 1) := by decide +kernel
theorem dX2_init_36 : decode cX2_init 36 = .ok (.bipush 12, 2) := by decide +kernel
theorem dX2_init_38 : decode cX2_init 38 = .ok (.newarray .int, 2) := by decide +kernel
theorem dX2_init_40 : decode cX2_init 40 = .ok (.putfield 28, 3) := by decide +kernel
theorem dX2_init_43 : decode cX2_init 43 = .ok (.aload_n 0, 1) := by decide +kernel
theorem dX2_init_44 : decode cX2_init 44 = .ok (.bipush 12, 2) := by decide +kernel
theorem dX2_init_46 : decode cX2_init 46 = .ok (.newarray .int, 2) := by decide +kernel
theorem dX2_init_48 : decode cX2_init 48 = .ok (.putfield 31, 3) := by decide +kernel
theorem dX2_init_51 : decode cX2_init 51 = .ok (.aload_n 0, 1) := by decide +kernel
theorem dX2_init_52 : decode cX2_init 52 = .ok (.bipush 12, 2) := by decide +kernel
theorem dX2_init_54 : decode cX2_init 54 = .ok (.newarray .int, 2) := by decide +kernel
theorem dX2_init_56 : decode cX2_init 56 = .ok (.putfield 34, 3) := by decide +kernel
theorem dX2_init_59 : decode cX2_init 59 = .ok (.aload_n 0, 1) := by decide +kernel
theorem dX2_init_60 : decode cX2_init 60 = .ok (.bipush 12, 2) := by decide +kernel
theorem dX2_init_62 : decode cX2_init 62 = .ok (.newarray .int, 2) := by decide +kernel
theorem dX2_init_64 : decode cX2_init 64 = .ok (.putfield 37, 3) := by decide +kernel
theorem dX2_init_67 : decode cX2_init 67 = .ok (.aload_n 0, 1) := by decide +kernel
theorem dX2_init_68 : decode cX2_init 68 = .ok (.sipush 192, 3) := by decide +kernel
theorem dX2_init_71 : decode cX2_init 71 = .ok (.newarray .int, 2) := by decide +kernel
theorem dX2_init_73 : decode cX2_init 73 = .ok (.putfield 40, 3) := by decide +kernel
theorem dX2_init_76 : decode cX2_init 76 = .ok (.return_, 1) := by decide +kernel
theorem dX2_copyFrom_0 : decode cX2_copyFrom 0 = .ok (.aload_n 0, 1) := by decide +kernel
theorem dX2_copyFrom_1 : decode cX2_copyFrom 1 = .ok (.aload_n 1, 1) := by decide +kernel
theorem dX2_copyFrom_2 : decode cX2_copyFrom 2 = .ok (.getfield 9, 3) := by decide +kernel
theorem dX2_copyFrom_5 : decode cX2_copyFrom 5 = .ok (.putfield 9, 3) := by decide +kernel
theorem dX2_copyFrom_8 : decode cX2_copyFrom 8 = .ok (.aload_n 0, 1) := by decide +kernel
theorem dX2_copyFrom_9 : decode cX2_copyFrom 9 = .ok (.aload_n 1, 1) := by decide +kernel
theorem dX2_copyFrom_10 : decode cX2_copyFrom 10 = .ok (.getfield 15, 3) := by decide +kernel
theorem dX2_copyFrom_13 : decode cX2_copyFrom 13 = .ok (.putfield 15, 3) := by decide +kernel
theorem dX2_copyFrom_16 : decode cX2_copyFrom 16 = .ok (.aload_n 0, 1) := by decide +kernel
theorem dX2_copyFrom_17 : decode cX2_copyFrom 17 = .ok (.aload_n 1, 1) := by decide +kernel
theorem dX2_copyFrom_18 : decode cX2_copyFrom 18 = .ok (.getfield 18, 3) := by decide +kernel
theorem dX2_copyFrom_21 : decode cX2_copyFrom 21 = .ok (.putfield 18, 3) := by decide +kernel
theorem dX2_copyFrom_24 : decode cX2_copyFrom 24 = .ok (.aload_n 1, 1) := by decide +kernel
theorem dX2_copyFrom_25 : decode cX2_copyFrom 25 = .ok (.getfield 21, 3) := by decide +kernel
theorem dX2_copyFrom_28 : decode cX2_copyFrom 28 = .ok (.iconst 0, 1) := by decide +kernel
theorem dX2_copyFrom_29 : decode cX2_copyFrom 29 = .ok (.aload_n 0, 1) := by decide +kernel
theorem dX2_copyFrom_30 : decode cX2_copyFrom 30 = .ok (.getfield 21, 3) := by decide +kernel
theorem dX2_copyFrom_33 : decode cX2_copyFrom 33 = .ok (.iconst 0, 1) := by decide +kernel
theorem dX2_copyFrom_34 : decode cX2_copyFrom 34 = .ok (.bipush 12, 2) := by decide +kernel
theorem dX2_copyFrom_36 : decode cX2_copyFrom 36 = .ok (.invokestatic 43, 3) := by decide +kernel
theorem dX2_copyFrom_39 : decode cX2_copyFrom 39 = .ok (.aload_n 1, 1) := by decide +kernel
theorem dX2_copyFrom_40 : decode cX2_copyFrom 40 = .ok (.getfield 25, 3) := by decide +kernel
theorem dX2_copyFrom_43 : decode cX2_copyFrom 43 = .ok (.iconst 0, 1) := by decide +kernel
theorem dX2_copyFrom_44 : decode cX2_copyFrom 44 = .ok (.aload_n 0, 1) := by decide +kernel
theorem dX2_copyFrom_45 : decode cX2_copyFrom 45 = .ok (.getfield 25, 3) := by decide +kernel
theorem dX2_copyFrom_48 : decode cX2_copyFrom 48 = .ok (.iconst 0, 1) := by decide +kernel
theorem dX2_copyFrom_49 : decode cX2_copyFrom 49 = .ok (.bipush 12, 2) := by decide +kernel
theorem dX2_copyFrom_51 : decode cX2_copyFrom 51 = .ok (.invokestatic 43, 3) := by decide +kernel
theorem dX2_copyFrom_54 : decode cX2_copyFrom 54 = .ok (.aload_n 1, 1) := by decide +kernel
theorem dX2_copyFrom_55 : decode cX2_copyFrom 55 = .ok (.getfield 28, 3) := by decide +kernel
theorem dX2_copyFrom_58 : decode cX2_copyFrom 58 = .ok (.iconst 0, 1) := by decide +kernel
theorem dX2_copyFrom_59 : decode cX2_copyFrom 59 = .ok (.aload_n 0, 1) := by decide +kernel
theorem dX2_copyFrom_60 : decode cX2_copyFrom 60 = .ok (.getfield 28, 3) := by decide +kernel
theorem dX2_copyFrom_63 : decode cX2_copyFrom 63 = .ok (.iconst 0, 1) := by decide +kernel
theorem dX2_copyFrom_64 : decode cX2_copyFrom 64 = .ok (.bipush 12, 2) := by decide +kernel
theorem dX2_copyFrom_66 : decode cX2_copyFrom 66 = .ok (.invokestatic 43, 3) := by decide +kernel
theorem dX2_copyFrom_69 : decode cX2_copyFrom 69 = .ok (.aload_n 1, 1) := by decide +kernel
theorem dX2_copyFrom_70 : decode cX2_copyFrom 70 = .ok (.getfield 31, 3) := by decide +kernel
theorem dX2_copyFrom_73 : decode cX2_copyFrom 73 = .ok (.iconst 0, 1) := by decide +kernel
theorem dX2_copyFrom_74 : decode cX2_copyFrom 74 = .ok (.aload_n 0, 1) := by decide +kernel
theorem dX2_copyFrom_75 : decode cX2_copyFrom 75 = .ok (.getfield 31, 3) := by decide +kernel
theorem dX2_copyFrom_78 : decode cX2_copyFrom 78 = .ok (.iconst 0, 1) := by decide +kernel
theorem dX2_copyFrom_79 : decode cX2_copyFrom 79 = .ok (.bipush 12, 2) := by decide +kernel
theorem dX2_copyFrom_81 : decode cX2_copyFrom 81 = .ok (.invokestatic 43, 3) := by decide +kernel
theorem dX2_copyFrom_84 : decode cX2_copyFrom 84 = .ok (.aload_n 1, 1) := by decide +kernel
theorem dX2_copyFrom_85 : decode cX2_copyFrom 85 = .ok (.getfield 34, 3) := by decide +kernel
theorem dX2_copyFrom_88 : decode cX2_copyFrom 88 = .ok (.iconst 0, 1) := by decide +kernel
theorem dX2_copyFrom_89 : decode cX2_copyFrom 89 = .ok (.aload_n 0, 1) := by decide +kernel
theorem dX2_copyFrom_90 : decode cX2_copyFrom 90 = .ok (.getfield 34, 3) := by decide +kernel
theorem dX2_copyFrom_93 : decode cX2_copyFrom 93 = .ok (.iconst 0, 1) := by decide +kernel
theorem dX2_copyFrom_94 : decode cX2_copyFrom 94 = .ok (.bipush 12, 2) := by decide +kernel
theorem dX2_copyFrom_96 : decode cX2_copyFrom 96 = .ok (.invokestatic 43, 3) := by decide +kernel
theorem dX2_copyFrom_99 : decode cX2_copyFrom 99 = .ok (.aload_n 1, 1) := by decide +kernel
theorem dX2_copyFrom_100 : decode cX2_copyFrom 100 = .ok (.getfield 37, 3) := by decide +kernel
theorem dX2_copyFrom_103 : decode cX2_copyFrom 103 = .ok (.iconst 0, 1) := by decide +kernel
theorem dX2_copyFrom_104 : decode cX2_copyFrom 104 = .ok (.aload_n 0, 1) := by decide +kernel
theorem dX2_copyFrom_105 : decode cX2_copyFrom 105 = .ok (.getfield 37, 3) := by decide +kernel
theorem dX2_copyFrom_108 : decode cX2_copyFrom 108 = .ok (.iconst 0, 1) := by decide +kernel
theorem dX2_copyFrom_109 : decode cX2_copyFrom 109 = .ok (.bipush 12, 2) := by decide +kernel
theorem dX2_copyFrom_111 : decode cX2_copyFrom 111 = .ok (.invokestatic 43, 3) := by decide +kernel
theorem dX2_copyFrom_114 : decode cX2_copyFrom 114 = .ok (.aload_n 1, 1) := by decide +kernel
theorem dX2_copyFrom_115 : decode cX2_copyFrom 115 = .ok (.getfield 40, 3) := by decide +kernel
theorem dX2_copyFrom_118 : decode cX2_copyFrom 118 = .ok (.iconst 0, 1) := by decide +kernel
theorem dX2_copyFrom_119 : decode cX2_copyFrom 119 = .ok (.aload_n 0, 1) := by decide +kernel
theorem dX2_copyFrom_120 : decode cX2_copyFrom 120 = .ok (.getfield 40, 3) := by decide +kernel
theorem dX2_copyFrom_123 : decode cX2_copyFrom 123 = .ok (.iconst 0, 1) := by decide +kernel
theorem dX2_copyFrom_124 : decode cX2_copyFrom 124 = .ok (.sipush 192, 3) := by decide +kernel
theorem dX2_copyFrom_127 : decode cX2_copyFrom 127 = .ok (.invokestatic 43, 3) := by decide +kernel
theorem dX2_copyFrom_130 : decode cX2_copyFrom 130 = .ok (.return_, 1) := by decide +kernel
theorem dX2_exists_0 : decode cX2_exists 0 = .ok (.iload_n 1, 1) := by decide +kernel
theorem dX2_exists_1 : decode cX2_exists 1 = .ok (.ifCond .lt 15, 3) := by decide +kernel
theorem dX2_exists_4 : decode cX2_exists 4 = .ok (.iload_n 1, 1) := by decide +kernel
theorem dX2_exists_5 : decode cX2_exists 5 = .ok (.aload_n 0, 1) := by decide +kernel
theorem dX2_exists_6 : decode cX2_exists 6 = .ok (.getfield 18, 3) := by decide +kernel
theorem dX2_exists_9 : decode cX2_exists 9 = .ok (.if_icmp .ge 7, 3) := by decide +kernel
theorem dX2_exists_12 : decode cX2_exists 12 = .ok (.iconst 1, 1) := by decide +kernel
theorem dX2_exists_13 : decode cX2_exists 13 = .ok (.goto 4, 3) := by decide +kernel
theorem dX2_exists_16 : decode cX2_exists 16 = .ok (.iconst 0, 1) := by decide +kernel
theorem dX2_exists_17 : decode cX2_exists 17 = .ok (.ireturn, 1) := by decide +kernel
set_option maxRecDepth 20000 in
theorem ggX2_changeRule_X5_isRule : GoodIn wsX2_changeRule wsX5_isRule := goodIn_r _ [4] (by decide +kernel) (by decide +kernel)
set_option maxRecDepth 20000 in
theorem gX2_changeRule_X5_isRule_n49 : GoodIn wsX2_changeRule (wsX5_isRule) := ggX2_changeRule_X5_isRule
theorem dX2_changeRule_0 : decode cX2_changeRule 0 = .ok (.iload_n 1, 1) := by decide +kernel
theorem dX2_changeRule_1 : decode cX2_changeRule 1 = .ok (.invokestatic 49, 3) := by decide +kernel
theorem dX2_changeRule_4 : decode cX2_changeRule 4 = .ok (.ifCond .ne 6, 3) := by decide +kernel
theorem dX2_changeRule_7 : decode cX2_changeRule 7 = .ok (.bipush (-2), 2) := by decide +kernel
theorem dX2_changeRule_9 : decode cX2_changeRule 9 = .ok (.ireturn, 1) := by decide +kernel
theorem dX2_changeRule_10 : decode cX2_changeRule 10 = .ok (.aload_n 0, 1) := by decide +kernel
theorem dX2_changeRule_11 : decode cX2_changeRule 11 = .ok (.getfield 9, 3) := by decide +kernel
theorem dX2_changeRule_14 : decode cX2_changeRule 14 = .ok (.istore_n 2, 1) := by decide +kernel
theorem dX2_changeRule_15 : decode cX2_changeRule 15 = .ok (.aload_n 0, 1) := by decide +kernel
theorem dX2_changeRule_16 : decode cX2_changeRule 16 = .ok (.iload_n 1, 1) := by decide +kernel
theorem dX2_changeRule_17 : decode cX2_changeRule 17 = .ok (.putfield 9, 3) := by decide +kernel
theorem dX2_changeRule_20 : decode cX2_changeRule 20 = .ok (.iload_n 2, 1) := by decide +kernel
theorem dX2_changeRule_21 : decode cX2_changeRule 21 = .ok (.ireturn, 1) := by decide +kernel
theorem dX2_start_0 : decode cX2_start 0 = .ok (.aload_n 0, 1) := by decide +kernel
theorem dX2_start_1 : decode cX2_start 1 = .ok (.getfield 18, 3) := by decide +kernel
theorem dX2_start_4 : decode cX2_start 4 = .ok (.bipush 12, 2) := by decide +kernel
theorem dX2_start_6 : decode cX2_start 6 = .ok (.if_icmp .lt 6, 3) := by decide +kernel
theorem dX2_start_9 : decode cX2_start 9 = .ok (.bipush (-4), 2) := by decide +kernel
theorem dX2_start_11 : decode cX2_start 11 = .ok (.ireturn, 1) := by decide +kernel
theorem dX2_start_12 : decode cX2_start 12 = .ok (.aload_n 0, 1) := by decide +kernel
theorem dX2_start_13 : decode cX2_start 13 = .ok (.getfield 18, 3) := by decide +kernel
theorem dX2_start_16 : decode cX2_start 16 = .ok (.istore_n 1, 1) := by decide +kernel
theorem dX2_start_17 : decode cX2_start 17 = .ok (.aload_n 0, 1) := by decide +kernel
theorem dX2_start_18 : decode cX2_start 18 = .ok (.dup, 1) := by decide +kernel
theorem dX2_start_19 : decode cX2_start 19 = .ok (.getfield 18, 3) := by decide +kernel
theorem dX2_start_22 : decode cX2_start 22 = .ok (.iconst 1, 1) := by decide +kernel
theorem dX2_start_23 : decode cX2_start 23 = .ok (.iadd, 1) := by decide +kernel
theorem dX2_start_24 : decode cX2_start 24 = .ok (.putfield 18, 3) := by decide +kernel
theorem dX2_start_27 : decode cX2_start 27 = .ok (.aload_n 0, 1) := by decide +kernel
theorem dX2_start_28 : decode cX2_start 28 = .ok (.dup, 1) := by decide +kernel
theorem dX2_start_29 : decode cX2_start 29 = .ok (.getfield 15, 3) := by decide +kernel
theorem dX2_start_32 : decode cX2_start 32 = .ok (.iconst 1, 1) := by decide +kernel
theorem dX2_start_33 : decode cX2_start 33 = .ok (.iadd, 1) := by decide +kernel
theorem dX2_start_34 : decode cX2_start 34 = .ok (.putfield 15, 3) := by decide +kernel
theorem dX2_start_37 : decode cX2_start 37 = .ok (.aload_n 0, 1) := by decide +kernel
theorem dX2_start_38 : decode cX2_start 38 = .ok (.getfield 21, 3) := by decide +kernel
theorem dX2_start_41 : decode cX2_start 41 = .ok (.iload_n 1, 1) := by decide +kernel
theorem dX2_start_42 : decode cX2_start 42 = .ok (.iconst 0, 1) := by decide +kernel
theorem dX2_start_43 : decode cX2_start 43 = .ok (.iastore, 1) := by decide +kernel
theorem dX2_start_44 : decode cX2_start 44 = .ok (.aload_n 0, 1) := by decide +kernel
theorem dX2_start_45 : decode cX2_start 45 = .ok (.getfield 25, 3) := by decide +kernel
theorem dX2_start_48 : decode cX2_start 48 = .ok (.iload_n 1, 1) := by decide +kernel
theorem dX2_start_49 : decode cX2_start 49 = .ok (.aload_n 0, 1) := by decide +kernel
theorem dX2_start_50 : decode cX2_start 50 = .ok (.getfield 15, 3) := by decide +kernel
theorem dX2_start_53 : decode cX2_start 53 = .ok (.iastore, 1) := by decide +kernel
theorem dX2_start_54 : decode cX2_start 54 = .ok (.aload_n 0, 1) := by decide +kernel
theorem dX2_start_55 : decode cX2_start 55 = .ok (.getfield 28, 3) := by decide +kernel
theorem dX2_start_58 : decode cX2_start 58 = .ok (.iload_n 1, 1) := by decide +kernel
theorem dX2_start_59 : decode cX2_start 59 = .ok (.bipush (-6), 2) := by decide +kernel
theorem dX2_start_61 : decode cX2_start 61 = .ok (.iastore, 1) := by decide +kernel
theorem dX2_start_62 : decode cX2_start 62 = .ok (.aload_n 0, 1) := by decide +kernel
theorem dX2_start_63 : decode cX2_start 63 = .ok (.getfield 31, 3) := by decide +kernel
theorem dX2_start_66 : decode cX2_start 66 = .ok (.iload_n 1, 1) := by decide +kernel
theorem dX2_start_67 : decode cX2_start 67 = .ok (.iconst 0, 1) := by decide +kernel
theorem dX2_start_68 : decode cX2_start 68 = .ok (.iastore, 1) := by decide +kernel
theorem dX2_start_69 : decode cX2_start 69 = .ok (.aload_n 0, 1) := by decide +kernel
theorem dX2_start_70 : decode cX2_start 70 = .ok (.getfield 34, 3) := by decide +kernel
theorem dX2_start_73 : decode cX2_start 73 = .ok (.iload_n 1, 1) := by decide +kernel
theorem dX2_start_74 : decode cX2_start 74 = .ok (.iconst 0, 1) := by decide +kernel
theorem dX2_start_75 : decode cX2_start 75 = .ok (.iastore, 1) := by decide +kernel
theorem dX2_start_76 : decode cX2_start 76 = .ok (.aload_n 0, 1) := by decide +kernel
theorem dX2_start_77 : decode cX2_start 77 = .ok (.getfield 37, 3) := by decide +kernel
theorem dX2_start_80 : decode cX2_start 80 = .ok (.iload_n 1, 1) := by decide +kernel
theorem dX2_start_81 : decode cX2_start 81 = .ok (.bipush (-6), 2) := by decide +kernel
theorem dX2_start_83 : decode cX2_start 83 = .ok (.iastore, 1) := by decide +kernel
theorem dX2_start_84 : decode cX2_start 84 = .ok (.iload_n 1, 1) := by decide +kernel
theorem dX2_start_85 : decode cX2_start 85 = .ok (.ireturn, 1) := by decide +kernel
set_option maxRecDepth 20000 in
theorem ggX2_look_X2_exists : GoodIn wsX2_look wsX2_exists := goodIn_r _ [8, 9, 30, 31, 32, 33, 34, 35, 36, 37, 38, 39] (by decide +kernel) (by decide +kernel)
set_option maxRecDepth 20000 in
theorem gX2_look_X2_exists : GoodIn wsX2_look (wsV RX2 53 RX2 yX2_exists wsX2_exists) := goodIn_app (goodIn_of _ (by decide +kernel)) ggX2_look_X2_exists
set_option maxRecDepth 20000 in
theorem ggX2_look_X5_isKey : GoodIn wsX2_look wsX5_isKey := goodIn_r _ [12] (by decide +kernel) (by decide +kernel)
set_option maxRecDepth 20000 in
theorem gX2_look_X5_isKey_n56 : GoodIn wsX2_look (wsX5_isKey) := ggX2_look_X5_isKey
set_option maxRecDepth 20000 in
theorem ggX2_look_X5_contains : GoodIn wsX2_look wsX5_contains := goodIn_r _ [14] (by decide +kernel) (by decide +kernel)
set_option maxRecDepth 20000 in
theorem gX2_look_X5_contains_n59 : GoodIn wsX2_look (wsX5_contains) := ggX2_look_X5_contains
set_option maxRecDepth 20000 in
theorem ggX2_look_X2_seenWriter : GoodIn wsX2_look wsX2_seenWriter := goodIn_r _ [18, 2, 19, 13, 11, 14, 20, 21, 22, 7, 23, 9, 1, 24, 30, 31, 32, 33, 34, 35, 36, 37, 38, 39] (by decide +kernel) (by decide +kernel)
set_option maxRecDepth 20000 in
theorem gX2_look_X2_seenWriter : GoodIn wsX2_look (wsV RX2 63 RX2 yX2_seenWriter wsX2_seenWriter) := goodIn_app (goodIn_of _ (by decide +kernel)) ggX2_look_X2_seenWriter
set_option maxRecDepth 20000 in
theorem ggX2_look_X2_valueOfVersion : GoodIn wsX2_look wsX2_valueOfVersion := goodIn_r _ [28, 29, 4, 5, 6, 7, 8, 9, 30, 31, 32, 33, 34, 35, 36, 37, 38, 39] (by decide +kernel) (by decide +kernel)
set_option maxRecDepth 20000 in
theorem gX2_look_X2_valueOfVersion : GoodIn wsX2_look (wsV RX2 67 RX2 yX2_valueOfVersion wsX2_valueOfVersion) := goodIn_app (goodIn_of _ (by decide +kernel)) ggX2_look_X2_valueOfVersion
theorem dX2_look_0 : decode cX2_look 0 = .ok (.aload_n 0, 1) := by decide +kernel
theorem dX2_look_1 : decode cX2_look 1 = .ok (.iload_n 1, 1) := by decide +kernel
theorem dX2_look_2 : decode cX2_look 2 = .ok (.invokevirtual 53, 3) := by decide +kernel
theorem dX2_look_5 : decode cX2_look 5 = .ok (.ifCond .eq 10, 3) := by decide +kernel
theorem dX2_look_8 : decode cX2_look 8 = .ok (.iload_n 2, 1) := by decide +kernel
theorem dX2_look_9 : decode cX2_look 9 = .ok (.invokestatic 56, 3) := by decide +kernel
theorem dX2_look_12 : decode cX2_look 12 = .ok (.ifCond .ne 5, 3) := by decide +kernel
theorem dX2_look_15 : decode cX2_look 15 = .ok (.iconst (-1), 1) := by decide +kernel
theorem dX2_look_16 : decode cX2_look 16 = .ok (.ireturn, 1) := by decide +kernel
theorem dX2_look_17 : decode cX2_look 17 = .ok (.aload_n 0, 1) := by decide +kernel
theorem dX2_look_18 : decode cX2_look 18 = .ok (.getfield 21, 3) := by decide +kernel
theorem dX2_look_21 : decode cX2_look 21 = .ok (.iload_n 1, 1) := by decide +kernel
theorem dX2_look_22 : decode cX2_look 22 = .ok (.iaload, 1) := by decide +kernel
theorem dX2_look_23 : decode cX2_look 23 = .ok (.ifCond .eq 6, 3) := by decide +kernel
theorem dX2_look_26 : decode cX2_look 26 = .ok (.bipush (-5), 2) := by decide +kernel
theorem dX2_look_28 : decode cX2_look 28 = .ok (.ireturn, 1) := by decide +kernel
theorem dX2_look_29 : decode cX2_look 29 = .ok (.aload_n 0, 1) := by decide +kernel
theorem dX2_look_30 : decode cX2_look 30 = .ok (.getfield 34, 3) := by decide +kernel
theorem dX2_look_33 : decode cX2_look 33 = .ok (.iload_n 1, 1) := by decide +kernel
theorem dX2_look_34 : decode cX2_look 34 = .ok (.iaload, 1) := by decide +kernel
theorem dX2_look_35 : decode cX2_look 35 = .ok (.iload_n 2, 1) := by decide +kernel
theorem dX2_look_36 : decode cX2_look 36 = .ok (.invokestatic 59, 3) := by decide +kernel
theorem dX2_look_39 : decode cX2_look 39 = .ok (.ifCond .ne 15, 3) := by decide +kernel
theorem dX2_look_42 : decode cX2_look 42 = .ok (.aload_n 0, 1) := by decide +kernel
theorem dX2_look_43 : decode cX2_look 43 = .ok (.getfield 31, 3) := by decide +kernel
theorem dX2_look_46 : decode cX2_look 46 = .ok (.iload_n 1, 1) := by decide +kernel
theorem dX2_look_47 : decode cX2_look 47 = .ok (.dup2, 1) := by decide +kernel
theorem dX2_look_48 : decode cX2_look 48 = .ok (.iaload, 1) := by decide +kernel
theorem dX2_look_49 : decode cX2_look 49 = .ok (.iconst 1, 1) := by decide +kernel
theorem dX2_look_50 : decode cX2_look 50 = .ok (.iload_n 2, 1) := by decide +kernel
theorem dX2_look_51 : decode cX2_look 51 = .ok (.ishl, 1) := by decide +kernel
theorem dX2_look_52 : decode cX2_look 52 = .ok (.ior, 1) := by decide +kernel
theorem dX2_look_53 : decode cX2_look 53 = .ok (.iastore, 1) := by decide +kernel
theorem dX2_look_54 : decode cX2_look 54 = .ok (.aload_n 0, 1) := by decide +kernel
theorem dX2_look_55 : decode cX2_look 55 = .ok (.aload_n 0, 1) := by decide +kernel
theorem dX2_look_56 : decode cX2_look 56 = .ok (.iload_n 1, 1) := by decide +kernel
theorem dX2_look_57 : decode cX2_look 57 = .ok (.iload_n 2, 1) := by decide +kernel
theorem dX2_look_58 : decode cX2_look 58 = .ok (.invokevirtual 63, 3) := by decide +kernel
theorem dX2_look_61 : decode cX2_look 61 = .ok (.iload_n 2, 1) := by decide +kernel
theorem dX2_look_62 : decode cX2_look 62 = .ok (.invokevirtual 67, 3) := by decide +kernel
theorem dX2_look_65 : decode cX2_look 65 = .ok (.ireturn, 1) := by decide +kernel
set_option maxRecDepth 20000 in
theorem ggX2_enter_X2_exists : GoodIn wsX2_enter wsX2_exists := goodIn_r _ [8, 9, 13, 14, 15, 16, 17, 18, 19, 20, 21, 22] (by decide +kernel) (by decide +kernel)
set_option maxRecDepth 20000 in
theorem gX2_enter_X2_exists : GoodIn wsX2_enter (wsV RX2 53 RX2 yX2_exists wsX2_exists) := goodIn_app (goodIn_of _ (by decide +kernel)) ggX2_enter_X2_exists
set_option maxRecDepth 20000 in
theorem ggX2_enter_X5_isKey : GoodIn wsX2_enter wsX5_isKey := goodIn_r _ [12] (by decide +kernel) (by decide +kernel)
set_option maxRecDepth 20000 in
theorem gX2_enter_X5_isKey_n56 : GoodIn wsX2_enter (wsX5_isKey) := ggX2_enter_X5_isKey
theorem dX2_enter_0 : decode cX2_enter 0 = .ok (.aload_n 0, 1) := by decide +kernel
theorem dX2_enter_1 : decode cX2_enter 1 = .ok (.iload_n 1, 1) := by decide +kernel
theorem dX2_enter_2 : decode cX2_enter 2 = .ok (.invokevirtual 53, 3) := by decide +kernel
theorem dX2_enter_5 : decode cX2_enter 5 = .ok (.ifCond .eq 10, 3) := by decide +kernel
theorem dX2_enter_8 : decode cX2_enter 8 = .ok (.iload_n 2, 1) := by decide +kernel
theorem dX2_enter_9 : decode cX2_enter 9 = .ok (.invokestatic 56, 3) := by decide +kernel
theorem dX2_enter_12 : decode cX2_enter 12 = .ok (.ifCond .ne 5, 3) := by decide +kernel
theorem dX2_enter_15 : decode cX2_enter 15 = .ok (.iconst (-1), 1) := by decide +kernel
theorem dX2_enter_16 : decode cX2_enter 16 = .ok (.ireturn, 1) := by decide +kernel
theorem dX2_enter_17 : decode cX2_enter 17 = .ok (.iload_n 3, 1) := by decide +kernel
theorem dX2_enter_18 : decode cX2_enter 18 = .ok (.ifCond .lt 10, 3) := by decide +kernel
theorem dX2_enter_21 : decode cX2_enter 21 = .ok (.iload_n 3, 1) := by decide +kernel
theorem dX2_enter_22 : decode cX2_enter 22 = .ok (.sipush 1000, 3) := by decide +kernel
theorem dX2_enter_25 : decode cX2_enter 25 = .ok (.if_icmp .lt 6, 3) := by decide +kernel
theorem dX2_enter_28 : decode cX2_enter 28 = .ok (.bipush (-2), 2) := by decide +kernel
theorem dX2_enter_30 : decode cX2_enter 30 = .ok (.ireturn, 1) := by decide +kernel
theorem dX2_enter_31 : decode cX2_enter 31 = .ok (.aload_n 0, 1) := by decide +kernel
theorem dX2_enter_32 : decode cX2_enter 32 = .ok (.getfield 21, 3) := by decide +kernel
theorem dX2_enter_35 : decode cX2_enter 35 = .ok (.iload_n 1, 1) := by decide +kernel
theorem dX2_enter_36 : decode cX2_enter 36 = .ok (.iaload, 1) := by decide +kernel
theorem dX2_enter_37 : decode cX2_enter 37 = .ok (.ifCond .eq 6, 3) := by decide +kernel
theorem dX2_enter_40 : decode cX2_enter 40 = .ok (.bipush (-5), 2) := by decide +kernel
theorem dX2_enter_42 : decode cX2_enter 42 = .ok (.ireturn, 1) := by decide +kernel
theorem dX2_enter_43 : decode cX2_enter 43 = .ok (.aload_n 0, 1) := by decide +kernel
theorem dX2_enter_44 : decode cX2_enter 44 = .ok (.getfield 34, 3) := by decide +kernel
theorem dX2_enter_47 : decode cX2_enter 47 = .ok (.iload_n 1, 1) := by decide +kernel
theorem dX2_enter_48 : decode cX2_enter 48 = .ok (.dup2, 1) := by decide +kernel
theorem dX2_enter_49 : decode cX2_enter 49 = .ok (.iaload, 1) := by decide +kernel
theorem dX2_enter_50 : decode cX2_enter 50 = .ok (.iconst 1, 1) := by decide +kernel
theorem dX2_enter_51 : decode cX2_enter 51 = .ok (.iload_n 2, 1) := by decide +kernel
theorem dX2_enter_52 : decode cX2_enter 52 = .ok (.ishl, 1) := by decide +kernel
theorem dX2_enter_53 : decode cX2_enter 53 = .ok (.ior, 1) := by decide +kernel
theorem dX2_enter_54 : decode cX2_enter 54 = .ok (.iastore, 1) := by decide +kernel
theorem dX2_enter_55 : decode cX2_enter 55 = .ok (.aload_n 0, 1) := by decide +kernel
theorem dX2_enter_56 : decode cX2_enter 56 = .ok (.getfield 40, 3) := by decide +kernel
theorem dX2_enter_59 : decode cX2_enter 59 = .ok (.iload_n 1, 1) := by decide +kernel
theorem dX2_enter_60 : decode cX2_enter 60 = .ok (.bipush 16, 2) := by decide +kernel
theorem dX2_enter_62 : decode cX2_enter 62 = .ok (.imul, 1) := by decide +kernel
theorem dX2_enter_63 : decode cX2_enter 63 = .ok (.iload_n 2, 1) := by decide +kernel
theorem dX2_enter_64 : decode cX2_enter 64 = .ok (.iadd, 1) := by decide +kernel
theorem dX2_enter_65 : decode cX2_enter 65 = .ok (.iload_n 3, 1) := by decide +kernel
theorem dX2_enter_66 : decode cX2_enter 66 = .ok (.iastore, 1) := by decide +kernel
theorem dX2_enter_67 : decode cX2_enter 67 = .ok (.aload_n 0, 1) := by decide +kernel
theorem dX2_enter_68 : decode cX2_enter 68 = .ok (.getfield 34, 3) := by decide +kernel
theorem dX2_enter_71 : decode cX2_enter 71 = .ok (.iload_n 1, 1) := by decide +kernel
theorem dX2_enter_72 : decode cX2_enter 72 = .ok (.iaload, 1) := by decide +kernel
theorem dX2_enter_73 : decode cX2_enter 73 = .ok (.ireturn, 1) := by decide +kernel
set_option maxRecDepth 20000 in
theorem ggX2_finish_X2_exists : GoodIn wsX2_finish wsX2_exists := goodIn_r _ [10, 11, 55, 56, 57, 58, 59, 60, 61, 62, 63, 64] (by decide +kernel) (by decide +kernel)
set_option maxRecDepth 20000 in
theorem gX2_finish_X2_exists : GoodIn wsX2_finish (wsV RX2 53 RX2 yX2_exists wsX2_exists) := goodIn_app (goodIn_of _ (by decide +kernel)) ggX2_finish_X2_exists
set_option maxRecDepth 20000 in
theorem ggX2_finish_X0_refusal : GoodIn wsX2_finish wsX0_refusal := goodIn_r _ [15, 16, 17, 14, 18, 19, 20, 21, 22, 23, 24, 25, 26, 27, 28, 29, 9, 30, 11, 1, 31, 32, 33, 34, 35, 36, 37, 38, 39, 40, 41, 5, 42, 43, 44, 45, 46, 47, 48, 49, 50, 51, 52, 53, 54, 55, 56, 57, 58, 59, 60, 61, 62, 63, 64] (by decide +kernel) (by decide +kernel)
set_option maxRecDepth 20000 in
theorem gX2_finish_X0_refusal : GoodIn wsX2_finish (va_wsS RX2 70 yX0_refusal wsX0_refusal) := goodIn_app (goodIn_of _ (by decide +kernel)) ggX2_finish_X0_refusal
theorem dX2_finish_0 : decode cX2_finish 0 = .ok (.aload_n 0, 1) := by decide +kernel
theorem dX2_finish_1 : decode cX2_finish 1 = .ok (.iload_n 1, 1) := by decide +kernel
theorem dX2_finish_2 : decode cX2_finish 2 = .ok (.invokevirtual 53, 3) := by decide +kernel
theorem dX2_finish_5 : decode cX2_finish 5 = .ok (.ifCond .ne 5, 3) := by decide +kernel
theorem dX2_finish_8 : decode cX2_finish 8 = .ok (.iconst (-1), 1) := by decide +kernel
theorem dX2_finish_9 : decode cX2_finish 9 = .ok (.ireturn, 1) := by decide +kernel
theorem dX2_finish_10 : decode cX2_finish 10 = .ok (.aload_n 0, 1) := by decide +kernel
theorem dX2_finish_11 : decode cX2_finish 11 = .ok (.getfield 21, 3) := by decide +kernel
theorem dX2_finish_14 : decode cX2_finish 14 = .ok (.iload_n 1, 1) := by decide +kernel
theorem dX2_finish_15 : decode cX2_finish 15 = .ok (.iaload, 1) := by decide +kernel
theorem dX2_finish_16 : decode cX2_finish 16 = .ok (.ifCond .eq 6, 3) := by decide +kernel
theorem dX2_finish_19 : decode cX2_finish 19 = .ok (.bipush (-5), 2) := by decide +kernel
theorem dX2_finish_21 : decode cX2_finish 21 = .ok (.ireturn, 1) := by decide +kernel
theorem dX2_finish_22 : decode cX2_finish 22 = .ok (.aload_n 0, 1) := by decide +kernel
theorem dX2_finish_23 : decode cX2_finish 23 = .ok (.iload_n 1, 1) := by decide +kernel
theorem dX2_finish_24 : decode cX2_finish 24 = .ok (.aload_n 0, 1) := by decide +kernel
theorem dX2_finish_25 : decode cX2_finish 25 = .ok (.getfield 9, 3) := by decide +kernel
theorem dX2_finish_28 : decode cX2_finish 28 = .ok (.invokestatic 70, 3) := by decide +kernel
theorem dX2_finish_31 : decode cX2_finish 31 = .ok (.istore_n 2, 1) := by decide +kernel
theorem dX2_finish_32 : decode cX2_finish 32 = .ok (.iload_n 2, 1) := by decide +kernel
theorem dX2_finish_33 : decode cX2_finish 33 = .ok (.ifCond .eq 19, 3) := by decide +kernel
theorem dX2_finish_36 : decode cX2_finish 36 = .ok (.aload_n 0, 1) := by decide +kernel
theorem dX2_finish_37 : decode cX2_finish 37 = .ok (.getfield 21, 3) := by decide +kernel
theorem dX2_finish_40 : decode cX2_finish 40 = .ok (.iload_n 1, 1) := by decide +kernel
theorem dX2_finish_41 : decode cX2_finish 41 = .ok (.iconst 2, 1) := by decide +kernel
theorem dX2_finish_42 : decode cX2_finish 42 = .ok (.iastore, 1) := by decide +kernel
theorem dX2_finish_43 : decode cX2_finish 43 = .ok (.aload_n 0, 1) := by decide +kernel
theorem dX2_finish_44 : decode cX2_finish 44 = .ok (.getfield 37, 3) := by decide +kernel
theorem dX2_finish_47 : decode cX2_finish 47 = .ok (.iload_n 1, 1) := by decide +kernel
theorem dX2_finish_48 : decode cX2_finish 48 = .ok (.iload_n 2, 1) := by decide +kernel
theorem dX2_finish_49 : decode cX2_finish 49 = .ok (.iastore, 1) := by decide +kernel
theorem dX2_finish_50 : decode cX2_finish 50 = .ok (.iload_n 2, 1) := by decide +kernel
theorem dX2_finish_51 : decode cX2_finish 51 = .ok (.ireturn, 1) := by decide +kernel
theorem dX2_finish_52 : decode cX2_finish 52 = .ok (.aload_n 0, 1) := by decide +kernel
theorem dX2_finish_53 : decode cX2_finish 53 = .ok (.dup, 1) := by decide +kernel
theorem dX2_finish_54 : decode cX2_finish 54 = .ok (.getfield 15, 3) := by decide +kernel
theorem dX2_finish_57 : decode cX2_finish 57 = .ok (.iconst 1, 1) := by decide +kernel
theorem dX2_finish_58 : decode cX2_finish 58 = .ok (.iadd, 1) := by decide +kernel
theorem dX2_finish_59 : decode cX2_finish 59 = .ok (.putfield 15, 3) := by decide +kernel
theorem dX2_finish_62 : decode cX2_finish 62 = .ok (.aload_n 0, 1) := by decide +kernel
theorem dX2_finish_63 : decode cX2_finish 63 = .ok (.getfield 21, 3) := by decide +kernel
theorem dX2_finish_66 : decode cX2_finish 66 = .ok (.iload_n 1, 1) := by decide +kernel
theorem dX2_finish_67 : decode cX2_finish 67 = .ok (.iconst 1, 1) := by decide +kernel
theorem dX2_finish_68 : decode cX2_finish 68 = .ok (.iastore, 1) := by decide +kernel
theorem dX2_finish_69 : decode cX2_finish 69 = .ok (.aload_n 0, 1) := by decide +kernel
theorem dX2_finish_70 : decode cX2_finish 70 = .ok (.getfield 28, 3) := by decide +kernel
theorem dX2_finish_73 : decode cX2_finish 73 = .ok (.iload_n 1, 1) := by decide +kernel
theorem dX2_finish_74 : decode cX2_finish 74 = .ok (.aload_n 0, 1) := by decide +kernel
theorem dX2_finish_75 : decode cX2_finish 75 = .ok (.getfield 15, 3) := by decide +kernel
theorem dX2_finish_78 : decode cX2_finish 78 = .ok (.iastore, 1) := by decide +kernel
theorem dX2_finish_79 : decode cX2_finish 79 = .ok (.iconst 0, 1) := by decide +kernel
theorem dX2_finish_80 : decode cX2_finish 80 = .ok (.ireturn, 1) := by decide +kernel
set_option maxRecDepth 20000 in
theorem ggX2_giveUp_X2_exists : GoodIn wsX2_giveUp wsX2_exists := goodIn_r _ [7, 8, 20, 21, 22, 23, 24, 25, 26, 27, 28, 29] (by decide +kernel) (by decide +kernel)
set_option maxRecDepth 20000 in
theorem gX2_giveUp_X2_exists : GoodIn wsX2_giveUp (wsV RX2 53 RX2 yX2_exists wsX2_exists) := goodIn_app (goodIn_of _ (by decide +kernel)) ggX2_giveUp_X2_exists
set_option maxRecDepth 20000 in
theorem ggX2_giveUp_X2_inPhase : GoodIn wsX2_giveUp wsX2_inPhase := goodIn_r _ [12, 8, 1, 20, 21, 22, 23, 24, 25, 26, 27, 28, 29] (by decide +kernel) (by decide +kernel)
set_option maxRecDepth 20000 in
theorem gX2_giveUp_X2_inPhase : GoodIn wsX2_giveUp (wsV RX2 76 RX2 yX2_inPhase wsX2_inPhase) := goodIn_app (goodIn_of _ (by decide +kernel)) ggX2_giveUp_X2_inPhase
set_option maxRecDepth 20000 in
theorem ggX2_giveUp_J6_bitCount_0f7a4 : GoodIn wsX2_giveUp wsJ6_bitCount_0f7a4 := goodIn_r _ [16, 17, 18, 19] (by decide +kernel) (by decide +kernel)
set_option maxRecDepth 20000 in
theorem gX2_giveUp_J6_bitCount_0f7a4 : GoodIn wsX2_giveUp (va_wsS RX2 80 yJ6_bitCount_0f7a4 wsJ6_bitCount_0f7a4) := goodIn_app (goodIn_of _ (by decide +kernel)) ggX2_giveUp_J6_bitCount_0f7a4
theorem dX2_giveUp_0 : decode cX2_giveUp 0 = .ok (.aload_n 0, 1) := by decide +kernel
theorem dX2_giveUp_1 : decode cX2_giveUp 1 = .ok (.iload_n 1, 1) := by decide +kernel
theorem dX2_giveUp_2 : decode cX2_giveUp 2 = .ok (.invokevirtual 53, 3) := by decide +kernel
theorem dX2_giveUp_5 : decode cX2_giveUp 5 = .ok (.ifCond .ne 5, 3) := by decide +kernel
theorem dX2_giveUp_8 : decode cX2_giveUp 8 = .ok (.iconst (-1), 1) := by decide +kernel
theorem dX2_giveUp_9 : decode cX2_giveUp 9 = .ok (.ireturn, 1) := by decide +kernel
theorem dX2_giveUp_10 : decode cX2_giveUp 10 = .ok (.aload_n 0, 1) := by decide +kernel
theorem dX2_giveUp_11 : decode cX2_giveUp 11 = .ok (.getfield 21, 3) := by decide +kernel
theorem dX2_giveUp_14 : decode cX2_giveUp 14 = .ok (.iload_n 1, 1) := by decide +kernel
theorem dX2_giveUp_15 : decode cX2_giveUp 15 = .ok (.iaload, 1) := by decide +kernel
theorem dX2_giveUp_16 : decode cX2_giveUp 16 = .ok (.ifCond .eq 6, 3) := by decide +kernel
theorem dX2_giveUp_19 : decode cX2_giveUp 19 = .ok (.bipush (-5), 2) := by decide +kernel
theorem dX2_giveUp_21 : decode cX2_giveUp 21 = .ok (.ireturn, 1) := by decide +kernel
theorem dX2_giveUp_22 : decode cX2_giveUp 22 = .ok (.aload_n 0, 1) := by decide +kernel
theorem dX2_giveUp_23 : decode cX2_giveUp 23 = .ok (.getfield 21, 3) := by decide +kernel
theorem dX2_giveUp_26 : decode cX2_giveUp 26 = .ok (.iload_n 1, 1) := by decide +kernel
theorem dX2_giveUp_27 : decode cX2_giveUp 27 = .ok (.iconst 2, 1) := by decide +kernel
theorem dX2_giveUp_28 : decode cX2_giveUp 28 = .ok (.iastore, 1) := by decide +kernel
theorem dX2_giveUp_29 : decode cX2_giveUp 29 = .ok (.aload_n 0, 1) := by decide +kernel
theorem dX2_giveUp_30 : decode cX2_giveUp 30 = .ok (.getfield 37, 3) := by decide +kernel
theorem dX2_giveUp_33 : decode cX2_giveUp 33 = .ok (.iload_n 1, 1) := by decide +kernel
theorem dX2_giveUp_34 : decode cX2_giveUp 34 = .ok (.iconst 0, 1) := by decide +kernel
theorem dX2_giveUp_35 : decode cX2_giveUp 35 = .ok (.iastore, 1) := by decide +kernel
theorem dX2_giveUp_36 : decode cX2_giveUp 36 = .ok (.aload_n 0, 1) := by decide +kernel
theorem dX2_giveUp_37 : decode cX2_giveUp 37 = .ok (.iconst 0, 1) := by decide +kernel
theorem dX2_giveUp_38 : decode cX2_giveUp 38 = .ok (.invokevirtual 76, 3) := by decide +kernel
theorem dX2_giveUp_41 : decode cX2_giveUp 41 = .ok (.invokestatic 80, 3) := by decide +kernel
theorem dX2_giveUp_44 : decode cX2_giveUp 44 = .ok (.ireturn, 1) := by decide +kernel
theorem dX2_inPhase_0 : decode cX2_inPhase 0 = .ok (.iconst 0, 1) := by decide +kernel
theorem dX2_inPhase_1 : decode cX2_inPhase 1 = .ok (.istore_n 2, 1) := by decide +kernel
theorem dX2_inPhase_2 : decode cX2_inPhase 2 = .ok (.iconst 0, 1) := by decide +kernel
theorem dX2_inPhase_3 : decode cX2_inPhase 3 = .ok (.istore_n 3, 1) := by decide +kernel
theorem dX2_inPhase_4 : decode cX2_inPhase 4 = .ok (.iload_n 3, 1) := by decide +kernel
theorem dX2_inPhase_5 : decode cX2_inPhase 5 = .ok (.aload_n 0, 1) := by decide +kernel
theorem dX2_inPhase_6 : decode cX2_inPhase 6 = .ok (.getfield 18, 3) := by decide +kernel
theorem dX2_inPhase_9 : decode cX2_inPhase 9 = .ok (.if_icmp .ge 25, 3) := by decide +kernel
theorem dX2_inPhase_12 : decode cX2_inPhase 12 = .ok (.aload_n 0, 1) := by decide +kernel
theorem dX2_inPhase_13 : decode cX2_inPhase 13 = .ok (.getfield 21, 3) := by decide +kernel
theorem dX2_inPhase_16 : decode cX2_inPhase 16 = .ok (.iload_n 3, 1) := by decide +kernel
theorem dX2_inPhase_17 : decode cX2_inPhase 17 = .ok (.iaload, 1) := by decide +kernel
theorem dX2_inPhase_18 : decode cX2_inPhase 18 = .ok (.iload_n 1, 1) := by decide +kernel
theorem dX2_inPhase_19 : decode cX2_inPhase 19 = .ok (.if_icmp .ne 9, 3) := by decide +kernel
theorem dX2_inPhase_22 : decode cX2_inPhase 22 = .ok (.iload_n 2, 1) := by decide +kernel
theorem dX2_inPhase_23 : decode cX2_inPhase 23 = .ok (.iconst 1, 1) := by decide +kernel
theorem dX2_inPhase_24 : decode cX2_inPhase 24 = .ok (.iload_n 3, 1) := by decide +kernel
theorem dX2_inPhase_25 : decode cX2_inPhase 25 = .ok (.ishl, 1) := by decide +kernel
theorem dX2_inPhase_26 : decode cX2_inPhase 26 = .ok (.ior, 1) := by decide +kernel
theorem dX2_inPhase_27 : decode cX2_inPhase 27 = .ok (.istore_n 2, 1) := by decide +kernel
theorem dX2_inPhase_28 : decode cX2_inPhase 28 = .ok (.iinc 3 1, 3) := by decide +kernel
theorem dX2_inPhase_31 : decode cX2_inPhase 31 = .ok (.goto (-27), 3) := by decide +kernel
theorem dX2_inPhase_34 : decode cX2_inPhase 34 = .ok (.iload_n 2, 1) := by decide +kernel
theorem dX2_inPhase_35 : decode cX2_inPhase 35 = .ok (.ireturn, 1) := by decide +kernel
set_option maxRecDepth 20000 in
theorem ggX2_writerAhead_X5_contains : GoodIn wsX2_writerAhead wsX5_contains := goodIn_r _ [7] (by decide +kernel) (by decide +kernel)
set_option maxRecDepth 20000 in
theorem gX2_writerAhead_X5_contains_n59 : GoodIn wsX2_writerAhead (wsX5_contains) := ggX2_writerAhead_X5_contains
theorem dX2_writerAhead_0 : decode cX2_writerAhead 0 = .ok (.bipush (-6), 2) := by decide +kernel
theorem dX2_writerAhead_2 : decode cX2_writerAhead 2 = .ok (.istore_n 3, 1) := by decide +kernel
theorem dX2_writerAhead_3 : decode cX2_writerAhead 3 = .ok (.iconst 0, 1) := by decide +kernel
theorem dX2_writerAhead_4 : decode cX2_writerAhead 4 = .ok (.istore 4, 2) := by decide +kernel
theorem dX2_writerAhead_6 : decode cX2_writerAhead 6 = .ok (.iconst 0, 1) := by decide +kernel
theorem dX2_writerAhead_7 : decode cX2_writerAhead 7 = .ok (.istore 5, 2) := by decide +kernel
theorem dX2_writerAhead_9 : decode cX2_writerAhead 9 = .ok (.iload 5, 2) := by decide +kernel
theorem dX2_writerAhead_11 : decode cX2_writerAhead 11 = .ok (.aload_n 0, 1) := by decide +kernel
theorem dX2_writerAhead_12 : decode cX2_writerAhead 12 = .ok (.getfield 18, 3) := by decide +kernel
theorem dX2_writerAhead_15 : decode cX2_writerAhead 15 = .ok (.if_icmp .ge 69, 3) := by decide +kernel
theorem dX2_writerAhead_18 : decode cX2_writerAhead 18 = .ok (.aload_n 0, 1) := by decide +kernel
theorem dX2_writerAhead_19 : decode cX2_writerAhead 19 = .ok (.getfield 21, 3) := by decide +kernel
theorem dX2_writerAhead_22 : decode cX2_writerAhead 22 = .ok (.iload 5, 2) := by decide +kernel
theorem dX2_writerAhead_24 : decode cX2_writerAhead 24 = .ok (.iaload, 1) := by decide +kernel
theorem dX2_writerAhead_25 : decode cX2_writerAhead 25 = .ok (.iconst 1, 1) := by decide +kernel
theorem dX2_writerAhead_26 : decode cX2_writerAhead 26 = .ok (.if_icmp .ne 52, 3) := by decide +kernel
theorem dX2_writerAhead_29 : decode cX2_writerAhead 29 = .ok (.aload_n 0, 1) := by decide +kernel
theorem dX2_writerAhead_30 : decode cX2_writerAhead 30 = .ok (.getfield 34, 3) := by decide +kernel
theorem dX2_writerAhead_33 : decode cX2_writerAhead 33 = .ok (.iload 5, 2) := by decide +kernel
theorem dX2_writerAhead_35 : decode cX2_writerAhead 35 = .ok (.iaload, 1) := by decide +kernel
theorem dX2_writerAhead_36 : decode cX2_writerAhead 36 = .ok (.iload_n 1, 1) := by decide +kernel
theorem dX2_writerAhead_37 : decode cX2_writerAhead 37 = .ok (.invokestatic 59, 3) := by decide +kernel
theorem dX2_writerAhead_40 : decode cX2_writerAhead 40 = .ok (.ifCond .eq 38, 3) := by decide +kernel
theorem dX2_writerAhead_43 : decode cX2_writerAhead 43 = .ok (.aload_n 0, 1) := by decide +kernel
theorem dX2_writerAhead_44 : decode cX2_writerAhead 44 = .ok (.getfield 28, 3) := by decide +kernel
theorem dX2_writerAhead_47 : decode cX2_writerAhead 47 = .ok (.iload 5, 2) := by decide +kernel
theorem dX2_writerAhead_49 : decode cX2_writerAhead 49 = .ok (.iaload, 1) := by decide +kernel
theorem dX2_writerAhead_50 : decode cX2_writerAhead 50 = .ok (.iload_n 2, 1) := by decide +kernel
theorem dX2_writerAhead_51 : decode cX2_writerAhead 51 = .ok (.if_icmp .ge 27, 3) := by decide +kernel
theorem dX2_writerAhead_54 : decode cX2_writerAhead 54 = .ok (.aload_n 0, 1) := by decide +kernel
theorem dX2_writerAhead_55 : decode cX2_writerAhead 55 = .ok (.getfield 28, 3) := by decide +kernel
theorem dX2_writerAhead_58 : decode cX2_writerAhead 58 = .ok (.iload 5, 2) := by decide +kernel
theorem dX2_writerAhead_60 : decode cX2_writerAhead 60 = .ok (.iaload, 1) := by decide +kernel
theorem dX2_writerAhead_61 : decode cX2_writerAhead 61 = .ok (.iload 4, 2) := by decide +kernel
theorem dX2_writerAhead_63 : decode cX2_writerAhead 63 = .ok (.if_icmp .le 15, 3) := by decide +kernel
theorem dX2_writerAhead_66 : decode cX2_writerAhead 66 = .ok (.iload 5, 2) := by decide +kernel
theorem dX2_writerAhead_68 : decode cX2_writerAhead 68 = .ok (.istore_n 3, 1) := by decide +kernel
theorem dX2_writerAhead_69 : decode cX2_writerAhead 69 = .ok (.aload_n 0, 1) := by decide +kernel
theorem dX2_writerAhead_70 : decode cX2_writerAhead 70 = .ok (.getfield 28, 3) := by decide +kernel
theorem dX2_writerAhead_73 : decode cX2_writerAhead 73 = .ok (.iload 5, 2) := by decide +kernel
theorem dX2_writerAhead_75 : decode cX2_writerAhead 75 = .ok (.iaload, 1) := by decide +kernel
theorem dX2_writerAhead_76 : decode cX2_writerAhead 76 = .ok (.istore 4, 2) := by decide +kernel
theorem dX2_writerAhead_78 : decode cX2_writerAhead 78 = .ok (.iinc 5 1, 3) := by decide +kernel
theorem dX2_writerAhead_81 : decode cX2_writerAhead 81 = .ok (.goto (-72), 3) := by decide +kernel
theorem dX2_writerAhead_84 : decode cX2_writerAhead 84 = .ok (.iload_n 3, 1) := by decide +kernel
theorem dX2_writerAhead_85 : decode cX2_writerAhead 85 = .ok (.ireturn, 1) := by decide +kernel
set_option maxRecDepth 20000 in
theorem ggX2_writerBehind_X5_contains : GoodIn wsX2_writerBehind wsX5_contains := goodIn_r _ [8] (by decide +kernel) (by decide +kernel)
set_option maxRecDepth 20000 in
theorem gX2_writerBehind_X5_contains_n59 : GoodIn wsX2_writerBehind (wsX5_contains) := ggX2_writerBehind_X5_contains
theorem dX2_writerBehind_0 : decode cX2_writerBehind 0 = .ok (.bipush (-6), 2) := by decide +kernel
theorem dX2_writerBehind_2 : decode cX2_writerBehind 2 = .ok (.istore_n 3, 1) := by decide +kernel
theorem dX2_writerBehind_3 : decode cX2_writerBehind 3 = .ok (.aload_n 0, 1) := by decide +kernel
theorem dX2_writerBehind_4 : decode cX2_writerBehind 4 = .ok (.getfield 15, 3) := by decide +kernel
theorem dX2_writerBehind_7 : decode cX2_writerBehind 7 = .ok (.iconst 1, 1) := by decide +kernel
theorem dX2_writerBehind_8 : decode cX2_writerBehind 8 = .ok (.iadd, 1) := by decide +kernel
theorem dX2_writerBehind_9 : decode cX2_writerBehind 9 = .ok (.istore 4, 2) := by decide +kernel
theorem dX2_writerBehind_11 : decode cX2_writerBehind 11 = .ok (.iconst 0, 1) := by decide +kernel
theorem dX2_writerBehind_12 : decode cX2_writerBehind 12 = .ok (.istore 5, 2) := by decide +kernel
theorem dX2_writerBehind_14 : decode cX2_writerBehind 14 = .ok (.iload 5, 2) := by decide +kernel
theorem dX2_writerBehind_16 : decode cX2_writerBehind 16 = .ok (.aload_n 0, 1) := by decide +kernel
theorem dX2_writerBehind_17 : decode cX2_writerBehind 17 = .ok (.getfield 18, 3) := by decide +kernel
theorem dX2_writerBehind_20 : decode cX2_writerBehind 20 = .ok (.if_icmp .ge 69, 3) := by decide +kernel
theorem dX2_writerBehind_23 : decode cX2_writerBehind 23 = .ok (.aload_n 0, 1) := by decide +kernel
theorem dX2_writerBehind_24 : decode cX2_writerBehind 24 = .ok (.getfield 21, 3) := by decide +kernel
theorem dX2_writerBehind_27 : decode cX2_writerBehind 27 = .ok (.iload 5, 2) := by decide +kernel
theorem dX2_writerBehind_29 : decode cX2_writerBehind 29 = .ok (.iaload, 1) := by decide +kernel
theorem dX2_writerBehind_30 : decode cX2_writerBehind 30 = .ok (.iconst 1, 1) := by decide +kernel
theorem dX2_writerBehind_31 : decode cX2_writerBehind 31 = .ok (.if_icmp .ne 52, 3) := by decide +kernel
theorem dX2_writerBehind_34 : decode cX2_writerBehind 34 = .ok (.aload_n 0, 1) := by decide +kernel
theorem dX2_writerBehind_35 : decode cX2_writerBehind 35 = .ok (.getfield 34, 3) := by decide +kernel
theorem dX2_writerBehind_38 : decode cX2_writerBehind 38 = .ok (.iload 5, 2) := by decide +kernel
theorem dX2_writerBehind_40 : decode cX2_writerBehind 40 = .ok (.iaload, 1) := by decide +kernel
theorem dX2_writerBehind_41 : decode cX2_writerBehind 41 = .ok (.iload_n 1, 1) := by decide +kernel
theorem dX2_writerBehind_42 : decode cX2_writerBehind 42 = .ok (.invokestatic 59, 3) := by decide +kernel
theorem dX2_writerBehind_45 : decode cX2_writerBehind 45 = .ok (.ifCond .eq 38, 3) := by decide +kernel
theorem dX2_writerBehind_48 : decode cX2_writerBehind 48 = .ok (.aload_n 0, 1) := by decide +kernel
theorem dX2_writerBehind_49 : decode cX2_writerBehind 49 = .ok (.getfield 28, 3) := by decide +kernel
theorem dX2_writerBehind_52 : decode cX2_writerBehind 52 = .ok (.iload 5, 2) := by decide +kernel
theorem dX2_writerBehind_54 : decode cX2_writerBehind 54 = .ok (.iaload, 1) := by decide +kernel
theorem dX2_writerBehind_55 : decode cX2_writerBehind 55 = .ok (.iload_n 2, 1) := by decide +kernel
theorem dX2_writerBehind_56 : decode cX2_writerBehind 56 = .ok (.if_icmp .le 27, 3) := by decide +kernel
theorem dX2_writerBehind_59 : decode cX2_writerBehind 59 = .ok (.aload_n 0, 1) := by decide +kernel
theorem dX2_writerBehind_60 : decode cX2_writerBehind 60 = .ok (.getfield 28, 3) := by decide +kernel
theorem dX2_writerBehind_63 : decode cX2_writerBehind 63 = .ok (.iload 5, 2) := by decide +kernel
theorem dX2_writerBehind_65 : decode cX2_writerBehind 65 = .ok (.iaload, 1) := by decide +kernel
theorem dX2_writerBehind_66 : decode cX2_writerBehind 66 = .ok (.iload 4, 2) := by decide +kernel
theorem dX2_writerBehind_68 : decode cX2_writerBehind 68 = .ok (.if_icmp .ge 15, 3) := by decide +kernel
theorem dX2_writerBehind_71 : decode cX2_writerBehind 71 = .ok (.iload 5, 2) := by decide +kernel
theorem dX2_writerBehind_73 : decode cX2_writerBehind 73 = .ok (.istore_n 3, 1) := by decide +kernel
theorem dX2_writerBehind_74 : decode cX2_writerBehind 74 = .ok (.aload_n 0, 1) := by decide +kernel
theorem dX2_writerBehind_75 : decode cX2_writerBehind 75 = .ok (.getfield 28, 3) := by decide +kernel
theorem dX2_writerBehind_78 : decode cX2_writerBehind 78 = .ok (.iload 5, 2) := by decide +kernel
theorem dX2_writerBehind_80 : decode cX2_writerBehind 80 = .ok (.iaload, 1) := by decide +kernel
theorem dX2_writerBehind_81 : decode cX2_writerBehind 81 = .ok (.istore 4, 2) := by decide +kernel
theorem dX2_writerBehind_83 : decode cX2_writerBehind 83 = .ok (.iinc 5 1, 3) := by decide +kernel
theorem dX2_writerBehind_86 : decode cX2_writerBehind 86 = .ok (.goto (-72), 3) := by decide +kernel
theorem dX2_writerBehind_89 : decode cX2_writerBehind 89 = .ok (.iload_n 3, 1) := by decide +kernel
theorem dX2_writerBehind_90 : decode cX2_writerBehind 90 = .ok (.ireturn, 1) := by decide +kernel
set_option maxRecDepth 20000 in
theorem ggX2_seenWriter_X5_contains : GoodIn wsX2_seenWriter wsX5_contains := goodIn_r _ [5] (by decide +kernel) (by decide +kernel)
set_option maxRecDepth 20000 in
theorem gX2_seenWriter_X5_contains_n59 : GoodIn wsX2_seenWriter (wsX5_contains) := ggX2_seenWriter_X5_contains
set_option maxRecDepth 20000 in
theorem ggX2_seenWriter_X2_writerAhead : GoodIn wsX2_seenWriter wsX2_writerAhead := goodIn_r _ [10, 11, 12, 1, 13, 3, 4, 5, 14, 15, 16, 17, 18, 19, 20, 21, 22, 23] (by decide +kernel) (by decide +kernel)
set_option maxRecDepth 20000 in
theorem gX2_seenWriter_X2_writerAhead : GoodIn wsX2_seenWriter (wsV RX2 85 RX2 yX2_writerAhead wsX2_writerAhead) := goodIn_app (goodIn_of _ (by decide +kernel)) ggX2_seenWriter_X2_writerAhead
theorem dX2_seenWriter_0 : decode cX2_seenWriter 0 = .ok (.aload_n 0, 1) := by decide +kernel
theorem dX2_seenWriter_1 : decode cX2_seenWriter 1 = .ok (.getfield 34, 3) := by decide +kernel
theorem dX2_seenWriter_4 : decode cX2_seenWriter 4 = .ok (.iload_n 1, 1) := by decide +kernel
theorem dX2_seenWriter_5 : decode cX2_seenWriter 5 = .ok (.iaload, 1) := by decide +kernel
theorem dX2_seenWriter_6 : decode cX2_seenWriter 6 = .ok (.iload_n 2, 1) := by decide +kernel
theorem dX2_seenWriter_7 : decode cX2_seenWriter 7 = .ok (.invokestatic 59, 3) := by decide +kernel
theorem dX2_seenWriter_10 : decode cX2_seenWriter 10 = .ok (.ifCond .eq 5, 3) := by decide +kernel
theorem dX2_seenWriter_13 : decode cX2_seenWriter 13 = .ok (.iload_n 1, 1) := by decide +kernel
theorem dX2_seenWriter_14 : decode cX2_seenWriter 14 = .ok (.ireturn, 1) := by decide +kernel
theorem dX2_seenWriter_15 : decode cX2_seenWriter 15 = .ok (.aload_n 0, 1) := by decide +kernel
theorem dX2_seenWriter_16 : decode cX2_seenWriter 16 = .ok (.iload_n 2, 1) := by decide +kernel
theorem dX2_seenWriter_17 : decode cX2_seenWriter 17 = .ok (.aload_n 0, 1) := by decide +kernel
theorem dX2_seenWriter_18 : decode cX2_seenWriter 18 = .ok (.getfield 25, 3) := by decide +kernel
theorem dX2_seenWriter_21 : decode cX2_seenWriter 21 = .ok (.iload_n 1, 1) := by decide +kernel
theorem dX2_seenWriter_22 : decode cX2_seenWriter 22 = .ok (.iaload, 1) := by decide +kernel
theorem dX2_seenWriter_23 : decode cX2_seenWriter 23 = .ok (.invokevirtual 85, 3) := by decide +kernel
theorem dX2_seenWriter_26 : decode cX2_seenWriter 26 = .ok (.ireturn, 1) := by decide +kernel
set_option maxRecDepth 20000 in
theorem ggX2_valueOfVersion_X2_exists : GoodIn wsX2_valueOfVersion wsX2_exists := goodIn_r _ [6, 7, 8, 9, 10, 11, 12, 13, 14, 15, 16, 17] (by decide +kernel) (by decide +kernel)
set_option maxRecDepth 20000 in
theorem gX2_valueOfVersion_X2_exists : GoodIn wsX2_valueOfVersion (wsV RX2 53 RX2 yX2_exists wsX2_exists) := goodIn_app (goodIn_of _ (by decide +kernel)) ggX2_valueOfVersion_X2_exists
theorem dX2_valueOfVersion_0 : decode cX2_valueOfVersion 0 = .ok (.aload_n 0, 1) := by decide +kernel
theorem dX2_valueOfVersion_1 : decode cX2_valueOfVersion 1 = .ok (.iload_n 1, 1) := by decide +kernel
theorem dX2_valueOfVersion_2 : decode cX2_valueOfVersion 2 = .ok (.invokevirtual 53, 3) := by decide +kernel
theorem dX2_valueOfVersion_5 : decode cX2_valueOfVersion 5 = .ok (.ifCond .eq 17, 3) := by decide +kernel
theorem dX2_valueOfVersion_8 : decode cX2_valueOfVersion 8 = .ok (.aload_n 0, 1) := by decide +kernel
theorem dX2_valueOfVersion_9 : decode cX2_valueOfVersion 9 = .ok (.getfield 40, 3) := by decide +kernel
theorem dX2_valueOfVersion_12 : decode cX2_valueOfVersion 12 = .ok (.iload_n 1, 1) := by decide +kernel
theorem dX2_valueOfVersion_13 : decode cX2_valueOfVersion 13 = .ok (.bipush 16, 2) := by decide +kernel
theorem dX2_valueOfVersion_15 : decode cX2_valueOfVersion 15 = .ok (.imul, 1) := by decide +kernel
theorem dX2_valueOfVersion_16 : decode cX2_valueOfVersion 16 = .ok (.iload_n 2, 1) := by decide +kernel
theorem dX2_valueOfVersion_17 : decode cX2_valueOfVersion 17 = .ok (.iadd, 1) := by decide +kernel
theorem dX2_valueOfVersion_18 : decode cX2_valueOfVersion 18 = .ok (.iaload, 1) := by decide +kernel
theorem dX2_valueOfVersion_19 : decode cX2_valueOfVersion 19 = .ok (.goto 4, 3) := by decide +kernel
theorem dX2_valueOfVersion_22 : decode cX2_valueOfVersion 22 = .ok (.iconst 0, 1) := by decide +kernel
theorem dX2_valueOfVersion_23 : decode cX2_valueOfVersion 23 = .ok (.ireturn, 1) := by decide +kernel
theorem dX2_edgeKeys_0 : decode cX2_edgeKeys 0 = .ok (.iload_n 1, 1) := by decide +kernel
theorem dX2_edgeKeys_1 : decode cX2_edgeKeys 1 = .ok (.iload_n 2, 1) := by decide +kernel
theorem dX2_edgeKeys_2 : decode cX2_edgeKeys 2 = .ok (.if_icmp .eq 23, 3) := by decide +kernel
theorem dX2_edgeKeys_5 : decode cX2_edgeKeys 5 = .ok (.aload_n 0, 1) := by decide +kernel
theorem dX2_edgeKeys_6 : decode cX2_edgeKeys 6 = .ok (.getfield 21, 3) := by decide +kernel
theorem dX2_edgeKeys_9 : decode cX2_edgeKeys 9 = .ok (.iload_n 1, 1) := by decide +kernel
theorem dX2_edgeKeys_10 : decode cX2_edgeKeys 10 = .ok (.iaload, 1) := by decide +kernel
theorem dX2_edgeKeys_11 : decode cX2_edgeKeys 11 = .ok (.iconst 2, 1) := by decide +kernel
theorem dX2_edgeKeys_12 : decode cX2_edgeKeys 12 = .ok (.if_icmp .eq 13, 3) := by decide +kernel
theorem dX2_edgeKeys_15 : decode cX2_edgeKeys 15 = .ok (.aload_n 0, 1) := by decide +kernel
theorem dX2_edgeKeys_16 : decode cX2_edgeKeys 16 = .ok (.getfield 21, 3) := by decide +kernel
theorem dX2_edgeKeys_19 : decode cX2_edgeKeys 19 = .ok (.iload_n 2, 1) := by decide +kernel
theorem dX2_edgeKeys_20 : decode cX2_edgeKeys 20 = .ok (.iaload, 1) := by decide +kernel
theorem dX2_edgeKeys_21 : decode cX2_edgeKeys 21 = .ok (.iconst 2, 1) := by decide +kernel
theorem dX2_edgeKeys_22 : decode cX2_edgeKeys 22 = .ok (.if_icmp .ne 5, 3) := by decide +kernel
theorem dX2_edgeKeys_25 : decode cX2_edgeKeys 25 = .ok (.iconst 0, 1) := by decide +kernel
theorem dX2_edgeKeys_26 : decode cX2_edgeKeys 26 = .ok (.ireturn, 1) := by decide +kernel
theorem dX2_edgeKeys_27 : decode cX2_edgeKeys 27 = .ok (.aload_n 0, 1) := by decide +kernel
theorem dX2_edgeKeys_28 : decode cX2_edgeKeys 28 = .ok (.getfield 21, 3) := by decide +kernel
theorem dX2_edgeKeys_31 : decode cX2_edgeKeys 31 = .ok (.iload_n 1, 1) := by decide +kernel
theorem dX2_edgeKeys_32 : decode cX2_edgeKeys 32 = .ok (.iaload, 1) := by decide +kernel
theorem dX2_edgeKeys_33 : decode cX2_edgeKeys 33 = .ok (.iconst 1, 1) := by decide +kernel
theorem dX2_edgeKeys_34 : decode cX2_edgeKeys 34 = .ok (.if_icmp .ne 20, 3) := by decide +kernel
theorem dX2_edgeKeys_37 : decode cX2_edgeKeys 37 = .ok (.aload_n 0, 1) := by decide +kernel
theorem dX2_edgeKeys_38 : decode cX2_edgeKeys 38 = .ok (.getfield 28, 3) := by decide +kernel
theorem dX2_edgeKeys_41 : decode cX2_edgeKeys 41 = .ok (.iload_n 1, 1) := by decide +kernel
theorem dX2_edgeKeys_42 : decode cX2_edgeKeys 42 = .ok (.iaload, 1) := by decide +kernel
theorem dX2_edgeKeys_43 : decode cX2_edgeKeys 43 = .ok (.aload_n 0, 1) := by decide +kernel
theorem dX2_edgeKeys_44 : decode cX2_edgeKeys 44 = .ok (.getfield 25, 3) := by decide +kernel
theorem dX2_edgeKeys_47 : decode cX2_edgeKeys 47 = .ok (.iload_n 2, 1) := by decide +kernel
theorem dX2_edgeKeys_48 : decode cX2_edgeKeys 48 = .ok (.iaload, 1) := by decide +kernel
theorem dX2_edgeKeys_49 : decode cX2_edgeKeys 49 = .ok (.if_icmp .ge 5, 3) := by decide +kernel
theorem dX2_edgeKeys_52 : decode cX2_edgeKeys 52 = .ok (.iconst 0, 1) := by decide +kernel
theorem dX2_edgeKeys_53 : decode cX2_edgeKeys 53 = .ok (.ireturn, 1) := by decide +kernel
theorem dX2_edgeKeys_54 : decode cX2_edgeKeys 54 = .ok (.aload_n 0, 1) := by decide +kernel
theorem dX2_edgeKeys_55 : decode cX2_edgeKeys 55 = .ok (.getfield 21, 3) := by decide +kernel
theorem dX2_edgeKeys_58 : decode cX2_edgeKeys 58 = .ok (.iload_n 2, 1) := by decide +kernel
theorem dX2_edgeKeys_59 : decode cX2_edgeKeys 59 = .ok (.iaload, 1) := by decide +kernel
theorem dX2_edgeKeys_60 : decode cX2_edgeKeys 60 = .ok (.iconst 1, 1) := by decide +kernel
theorem dX2_edgeKeys_61 : decode cX2_edgeKeys 61 = .ok (.if_icmp .ne 20, 3) := by decide +kernel
theorem dX2_edgeKeys_64 : decode cX2_edgeKeys 64 = .ok (.aload_n 0, 1) := by decide +kernel
theorem dX2_edgeKeys_65 : decode cX2_edgeKeys 65 = .ok (.getfield 28, 3) := by decide +kernel
theorem dX2_edgeKeys_68 : decode cX2_edgeKeys 68 = .ok (.iload_n 2, 1) := by decide +kernel
theorem dX2_edgeKeys_69 : decode cX2_edgeKeys 69 = .ok (.iaload, 1) := by decide +kernel
theorem dX2_edgeKeys_70 : decode cX2_edgeKeys 70 = .ok (.aload_n 0, 1) := by decide +kernel
theorem dX2_edgeKeys_71 : decode cX2_edgeKeys 71 = .ok (.getfield 25, 3) := by decide +kernel
theorem dX2_edgeKeys_74 : decode cX2_edgeKeys 74 = .ok (.iload_n 1, 1) := by decide +kernel
theorem dX2_edgeKeys_75 : decode cX2_edgeKeys 75 = .ok (.iaload, 1) := by decide +kernel
theorem dX2_edgeKeys_76 : decode cX2_edgeKeys 76 = .ok (.if_icmp .ge 5, 3) := by decide +kernel
theorem dX2_edgeKeys_79 : decode cX2_edgeKeys 79 = .ok (.iconst 0, 1) := by decide +kernel
theorem dX2_edgeKeys_80 : decode cX2_edgeKeys 80 = .ok (.ireturn, 1) := by decide +kernel
theorem dX2_edgeKeys_81 : decode cX2_edgeKeys 81 = .ok (.aload_n 0, 1) := by decide +kernel
theorem dX2_edgeKeys_82 : decode cX2_edgeKeys 82 = .ok (.getfield 31, 3) := by decide +kernel
theorem dX2_edgeKeys_85 : decode cX2_edgeKeys 85 = .ok (.iload_n 1, 1) := by decide +kernel
theorem dX2_edgeKeys_86 : decode cX2_edgeKeys 86 = .ok (.iaload, 1) := by decide +kernel
theorem dX2_edgeKeys_87 : decode cX2_edgeKeys 87 = .ok (.aload_n 0, 1) := by decide +kernel
theorem dX2_edgeKeys_88 : decode cX2_edgeKeys 88 = .ok (.getfield 34, 3) := by decide +kernel
theorem dX2_edgeKeys_91 : decode cX2_edgeKeys 91 = .ok (.iload_n 2, 1) := by decide +kernel
theorem dX2_edgeKeys_92 : decode cX2_edgeKeys 92 = .ok (.iaload, 1) := by decide +kernel
theorem dX2_edgeKeys_93 : decode cX2_edgeKeys 93 = .ok (.iand, 1) := by decide +kernel
theorem dX2_edgeKeys_94 : decode cX2_edgeKeys 94 = .ok (.ireturn, 1) := by decide +kernel
set_option maxRecDepth 20000 in
theorem ggX2_edgesFrom_X2_edgeKeys : GoodIn wsX2_edgesFrom wsX2_edgeKeys := goodIn_r _ [6, 7, 8, 9, 10, 11, 12, 13, 14, 15, 16, 17, 18, 19, 20, 21] (by decide +kernel) (by decide +kernel)
set_option maxRecDepth 20000 in
theorem gX2_edgesFrom_X2_edgeKeys : GoodIn wsX2_edgesFrom (wsV RX2 88 RX2 yX2_edgeKeys wsX2_edgeKeys) := goodIn_app (goodIn_of _ (by decide +kernel)) ggX2_edgesFrom_X2_edgeKeys
theorem dX2_edgesFrom_0 : decode cX2_edgesFrom 0 = .ok (.iconst 0, 1) := by decide +kernel
theorem dX2_edgesFrom_1 : decode cX2_edgesFrom 1 = .ok (.istore_n 2, 1) := by decide +kernel
theorem dX2_edgesFrom_2 : decode cX2_edgesFrom 2 = .ok (.iconst 0, 1) := by decide +kernel
theorem dX2_edgesFrom_3 : decode cX2_edgesFrom 3 = .ok (.istore_n 3, 1) := by decide +kernel
theorem dX2_edgesFrom_4 : decode cX2_edgesFrom 4 = .ok (.iload_n 3, 1) := by decide +kernel
theorem dX2_edgesFrom_5 : decode cX2_edgesFrom 5 = .ok (.aload_n 0, 1) := by decide +kernel
theorem dX2_edgesFrom_6 : decode cX2_edgesFrom 6 = .ok (.getfield 18, 3) := by decide +kernel
theorem dX2_edgesFrom_9 : decode cX2_edgesFrom 9 = .ok (.if_icmp .ge 24, 3) := by decide +kernel
theorem dX2_edgesFrom_12 : decode cX2_edgesFrom 12 = .ok (.aload_n 0, 1) := by decide +kernel
theorem dX2_edgesFrom_13 : decode cX2_edgesFrom 13 = .ok (.iload_n 1, 1) := by decide +kernel
theorem dX2_edgesFrom_14 : decode cX2_edgesFrom 14 = .ok (.iload_n 3, 1) := by decide +kernel
theorem dX2_edgesFrom_15 : decode cX2_edgesFrom 15 = .ok (.invokevirtual 88, 3) := by decide +kernel
theorem dX2_edgesFrom_18 : decode cX2_edgesFrom 18 = .ok (.ifCond .eq 9, 3) := by decide +kernel
theorem dX2_edgesFrom_21 : decode cX2_edgesFrom 21 = .ok (.iload_n 2, 1) := by decide +kernel
theorem dX2_edgesFrom_22 : decode cX2_edgesFrom 22 = .ok (.iconst 1, 1) := by decide +kernel
theorem dX2_edgesFrom_23 : decode cX2_edgesFrom 23 = .ok (.iload_n 3, 1) := by decide +kernel
theorem dX2_edgesFrom_24 : decode cX2_edgesFrom 24 = .ok (.ishl, 1) := by decide +kernel
theorem dX2_edgesFrom_25 : decode cX2_edgesFrom 25 = .ok (.ior, 1) := by decide +kernel
theorem dX2_edgesFrom_26 : decode cX2_edgesFrom 26 = .ok (.istore_n 2, 1) := by decide +kernel
theorem dX2_edgesFrom_27 : decode cX2_edgesFrom 27 = .ok (.iinc 3 1, 3) := by decide +kernel
theorem dX2_edgesFrom_30 : decode cX2_edgesFrom 30 = .ok (.goto (-26), 3) := by decide +kernel
theorem dX2_edgesFrom_33 : decode cX2_edgesFrom 33 = .ok (.iload_n 2, 1) := by decide +kernel
theorem dX2_edgesFrom_34 : decode cX2_edgesFrom 34 = .ok (.ireturn, 1) := by decide +kernel
set_option maxRecDepth 20000 in
theorem ggX2_edgesTo_X2_edgeKeys : GoodIn wsX2_edgesTo wsX2_edgeKeys := goodIn_r _ [6, 7, 8, 9, 10, 11, 12, 13, 14, 15, 16, 17, 18, 19, 20, 21] (by decide +kernel) (by decide +kernel)
set_option maxRecDepth 20000 in
theorem gX2_edgesTo_X2_edgeKeys : GoodIn wsX2_edgesTo (wsV RX2 88 RX2 yX2_edgeKeys wsX2_edgeKeys) := goodIn_app (goodIn_of _ (by decide +kernel)) ggX2_edgesTo_X2_edgeKeys
theorem dX2_edgesTo_0 : decode cX2_edgesTo 0 = .ok (.iconst 0, 1) := by decide +kernel
theorem dX2_edgesTo_1 : decode cX2_edgesTo 1 = .ok (.istore_n 2, 1) := by decide +kernel
theorem dX2_edgesTo_2 : decode cX2_edgesTo 2 = .ok (.iconst 0, 1) := by decide +kernel
theorem dX2_edgesTo_3 : decode cX2_edgesTo 3 = .ok (.istore_n 3, 1) := by decide +kernel
theorem dX2_edgesTo_4 : decode cX2_edgesTo 4 = .ok (.iload_n 3, 1) := by decide +kernel
theorem dX2_edgesTo_5 : decode cX2_edgesTo 5 = .ok (.aload_n 0, 1) := by decide +kernel
theorem dX2_edgesTo_6 : decode cX2_edgesTo 6 = .ok (.getfield 18, 3) := by decide +kernel
theorem dX2_edgesTo_9 : decode cX2_edgesTo 9 = .ok (.if_icmp .ge 24, 3) := by decide +kernel
theorem dX2_edgesTo_12 : decode cX2_edgesTo 12 = .ok (.aload_n 0, 1) := by decide +kernel
theorem dX2_edgesTo_13 : decode cX2_edgesTo 13 = .ok (.iload_n 3, 1) := by decide +kernel
theorem dX2_edgesTo_14 : decode cX2_edgesTo 14 = .ok (.iload_n 1, 1) := by decide +kernel
theorem dX2_edgesTo_15 : decode cX2_edgesTo 15 = .ok (.invokevirtual 88, 3) := by decide +kernel
theorem dX2_edgesTo_18 : decode cX2_edgesTo 18 = .ok (.ifCond .eq 9, 3) := by decide +kernel
theorem dX2_edgesTo_21 : decode cX2_edgesTo 21 = .ok (.iload_n 2, 1) := by decide +kernel
theorem dX2_edgesTo_22 : decode cX2_edgesTo 22 = .ok (.iconst 1, 1) := by decide +kernel
theorem dX2_edgesTo_23 : decode cX2_edgesTo 23 = .ok (.iload_n 3, 1) := by decide +kernel
theorem dX2_edgesTo_24 : decode cX2_edgesTo 24 = .ok (.ishl, 1) := by decide +kernel
theorem dX2_edgesTo_25 : decode cX2_edgesTo 25 = .ok (.ior, 1) := by decide +kernel
theorem dX2_edgesTo_26 : decode cX2_edgesTo 26 = .ok (.istore_n 2, 1) := by decide +kernel
theorem dX2_edgesTo_27 : decode cX2_edgesTo 27 = .ok (.iinc 3 1, 3) := by decide +kernel
theorem dX2_edgesTo_30 : decode cX2_edgesTo 30 = .ok (.goto (-26), 3) := by decide +kernel
theorem dX2_edgesTo_33 : decode cX2_edgesTo 33 = .ok (.iload_n 2, 1) := by decide +kernel
theorem dX2_edgesTo_34 : decode cX2_edgesTo 34 = .ok (.ireturn, 1) := by decide +kernel
set_option maxRecDepth 20000 in
theorem ggX2_edgeTotal_X2_edgesFrom : GoodIn wsX2_edgeTotal wsX2_edgesFrom := goodIn_r _ [6, 1, 7, 8, 9, 5, 10, 11, 12, 13, 14, 15, 23, 24, 25, 26, 27, 28, 29, 30, 31, 32] (by decide +kernel) (by decide +kernel)
set_option maxRecDepth 20000 in
theorem gX2_edgeTotal_X2_edgesFrom : GoodIn wsX2_edgeTotal (wsV RX2 91 RX2 yX2_edgesFrom wsX2_edgesFrom) := goodIn_app (goodIn_of _ (by decide +kernel)) ggX2_edgeTotal_X2_edgesFrom
set_option maxRecDepth 20000 in
theorem ggX2_edgeTotal_J6_bitCount_0f7a4 : GoodIn wsX2_edgeTotal wsJ6_bitCount_0f7a4 := goodIn_r _ [19, 20, 21, 22] (by decide +kernel) (by decide +kernel)
set_option maxRecDepth 20000 in
theorem gX2_edgeTotal_J6_bitCount_0f7a4 : GoodIn wsX2_edgeTotal (va_wsS RX2 80 yJ6_bitCount_0f7a4 wsJ6_bitCount_0f7a4) := goodIn_app (goodIn_of _ (by decide +kernel)) ggX2_edgeTotal_J6_bitCount_0f7a4
theorem dX2_edgeTotal_0 : decode cX2_edgeTotal 0 = .ok (.iconst 0, 1) := by decide +kernel
theorem dX2_edgeTotal_1 : decode cX2_edgeTotal 1 = .ok (.istore_n 1, 1) := by decide +kernel
theorem dX2_edgeTotal_2 : decode cX2_edgeTotal 2 = .ok (.iconst 0, 1) := by decide +kernel
theorem dX2_edgeTotal_3 : decode cX2_edgeTotal 3 = .ok (.istore_n 2, 1) := by decide +kernel
theorem dX2_edgeTotal_4 : decode cX2_edgeTotal 4 = .ok (.iload_n 2, 1) := by decide +kernel
theorem dX2_edgeTotal_5 : decode cX2_edgeTotal 5 = .ok (.aload_n 0, 1) := by decide +kernel
theorem dX2_edgeTotal_6 : decode cX2_edgeTotal 6 = .ok (.getfield 18, 3) := by decide +kernel
theorem dX2_edgeTotal_9 : decode cX2_edgeTotal 9 = .ok (.if_icmp .ge 20, 3) := by decide +kernel
theorem dX2_edgeTotal_12 : decode cX2_edgeTotal 12 = .ok (.iload_n 1, 1) := by decide +kernel
theorem dX2_edgeTotal_13 : decode cX2_edgeTotal 13 = .ok (.aload_n 0, 1) := by decide +kernel
theorem dX2_edgeTotal_14 : decode cX2_edgeTotal 14 = .ok (.iload_n 2, 1) := by decide +kernel
theorem dX2_edgeTotal_15 : decode cX2_edgeTotal 15 = .ok (.invokevirtual 91, 3) := by decide +kernel
theorem dX2_edgeTotal_18 : decode cX2_edgeTotal 18 = .ok (.invokestatic 80, 3) := by decide +kernel
theorem dX2_edgeTotal_21 : decode cX2_edgeTotal 21 = .ok (.iadd, 1) := by decide +kernel
theorem dX2_edgeTotal_22 : decode cX2_edgeTotal 22 = .ok (.istore_n 1, 1) := by decide +kernel
theorem dX2_edgeTotal_23 : decode cX2_edgeTotal 23 = .ok (.iinc 2 1, 3) := by decide +kernel
theorem dX2_edgeTotal_26 : decode cX2_edgeTotal 26 = .ok (.goto (-22), 3) := by decide +kernel
theorem dX2_edgeTotal_29 : decode cX2_edgeTotal 29 = .ok (.iload_n 1, 1) := by decide +kernel
theorem dX2_edgeTotal_30 : decode cX2_edgeTotal 30 = .ok (.ireturn, 1) := by decide +kernel
set_option maxRecDepth 20000 in
theorem ggX2_pivots_X2_edgesTo : GoodIn wsX2_pivots wsX2_edgesTo := goodIn_r _ [6, 1, 7, 8, 9, 5, 10, 11, 12, 13, 14, 15, 20, 21, 22, 23, 24, 25, 26, 27, 28, 29] (by decide +kernel) (by decide +kernel)
set_option maxRecDepth 20000 in
theorem gX2_pivots_X2_edgesTo : GoodIn wsX2_pivots (wsV RX2 94 RX2 yX2_edgesTo wsX2_edgesTo) := goodIn_app (goodIn_of _ (by decide +kernel)) ggX2_pivots_X2_edgesTo
set_option maxRecDepth 20000 in
theorem ggX2_pivots_X2_edgesFrom : GoodIn wsX2_pivots wsX2_edgesFrom := goodIn_r _ [19, 1, 7, 8, 9, 5, 10, 11, 12, 13, 14, 15, 20, 21, 22, 23, 24, 25, 26, 27, 28, 29] (by decide +kernel) (by decide +kernel)
set_option maxRecDepth 20000 in
theorem gX2_pivots_X2_edgesFrom : GoodIn wsX2_pivots (wsV RX2 91 RX2 yX2_edgesFrom wsX2_edgesFrom) := goodIn_app (goodIn_of _ (by decide +kernel)) ggX2_pivots_X2_edgesFrom
theorem dX2_pivots_0 : decode cX2_pivots 0 = .ok (.iconst 0, 1) := by decide +kernel
theorem dX2_pivots_1 : decode cX2_pivots 1 = .ok (.istore_n 1, 1) := by decide +kernel
theorem dX2_pivots_2 : decode cX2_pivots 2 = .ok (.iconst 0, 1) := by decide +kernel
theorem dX2_pivots_3 : decode cX2_pivots 3 = .ok (.istore_n 2, 1) := by decide +kernel
theorem dX2_pivots_4 : decode cX2_pivots 4 = .ok (.iload_n 2, 1) := by decide +kernel
theorem dX2_pivots_5 : decode cX2_pivots 5 = .ok (.aload_n 0, 1) := by decide +kernel
theorem dX2_pivots_6 : decode cX2_pivots 6 = .ok (.getfield 18, 3) := by decide +kernel
theorem dX2_pivots_9 : decode cX2_pivots 9 = .ok (.if_icmp .ge 31, 3) := by decide +kernel
theorem dX2_pivots_12 : decode cX2_pivots 12 = .ok (.aload_n 0, 1) := by decide +kernel
theorem dX2_pivots_13 : decode cX2_pivots 13 = .ok (.iload_n 2, 1) := by decide +kernel
theorem dX2_pivots_14 : decode cX2_pivots 14 = .ok (.invokevirtual 94, 3) := by decide +kernel
theorem dX2_pivots_17 : decode cX2_pivots 17 = .ok (.ifCond .eq 17, 3) := by decide +kernel
theorem dX2_pivots_20 : decode cX2_pivots 20 = .ok (.aload_n 0, 1) := by decide +kernel
theorem dX2_pivots_21 : decode cX2_pivots 21 = .ok (.iload_n 2, 1) := by decide +kernel
theorem dX2_pivots_22 : decode cX2_pivots 22 = .ok (.invokevirtual 91, 3) := by decide +kernel
theorem dX2_pivots_25 : decode cX2_pivots 25 = .ok (.ifCond .eq 9, 3) := by decide +kernel
theorem dX2_pivots_28 : decode cX2_pivots 28 = .ok (.iload_n 1, 1) := by decide +kernel
theorem dX2_pivots_29 : decode cX2_pivots 29 = .ok (.iconst 1, 1) := by decide +kernel
theorem dX2_pivots_30 : decode cX2_pivots 30 = .ok (.iload_n 2, 1) := by decide +kernel
theorem dX2_pivots_31 : decode cX2_pivots 31 = .ok (.ishl, 1) := by decide +kernel
theorem dX2_pivots_32 : decode cX2_pivots 32 = .ok (.ior, 1) := by decide +kernel
theorem dX2_pivots_33 : decode cX2_pivots 33 = .ok (.istore_n 1, 1) := by decide +kernel
theorem dX2_pivots_34 : decode cX2_pivots 34 = .ok (.iinc 2 1, 3) := by decide +kernel
theorem dX2_pivots_37 : decode cX2_pivots 37 = .ok (.goto (-33), 3) := by decide +kernel
theorem dX2_pivots_40 : decode cX2_pivots 40 = .ok (.iload_n 1, 1) := by decide +kernel
theorem dX2_pivots_41 : decode cX2_pivots 41 = .ok (.ireturn, 1) := by decide +kernel
set_option maxRecDepth 20000 in
theorem ggX2_tripleTotal_X2_edgesTo : GoodIn wsX2_tripleTotal wsX2_edgesTo := goodIn_r _ [6, 1, 7, 8, 9, 5, 10, 11, 12, 13, 14, 15, 27, 28, 29, 30, 31, 32, 33, 34, 35, 36] (by decide +kernel) (by decide +kernel)
set_option maxRecDepth 20000 in
theorem gX2_tripleTotal_X2_edgesTo : GoodIn wsX2_tripleTotal (wsV RX2 94 RX2 yX2_edgesTo wsX2_edgesTo) := goodIn_app (goodIn_of _ (by decide +kernel)) ggX2_tripleTotal_X2_edgesTo
set_option maxRecDepth 20000 in
theorem ggX2_tripleTotal_J6_bitCount_0f7a4 : GoodIn wsX2_tripleTotal wsJ6_bitCount_0f7a4 := goodIn_r _ [19, 20, 21, 22] (by decide +kernel) (by decide +kernel)
set_option maxRecDepth 20000 in
theorem gX2_tripleTotal_J6_bitCount_0f7a4 : GoodIn wsX2_tripleTotal (va_wsS RX2 80 yJ6_bitCount_0f7a4 wsJ6_bitCount_0f7a4) := goodIn_app (goodIn_of _ (by decide +kernel)) ggX2_tripleTotal_J6_bitCount_0f7a4
set_option maxRecDepth 20000 in
theorem ggX2_tripleTotal_X2_edgesFrom : GoodIn wsX2_tripleTotal wsX2_edgesFrom := goodIn_r _ [26, 1, 7, 8, 9, 5, 10, 11, 12, 13, 14, 15, 27, 28, 29, 30, 31, 32, 33, 34, 35, 36] (by decide +kernel) (by decide +kernel)
set_option maxRecDepth 20000 in
theorem gX2_tripleTotal_X2_edgesFrom : GoodIn wsX2_tripleTotal (wsV RX2 91 RX2 yX2_edgesFrom wsX2_edgesFrom) := goodIn_app (goodIn_of _ (by decide +kernel)) ggX2_tripleTotal_X2_edgesFrom
theorem dX2_tripleTotal_0 : decode cX2_tripleTotal 0 = .ok (.iconst 0, 1) := by decide +kernel
theorem dX2_tripleTotal_1 : decode cX2_tripleTotal 1 = .ok (.istore_n 1, 1) := by decide +kernel
theorem dX2_tripleTotal_2 : decode cX2_tripleTotal 2 = .ok (.iconst 0, 1) := by decide +kernel
theorem dX2_tripleTotal_3 : decode cX2_tripleTotal 3 = .ok (.istore_n 2, 1) := by decide +kernel
theorem dX2_tripleTotal_4 : decode cX2_tripleTotal 4 = .ok (.iload_n 2, 1) := by decide +kernel
theorem dX2_tripleTotal_5 : decode cX2_tripleTotal 5 = .ok (.aload_n 0, 1) := by decide +kernel
theorem dX2_tripleTotal_6 : decode cX2_tripleTotal 6 = .ok (.getfield 18, 3) := by decide +kernel
theorem dX2_tripleTotal_9 : decode cX2_tripleTotal 9 = .ok (.if_icmp .ge 29, 3) := by decide +kernel
theorem dX2_tripleTotal_12 : decode cX2_tripleTotal 12 = .ok (.iload_n 1, 1) := by decide +kernel
theorem dX2_tripleTotal_13 : decode cX2_tripleTotal 13 = .ok (.aload_n 0, 1) := by decide +kernel
theorem dX2_tripleTotal_14 : decode cX2_tripleTotal 14 = .ok (.iload_n 2, 1) := by decide +kernel
theorem dX2_tripleTotal_15 : decode cX2_tripleTotal 15 = .ok (.invokevirtual 94, 3) := by decide +kernel
theorem dX2_tripleTotal_18 : decode cX2_tripleTotal 18 = .ok (.invokestatic 80, 3) := by decide +kernel
theorem dX2_tripleTotal_21 : decode cX2_tripleTotal 21 = .ok (.aload_n 0, 1) := by decide +kernel
theorem dX2_tripleTotal_22 : decode cX2_tripleTotal 22 = .ok (.iload_n 2, 1) := by decide +kernel
theorem dX2_tripleTotal_23 : decode cX2_tripleTotal 23 = .ok (.invokevirtual 91, 3) := by decide +kernel
theorem dX2_tripleTotal_26 : decode cX2_tripleTotal 26 = .ok (.invokestatic 80, 3) := by decide +kernel
theorem dX2_tripleTotal_29 : decode cX2_tripleTotal 29 = .ok (.imul, 1) := by decide +kernel
theorem dX2_tripleTotal_30 : decode cX2_tripleTotal 30 = .ok (.iadd, 1) := by decide +kernel
theorem dX2_tripleTotal_31 : decode cX2_tripleTotal 31 = .ok (.istore_n 1, 1) := by decide +kernel
theorem dX2_tripleTotal_32 : decode cX2_tripleTotal 32 = .ok (.iinc 2 1, 3) := by decide +kernel
theorem dX2_tripleTotal_35 : decode cX2_tripleTotal 35 = .ok (.goto (-31), 3) := by decide +kernel
theorem dX2_tripleTotal_38 : decode cX2_tripleTotal 38 = .ok (.iload_n 1, 1) := by decide +kernel
theorem dX2_tripleTotal_39 : decode cX2_tripleTotal 39 = .ok (.ireturn, 1) := by decide +kernel
set_option maxRecDepth 20000 in
theorem ggX2_snapshot_X2_spoils : GoodIn wsX2_snapshot wsX2_spoils := goodIn_r _ [8, 2, 9, 10, 11, 12, 13, 7, 14, 15, 16, 17, 18, 3, 19, 1, 20, 21, 22, 23, 24, 25, 26, 27, 28, 29, 30, 31, 32] (by decide +kernel) (by decide +kernel)
set_option maxRecDepth 20000 in
theorem gX2_snapshot_X2_spoils : GoodIn wsX2_snapshot (wsV RX2 97 RX2 yX2_spoils wsX2_spoils) := goodIn_app (goodIn_of _ (by decide +kernel)) ggX2_snapshot_X2_spoils
theorem dX2_snapshot_0 : decode cX2_snapshot 0 = .ok (.aload_n 0, 1) := by decide +kernel
theorem dX2_snapshot_1 : decode cX2_snapshot 1 = .ok (.getfield 34, 3) := by decide +kernel
theorem dX2_snapshot_4 : decode cX2_snapshot 4 = .ok (.iload_n 1, 1) := by decide +kernel
theorem dX2_snapshot_5 : decode cX2_snapshot 5 = .ok (.iaload, 1) := by decide +kernel
theorem dX2_snapshot_6 : decode cX2_snapshot 6 = .ok (.ifCond .ne 13, 3) := by decide +kernel
theorem dX2_snapshot_9 : decode cX2_snapshot 9 = .ok (.aload_n 0, 1) := by decide +kernel
theorem dX2_snapshot_10 : decode cX2_snapshot 10 = .ok (.getfield 21, 3) := by decide +kernel
theorem dX2_snapshot_13 : decode cX2_snapshot 13 = .ok (.iload_n 1, 1) := by decide +kernel
theorem dX2_snapshot_14 : decode cX2_snapshot 14 = .ok (.iaload, 1) := by decide +kernel
theorem dX2_snapshot_15 : decode cX2_snapshot 15 = .ok (.iconst 2, 1) := by decide +kernel
theorem dX2_snapshot_16 : decode cX2_snapshot 16 = .ok (.if_icmp .ne 6, 3) := by decide +kernel
theorem dX2_snapshot_19 : decode cX2_snapshot 19 = .ok (.bipush (-6), 2) := by decide +kernel
theorem dX2_snapshot_21 : decode cX2_snapshot 21 = .ok (.ireturn, 1) := by decide +kernel
theorem dX2_snapshot_22 : decode cX2_snapshot 22 = .ok (.iconst 0, 1) := by decide +kernel
theorem dX2_snapshot_23 : decode cX2_snapshot 23 = .ok (.istore_n 2, 1) := by decide +kernel
theorem dX2_snapshot_24 : decode cX2_snapshot 24 = .ok (.iconst 0, 1) := by decide +kernel
theorem dX2_snapshot_25 : decode cX2_snapshot 25 = .ok (.istore_n 3, 1) := by decide +kernel
theorem dX2_snapshot_26 : decode cX2_snapshot 26 = .ok (.iload_n 3, 1) := by decide +kernel
theorem dX2_snapshot_27 : decode cX2_snapshot 27 = .ok (.iload_n 1, 1) := by decide +kernel
theorem dX2_snapshot_28 : decode cX2_snapshot 28 = .ok (.if_icmp .ge 39, 3) := by decide +kernel
theorem dX2_snapshot_31 : decode cX2_snapshot 31 = .ok (.aload_n 0, 1) := by decide +kernel
theorem dX2_snapshot_32 : decode cX2_snapshot 32 = .ok (.getfield 21, 3) := by decide +kernel
theorem dX2_snapshot_35 : decode cX2_snapshot 35 = .ok (.iload_n 3, 1) := by decide +kernel
theorem dX2_snapshot_36 : decode cX2_snapshot 36 = .ok (.iaload, 1) := by decide +kernel
theorem dX2_snapshot_37 : decode cX2_snapshot 37 = .ok (.ifCond .ne 8, 3) := by decide +kernel
theorem dX2_snapshot_40 : decode cX2_snapshot 40 = .ok (.iconst 1, 1) := by decide +kernel
theorem dX2_snapshot_41 : decode cX2_snapshot 41 = .ok (.istore_n 2, 1) := by decide +kernel
theorem dX2_snapshot_42 : decode cX2_snapshot 42 = .ok (.goto 19, 3) := by decide +kernel
theorem dX2_snapshot_45 : decode cX2_snapshot 45 = .ok (.aload_n 0, 1) := by decide +kernel
theorem dX2_snapshot_46 : decode cX2_snapshot 46 = .ok (.iload_n 3, 1) := by decide +kernel
theorem dX2_snapshot_47 : decode cX2_snapshot 47 = .ok (.aload_n 0, 1) := by decide +kernel
theorem dX2_snapshot_48 : decode cX2_snapshot 48 = .ok (.getfield 25, 3) := by decide +kernel
theorem dX2_snapshot_51 : decode cX2_snapshot 51 = .ok (.iload_n 1, 1) := by decide +kernel
theorem dX2_snapshot_52 : decode cX2_snapshot 52 = .ok (.iaload, 1) := by decide +kernel
theorem dX2_snapshot_53 : decode cX2_snapshot 53 = .ok (.invokevirtual 97, 3) := by decide +kernel
theorem dX2_snapshot_56 : decode cX2_snapshot 56 = .ok (.ifCond .eq 5, 3) := by decide +kernel
theorem dX2_snapshot_59 : decode cX2_snapshot 59 = .ok (.iconst 0, 1) := by decide +kernel
theorem dX2_snapshot_60 : decode cX2_snapshot 60 = .ok (.ireturn, 1) := by decide +kernel
theorem dX2_snapshot_61 : decode cX2_snapshot 61 = .ok (.iinc 3 1, 3) := by decide +kernel
theorem dX2_snapshot_64 : decode cX2_snapshot 64 = .ok (.goto (-38), 3) := by decide +kernel
theorem dX2_snapshot_67 : decode cX2_snapshot 67 = .ok (.iload_n 2, 1) := by decide +kernel
theorem dX2_snapshot_68 : decode cX2_snapshot 68 = .ok (.ifCond .eq 7, 3) := by decide +kernel
theorem dX2_snapshot_71 : decode cX2_snapshot 71 = .ok (.iconst 2, 1) := by decide +kernel
theorem dX2_snapshot_72 : decode cX2_snapshot 72 = .ok (.goto 4, 3) := by decide +kernel
theorem dX2_snapshot_75 : decode cX2_snapshot 75 = .ok (.iconst 1, 1) := by decide +kernel
theorem dX2_snapshot_76 : decode cX2_snapshot 76 = .ok (.ireturn, 1) := by decide +kernel
set_option maxRecDepth 20000 in
theorem ggX2_spoils_X2_edgesFrom : GoodIn wsX2_spoils wsX2_edgesFrom := goodIn_r _ [8, 3, 9, 10, 11, 7, 12, 1, 2, 13, 14, 15, 19, 20, 21, 22, 23, 24, 25, 26, 27, 28] (by decide +kernel) (by decide +kernel)
set_option maxRecDepth 20000 in
theorem gX2_spoils_X2_edgesFrom : GoodIn wsX2_spoils (wsV RX2 91 RX2 yX2_edgesFrom wsX2_edgesFrom) := goodIn_app (goodIn_of _ (by decide +kernel)) ggX2_spoils_X2_edgesFrom
set_option maxRecDepth 20000 in
theorem ggX2_spoils_X5_contains : GoodIn wsX2_spoils wsX5_contains := goodIn_r _ [18] (by decide +kernel) (by decide +kernel)
set_option maxRecDepth 20000 in
theorem gX2_spoils_X5_contains_n59 : GoodIn wsX2_spoils (wsX5_contains) := ggX2_spoils_X5_contains
theorem dX2_spoils_0 : decode cX2_spoils 0 = .ok (.aload_n 0, 1) := by decide +kernel
theorem dX2_spoils_1 : decode cX2_spoils 1 = .ok (.getfield 21, 3) := by decide +kernel
theorem dX2_spoils_4 : decode cX2_spoils 4 = .ok (.iload_n 1, 1) := by decide +kernel
theorem dX2_spoils_5 : decode cX2_spoils 5 = .ok (.iaload, 1) := by decide +kernel
theorem dX2_spoils_6 : decode cX2_spoils 6 = .ok (.iconst 1, 1) := by decide +kernel
theorem dX2_spoils_7 : decode cX2_spoils 7 = .ok (.if_icmp .ne 13, 3) := by decide +kernel
theorem dX2_spoils_10 : decode cX2_spoils 10 = .ok (.aload_n 0, 1) := by decide +kernel
theorem dX2_spoils_11 : decode cX2_spoils 11 = .ok (.getfield 28, 3) := by decide +kernel
theorem dX2_spoils_14 : decode cX2_spoils 14 = .ok (.iload_n 1, 1) := by decide +kernel
theorem dX2_spoils_15 : decode cX2_spoils 15 = .ok (.iaload, 1) := by decide +kernel
theorem dX2_spoils_16 : decode cX2_spoils 16 = .ok (.iload_n 2, 1) := by decide +kernel
theorem dX2_spoils_17 : decode cX2_spoils 17 = .ok (.if_icmp .ge 5, 3) := by decide +kernel
theorem dX2_spoils_20 : decode cX2_spoils 20 = .ok (.iconst 0, 1) := by decide +kernel
theorem dX2_spoils_21 : decode cX2_spoils 21 = .ok (.ireturn, 1) := by decide +kernel
theorem dX2_spoils_22 : decode cX2_spoils 22 = .ok (.aload_n 0, 1) := by decide +kernel
theorem dX2_spoils_23 : decode cX2_spoils 23 = .ok (.iload_n 1, 1) := by decide +kernel
theorem dX2_spoils_24 : decode cX2_spoils 24 = .ok (.invokevirtual 91, 3) := by decide +kernel
theorem dX2_spoils_27 : decode cX2_spoils 27 = .ok (.istore_n 3, 1) := by decide +kernel
theorem dX2_spoils_28 : decode cX2_spoils 28 = .ok (.iconst 0, 1) := by decide +kernel
theorem dX2_spoils_29 : decode cX2_spoils 29 = .ok (.istore 4, 2) := by decide +kernel
theorem dX2_spoils_31 : decode cX2_spoils 31 = .ok (.iload 4, 2) := by decide +kernel
theorem dX2_spoils_33 : decode cX2_spoils 33 = .ok (.aload_n 0, 1) := by decide +kernel
theorem dX2_spoils_34 : decode cX2_spoils 34 = .ok (.getfield 18, 3) := by decide +kernel
theorem dX2_spoils_37 : decode cX2_spoils 37 = .ok (.if_icmp .ge 42, 3) := by decide +kernel
theorem dX2_spoils_40 : decode cX2_spoils 40 = .ok (.iload_n 3, 1) := by decide +kernel
theorem dX2_spoils_41 : decode cX2_spoils 41 = .ok (.iload 4, 2) := by decide +kernel
theorem dX2_spoils_43 : decode cX2_spoils 43 = .ok (.invokestatic 59, 3) := by decide +kernel
theorem dX2_spoils_46 : decode cX2_spoils 46 = .ok (.ifCond .eq 27, 3) := by decide +kernel
theorem dX2_spoils_49 : decode cX2_spoils 49 = .ok (.aload_n 0, 1) := by decide +kernel
theorem dX2_spoils_50 : decode cX2_spoils 50 = .ok (.getfield 21, 3) := by decide +kernel
theorem dX2_spoils_53 : decode cX2_spoils 53 = .ok (.iload 4, 2) := by decide +kernel
theorem dX2_spoils_55 : decode cX2_spoils 55 = .ok (.iaload, 1) := by decide +kernel
theorem dX2_spoils_56 : decode cX2_spoils 56 = .ok (.iconst 1, 1) := by decide +kernel
theorem dX2_spoils_57 : decode cX2_spoils 57 = .ok (.if_icmp .ne 16, 3) := by decide +kernel
theorem dX2_spoils_60 : decode cX2_spoils 60 = .ok (.aload_n 0, 1) := by decide +kernel
theorem dX2_spoils_61 : decode cX2_spoils 61 = .ok (.getfield 28, 3) := by decide +kernel
theorem dX2_spoils_64 : decode cX2_spoils 64 = .ok (.iload 4, 2) := by decide +kernel
theorem dX2_spoils_66 : decode cX2_spoils 66 = .ok (.iaload, 1) := by decide +kernel
theorem dX2_spoils_67 : decode cX2_spoils 67 = .ok (.iload_n 2, 1) := by decide +kernel
theorem dX2_spoils_68 : decode cX2_spoils 68 = .ok (.if_icmp .ge 5, 3) := by decide +kernel
theorem dX2_spoils_71 : decode cX2_spoils 71 = .ok (.iconst 1, 1) := by decide +kernel
theorem dX2_spoils_72 : decode cX2_spoils 72 = .ok (.ireturn, 1) := by decide +kernel
theorem dX2_spoils_73 : decode cX2_spoils 73 = .ok (.iinc 4 1, 3) := by decide +kernel
theorem dX2_spoils_76 : decode cX2_spoils 76 = .ok (.goto (-45), 3) := by decide +kernel
theorem dX2_spoils_79 : decode cX2_spoils 79 = .ok (.iconst 0, 1) := by decide +kernel
theorem dX2_spoils_80 : decode cX2_spoils 80 = .ok (.ireturn, 1) := by decide +kernel
end
section
theorem dX3_init_0 : decode cX3_init 0 = .ok (.aload_n 0, 1) := by decide +kernel
theorem dX3_init_1 : decode cX3_init 1 = .ok (.invokespecial 3, 3) := by decide +kernel
theorem dX3_init_4 : decode cX3_init 4 = .ok (.aload_n 0, 1) := by decide +kernel
theorem dX3_init_5 : decode cX3_init 5 = .ok (.bipush 80, 2) := by decide +kernel
theorem dX3_init_7 : decode cX3_init 7 = .ok (.newarray .char, 2) := by decide +kernel
theorem dX3_init_9 : decode cX3_init 9 = .ok (.putfield 9, 3) := by decide +kernel
theorem dX3_init_12 : decode cX3_init 12 = .ok (.return_, 1) := by decide +kernel
theorem dX3_append_0 : decode cX3_append 0 = .ok (.lload_n 1, 1) := by decide +kernel
theorem dX3_append_1 : decode cX3_append 1 = .ok (.lstore_n 3, 1) := by decide +kernel
theorem dX3_append_2 : decode cX3_append 2 = .ok (.iconst 0, 1) := by decide +kernel
theorem dX3_append_3 : decode cX3_append 3 = .ok (.istore 5, 2) := by decide +kernel
theorem dX3_append_5 : decode cX3_append 5 = .ok (.iload 5, 2) := by decide +kernel
theorem dX3_append_7 : decode cX3_append 7 = .ok (.bipush 8, 2) := by decide +kernel
theorem dX3_append_9 : decode cX3_append 9 = .ok (.if_icmp .ge 51, 3) := by decide +kernel
theorem dX3_append_12 : decode cX3_append 12 = .ok (.lload_n 3, 1) := by decide +kernel
theorem dX3_append_13 : decode cX3_append 13 = .ok (.ldc2_w 15, 3) := by decide +kernel
theorem dX3_append_16 : decode cX3_append 16 = .ok (.land, 1) := by decide +kernel
theorem dX3_append_17 : decode cX3_append 17 = .ok (.lconst 0, 1) := by decide +kernel
theorem dX3_append_18 : decode cX3_append 18 = .ok (.lcmp, 1) := by decide +kernel
theorem dX3_append_19 : decode cX3_append 19 = .ok (.ifCond .eq 41, 3) := by decide +kernel
theorem dX3_append_22 : decode cX3_append 22 = .ok (.lload_n 3, 1) := by decide +kernel
theorem dX3_append_23 : decode cX3_append 23 = .ok (.ldc2_w 15, 3) := by decide +kernel
theorem dX3_append_26 : decode cX3_append 26 = .ok (.land, 1) := by decide +kernel
theorem dX3_append_27 : decode cX3_append 27 = .ok (.ldc2_w 17, 3) := by decide +kernel
theorem dX3_append_30 : decode cX3_append 30 = .ok (.lcmp, 1) := by decide +kernel
theorem dX3_append_31 : decode cX3_append 31 = .ok (.ifCond .lt 15, 3) := by decide +kernel
theorem dX3_append_34 : decode cX3_append 34 = .ok (.lload_n 3, 1) := by decide +kernel
theorem dX3_append_35 : decode cX3_append 35 = .ok (.ldc2_w 15, 3) := by decide +kernel
theorem dX3_append_38 : decode cX3_append 38 = .ok (.land, 1) := by decide +kernel
theorem dX3_append_39 : decode cX3_append 39 = .ok (.ldc2_w 19, 3) := by decide +kernel
theorem dX3_append_42 : decode cX3_append 42 = .ok (.lcmp, 1) := by decide +kernel
theorem dX3_append_43 : decode cX3_append 43 = .ok (.ifCond .le 6, 3) := by decide +kernel
theorem dX3_append_46 : decode cX3_append 46 = .ok (.bipush (-2), 2) := by decide +kernel
theorem dX3_append_48 : decode cX3_append 48 = .ok (.ireturn, 1) := by decide +kernel
theorem dX3_append_49 : decode cX3_append 49 = .ok (.lload_n 3, 1) := by decide +kernel
theorem dX3_append_50 : decode cX3_append 50 = .ok (.bipush 8, 2) := by decide +kernel
theorem dX3_append_52 : decode cX3_append 52 = .ok (.lushr, 1) := by decide +kernel
theorem dX3_append_53 : decode cX3_append 53 = .ok (.lstore_n 3, 1) := by decide +kernel
theorem dX3_append_54 : decode cX3_append 54 = .ok (.iinc 5 1, 3) := by decide +kernel
theorem dX3_append_57 : decode cX3_append 57 = .ok (.goto (-52), 3) := by decide +kernel
theorem dX3_append_60 : decode cX3_append 60 = .ok (.iload 5, 2) := by decide +kernel
theorem dX3_append_62 : decode cX3_append 62 = .ok (.ifCond .eq 9, 3) := by decide +kernel
theorem dX3_append_65 : decode cX3_append 65 = .ok (.lload_n 3, 1) := by decide +kernel
theorem dX3_append_66 : decode cX3_append 66 = .ok (.lconst 0, 1) := by decide +kernel
theorem dX3_append_67 : decode cX3_append 67 = .ok (.lcmp, 1) := by decide +kernel
theorem dX3_append_68 : decode cX3_append 68 = .ok (.ifCond .eq 6, 3) := by decide +kernel
theorem dX3_append_71 : decode cX3_append 71 = .ok (.bipush (-2), 2) := by decide +kernel
theorem dX3_append_73 : decode cX3_append 73 = .ok (.ireturn, 1) := by decide +kernel
theorem dX3_append_74 : decode cX3_append 74 = .ok (.aload_n 0, 1) := by decide +kernel
theorem dX3_append_75 : decode cX3_append 75 = .ok (.getfield 21, 3) := by decide +kernel
theorem dX3_append_78 : decode cX3_append 78 = .ok (.iload 5, 2) := by decide +kernel
theorem dX3_append_80 : decode cX3_append 80 = .ok (.iadd, 1) := by decide +kernel
theorem dX3_append_81 : decode cX3_append 81 = .ok (.bipush 80, 2) := by decide +kernel
theorem dX3_append_83 : decode cX3_append 83 = .ok (.if_icmp .le 6, 3) := by decide +kernel
theorem dX3_append_86 : decode cX3_append 86 = .ok (.bipush (-4), 2) := by decide +kernel
theorem dX3_append_88 : decode cX3_append 88 = .ok (.ireturn, 1) := by decide +kernel
theorem dX3_append_89 : decode cX3_append 89 = .ok (.iload 5, 2) := by decide +kernel
theorem dX3_append_91 : decode cX3_append 91 = .ok (.iconst 1, 1) := by decide +kernel
theorem dX3_append_92 : decode cX3_append 92 = .ok (.isub, 1) := by decide +kernel
theorem dX3_append_93 : decode cX3_append 93 = .ok (.istore 6, 2) := by decide +kernel
theorem dX3_append_95 : decode cX3_append 95 = .ok (.iload 6, 2) := by decide +kernel
theorem dX3_append_97 : decode cX3_append 97 = .ok (.ifCond .lt 41, 3) := by decide +kernel
theorem dX3_append_100 : decode cX3_append 100 = .ok (.aload_n 0, 1) := by decide +kernel
theorem dX3_append_101 : decode cX3_append 101 = .ok (.getfield 9, 3) := by decide +kernel
theorem dX3_append_104 : decode cX3_append 104 = .ok (.aload_n 0, 1) := by decide +kernel
theorem dX3_append_105 : decode cX3_append 105 = .ok (.getfield 21, 3) := by decide +kernel
theorem dX3_append_108 : decode cX3_append 108 = .ok (.lload_n 1, 1) := by decide +kernel
theorem dX3_append_109 : decode cX3_append 109 = .ok (.bipush 8, 2) := by decide +kernel
theorem dX3_append_111 : decode cX3_append 111 = .ok (.iload 6, 2) := by decide +kernel
theorem dX3_append_113 : decode cX3_append 113 = .ok (.imul, 1) := by decide +kernel
theorem dX3_append_114 : decode cX3_append 114 = .ok (.lushr, 1) := by decide +kernel
theorem dX3_append_115 : decode cX3_append 115 = .ok (.ldc2_w 15, 3) := by decide +kernel
theorem dX3_append_118 : decode cX3_append 118 = .ok (.land, 1) := by decide +kernel
theorem dX3_append_119 : decode cX3_append 119 = .ok (.l2i, 1) := by decide +kernel
theorem dX3_append_120 : decode cX3_append 120 = .ok (.i2c, 1) := by decide +kernel
theorem dX3_append_121 : decode cX3_append 121 = .ok (.castore, 1) := by decide +kernel
theorem dX3_append_122 : decode cX3_append 122 = .ok (.aload_n 0, 1) := by decide +kernel
theorem dX3_append_123 : decode cX3_append 123 = .ok (.dup, 1) := by decide +kernel
theorem dX3_append_124 : decode cX3_append 124 = .ok (.getfield 21, 3) := by decide +kernel
theorem dX3_append_127 : decode cX3_append 127 = .ok (.iconst 1, 1) := by decide +kernel
theorem dX3_append_128 : decode cX3_append 128 = .ok (.iadd, 1) := by decide +kernel
theorem dX3_append_129 : decode cX3_append 129 = .ok (.putfield 21, 3) := by decide +kernel
theorem dX3_append_132 : decode cX3_append 132 = .ok (.iinc 6 (-1), 3) := by decide +kernel
theorem dX3_append_135 : decode cX3_append 135 = .ok (.goto (-40), 3) := by decide +kernel
theorem dX3_append_138 : decode cX3_append 138 = .ok (.aload_n 0, 1) := by decide +kernel
theorem dX3_append_139 : decode cX3_append 139 = .ok (.getfield 21, 3) := by decide +kernel
theorem dX3_append_142 : decode cX3_append 142 = .ok (.ireturn, 1) := by decide +kernel
theorem dX3_empty_0 : decode cX3_empty 0 = .ok (.aload_n 0, 1) := by decide +kernel
theorem dX3_empty_1 : decode cX3_empty 1 = .ok (.getfield 21, 3) := by decide +kernel
theorem dX3_empty_4 : decode cX3_empty 4 = .ok (.istore_n 1, 1) := by decide +kernel
theorem dX3_empty_5 : decode cX3_empty 5 = .ok (.aload_n 0, 1) := by decide +kernel
theorem dX3_empty_6 : decode cX3_empty 6 = .ok (.iconst 0, 1) := by decide +kernel
theorem dX3_empty_7 : decode cX3_empty 7 = .ok (.putfield 21, 3) := by decide +kernel
theorem dX3_empty_10 : decode cX3_empty 10 = .ok (.iload_n 1, 1) := by decide +kernel
theorem dX3_empty_11 : decode cX3_empty 11 = .ok (.ireturn, 1) := by decide +kernel
theorem dX3_rewind_0 : decode cX3_rewind 0 = .ok (.aload_n 0, 1) := by decide +kernel
theorem dX3_rewind_1 : decode cX3_rewind 1 = .ok (.iconst 0, 1) := by decide +kernel
theorem dX3_rewind_2 : decode cX3_rewind 2 = .ok (.putfield 25, 3) := by decide +kernel
theorem dX3_rewind_5 : decode cX3_rewind 5 = .ok (.return_, 1) := by decide +kernel
set_option maxRecDepth 20000 in
theorem ggX3_firstFault_X3_rewind : GoodIn wsX3_firstFault wsX3_rewind := goodIn_r _ [7, 1, 42, 43, 44, 45, 46, 47, 48, 49] (by decide +kernel) (by decide +kernel)
set_option maxRecDepth 20000 in
theorem gX3_firstFault_X3_rewind : GoodIn wsX3_firstFault (wsV RX3 28 RX3 yX3_rewind wsX3_rewind) := goodIn_app (goodIn_of _ (by decide +kernel)) ggX3_firstFault_X3_rewind
set_option maxRecDepth 20000 in
theorem ggX3_firstFault_X3_passOrder : GoodIn wsX3_firstFault wsX3_passOrder := goodIn_r _ [11, 1, 2, 12, 13, 14, 15, 16, 6, 17, 18, 19, 20, 21, 22, 23, 24, 25, 26, 27, 28, 29, 30, 31, 32, 33, 34, 35, 36, 37, 38, 39, 40, 41, 42, 43, 44, 45, 46, 47, 48, 49] (by decide +kernel) (by decide +kernel)
set_option maxRecDepth 20000 in
theorem gX3_firstFault_X3_passOrder : GoodIn wsX3_firstFault (wsV RX3 31 RX3 yX3_passOrder wsX3_passOrder) := goodIn_app (goodIn_of _ (by decide +kernel)) ggX3_firstFault_X3_passOrder
set_option maxRecDepth 20000 in
theorem ggX3_firstFault_X3_passSign : GoodIn wsX3_firstFault wsX3_passSign := goodIn_r _ [31, 1, 2, 12, 42, 43, 44, 45, 46, 47, 48, 49] (by decide +kernel) (by decide +kernel)
set_option maxRecDepth 20000 in
theorem gX3_firstFault_X3_passSign : GoodIn wsX3_firstFault (wsV RX3 35 RX3 yX3_passSign wsX3_passSign) := goodIn_app (goodIn_of _ (by decide +kernel)) ggX3_firstFault_X3_passSign
theorem dX3_firstFault_0 : decode cX3_firstFault 0 = .ok (.aload_n 0, 1) := by decide +kernel
theorem dX3_firstFault_1 : decode cX3_firstFault 1 = .ok (.invokevirtual 28, 3) := by decide +kernel
theorem dX3_firstFault_4 : decode cX3_firstFault 4 = .ok (.iconst 0, 1) := by decide +kernel
theorem dX3_firstFault_5 : decode cX3_firstFault 5 = .ok (.istore_n 1, 1) := by decide +kernel
theorem dX3_firstFault_6 : decode cX3_firstFault 6 = .ok (.iload_n 1, 1) := by decide +kernel
theorem dX3_firstFault_7 : decode cX3_firstFault 7 = .ok (.bipush 80, 2) := by decide +kernel
theorem dX3_firstFault_9 : decode cX3_firstFault 9 = .ok (.if_icmp .ge 44, 3) := by decide +kernel
theorem dX3_firstFault_12 : decode cX3_firstFault 12 = .ok (.aload_n 0, 1) := by decide +kernel
theorem dX3_firstFault_13 : decode cX3_firstFault 13 = .ok (.invokevirtual 31, 3) := by decide +kernel
theorem dX3_firstFault_16 : decode cX3_firstFault 16 = .ok (.ifCond .eq 37, 3) := by decide +kernel
theorem dX3_firstFault_19 : decode cX3_firstFault 19 = .ok (.aload_n 0, 1) := by decide +kernel
theorem dX3_firstFault_20 : decode cX3_firstFault 20 = .ok (.getfield 25, 3) := by decide +kernel
theorem dX3_firstFault_23 : decode cX3_firstFault 23 = .ok (.aload_n 0, 1) := by decide +kernel
theorem dX3_firstFault_24 : decode cX3_firstFault 24 = .ok (.getfield 21, 3) := by decide +kernel
theorem dX3_firstFault_27 : decode cX3_firstFault 27 = .ok (.if_icmp .ne 6, 3) := by decide +kernel
theorem dX3_firstFault_30 : decode cX3_firstFault 30 = .ok (.bipush (-6), 2) := by decide +kernel
theorem dX3_firstFault_32 : decode cX3_firstFault 32 = .ok (.ireturn, 1) := by decide +kernel
theorem dX3_firstFault_33 : decode cX3_firstFault 33 = .ok (.aload_n 0, 1) := by decide +kernel
theorem dX3_firstFault_34 : decode cX3_firstFault 34 = .ok (.bipush 59, 2) := by decide +kernel
theorem dX3_firstFault_36 : decode cX3_firstFault 36 = .ok (.invokevirtual 35, 3) := by decide +kernel
theorem dX3_firstFault_39 : decode cX3_firstFault 39 = .ok (.ifCond .ne 8, 3) := by decide +kernel
theorem dX3_firstFault_42 : decode cX3_firstFault 42 = .ok (.aload_n 0, 1) := by decide +kernel
theorem dX3_firstFault_43 : decode cX3_firstFault 43 = .ok (.getfield 25, 3) := by decide +kernel
theorem dX3_firstFault_46 : decode cX3_firstFault 46 = .ok (.ireturn, 1) := by decide +kernel
theorem dX3_firstFault_47 : decode cX3_firstFault 47 = .ok (.iinc 1 1, 3) := by decide +kernel
theorem dX3_firstFault_50 : decode cX3_firstFault 50 = .ok (.goto (-44), 3) := by decide +kernel
theorem dX3_firstFault_53 : decode cX3_firstFault 53 = .ok (.aload_n 0, 1) := by decide +kernel
theorem dX3_firstFault_54 : decode cX3_firstFault 54 = .ok (.getfield 25, 3) := by decide +kernel
theorem dX3_firstFault_57 : decode cX3_firstFault 57 = .ok (.ireturn, 1) := by decide +kernel
set_option maxRecDepth 20000 in
theorem ggX3_passOrder_X3_passFirst : GoodIn wsX3_passOrder wsX3_passFirst := goodIn_r _ [9, 10, 11, 12, 13, 14, 8, 15, 3, 1, 16, 17, 18, 19, 2, 34, 35, 36, 37, 38, 39, 40, 41] (by decide +kernel) (by decide +kernel)
set_option maxRecDepth 20000 in
theorem gX3_passOrder_X3_passFirst : GoodIn wsX3_passOrder (wsV RX3 42 RX3 yX3_passFirst wsX3_passFirst) := goodIn_app (goodIn_of _ (by decide +kernel)) ggX3_passOrder_X3_passFirst
set_option maxRecDepth 20000 in
theorem ggX3_passOrder_X3_passSign : GoodIn wsX3_passOrder wsX3_passSign := goodIn_r _ [23, 1, 2, 3, 34, 35, 36, 37, 38, 39, 40, 41] (by decide +kernel) (by decide +kernel)
set_option maxRecDepth 20000 in
theorem gX3_passOrder_X3_passSign : GoodIn wsX3_passOrder (wsV RX3 35 RX3 yX3_passSign wsX3_passSign) := goodIn_app (goodIn_of _ (by decide +kernel)) ggX3_passOrder_X3_passSign
set_option maxRecDepth 20000 in
theorem ggX3_passOrder_X3_passSecond : GoodIn wsX3_passOrder wsX3_passSecond := goodIn_r _ [27, 10, 28, 12, 13, 14, 8, 15, 3, 1, 16, 17, 18, 19, 2, 34, 35, 36, 37, 38, 39, 40, 41] (by decide +kernel) (by decide +kernel)
set_option maxRecDepth 20000 in
theorem gX3_passOrder_X3_passSecond : GoodIn wsX3_passOrder (wsV RX3 45 RX3 yX3_passSecond wsX3_passSecond) := goodIn_app (goodIn_of _ (by decide +kernel)) ggX3_passOrder_X3_passSecond
set_option maxRecDepth 20000 in
theorem ggX3_passOrder_X3_passThird : GoodIn wsX3_passOrder wsX3_passThird := goodIn_r _ [32, 10, 33, 12, 13, 14, 8, 15, 3, 1, 16, 17, 18, 19, 2, 34, 35, 36, 37, 38, 39, 40, 41] (by decide +kernel) (by decide +kernel)
set_option maxRecDepth 20000 in
theorem gX3_passOrder_X3_passThird : GoodIn wsX3_passOrder (wsV RX3 48 RX3 yX3_passThird wsX3_passThird) := goodIn_app (goodIn_of _ (by decide +kernel)) ggX3_passOrder_X3_passThird
theorem dX3_passOrder_0 : decode cX3_passOrder 0 = .ok (.aload_n 0, 1) := by decide +kernel
theorem dX3_passOrder_1 : decode cX3_passOrder 1 = .ok (.aload_n 0, 1) := by decide +kernel
theorem dX3_passOrder_2 : decode cX3_passOrder 2 = .ok (.getfield 25, 3) := by decide +kernel
theorem dX3_passOrder_5 : decode cX3_passOrder 5 = .ok (.aload_n 0, 1) := by decide +kernel
theorem dX3_passOrder_6 : decode cX3_passOrder 6 = .ok (.getfield 21, 3) := by decide +kernel
theorem dX3_passOrder_9 : decode cX3_passOrder 9 = .ok (.if_icmp .ge 15, 3) := by decide +kernel
theorem dX3_passOrder_12 : decode cX3_passOrder 12 = .ok (.aload_n 0, 1) := by decide +kernel
theorem dX3_passOrder_13 : decode cX3_passOrder 13 = .ok (.getfield 9, 3) := by decide +kernel
theorem dX3_passOrder_16 : decode cX3_passOrder 16 = .ok (.aload_n 0, 1) := by decide +kernel
theorem dX3_passOrder_17 : decode cX3_passOrder 17 = .ok (.getfield 25, 3) := by decide +kernel
theorem dX3_passOrder_20 : decode cX3_passOrder 20 = .ok (.caload, 1) := by decide +kernel
theorem dX3_passOrder_21 : decode cX3_passOrder 21 = .ok (.goto 4, 3) := by decide +kernel
theorem dX3_passOrder_24 : decode cX3_passOrder 24 = .ok (.iconst 0, 1) := by decide +kernel
theorem dX3_passOrder_25 : decode cX3_passOrder 25 = .ok (.putfield 39, 3) := by decide +kernel
theorem dX3_passOrder_28 : decode cX3_passOrder 28 = .ok (.aload_n 0, 1) := by decide +kernel
theorem dX3_passOrder_29 : decode cX3_passOrder 29 = .ok (.getfield 39, 3) := by decide +kernel
theorem dX3_passOrder_32 : decode cX3_passOrder 32 = .ok (.lookupswitch 173 #[(98, 52), (99, 64), (114, 79), (119, 118), (120, 64)], 52) := by decide +kernel
theorem dX3_passOrder_84 : decode cX3_passOrder 84 = .ok (.aload_n 0, 1) := by decide +kernel
theorem dX3_passOrder_85 : decode cX3_passOrder 85 = .ok (.dup, 1) := by decide +kernel
theorem dX3_passOrder_86 : decode cX3_passOrder 86 = .ok (.getfield 25, 3) := by decide +kernel
theorem dX3_passOrder_89 : decode cX3_passOrder 89 = .ok (.iconst 1, 1) := by decide +kernel
theorem dX3_passOrder_90 : decode cX3_passOrder 90 = .ok (.iadd, 1) := by decide +kernel
theorem dX3_passOrder_91 : decode cX3_passOrder 91 = .ok (.putfield 25, 3) := by decide +kernel
theorem dX3_passOrder_94 : decode cX3_passOrder 94 = .ok (.iconst 1, 1) := by decide +kernel
theorem dX3_passOrder_95 : decode cX3_passOrder 95 = .ok (.ireturn, 1) := by decide +kernel
theorem dX3_passOrder_96 : decode cX3_passOrder 96 = .ok (.aload_n 0, 1) := by decide +kernel
theorem dX3_passOrder_97 : decode cX3_passOrder 97 = .ok (.dup, 1) := by decide +kernel
theorem dX3_passOrder_98 : decode cX3_passOrder 98 = .ok (.getfield 25, 3) := by decide +kernel
theorem dX3_passOrder_101 : decode cX3_passOrder 101 = .ok (.iconst 1, 1) := by decide +kernel
theorem dX3_passOrder_102 : decode cX3_passOrder 102 = .ok (.iadd, 1) := by decide +kernel
theorem dX3_passOrder_103 : decode cX3_passOrder 103 = .ok (.putfield 25, 3) := by decide +kernel
theorem dX3_passOrder_106 : decode cX3_passOrder 106 = .ok (.aload_n 0, 1) := by decide +kernel
theorem dX3_passOrder_107 : decode cX3_passOrder 107 = .ok (.invokevirtual 42, 3) := by decide +kernel
theorem dX3_passOrder_110 : decode cX3_passOrder 110 = .ok (.ireturn, 1) := by decide +kernel
theorem dX3_passOrder_111 : decode cX3_passOrder 111 = .ok (.aload_n 0, 1) := by decide +kernel
theorem dX3_passOrder_112 : decode cX3_passOrder 112 = .ok (.dup, 1) := by decide +kernel
theorem dX3_passOrder_113 : decode cX3_passOrder 113 = .ok (.getfield 25, 3) := by decide +kernel
theorem dX3_passOrder_116 : decode cX3_passOrder 116 = .ok (.iconst 1, 1) := by decide +kernel
theorem dX3_passOrder_117 : decode cX3_passOrder 117 = .ok (.iadd, 1) := by decide +kernel
theorem dX3_passOrder_118 : decode cX3_passOrder 118 = .ok (.putfield 25, 3) := by decide +kernel
theorem dX3_passOrder_121 : decode cX3_passOrder 121 = .ok (.aload_n 0, 1) := by decide +kernel
theorem dX3_passOrder_122 : decode cX3_passOrder 122 = .ok (.invokevirtual 42, 3) := by decide +kernel
theorem dX3_passOrder_125 : decode cX3_passOrder 125 = .ok (.ifCond .eq 23, 3) := by decide +kernel
theorem dX3_passOrder_128 : decode cX3_passOrder 128 = .ok (.aload_n 0, 1) := by decide +kernel
theorem dX3_passOrder_129 : decode cX3_passOrder 129 = .ok (.bipush 46, 2) := by decide +kernel
theorem dX3_passOrder_131 : decode cX3_passOrder 131 = .ok (.invokevirtual 35, 3) := by decide +kernel
theorem dX3_passOrder_134 : decode cX3_passOrder 134 = .ok (.ifCond .eq 14, 3) := by decide +kernel
theorem dX3_passOrder_137 : decode cX3_passOrder 137 = .ok (.aload_n 0, 1) := by decide +kernel
theorem dX3_passOrder_138 : decode cX3_passOrder 138 = .ok (.invokevirtual 45, 3) := by decide +kernel
theorem dX3_passOrder_141 : decode cX3_passOrder 141 = .ok (.ifCond .eq 7, 3) := by decide +kernel
theorem dX3_passOrder_144 : decode cX3_passOrder 144 = .ok (.iconst 1, 1) := by decide +kernel
theorem dX3_passOrder_145 : decode cX3_passOrder 145 = .ok (.goto 4, 3) := by decide +kernel
theorem dX3_passOrder_148 : decode cX3_passOrder 148 = .ok (.iconst 0, 1) := by decide +kernel
theorem dX3_passOrder_149 : decode cX3_passOrder 149 = .ok (.ireturn, 1) := by decide +kernel
theorem dX3_passOrder_150 : decode cX3_passOrder 150 = .ok (.aload_n 0, 1) := by decide +kernel
theorem dX3_passOrder_151 : decode cX3_passOrder 151 = .ok (.dup, 1) := by decide +kernel
theorem dX3_passOrder_152 : decode cX3_passOrder 152 = .ok (.getfield 25, 3) := by decide +kernel
theorem dX3_passOrder_155 : decode cX3_passOrder 155 = .ok (.iconst 1, 1) := by decide +kernel
theorem dX3_passOrder_156 : decode cX3_passOrder 156 = .ok (.iadd, 1) := by decide +kernel
theorem dX3_passOrder_157 : decode cX3_passOrder 157 = .ok (.putfield 25, 3) := by decide +kernel
theorem dX3_passOrder_160 : decode cX3_passOrder 160 = .ok (.aload_n 0, 1) := by decide +kernel
theorem dX3_passOrder_161 : decode cX3_passOrder 161 = .ok (.invokevirtual 42, 3) := by decide +kernel
theorem dX3_passOrder_164 : decode cX3_passOrder 164 = .ok (.ifCond .eq 39, 3) := by decide +kernel
theorem dX3_passOrder_167 : decode cX3_passOrder 167 = .ok (.aload_n 0, 1) := by decide +kernel
theorem dX3_passOrder_168 : decode cX3_passOrder 168 = .ok (.bipush 46, 2) := by decide +kernel
theorem dX3_passOrder_170 : decode cX3_passOrder 170 = .ok (.invokevirtual 35, 3) := by decide +kernel
theorem dX3_passOrder_173 : decode cX3_passOrder 173 = .ok (.ifCond .eq 30, 3) := by decide +kernel
theorem dX3_passOrder_176 : decode cX3_passOrder 176 = .ok (.aload_n 0, 1) := by decide +kernel
theorem dX3_passOrder_177 : decode cX3_passOrder 177 = .ok (.invokevirtual 45, 3) := by decide +kernel
theorem dX3_passOrder_180 : decode cX3_passOrder 180 = .ok (.ifCond .eq 23, 3) := by decide +kernel
theorem dX3_passOrder_183 : decode cX3_passOrder 183 = .ok (.aload_n 0, 1) := by decide +kernel
theorem dX3_passOrder_184 : decode cX3_passOrder 184 = .ok (.bipush 61, 2) := by decide +kernel
theorem dX3_passOrder_186 : decode cX3_passOrder 186 = .ok (.invokevirtual 35, 3) := by decide +kernel
theorem dX3_passOrder_189 : decode cX3_passOrder 189 = .ok (.ifCond .eq 14, 3) := by decide +kernel
theorem dX3_passOrder_192 : decode cX3_passOrder 192 = .ok (.aload_n 0, 1) := by decide +kernel
theorem dX3_passOrder_193 : decode cX3_passOrder 193 = .ok (.invokevirtual 48, 3) := by decide +kernel
theorem dX3_passOrder_196 : decode cX3_passOrder 196 = .ok (.ifCond .eq 7, 3) := by decide +kernel
theorem dX3_passOrder_199 : decode cX3_passOrder 199 = .ok (.iconst 1, 1) := by decide +kernel
theorem dX3_passOrder_200 : decode cX3_passOrder 200 = .ok (.goto 4, 3) := by decide +kernel
theorem dX3_passOrder_203 : decode cX3_passOrder 203 = .ok (.iconst 0, 1) := by decide +kernel
theorem dX3_passOrder_204 : decode cX3_passOrder 204 = .ok (.ireturn, 1) := by decide +kernel
theorem dX3_passOrder_205 : decode cX3_passOrder 205 = .ok (.iconst 0, 1) := by decide +kernel
theorem dX3_passOrder_206 : decode cX3_passOrder 206 = .ok (.ireturn, 1) := by decide +kernel
theorem dX3_passSign_0 : decode cX3_passSign 0 = .ok (.aload_n 0, 1) := by decide +kernel
theorem dX3_passSign_1 : decode cX3_passSign 1 = .ok (.getfield 25, 3) := by decide +kernel
theorem dX3_passSign_4 : decode cX3_passSign 4 = .ok (.aload_n 0, 1) := by decide +kernel
theorem dX3_passSign_5 : decode cX3_passSign 5 = .ok (.getfield 21, 3) := by decide +kernel
theorem dX3_passSign_8 : decode cX3_passSign 8 = .ok (.if_icmp .ge 16, 3) := by decide +kernel
theorem dX3_passSign_11 : decode cX3_passSign 11 = .ok (.aload_n 0, 1) := by decide +kernel
theorem dX3_passSign_12 : decode cX3_passSign 12 = .ok (.getfield 9, 3) := by decide +kernel
theorem dX3_passSign_15 : decode cX3_passSign 15 = .ok (.aload_n 0, 1) := by decide +kernel
theorem dX3_passSign_16 : decode cX3_passSign 16 = .ok (.getfield 25, 3) := by decide +kernel
theorem dX3_passSign_19 : decode cX3_passSign 19 = .ok (.caload, 1) := by decide +kernel
theorem dX3_passSign_20 : decode cX3_passSign 20 = .ok (.iload_n 1, 1) := by decide +kernel
theorem dX3_passSign_21 : decode cX3_passSign 21 = .ok (.if_icmp .eq 5, 3) := by decide +kernel
theorem dX3_passSign_24 : decode cX3_passSign 24 = .ok (.iconst 0, 1) := by decide +kernel
theorem dX3_passSign_25 : decode cX3_passSign 25 = .ok (.ireturn, 1) := by decide +kernel
theorem dX3_passSign_26 : decode cX3_passSign 26 = .ok (.aload_n 0, 1) := by decide +kernel
theorem dX3_passSign_27 : decode cX3_passSign 27 = .ok (.dup, 1) := by decide +kernel
theorem dX3_passSign_28 : decode cX3_passSign 28 = .ok (.getfield 25, 3) := by decide +kernel
theorem dX3_passSign_31 : decode cX3_passSign 31 = .ok (.iconst 1, 1) := by decide +kernel
theorem dX3_passSign_32 : decode cX3_passSign 32 = .ok (.iadd, 1) := by decide +kernel
theorem dX3_passSign_33 : decode cX3_passSign 33 = .ok (.putfield 25, 3) := by decide +kernel
theorem dX3_passSign_36 : decode cX3_passSign 36 = .ok (.iconst 1, 1) := by decide +kernel
theorem dX3_passSign_37 : decode cX3_passSign 37 = .ok (.ireturn, 1) := by decide +kernel
set_option maxRecDepth 20000 in
theorem ggX3_passFirst_X3_passNumber : GoodIn wsX3_passFirst wsX3_passNumber := goodIn_r _ [7, 1, 8, 9, 10, 11, 12, 6, 13, 14, 15, 16, 17, 18, 19, 20, 21, 22] (by decide +kernel) (by decide +kernel)
set_option maxRecDepth 20000 in
theorem gX3_passFirst_X3_passNumber : GoodIn wsX3_passFirst (wsV RX3 51 RX3 yX3_passNumber wsX3_passNumber) := goodIn_app (goodIn_of _ (by decide +kernel)) ggX3_passFirst_X3_passNumber
theorem dX3_passFirst_0 : decode cX3_passFirst 0 = .ok (.aload_n 0, 1) := by decide +kernel
theorem dX3_passFirst_1 : decode cX3_passFirst 1 = .ok (.invokevirtual 51, 3) := by decide +kernel
theorem dX3_passFirst_4 : decode cX3_passFirst 4 = .ok (.istore_n 1, 1) := by decide +kernel
theorem dX3_passFirst_5 : decode cX3_passFirst 5 = .ok (.aload_n 0, 1) := by decide +kernel
theorem dX3_passFirst_6 : decode cX3_passFirst 6 = .ok (.aload_n 0, 1) := by decide +kernel
theorem dX3_passFirst_7 : decode cX3_passFirst 7 = .ok (.getfield 54, 3) := by decide +kernel
theorem dX3_passFirst_10 : decode cX3_passFirst 10 = .ok (.putfield 57, 3) := by decide +kernel
theorem dX3_passFirst_13 : decode cX3_passFirst 13 = .ok (.iload_n 1, 1) := by decide +kernel
theorem dX3_passFirst_14 : decode cX3_passFirst 14 = .ok (.ireturn, 1) := by decide +kernel
set_option maxRecDepth 20000 in
theorem ggX3_passSecond_X3_passNumber : GoodIn wsX3_passSecond wsX3_passNumber := goodIn_r _ [7, 1, 8, 9, 10, 11, 12, 6, 13, 14, 15, 16, 17, 18, 19, 20, 21, 22] (by decide +kernel) (by decide +kernel)
set_option maxRecDepth 20000 in
theorem gX3_passSecond_X3_passNumber : GoodIn wsX3_passSecond (wsV RX3 51 RX3 yX3_passNumber wsX3_passNumber) := goodIn_app (goodIn_of _ (by decide +kernel)) ggX3_passSecond_X3_passNumber
theorem dX3_passSecond_0 : decode cX3_passSecond 0 = .ok (.aload_n 0, 1) := by decide +kernel
theorem dX3_passSecond_1 : decode cX3_passSecond 1 = .ok (.invokevirtual 51, 3) := by decide +kernel
theorem dX3_passSecond_4 : decode cX3_passSecond 4 = .ok (.istore_n 1, 1) := by decide +kernel
theorem dX3_passSecond_5 : decode cX3_passSecond 5 = .ok (.aload_n 0, 1) := by decide +kernel
theorem dX3_passSecond_6 : decode cX3_passSecond 6 = .ok (.aload_n 0, 1) := by decide +kernel
theorem dX3_passSecond_7 : decode cX3_passSecond 7 = .ok (.getfield 54, 3) := by decide +kernel
theorem dX3_passSecond_10 : decode cX3_passSecond 10 = .ok (.putfield 60, 3) := by decide +kernel
theorem dX3_passSecond_13 : decode cX3_passSecond 13 = .ok (.iload_n 1, 1) := by decide +kernel
theorem dX3_passSecond_14 : decode cX3_passSecond 14 = .ok (.ireturn, 1) := by decide +kernel
set_option maxRecDepth 20000 in
theorem ggX3_passThird_X3_passNumber : GoodIn wsX3_passThird wsX3_passNumber := goodIn_r _ [7, 1, 8, 9, 10, 11, 12, 6, 13, 14, 15, 16, 17, 18, 19, 20, 21, 22] (by decide +kernel) (by decide +kernel)
set_option maxRecDepth 20000 in
theorem gX3_passThird_X3_passNumber : GoodIn wsX3_passThird (wsV RX3 51 RX3 yX3_passNumber wsX3_passNumber) := goodIn_app (goodIn_of _ (by decide +kernel)) ggX3_passThird_X3_passNumber
theorem dX3_passThird_0 : decode cX3_passThird 0 = .ok (.aload_n 0, 1) := by decide +kernel
theorem dX3_passThird_1 : decode cX3_passThird 1 = .ok (.invokevirtual 51, 3) := by decide +kernel
theorem dX3_passThird_4 : decode cX3_passThird 4 = .ok (.istore_n 1, 1) := by decide +kernel
theorem dX3_passThird_5 : decode cX3_passThird 5 = .ok (.aload_n 0, 1) := by decide +kernel
theorem dX3_passThird_6 : decode cX3_passThird 6 = .ok (.aload_n 0, 1) := by decide +kernel
theorem dX3_passThird_7 : decode cX3_passThird 7 = .ok (.getfield 54, 3) := by decide +kernel
theorem dX3_passThird_10 : decode cX3_passThird 10 = .ok (.putfield 63, 3) := by decide +kernel
theorem dX3_passThird_13 : decode cX3_passThird 13 = .ok (.iload_n 1, 1) := by decide +kernel
theorem dX3_passThird_14 : decode cX3_passThird 14 = .ok (.ireturn, 1) := by decide +kernel
set_option maxRecDepth 20000 in
theorem ggX3_passNumber_X3_isDigitNext : GoodIn wsX3_passNumber wsX3_isDigitNext := goodIn_r _ [8, 3, 9, 2, 10, 11, 12, 13, 14, 15, 16, 17] (by decide +kernel) (by decide +kernel)
set_option maxRecDepth 20000 in
theorem gX3_passNumber_X3_isDigitNext : GoodIn wsX3_passNumber (wsV RX3 66 RX3 yX3_isDigitNext wsX3_isDigitNext) := goodIn_app (goodIn_of _ (by decide +kernel)) ggX3_passNumber_X3_isDigitNext
theorem dX3_passNumber_0 : decode cX3_passNumber 0 = .ok (.aload_n 0, 1) := by decide +kernel
theorem dX3_passNumber_1 : decode cX3_passNumber 1 = .ok (.iconst 0, 1) := by decide +kernel
theorem dX3_passNumber_2 : decode cX3_passNumber 2 = .ok (.putfield 54, 3) := by decide +kernel
theorem dX3_passNumber_5 : decode cX3_passNumber 5 = .ok (.iconst 0, 1) := by decide +kernel
theorem dX3_passNumber_6 : decode cX3_passNumber 6 = .ok (.istore_n 1, 1) := by decide +kernel
theorem dX3_passNumber_7 : decode cX3_passNumber 7 = .ok (.aload_n 0, 1) := by decide +kernel
theorem dX3_passNumber_8 : decode cX3_passNumber 8 = .ok (.invokevirtual 66, 3) := by decide +kernel
theorem dX3_passNumber_11 : decode cX3_passNumber 11 = .ok (.ifCond .eq 59, 3) := by decide +kernel
theorem dX3_passNumber_14 : decode cX3_passNumber 14 = .ok (.iload_n 1, 1) := by decide +kernel
theorem dX3_passNumber_15 : decode cX3_passNumber 15 = .ok (.iconst 3, 1) := by decide +kernel
theorem dX3_passNumber_16 : decode cX3_passNumber 16 = .ok (.if_icmp .ge 54, 3) := by decide +kernel
theorem dX3_passNumber_19 : decode cX3_passNumber 19 = .ok (.iload_n 1, 1) := by decide +kernel
theorem dX3_passNumber_20 : decode cX3_passNumber 20 = .ok (.ifCond .eq 10, 3) := by decide +kernel
theorem dX3_passNumber_23 : decode cX3_passNumber 23 = .ok (.aload_n 0, 1) := by decide +kernel
theorem dX3_passNumber_24 : decode cX3_passNumber 24 = .ok (.getfield 54, 3) := by decide +kernel
theorem dX3_passNumber_27 : decode cX3_passNumber 27 = .ok (.ifCond .le 43, 3) := by decide +kernel
theorem dX3_passNumber_30 : decode cX3_passNumber 30 = .ok (.aload_n 0, 1) := by decide +kernel
theorem dX3_passNumber_31 : decode cX3_passNumber 31 = .ok (.aload_n 0, 1) := by decide +kernel
theorem dX3_passNumber_32 : decode cX3_passNumber 32 = .ok (.getfield 54, 3) := by decide +kernel
theorem dX3_passNumber_35 : decode cX3_passNumber 35 = .ok (.bipush 10, 2) := by decide +kernel
theorem dX3_passNumber_37 : decode cX3_passNumber 37 = .ok (.imul, 1) := by decide +kernel
theorem dX3_passNumber_38 : decode cX3_passNumber 38 = .ok (.aload_n 0, 1) := by decide +kernel
theorem dX3_passNumber_39 : decode cX3_passNumber 39 = .ok (.getfield 9, 3) := by decide +kernel
theorem dX3_passNumber_42 : decode cX3_passNumber 42 = .ok (.aload_n 0, 1) := by decide +kernel
theorem dX3_passNumber_43 : decode cX3_passNumber 43 = .ok (.getfield 25, 3) := by decide +kernel
theorem dX3_passNumber_46 : decode cX3_passNumber 46 = .ok (.caload, 1) := by decide +kernel
theorem dX3_passNumber_47 : decode cX3_passNumber 47 = .ok (.bipush 48, 2) := by decide +kernel
theorem dX3_passNumber_49 : decode cX3_passNumber 49 = .ok (.isub, 1) := by decide +kernel
theorem dX3_passNumber_50 : decode cX3_passNumber 50 = .ok (.iadd, 1) := by decide +kernel
theorem dX3_passNumber_51 : decode cX3_passNumber 51 = .ok (.putfield 54, 3) := by decide +kernel
theorem dX3_passNumber_54 : decode cX3_passNumber 54 = .ok (.aload_n 0, 1) := by decide +kernel
theorem dX3_passNumber_55 : decode cX3_passNumber 55 = .ok (.dup, 1) := by decide +kernel
theorem dX3_passNumber_56 : decode cX3_passNumber 56 = .ok (.getfield 25, 3) := by decide +kernel
theorem dX3_passNumber_59 : decode cX3_passNumber 59 = .ok (.iconst 1, 1) := by decide +kernel
theorem dX3_passNumber_60 : decode cX3_passNumber 60 = .ok (.iadd, 1) := by decide +kernel
theorem dX3_passNumber_61 : decode cX3_passNumber 61 = .ok (.putfield 25, 3) := by decide +kernel
theorem dX3_passNumber_64 : decode cX3_passNumber 64 = .ok (.iinc 1 1, 3) := by decide +kernel
theorem dX3_passNumber_67 : decode cX3_passNumber 67 = .ok (.goto (-60), 3) := by decide +kernel
theorem dX3_passNumber_70 : decode cX3_passNumber 70 = .ok (.iload_n 1, 1) := by decide +kernel
theorem dX3_passNumber_71 : decode cX3_passNumber 71 = .ok (.ifCond .le 7, 3) := by decide +kernel
theorem dX3_passNumber_74 : decode cX3_passNumber 74 = .ok (.iconst 1, 1) := by decide +kernel
theorem dX3_passNumber_75 : decode cX3_passNumber 75 = .ok (.goto 4, 3) := by decide +kernel
theorem dX3_passNumber_78 : decode cX3_passNumber 78 = .ok (.iconst 0, 1) := by decide +kernel
theorem dX3_passNumber_79 : decode cX3_passNumber 79 = .ok (.ireturn, 1) := by decide +kernel
theorem dX3_isDigitNext_0 : decode cX3_isDigitNext 0 = .ok (.aload_n 0, 1) := by decide +kernel
theorem dX3_isDigitNext_1 : decode cX3_isDigitNext 1 = .ok (.getfield 25, 3) := by decide +kernel
theorem dX3_isDigitNext_4 : decode cX3_isDigitNext 4 = .ok (.aload_n 0, 1) := by decide +kernel
theorem dX3_isDigitNext_5 : decode cX3_isDigitNext 5 = .ok (.getfield 21, 3) := by decide +kernel
theorem dX3_isDigitNext_8 : decode cX3_isDigitNext 8 = .ok (.if_icmp .ge 35, 3) := by decide +kernel
theorem dX3_isDigitNext_11 : decode cX3_isDigitNext 11 = .ok (.aload_n 0, 1) := by decide +kernel
theorem dX3_isDigitNext_12 : decode cX3_isDigitNext 12 = .ok (.getfield 9, 3) := by decide +kernel
theorem dX3_isDigitNext_15 : decode cX3_isDigitNext 15 = .ok (.aload_n 0, 1) := by decide +kernel
theorem dX3_isDigitNext_16 : decode cX3_isDigitNext 16 = .ok (.getfield 25, 3) := by decide +kernel
theorem dX3_isDigitNext_19 : decode cX3_isDigitNext 19 = .ok (.caload, 1) := by decide +kernel
theorem dX3_isDigitNext_20 : decode cX3_isDigitNext 20 = .ok (.bipush 48, 2) := by decide +kernel
theorem dX3_isDigitNext_22 : decode cX3_isDigitNext 22 = .ok (.if_icmp .lt 21, 3) := by decide +kernel
theorem dX3_isDigitNext_25 : decode cX3_isDigitNext 25 = .ok (.aload_n 0, 1) := by decide +kernel
theorem dX3_isDigitNext_26 : decode cX3_isDigitNext 26 = .ok (.getfield 9, 3) := by decide +kernel
theorem dX3_isDigitNext_29 : decode cX3_isDigitNext 29 = .ok (.aload_n 0, 1) := by decide +kernel
theorem dX3_isDigitNext_30 : decode cX3_isDigitNext 30 = .ok (.getfield 25, 3) := by decide +kernel
theorem dX3_isDigitNext_33 : decode cX3_isDigitNext 33 = .ok (.caload, 1) := by decide +kernel
theorem dX3_isDigitNext_34 : decode cX3_isDigitNext 34 = .ok (.bipush 57, 2) := by decide +kernel
theorem dX3_isDigitNext_36 : decode cX3_isDigitNext 36 = .ok (.if_icmp .gt 7, 3) := by decide +kernel
theorem dX3_isDigitNext_39 : decode cX3_isDigitNext 39 = .ok (.iconst 1, 1) := by decide +kernel
theorem dX3_isDigitNext_40 : decode cX3_isDigitNext 40 = .ok (.goto 4, 3) := by decide +kernel
theorem dX3_isDigitNext_43 : decode cX3_isDigitNext 43 = .ok (.iconst 0, 1) := by decide +kernel
theorem dX3_isDigitNext_44 : decode cX3_isDigitNext 44 = .ok (.ireturn, 1) := by decide +kernel
theorem dX4_init_0 : decode cX4_init 0 = .ok (.aload_n 0, 1) := by decide +kernel
theorem dX4_init_1 : decode cX4_init 1 = .ok (.invokespecial 3, 3) := by decide +kernel
theorem dX4_init_4 : decode cX4_init 4 = .ok (.aload_n 0, 1) := by decide +kernel
theorem dX4_init_5 : decode cX4_init 5 = .ok (.bipush 12, 2) := by decide +kernel
theorem dX4_init_7 : decode cX4_init 7 = .ok (.newarray .int, 2) := by decide +kernel
theorem dX4_init_9 : decode cX4_init 9 = .ok (.putfield 9, 3) := by decide +kernel
theorem dX4_init_12 : decode cX4_init 12 = .ok (.aload_n 0, 1) := by decide +kernel
theorem dX4_init_13 : decode cX4_init 13 = .ok (.bipush 12, 2) := by decide +kernel
theorem dX4_init_15 : decode cX4_init 15 = .ok (.newarray .int, 2) := by decide +kernel
theorem dX4_init_17 : decode cX4_init 17 = .ok (.putfield 15, 3) := by decide +kernel
theorem dX4_init_20 : decode cX4_init 20 = .ok (.return_, 1) := by decide +kernel
theorem dX4_at_0 : decode cX4_at 0 = .ok (.iload_n 1, 1) := by decide +kernel
theorem dX4_at_1 : decode cX4_at 1 = .ok (.ifCond .lt 18, 3) := by decide +kernel
theorem dX4_at_4 : decode cX4_at 4 = .ok (.iload_n 1, 1) := by decide +kernel
theorem dX4_at_5 : decode cX4_at 5 = .ok (.bipush 12, 2) := by decide +kernel
theorem dX4_at_7 : decode cX4_at 7 = .ok (.if_icmp .ge 12, 3) := by decide +kernel
theorem dX4_at_10 : decode cX4_at 10 = .ok (.aload_n 0, 1) := by decide +kernel
theorem dX4_at_11 : decode cX4_at 11 = .ok (.getfield 15, 3) := by decide +kernel
theorem dX4_at_14 : decode cX4_at 14 = .ok (.iload_n 1, 1) := by decide +kernel
theorem dX4_at_15 : decode cX4_at 15 = .ok (.iaload, 1) := by decide +kernel
theorem dX4_at_16 : decode cX4_at 16 = .ok (.goto 5, 3) := by decide +kernel
theorem dX4_at_19 : decode cX4_at 19 = .ok (.bipush (-6), 2) := by decide +kernel
theorem dX4_at_21 : decode cX4_at 21 = .ok (.ireturn, 1) := by decide +kernel
set_option maxRecDepth 20000 in
theorem ggX4_arrange_X4_gather : GoodIn wsX4_arrange wsX4_gather := goodIn_r _ [6, 7, 8, 9, 10, 11, 12, 5, 13, 14, 15, 16, 17, 18, 19, 20, 21, 22, 23, 24, 25, 26, 27, 28, 29, 30, 31, 32, 33, 34, 35, 36, 37, 38, 54, 55, 56, 57, 58, 59, 60, 61, 62, 63, 64, 65] (by decide +kernel) (by decide +kernel)
set_option maxRecDepth 20000 in
theorem gX4_arrange_X4_gather : GoodIn wsX4_arrange (wsV RX4 18 RX4 yX4_gather wsX4_gather) := goodIn_app (goodIn_of _ (by decide +kernel)) ggX4_arrange_X4_gather
set_option maxRecDepth 20000 in
theorem ggX4_arrange_X2_inPhase : GoodIn wsX4_arrange wsX2_inPhase := goodIn_r _ [42, 27, 28, 56, 57, 58, 59, 60, 61, 62, 63, 64, 65] (by decide +kernel) (by decide +kernel)
set_option maxRecDepth 20000 in
theorem gX4_arrange_X2_inPhase : GoodIn wsX4_arrange (wsV RX4 22 RX2 yX2_inPhase wsX2_inPhase) := goodIn_app (goodIn_of _ (by decide +kernel)) ggX4_arrange_X2_inPhase
set_option maxRecDepth 20000 in
theorem ggX4_arrange_J6_bitCount_0f7a4 : GoodIn wsX4_arrange wsJ6_bitCount_0f7a4 := goodIn_r _ [46, 47, 48, 49] (by decide +kernel) (by decide +kernel)
set_option maxRecDepth 20000 in
theorem gX4_arrange_J6_bitCount_0f7a4 : GoodIn wsX4_arrange (va_wsS RX4 28 yJ6_bitCount_0f7a4 wsJ6_bitCount_0f7a4) := goodIn_app (goodIn_of _ (by decide +kernel)) ggX4_arrange_J6_bitCount_0f7a4
set_option maxRecDepth 20000 in
theorem ggX4_arrange_X4_lowestFree : GoodIn wsX4_arrange wsX4_lowestFree := goodIn_r _ [53, 7, 18, 19, 20, 54, 55] (by decide +kernel) (by decide +kernel)
set_option maxRecDepth 20000 in
theorem gX4_arrange_X4_lowestFree : GoodIn wsX4_arrange (wsV RX4 33 RX4 yX4_lowestFree wsX4_lowestFree) := goodIn_app (goodIn_of _ (by decide +kernel)) ggX4_arrange_X4_lowestFree
theorem dX4_arrange_0 : decode cX4_arrange 0 = .ok (.aload_n 0, 1) := by decide +kernel
theorem dX4_arrange_1 : decode cX4_arrange 1 = .ok (.aload_n 1, 1) := by decide +kernel
theorem dX4_arrange_2 : decode cX4_arrange 2 = .ok (.invokevirtual 18, 3) := by decide +kernel
theorem dX4_arrange_5 : decode cX4_arrange 5 = .ok (.aload_n 1, 1) := by decide +kernel
theorem dX4_arrange_6 : decode cX4_arrange 6 = .ok (.iconst 1, 1) := by decide +kernel
theorem dX4_arrange_7 : decode cX4_arrange 7 = .ok (.invokevirtual 22, 3) := by decide +kernel
theorem dX4_arrange_10 : decode cX4_arrange 10 = .ok (.istore_n 2, 1) := by decide +kernel
theorem dX4_arrange_11 : decode cX4_arrange 11 = .ok (.iload_n 2, 1) := by decide +kernel
theorem dX4_arrange_12 : decode cX4_arrange 12 = .ok (.invokestatic 28, 3) := by decide +kernel
theorem dX4_arrange_15 : decode cX4_arrange 15 = .ok (.istore_n 3, 1) := by decide +kernel
theorem dX4_arrange_16 : decode cX4_arrange 16 = .ok (.iconst 0, 1) := by decide +kernel
theorem dX4_arrange_17 : decode cX4_arrange 17 = .ok (.istore 4, 2) := by decide +kernel
theorem dX4_arrange_19 : decode cX4_arrange 19 = .ok (.iload 4, 2) := by decide +kernel
theorem dX4_arrange_21 : decode cX4_arrange 21 = .ok (.iload_n 3, 1) := by decide +kernel
theorem dX4_arrange_22 : decode cX4_arrange 22 = .ok (.if_icmp .ge 43, 3) := by decide +kernel
theorem dX4_arrange_25 : decode cX4_arrange 25 = .ok (.aload_n 0, 1) := by decide +kernel
theorem dX4_arrange_26 : decode cX4_arrange 26 = .ok (.iload_n 2, 1) := by decide +kernel
theorem dX4_arrange_27 : decode cX4_arrange 27 = .ok (.invokevirtual 33, 3) := by decide +kernel
theorem dX4_arrange_30 : decode cX4_arrange 30 = .ok (.istore 5, 2) := by decide +kernel
theorem dX4_arrange_32 : decode cX4_arrange 32 = .ok (.iload 5, 2) := by decide +kernel
theorem dX4_arrange_34 : decode cX4_arrange 34 = .ok (.bipush (-6), 2) := by decide +kernel
theorem dX4_arrange_36 : decode cX4_arrange 36 = .ok (.if_icmp .ne 5, 3) := by decide +kernel
theorem dX4_arrange_39 : decode cX4_arrange 39 = .ok (.iconst 0, 1) := by decide +kernel
theorem dX4_arrange_40 : decode cX4_arrange 40 = .ok (.ireturn, 1) := by decide +kernel
theorem dX4_arrange_41 : decode cX4_arrange 41 = .ok (.aload_n 0, 1) := by decide +kernel
theorem dX4_arrange_42 : decode cX4_arrange 42 = .ok (.getfield 15, 3) := by decide +kernel
theorem dX4_arrange_45 : decode cX4_arrange 45 = .ok (.iload 4, 2) := by decide +kernel
theorem dX4_arrange_47 : decode cX4_arrange 47 = .ok (.iload 5, 2) := by decide +kernel
theorem dX4_arrange_49 : decode cX4_arrange 49 = .ok (.iastore, 1) := by decide +kernel
theorem dX4_arrange_50 : decode cX4_arrange 50 = .ok (.iload_n 2, 1) := by decide +kernel
theorem dX4_arrange_51 : decode cX4_arrange 51 = .ok (.iconst 1, 1) := by decide +kernel
theorem dX4_arrange_52 : decode cX4_arrange 52 = .ok (.iload 5, 2) := by decide +kernel
theorem dX4_arrange_54 : decode cX4_arrange 54 = .ok (.ishl, 1) := by decide +kernel
theorem dX4_arrange_55 : decode cX4_arrange 55 = .ok (.iconst (-1), 1) := by decide +kernel
theorem dX4_arrange_56 : decode cX4_arrange 56 = .ok (.ixor, 1) := by decide +kernel
theorem dX4_arrange_57 : decode cX4_arrange 57 = .ok (.iand, 1) := by decide +kernel
theorem dX4_arrange_58 : decode cX4_arrange 58 = .ok (.istore_n 2, 1) := by decide +kernel
theorem dX4_arrange_59 : decode cX4_arrange 59 = .ok (.iinc 4 1, 3) := by decide +kernel
theorem dX4_arrange_62 : decode cX4_arrange 62 = .ok (.goto (-43), 3) := by decide +kernel
theorem dX4_arrange_65 : decode cX4_arrange 65 = .ok (.iconst 1, 1) := by decide +kernel
theorem dX4_arrange_66 : decode cX4_arrange 66 = .ok (.ireturn, 1) := by decide +kernel
set_option maxRecDepth 20000 in
theorem ggX4_lowestFree_X5_contains : GoodIn wsX4_lowestFree wsX5_contains := goodIn_r _ [4] (by decide +kernel) (by decide +kernel)
set_option maxRecDepth 20000 in
theorem gX4_lowestFree_X5_contains_n36 : GoodIn wsX4_lowestFree (wsX5_contains) := ggX4_lowestFree_X5_contains
theorem dX4_lowestFree_0 : decode cX4_lowestFree 0 = .ok (.iconst 0, 1) := by decide +kernel
theorem dX4_lowestFree_1 : decode cX4_lowestFree 1 = .ok (.istore_n 2, 1) := by decide +kernel
theorem dX4_lowestFree_2 : decode cX4_lowestFree 2 = .ok (.iload_n 2, 1) := by decide +kernel
theorem dX4_lowestFree_3 : decode cX4_lowestFree 3 = .ok (.bipush 12, 2) := by decide +kernel
theorem dX4_lowestFree_5 : decode cX4_lowestFree 5 = .ok (.if_icmp .ge 30, 3) := by decide +kernel
theorem dX4_lowestFree_8 : decode cX4_lowestFree 8 = .ok (.iload_n 1, 1) := by decide +kernel
theorem dX4_lowestFree_9 : decode cX4_lowestFree 9 = .ok (.iload_n 2, 1) := by decide +kernel
theorem dX4_lowestFree_10 : decode cX4_lowestFree 10 = .ok (.invokestatic 36, 3) := by decide +kernel
theorem dX4_lowestFree_13 : decode cX4_lowestFree 13 = .ok (.ifCond .eq 16, 3) := by decide +kernel
theorem dX4_lowestFree_16 : decode cX4_lowestFree 16 = .ok (.aload_n 0, 1) := by decide +kernel
theorem dX4_lowestFree_17 : decode cX4_lowestFree 17 = .ok (.getfield 9, 3) := by decide +kernel
theorem dX4_lowestFree_20 : decode cX4_lowestFree 20 = .ok (.iload_n 2, 1) := by decide +kernel
theorem dX4_lowestFree_21 : decode cX4_lowestFree 21 = .ok (.iaload, 1) := by decide +kernel
theorem dX4_lowestFree_22 : decode cX4_lowestFree 22 = .ok (.iload_n 1, 1) := by decide +kernel
theorem dX4_lowestFree_23 : decode cX4_lowestFree 23 = .ok (.iand, 1) := by decide +kernel
theorem dX4_lowestFree_24 : decode cX4_lowestFree 24 = .ok (.ifCond .ne 5, 3) := by decide +kernel
theorem dX4_lowestFree_27 : decode cX4_lowestFree 27 = .ok (.iload_n 2, 1) := by decide +kernel
theorem dX4_lowestFree_28 : decode cX4_lowestFree 28 = .ok (.ireturn, 1) := by decide +kernel
theorem dX4_lowestFree_29 : decode cX4_lowestFree 29 = .ok (.iinc 2 1, 3) := by decide +kernel
theorem dX4_lowestFree_32 : decode cX4_lowestFree 32 = .ok (.goto (-30), 3) := by decide +kernel
theorem dX4_lowestFree_35 : decode cX4_lowestFree 35 = .ok (.bipush (-6), 2) := by decide +kernel
theorem dX4_lowestFree_37 : decode cX4_lowestFree 37 = .ok (.ireturn, 1) := by decide +kernel
set_option maxRecDepth 20000 in
theorem ggX4_gather_X4_gatherOverKey : GoodIn wsX4_gather wsX4_gatherOverKey := goodIn_r _ [8, 9, 10, 11, 12, 13, 14, 15, 16, 17, 18, 19, 20, 21, 22, 23, 24, 25, 26, 27, 28, 7, 29, 1, 30, 31, 32, 33, 36, 37, 38, 39, 40, 41, 42, 43, 44, 45, 34, 35] (by decide +kernel) (by decide +kernel)
set_option maxRecDepth 20000 in
theorem gX4_gather_X4_gatherOverKey : GoodIn wsX4_gather (wsV RX4 47 RX4 yX4_gatherOverKey wsX4_gatherOverKey) := goodIn_app (goodIn_of _ (by decide +kernel)) ggX4_gather_X4_gatherOverKey
theorem dX4_gather_0 : decode cX4_gather 0 = .ok (.iconst 0, 1) := by decide +kernel
theorem dX4_gather_1 : decode cX4_gather 1 = .ok (.istore_n 2, 1) := by decide +kernel
theorem dX4_gather_2 : decode cX4_gather 2 = .ok (.iload_n 2, 1) := by decide +kernel
theorem dX4_gather_3 : decode cX4_gather 3 = .ok (.bipush 12, 2) := by decide +kernel
theorem dX4_gather_5 : decode cX4_gather 5 = .ok (.if_icmp .ge 16, 3) := by decide +kernel
theorem dX4_gather_8 : decode cX4_gather 8 = .ok (.aload_n 0, 1) := by decide +kernel
theorem dX4_gather_9 : decode cX4_gather 9 = .ok (.getfield 9, 3) := by decide +kernel
theorem dX4_gather_12 : decode cX4_gather 12 = .ok (.iload_n 2, 1) := by decide +kernel
theorem dX4_gather_13 : decode cX4_gather 13 = .ok (.iconst 0, 1) := by decide +kernel
theorem dX4_gather_14 : decode cX4_gather 14 = .ok (.iastore, 1) := by decide +kernel
theorem dX4_gather_15 : decode cX4_gather 15 = .ok (.iinc 2 1, 3) := by decide +kernel
theorem dX4_gather_18 : decode cX4_gather 18 = .ok (.goto (-16), 3) := by decide +kernel
theorem dX4_gather_21 : decode cX4_gather 21 = .ok (.iconst 0, 1) := by decide +kernel
theorem dX4_gather_22 : decode cX4_gather 22 = .ok (.istore_n 2, 1) := by decide +kernel
theorem dX4_gather_23 : decode cX4_gather 23 = .ok (.iload_n 2, 1) := by decide +kernel
theorem dX4_gather_24 : decode cX4_gather 24 = .ok (.aload_n 1, 1) := by decide +kernel
theorem dX4_gather_25 : decode cX4_gather 25 = .ok (.getfield 40, 3) := by decide +kernel
theorem dX4_gather_28 : decode cX4_gather 28 = .ok (.if_icmp .ge 40, 3) := by decide +kernel
theorem dX4_gather_31 : decode cX4_gather 31 = .ok (.aload_n 1, 1) := by decide +kernel
theorem dX4_gather_32 : decode cX4_gather 32 = .ok (.getfield 44, 3) := by decide +kernel
theorem dX4_gather_35 : decode cX4_gather 35 = .ok (.iload_n 2, 1) := by decide +kernel
theorem dX4_gather_36 : decode cX4_gather 36 = .ok (.iaload, 1) := by decide +kernel
theorem dX4_gather_37 : decode cX4_gather 37 = .ok (.iconst 1, 1) := by decide +kernel
theorem dX4_gather_38 : decode cX4_gather 38 = .ok (.if_icmp .ne 24, 3) := by decide +kernel
theorem dX4_gather_41 : decode cX4_gather 41 = .ok (.iconst 0, 1) := by decide +kernel
theorem dX4_gather_42 : decode cX4_gather 42 = .ok (.istore_n 3, 1) := by decide +kernel
theorem dX4_gather_43 : decode cX4_gather 43 = .ok (.iload_n 3, 1) := by decide +kernel
theorem dX4_gather_44 : decode cX4_gather 44 = .ok (.bipush 16, 2) := by decide +kernel
theorem dX4_gather_46 : decode cX4_gather 46 = .ok (.if_icmp .ge 16, 3) := by decide +kernel
theorem dX4_gather_49 : decode cX4_gather 49 = .ok (.aload_n 0, 1) := by decide +kernel
theorem dX4_gather_50 : decode cX4_gather 50 = .ok (.aload_n 1, 1) := by decide +kernel
theorem dX4_gather_51 : decode cX4_gather 51 = .ok (.iload_n 2, 1) := by decide +kernel
theorem dX4_gather_52 : decode cX4_gather 52 = .ok (.iload_n 3, 1) := by decide +kernel
theorem dX4_gather_53 : decode cX4_gather 53 = .ok (.invokevirtual 47, 3) := by decide +kernel
theorem dX4_gather_56 : decode cX4_gather 56 = .ok (.iinc 3 1, 3) := by decide +kernel
theorem dX4_gather_59 : decode cX4_gather 59 = .ok (.goto (-16), 3) := by decide +kernel
theorem dX4_gather_62 : decode cX4_gather 62 = .ok (.iinc 2 1, 3) := by decide +kernel
theorem dX4_gather_65 : decode cX4_gather 65 = .ok (.goto (-42), 3) := by decide +kernel
theorem dX4_gather_68 : decode cX4_gather 68 = .ok (.return_, 1) := by decide +kernel
set_option maxRecDepth 20000 in
theorem ggX4_gatherOverKey_X5_contains : GoodIn wsX4_gatherOverKey wsX5_contains := goodIn_r _ [7] (by decide +kernel) (by decide +kernel)
set_option maxRecDepth 20000 in
theorem gX4_gatherOverKey_X5_contains_n36 : GoodIn wsX4_gatherOverKey (wsX5_contains) := ggX4_gatherOverKey_X5_contains
set_option maxRecDepth 20000 in
theorem ggX4_gatherOverKey_X2_writerBehind : GoodIn wsX4_gatherOverKey wsX2_writerBehind := goodIn_r _ [12, 13, 14, 15, 16, 17, 5, 6, 7, 28, 29, 30, 31, 32, 33, 34, 35, 36, 37] (by decide +kernel) (by decide +kernel)
set_option maxRecDepth 20000 in
theorem gX4_gatherOverKey_X2_writerBehind : GoodIn wsX4_gatherOverKey (wsV RX4 57 RX2 yX2_writerBehind wsX2_writerBehind) := goodIn_app (goodIn_of _ (by decide +kernel)) ggX4_gatherOverKey_X2_writerBehind
set_option maxRecDepth 20000 in
theorem ggX4_gatherOverKey_X4_depend : GoodIn wsX4_gatherOverKey wsX4_depend := goodIn_r _ [22, 23, 38, 39] (by decide +kernel) (by decide +kernel)
set_option maxRecDepth 20000 in
theorem gX4_gatherOverKey_X4_depend : GoodIn wsX4_gatherOverKey (wsV RX4 61 RX4 yX4_depend wsX4_depend) := goodIn_app (goodIn_of _ (by decide +kernel)) ggX4_gatherOverKey_X4_depend
set_option maxRecDepth 20000 in
theorem ggX4_gatherOverKey_X2_writerAhead : GoodIn wsX4_gatherOverKey wsX2_writerAhead := goodIn_r _ [27, 14, 15, 16, 17, 5, 6, 7, 28, 29, 30, 31, 32, 33, 34, 35, 36, 37] (by decide +kernel) (by decide +kernel)
set_option maxRecDepth 20000 in
theorem gX4_gatherOverKey_X2_writerAhead : GoodIn wsX4_gatherOverKey (wsV RX4 71 RX2 yX2_writerAhead wsX2_writerAhead) := goodIn_app (goodIn_of _ (by decide +kernel)) ggX4_gatherOverKey_X2_writerAhead
theorem dX4_gatherOverKey_0 : decode cX4_gatherOverKey 0 = .ok (.aload_n 1, 1) := by decide +kernel
theorem dX4_gatherOverKey_1 : decode cX4_gatherOverKey 1 = .ok (.getfield 51, 3) := by decide +kernel
theorem dX4_gatherOverKey_4 : decode cX4_gatherOverKey 4 = .ok (.iload_n 2, 1) := by decide +kernel
theorem dX4_gatherOverKey_5 : decode cX4_gatherOverKey 5 = .ok (.iaload, 1) := by decide +kernel
theorem dX4_gatherOverKey_6 : decode cX4_gatherOverKey 6 = .ok (.iload_n 3, 1) := by decide +kernel
theorem dX4_gatherOverKey_7 : decode cX4_gatherOverKey 7 = .ok (.invokestatic 36, 3) := by decide +kernel
theorem dX4_gatherOverKey_10 : decode cX4_gatherOverKey 10 = .ok (.ifCond .eq 19, 3) := by decide +kernel
theorem dX4_gatherOverKey_13 : decode cX4_gatherOverKey 13 = .ok (.aload_n 0, 1) := by decide +kernel
theorem dX4_gatherOverKey_14 : decode cX4_gatherOverKey 14 = .ok (.iload_n 2, 1) := by decide +kernel
theorem dX4_gatherOverKey_15 : decode cX4_gatherOverKey 15 = .ok (.aload_n 1, 1) := by decide +kernel
theorem dX4_gatherOverKey_16 : decode cX4_gatherOverKey 16 = .ok (.iload_n 3, 1) := by decide +kernel
theorem dX4_gatherOverKey_17 : decode cX4_gatherOverKey 17 = .ok (.aload_n 1, 1) := by decide +kernel
theorem dX4_gatherOverKey_18 : decode cX4_gatherOverKey 18 = .ok (.getfield 54, 3) := by decide +kernel
theorem dX4_gatherOverKey_21 : decode cX4_gatherOverKey 21 = .ok (.iload_n 2, 1) := by decide +kernel
theorem dX4_gatherOverKey_22 : decode cX4_gatherOverKey 22 = .ok (.iaload, 1) := by decide +kernel
theorem dX4_gatherOverKey_23 : decode cX4_gatherOverKey 23 = .ok (.invokevirtual 57, 3) := by decide +kernel
theorem dX4_gatherOverKey_26 : decode cX4_gatherOverKey 26 = .ok (.invokevirtual 61, 3) := by decide +kernel
theorem dX4_gatherOverKey_29 : decode cX4_gatherOverKey 29 = .ok (.aload_n 1, 1) := by decide +kernel
theorem dX4_gatherOverKey_30 : decode cX4_gatherOverKey 30 = .ok (.getfield 65, 3) := by decide +kernel
theorem dX4_gatherOverKey_33 : decode cX4_gatherOverKey 33 = .ok (.iload_n 2, 1) := by decide +kernel
theorem dX4_gatherOverKey_34 : decode cX4_gatherOverKey 34 = .ok (.iaload, 1) := by decide +kernel
theorem dX4_gatherOverKey_35 : decode cX4_gatherOverKey 35 = .ok (.iload_n 3, 1) := by decide +kernel
theorem dX4_gatherOverKey_36 : decode cX4_gatherOverKey 36 = .ok (.invokestatic 36, 3) := by decide +kernel
theorem dX4_gatherOverKey_39 : decode cX4_gatherOverKey 39 = .ok (.ifCond .eq 35, 3) := by decide +kernel
theorem dX4_gatherOverKey_42 : decode cX4_gatherOverKey 42 = .ok (.aload_n 0, 1) := by decide +kernel
theorem dX4_gatherOverKey_43 : decode cX4_gatherOverKey 43 = .ok (.aload_n 1, 1) := by decide +kernel
theorem dX4_gatherOverKey_44 : decode cX4_gatherOverKey 44 = .ok (.iload_n 3, 1) := by decide +kernel
theorem dX4_gatherOverKey_45 : decode cX4_gatherOverKey 45 = .ok (.aload_n 1, 1) := by decide +kernel
theorem dX4_gatherOverKey_46 : decode cX4_gatherOverKey 46 = .ok (.getfield 68, 3) := by decide +kernel
theorem dX4_gatherOverKey_49 : decode cX4_gatherOverKey 49 = .ok (.iload_n 2, 1) := by decide +kernel
theorem dX4_gatherOverKey_50 : decode cX4_gatherOverKey 50 = .ok (.iaload, 1) := by decide +kernel
theorem dX4_gatherOverKey_51 : decode cX4_gatherOverKey 51 = .ok (.invokevirtual 71, 3) := by decide +kernel
theorem dX4_gatherOverKey_54 : decode cX4_gatherOverKey 54 = .ok (.iload_n 2, 1) := by decide +kernel
theorem dX4_gatherOverKey_55 : decode cX4_gatherOverKey 55 = .ok (.invokevirtual 61, 3) := by decide +kernel
theorem dX4_gatherOverKey_58 : decode cX4_gatherOverKey 58 = .ok (.aload_n 0, 1) := by decide +kernel
theorem dX4_gatherOverKey_59 : decode cX4_gatherOverKey 59 = .ok (.iload_n 2, 1) := by decide +kernel
theorem dX4_gatherOverKey_60 : decode cX4_gatherOverKey 60 = .ok (.aload_n 1, 1) := by decide +kernel
theorem dX4_gatherOverKey_61 : decode cX4_gatherOverKey 61 = .ok (.iload_n 3, 1) := by decide +kernel
theorem dX4_gatherOverKey_62 : decode cX4_gatherOverKey 62 = .ok (.aload_n 1, 1) := by decide +kernel
theorem dX4_gatherOverKey_63 : decode cX4_gatherOverKey 63 = .ok (.getfield 68, 3) := by decide +kernel
theorem dX4_gatherOverKey_66 : decode cX4_gatherOverKey 66 = .ok (.iload_n 2, 1) := by decide +kernel
theorem dX4_gatherOverKey_67 : decode cX4_gatherOverKey 67 = .ok (.iaload, 1) := by decide +kernel
theorem dX4_gatherOverKey_68 : decode cX4_gatherOverKey 68 = .ok (.invokevirtual 57, 3) := by decide +kernel
theorem dX4_gatherOverKey_71 : decode cX4_gatherOverKey 71 = .ok (.invokevirtual 61, 3) := by decide +kernel
theorem dX4_gatherOverKey_74 : decode cX4_gatherOverKey 74 = .ok (.return_, 1) := by decide +kernel
theorem dX4_depend_0 : decode cX4_depend 0 = .ok (.iload_n 1, 1) := by decide +kernel
theorem dX4_depend_1 : decode cX4_depend 1 = .ok (.ifCond .lt 30, 3) := by decide +kernel
theorem dX4_depend_4 : decode cX4_depend 4 = .ok (.iload_n 2, 1) := by decide +kernel
theorem dX4_depend_5 : decode cX4_depend 5 = .ok (.ifCond .lt 26, 3) := by decide +kernel
theorem dX4_depend_8 : decode cX4_depend 8 = .ok (.iload_n 2, 1) := by decide +kernel
theorem dX4_depend_9 : decode cX4_depend 9 = .ok (.bipush 12, 2) := by decide +kernel
theorem dX4_depend_11 : decode cX4_depend 11 = .ok (.if_icmp .ge 20, 3) := by decide +kernel
theorem dX4_depend_14 : decode cX4_depend 14 = .ok (.iload_n 1, 1) := by decide +kernel
theorem dX4_depend_15 : decode cX4_depend 15 = .ok (.iload_n 2, 1) := by decide +kernel
theorem dX4_depend_16 : decode cX4_depend 16 = .ok (.if_icmp .eq 15, 3) := by decide +kernel
theorem dX4_depend_19 : decode cX4_depend 19 = .ok (.aload_n 0, 1) := by decide +kernel
theorem dX4_depend_20 : decode cX4_depend 20 = .ok (.getfield 9, 3) := by decide +kernel
theorem dX4_depend_23 : decode cX4_depend 23 = .ok (.iload_n 2, 1) := by decide +kernel
theorem dX4_depend_24 : decode cX4_depend 24 = .ok (.dup2, 1) := by decide +kernel
theorem dX4_depend_25 : decode cX4_depend 25 = .ok (.iaload, 1) := by decide +kernel
theorem dX4_depend_26 : decode cX4_depend 26 = .ok (.iconst 1, 1) := by decide +kernel
theorem dX4_depend_27 : decode cX4_depend 27 = .ok (.iload_n 1, 1) := by decide +kernel
theorem dX4_depend_28 : decode cX4_depend 28 = .ok (.ishl, 1) := by decide +kernel
theorem dX4_depend_29 : decode cX4_depend 29 = .ok (.ior, 1) := by decide +kernel
theorem dX4_depend_30 : decode cX4_depend 30 = .ok (.iastore, 1) := by decide +kernel
theorem dX4_depend_31 : decode cX4_depend 31 = .ok (.return_, 1) := by decide +kernel
set_option maxRecDepth 20000 in
theorem ggX5_init_X2_init : GoodIn wsX5_init wsX2_init := goodIn_r _ [25, 26, 2, 3, 27, 28, 29, 30, 31, 32, 33, 34, 35, 36, 37, 59, 60, 61, 62, 63, 64, 65, 66, 67, 68] (by decide +kernel) (by decide +kernel)
set_option maxRecDepth 20000 in
theorem gX5_init_X2_init : GoodIn wsX5_init (wsX2_init) := ggX5_init_X2_init
set_option maxRecDepth 20000 in
theorem ggX5_init_X1_init : GoodIn wsX5_init wsX1_init := goodIn_r _ [40, 41, 2, 3, 42, 43, 44, 45, 5, 6, 46, 24, 25, 26, 27, 28, 29, 30, 31, 32, 33, 34, 35, 36, 37, 75, 76, 77, 59, 60, 61, 62, 63, 64, 65, 66, 67, 68] (by decide +kernel) (by decide +kernel)
set_option maxRecDepth 20000 in
theorem gX5_init_X1_init : GoodIn wsX5_init (wsX1_init) := ggX5_init_X1_init
set_option maxRecDepth 20000 in
theorem ggX5_init_X3_init : GoodIn wsX5_init wsX3_init := goodIn_r _ [49, 50, 2, 3, 51, 52, 78, 79, 80, 81, 82, 83, 84, 85] (by decide +kernel) (by decide +kernel)
set_option maxRecDepth 20000 in
theorem gX5_init_X3_init : GoodIn wsX5_init (wsX3_init) := ggX5_init_X3_init
set_option maxRecDepth 20000 in
theorem ggX5_init_X4_init : GoodIn wsX5_init wsX4_init := goodIn_r _ [55, 56, 2, 3, 30, 57, 58, 86, 87] (by decide +kernel) (by decide +kernel)
set_option maxRecDepth 20000 in
theorem gX5_init_X4_init : GoodIn wsX5_init (wsX4_init) := ggX5_init_X4_init
theorem dX5_init_0 : decode cX5_init 0 = .ok (.aload_n 0, 1) := by decide +kernel
theorem dX5_init_1 : decode cX5_init 1 = .ok (.invokespecial 1, 3) := by decide +kernel
theorem dX5_init_4 : decode cX5_init 4 = .ok (.aload_n 0, 1) := by decide +kernel
theorem dX5_init_5 : decode cX5_init 5 = .ok (.new 7, 3) := by decide +kernel
theorem dX5_init_8 : decode cX5_init 8 = .ok (.dup, 1) := by decide +kernel
theorem dX5_init_9 : decode cX5_init 9 = .ok (.invokespecial 9, 3) := by decide +kernel
theorem dX5_init_12 : decode cX5_init 12 = .ok (.putfield 10, 3) := by decide +kernel
theorem dX5_init_15 : decode cX5_init 15 = .ok (.aload_n 0, 1) := by decide +kernel
theorem dX5_init_16 : decode cX5_init 16 = .ok (.new 16, 3) := by decide +kernel
theorem dX5_init_19 : decode cX5_init 19 = .ok (.dup, 1) := by decide +kernel
theorem dX5_init_20 : decode cX5_init 20 = .ok (.invokespecial 18, 3) := by decide +kernel
theorem dX5_init_23 : decode cX5_init 23 = .ok (.putfield 19, 3) := by decide +kernel
theorem dX5_init_26 : decode cX5_init 26 = .ok (.aload_n 0, 1) := by decide +kernel
theorem dX5_init_27 : decode cX5_init 27 = .ok (.iconst 2, 1) := by decide +kernel
theorem dX5_init_28 : decode cX5_init 28 = .ok (.anewarray 7, 3) := by decide +kernel
theorem dX5_init_31 : decode cX5_init 31 = .ok (.putfield 23, 3) := by decide +kernel
theorem dX5_init_34 : decode cX5_init 34 = .ok (.iconst 0, 1) := by decide +kernel
theorem dX5_init_35 : decode cX5_init 35 = .ok (.istore_n 1, 1) := by decide +kernel
theorem dX5_init_36 : decode cX5_init 36 = .ok (.iload_n 1, 1) := by decide +kernel
theorem dX5_init_37 : decode cX5_init 37 = .ok (.iconst 2, 1) := by decide +kernel
theorem dX5_init_38 : decode cX5_init 38 = .ok (.if_icmp .ge 22, 3) := by decide +kernel
theorem dX5_init_41 : decode cX5_init 41 = .ok (.aload_n 0, 1) := by decide +kernel
theorem dX5_init_42 : decode cX5_init 42 = .ok (.getfield 23, 3) := by decide +kernel
theorem dX5_init_45 : decode cX5_init 45 = .ok (.iload_n 1, 1) := by decide +kernel
theorem dX5_init_46 : decode cX5_init 46 = .ok (.new 7, 3) := by decide +kernel
theorem dX5_init_49 : decode cX5_init 49 = .ok (.dup, 1) := by decide +kernel
theorem dX5_init_50 : decode cX5_init 50 = .ok (.invokespecial 9, 3) := by decide +kernel
theorem dX5_init_53 : decode cX5_init 53 = .ok (.aastore, 1) := by decide +kernel
theorem dX5_init_54 : decode cX5_init 54 = .ok (.iinc 1 1, 3) := by decide +kernel
theorem dX5_init_57 : decode cX5_init 57 = .ok (.goto (-21), 3) := by decide +kernel
theorem dX5_init_60 : decode cX5_init 60 = .ok (.aload_n 0, 1) := by decide +kernel
theorem dX5_init_61 : decode cX5_init 61 = .ok (.iconst 2, 1) := by decide +kernel
theorem dX5_init_62 : decode cX5_init 62 = .ok (.newarray .boolean, 2) := by decide +kernel
theorem dX5_init_64 : decode cX5_init 64 = .ok (.putfield 27, 3) := by decide +kernel
theorem dX5_init_67 : decode cX5_init 67 = .ok (.aload_n 0, 1) := by decide +kernel
theorem dX5_init_68 : decode cX5_init 68 = .ok (.new 31, 3) := by decide +kernel
theorem dX5_init_71 : decode cX5_init 71 = .ok (.dup, 1) := by decide +kernel
theorem dX5_init_72 : decode cX5_init 72 = .ok (.invokespecial 33, 3) := by decide +kernel
theorem dX5_init_75 : decode cX5_init 75 = .ok (.putfield 34, 3) := by decide +kernel
theorem dX5_init_78 : decode cX5_init 78 = .ok (.aload_n 0, 1) := by decide +kernel
theorem dX5_init_79 : decode cX5_init 79 = .ok (.new 38, 3) := by decide +kernel
theorem dX5_init_82 : decode cX5_init 82 = .ok (.dup, 1) := by decide +kernel
theorem dX5_init_83 : decode cX5_init 83 = .ok (.invokespecial 40, 3) := by decide +kernel
theorem dX5_init_86 : decode cX5_init 86 = .ok (.putfield 41, 3) := by decide +kernel
theorem dX5_init_89 : decode cX5_init 89 = .ok (.return_, 1) := by decide +kernel
set_option maxRecDepth 20000 in
theorem ggX5_rule_X1_prepare : GoodIn wsX5_rule wsX1_prepare := goodIn_r _ [7, 8, 9, 10, 11, 12, 13, 14, 15, 16, 17, 18, 19, 20, 21, 22, 23, 24, 25, 26, 27, 28, 51, 52, 53, 54, 55, 56, 57, 58, 59, 60, 61, 62, 63] (by decide +kernel) (by decide +kernel)
set_option maxRecDepth 20000 in
theorem gX5_rule_X1_prepare : GoodIn wsX5_rule (wsV RX5 45 RX1 yX1_prepare wsX1_prepare) := goodIn_app (goodIn_of _ (by decide +kernel)) ggX5_rule_X1_prepare
set_option maxRecDepth 20000 in
theorem ggX5_rule_X2_changeRule : GoodIn wsX5_rule wsX2_changeRule := goodIn_r _ [32, 15, 33, 34, 35, 54, 55, 56, 57, 58, 59, 60, 61, 62, 63] (by decide +kernel) (by decide +kernel)
set_option maxRecDepth 20000 in
theorem gX5_rule_X2_changeRule : GoodIn wsX5_rule (wsV RX5 49 RX2 yX2_changeRule wsX2_changeRule) := goodIn_app (goodIn_of _ (by decide +kernel)) ggX5_rule_X2_changeRule
set_option maxRecDepth 20000 in
theorem ggX5_rule_X1_keepUnlessError : GoodIn wsX5_rule wsX1_keepUnlessError := goodIn_r _ [39, 9, 40, 41, 42, 43, 44, 51, 52, 53] (by decide +kernel) (by decide +kernel)
set_option maxRecDepth 20000 in
theorem gX5_rule_X1_keepUnlessError : GoodIn wsX5_rule (wsV RX5 53 RX1 yX1_keepUnlessError wsX1_keepUnlessError) := goodIn_app (goodIn_of _ (by decide +kernel)) ggX5_rule_X1_keepUnlessError
theorem dX5_rule_0 : decode cX5_rule 0 = .ok (.aload_n 0, 1) := by decide +kernel
theorem dX5_rule_1 : decode cX5_rule 1 = .ok (.getfield 19, 3) := by decide +kernel
theorem dX5_rule_4 : decode cX5_rule 4 = .ok (.aload_n 0, 1) := by decide +kernel
theorem dX5_rule_5 : decode cX5_rule 5 = .ok (.getfield 10, 3) := by decide +kernel
theorem dX5_rule_8 : decode cX5_rule 8 = .ok (.invokevirtual 45, 3) := by decide +kernel
theorem dX5_rule_11 : decode cX5_rule 11 = .ok (.aload_n 0, 1) := by decide +kernel
theorem dX5_rule_12 : decode cX5_rule 12 = .ok (.getfield 19, 3) := by decide +kernel
theorem dX5_rule_15 : decode cX5_rule 15 = .ok (.aload_n 0, 1) := by decide +kernel
theorem dX5_rule_16 : decode cX5_rule 16 = .ok (.getfield 10, 3) := by decide +kernel
theorem dX5_rule_19 : decode cX5_rule 19 = .ok (.iload_n 1, 1) := by decide +kernel
theorem dX5_rule_20 : decode cX5_rule 20 = .ok (.invokevirtual 49, 3) := by decide +kernel
theorem dX5_rule_23 : decode cX5_rule 23 = .ok (.invokevirtual 53, 3) := by decide +kernel
theorem dX5_rule_26 : decode cX5_rule 26 = .ok (.ireturn, 1) := by decide +kernel
set_option maxRecDepth 20000 in
theorem ggX5_begin_X1_prepare : GoodIn wsX5_begin wsX1_prepare := goodIn_r _ [7, 8, 9, 10, 11, 12, 13, 14, 15, 16, 17, 18, 19, 20, 21, 22, 23, 24, 25, 26, 27, 28, 48, 49, 50, 51, 52, 53, 54, 55, 56, 57, 58, 59, 60] (by decide +kernel) (by decide +kernel)
set_option maxRecDepth 20000 in
theorem gX5_begin_X1_prepare : GoodIn wsX5_begin (wsV RX5 45 RX1 yX1_prepare wsX1_prepare) := goodIn_app (goodIn_of _ (by decide +kernel)) ggX5_begin_X1_prepare
set_option maxRecDepth 20000 in
theorem ggX5_begin_X2_start : GoodIn wsX5_begin wsX2_start := goodIn_r _ [32, 17, 16, 18, 23, 24, 25, 26, 27, 51, 52, 53, 54, 55, 56, 57, 58, 59, 60] (by decide +kernel) (by decide +kernel)
set_option maxRecDepth 20000 in
theorem gX5_begin_X2_start : GoodIn wsX5_begin (wsV RX5 56 RX2 yX2_start wsX2_start) := goodIn_app (goodIn_of _ (by decide +kernel)) ggX5_begin_X2_start
set_option maxRecDepth 20000 in
theorem ggX5_begin_X1_keepUnlessError : GoodIn wsX5_begin wsX1_keepUnlessError := goodIn_r _ [36, 9, 37, 38, 39, 40, 41, 48, 49, 50] (by decide +kernel) (by decide +kernel)
set_option maxRecDepth 20000 in
theorem gX5_begin_X1_keepUnlessError : GoodIn wsX5_begin (wsV RX5 53 RX1 yX1_keepUnlessError wsX1_keepUnlessError) := goodIn_app (goodIn_of _ (by decide +kernel)) ggX5_begin_X1_keepUnlessError
theorem dX5_begin_0 : decode cX5_begin 0 = .ok (.aload_n 0, 1) := by decide +kernel
theorem dX5_begin_1 : decode cX5_begin 1 = .ok (.getfield 19, 3) := by decide +kernel
theorem dX5_begin_4 : decode cX5_begin 4 = .ok (.aload_n 0, 1) := by decide +kernel
theorem dX5_begin_5 : decode cX5_begin 5 = .ok (.getfield 10, 3) := by decide +kernel
theorem dX5_begin_8 : decode cX5_begin 8 = .ok (.invokevirtual 45, 3) := by decide +kernel
theorem dX5_begin_11 : decode cX5_begin 11 = .ok (.aload_n 0, 1) := by decide +kernel
theorem dX5_begin_12 : decode cX5_begin 12 = .ok (.getfield 19, 3) := by decide +kernel
theorem dX5_begin_15 : decode cX5_begin 15 = .ok (.aload_n 0, 1) := by decide +kernel
theorem dX5_begin_16 : decode cX5_begin 16 = .ok (.getfield 10, 3) := by decide +kernel
theorem dX5_begin_19 : decode cX5_begin 19 = .ok (.invokevirtual 56, 3) := by decide +kernel
theorem dX5_begin_22 : decode cX5_begin 22 = .ok (.invokevirtual 53, 3) := by decide +kernel
theorem dX5_begin_25 : decode cX5_begin 25 = .ok (.ireturn, 1) := by decide +kernel
set_option maxRecDepth 20000 in
theorem ggX5_read_X1_prepare : GoodIn wsX5_read wsX1_prepare := goodIn_r _ [7, 8, 9, 10, 11, 12, 13, 14, 15, 16, 17, 18, 19, 20, 21, 22, 23, 24, 25, 26, 27, 28, 69, 70, 71, 72, 73, 74, 75, 76, 77, 78, 79, 80, 81] (by decide +kernel) (by decide +kernel)
set_option maxRecDepth 20000 in
theorem gX5_read_X1_prepare : GoodIn wsX5_read (wsV RX5 45 RX1 yX1_prepare wsX1_prepare) := goodIn_app (goodIn_of _ (by decide +kernel)) ggX5_read_X1_prepare
set_option maxRecDepth 20000 in
theorem ggX5_read_X2_look : GoodIn wsX5_read wsX2_look := goodIn_r _ [32, 18, 26, 25, 33, 34, 35, 13, 36, 17, 37, 38, 39, 40, 41, 42, 43, 44, 45, 23, 46, 47, 48, 49, 24, 50, 51, 52, 53, 28, 72, 73, 74, 75, 76, 77, 78, 79, 80, 81] (by decide +kernel) (by decide +kernel)
set_option maxRecDepth 20000 in
theorem gX5_read_X2_look : GoodIn wsX5_read (wsV RX5 60 RX2 yX2_look wsX2_look) := goodIn_app (goodIn_of _ (by decide +kernel)) ggX5_read_X2_look
set_option maxRecDepth 20000 in
theorem ggX5_read_X1_keepUnlessError : GoodIn wsX5_read wsX1_keepUnlessError := goodIn_r _ [57, 9, 58, 59, 60, 61, 62, 69, 70, 71] (by decide +kernel) (by decide +kernel)
set_option maxRecDepth 20000 in
theorem gX5_read_X1_keepUnlessError : GoodIn wsX5_read (wsV RX5 53 RX1 yX1_keepUnlessError wsX1_keepUnlessError) := goodIn_app (goodIn_of _ (by decide +kernel)) ggX5_read_X1_keepUnlessError
theorem dX5_read_0 : decode cX5_read 0 = .ok (.aload_n 0, 1) := by decide +kernel
theorem dX5_read_1 : decode cX5_read 1 = .ok (.getfield 19, 3) := by decide +kernel
theorem dX5_read_4 : decode cX5_read 4 = .ok (.aload_n 0, 1) := by decide +kernel
theorem dX5_read_5 : decode cX5_read 5 = .ok (.getfield 10, 3) := by decide +kernel
theorem dX5_read_8 : decode cX5_read 8 = .ok (.invokevirtual 45, 3) := by decide +kernel
theorem dX5_read_11 : decode cX5_read 11 = .ok (.aload_n 0, 1) := by decide +kernel
theorem dX5_read_12 : decode cX5_read 12 = .ok (.getfield 19, 3) := by decide +kernel
theorem dX5_read_15 : decode cX5_read 15 = .ok (.aload_n 0, 1) := by decide +kernel
theorem dX5_read_16 : decode cX5_read 16 = .ok (.getfield 10, 3) := by decide +kernel
theorem dX5_read_19 : decode cX5_read 19 = .ok (.iload_n 1, 1) := by decide +kernel
theorem dX5_read_20 : decode cX5_read 20 = .ok (.iload_n 2, 1) := by decide +kernel
theorem dX5_read_21 : decode cX5_read 21 = .ok (.invokevirtual 60, 3) := by decide +kernel
theorem dX5_read_24 : decode cX5_read 24 = .ok (.invokevirtual 53, 3) := by decide +kernel
theorem dX5_read_27 : decode cX5_read 27 = .ok (.ireturn, 1) := by decide +kernel
set_option maxRecDepth 20000 in
theorem ggX5_write_X1_prepare : GoodIn wsX5_write wsX1_prepare := goodIn_r _ [7, 8, 9, 10, 11, 12, 13, 14, 15, 16, 17, 18, 19, 20, 21, 22, 23, 24, 25, 26, 27, 28, 55, 56, 57, 58, 59, 60, 61, 62, 63, 64, 65, 66, 67] (by decide +kernel) (by decide +kernel)
set_option maxRecDepth 20000 in
theorem gX5_write_X1_prepare : GoodIn wsX5_write (wsV RX5 45 RX1 yX1_prepare wsX1_prepare) := goodIn_app (goodIn_of _ (by decide +kernel)) ggX5_write_X1_prepare
set_option maxRecDepth 20000 in
theorem ggX5_write_X2_enter : GoodIn wsX5_write wsX2_enter := goodIn_r _ [32, 18, 26, 28, 33, 34, 35, 13, 36, 17, 37, 38, 39, 58, 59, 60, 61, 62, 63, 64, 65, 66, 67] (by decide +kernel) (by decide +kernel)
set_option maxRecDepth 20000 in
theorem gX5_write_X2_enter : GoodIn wsX5_write (wsV RX5 64 RX2 yX2_enter wsX2_enter) := goodIn_app (goodIn_of _ (by decide +kernel)) ggX5_write_X2_enter
set_option maxRecDepth 20000 in
theorem ggX5_write_X1_keepUnlessError : GoodIn wsX5_write wsX1_keepUnlessError := goodIn_r _ [43, 9, 44, 45, 46, 47, 48, 55, 56, 57] (by decide +kernel) (by decide +kernel)
set_option maxRecDepth 20000 in
theorem gX5_write_X1_keepUnlessError : GoodIn wsX5_write (wsV RX5 53 RX1 yX1_keepUnlessError wsX1_keepUnlessError) := goodIn_app (goodIn_of _ (by decide +kernel)) ggX5_write_X1_keepUnlessError
theorem dX5_write_0 : decode cX5_write 0 = .ok (.aload_n 0, 1) := by decide +kernel
theorem dX5_write_1 : decode cX5_write 1 = .ok (.getfield 19, 3) := by decide +kernel
theorem dX5_write_4 : decode cX5_write 4 = .ok (.aload_n 0, 1) := by decide +kernel
theorem dX5_write_5 : decode cX5_write 5 = .ok (.getfield 10, 3) := by decide +kernel
theorem dX5_write_8 : decode cX5_write 8 = .ok (.invokevirtual 45, 3) := by decide +kernel
theorem dX5_write_11 : decode cX5_write 11 = .ok (.aload_n 0, 1) := by decide +kernel
theorem dX5_write_12 : decode cX5_write 12 = .ok (.getfield 19, 3) := by decide +kernel
theorem dX5_write_15 : decode cX5_write 15 = .ok (.aload_n 0, 1) := by decide +kernel
theorem dX5_write_16 : decode cX5_write 16 = .ok (.getfield 10, 3) := by decide +kernel
theorem dX5_write_19 : decode cX5_write 19 = .ok (.iload_n 1, 1) := by decide +kernel
theorem dX5_write_20 : decode cX5_write 20 = .ok (.iload_n 2, 1) := by decide +kernel
theorem dX5_write_21 : decode cX5_write 21 = .ok (.iload_n 3, 1) := by decide +kernel
theorem dX5_write_22 : decode cX5_write 22 = .ok (.invokevirtual 64, 3) := by decide +kernel
theorem dX5_write_25 : decode cX5_write 25 = .ok (.invokevirtual 53, 3) := by decide +kernel
theorem dX5_write_28 : decode cX5_write 28 = .ok (.ireturn, 1) := by decide +kernel
set_option maxRecDepth 20000 in
theorem ggX5_commit_X1_prepare : GoodIn wsX5_commit wsX1_prepare := goodIn_r _ [7, 8, 9, 10, 11, 12, 13, 14, 15, 16, 17, 18, 19, 20, 21, 22, 23, 24, 25, 26, 27, 28, 92, 93, 94, 95, 96, 97, 98, 99, 100, 101, 102, 103, 104] (by decide +kernel) (by decide +kernel)
set_option maxRecDepth 20000 in
theorem gX5_commit_X1_prepare : GoodIn wsX5_commit (wsV RX5 45 RX1 yX1_prepare wsX1_prepare) := goodIn_app (goodIn_of _ (by decide +kernel)) ggX5_commit_X1_prepare
set_option maxRecDepth 20000 in
theorem ggX5_commit_X2_finish : GoodIn wsX5_commit wsX2_finish := goodIn_r _ [32, 18, 15, 27, 16, 24, 33, 34, 35, 13, 36, 17, 37, 38, 39, 40, 41, 42, 43, 44, 45, 46, 47, 48, 49, 50, 51, 52, 53, 54, 55, 56, 57, 58, 59, 60, 61, 62, 63, 64, 65, 66, 23, 25, 26, 67, 68, 69, 70, 71, 72, 73, 74, 75, 76, 95, 96, 97, 98, 99, 100, 101, 102, 103, 104] (by decide +kernel) (by decide +kernel)
set_option maxRecDepth 20000 in
theorem gX5_commit_X2_finish : GoodIn wsX5_commit (wsV RX5 68 RX2 yX2_finish wsX2_finish) := goodIn_app (goodIn_of _ (by decide +kernel)) ggX5_commit_X2_finish
set_option maxRecDepth 20000 in
theorem ggX5_commit_X1_keepUnlessError : GoodIn wsX5_commit wsX1_keepUnlessError := goodIn_r _ [80, 9, 81, 82, 83, 84, 85, 92, 93, 94] (by decide +kernel) (by decide +kernel)
set_option maxRecDepth 20000 in
theorem gX5_commit_X1_keepUnlessError : GoodIn wsX5_commit (wsV RX5 53 RX1 yX1_keepUnlessError wsX1_keepUnlessError) := goodIn_app (goodIn_of _ (by decide +kernel)) ggX5_commit_X1_keepUnlessError
theorem dX5_commit_0 : decode cX5_commit 0 = .ok (.aload_n 0, 1) := by decide +kernel
theorem dX5_commit_1 : decode cX5_commit 1 = .ok (.getfield 19, 3) := by decide +kernel
theorem dX5_commit_4 : decode cX5_commit 4 = .ok (.aload_n 0, 1) := by decide +kernel
theorem dX5_commit_5 : decode cX5_commit 5 = .ok (.getfield 10, 3) := by decide +kernel
theorem dX5_commit_8 : decode cX5_commit 8 = .ok (.invokevirtual 45, 3) := by decide +kernel
theorem dX5_commit_11 : decode cX5_commit 11 = .ok (.aload_n 0, 1) := by decide +kernel
theorem dX5_commit_12 : decode cX5_commit 12 = .ok (.getfield 19, 3) := by decide +kernel
theorem dX5_commit_15 : decode cX5_commit 15 = .ok (.aload_n 0, 1) := by decide +kernel
theorem dX5_commit_16 : decode cX5_commit 16 = .ok (.getfield 10, 3) := by decide +kernel
theorem dX5_commit_19 : decode cX5_commit 19 = .ok (.iload_n 1, 1) := by decide +kernel
theorem dX5_commit_20 : decode cX5_commit 20 = .ok (.invokevirtual 68, 3) := by decide +kernel
theorem dX5_commit_23 : decode cX5_commit 23 = .ok (.invokevirtual 53, 3) := by decide +kernel
theorem dX5_commit_26 : decode cX5_commit 26 = .ok (.ireturn, 1) := by decide +kernel
set_option maxRecDepth 20000 in
theorem ggX5_abort_X1_prepare : GoodIn wsX5_abort wsX1_prepare := goodIn_r _ [7, 8, 9, 10, 11, 12, 13, 14, 15, 16, 17, 18, 19, 20, 21, 22, 23, 24, 25, 26, 27, 28, 63, 64, 65, 66, 67, 68, 69, 70, 71, 72, 73, 74, 75] (by decide +kernel) (by decide +kernel)
set_option maxRecDepth 20000 in
theorem gX5_abort_X1_prepare : GoodIn wsX5_abort (wsV RX5 45 RX1 yX1_prepare wsX1_prepare) := goodIn_app (goodIn_of _ (by decide +kernel)) ggX5_abort_X1_prepare
set_option maxRecDepth 20000 in
theorem ggX5_abort_X2_giveUp : GoodIn wsX5_abort wsX2_giveUp := goodIn_r _ [32, 18, 27, 33, 34, 35, 13, 36, 17, 37, 38, 39, 40, 41, 42, 43, 44, 45, 46, 47, 66, 67, 68, 69, 70, 71, 72, 73, 74, 75] (by decide +kernel) (by decide +kernel)
set_option maxRecDepth 20000 in
theorem gX5_abort_X2_giveUp : GoodIn wsX5_abort (wsV RX5 71 RX2 yX2_giveUp wsX2_giveUp) := goodIn_app (goodIn_of _ (by decide +kernel)) ggX5_abort_X2_giveUp
set_option maxRecDepth 20000 in
theorem ggX5_abort_X1_keepUnlessError : GoodIn wsX5_abort wsX1_keepUnlessError := goodIn_r _ [51, 9, 52, 53, 54, 55, 56, 63, 64, 65] (by decide +kernel) (by decide +kernel)
set_option maxRecDepth 20000 in
theorem gX5_abort_X1_keepUnlessError : GoodIn wsX5_abort (wsV RX5 53 RX1 yX1_keepUnlessError wsX1_keepUnlessError) := goodIn_app (goodIn_of _ (by decide +kernel)) ggX5_abort_X1_keepUnlessError
theorem dX5_abort_0 : decode cX5_abort 0 = .ok (.aload_n 0, 1) := by decide +kernel
theorem dX5_abort_1 : decode cX5_abort 1 = .ok (.getfield 19, 3) := by decide +kernel
theorem dX5_abort_4 : decode cX5_abort 4 = .ok (.aload_n 0, 1) := by decide +kernel
theorem dX5_abort_5 : decode cX5_abort 5 = .ok (.getfield 10, 3) := by decide +kernel
theorem dX5_abort_8 : decode cX5_abort 8 = .ok (.invokevirtual 45, 3) := by decide +kernel
theorem dX5_abort_11 : decode cX5_abort 11 = .ok (.aload_n 0, 1) := by decide +kernel
theorem dX5_abort_12 : decode cX5_abort 12 = .ok (.getfield 19, 3) := by decide +kernel
theorem dX5_abort_15 : decode cX5_abort 15 = .ok (.aload_n 0, 1) := by decide +kernel
theorem dX5_abort_16 : decode cX5_abort 16 = .ok (.getfield 10, 3) := by decide +kernel
theorem dX5_abort_19 : decode cX5_abort 19 = .ok (.iload_n 1, 1) := by decide +kernel
theorem dX5_abort_20 : decode cX5_abort 20 = .ok (.invokevirtual 71, 3) := by decide +kernel
theorem dX5_abort_23 : decode cX5_abort 23 = .ok (.invokevirtual 53, 3) := by decide +kernel
theorem dX5_abort_26 : decode cX5_abort 26 = .ok (.ireturn, 1) := by decide +kernel
set_option maxRecDepth 20000 in
theorem ggX5_value_X5_isKey : GoodIn wsX5_value wsX5_isKey := goodIn_r _ [6] (by decide +kernel) (by decide +kernel)
set_option maxRecDepth 20000 in
theorem gX5_value_X5_isKey : GoodIn wsX5_value (va_wsS RX5 74 yX5_isKey wsX5_isKey) := goodIn_app (goodIn_of _ (by decide +kernel)) ggX5_value_X5_isKey
set_option maxRecDepth 20000 in
theorem ggX5_value_X2_writerAhead : GoodIn wsX5_value wsX2_writerAhead := goodIn_r _ [11, 12, 13, 14, 15, 16, 5, 17, 33, 34, 35, 36, 37, 38, 39, 40, 41, 42] (by decide +kernel) (by decide +kernel)
set_option maxRecDepth 20000 in
theorem gX5_value_X2_writerAhead : GoodIn wsX5_value (wsV RX5 82 RX2 yX2_writerAhead wsX2_writerAhead) := goodIn_app (goodIn_of _ (by decide +kernel)) ggX5_value_X2_writerAhead
set_option maxRecDepth 20000 in
theorem ggX5_value_X2_valueOfVersion : GoodIn wsX5_value wsX2_valueOfVersion := goodIn_r _ [21, 22, 23, 24, 25, 10, 26, 12, 33, 34, 35, 36, 37, 38, 39, 40, 41, 42] (by decide +kernel) (by decide +kernel)
set_option maxRecDepth 20000 in
theorem gX5_value_X2_valueOfVersion : GoodIn wsX5_value (wsV RX5 85 RX2 yX2_valueOfVersion wsX2_valueOfVersion) := goodIn_app (goodIn_of _ (by decide +kernel)) ggX5_value_X2_valueOfVersion
theorem dX5_value_0 : decode cX5_value 0 = .ok (.iload_n 1, 1) := by decide +kernel
theorem dX5_value_1 : decode cX5_value 1 = .ok (.invokestatic 74, 3) := by decide +kernel
theorem dX5_value_4 : decode cX5_value 4 = .ok (.ifCond .ne 5, 3) := by decide +kernel
theorem dX5_value_7 : decode cX5_value 7 = .ok (.iconst (-1), 1) := by decide +kernel
theorem dX5_value_8 : decode cX5_value 8 = .ok (.ireturn, 1) := by decide +kernel
theorem dX5_value_9 : decode cX5_value 9 = .ok (.aload_n 0, 1) := by decide +kernel
theorem dX5_value_10 : decode cX5_value 10 = .ok (.getfield 10, 3) := by decide +kernel
theorem dX5_value_13 : decode cX5_value 13 = .ok (.aload_n 0, 1) := by decide +kernel
theorem dX5_value_14 : decode cX5_value 14 = .ok (.getfield 10, 3) := by decide +kernel
theorem dX5_value_17 : decode cX5_value 17 = .ok (.iload_n 1, 1) := by decide +kernel
theorem dX5_value_18 : decode cX5_value 18 = .ok (.aload_n 0, 1) := by decide +kernel
theorem dX5_value_19 : decode cX5_value 19 = .ok (.getfield 10, 3) := by decide +kernel
theorem dX5_value_22 : decode cX5_value 22 = .ok (.getfield 78, 3) := by decide +kernel
theorem dX5_value_25 : decode cX5_value 25 = .ok (.iconst 1, 1) := by decide +kernel
theorem dX5_value_26 : decode cX5_value 26 = .ok (.iadd, 1) := by decide +kernel
theorem dX5_value_27 : decode cX5_value 27 = .ok (.invokevirtual 82, 3) := by decide +kernel
theorem dX5_value_30 : decode cX5_value 30 = .ok (.iload_n 1, 1) := by decide +kernel
theorem dX5_value_31 : decode cX5_value 31 = .ok (.invokevirtual 85, 3) := by decide +kernel
theorem dX5_value_34 : decode cX5_value 34 = .ok (.ireturn, 1) := by decide +kernel
set_option maxRecDepth 20000 in
theorem ggX5_of_X2_exists : GoodIn wsX5_of wsX2_exists := goodIn_r _ [12, 13, 49, 50, 51, 52, 53, 54, 55, 56, 57, 58] (by decide +kernel) (by decide +kernel)
set_option maxRecDepth 20000 in
theorem gX5_of_X2_exists : GoodIn wsX5_of (wsV RX5 88 RX2 yX2_exists wsX2_exists) := goodIn_app (goodIn_of _ (by decide +kernel)) ggX5_of_X2_exists
set_option maxRecDepth 20000 in
theorem ggX5_of_X2_edgesFrom : GoodIn wsX5_of wsX2_edgesFrom := goodIn_r _ [17, 13, 18, 19, 20, 11, 21, 22, 23, 24, 25, 26, 49, 50, 51, 52, 53, 54, 55, 56, 57, 58] (by decide +kernel) (by decide +kernel)
set_option maxRecDepth 20000 in
theorem gX5_of_X2_edgesFrom : GoodIn wsX5_of (wsV RX5 107 RX2 yX2_edgesFrom wsX2_edgesFrom) := goodIn_app (goodIn_of _ (by decide +kernel)) ggX5_of_X2_edgesFrom
set_option maxRecDepth 20000 in
theorem ggX5_of_X2_edgesTo : GoodIn wsX5_of wsX2_edgesTo := goodIn_r _ [30, 13, 18, 19, 20, 11, 21, 22, 23, 24, 25, 26, 49, 50, 51, 52, 53, 54, 55, 56, 57, 58] (by decide +kernel) (by decide +kernel)
set_option maxRecDepth 20000 in
theorem gX5_of_X2_edgesTo : GoodIn wsX5_of (wsV RX5 110 RX2 yX2_edgesTo wsX2_edgesTo) := goodIn_app (goodIn_of _ (by decide +kernel)) ggX5_of_X2_edgesTo
set_option maxRecDepth 20000 in
theorem ggX5_of_X2_snapshot : GoodIn wsX5_of wsX2_snapshot := goodIn_r _ [34, 26, 22, 24, 35, 36, 37, 11, 38, 23, 13, 39, 15, 16, 17, 18, 19, 20, 21, 25, 40, 41, 42, 49, 50, 51, 52, 53, 54, 55, 56, 57, 58] (by decide +kernel) (by decide +kernel)
set_option maxRecDepth 20000 in
theorem gX5_of_X2_snapshot : GoodIn wsX5_of (wsV RX5 116 RX2 yX2_snapshot wsX2_snapshot) := goodIn_app (goodIn_of _ (by decide +kernel)) ggX5_of_X2_snapshot
theorem dX5_of_0 : decode cX5_of 0 = .ok (.aload_n 0, 1) := by decide +kernel
theorem dX5_of_1 : decode cX5_of 1 = .ok (.getfield 10, 3) := by decide +kernel
theorem dX5_of_4 : decode cX5_of 4 = .ok (.iload_n 1, 1) := by decide +kernel
theorem dX5_of_5 : decode cX5_of 5 = .ok (.invokevirtual 88, 3) := by decide +kernel
theorem dX5_of_8 : decode cX5_of 8 = .ok (.ifCond .ne 5, 3) := by decide +kernel
theorem dX5_of_11 : decode cX5_of 11 = .ok (.iconst (-1), 1) := by decide +kernel
theorem dX5_of_12 : decode cX5_of 12 = .ok (.ireturn, 1) := by decide +kernel
theorem dX5_of_13 : decode cX5_of 13 = .ok (.iload_n 2, 1) := by decide +kernel
theorem dX5_of_14 : decode cX5_of 14 = .ok (.tableswitch 137 0 8 #[50, 60, 70, 80, 90, 100, 109, 118, 128], 50) := by decide +kernel
theorem dX5_of_64 : decode cX5_of 64 = .ok (.aload_n 0, 1) := by decide +kernel
theorem dX5_of_65 : decode cX5_of 65 = .ok (.getfield 10, 3) := by decide +kernel
theorem dX5_of_68 : decode cX5_of 68 = .ok (.getfield 91, 3) := by decide +kernel
theorem dX5_of_71 : decode cX5_of 71 = .ok (.iload_n 1, 1) := by decide +kernel
theorem dX5_of_72 : decode cX5_of 72 = .ok (.iaload, 1) := by decide +kernel
theorem dX5_of_73 : decode cX5_of 73 = .ok (.ireturn, 1) := by decide +kernel
theorem dX5_of_74 : decode cX5_of 74 = .ok (.aload_n 0, 1) := by decide +kernel
theorem dX5_of_75 : decode cX5_of 75 = .ok (.getfield 10, 3) := by decide +kernel
theorem dX5_of_78 : decode cX5_of 78 = .ok (.getfield 95, 3) := by decide +kernel
theorem dX5_of_81 : decode cX5_of 81 = .ok (.iload_n 1, 1) := by decide +kernel
theorem dX5_of_82 : decode cX5_of 82 = .ok (.iaload, 1) := by decide +kernel
theorem dX5_of_83 : decode cX5_of 83 = .ok (.ireturn, 1) := by decide +kernel
theorem dX5_of_84 : decode cX5_of 84 = .ok (.aload_n 0, 1) := by decide +kernel
theorem dX5_of_85 : decode cX5_of 85 = .ok (.getfield 10, 3) := by decide +kernel
theorem dX5_of_88 : decode cX5_of 88 = .ok (.getfield 98, 3) := by decide +kernel
theorem dX5_of_91 : decode cX5_of 91 = .ok (.iload_n 1, 1) := by decide +kernel
theorem dX5_of_92 : decode cX5_of 92 = .ok (.iaload, 1) := by decide +kernel
theorem dX5_of_93 : decode cX5_of 93 = .ok (.ireturn, 1) := by decide +kernel
theorem dX5_of_94 : decode cX5_of 94 = .ok (.aload_n 0, 1) := by decide +kernel
theorem dX5_of_95 : decode cX5_of 95 = .ok (.getfield 10, 3) := by decide +kernel
theorem dX5_of_98 : decode cX5_of 98 = .ok (.getfield 101, 3) := by decide +kernel
theorem dX5_of_101 : decode cX5_of 101 = .ok (.iload_n 1, 1) := by decide +kernel
theorem dX5_of_102 : decode cX5_of 102 = .ok (.iaload, 1) := by decide +kernel
theorem dX5_of_103 : decode cX5_of 103 = .ok (.ireturn, 1) := by decide +kernel
theorem dX5_of_104 : decode cX5_of 104 = .ok (.aload_n 0, 1) := by decide +kernel
theorem dX5_of_105 : decode cX5_of 105 = .ok (.getfield 10, 3) := by decide +kernel
theorem dX5_of_108 : decode cX5_of 108 = .ok (.getfield 104, 3) := by decide +kernel
theorem dX5_of_111 : decode cX5_of 111 = .ok (.iload_n 1, 1) := by decide +kernel
theorem dX5_of_112 : decode cX5_of 112 = .ok (.iaload, 1) := by decide +kernel
theorem dX5_of_113 : decode cX5_of 113 = .ok (.ireturn, 1) := by decide +kernel
theorem dX5_of_114 : decode cX5_of 114 = .ok (.aload_n 0, 1) := by decide +kernel
theorem dX5_of_115 : decode cX5_of 115 = .ok (.getfield 10, 3) := by decide +kernel
theorem dX5_of_118 : decode cX5_of 118 = .ok (.iload_n 1, 1) := by decide +kernel
theorem dX5_of_119 : decode cX5_of 119 = .ok (.invokevirtual 107, 3) := by decide +kernel
theorem dX5_of_122 : decode cX5_of 122 = .ok (.ireturn, 1) := by decide +kernel
theorem dX5_of_123 : decode cX5_of 123 = .ok (.aload_n 0, 1) := by decide +kernel
theorem dX5_of_124 : decode cX5_of 124 = .ok (.getfield 10, 3) := by decide +kernel
theorem dX5_of_127 : decode cX5_of 127 = .ok (.iload_n 1, 1) := by decide +kernel
theorem dX5_of_128 : decode cX5_of 128 = .ok (.invokevirtual 110, 3) := by decide +kernel
theorem dX5_of_131 : decode cX5_of 131 = .ok (.ireturn, 1) := by decide +kernel
theorem dX5_of_132 : decode cX5_of 132 = .ok (.aload_n 0, 1) := by decide +kernel
theorem dX5_of_133 : decode cX5_of 133 = .ok (.getfield 10, 3) := by decide +kernel
theorem dX5_of_136 : decode cX5_of 136 = .ok (.getfield 113, 3) := by decide +kernel
theorem dX5_of_139 : decode cX5_of 139 = .ok (.iload_n 1, 1) := by decide +kernel
theorem dX5_of_140 : decode cX5_of 140 = .ok (.iaload, 1) := by decide +kernel
theorem dX5_of_141 : decode cX5_of 141 = .ok (.ireturn, 1) := by decide +kernel
theorem dX5_of_142 : decode cX5_of 142 = .ok (.aload_n 0, 1) := by decide +kernel
theorem dX5_of_143 : decode cX5_of 143 = .ok (.getfield 10, 3) := by decide +kernel
theorem dX5_of_146 : decode cX5_of 146 = .ok (.iload_n 1, 1) := by decide +kernel
theorem dX5_of_147 : decode cX5_of 147 = .ok (.invokevirtual 116, 3) := by decide +kernel
theorem dX5_of_150 : decode cX5_of 150 = .ok (.ireturn, 1) := by decide +kernel
theorem dX5_of_151 : decode cX5_of 151 = .ok (.bipush (-2), 2) := by decide +kernel
theorem dX5_of_153 : decode cX5_of 153 = .ok (.ireturn, 1) := by decide +kernel
set_option maxRecDepth 20000 in
theorem ggX5_edge_X2_exists : GoodIn wsX5_edge wsX2_exists := goodIn_r _ [6, 7, 23, 24, 25, 26, 27, 28, 29, 30, 31, 32] (by decide +kernel) (by decide +kernel)
set_option maxRecDepth 20000 in
theorem gX5_edge_X2_exists : GoodIn wsX5_edge (wsV RX5 88 RX2 yX2_exists wsX2_exists) := goodIn_app (goodIn_of _ (by decide +kernel)) ggX5_edge_X2_exists
set_option maxRecDepth 20000 in
theorem ggX5_edge_X2_edgeKeys : GoodIn wsX5_edge wsX2_edgeKeys := goodIn_r _ [11, 12, 13, 14, 15, 16, 23, 24, 25, 26, 27, 28, 29, 30, 31, 32] (by decide +kernel) (by decide +kernel)
set_option maxRecDepth 20000 in
theorem gX5_edge_X2_edgeKeys : GoodIn wsX5_edge (wsV RX5 119 RX2 yX2_edgeKeys wsX2_edgeKeys) := goodIn_app (goodIn_of _ (by decide +kernel)) ggX5_edge_X2_edgeKeys
theorem dX5_edge_0 : decode cX5_edge 0 = .ok (.aload_n 0, 1) := by decide +kernel
theorem dX5_edge_1 : decode cX5_edge 1 = .ok (.getfield 10, 3) := by decide +kernel
theorem dX5_edge_4 : decode cX5_edge 4 = .ok (.iload_n 1, 1) := by decide +kernel
theorem dX5_edge_5 : decode cX5_edge 5 = .ok (.invokevirtual 88, 3) := by decide +kernel
theorem dX5_edge_8 : decode cX5_edge 8 = .ok (.ifCond .eq 14, 3) := by decide +kernel
theorem dX5_edge_11 : decode cX5_edge 11 = .ok (.aload_n 0, 1) := by decide +kernel
theorem dX5_edge_12 : decode cX5_edge 12 = .ok (.getfield 10, 3) := by decide +kernel
theorem dX5_edge_15 : decode cX5_edge 15 = .ok (.iload_n 2, 1) := by decide +kernel
theorem dX5_edge_16 : decode cX5_edge 16 = .ok (.invokevirtual 88, 3) := by decide +kernel
theorem dX5_edge_19 : decode cX5_edge 19 = .ok (.ifCond .ne 5, 3) := by decide +kernel
theorem dX5_edge_22 : decode cX5_edge 22 = .ok (.iconst (-1), 1) := by decide +kernel
theorem dX5_edge_23 : decode cX5_edge 23 = .ok (.ireturn, 1) := by decide +kernel
theorem dX5_edge_24 : decode cX5_edge 24 = .ok (.aload_n 0, 1) := by decide +kernel
theorem dX5_edge_25 : decode cX5_edge 25 = .ok (.getfield 10, 3) := by decide +kernel
theorem dX5_edge_28 : decode cX5_edge 28 = .ok (.iload_n 1, 1) := by decide +kernel
theorem dX5_edge_29 : decode cX5_edge 29 = .ok (.iload_n 2, 1) := by decide +kernel
theorem dX5_edge_30 : decode cX5_edge 30 = .ok (.invokevirtual 119, 3) := by decide +kernel
theorem dX5_edge_33 : decode cX5_edge 33 = .ok (.ifCond .eq 7, 3) := by decide +kernel
theorem dX5_edge_36 : decode cX5_edge 36 = .ok (.iconst 1, 1) := by decide +kernel
theorem dX5_edge_37 : decode cX5_edge 37 = .ok (.goto 4, 3) := by decide +kernel
theorem dX5_edge_40 : decode cX5_edge 40 = .ok (.iconst 0, 1) := by decide +kernel
theorem dX5_edge_41 : decode cX5_edge 41 = .ok (.ireturn, 1) := by decide +kernel
set_option maxRecDepth 20000 in
theorem ggX5_over_X2_exists : GoodIn wsX5_over wsX2_exists := goodIn_r _ [6, 7, 27, 28, 29, 30, 31, 32, 33, 34, 35, 36] (by decide +kernel) (by decide +kernel)
set_option maxRecDepth 20000 in
theorem gX5_over_X2_exists : GoodIn wsX5_over (wsV RX5 88 RX2 yX2_exists wsX2_exists) := goodIn_app (goodIn_of _ (by decide +kernel)) ggX5_over_X2_exists
set_option maxRecDepth 20000 in
theorem ggX5_over_X2_edgeKeys : GoodIn wsX5_over wsX2_edgeKeys := goodIn_r _ [11, 12, 13, 14, 15, 16, 27, 28, 29, 30, 31, 32, 33, 34, 35, 36] (by decide +kernel) (by decide +kernel)
set_option maxRecDepth 20000 in
theorem gX5_over_X2_edgeKeys : GoodIn wsX5_over (wsV RX5 119 RX2 yX2_edgeKeys wsX2_edgeKeys) := goodIn_app (goodIn_of _ (by decide +kernel)) ggX5_over_X2_edgeKeys
set_option maxRecDepth 20000 in
theorem ggX5_over_X5_contains : GoodIn wsX5_over wsX5_contains := goodIn_r _ [20] (by decide +kernel) (by decide +kernel)
set_option maxRecDepth 20000 in
theorem gX5_over_X5_contains : GoodIn wsX5_over (va_wsS RX5 122 yX5_contains wsX5_contains) := goodIn_app (goodIn_of _ (by decide +kernel)) ggX5_over_X5_contains
theorem dX5_over_0 : decode cX5_over 0 = .ok (.aload_n 0, 1) := by decide +kernel
theorem dX5_over_1 : decode cX5_over 1 = .ok (.getfield 10, 3) := by decide +kernel
theorem dX5_over_4 : decode cX5_over 4 = .ok (.iload_n 1, 1) := by decide +kernel
theorem dX5_over_5 : decode cX5_over 5 = .ok (.invokevirtual 88, 3) := by decide +kernel
theorem dX5_over_8 : decode cX5_over 8 = .ok (.ifCond .eq 14, 3) := by decide +kernel
theorem dX5_over_11 : decode cX5_over 11 = .ok (.aload_n 0, 1) := by decide +kernel
theorem dX5_over_12 : decode cX5_over 12 = .ok (.getfield 10, 3) := by decide +kernel
theorem dX5_over_15 : decode cX5_over 15 = .ok (.iload_n 2, 1) := by decide +kernel
theorem dX5_over_16 : decode cX5_over 16 = .ok (.invokevirtual 88, 3) := by decide +kernel
theorem dX5_over_19 : decode cX5_over 19 = .ok (.ifCond .ne 5, 3) := by decide +kernel
theorem dX5_over_22 : decode cX5_over 22 = .ok (.iconst (-1), 1) := by decide +kernel
theorem dX5_over_23 : decode cX5_over 23 = .ok (.ireturn, 1) := by decide +kernel
theorem dX5_over_24 : decode cX5_over 24 = .ok (.aload_n 0, 1) := by decide +kernel
theorem dX5_over_25 : decode cX5_over 25 = .ok (.getfield 10, 3) := by decide +kernel
theorem dX5_over_28 : decode cX5_over 28 = .ok (.iload_n 1, 1) := by decide +kernel
theorem dX5_over_29 : decode cX5_over 29 = .ok (.iload_n 2, 1) := by decide +kernel
theorem dX5_over_30 : decode cX5_over 30 = .ok (.invokevirtual 119, 3) := by decide +kernel
theorem dX5_over_33 : decode cX5_over 33 = .ok (.istore_n 3, 1) := by decide +kernel
theorem dX5_over_34 : decode cX5_over 34 = .ok (.iconst 0, 1) := by decide +kernel
theorem dX5_over_35 : decode cX5_over 35 = .ok (.istore 4, 2) := by decide +kernel
theorem dX5_over_37 : decode cX5_over 37 = .ok (.iload 4, 2) := by decide +kernel
theorem dX5_over_39 : decode cX5_over 39 = .ok (.bipush 16, 2) := by decide +kernel
theorem dX5_over_41 : decode cX5_over 41 = .ok (.if_icmp .ge 21, 3) := by decide +kernel
theorem dX5_over_44 : decode cX5_over 44 = .ok (.iload_n 3, 1) := by decide +kernel
theorem dX5_over_45 : decode cX5_over 45 = .ok (.iload 4, 2) := by decide +kernel
theorem dX5_over_47 : decode cX5_over 47 = .ok (.invokestatic 122, 3) := by decide +kernel
theorem dX5_over_50 : decode cX5_over 50 = .ok (.ifCond .eq 6, 3) := by decide +kernel
theorem dX5_over_53 : decode cX5_over 53 = .ok (.iload 4, 2) := by decide +kernel
theorem dX5_over_55 : decode cX5_over 55 = .ok (.ireturn, 1) := by decide +kernel
theorem dX5_over_56 : decode cX5_over 56 = .ok (.iinc 4 1, 3) := by decide +kernel
theorem dX5_over_59 : decode cX5_over 59 = .ok (.goto (-22), 3) := by decide +kernel
theorem dX5_over_62 : decode cX5_over 62 = .ok (.bipush (-6), 2) := by decide +kernel
theorem dX5_over_64 : decode cX5_over 64 = .ok (.ireturn, 1) := by decide +kernel
set_option maxRecDepth 20000 in
theorem ggX5_count_X2_inPhase : GoodIn wsX5_count wsX2_inPhase := goodIn_r _ [14, 15, 16, 101, 102, 103, 104, 105, 106, 107, 108, 109, 110] (by decide +kernel) (by decide +kernel)
set_option maxRecDepth 20000 in
theorem gX5_count_X2_inPhase : GoodIn wsX5_count (wsV RX5 129 RX2 yX2_inPhase wsX2_inPhase) := goodIn_app (goodIn_of _ (by decide +kernel)) ggX5_count_X2_inPhase
set_option maxRecDepth 20000 in
theorem ggX5_count_X2_edgeTotal : GoodIn wsX5_count wsX2_edgeTotal := goodIn_r _ [20, 15, 21, 22, 23, 13, 24, 25, 26, 27, 28, 16, 29, 30, 31, 32, 33, 34, 35, 36, 37, 38, 39, 101, 102, 103, 104, 105, 106, 107, 108, 109, 110] (by decide +kernel) (by decide +kernel)
set_option maxRecDepth 20000 in
theorem gX5_count_X2_edgeTotal : GoodIn wsX5_count (wsV RX5 135 RX2 yX2_edgeTotal wsX2_edgeTotal) := goodIn_app (goodIn_of _ (by decide +kernel)) ggX5_count_X2_edgeTotal
set_option maxRecDepth 20000 in
theorem ggX5_count_X2_pivots : GoodIn wsX5_count wsX2_pivots := goodIn_r _ [43, 15, 44, 45, 46, 13, 47, 25, 26, 27, 28, 16, 29, 30, 31, 32, 21, 22, 23, 24, 101, 102, 103, 104, 105, 106, 107, 108, 109, 110] (by decide +kernel) (by decide +kernel)
set_option maxRecDepth 20000 in
theorem gX5_count_X2_pivots : GoodIn wsX5_count (wsV RX5 138 RX2 yX2_pivots wsX2_pivots) := goodIn_app (goodIn_of _ (by decide +kernel)) ggX5_count_X2_pivots
set_option maxRecDepth 20000 in
theorem ggX5_count_X2_tripleTotal : GoodIn wsX5_count wsX2_tripleTotal := goodIn_r _ [51, 15, 44, 45, 46, 13, 47, 25, 26, 27, 28, 16, 29, 30, 31, 32, 33, 34, 35, 36, 37, 38, 39, 21, 22, 23, 24, 101, 102, 103, 104, 105, 106, 107, 108, 109, 110] (by decide +kernel) (by decide +kernel)
set_option maxRecDepth 20000 in
theorem gX5_count_X2_tripleTotal : GoodIn wsX5_count (wsV RX5 141 RX2 yX2_tripleTotal wsX2_tripleTotal) := goodIn_app (goodIn_of _ (by decide +kernel)) ggX5_count_X2_tripleTotal
set_option maxRecDepth 20000 in
theorem ggX5_count_X4_arrange : GoodIn wsX5_count wsX4_arrange := goodIn_r _ [56, 57, 58, 59, 60, 55, 61, 62, 63, 64, 65, 66, 67, 68, 69, 70, 71, 72, 73, 74, 75, 76, 77, 78, 13, 79, 80, 15, 16, 32, 29, 81, 82, 83, 84, 85, 86, 87, 88, 89, 11, 12, 14, 90, 34, 35, 36, 37, 38, 39, 91, 92, 93, 94, 122, 123, 101, 102, 103, 104, 105, 106, 107, 108, 109, 110] (by decide +kernel) (by decide +kernel)
set_option maxRecDepth 20000 in
theorem gX5_count_X4_arrange : GoodIn wsX5_count (wsV RX5 144 RX4 yX4_arrange wsX4_arrange) := goodIn_app (goodIn_of _ (by decide +kernel)) ggX5_count_X4_arrange
theorem dX5_count_0 : decode cX5_count 0 = .ok (.iload_n 1, 1) := by decide +kernel
theorem dX5_count_1 : decode cX5_count 1 = .ok (.tableswitch 174 0 11 #[63, 71, 80, 89, 98, 106, 114, 122, 130, 138, 158, 166], 63) := by decide +kernel
theorem dX5_count_64 : decode cX5_count 64 = .ok (.aload_n 0, 1) := by decide +kernel
theorem dX5_count_65 : decode cX5_count 65 = .ok (.getfield 10, 3) := by decide +kernel
theorem dX5_count_68 : decode cX5_count 68 = .ok (.getfield 126, 3) := by decide +kernel
theorem dX5_count_71 : decode cX5_count 71 = .ok (.ireturn, 1) := by decide +kernel
theorem dX5_count_72 : decode cX5_count 72 = .ok (.aload_n 0, 1) := by decide +kernel
theorem dX5_count_73 : decode cX5_count 73 = .ok (.getfield 10, 3) := by decide +kernel
theorem dX5_count_76 : decode cX5_count 76 = .ok (.iconst 0, 1) := by decide +kernel
theorem dX5_count_77 : decode cX5_count 77 = .ok (.invokevirtual 129, 3) := by decide +kernel
theorem dX5_count_80 : decode cX5_count 80 = .ok (.ireturn, 1) := by decide +kernel
theorem dX5_count_81 : decode cX5_count 81 = .ok (.aload_n 0, 1) := by decide +kernel
theorem dX5_count_82 : decode cX5_count 82 = .ok (.getfield 10, 3) := by decide +kernel
theorem dX5_count_85 : decode cX5_count 85 = .ok (.iconst 1, 1) := by decide +kernel
theorem dX5_count_86 : decode cX5_count 86 = .ok (.invokevirtual 129, 3) := by decide +kernel
theorem dX5_count_89 : decode cX5_count 89 = .ok (.ireturn, 1) := by decide +kernel
theorem dX5_count_90 : decode cX5_count 90 = .ok (.aload_n 0, 1) := by decide +kernel
theorem dX5_count_91 : decode cX5_count 91 = .ok (.getfield 10, 3) := by decide +kernel
theorem dX5_count_94 : decode cX5_count 94 = .ok (.iconst 2, 1) := by decide +kernel
theorem dX5_count_95 : decode cX5_count 95 = .ok (.invokevirtual 129, 3) := by decide +kernel
theorem dX5_count_98 : decode cX5_count 98 = .ok (.ireturn, 1) := by decide +kernel
theorem dX5_count_99 : decode cX5_count 99 = .ok (.aload_n 0, 1) := by decide +kernel
theorem dX5_count_100 : decode cX5_count 100 = .ok (.getfield 10, 3) := by decide +kernel
theorem dX5_count_103 : decode cX5_count 103 = .ok (.getfield 78, 3) := by decide +kernel
theorem dX5_count_106 : decode cX5_count 106 = .ok (.ireturn, 1) := by decide +kernel
theorem dX5_count_107 : decode cX5_count 107 = .ok (.aload_n 0, 1) := by decide +kernel
theorem dX5_count_108 : decode cX5_count 108 = .ok (.getfield 10, 3) := by decide +kernel
theorem dX5_count_111 : decode cX5_count 111 = .ok (.getfield 132, 3) := by decide +kernel
theorem dX5_count_114 : decode cX5_count 114 = .ok (.ireturn, 1) := by decide +kernel
theorem dX5_count_115 : decode cX5_count 115 = .ok (.aload_n 0, 1) := by decide +kernel
theorem dX5_count_116 : decode cX5_count 116 = .ok (.getfield 10, 3) := by decide +kernel
theorem dX5_count_119 : decode cX5_count 119 = .ok (.invokevirtual 135, 3) := by decide +kernel
theorem dX5_count_122 : decode cX5_count 122 = .ok (.ireturn, 1) := by decide +kernel
theorem dX5_count_123 : decode cX5_count 123 = .ok (.aload_n 0, 1) := by decide +kernel
theorem dX5_count_124 : decode cX5_count 124 = .ok (.getfield 10, 3) := by decide +kernel
theorem dX5_count_127 : decode cX5_count 127 = .ok (.invokevirtual 138, 3) := by decide +kernel
theorem dX5_count_130 : decode cX5_count 130 = .ok (.ireturn, 1) := by decide +kernel
theorem dX5_count_131 : decode cX5_count 131 = .ok (.aload_n 0, 1) := by decide +kernel
theorem dX5_count_132 : decode cX5_count 132 = .ok (.getfield 10, 3) := by decide +kernel
theorem dX5_count_135 : decode cX5_count 135 = .ok (.invokevirtual 141, 3) := by decide +kernel
theorem dX5_count_138 : decode cX5_count 138 = .ok (.ireturn, 1) := by decide +kernel
theorem dX5_count_139 : decode cX5_count 139 = .ok (.aload_n 0, 1) := by decide +kernel
theorem dX5_count_140 : decode cX5_count 140 = .ok (.getfield 41, 3) := by decide +kernel
theorem dX5_count_143 : decode cX5_count 143 = .ok (.aload_n 0, 1) := by decide +kernel
theorem dX5_count_144 : decode cX5_count 144 = .ok (.getfield 10, 3) := by decide +kernel
theorem dX5_count_147 : decode cX5_count 147 = .ok (.invokevirtual 144, 3) := by decide +kernel
theorem dX5_count_150 : decode cX5_count 150 = .ok (.ifCond .eq 7, 3) := by decide +kernel
theorem dX5_count_153 : decode cX5_count 153 = .ok (.iconst 1, 1) := by decide +kernel
theorem dX5_count_154 : decode cX5_count 154 = .ok (.goto 4, 3) := by decide +kernel
theorem dX5_count_157 : decode cX5_count 157 = .ok (.iconst 0, 1) := by decide +kernel
theorem dX5_count_158 : decode cX5_count 158 = .ok (.ireturn, 1) := by decide +kernel
theorem dX5_count_159 : decode cX5_count 159 = .ok (.aload_n 0, 1) := by decide +kernel
theorem dX5_count_160 : decode cX5_count 160 = .ok (.getfield 34, 3) := by decide +kernel
theorem dX5_count_163 : decode cX5_count 163 = .ok (.getfield 148, 3) := by decide +kernel
theorem dX5_count_166 : decode cX5_count 166 = .ok (.ireturn, 1) := by decide +kernel
theorem dX5_count_167 : decode cX5_count 167 = .ok (.aload_n 0, 1) := by decide +kernel
theorem dX5_count_168 : decode cX5_count 168 = .ok (.getfield 19, 3) := by decide +kernel
theorem dX5_count_171 : decode cX5_count 171 = .ok (.getfield 151, 3) := by decide +kernel
theorem dX5_count_174 : decode cX5_count 174 = .ok (.ireturn, 1) := by decide +kernel
theorem dX5_count_175 : decode cX5_count 175 = .ok (.bipush (-2), 2) := by decide +kernel
theorem dX5_count_177 : decode cX5_count 177 = .ok (.ireturn, 1) := by decide +kernel
set_option maxRecDepth 20000 in
theorem ggX5_order_X2_inPhase : GoodIn wsX5_order wsX2_inPhase := goodIn_r _ [7, 8, 9, 72, 73, 74, 75, 76, 77, 78, 79, 80, 81] (by decide +kernel) (by decide +kernel)
set_option maxRecDepth 20000 in
theorem gX5_order_X2_inPhase : GoodIn wsX5_order (wsV RX5 129 RX2 yX2_inPhase wsX2_inPhase) := goodIn_app (goodIn_of _ (by decide +kernel)) ggX5_order_X2_inPhase
set_option maxRecDepth 20000 in
theorem ggX5_order_J6_bitCount_0f7a4 : GoodIn wsX5_order wsJ6_bitCount_0f7a4 := goodIn_r _ [13, 14, 15, 16] (by decide +kernel) (by decide +kernel)
set_option maxRecDepth 20000 in
theorem gX5_order_J6_bitCount_0f7a4 : GoodIn wsX5_order (va_wsS RX5 154 yJ6_bitCount_0f7a4 wsJ6_bitCount_0f7a4) := goodIn_app (goodIn_of _ (by decide +kernel)) ggX5_order_J6_bitCount_0f7a4
set_option maxRecDepth 20000 in
theorem ggX5_order_X4_arrange : GoodIn wsX5_order wsX4_arrange := goodIn_r _ [21, 22, 23, 24, 25, 20, 26, 27, 28, 29, 30, 31, 32, 33, 34, 35, 36, 37, 38, 39, 40, 41, 42, 43, 6, 44, 45, 8, 9, 46, 47, 48, 49, 50, 51, 52, 53, 54, 55, 56, 4, 5, 7, 57, 11, 12, 13, 14, 15, 16, 58, 59, 60, 61, 82, 83, 72, 73, 74, 75, 76, 77, 78, 79, 80, 81] (by decide +kernel) (by decide +kernel)
set_option maxRecDepth 20000 in
theorem gX5_order_X4_arrange : GoodIn wsX5_order (wsV RX5 144 RX4 yX4_arrange wsX4_arrange) := goodIn_app (goodIn_of _ (by decide +kernel)) ggX5_order_X4_arrange
set_option maxRecDepth 20000 in
theorem ggX5_order_X4_at : GoodIn wsX5_order wsX4_at := goodIn_r _ [65, 22, 82, 83] (by decide +kernel) (by decide +kernel)
set_option maxRecDepth 20000 in
theorem gX5_order_X4_at : GoodIn wsX5_order (wsV RX5 159 RX4 yX4_at wsX4_at) := goodIn_app (goodIn_of _ (by decide +kernel)) ggX5_order_X4_at
theorem dX5_order_0 : decode cX5_order 0 = .ok (.iload_n 1, 1) := by decide +kernel
theorem dX5_order_1 : decode cX5_order 1 = .ok (.ifCond .lt 18, 3) := by decide +kernel
theorem dX5_order_4 : decode cX5_order 4 = .ok (.iload_n 1, 1) := by decide +kernel
theorem dX5_order_5 : decode cX5_order 5 = .ok (.aload_n 0, 1) := by decide +kernel
theorem dX5_order_6 : decode cX5_order 6 = .ok (.getfield 10, 3) := by decide +kernel
theorem dX5_order_9 : decode cX5_order 9 = .ok (.iconst 1, 1) := by decide +kernel
theorem dX5_order_10 : decode cX5_order 10 = .ok (.invokevirtual 129, 3) := by decide +kernel
theorem dX5_order_13 : decode cX5_order 13 = .ok (.invokestatic 154, 3) := by decide +kernel
theorem dX5_order_16 : decode cX5_order 16 = .ok (.if_icmp .lt 5, 3) := by decide +kernel
theorem dX5_order_19 : decode cX5_order 19 = .ok (.iconst (-1), 1) := by decide +kernel
theorem dX5_order_20 : decode cX5_order 20 = .ok (.ireturn, 1) := by decide +kernel
theorem dX5_order_21 : decode cX5_order 21 = .ok (.aload_n 0, 1) := by decide +kernel
theorem dX5_order_22 : decode cX5_order 22 = .ok (.getfield 41, 3) := by decide +kernel
theorem dX5_order_25 : decode cX5_order 25 = .ok (.aload_n 0, 1) := by decide +kernel
theorem dX5_order_26 : decode cX5_order 26 = .ok (.getfield 10, 3) := by decide +kernel
theorem dX5_order_29 : decode cX5_order 29 = .ok (.invokevirtual 144, 3) := by decide +kernel
theorem dX5_order_32 : decode cX5_order 32 = .ok (.ifCond .ne 6, 3) := by decide +kernel
theorem dX5_order_35 : decode cX5_order 35 = .ok (.bipush (-5), 2) := by decide +kernel
theorem dX5_order_37 : decode cX5_order 37 = .ok (.ireturn, 1) := by decide +kernel
theorem dX5_order_38 : decode cX5_order 38 = .ok (.aload_n 0, 1) := by decide +kernel
theorem dX5_order_39 : decode cX5_order 39 = .ok (.getfield 41, 3) := by decide +kernel
theorem dX5_order_42 : decode cX5_order 42 = .ok (.iload_n 1, 1) := by decide +kernel
theorem dX5_order_43 : decode cX5_order 43 = .ok (.invokevirtual 159, 3) := by decide +kernel
theorem dX5_order_46 : decode cX5_order 46 = .ok (.ireturn, 1) := by decide +kernel
set_option maxRecDepth 20000 in
theorem ggX5_sees_X2_exists : GoodIn wsX5_sees wsX2_exists := goodIn_r _ [6, 7, 32, 33, 34, 35, 36, 37, 38, 39, 40, 41] (by decide +kernel) (by decide +kernel)
set_option maxRecDepth 20000 in
theorem gX5_sees_X2_exists : GoodIn wsX5_sees (wsV RX5 88 RX2 yX2_exists wsX2_exists) := goodIn_app (goodIn_of _ (by decide +kernel)) ggX5_sees_X2_exists
set_option maxRecDepth 20000 in
theorem ggX5_sees_X5_isKey : GoodIn wsX5_sees wsX5_isKey := goodIn_r _ [11] (by decide +kernel) (by decide +kernel)
set_option maxRecDepth 20000 in
theorem gX5_sees_X5_isKey : GoodIn wsX5_sees (va_wsS RX5 74 yX5_isKey wsX5_isKey) := goodIn_app (goodIn_of _ (by decide +kernel)) ggX5_sees_X5_isKey
set_option maxRecDepth 20000 in
theorem ggX5_sees_X2_seenWriter : GoodIn wsX5_sees wsX2_seenWriter := goodIn_r _ [15, 16, 17, 18, 10, 19, 20, 21, 22, 5, 23, 7, 24, 25, 32, 33, 34, 35, 36, 37, 38, 39, 40, 41] (by decide +kernel) (by decide +kernel)
set_option maxRecDepth 20000 in
theorem gX5_sees_X2_seenWriter : GoodIn wsX5_sees (wsV RX5 162 RX2 yX2_seenWriter wsX2_seenWriter) := goodIn_app (goodIn_of _ (by decide +kernel)) ggX5_sees_X2_seenWriter
theorem dX5_sees_0 : decode cX5_sees 0 = .ok (.aload_n 0, 1) := by decide +kernel
theorem dX5_sees_1 : decode cX5_sees 1 = .ok (.getfield 10, 3) := by decide +kernel
theorem dX5_sees_4 : decode cX5_sees 4 = .ok (.iload_n 1, 1) := by decide +kernel
theorem dX5_sees_5 : decode cX5_sees 5 = .ok (.invokevirtual 88, 3) := by decide +kernel
theorem dX5_sees_8 : decode cX5_sees 8 = .ok (.ifCond .eq 10, 3) := by decide +kernel
theorem dX5_sees_11 : decode cX5_sees 11 = .ok (.iload_n 2, 1) := by decide +kernel
theorem dX5_sees_12 : decode cX5_sees 12 = .ok (.invokestatic 74, 3) := by decide +kernel
theorem dX5_sees_15 : decode cX5_sees 15 = .ok (.ifCond .ne 5, 3) := by decide +kernel
theorem dX5_sees_18 : decode cX5_sees 18 = .ok (.iconst (-1), 1) := by decide +kernel
theorem dX5_sees_19 : decode cX5_sees 19 = .ok (.ireturn, 1) := by decide +kernel
theorem dX5_sees_20 : decode cX5_sees 20 = .ok (.aload_n 0, 1) := by decide +kernel
theorem dX5_sees_21 : decode cX5_sees 21 = .ok (.getfield 10, 3) := by decide +kernel
theorem dX5_sees_24 : decode cX5_sees 24 = .ok (.iload_n 1, 1) := by decide +kernel
theorem dX5_sees_25 : decode cX5_sees 25 = .ok (.iload_n 2, 1) := by decide +kernel
theorem dX5_sees_26 : decode cX5_sees 26 = .ok (.invokevirtual 162, 3) := by decide +kernel
theorem dX5_sees_29 : decode cX5_sees 29 = .ok (.ireturn, 1) := by decide +kernel
set_option maxRecDepth 20000 in
theorem ggX5_would_X2_exists : GoodIn wsX5_would wsX2_exists := goodIn_r _ [8, 9, 61, 62, 63, 64, 65, 66, 67, 68, 69, 70] (by decide +kernel) (by decide +kernel)
set_option maxRecDepth 20000 in
theorem gX5_would_X2_exists : GoodIn wsX5_would (wsV RX5 88 RX2 yX2_exists wsX2_exists) := goodIn_app (goodIn_of _ (by decide +kernel)) ggX5_would_X2_exists
set_option maxRecDepth 20000 in
theorem ggX5_would_X0_refusal : GoodIn wsX5_would wsX0_refusal := goodIn_r _ [13, 14, 15, 12, 16, 17, 18, 19, 20, 21, 22, 23, 24, 25, 26, 27, 7, 28, 9, 29, 30, 31, 32, 33, 34, 35, 36, 37, 38, 39, 40, 41, 42, 43, 44, 45, 46, 47, 48, 49, 50, 51, 52, 53, 54, 61, 62, 63, 64, 65, 66, 67, 68, 69, 70] (by decide +kernel) (by decide +kernel)
set_option maxRecDepth 20000 in
theorem gX5_would_X0_refusal : GoodIn wsX5_would (va_wsS RX5 165 yX0_refusal wsX0_refusal) := goodIn_app (goodIn_of _ (by decide +kernel)) ggX5_would_X0_refusal
theorem dX5_would_0 : decode cX5_would 0 = .ok (.aload_n 0, 1) := by decide +kernel
theorem dX5_would_1 : decode cX5_would 1 = .ok (.getfield 10, 3) := by decide +kernel
theorem dX5_would_4 : decode cX5_would 4 = .ok (.iload_n 1, 1) := by decide +kernel
theorem dX5_would_5 : decode cX5_would 5 = .ok (.invokevirtual 88, 3) := by decide +kernel
theorem dX5_would_8 : decode cX5_would 8 = .ok (.ifCond .ne 5, 3) := by decide +kernel
theorem dX5_would_11 : decode cX5_would 11 = .ok (.iconst (-1), 1) := by decide +kernel
theorem dX5_would_12 : decode cX5_would 12 = .ok (.ireturn, 1) := by decide +kernel
theorem dX5_would_13 : decode cX5_would 13 = .ok (.aload_n 0, 1) := by decide +kernel
theorem dX5_would_14 : decode cX5_would 14 = .ok (.getfield 10, 3) := by decide +kernel
theorem dX5_would_17 : decode cX5_would 17 = .ok (.getfield 91, 3) := by decide +kernel
theorem dX5_would_20 : decode cX5_would 20 = .ok (.iload_n 1, 1) := by decide +kernel
theorem dX5_would_21 : decode cX5_would 21 = .ok (.iaload, 1) := by decide +kernel
theorem dX5_would_22 : decode cX5_would 22 = .ok (.ifCond .eq 6, 3) := by decide +kernel
theorem dX5_would_25 : decode cX5_would 25 = .ok (.bipush (-5), 2) := by decide +kernel
theorem dX5_would_27 : decode cX5_would 27 = .ok (.ireturn, 1) := by decide +kernel
theorem dX5_would_28 : decode cX5_would 28 = .ok (.aload_n 0, 1) := by decide +kernel
theorem dX5_would_29 : decode cX5_would 29 = .ok (.getfield 10, 3) := by decide +kernel
theorem dX5_would_32 : decode cX5_would 32 = .ok (.iload_n 1, 1) := by decide +kernel
theorem dX5_would_33 : decode cX5_would 33 = .ok (.aload_n 0, 1) := by decide +kernel
theorem dX5_would_34 : decode cX5_would 34 = .ok (.getfield 10, 3) := by decide +kernel
theorem dX5_would_37 : decode cX5_would 37 = .ok (.getfield 132, 3) := by decide +kernel
theorem dX5_would_40 : decode cX5_would 40 = .ok (.invokestatic 165, 3) := by decide +kernel
theorem dX5_would_43 : decode cX5_would 43 = .ok (.ireturn, 1) := by decide +kernel
set_option maxRecDepth 20000 in
theorem ggX5_triple_X2_exists : GoodIn wsX5_triple wsX2_exists := goodIn_r _ [8, 9, 65, 66, 67, 68, 69, 70, 71, 72, 73, 74] (by decide +kernel) (by decide +kernel)
set_option maxRecDepth 20000 in
theorem gX5_triple_X2_exists : GoodIn wsX5_triple (wsV RX5 88 RX2 yX2_exists wsX2_exists) := goodIn_app (goodIn_of _ (by decide +kernel)) ggX5_triple_X2_exists
set_option maxRecDepth 20000 in
theorem ggX5_triple_X0_refusal : GoodIn wsX5_triple wsX0_refusal := goodIn_r _ [13, 14, 15, 12, 16, 17, 18, 19, 20, 21, 22, 23, 24, 25, 26, 27, 7, 28, 9, 29, 30, 31, 32, 33, 34, 35, 36, 37, 38, 39, 40, 41, 42, 43, 44, 45, 46, 47, 48, 49, 50, 51, 52, 53, 54, 65, 66, 67, 68, 69, 70, 71, 72, 73, 74] (by decide +kernel) (by decide +kernel)
set_option maxRecDepth 20000 in
theorem gX5_triple_X0_refusal : GoodIn wsX5_triple (va_wsS RX5 165 yX0_refusal wsX0_refusal) := goodIn_app (goodIn_of _ (by decide +kernel)) ggX5_triple_X0_refusal
set_option maxRecDepth 20000 in
theorem ggX5_triple_X0_firstTriple : GoodIn wsX5_triple wsX0_firstTriple := goodIn_r _ [24, 18, 25, 26, 27, 7, 28, 9, 29, 30, 31, 32, 33, 34, 35, 36, 37, 38, 39, 40, 41, 42, 43, 44, 45, 46, 47, 48, 49, 50, 12, 51, 52, 53, 54, 19, 20, 17, 21, 65, 66, 67, 68, 69, 70, 71, 72, 73, 74] (by decide +kernel) (by decide +kernel)
set_option maxRecDepth 20000 in
theorem gX5_triple_X0_firstTriple : GoodIn wsX5_triple (va_wsS RX5 171 yX0_firstTriple wsX0_firstTriple) := goodIn_app (goodIn_of _ (by decide +kernel)) ggX5_triple_X0_firstTriple
set_option maxRecDepth 20000 in
theorem ggX5_triple_X0_partOfTriple : GoodIn wsX5_triple wsX0_partOfTriple := goodIn_r _ [58] (by decide +kernel) (by decide +kernel)
set_option maxRecDepth 20000 in
theorem gX5_triple_X0_partOfTriple : GoodIn wsX5_triple (va_wsS RX5 174 yX0_partOfTriple wsX0_partOfTriple) := goodIn_app (goodIn_of _ (by decide +kernel)) ggX5_triple_X0_partOfTriple
theorem dX5_triple_0 : decode cX5_triple 0 = .ok (.aload_n 0, 1) := by decide +kernel
theorem dX5_triple_1 : decode cX5_triple 1 = .ok (.getfield 10, 3) := by decide +kernel
theorem dX5_triple_4 : decode cX5_triple 4 = .ok (.iload_n 1, 1) := by decide +kernel
theorem dX5_triple_5 : decode cX5_triple 5 = .ok (.invokevirtual 88, 3) := by decide +kernel
theorem dX5_triple_8 : decode cX5_triple 8 = .ok (.ifCond .ne 5, 3) := by decide +kernel
theorem dX5_triple_11 : decode cX5_triple 11 = .ok (.iconst (-1), 1) := by decide +kernel
theorem dX5_triple_12 : decode cX5_triple 12 = .ok (.ireturn, 1) := by decide +kernel
theorem dX5_triple_13 : decode cX5_triple 13 = .ok (.iload_n 2, 1) := by decide +kernel
theorem dX5_triple_14 : decode cX5_triple 14 = .ok (.ifCond .lt 8, 3) := by decide +kernel
theorem dX5_triple_17 : decode cX5_triple 17 = .ok (.iload_n 2, 1) := by decide +kernel
theorem dX5_triple_18 : decode cX5_triple 18 = .ok (.iconst 2, 1) := by decide +kernel
theorem dX5_triple_19 : decode cX5_triple 19 = .ok (.if_icmp .le 6, 3) := by decide +kernel
theorem dX5_triple_22 : decode cX5_triple 22 = .ok (.bipush (-2), 2) := by decide +kernel
theorem dX5_triple_24 : decode cX5_triple 24 = .ok (.ireturn, 1) := by decide +kernel
theorem dX5_triple_25 : decode cX5_triple 25 = .ok (.aload_n 0, 1) := by decide +kernel
theorem dX5_triple_26 : decode cX5_triple 26 = .ok (.getfield 10, 3) := by decide +kernel
theorem dX5_triple_29 : decode cX5_triple 29 = .ok (.getfield 91, 3) := by decide +kernel
theorem dX5_triple_32 : decode cX5_triple 32 = .ok (.iload_n 1, 1) := by decide +kernel
theorem dX5_triple_33 : decode cX5_triple 33 = .ok (.iaload, 1) := by decide +kernel
theorem dX5_triple_34 : decode cX5_triple 34 = .ok (.ifCond .eq 6, 3) := by decide +kernel
theorem dX5_triple_37 : decode cX5_triple 37 = .ok (.bipush (-5), 2) := by decide +kernel
theorem dX5_triple_39 : decode cX5_triple 39 = .ok (.ireturn, 1) := by decide +kernel
theorem dX5_triple_40 : decode cX5_triple 40 = .ok (.aload_n 0, 1) := by decide +kernel
theorem dX5_triple_41 : decode cX5_triple 41 = .ok (.getfield 10, 3) := by decide +kernel
theorem dX5_triple_44 : decode cX5_triple 44 = .ok (.iload_n 1, 1) := by decide +kernel
theorem dX5_triple_45 : decode cX5_triple 45 = .ok (.aload_n 0, 1) := by decide +kernel
theorem dX5_triple_46 : decode cX5_triple 46 = .ok (.getfield 10, 3) := by decide +kernel
theorem dX5_triple_49 : decode cX5_triple 49 = .ok (.getfield 132, 3) := by decide +kernel
theorem dX5_triple_52 : decode cX5_triple 52 = .ok (.invokestatic 165, 3) := by decide +kernel
theorem dX5_triple_55 : decode cX5_triple 55 = .ok (.iconst 2, 1) := by decide +kernel
theorem dX5_triple_56 : decode cX5_triple 56 = .ok (.if_icmp .eq 6, 3) := by decide +kernel
theorem dX5_triple_59 : decode cX5_triple 59 = .ok (.bipush (-6), 2) := by decide +kernel
theorem dX5_triple_61 : decode cX5_triple 61 = .ok (.ireturn, 1) := by decide +kernel
theorem dX5_triple_62 : decode cX5_triple 62 = .ok (.aload_n 0, 1) := by decide +kernel
theorem dX5_triple_63 : decode cX5_triple 63 = .ok (.getfield 10, 3) := by decide +kernel
theorem dX5_triple_66 : decode cX5_triple 66 = .ok (.iload_n 1, 1) := by decide +kernel
theorem dX5_triple_67 : decode cX5_triple 67 = .ok (.aload_n 0, 1) := by decide +kernel
theorem dX5_triple_68 : decode cX5_triple 68 = .ok (.getfield 10, 3) := by decide +kernel
theorem dX5_triple_71 : decode cX5_triple 71 = .ok (.getfield 132, 3) := by decide +kernel
theorem dX5_triple_74 : decode cX5_triple 74 = .ok (.invokestatic 171, 3) := by decide +kernel
theorem dX5_triple_77 : decode cX5_triple 77 = .ok (.iload_n 2, 1) := by decide +kernel
theorem dX5_triple_78 : decode cX5_triple 78 = .ok (.invokestatic 174, 3) := by decide +kernel
theorem dX5_triple_81 : decode cX5_triple 81 = .ok (.ireturn, 1) := by decide +kernel
set_option maxRecDepth 20000 in
theorem ggX5_doomed_X5_isRule : GoodIn wsX5_doomed wsX5_isRule := goodIn_r _ [5] (by decide +kernel) (by decide +kernel)
set_option maxRecDepth 20000 in
theorem gX5_doomed_X5_isRule : GoodIn wsX5_doomed (va_wsS RX5 177 yX5_isRule wsX5_isRule) := goodIn_app (goodIn_of _ (by decide +kernel)) ggX5_doomed_X5_isRule
set_option maxRecDepth 20000 in
theorem ggX5_doomed_X2_inPhase : GoodIn wsX5_doomed wsX2_inPhase := goodIn_r _ [10, 11, 12, 60, 61, 62, 63, 64, 65, 66, 67, 68, 69] (by decide +kernel) (by decide +kernel)
set_option maxRecDepth 20000 in
theorem gX5_doomed_X2_inPhase : GoodIn wsX5_doomed (wsV RX5 129 RX2 yX2_inPhase wsX2_inPhase) := goodIn_app (goodIn_of _ (by decide +kernel)) ggX5_doomed_X2_inPhase
set_option maxRecDepth 20000 in
theorem ggX5_doomed_X5_contains : GoodIn wsX5_doomed wsX5_contains := goodIn_r _ [15] (by decide +kernel) (by decide +kernel)
set_option maxRecDepth 20000 in
theorem gX5_doomed_X5_contains : GoodIn wsX5_doomed (va_wsS RX5 122 yX5_contains wsX5_contains) := goodIn_app (goodIn_of _ (by decide +kernel)) ggX5_doomed_X5_contains
set_option maxRecDepth 20000 in
theorem ggX5_doomed_X0_refusal : GoodIn wsX5_doomed wsX0_refusal := goodIn_r _ [19, 20, 21, 18, 22, 23, 24, 25, 26, 27, 28, 29, 30, 31, 7, 8, 9, 10, 11, 12, 14, 4, 15, 32, 33, 34, 35, 36, 37, 38, 39, 40, 41, 42, 43, 44, 45, 46, 47, 48, 49, 50, 51, 52, 53, 60, 61, 62, 63, 64, 65, 66, 67, 68, 69] (by decide +kernel) (by decide +kernel)
set_option maxRecDepth 20000 in
theorem gX5_doomed_X0_refusal : GoodIn wsX5_doomed (va_wsS RX5 165 yX0_refusal wsX0_refusal) := goodIn_app (goodIn_of _ (by decide +kernel)) ggX5_doomed_X0_refusal
theorem dX5_doomed_0 : decode cX5_doomed 0 = .ok (.iload_n 1, 1) := by decide +kernel
theorem dX5_doomed_1 : decode cX5_doomed 1 = .ok (.invokestatic 177, 3) := by decide +kernel
theorem dX5_doomed_4 : decode cX5_doomed 4 = .ok (.ifCond .ne 6, 3) := by decide +kernel
theorem dX5_doomed_7 : decode cX5_doomed 7 = .ok (.bipush (-2), 2) := by decide +kernel
theorem dX5_doomed_9 : decode cX5_doomed 9 = .ok (.ireturn, 1) := by decide +kernel
theorem dX5_doomed_10 : decode cX5_doomed 10 = .ok (.aload_n 0, 1) := by decide +kernel
theorem dX5_doomed_11 : decode cX5_doomed 11 = .ok (.getfield 10, 3) := by decide +kernel
theorem dX5_doomed_14 : decode cX5_doomed 14 = .ok (.iconst 0, 1) := by decide +kernel
theorem dX5_doomed_15 : decode cX5_doomed 15 = .ok (.invokevirtual 129, 3) := by decide +kernel
theorem dX5_doomed_18 : decode cX5_doomed 18 = .ok (.istore_n 2, 1) := by decide +kernel
theorem dX5_doomed_19 : decode cX5_doomed 19 = .ok (.iconst 0, 1) := by decide +kernel
theorem dX5_doomed_20 : decode cX5_doomed 20 = .ok (.istore_n 3, 1) := by decide +kernel
theorem dX5_doomed_21 : decode cX5_doomed 21 = .ok (.iconst 0, 1) := by decide +kernel
theorem dX5_doomed_22 : decode cX5_doomed 22 = .ok (.istore 4, 2) := by decide +kernel
theorem dX5_doomed_24 : decode cX5_doomed 24 = .ok (.iload 4, 2) := by decide +kernel
theorem dX5_doomed_26 : decode cX5_doomed 26 = .ok (.bipush 12, 2) := by decide +kernel
theorem dX5_doomed_28 : decode cX5_doomed 28 = .ok (.if_icmp .ge 38, 3) := by decide +kernel
theorem dX5_doomed_31 : decode cX5_doomed 31 = .ok (.iload_n 2, 1) := by decide +kernel
theorem dX5_doomed_32 : decode cX5_doomed 32 = .ok (.iload 4, 2) := by decide +kernel
theorem dX5_doomed_34 : decode cX5_doomed 34 = .ok (.invokestatic 122, 3) := by decide +kernel
theorem dX5_doomed_37 : decode cX5_doomed 37 = .ok (.ifCond .eq 23, 3) := by decide +kernel
theorem dX5_doomed_40 : decode cX5_doomed 40 = .ok (.aload_n 0, 1) := by decide +kernel
theorem dX5_doomed_41 : decode cX5_doomed 41 = .ok (.getfield 10, 3) := by decide +kernel
theorem dX5_doomed_44 : decode cX5_doomed 44 = .ok (.iload 4, 2) := by decide +kernel
theorem dX5_doomed_46 : decode cX5_doomed 46 = .ok (.iload_n 1, 1) := by decide +kernel
theorem dX5_doomed_47 : decode cX5_doomed 47 = .ok (.invokestatic 165, 3) := by decide +kernel
theorem dX5_doomed_50 : decode cX5_doomed 50 = .ok (.ifCond .eq 10, 3) := by decide +kernel
theorem dX5_doomed_53 : decode cX5_doomed 53 = .ok (.iload_n 3, 1) := by decide +kernel
theorem dX5_doomed_54 : decode cX5_doomed 54 = .ok (.iconst 1, 1) := by decide +kernel
theorem dX5_doomed_55 : decode cX5_doomed 55 = .ok (.iload 4, 2) := by decide +kernel
theorem dX5_doomed_57 : decode cX5_doomed 57 = .ok (.ishl, 1) := by decide +kernel
theorem dX5_doomed_58 : decode cX5_doomed 58 = .ok (.ior, 1) := by decide +kernel
theorem dX5_doomed_59 : decode cX5_doomed 59 = .ok (.istore_n 3, 1) := by decide +kernel
theorem dX5_doomed_60 : decode cX5_doomed 60 = .ok (.iinc 4 1, 3) := by decide +kernel
theorem dX5_doomed_63 : decode cX5_doomed 63 = .ok (.goto (-39), 3) := by decide +kernel
theorem dX5_doomed_66 : decode cX5_doomed 66 = .ok (.iload_n 3, 1) := by decide +kernel
theorem dX5_doomed_67 : decode cX5_doomed 67 = .ok (.ireturn, 1) := by decide +kernel
set_option maxRecDepth 20000 in
theorem ggX5_put_X3_append : GoodIn wsX5_put wsX3_append := goodIn_r _ [6, 7, 8, 9, 10, 11, 18, 19, 20, 21, 22, 23, 24, 25] (by decide +kernel) (by decide +kernel)
set_option maxRecDepth 20000 in
theorem gX5_put_X3_append : GoodIn wsX5_put (wsV RX5 180 RX3 yX3_append wsX3_append) := goodIn_app (goodIn_of _ (by decide +kernel)) ggX5_put_X3_append
theorem dX5_put_0 : decode cX5_put 0 = .ok (.aload_n 0, 1) := by decide +kernel
theorem dX5_put_1 : decode cX5_put 1 = .ok (.getfield 34, 3) := by decide +kernel
theorem dX5_put_4 : decode cX5_put 4 = .ok (.lload_n 1, 1) := by decide +kernel
theorem dX5_put_5 : decode cX5_put 5 = .ok (.invokevirtual 180, 3) := by decide +kernel
theorem dX5_put_8 : decode cX5_put 8 = .ok (.ireturn, 1) := by decide +kernel
set_option maxRecDepth 20000 in
theorem ggX5_wipe_X3_empty : GoodIn wsX5_wipe wsX3_empty := goodIn_r _ [6, 7, 14, 15, 16, 17, 18, 19, 20, 21] (by decide +kernel) (by decide +kernel)
set_option maxRecDepth 20000 in
theorem gX5_wipe_X3_empty : GoodIn wsX5_wipe (wsV RX5 184 RX3 yX3_empty wsX3_empty) := goodIn_app (goodIn_of _ (by decide +kernel)) ggX5_wipe_X3_empty
theorem dX5_wipe_0 : decode cX5_wipe 0 = .ok (.aload_n 0, 1) := by decide +kernel
theorem dX5_wipe_1 : decode cX5_wipe 1 = .ok (.getfield 34, 3) := by decide +kernel
theorem dX5_wipe_4 : decode cX5_wipe 4 = .ok (.invokevirtual 184, 3) := by decide +kernel
theorem dX5_wipe_7 : decode cX5_wipe 7 = .ok (.ireturn, 1) := by decide +kernel
set_option maxRecDepth 20000 in
theorem ggX5_fault_X3_firstFault : GoodIn wsX5_fault wsX3_firstFault := goodIn_r _ [6, 7, 8, 9, 10, 11, 5, 12, 13, 14, 15, 16, 17, 18, 19, 20, 21, 22, 23, 24, 25, 26, 27, 28, 29, 30, 31, 32, 33, 34, 35, 36, 37, 38, 39, 40, 41, 42, 43, 44, 45, 46, 53, 54, 55, 56, 57, 58, 59, 60] (by decide +kernel) (by decide +kernel)
set_option maxRecDepth 20000 in
theorem gX5_fault_X3_firstFault : GoodIn wsX5_fault (wsV RX5 187 RX3 yX3_firstFault wsX3_firstFault) := goodIn_app (goodIn_of _ (by decide +kernel)) ggX5_fault_X3_firstFault
theorem dX5_fault_0 : decode cX5_fault 0 = .ok (.aload_n 0, 1) := by decide +kernel
theorem dX5_fault_1 : decode cX5_fault 1 = .ok (.getfield 34, 3) := by decide +kernel
theorem dX5_fault_4 : decode cX5_fault 4 = .ok (.invokevirtual 187, 3) := by decide +kernel
theorem dX5_fault_7 : decode cX5_fault 7 = .ok (.ireturn, 1) := by decide +kernel
set_option maxRecDepth 20000 in
theorem ggX5_carryOut_X3_firstFault : GoodIn wsX5_carryOut wsX3_firstFault := goodIn_r _ [8, 9, 10, 11, 12, 13, 7, 14, 15, 16, 17, 18, 19, 20, 21, 22, 23, 24, 25, 26, 27, 28, 29, 30, 31, 32, 33, 34, 35, 36, 37, 38, 39, 40, 41, 42, 43, 44, 45, 46, 47, 48, 191, 192, 193, 194, 195, 196, 197, 198] (by decide +kernel) (by decide +kernel)
set_option maxRecDepth 20000 in
theorem gX5_carryOut_X3_firstFault : GoodIn wsX5_carryOut (wsV RX5 187 RX3 yX3_firstFault wsX3_firstFault) := goodIn_app (goodIn_of _ (by decide +kernel)) ggX5_carryOut_X3_firstFault
set_option maxRecDepth 20000 in
theorem ggX5_carryOut_X1_prepare : GoodIn wsX5_carryOut wsX1_prepare := goodIn_r _ [53, 54, 55, 56, 57, 58, 59, 60, 61, 62, 63, 64, 65, 66, 67, 68, 69, 70, 71, 72, 73, 74, 199, 200, 201, 202, 203, 204, 205, 206, 207, 208, 209, 210, 211] (by decide +kernel) (by decide +kernel)
set_option maxRecDepth 20000 in
theorem gX5_carryOut_X1_prepare : GoodIn wsX5_carryOut (wsV RX5 45 RX1 yX1_prepare wsX1_prepare) := goodIn_app (goodIn_of _ (by decide +kernel)) ggX5_carryOut_X1_prepare
set_option maxRecDepth 20000 in
theorem ggX5_carryOut_X3_rewind : GoodIn wsX5_carryOut wsX3_rewind := goodIn_r _ [14, 9, 191, 192, 193, 194, 195, 196, 197, 198] (by decide +kernel) (by decide +kernel)
set_option maxRecDepth 20000 in
theorem gX5_carryOut_X3_rewind : GoodIn wsX5_carryOut (wsV RX5 190 RX3 yX3_rewind wsX3_rewind) := goodIn_app (goodIn_of _ (by decide +kernel)) ggX5_carryOut_X3_rewind
set_option maxRecDepth 20000 in
theorem ggX5_carryOut_X3_passOrder : GoodIn wsX5_carryOut wsX3_passOrder := goodIn_r _ [18, 9, 10, 19, 20, 21, 22, 23, 7, 24, 25, 26, 27, 28, 29, 30, 31, 32, 33, 34, 35, 36, 37, 38, 39, 40, 41, 42, 43, 44, 45, 46, 47, 48, 191, 192, 193, 194, 195, 196, 197, 198] (by decide +kernel) (by decide +kernel)
set_option maxRecDepth 20000 in
theorem gX5_carryOut_X3_passOrder : GoodIn wsX5_carryOut (wsV RX5 193 RX3 yX3_passOrder wsX3_passOrder) := goodIn_app (goodIn_of _ (by decide +kernel)) ggX5_carryOut_X3_passOrder
set_option maxRecDepth 20000 in
theorem ggX5_carryOut_X5_carryOne : GoodIn wsX5_carryOut wsX5_carryOne := goodIn_r _ [81, 1, 82, 3, 83, 84, 85, 86, 87, 88, 59, 89, 63, 62, 64, 69, 70, 71, 72, 73, 90, 91, 92, 93, 94, 95, 96, 97, 98, 80, 99, 100, 101, 102, 103, 104, 105, 106, 107, 108, 109, 110, 111, 112, 113, 74, 114, 115, 116, 117, 118, 119, 120, 121, 61, 122, 123, 124, 125, 126, 127, 128, 129, 130, 131, 132, 133, 134, 135, 136, 137, 138, 139, 140, 141, 142, 143, 144, 145, 146, 147, 148, 149, 150, 151, 152, 153, 154, 155, 156, 157, 158, 159, 160, 161, 162, 163, 164, 165, 166, 167, 168, 169, 170, 185, 186, 187, 188, 189, 190, 191, 192, 193, 194, 195, 196, 197, 198, 202, 203, 204, 205, 206, 207, 208, 209, 210, 211] (by decide +kernel) (by decide +kernel)
set_option maxRecDepth 20000 in
theorem gX5_carryOut_X5_carryOne : GoodIn wsX5_carryOut (wsV RX5 197 RX5 yX5_carryOne wsX5_carryOne) := goodIn_app (goodIn_of _ (by decide +kernel)) ggX5_carryOut_X5_carryOne
set_option maxRecDepth 20000 in
theorem ggX5_carryOut_X3_passSign : GoodIn wsX5_carryOut wsX3_passSign := goodIn_r _ [38, 9, 10, 19, 191, 192, 193, 194, 195, 196, 197, 198] (by decide +kernel) (by decide +kernel)
set_option maxRecDepth 20000 in
theorem gX5_carryOut_X3_passSign : GoodIn wsX5_carryOut (wsV RX5 200 RX3 yX3_passSign wsX3_passSign) := goodIn_app (goodIn_of _ (by decide +kernel)) ggX5_carryOut_X3_passSign
set_option maxRecDepth 20000 in
theorem ggX5_carryOut_X3_empty : GoodIn wsX5_carryOut wsX3_empty := goodIn_r _ [175, 10, 191, 192, 193, 194, 195, 196, 197, 198] (by decide +kernel) (by decide +kernel)
set_option maxRecDepth 20000 in
theorem gX5_carryOut_X3_empty : GoodIn wsX5_carryOut (wsV RX5 184 RX3 yX3_empty wsX3_empty) := goodIn_app (goodIn_of _ (by decide +kernel)) ggX5_carryOut_X3_empty
set_option maxRecDepth 20000 in
theorem ggX5_carryOut_X1_keepUnlessError : GoodIn wsX5_carryOut wsX1_keepUnlessError := goodIn_r _ [179, 55, 180, 181, 182, 183, 184, 199, 200, 201] (by decide +kernel) (by decide +kernel)
set_option maxRecDepth 20000 in
theorem gX5_carryOut_X1_keepUnlessError : GoodIn wsX5_carryOut (wsV RX5 53 RX1 yX1_keepUnlessError wsX1_keepUnlessError) := goodIn_app (goodIn_of _ (by decide +kernel)) ggX5_carryOut_X1_keepUnlessError
theorem dX5_carryOut_0 : decode cX5_carryOut 0 = .ok (.aload_n 0, 1) := by decide +kernel
theorem dX5_carryOut_1 : decode cX5_carryOut 1 = .ok (.getfield 34, 3) := by decide +kernel
theorem dX5_carryOut_4 : decode cX5_carryOut 4 = .ok (.invokevirtual 187, 3) := by decide +kernel
theorem dX5_carryOut_7 : decode cX5_carryOut 7 = .ok (.bipush (-6), 2) := by decide +kernel
theorem dX5_carryOut_9 : decode cX5_carryOut 9 = .ok (.if_icmp .eq 6, 3) := by decide +kernel
theorem dX5_carryOut_12 : decode cX5_carryOut 12 = .ok (.bipush (-3), 2) := by decide +kernel
theorem dX5_carryOut_14 : decode cX5_carryOut 14 = .ok (.ireturn, 1) := by decide +kernel
theorem dX5_carryOut_15 : decode cX5_carryOut 15 = .ok (.aload_n 0, 1) := by decide +kernel
theorem dX5_carryOut_16 : decode cX5_carryOut 16 = .ok (.getfield 19, 3) := by decide +kernel
theorem dX5_carryOut_19 : decode cX5_carryOut 19 = .ok (.aload_n 0, 1) := by decide +kernel
theorem dX5_carryOut_20 : decode cX5_carryOut 20 = .ok (.getfield 10, 3) := by decide +kernel
theorem dX5_carryOut_23 : decode cX5_carryOut 23 = .ok (.invokevirtual 45, 3) := by decide +kernel
theorem dX5_carryOut_26 : decode cX5_carryOut 26 = .ok (.iconst 0, 1) := by decide +kernel
theorem dX5_carryOut_27 : decode cX5_carryOut 27 = .ok (.istore_n 1, 1) := by decide +kernel
theorem dX5_carryOut_28 : decode cX5_carryOut 28 = .ok (.aload_n 0, 1) := by decide +kernel
theorem dX5_carryOut_29 : decode cX5_carryOut 29 = .ok (.getfield 34, 3) := by decide +kernel
theorem dX5_carryOut_32 : decode cX5_carryOut 32 = .ok (.invokevirtual 190, 3) := by decide +kernel
theorem dX5_carryOut_35 : decode cX5_carryOut 35 = .ok (.iconst 1, 1) := by decide +kernel
theorem dX5_carryOut_36 : decode cX5_carryOut 36 = .ok (.istore_n 2, 1) := by decide +kernel
theorem dX5_carryOut_37 : decode cX5_carryOut 37 = .ok (.iload_n 2, 1) := by decide +kernel
theorem dX5_carryOut_38 : decode cX5_carryOut 38 = .ok (.ifCond .eq 42, 3) := by decide +kernel
theorem dX5_carryOut_41 : decode cX5_carryOut 41 = .ok (.iload_n 1, 1) := by decide +kernel
theorem dX5_carryOut_42 : decode cX5_carryOut 42 = .ok (.bipush 80, 2) := by decide +kernel
theorem dX5_carryOut_44 : decode cX5_carryOut 44 = .ok (.if_icmp .ge 36, 3) := by decide +kernel
theorem dX5_carryOut_47 : decode cX5_carryOut 47 = .ok (.aload_n 0, 1) := by decide +kernel
theorem dX5_carryOut_48 : decode cX5_carryOut 48 = .ok (.getfield 34, 3) := by decide +kernel
theorem dX5_carryOut_51 : decode cX5_carryOut 51 = .ok (.invokevirtual 193, 3) := by decide +kernel
theorem dX5_carryOut_54 : decode cX5_carryOut 54 = .ok (.ifCond .eq 26, 3) := by decide +kernel
theorem dX5_carryOut_57 : decode cX5_carryOut 57 = .ok (.aload_n 0, 1) := by decide +kernel
theorem dX5_carryOut_58 : decode cX5_carryOut 58 = .ok (.invokevirtual 197, 3) := by decide +kernel
theorem dX5_carryOut_61 : decode cX5_carryOut 61 = .ok (.ifCond .lt 19, 3) := by decide +kernel
theorem dX5_carryOut_64 : decode cX5_carryOut 64 = .ok (.iinc 1 1, 3) := by decide +kernel
theorem dX5_carryOut_67 : decode cX5_carryOut 67 = .ok (.aload_n 0, 1) := by decide +kernel
theorem dX5_carryOut_68 : decode cX5_carryOut 68 = .ok (.getfield 34, 3) := by decide +kernel
theorem dX5_carryOut_71 : decode cX5_carryOut 71 = .ok (.bipush 59, 2) := by decide +kernel
theorem dX5_carryOut_73 : decode cX5_carryOut 73 = .ok (.invokevirtual 200, 3) := by decide +kernel
theorem dX5_carryOut_76 : decode cX5_carryOut 76 = .ok (.istore_n 2, 1) := by decide +kernel
theorem dX5_carryOut_77 : decode cX5_carryOut 77 = .ok (.goto (-40), 3) := by decide +kernel
theorem dX5_carryOut_80 : decode cX5_carryOut 80 = .ok (.aload_n 0, 1) := by decide +kernel
theorem dX5_carryOut_81 : decode cX5_carryOut 81 = .ok (.getfield 34, 3) := by decide +kernel
theorem dX5_carryOut_84 : decode cX5_carryOut 84 = .ok (.invokevirtual 184, 3) := by decide +kernel
theorem dX5_carryOut_87 : decode cX5_carryOut 87 = .ok (.pop, 1) := by decide +kernel
theorem dX5_carryOut_88 : decode cX5_carryOut 88 = .ok (.aload_n 0, 1) := by decide +kernel
theorem dX5_carryOut_89 : decode cX5_carryOut 89 = .ok (.getfield 19, 3) := by decide +kernel
theorem dX5_carryOut_92 : decode cX5_carryOut 92 = .ok (.iload_n 1, 1) := by decide +kernel
theorem dX5_carryOut_93 : decode cX5_carryOut 93 = .ok (.invokevirtual 53, 3) := by decide +kernel
theorem dX5_carryOut_96 : decode cX5_carryOut 96 = .ok (.ireturn, 1) := by decide +kernel
set_option maxRecDepth 20000 in
theorem ggX5_carryOne_X2_start : GoodIn wsX5_carryOne wsX2_start := goodIn_r _ [11, 12, 13, 14, 15, 16, 17, 18, 19, 118, 119, 120, 121, 122, 123, 124, 125, 126, 127] (by decide +kernel) (by decide +kernel)
set_option maxRecDepth 20000 in
theorem gX5_carryOne_X2_start : GoodIn wsX5_carryOne (wsV RX5 56 RX2 yX2_start wsX2_start) := goodIn_app (goodIn_of _ (by decide +kernel)) ggX5_carryOne_X2_start
set_option maxRecDepth 20000 in
theorem ggX5_carryOne_X2_look : GoodIn wsX5_carryOne wsX2_look := goodIn_r _ [23, 14, 18, 17, 24, 25, 26, 10, 27, 12, 28, 29, 30, 31, 32, 33, 34, 35, 36, 15, 37, 38, 39, 40, 16, 41, 42, 43, 44, 45, 118, 119, 120, 121, 122, 123, 124, 125, 126, 127] (by decide +kernel) (by decide +kernel)
set_option maxRecDepth 20000 in
theorem gX5_carryOne_X2_look : GoodIn wsX5_carryOne (wsV RX5 60 RX2 yX2_look wsX2_look) := goodIn_app (goodIn_of _ (by decide +kernel)) ggX5_carryOne_X2_look
set_option maxRecDepth 20000 in
theorem ggX5_carryOne_X2_enter : GoodIn wsX5_carryOne wsX2_enter := goodIn_r _ [49, 14, 18, 45, 24, 25, 26, 10, 27, 12, 28, 29, 30, 118, 119, 120, 121, 122, 123, 124, 125, 126, 127] (by decide +kernel) (by decide +kernel)
set_option maxRecDepth 20000 in
theorem gX5_carryOne_X2_enter : GoodIn wsX5_carryOne (wsV RX5 64 RX2 yX2_enter wsX2_enter) := goodIn_app (goodIn_of _ (by decide +kernel)) ggX5_carryOne_X2_enter
set_option maxRecDepth 20000 in
theorem ggX5_carryOne_X2_finish : GoodIn wsX5_carryOne wsX2_finish := goodIn_r _ [53, 14, 54, 19, 13, 16, 24, 25, 26, 10, 27, 12, 55, 56, 57, 58, 59, 60, 61, 62, 63, 64, 65, 66, 67, 68, 69, 70, 71, 72, 73, 31, 29, 32, 74, 75, 76, 77, 78, 79, 80, 81, 15, 17, 18, 82, 83, 84, 85, 86, 87, 88, 89, 90, 91, 118, 119, 120, 121, 122, 123, 124, 125, 126, 127] (by decide +kernel) (by decide +kernel)
set_option maxRecDepth 20000 in
theorem gX5_carryOne_X2_finish : GoodIn wsX5_carryOne (wsV RX5 68 RX2 yX2_finish wsX2_finish) := goodIn_app (goodIn_of _ (by decide +kernel)) ggX5_carryOne_X2_finish
set_option maxRecDepth 20000 in
theorem ggX5_carryOne_X2_giveUp : GoodIn wsX5_carryOne wsX2_giveUp := goodIn_r _ [95, 14, 19, 24, 25, 26, 10, 27, 12, 96, 71, 72, 73, 97, 98, 99, 100, 101, 102, 103, 118, 119, 120, 121, 122, 123, 124, 125, 126, 127] (by decide +kernel) (by decide +kernel)
set_option maxRecDepth 20000 in
theorem gX5_carryOne_X2_giveUp : GoodIn wsX5_carryOne (wsV RX5 71 RX2 yX2_giveUp wsX2_giveUp) := goodIn_app (goodIn_of _ (by decide +kernel)) ggX5_carryOne_X2_giveUp
theorem dX5_carryOne_0 : decode cX5_carryOne 0 = .ok (.aload_n 0, 1) := by decide +kernel
theorem dX5_carryOne_1 : decode cX5_carryOne 1 = .ok (.getfield 34, 3) := by decide +kernel
theorem dX5_carryOne_4 : decode cX5_carryOne 4 = .ok (.getfield 204, 3) := by decide +kernel
theorem dX5_carryOne_7 : decode cX5_carryOne 7 = .ok (.lookupswitch 138 #[(98, 49), (99, 108), (114, 57), (119, 79), (120, 123)], 49) := by decide +kernel
theorem dX5_carryOne_56 : decode cX5_carryOne 56 = .ok (.aload_n 0, 1) := by decide +kernel
theorem dX5_carryOne_57 : decode cX5_carryOne 57 = .ok (.getfield 10, 3) := by decide +kernel
theorem dX5_carryOne_60 : decode cX5_carryOne 60 = .ok (.invokevirtual 56, 3) := by decide +kernel
theorem dX5_carryOne_63 : decode cX5_carryOne 63 = .ok (.ireturn, 1) := by decide +kernel
theorem dX5_carryOne_64 : decode cX5_carryOne 64 = .ok (.aload_n 0, 1) := by decide +kernel
theorem dX5_carryOne_65 : decode cX5_carryOne 65 = .ok (.getfield 10, 3) := by decide +kernel
theorem dX5_carryOne_68 : decode cX5_carryOne 68 = .ok (.aload_n 0, 1) := by decide +kernel
theorem dX5_carryOne_69 : decode cX5_carryOne 69 = .ok (.getfield 34, 3) := by decide +kernel
theorem dX5_carryOne_72 : decode cX5_carryOne 72 = .ok (.getfield 207, 3) := by decide +kernel
theorem dX5_carryOne_75 : decode cX5_carryOne 75 = .ok (.aload_n 0, 1) := by decide +kernel
theorem dX5_carryOne_76 : decode cX5_carryOne 76 = .ok (.getfield 34, 3) := by decide +kernel
theorem dX5_carryOne_79 : decode cX5_carryOne 79 = .ok (.getfield 210, 3) := by decide +kernel
theorem dX5_carryOne_82 : decode cX5_carryOne 82 = .ok (.invokevirtual 60, 3) := by decide +kernel
theorem dX5_carryOne_85 : decode cX5_carryOne 85 = .ok (.ireturn, 1) := by decide +kernel
theorem dX5_carryOne_86 : decode cX5_carryOne 86 = .ok (.aload_n 0, 1) := by decide +kernel
theorem dX5_carryOne_87 : decode cX5_carryOne 87 = .ok (.getfield 10, 3) := by decide +kernel
theorem dX5_carryOne_90 : decode cX5_carryOne 90 = .ok (.aload_n 0, 1) := by decide +kernel
theorem dX5_carryOne_91 : decode cX5_carryOne 91 = .ok (.getfield 34, 3) := by decide +kernel
theorem dX5_carryOne_94 : decode cX5_carryOne 94 = .ok (.getfield 207, 3) := by decide +kernel
theorem dX5_carryOne_97 : decode cX5_carryOne 97 = .ok (.aload_n 0, 1) := by decide +kernel
theorem dX5_carryOne_98 : decode cX5_carryOne 98 = .ok (.getfield 34, 3) := by decide +kernel
theorem dX5_carryOne_101 : decode cX5_carryOne 101 = .ok (.getfield 210, 3) := by decide +kernel
theorem dX5_carryOne_104 : decode cX5_carryOne 104 = .ok (.aload_n 0, 1) := by decide +kernel
theorem dX5_carryOne_105 : decode cX5_carryOne 105 = .ok (.getfield 34, 3) := by decide +kernel
theorem dX5_carryOne_108 : decode cX5_carryOne 108 = .ok (.getfield 213, 3) := by decide +kernel
theorem dX5_carryOne_111 : decode cX5_carryOne 111 = .ok (.invokevirtual 64, 3) := by decide +kernel
theorem dX5_carryOne_114 : decode cX5_carryOne 114 = .ok (.ireturn, 1) := by decide +kernel
theorem dX5_carryOne_115 : decode cX5_carryOne 115 = .ok (.aload_n 0, 1) := by decide +kernel
theorem dX5_carryOne_116 : decode cX5_carryOne 116 = .ok (.getfield 10, 3) := by decide +kernel
theorem dX5_carryOne_119 : decode cX5_carryOne 119 = .ok (.aload_n 0, 1) := by decide +kernel
theorem dX5_carryOne_120 : decode cX5_carryOne 120 = .ok (.getfield 34, 3) := by decide +kernel
theorem dX5_carryOne_123 : decode cX5_carryOne 123 = .ok (.getfield 207, 3) := by decide +kernel
theorem dX5_carryOne_126 : decode cX5_carryOne 126 = .ok (.invokevirtual 68, 3) := by decide +kernel
theorem dX5_carryOne_129 : decode cX5_carryOne 129 = .ok (.ireturn, 1) := by decide +kernel
theorem dX5_carryOne_130 : decode cX5_carryOne 130 = .ok (.aload_n 0, 1) := by decide +kernel
theorem dX5_carryOne_131 : decode cX5_carryOne 131 = .ok (.getfield 10, 3) := by decide +kernel
theorem dX5_carryOne_134 : decode cX5_carryOne 134 = .ok (.aload_n 0, 1) := by decide +kernel
theorem dX5_carryOne_135 : decode cX5_carryOne 135 = .ok (.getfield 34, 3) := by decide +kernel
theorem dX5_carryOne_138 : decode cX5_carryOne 138 = .ok (.getfield 207, 3) := by decide +kernel
theorem dX5_carryOne_141 : decode cX5_carryOne 141 = .ok (.invokevirtual 71, 3) := by decide +kernel
theorem dX5_carryOne_144 : decode cX5_carryOne 144 = .ok (.ireturn, 1) := by decide +kernel
theorem dX5_carryOne_145 : decode cX5_carryOne 145 = .ok (.bipush (-3), 2) := by decide +kernel
theorem dX5_carryOne_147 : decode cX5_carryOne 147 = .ok (.ireturn, 1) := by decide +kernel
set_option maxRecDepth 20000 in
theorem ggX5_undo_X1_stepBack : GoodIn wsX5_undo wsX1_stepBack := goodIn_r _ [7, 8, 9, 10, 11, 12, 13, 14, 15, 16, 17, 18, 19, 20, 21, 22, 23, 24, 25, 26, 27, 28, 29, 36, 37, 38, 39, 40, 41, 42, 43, 44, 45, 46, 47, 48] (by decide +kernel) (by decide +kernel)
set_option maxRecDepth 20000 in
theorem gX5_undo_X1_stepBack : GoodIn wsX5_undo (wsV RX5 216 RX1 yX1_stepBack wsX1_stepBack) := goodIn_app (goodIn_of _ (by decide +kernel)) ggX5_undo_X1_stepBack
theorem dX5_undo_0 : decode cX5_undo 0 = .ok (.aload_n 0, 1) := by decide +kernel
theorem dX5_undo_1 : decode cX5_undo 1 = .ok (.getfield 19, 3) := by decide +kernel
theorem dX5_undo_4 : decode cX5_undo 4 = .ok (.aload_n 0, 1) := by decide +kernel
theorem dX5_undo_5 : decode cX5_undo 5 = .ok (.getfield 10, 3) := by decide +kernel
theorem dX5_undo_8 : decode cX5_undo 8 = .ok (.invokevirtual 216, 3) := by decide +kernel
theorem dX5_undo_11 : decode cX5_undo 11 = .ok (.ireturn, 1) := by decide +kernel
set_option maxRecDepth 20000 in
theorem ggX5_save_X5_isSlot : GoodIn wsX5_save wsX5_isSlot := goodIn_r _ [8] (by decide +kernel) (by decide +kernel)
set_option maxRecDepth 20000 in
theorem gX5_save_X5_isSlot : GoodIn wsX5_save (va_wsS RX5 220 yX5_isSlot wsX5_isSlot) := goodIn_app (goodIn_of _ (by decide +kernel)) ggX5_save_X5_isSlot
set_option maxRecDepth 20000 in
theorem ggX5_save_X2_copyFrom : GoodIn wsX5_save wsX2_copyFrom := goodIn_r _ [13, 14, 15, 16, 17, 18, 19, 20, 21, 22, 23, 24, 25, 26, 27, 34, 35, 36, 37, 38, 39, 40, 41, 42, 43] (by decide +kernel) (by decide +kernel)
set_option maxRecDepth 20000 in
theorem gX5_save_X2_copyFrom : GoodIn wsX5_save (wsV RX5 223 RX2 yX2_copyFrom wsX2_copyFrom) := goodIn_app (goodIn_of _ (by decide +kernel)) ggX5_save_X2_copyFrom
theorem dX5_save_0 : decode cX5_save 0 = .ok (.iload_n 1, 1) := by decide +kernel
theorem dX5_save_1 : decode cX5_save 1 = .ok (.invokestatic 220, 3) := by decide +kernel
theorem dX5_save_4 : decode cX5_save 4 = .ok (.ifCond .ne 6, 3) := by decide +kernel
theorem dX5_save_7 : decode cX5_save 7 = .ok (.bipush (-2), 2) := by decide +kernel
theorem dX5_save_9 : decode cX5_save 9 = .ok (.ireturn, 1) := by decide +kernel
theorem dX5_save_10 : decode cX5_save 10 = .ok (.aload_n 0, 1) := by decide +kernel
theorem dX5_save_11 : decode cX5_save 11 = .ok (.getfield 23, 3) := by decide +kernel
theorem dX5_save_14 : decode cX5_save 14 = .ok (.iload_n 1, 1) := by decide +kernel
theorem dX5_save_15 : decode cX5_save 15 = .ok (.aaload, 1) := by decide +kernel
theorem dX5_save_16 : decode cX5_save 16 = .ok (.aload_n 0, 1) := by decide +kernel
theorem dX5_save_17 : decode cX5_save 17 = .ok (.getfield 10, 3) := by decide +kernel
theorem dX5_save_20 : decode cX5_save 20 = .ok (.invokevirtual 223, 3) := by decide +kernel
theorem dX5_save_23 : decode cX5_save 23 = .ok (.aload_n 0, 1) := by decide +kernel
theorem dX5_save_24 : decode cX5_save 24 = .ok (.getfield 27, 3) := by decide +kernel
theorem dX5_save_27 : decode cX5_save 27 = .ok (.iload_n 1, 1) := by decide +kernel
theorem dX5_save_28 : decode cX5_save 28 = .ok (.iconst 1, 1) := by decide +kernel
theorem dX5_save_29 : decode cX5_save 29 = .ok (.bastore, 1) := by decide +kernel
theorem dX5_save_30 : decode cX5_save 30 = .ok (.aload_n 0, 1) := by decide +kernel
theorem dX5_save_31 : decode cX5_save 31 = .ok (.getfield 10, 3) := by decide +kernel
theorem dX5_save_34 : decode cX5_save 34 = .ok (.getfield 126, 3) := by decide +kernel
theorem dX5_save_37 : decode cX5_save 37 = .ok (.ireturn, 1) := by decide +kernel
set_option maxRecDepth 20000 in
theorem ggX5_restore_X5_isSlot : GoodIn wsX5_restore wsX5_isSlot := goodIn_r _ [9] (by decide +kernel) (by decide +kernel)
set_option maxRecDepth 20000 in
theorem gX5_restore_X5_isSlot : GoodIn wsX5_restore (va_wsS RX5 220 yX5_isSlot wsX5_isSlot) := goodIn_app (goodIn_of _ (by decide +kernel)) ggX5_restore_X5_isSlot
set_option maxRecDepth 20000 in
theorem ggX5_restore_X1_prepare : GoodIn wsX5_restore wsX1_prepare := goodIn_r _ [14, 15, 16, 17, 18, 19, 20, 21, 22, 23, 24, 25, 26, 27, 28, 29, 30, 31, 32, 33, 34, 35, 62, 63, 64, 52, 53, 54, 55, 56, 57, 58, 59, 60, 61] (by decide +kernel) (by decide +kernel)
set_option maxRecDepth 20000 in
theorem gX5_restore_X1_prepare : GoodIn wsX5_restore (wsV RX5 45 RX1 yX1_prepare wsX1_prepare) := goodIn_app (goodIn_of _ (by decide +kernel)) ggX5_restore_X1_prepare
set_option maxRecDepth 20000 in
theorem ggX5_restore_X2_copyFrom : GoodIn wsX5_restore wsX2_copyFrom := goodIn_r _ [21, 22, 23, 24, 25, 26, 27, 28, 29, 30, 31, 32, 33, 34, 35, 52, 53, 54, 55, 56, 57, 58, 59, 60, 61] (by decide +kernel) (by decide +kernel)
set_option maxRecDepth 20000 in
theorem gX5_restore_X2_copyFrom : GoodIn wsX5_restore (wsV RX5 223 RX2 yX2_copyFrom wsX2_copyFrom) := goodIn_app (goodIn_of _ (by decide +kernel)) ggX5_restore_X2_copyFrom
set_option maxRecDepth 20000 in
theorem ggX5_restore_X1_keepUnlessError : GoodIn wsX5_restore wsX1_keepUnlessError := goodIn_r _ [40, 16, 41, 42, 43, 44, 45, 62, 63, 64] (by decide +kernel) (by decide +kernel)
set_option maxRecDepth 20000 in
theorem gX5_restore_X1_keepUnlessError : GoodIn wsX5_restore (wsV RX5 53 RX1 yX1_keepUnlessError wsX1_keepUnlessError) := goodIn_app (goodIn_of _ (by decide +kernel)) ggX5_restore_X1_keepUnlessError
theorem dX5_restore_0 : decode cX5_restore 0 = .ok (.iload_n 1, 1) := by decide +kernel
theorem dX5_restore_1 : decode cX5_restore 1 = .ok (.invokestatic 220, 3) := by decide +kernel
theorem dX5_restore_4 : decode cX5_restore 4 = .ok (.ifCond .ne 6, 3) := by decide +kernel
theorem dX5_restore_7 : decode cX5_restore 7 = .ok (.bipush (-2), 2) := by decide +kernel
theorem dX5_restore_9 : decode cX5_restore 9 = .ok (.ireturn, 1) := by decide +kernel
theorem dX5_restore_10 : decode cX5_restore 10 = .ok (.aload_n 0, 1) := by decide +kernel
theorem dX5_restore_11 : decode cX5_restore 11 = .ok (.getfield 27, 3) := by decide +kernel
theorem dX5_restore_14 : decode cX5_restore 14 = .ok (.iload_n 1, 1) := by decide +kernel
theorem dX5_restore_15 : decode cX5_restore 15 = .ok (.baload, 1) := by decide +kernel
theorem dX5_restore_16 : decode cX5_restore 16 = .ok (.ifCond .ne 6, 3) := by decide +kernel
theorem dX5_restore_19 : decode cX5_restore 19 = .ok (.bipush (-5), 2) := by decide +kernel
theorem dX5_restore_21 : decode cX5_restore 21 = .ok (.ireturn, 1) := by decide +kernel
theorem dX5_restore_22 : decode cX5_restore 22 = .ok (.aload_n 0, 1) := by decide +kernel
theorem dX5_restore_23 : decode cX5_restore 23 = .ok (.getfield 19, 3) := by decide +kernel
theorem dX5_restore_26 : decode cX5_restore 26 = .ok (.aload_n 0, 1) := by decide +kernel
theorem dX5_restore_27 : decode cX5_restore 27 = .ok (.getfield 10, 3) := by decide +kernel
theorem dX5_restore_30 : decode cX5_restore 30 = .ok (.invokevirtual 45, 3) := by decide +kernel
theorem dX5_restore_33 : decode cX5_restore 33 = .ok (.aload_n 0, 1) := by decide +kernel
theorem dX5_restore_34 : decode cX5_restore 34 = .ok (.getfield 10, 3) := by decide +kernel
theorem dX5_restore_37 : decode cX5_restore 37 = .ok (.aload_n 0, 1) := by decide +kernel
theorem dX5_restore_38 : decode cX5_restore 38 = .ok (.getfield 23, 3) := by decide +kernel
theorem dX5_restore_41 : decode cX5_restore 41 = .ok (.iload_n 1, 1) := by decide +kernel
theorem dX5_restore_42 : decode cX5_restore 42 = .ok (.aaload, 1) := by decide +kernel
theorem dX5_restore_43 : decode cX5_restore 43 = .ok (.invokevirtual 223, 3) := by decide +kernel
theorem dX5_restore_46 : decode cX5_restore 46 = .ok (.aload_n 0, 1) := by decide +kernel
theorem dX5_restore_47 : decode cX5_restore 47 = .ok (.getfield 19, 3) := by decide +kernel
theorem dX5_restore_50 : decode cX5_restore 50 = .ok (.aload_n 0, 1) := by decide +kernel
theorem dX5_restore_51 : decode cX5_restore 51 = .ok (.getfield 10, 3) := by decide +kernel
theorem dX5_restore_54 : decode cX5_restore 54 = .ok (.getfield 126, 3) := by decide +kernel
theorem dX5_restore_57 : decode cX5_restore 57 = .ok (.invokevirtual 53, 3) := by decide +kernel
theorem dX5_restore_60 : decode cX5_restore 60 = .ok (.ireturn, 1) := by decide +kernel
theorem dX5_isKey_0 : decode cX5_isKey 0 = .ok (.iload_n 0, 1) := by decide +kernel
theorem dX5_isKey_1 : decode cX5_isKey 1 = .ok (.ifCond .lt 13, 3) := by decide +kernel
theorem dX5_isKey_4 : decode cX5_isKey 4 = .ok (.iload_n 0, 1) := by decide +kernel
theorem dX5_isKey_5 : decode cX5_isKey 5 = .ok (.bipush 16, 2) := by decide +kernel
theorem dX5_isKey_7 : decode cX5_isKey 7 = .ok (.if_icmp .ge 7, 3) := by decide +kernel
theorem dX5_isKey_10 : decode cX5_isKey 10 = .ok (.iconst 1, 1) := by decide +kernel
theorem dX5_isKey_11 : decode cX5_isKey 11 = .ok (.goto 4, 3) := by decide +kernel
theorem dX5_isKey_14 : decode cX5_isKey 14 = .ok (.iconst 0, 1) := by decide +kernel
theorem dX5_isKey_15 : decode cX5_isKey 15 = .ok (.ireturn, 1) := by decide +kernel
theorem dX5_isRule_0 : decode cX5_isRule 0 = .ok (.iload_n 0, 1) := by decide +kernel
theorem dX5_isRule_1 : decode cX5_isRule 1 = .ok (.ifCond .lt 12, 3) := by decide +kernel
theorem dX5_isRule_4 : decode cX5_isRule 4 = .ok (.iload_n 0, 1) := by decide +kernel
theorem dX5_isRule_5 : decode cX5_isRule 5 = .ok (.iconst 4, 1) := by decide +kernel
theorem dX5_isRule_6 : decode cX5_isRule 6 = .ok (.if_icmp .ge 7, 3) := by decide +kernel
theorem dX5_isRule_9 : decode cX5_isRule 9 = .ok (.iconst 1, 1) := by decide +kernel
theorem dX5_isRule_10 : decode cX5_isRule 10 = .ok (.goto 4, 3) := by decide +kernel
theorem dX5_isRule_13 : decode cX5_isRule 13 = .ok (.iconst 0, 1) := by decide +kernel
theorem dX5_isRule_14 : decode cX5_isRule 14 = .ok (.ireturn, 1) := by decide +kernel
theorem dX5_isSlot_0 : decode cX5_isSlot 0 = .ok (.iload_n 0, 1) := by decide +kernel
theorem dX5_isSlot_1 : decode cX5_isSlot 1 = .ok (.ifCond .lt 12, 3) := by decide +kernel
theorem dX5_isSlot_4 : decode cX5_isSlot 4 = .ok (.iload_n 0, 1) := by decide +kernel
theorem dX5_isSlot_5 : decode cX5_isSlot 5 = .ok (.iconst 2, 1) := by decide +kernel
theorem dX5_isSlot_6 : decode cX5_isSlot 6 = .ok (.if_icmp .ge 7, 3) := by decide +kernel
theorem dX5_isSlot_9 : decode cX5_isSlot 9 = .ok (.iconst 1, 1) := by decide +kernel
theorem dX5_isSlot_10 : decode cX5_isSlot 10 = .ok (.goto 4, 3) := by decide +kernel
theorem dX5_isSlot_13 : decode cX5_isSlot 13 = .ok (.iconst 0, 1) := by decide +kernel
theorem dX5_isSlot_14 : decode cX5_isSlot 14 = .ok (.ireturn, 1) := by decide +kernel
theorem dX5_contains_0 : decode cX5_contains 0 = .ok (.iload_n 0, 1) := by decide +kernel
theorem dX5_contains_1 : decode cX5_contains 1 = .ok (.iload_n 1, 1) := by decide +kernel
theorem dX5_contains_2 : decode cX5_contains 2 = .ok (.ishr, 1) := by decide +kernel
theorem dX5_contains_3 : decode cX5_contains 3 = .ok (.iconst 1, 1) := by decide +kernel
theorem dX5_contains_4 : decode cX5_contains 4 = .ok (.iand, 1) := by decide +kernel
theorem dX5_contains_5 : decode cX5_contains 5 = .ok (.iconst 1, 1) := by decide +kernel
theorem dX5_contains_6 : decode cX5_contains 6 = .ok (.if_icmp .ne 7, 3) := by decide +kernel
theorem dX5_contains_9 : decode cX5_contains 9 = .ok (.iconst 1, 1) := by decide +kernel
theorem dX5_contains_10 : decode cX5_contains 10 = .ok (.goto 4, 3) := by decide +kernel
theorem dX5_contains_13 : decode cX5_contains 13 = .ok (.iconst 0, 1) := by decide +kernel
theorem dX5_contains_14 : decode cX5_contains 14 = .ok (.ireturn, 1) := by decide +kernel
end
section
theorem dX6_init_0 : decode cX6_init 0 = .ok (.aload_n 0, 1) := by decide +kernel
theorem dX6_init_1 : decode cX6_init 1 = .ok (.invokespecial 1, 3) := by decide +kernel
theorem dX6_init_4 : decode cX6_init 4 = .ok (.aload_n 0, 1) := by decide +kernel
theorem dX6_init_5 : decode cX6_init 5 = .ok (.sipush 279, 3) := by decide +kernel
theorem dX6_init_8 : decode cX6_init 8 = .ok (.newarray .int, 2) := by decide +kernel
theorem dX6_init_10 : decode cX6_init 10 = .ok (.putfield 7, 3) := by decide +kernel
theorem dX6_init_13 : decode cX6_init 13 = .ok (.aload_n 0, 1) := by decide +kernel
theorem dX6_init_14 : decode cX6_init 14 = .ok (.sipush 1674, 3) := by decide +kernel
theorem dX6_init_17 : decode cX6_init 17 = .ok (.newarray .int, 2) := by decide +kernel
theorem dX6_init_19 : decode cX6_init 19 = .ok (.putfield 13, 3) := by decide +kernel
theorem dX6_init_22 : decode cX6_init 22 = .ok (.aload_n 0, 1) := by decide +kernel
theorem dX6_init_23 : decode cX6_init 23 = .ok (.sipush 558, 3) := by decide +kernel
theorem dX6_init_26 : decode cX6_init 26 = .ok (.newarray .int, 2) := by decide +kernel
theorem dX6_init_28 : decode cX6_init 28 = .ok (.putfield 16, 3) := by decide +kernel
theorem dX6_init_31 : decode cX6_init 31 = .ok (.aload_n 0, 1) := by decide +kernel
theorem dX6_init_32 : decode cX6_init 32 = .ok (.iconst 2, 1) := by decide +kernel
theorem dX6_init_33 : decode cX6_init 33 = .ok (.newarray .boolean, 2) := by decide +kernel
theorem dX6_init_35 : decode cX6_init 35 = .ok (.putfield 19, 3) := by decide +kernel
theorem dX6_init_38 : decode cX6_init 38 = .ok (.aload_n 0, 1) := by decide +kernel
theorem dX6_init_39 : decode cX6_init 39 = .ok (.bipush 80, 2) := by decide +kernel
theorem dX6_init_41 : decode cX6_init 41 = .ok (.newarray .char, 2) := by decide +kernel
theorem dX6_init_43 : decode cX6_init 43 = .ok (.putfield 23, 3) := by decide +kernel
theorem dX6_init_46 : decode cX6_init 46 = .ok (.aload_n 0, 1) := by decide +kernel
theorem dX6_init_47 : decode cX6_init 47 = .ok (.bipush 12, 2) := by decide +kernel
theorem dX6_init_49 : decode cX6_init 49 = .ok (.newarray .int, 2) := by decide +kernel
theorem dX6_init_51 : decode cX6_init 51 = .ok (.putfield 27, 3) := by decide +kernel
theorem dX6_init_54 : decode cX6_init 54 = .ok (.aload_n 0, 1) := by decide +kernel
theorem dX6_init_55 : decode cX6_init 55 = .ok (.bipush 12, 2) := by decide +kernel
theorem dX6_init_57 : decode cX6_init 57 = .ok (.newarray .int, 2) := by decide +kernel
theorem dX6_init_59 : decode cX6_init 59 = .ok (.putfield 30, 3) := by decide +kernel
theorem dX6_init_62 : decode cX6_init 62 = .ok (.aload_n 0, 1) := by decide +kernel
theorem dX6_init_63 : decode cX6_init 63 = .ok (.sipush 164, 3) := by decide +kernel
theorem dX6_init_66 : decode cX6_init 66 = .ok (.newarray .int, 2) := by decide +kernel
theorem dX6_init_68 : decode cX6_init 68 = .ok (.putfield 33, 3) := by decide +kernel
theorem dX6_init_71 : decode cX6_init 71 = .ok (.aload_n 0, 1) := by decide +kernel
theorem dX6_init_72 : decode cX6_init 72 = .ok (.getfield 7, 3) := by decide +kernel
theorem dX6_init_75 : decode cX6_init 75 = .ok (.iconst 0, 1) := by decide +kernel
theorem dX6_init_76 : decode cX6_init 76 = .ok (.iconst 1, 1) := by decide +kernel
theorem dX6_init_77 : decode cX6_init 77 = .ok (.iastore, 1) := by decide +kernel
theorem dX6_init_78 : decode cX6_init 78 = .ok (.return_, 1) := by decide +kernel
theorem dX6_in_0 : decode cX6_in 0 = .ok (.iload_n 0, 1) := by decide +kernel
theorem dX6_in_1 : decode cX6_in 1 = .ok (.iload_n 1, 1) := by decide +kernel
theorem dX6_in_2 : decode cX6_in 2 = .ok (.if_icmp .lt 12, 3) := by decide +kernel
theorem dX6_in_5 : decode cX6_in 5 = .ok (.iload_n 0, 1) := by decide +kernel
theorem dX6_in_6 : decode cX6_in 6 = .ok (.iload_n 2, 1) := by decide +kernel
theorem dX6_in_7 : decode cX6_in 7 = .ok (.if_icmp .gt 7, 3) := by decide +kernel
theorem dX6_in_10 : decode cX6_in 10 = .ok (.iconst 1, 1) := by decide +kernel
theorem dX6_in_11 : decode cX6_in 11 = .ok (.goto 4, 3) := by decide +kernel
theorem dX6_in_14 : decode cX6_in 14 = .ok (.iconst 0, 1) := by decide +kernel
theorem dX6_in_15 : decode cX6_in 15 = .ok (.ireturn, 1) := by decide +kernel
theorem dX6_isTransaction_0 : decode cX6_isTransaction 0 = .ok (.iload_n 1, 1) := by decide +kernel
theorem dX6_isTransaction_1 : decode cX6_isTransaction 1 = .ok (.ifCond .lt 17, 3) := by decide +kernel
theorem dX6_isTransaction_4 : decode cX6_isTransaction 4 = .ok (.iload_n 1, 1) := by decide +kernel
theorem dX6_isTransaction_5 : decode cX6_isTransaction 5 = .ok (.aload_n 0, 1) := by decide +kernel
theorem dX6_isTransaction_6 : decode cX6_isTransaction 6 = .ok (.getfield 7, 3) := by decide +kernel
theorem dX6_isTransaction_9 : decode cX6_isTransaction 9 = .ok (.iconst 2, 1) := by decide +kernel
theorem dX6_isTransaction_10 : decode cX6_isTransaction 10 = .ok (.iaload, 1) := by decide +kernel
theorem dX6_isTransaction_11 : decode cX6_isTransaction 11 = .ok (.if_icmp .ge 7, 3) := by decide +kernel
theorem dX6_isTransaction_14 : decode cX6_isTransaction 14 = .ok (.iconst 1, 1) := by decide +kernel
theorem dX6_isTransaction_15 : decode cX6_isTransaction 15 = .ok (.goto 4, 3) := by decide +kernel
theorem dX6_isTransaction_18 : decode cX6_isTransaction 18 = .ok (.iconst 0, 1) := by decide +kernel
theorem dX6_isTransaction_19 : decode cX6_isTransaction 19 = .ok (.ireturn, 1) := by decide +kernel
set_option maxRecDepth 20000 in
theorem ggX6_isKey_X6_in : GoodIn wsX6_isKey wsX6_in := goodIn_r _ [4] (by decide +kernel) (by decide +kernel)
set_option maxRecDepth 20000 in
theorem gX6_isKey_X6_in : GoodIn wsX6_isKey (va_wsS RX6 36 yX6_in wsX6_in) := goodIn_app (goodIn_of _ (by decide +kernel)) ggX6_isKey_X6_in
theorem dX6_isKey_0 : decode cX6_isKey 0 = .ok (.iload_n 0, 1) := by decide +kernel
theorem dX6_isKey_1 : decode cX6_isKey 1 = .ok (.iconst 0, 1) := by decide +kernel
theorem dX6_isKey_2 : decode cX6_isKey 2 = .ok (.bipush 15, 2) := by decide +kernel
theorem dX6_isKey_4 : decode cX6_isKey 4 = .ok (.invokestatic 36, 3) := by decide +kernel
theorem dX6_isKey_7 : decode cX6_isKey 7 = .ok (.ireturn, 1) := by decide +kernel
theorem dX6_its_0 : decode cX6_its 0 = .ok (.aload_n 0, 1) := by decide +kernel
theorem dX6_its_1 : decode cX6_its 1 = .ok (.getfield 7, 3) := by decide +kernel
theorem dX6_its_4 : decode cX6_its 4 = .ok (.iconst 3, 1) := by decide +kernel
theorem dX6_its_5 : decode cX6_its 5 = .ok (.bipush 23, 2) := by decide +kernel
theorem dX6_its_7 : decode cX6_its 7 = .ok (.iload_n 1, 1) := by decide +kernel
theorem dX6_its_8 : decode cX6_its 8 = .ok (.imul, 1) := by decide +kernel
theorem dX6_its_9 : decode cX6_its 9 = .ok (.iadd, 1) := by decide +kernel
theorem dX6_its_10 : decode cX6_its 10 = .ok (.iload_n 2, 1) := by decide +kernel
theorem dX6_its_11 : decode cX6_its 11 = .ok (.iadd, 1) := by decide +kernel
theorem dX6_its_12 : decode cX6_its 12 = .ok (.iaload, 1) := by decide +kernel
theorem dX6_its_13 : decode cX6_its 13 = .ok (.ireturn, 1) := by decide +kernel
theorem dX6_lay_0 : decode cX6_lay 0 = .ok (.aload_n 0, 1) := by decide +kernel
theorem dX6_lay_1 : decode cX6_lay 1 = .ok (.getfield 7, 3) := by decide +kernel
theorem dX6_lay_4 : decode cX6_lay 4 = .ok (.iconst 3, 1) := by decide +kernel
theorem dX6_lay_5 : decode cX6_lay 5 = .ok (.bipush 23, 2) := by decide +kernel
theorem dX6_lay_7 : decode cX6_lay 7 = .ok (.iload_n 1, 1) := by decide +kernel
theorem dX6_lay_8 : decode cX6_lay 8 = .ok (.imul, 1) := by decide +kernel
theorem dX6_lay_9 : decode cX6_lay 9 = .ok (.iadd, 1) := by decide +kernel
theorem dX6_lay_10 : decode cX6_lay 10 = .ok (.iload_n 2, 1) := by decide +kernel
theorem dX6_lay_11 : decode cX6_lay 11 = .ok (.iadd, 1) := by decide +kernel
theorem dX6_lay_12 : decode cX6_lay 12 = .ok (.iload_n 3, 1) := by decide +kernel
theorem dX6_lay_13 : decode cX6_lay 13 = .ok (.iastore, 1) := by decide +kernel
theorem dX6_lay_14 : decode cX6_lay 14 = .ok (.return_, 1) := by decide +kernel
set_option maxRecDepth 20000 in
theorem ggX6_isIn_X6_its : GoodIn wsX6_isIn wsX6_its := goodIn_r _ [5, 6, 7, 8, 9, 10, 11, 12, 13, 14, 15, 16, 17, 18, 19, 20, 21, 22] (by decide +kernel) (by decide +kernel)
set_option maxRecDepth 20000 in
theorem gX6_isIn_X6_its : GoodIn wsX6_isIn (wsV RX6 40 RX6 yX6_its wsX6_its) := goodIn_app (goodIn_of _ (by decide +kernel)) ggX6_isIn_X6_its
theorem dX6_isIn_0 : decode cX6_isIn 0 = .ok (.aload_n 0, 1) := by decide +kernel
theorem dX6_isIn_1 : decode cX6_isIn 1 = .ok (.iload_n 1, 1) := by decide +kernel
theorem dX6_isIn_2 : decode cX6_isIn 2 = .ok (.iconst 0, 1) := by decide +kernel
theorem dX6_isIn_3 : decode cX6_isIn 3 = .ok (.invokevirtual 40, 3) := by decide +kernel
theorem dX6_isIn_6 : decode cX6_isIn 6 = .ok (.iload_n 2, 1) := by decide +kernel
theorem dX6_isIn_7 : decode cX6_isIn 7 = .ok (.if_icmp .ne 7, 3) := by decide +kernel
theorem dX6_isIn_10 : decode cX6_isIn 10 = .ok (.iconst 1, 1) := by decide +kernel
theorem dX6_isIn_11 : decode cX6_isIn 11 = .ok (.goto 4, 3) := by decide +kernel
theorem dX6_isIn_14 : decode cX6_isIn 14 = .ok (.iconst 0, 1) := by decide +kernel
theorem dX6_isIn_15 : decode cX6_isIn 15 = .ok (.ireturn, 1) := by decide +kernel
set_option maxRecDepth 20000 in
theorem ggX6_wrote_X6_its : GoodIn wsX6_wrote wsX6_its := goodIn_r _ [5, 6, 7, 8, 9, 10, 11, 12, 13, 14, 15, 16, 17, 18, 19, 20, 21, 22] (by decide +kernel) (by decide +kernel)
set_option maxRecDepth 20000 in
theorem gX6_wrote_X6_its : GoodIn wsX6_wrote (wsV RX6 40 RX6 yX6_its wsX6_its) := goodIn_app (goodIn_of _ (by decide +kernel)) ggX6_wrote_X6_its
theorem dX6_wrote_0 : decode cX6_wrote 0 = .ok (.aload_n 0, 1) := by decide +kernel
theorem dX6_wrote_1 : decode cX6_wrote 1 = .ok (.iload_n 1, 1) := by decide +kernel
theorem dX6_wrote_2 : decode cX6_wrote 2 = .ok (.iconst 4, 1) := by decide +kernel
theorem dX6_wrote_3 : decode cX6_wrote 3 = .ok (.invokevirtual 40, 3) := by decide +kernel
theorem dX6_wrote_6 : decode cX6_wrote 6 = .ok (.iload_n 2, 1) := by decide +kernel
theorem dX6_wrote_7 : decode cX6_wrote 7 = .ok (.ishr, 1) := by decide +kernel
theorem dX6_wrote_8 : decode cX6_wrote 8 = .ok (.iconst 1, 1) := by decide +kernel
theorem dX6_wrote_9 : decode cX6_wrote 9 = .ok (.iand, 1) := by decide +kernel
theorem dX6_wrote_10 : decode cX6_wrote 10 = .ok (.iconst 1, 1) := by decide +kernel
theorem dX6_wrote_11 : decode cX6_wrote 11 = .ok (.if_icmp .ne 7, 3) := by decide +kernel
theorem dX6_wrote_14 : decode cX6_wrote 14 = .ok (.iconst 1, 1) := by decide +kernel
theorem dX6_wrote_15 : decode cX6_wrote 15 = .ok (.goto 4, 3) := by decide +kernel
theorem dX6_wrote_18 : decode cX6_wrote 18 = .ok (.iconst 0, 1) := by decide +kernel
theorem dX6_wrote_19 : decode cX6_wrote 19 = .ok (.ireturn, 1) := by decide +kernel
theorem dX6_record_0 : decode cX6_record 0 = .ok (.aload_n 0, 1) := by decide +kernel
theorem dX6_record_1 : decode cX6_record 1 = .ok (.getfield 44, 3) := by decide +kernel
theorem dX6_record_4 : decode cX6_record 4 = .ok (.bipush 6, 2) := by decide +kernel
theorem dX6_record_6 : decode cX6_record 6 = .ok (.if_icmp .ne 44, 3) := by decide +kernel
theorem dX6_record_9 : decode cX6_record 9 = .ok (.iconst 0, 1) := by decide +kernel
theorem dX6_record_10 : decode cX6_record 10 = .ok (.istore_n 1, 1) := by decide +kernel
theorem dX6_record_11 : decode cX6_record 11 = .ok (.iload_n 1, 1) := by decide +kernel
theorem dX6_record_12 : decode cX6_record 12 = .ok (.sipush 1395, 3) := by decide +kernel
theorem dX6_record_15 : decode cX6_record 15 = .ok (.if_icmp .ge 25, 3) := by decide +kernel
theorem dX6_record_18 : decode cX6_record 18 = .ok (.aload_n 0, 1) := by decide +kernel
theorem dX6_record_19 : decode cX6_record 19 = .ok (.getfield 13, 3) := by decide +kernel
theorem dX6_record_22 : decode cX6_record 22 = .ok (.iload_n 1, 1) := by decide +kernel
theorem dX6_record_23 : decode cX6_record 23 = .ok (.aload_n 0, 1) := by decide +kernel
theorem dX6_record_24 : decode cX6_record 24 = .ok (.getfield 13, 3) := by decide +kernel
theorem dX6_record_27 : decode cX6_record 27 = .ok (.iload_n 1, 1) := by decide +kernel
theorem dX6_record_28 : decode cX6_record 28 = .ok (.sipush 279, 3) := by decide +kernel
theorem dX6_record_31 : decode cX6_record 31 = .ok (.iadd, 1) := by decide +kernel
theorem dX6_record_32 : decode cX6_record 32 = .ok (.iaload, 1) := by decide +kernel
theorem dX6_record_33 : decode cX6_record 33 = .ok (.iastore, 1) := by decide +kernel
theorem dX6_record_34 : decode cX6_record 34 = .ok (.iinc 1 1, 3) := by decide +kernel
theorem dX6_record_37 : decode cX6_record 37 = .ok (.goto (-26), 3) := by decide +kernel
theorem dX6_record_40 : decode cX6_record 40 = .ok (.aload_n 0, 1) := by decide +kernel
theorem dX6_record_41 : decode cX6_record 41 = .ok (.dup, 1) := by decide +kernel
theorem dX6_record_42 : decode cX6_record 42 = .ok (.getfield 44, 3) := by decide +kernel
theorem dX6_record_45 : decode cX6_record 45 = .ok (.iconst 1, 1) := by decide +kernel
theorem dX6_record_46 : decode cX6_record 46 = .ok (.isub, 1) := by decide +kernel
theorem dX6_record_47 : decode cX6_record 47 = .ok (.putfield 44, 3) := by decide +kernel
theorem dX6_record_50 : decode cX6_record 50 = .ok (.iconst 0, 1) := by decide +kernel
theorem dX6_record_51 : decode cX6_record 51 = .ok (.istore_n 1, 1) := by decide +kernel
theorem dX6_record_52 : decode cX6_record 52 = .ok (.iload_n 1, 1) := by decide +kernel
theorem dX6_record_53 : decode cX6_record 53 = .ok (.sipush 279, 3) := by decide +kernel
theorem dX6_record_56 : decode cX6_record 56 = .ok (.if_icmp .ge 30, 3) := by decide +kernel
theorem dX6_record_59 : decode cX6_record 59 = .ok (.aload_n 0, 1) := by decide +kernel
theorem dX6_record_60 : decode cX6_record 60 = .ok (.getfield 13, 3) := by decide +kernel
theorem dX6_record_63 : decode cX6_record 63 = .ok (.aload_n 0, 1) := by decide +kernel
theorem dX6_record_64 : decode cX6_record 64 = .ok (.getfield 44, 3) := by decide +kernel
theorem dX6_record_67 : decode cX6_record 67 = .ok (.sipush 279, 3) := by decide +kernel
theorem dX6_record_70 : decode cX6_record 70 = .ok (.imul, 1) := by decide +kernel
theorem dX6_record_71 : decode cX6_record 71 = .ok (.iload_n 1, 1) := by decide +kernel
theorem dX6_record_72 : decode cX6_record 72 = .ok (.iadd, 1) := by decide +kernel
theorem dX6_record_73 : decode cX6_record 73 = .ok (.aload_n 0, 1) := by decide +kernel
theorem dX6_record_74 : decode cX6_record 74 = .ok (.getfield 7, 3) := by decide +kernel
theorem dX6_record_77 : decode cX6_record 77 = .ok (.iload_n 1, 1) := by decide +kernel
theorem dX6_record_78 : decode cX6_record 78 = .ok (.iaload, 1) := by decide +kernel
theorem dX6_record_79 : decode cX6_record 79 = .ok (.iastore, 1) := by decide +kernel
theorem dX6_record_80 : decode cX6_record 80 = .ok (.iinc 1 1, 3) := by decide +kernel
theorem dX6_record_83 : decode cX6_record 83 = .ok (.goto (-31), 3) := by decide +kernel
theorem dX6_record_86 : decode cX6_record 86 = .ok (.aload_n 0, 1) := by decide +kernel
theorem dX6_record_87 : decode cX6_record 87 = .ok (.dup, 1) := by decide +kernel
theorem dX6_record_88 : decode cX6_record 88 = .ok (.getfield 44, 3) := by decide +kernel
theorem dX6_record_91 : decode cX6_record 91 = .ok (.iconst 1, 1) := by decide +kernel
theorem dX6_record_92 : decode cX6_record 92 = .ok (.iadd, 1) := by decide +kernel
theorem dX6_record_93 : decode cX6_record 93 = .ok (.putfield 44, 3) := by decide +kernel
theorem dX6_record_96 : decode cX6_record 96 = .ok (.return_, 1) := by decide +kernel
theorem dX6_undo_0 : decode cX6_undo 0 = .ok (.aload_n 0, 1) := by decide +kernel
theorem dX6_undo_1 : decode cX6_undo 1 = .ok (.getfield 44, 3) := by decide +kernel
theorem dX6_undo_4 : decode cX6_undo 4 = .ok (.ifCond .ne 6, 3) := by decide +kernel
theorem dX6_undo_7 : decode cX6_undo 7 = .ok (.bipush (-5), 2) := by decide +kernel
theorem dX6_undo_9 : decode cX6_undo 9 = .ok (.ireturn, 1) := by decide +kernel
theorem dX6_undo_10 : decode cX6_undo 10 = .ok (.aload_n 0, 1) := by decide +kernel
theorem dX6_undo_11 : decode cX6_undo 11 = .ok (.dup, 1) := by decide +kernel
theorem dX6_undo_12 : decode cX6_undo 12 = .ok (.getfield 44, 3) := by decide +kernel
theorem dX6_undo_15 : decode cX6_undo 15 = .ok (.iconst 1, 1) := by decide +kernel
theorem dX6_undo_16 : decode cX6_undo 16 = .ok (.isub, 1) := by decide +kernel
theorem dX6_undo_17 : decode cX6_undo 17 = .ok (.putfield 44, 3) := by decide +kernel
theorem dX6_undo_20 : decode cX6_undo 20 = .ok (.iconst 0, 1) := by decide +kernel
theorem dX6_undo_21 : decode cX6_undo 21 = .ok (.istore_n 1, 1) := by decide +kernel
theorem dX6_undo_22 : decode cX6_undo 22 = .ok (.iload_n 1, 1) := by decide +kernel
theorem dX6_undo_23 : decode cX6_undo 23 = .ok (.sipush 279, 3) := by decide +kernel
theorem dX6_undo_26 : decode cX6_undo 26 = .ok (.if_icmp .ge 30, 3) := by decide +kernel
theorem dX6_undo_29 : decode cX6_undo 29 = .ok (.aload_n 0, 1) := by decide +kernel
theorem dX6_undo_30 : decode cX6_undo 30 = .ok (.getfield 7, 3) := by decide +kernel
theorem dX6_undo_33 : decode cX6_undo 33 = .ok (.iload_n 1, 1) := by decide +kernel
theorem dX6_undo_34 : decode cX6_undo 34 = .ok (.aload_n 0, 1) := by decide +kernel
theorem dX6_undo_35 : decode cX6_undo 35 = .ok (.getfield 13, 3) := by decide +kernel
theorem dX6_undo_38 : decode cX6_undo 38 = .ok (.aload_n 0, 1) := by decide +kernel
theorem dX6_undo_39 : decode cX6_undo 39 = .ok (.getfield 44, 3) := by decide +kernel
theorem dX6_undo_42 : decode cX6_undo 42 = .ok (.sipush 279, 3) := by decide +kernel
theorem dX6_undo_45 : decode cX6_undo 45 = .ok (.imul, 1) := by decide +kernel
theorem dX6_undo_46 : decode cX6_undo 46 = .ok (.iload_n 1, 1) := by decide +kernel
theorem dX6_undo_47 : decode cX6_undo 47 = .ok (.iadd, 1) := by decide +kernel
theorem dX6_undo_48 : decode cX6_undo 48 = .ok (.iaload, 1) := by decide +kernel
theorem dX6_undo_49 : decode cX6_undo 49 = .ok (.iastore, 1) := by decide +kernel
theorem dX6_undo_50 : decode cX6_undo 50 = .ok (.iinc 1 1, 3) := by decide +kernel
theorem dX6_undo_53 : decode cX6_undo 53 = .ok (.goto (-31), 3) := by decide +kernel
theorem dX6_undo_56 : decode cX6_undo 56 = .ok (.aload_n 0, 1) := by decide +kernel
theorem dX6_undo_57 : decode cX6_undo 57 = .ok (.getfield 44, 3) := by decide +kernel
theorem dX6_undo_60 : decode cX6_undo 60 = .ok (.ireturn, 1) := by decide +kernel
set_option maxRecDepth 20000 in
theorem ggX6_save_X6_in : GoodIn wsX6_save wsX6_in := goodIn_r _ [7] (by decide +kernel) (by decide +kernel)
set_option maxRecDepth 20000 in
theorem gX6_save_X6_in : GoodIn wsX6_save (va_wsS RX6 36 yX6_in wsX6_in) := goodIn_app (goodIn_of _ (by decide +kernel)) ggX6_save_X6_in
theorem dX6_save_0 : decode cX6_save 0 = .ok (.iload_n 1, 1) := by decide +kernel
theorem dX6_save_1 : decode cX6_save 1 = .ok (.iconst 0, 1) := by decide +kernel
theorem dX6_save_2 : decode cX6_save 2 = .ok (.iconst 1, 1) := by decide +kernel
theorem dX6_save_3 : decode cX6_save 3 = .ok (.invokestatic 36, 3) := by decide +kernel
theorem dX6_save_6 : decode cX6_save 6 = .ok (.ifCond .ne 6, 3) := by decide +kernel
theorem dX6_save_9 : decode cX6_save 9 = .ok (.bipush (-2), 2) := by decide +kernel
theorem dX6_save_11 : decode cX6_save 11 = .ok (.ireturn, 1) := by decide +kernel
theorem dX6_save_12 : decode cX6_save 12 = .ok (.aload_n 0, 1) := by decide +kernel
theorem dX6_save_13 : decode cX6_save 13 = .ok (.getfield 19, 3) := by decide +kernel
theorem dX6_save_16 : decode cX6_save 16 = .ok (.iload_n 1, 1) := by decide +kernel
theorem dX6_save_17 : decode cX6_save 17 = .ok (.iconst 1, 1) := by decide +kernel
theorem dX6_save_18 : decode cX6_save 18 = .ok (.bastore, 1) := by decide +kernel
theorem dX6_save_19 : decode cX6_save 19 = .ok (.iconst 0, 1) := by decide +kernel
theorem dX6_save_20 : decode cX6_save 20 = .ok (.istore_n 2, 1) := by decide +kernel
theorem dX6_save_21 : decode cX6_save 21 = .ok (.iload_n 2, 1) := by decide +kernel
theorem dX6_save_22 : decode cX6_save 22 = .ok (.sipush 279, 3) := by decide +kernel
theorem dX6_save_25 : decode cX6_save 25 = .ok (.if_icmp .ge 27, 3) := by decide +kernel
theorem dX6_save_28 : decode cX6_save 28 = .ok (.aload_n 0, 1) := by decide +kernel
theorem dX6_save_29 : decode cX6_save 29 = .ok (.getfield 16, 3) := by decide +kernel
theorem dX6_save_32 : decode cX6_save 32 = .ok (.iload_n 1, 1) := by decide +kernel
theorem dX6_save_33 : decode cX6_save 33 = .ok (.sipush 279, 3) := by decide +kernel
theorem dX6_save_36 : decode cX6_save 36 = .ok (.imul, 1) := by decide +kernel
theorem dX6_save_37 : decode cX6_save 37 = .ok (.iload_n 2, 1) := by decide +kernel
theorem dX6_save_38 : decode cX6_save 38 = .ok (.iadd, 1) := by decide +kernel
theorem dX6_save_39 : decode cX6_save 39 = .ok (.aload_n 0, 1) := by decide +kernel
theorem dX6_save_40 : decode cX6_save 40 = .ok (.getfield 7, 3) := by decide +kernel
theorem dX6_save_43 : decode cX6_save 43 = .ok (.iload_n 2, 1) := by decide +kernel
theorem dX6_save_44 : decode cX6_save 44 = .ok (.iaload, 1) := by decide +kernel
theorem dX6_save_45 : decode cX6_save 45 = .ok (.iastore, 1) := by decide +kernel
theorem dX6_save_46 : decode cX6_save 46 = .ok (.iinc 2 1, 3) := by decide +kernel
theorem dX6_save_49 : decode cX6_save 49 = .ok (.goto (-28), 3) := by decide +kernel
theorem dX6_save_52 : decode cX6_save 52 = .ok (.aload_n 0, 1) := by decide +kernel
theorem dX6_save_53 : decode cX6_save 53 = .ok (.getfield 7, 3) := by decide +kernel
theorem dX6_save_56 : decode cX6_save 56 = .ok (.iconst 2, 1) := by decide +kernel
theorem dX6_save_57 : decode cX6_save 57 = .ok (.iaload, 1) := by decide +kernel
theorem dX6_save_58 : decode cX6_save 58 = .ok (.ireturn, 1) := by decide +kernel
set_option maxRecDepth 20000 in
theorem ggX6_restore_X6_in : GoodIn wsX6_restore wsX6_in := goodIn_r _ [7] (by decide +kernel) (by decide +kernel)
set_option maxRecDepth 20000 in
theorem gX6_restore_X6_in : GoodIn wsX6_restore (va_wsS RX6 36 yX6_in wsX6_in) := goodIn_app (goodIn_of _ (by decide +kernel)) ggX6_restore_X6_in
set_option maxRecDepth 20000 in
theorem ggX6_restore_X6_record : GoodIn wsX6_restore wsX6_record := goodIn_r _ [11, 12, 13, 2, 14, 15, 16, 17, 18, 19, 20, 21, 22, 23, 24, 25, 26, 27, 28, 29] (by decide +kernel) (by decide +kernel)
set_option maxRecDepth 20000 in
theorem gX6_restore_X6_record : GoodIn wsX6_restore (wsV RX6 48 RX6 yX6_record wsX6_record) := goodIn_app (goodIn_of _ (by decide +kernel)) ggX6_restore_X6_record
theorem dX6_restore_0 : decode cX6_restore 0 = .ok (.iload_n 1, 1) := by decide +kernel
theorem dX6_restore_1 : decode cX6_restore 1 = .ok (.iconst 0, 1) := by decide +kernel
theorem dX6_restore_2 : decode cX6_restore 2 = .ok (.iconst 1, 1) := by decide +kernel
theorem dX6_restore_3 : decode cX6_restore 3 = .ok (.invokestatic 36, 3) := by decide +kernel
theorem dX6_restore_6 : decode cX6_restore 6 = .ok (.ifCond .ne 6, 3) := by decide +kernel
theorem dX6_restore_9 : decode cX6_restore 9 = .ok (.bipush (-2), 2) := by decide +kernel
theorem dX6_restore_11 : decode cX6_restore 11 = .ok (.ireturn, 1) := by decide +kernel
theorem dX6_restore_12 : decode cX6_restore 12 = .ok (.aload_n 0, 1) := by decide +kernel
theorem dX6_restore_13 : decode cX6_restore 13 = .ok (.getfield 19, 3) := by decide +kernel
theorem dX6_restore_16 : decode cX6_restore 16 = .ok (.iload_n 1, 1) := by decide +kernel
theorem dX6_restore_17 : decode cX6_restore 17 = .ok (.baload, 1) := by decide +kernel
theorem dX6_restore_18 : decode cX6_restore 18 = .ok (.ifCond .ne 6, 3) := by decide +kernel
theorem dX6_restore_21 : decode cX6_restore 21 = .ok (.bipush (-5), 2) := by decide +kernel
theorem dX6_restore_23 : decode cX6_restore 23 = .ok (.ireturn, 1) := by decide +kernel
theorem dX6_restore_24 : decode cX6_restore 24 = .ok (.aload_n 0, 1) := by decide +kernel
theorem dX6_restore_25 : decode cX6_restore 25 = .ok (.invokevirtual 48, 3) := by decide +kernel
theorem dX6_restore_28 : decode cX6_restore 28 = .ok (.iconst 0, 1) := by decide +kernel
theorem dX6_restore_29 : decode cX6_restore 29 = .ok (.istore_n 2, 1) := by decide +kernel
theorem dX6_restore_30 : decode cX6_restore 30 = .ok (.iload_n 2, 1) := by decide +kernel
theorem dX6_restore_31 : decode cX6_restore 31 = .ok (.sipush 279, 3) := by decide +kernel
theorem dX6_restore_34 : decode cX6_restore 34 = .ok (.if_icmp .ge 27, 3) := by decide +kernel
theorem dX6_restore_37 : decode cX6_restore 37 = .ok (.aload_n 0, 1) := by decide +kernel
theorem dX6_restore_38 : decode cX6_restore 38 = .ok (.getfield 7, 3) := by decide +kernel
theorem dX6_restore_41 : decode cX6_restore 41 = .ok (.iload_n 2, 1) := by decide +kernel
theorem dX6_restore_42 : decode cX6_restore 42 = .ok (.aload_n 0, 1) := by decide +kernel
theorem dX6_restore_43 : decode cX6_restore 43 = .ok (.getfield 16, 3) := by decide +kernel
theorem dX6_restore_46 : decode cX6_restore 46 = .ok (.iload_n 1, 1) := by decide +kernel
theorem dX6_restore_47 : decode cX6_restore 47 = .ok (.sipush 279, 3) := by decide +kernel
theorem dX6_restore_50 : decode cX6_restore 50 = .ok (.imul, 1) := by decide +kernel
theorem dX6_restore_51 : decode cX6_restore 51 = .ok (.iload_n 2, 1) := by decide +kernel
theorem dX6_restore_52 : decode cX6_restore 52 = .ok (.iadd, 1) := by decide +kernel
theorem dX6_restore_53 : decode cX6_restore 53 = .ok (.iaload, 1) := by decide +kernel
theorem dX6_restore_54 : decode cX6_restore 54 = .ok (.iastore, 1) := by decide +kernel
theorem dX6_restore_55 : decode cX6_restore 55 = .ok (.iinc 2 1, 3) := by decide +kernel
theorem dX6_restore_58 : decode cX6_restore 58 = .ok (.goto (-28), 3) := by decide +kernel
theorem dX6_restore_61 : decode cX6_restore 61 = .ok (.aload_n 0, 1) := by decide +kernel
theorem dX6_restore_62 : decode cX6_restore 62 = .ok (.getfield 7, 3) := by decide +kernel
theorem dX6_restore_65 : decode cX6_restore 65 = .ok (.iconst 2, 1) := by decide +kernel
theorem dX6_restore_66 : decode cX6_restore 66 = .ok (.iaload, 1) := by decide +kernel
theorem dX6_restore_67 : decode cX6_restore 67 = .ok (.ireturn, 1) := by decide +kernel
set_option maxRecDepth 20000 in
theorem ggX6_writerAhead_X6_isIn : GoodIn wsX6_writerAhead wsX6_isIn := goodIn_r _ [6, 7, 8, 9, 5, 10, 1, 15, 16, 17, 18, 19, 20, 21, 22, 23, 24, 25, 26, 27, 28, 29, 30] (by decide +kernel) (by decide +kernel)
set_option maxRecDepth 20000 in
theorem gX6_writerAhead_X6_isIn : GoodIn wsX6_writerAhead (wsV RX6 51 RX6 yX6_isIn wsX6_isIn) := goodIn_app (goodIn_of _ (by decide +kernel)) ggX6_writerAhead_X6_isIn
set_option maxRecDepth 20000 in
theorem ggX6_writerAhead_X6_wrote : GoodIn wsX6_writerAhead wsX6_wrote := goodIn_r _ [14, 7, 8, 9, 5, 10, 1, 15, 16, 17, 18, 19, 20, 21, 22, 23, 24, 25, 26, 27, 28, 29, 30] (by decide +kernel) (by decide +kernel)
set_option maxRecDepth 20000 in
theorem gX6_writerAhead_X6_wrote : GoodIn wsX6_writerAhead (wsV RX6 55 RX6 yX6_wrote wsX6_wrote) := goodIn_app (goodIn_of _ (by decide +kernel)) ggX6_writerAhead_X6_wrote
set_option maxRecDepth 20000 in
theorem ggX6_writerAhead_X6_its : GoodIn wsX6_writerAhead wsX6_its := goodIn_r _ [10, 1, 15, 16, 17, 18, 19, 20, 21, 22, 23, 24, 25, 26, 27, 28, 29, 30] (by decide +kernel) (by decide +kernel)
set_option maxRecDepth 20000 in
theorem gX6_writerAhead_X6_its : GoodIn wsX6_writerAhead (wsV RX6 40 RX6 yX6_its wsX6_its) := goodIn_app (goodIn_of _ (by decide +kernel)) ggX6_writerAhead_X6_its
theorem dX6_writerAhead_0 : decode cX6_writerAhead 0 = .ok (.bipush (-6), 2) := by decide +kernel
theorem dX6_writerAhead_2 : decode cX6_writerAhead 2 = .ok (.istore_n 3, 1) := by decide +kernel
theorem dX6_writerAhead_3 : decode cX6_writerAhead 3 = .ok (.iconst 0, 1) := by decide +kernel
theorem dX6_writerAhead_4 : decode cX6_writerAhead 4 = .ok (.istore 4, 2) := by decide +kernel
theorem dX6_writerAhead_6 : decode cX6_writerAhead 6 = .ok (.iload 4, 2) := by decide +kernel
theorem dX6_writerAhead_8 : decode cX6_writerAhead 8 = .ok (.aload_n 0, 1) := by decide +kernel
theorem dX6_writerAhead_9 : decode cX6_writerAhead 9 = .ok (.getfield 7, 3) := by decide +kernel
theorem dX6_writerAhead_12 : decode cX6_writerAhead 12 = .ok (.iconst 2, 1) := by decide +kernel
theorem dX6_writerAhead_13 : decode cX6_writerAhead 13 = .ok (.iaload, 1) := by decide +kernel
theorem dX6_writerAhead_14 : decode cX6_writerAhead 14 = .ok (.if_icmp .ge 81, 3) := by decide +kernel
theorem dX6_writerAhead_17 : decode cX6_writerAhead 17 = .ok (.aload_n 0, 1) := by decide +kernel
theorem dX6_writerAhead_18 : decode cX6_writerAhead 18 = .ok (.iload 4, 2) := by decide +kernel
theorem dX6_writerAhead_20 : decode cX6_writerAhead 20 = .ok (.iconst 1, 1) := by decide +kernel
theorem dX6_writerAhead_21 : decode cX6_writerAhead 21 = .ok (.invokevirtual 51, 3) := by decide +kernel
theorem dX6_writerAhead_24 : decode cX6_writerAhead 24 = .ok (.ifCond .eq 28, 3) := by decide +kernel
theorem dX6_writerAhead_27 : decode cX6_writerAhead 27 = .ok (.aload_n 0, 1) := by decide +kernel
theorem dX6_writerAhead_28 : decode cX6_writerAhead 28 = .ok (.iload 4, 2) := by decide +kernel
theorem dX6_writerAhead_30 : decode cX6_writerAhead 30 = .ok (.iload_n 1, 1) := by decide +kernel
theorem dX6_writerAhead_31 : decode cX6_writerAhead 31 = .ok (.invokevirtual 55, 3) := by decide +kernel
theorem dX6_writerAhead_34 : decode cX6_writerAhead 34 = .ok (.ifCond .eq 18, 3) := by decide +kernel
theorem dX6_writerAhead_37 : decode cX6_writerAhead 37 = .ok (.aload_n 0, 1) := by decide +kernel
theorem dX6_writerAhead_38 : decode cX6_writerAhead 38 = .ok (.iload 4, 2) := by decide +kernel
theorem dX6_writerAhead_40 : decode cX6_writerAhead 40 = .ok (.iconst 2, 1) := by decide +kernel
theorem dX6_writerAhead_41 : decode cX6_writerAhead 41 = .ok (.invokevirtual 40, 3) := by decide +kernel
theorem dX6_writerAhead_44 : decode cX6_writerAhead 44 = .ok (.iload_n 2, 1) := by decide +kernel
theorem dX6_writerAhead_45 : decode cX6_writerAhead 45 = .ok (.if_icmp .ge 7, 3) := by decide +kernel
theorem dX6_writerAhead_48 : decode cX6_writerAhead 48 = .ok (.iconst 1, 1) := by decide +kernel
theorem dX6_writerAhead_49 : decode cX6_writerAhead 49 = .ok (.goto 4, 3) := by decide +kernel
theorem dX6_writerAhead_52 : decode cX6_writerAhead 52 = .ok (.iconst 0, 1) := by decide +kernel
theorem dX6_writerAhead_53 : decode cX6_writerAhead 53 = .ok (.istore 5, 2) := by decide +kernel
theorem dX6_writerAhead_55 : decode cX6_writerAhead 55 = .ok (.iload 5, 2) := by decide +kernel
theorem dX6_writerAhead_57 : decode cX6_writerAhead 57 = .ok (.ifCond .eq 30, 3) := by decide +kernel
theorem dX6_writerAhead_60 : decode cX6_writerAhead 60 = .ok (.iload_n 3, 1) := by decide +kernel
theorem dX6_writerAhead_61 : decode cX6_writerAhead 61 = .ok (.bipush (-6), 2) := by decide +kernel
theorem dX6_writerAhead_63 : decode cX6_writerAhead 63 = .ok (.if_icmp .eq 19, 3) := by decide +kernel
theorem dX6_writerAhead_66 : decode cX6_writerAhead 66 = .ok (.aload_n 0, 1) := by decide +kernel
theorem dX6_writerAhead_67 : decode cX6_writerAhead 67 = .ok (.iload 4, 2) := by decide +kernel
theorem dX6_writerAhead_69 : decode cX6_writerAhead 69 = .ok (.iconst 2, 1) := by decide +kernel
theorem dX6_writerAhead_70 : decode cX6_writerAhead 70 = .ok (.invokevirtual 40, 3) := by decide +kernel
theorem dX6_writerAhead_73 : decode cX6_writerAhead 73 = .ok (.aload_n 0, 1) := by decide +kernel
theorem dX6_writerAhead_74 : decode cX6_writerAhead 74 = .ok (.iload_n 3, 1) := by decide +kernel
theorem dX6_writerAhead_75 : decode cX6_writerAhead 75 = .ok (.iconst 2, 1) := by decide +kernel
theorem dX6_writerAhead_76 : decode cX6_writerAhead 76 = .ok (.invokevirtual 40, 3) := by decide +kernel
theorem dX6_writerAhead_79 : decode cX6_writerAhead 79 = .ok (.if_icmp .le 8, 3) := by decide +kernel
theorem dX6_writerAhead_82 : decode cX6_writerAhead 82 = .ok (.iload 4, 2) := by decide +kernel
theorem dX6_writerAhead_84 : decode cX6_writerAhead 84 = .ok (.goto 4, 3) := by decide +kernel
theorem dX6_writerAhead_87 : decode cX6_writerAhead 87 = .ok (.iload_n 3, 1) := by decide +kernel
theorem dX6_writerAhead_88 : decode cX6_writerAhead 88 = .ok (.istore_n 3, 1) := by decide +kernel
theorem dX6_writerAhead_89 : decode cX6_writerAhead 89 = .ok (.iinc 4 1, 3) := by decide +kernel
theorem dX6_writerAhead_92 : decode cX6_writerAhead 92 = .ok (.goto (-86), 3) := by decide +kernel
theorem dX6_writerAhead_95 : decode cX6_writerAhead 95 = .ok (.iload_n 3, 1) := by decide +kernel
theorem dX6_writerAhead_96 : decode cX6_writerAhead 96 = .ok (.ireturn, 1) := by decide +kernel
set_option maxRecDepth 20000 in
theorem ggX6_writerBehind_X6_isIn : GoodIn wsX6_writerBehind wsX6_isIn := goodIn_r _ [6, 7, 8, 9, 5, 10, 1, 15, 16, 17, 18, 19, 20, 21, 22, 23, 24, 25, 26, 27, 28, 29, 30] (by decide +kernel) (by decide +kernel)
set_option maxRecDepth 20000 in
theorem gX6_writerBehind_X6_isIn : GoodIn wsX6_writerBehind (wsV RX6 51 RX6 yX6_isIn wsX6_isIn) := goodIn_app (goodIn_of _ (by decide +kernel)) ggX6_writerBehind_X6_isIn
set_option maxRecDepth 20000 in
theorem ggX6_writerBehind_X6_wrote : GoodIn wsX6_writerBehind wsX6_wrote := goodIn_r _ [14, 7, 8, 9, 5, 10, 1, 15, 16, 17, 18, 19, 20, 21, 22, 23, 24, 25, 26, 27, 28, 29, 30] (by decide +kernel) (by decide +kernel)
set_option maxRecDepth 20000 in
theorem gX6_writerBehind_X6_wrote : GoodIn wsX6_writerBehind (wsV RX6 55 RX6 yX6_wrote wsX6_wrote) := goodIn_app (goodIn_of _ (by decide +kernel)) ggX6_writerBehind_X6_wrote
set_option maxRecDepth 20000 in
theorem ggX6_writerBehind_X6_its : GoodIn wsX6_writerBehind wsX6_its := goodIn_r _ [10, 1, 15, 16, 17, 18, 19, 20, 21, 22, 23, 24, 25, 26, 27, 28, 29, 30] (by decide +kernel) (by decide +kernel)
set_option maxRecDepth 20000 in
theorem gX6_writerBehind_X6_its : GoodIn wsX6_writerBehind (wsV RX6 40 RX6 yX6_its wsX6_its) := goodIn_app (goodIn_of _ (by decide +kernel)) ggX6_writerBehind_X6_its
theorem dX6_writerBehind_0 : decode cX6_writerBehind 0 = .ok (.bipush (-6), 2) := by decide +kernel
theorem dX6_writerBehind_2 : decode cX6_writerBehind 2 = .ok (.istore_n 3, 1) := by decide +kernel
theorem dX6_writerBehind_3 : decode cX6_writerBehind 3 = .ok (.iconst 0, 1) := by decide +kernel
theorem dX6_writerBehind_4 : decode cX6_writerBehind 4 = .ok (.istore 4, 2) := by decide +kernel
theorem dX6_writerBehind_6 : decode cX6_writerBehind 6 = .ok (.iload 4, 2) := by decide +kernel
theorem dX6_writerBehind_8 : decode cX6_writerBehind 8 = .ok (.aload_n 0, 1) := by decide +kernel
theorem dX6_writerBehind_9 : decode cX6_writerBehind 9 = .ok (.getfield 7, 3) := by decide +kernel
theorem dX6_writerBehind_12 : decode cX6_writerBehind 12 = .ok (.iconst 2, 1) := by decide +kernel
theorem dX6_writerBehind_13 : decode cX6_writerBehind 13 = .ok (.iaload, 1) := by decide +kernel
theorem dX6_writerBehind_14 : decode cX6_writerBehind 14 = .ok (.if_icmp .ge 81, 3) := by decide +kernel
theorem dX6_writerBehind_17 : decode cX6_writerBehind 17 = .ok (.aload_n 0, 1) := by decide +kernel
theorem dX6_writerBehind_18 : decode cX6_writerBehind 18 = .ok (.iload 4, 2) := by decide +kernel
theorem dX6_writerBehind_20 : decode cX6_writerBehind 20 = .ok (.iconst 1, 1) := by decide +kernel
theorem dX6_writerBehind_21 : decode cX6_writerBehind 21 = .ok (.invokevirtual 51, 3) := by decide +kernel
theorem dX6_writerBehind_24 : decode cX6_writerBehind 24 = .ok (.ifCond .eq 28, 3) := by decide +kernel
theorem dX6_writerBehind_27 : decode cX6_writerBehind 27 = .ok (.aload_n 0, 1) := by decide +kernel
theorem dX6_writerBehind_28 : decode cX6_writerBehind 28 = .ok (.iload 4, 2) := by decide +kernel
theorem dX6_writerBehind_30 : decode cX6_writerBehind 30 = .ok (.iload_n 1, 1) := by decide +kernel
theorem dX6_writerBehind_31 : decode cX6_writerBehind 31 = .ok (.invokevirtual 55, 3) := by decide +kernel
theorem dX6_writerBehind_34 : decode cX6_writerBehind 34 = .ok (.ifCond .eq 18, 3) := by decide +kernel
theorem dX6_writerBehind_37 : decode cX6_writerBehind 37 = .ok (.aload_n 0, 1) := by decide +kernel
theorem dX6_writerBehind_38 : decode cX6_writerBehind 38 = .ok (.iload 4, 2) := by decide +kernel
theorem dX6_writerBehind_40 : decode cX6_writerBehind 40 = .ok (.iconst 2, 1) := by decide +kernel
theorem dX6_writerBehind_41 : decode cX6_writerBehind 41 = .ok (.invokevirtual 40, 3) := by decide +kernel
theorem dX6_writerBehind_44 : decode cX6_writerBehind 44 = .ok (.iload_n 2, 1) := by decide +kernel
theorem dX6_writerBehind_45 : decode cX6_writerBehind 45 = .ok (.if_icmp .le 7, 3) := by decide +kernel
theorem dX6_writerBehind_48 : decode cX6_writerBehind 48 = .ok (.iconst 1, 1) := by decide +kernel
theorem dX6_writerBehind_49 : decode cX6_writerBehind 49 = .ok (.goto 4, 3) := by decide +kernel
theorem dX6_writerBehind_52 : decode cX6_writerBehind 52 = .ok (.iconst 0, 1) := by decide +kernel
theorem dX6_writerBehind_53 : decode cX6_writerBehind 53 = .ok (.istore 5, 2) := by decide +kernel
theorem dX6_writerBehind_55 : decode cX6_writerBehind 55 = .ok (.iload 5, 2) := by decide +kernel
theorem dX6_writerBehind_57 : decode cX6_writerBehind 57 = .ok (.ifCond .eq 30, 3) := by decide +kernel
theorem dX6_writerBehind_60 : decode cX6_writerBehind 60 = .ok (.iload_n 3, 1) := by decide +kernel
theorem dX6_writerBehind_61 : decode cX6_writerBehind 61 = .ok (.bipush (-6), 2) := by decide +kernel
theorem dX6_writerBehind_63 : decode cX6_writerBehind 63 = .ok (.if_icmp .eq 19, 3) := by decide +kernel
theorem dX6_writerBehind_66 : decode cX6_writerBehind 66 = .ok (.aload_n 0, 1) := by decide +kernel
theorem dX6_writerBehind_67 : decode cX6_writerBehind 67 = .ok (.iload 4, 2) := by decide +kernel
theorem dX6_writerBehind_69 : decode cX6_writerBehind 69 = .ok (.iconst 2, 1) := by decide +kernel
theorem dX6_writerBehind_70 : decode cX6_writerBehind 70 = .ok (.invokevirtual 40, 3) := by decide +kernel
theorem dX6_writerBehind_73 : decode cX6_writerBehind 73 = .ok (.aload_n 0, 1) := by decide +kernel
theorem dX6_writerBehind_74 : decode cX6_writerBehind 74 = .ok (.iload_n 3, 1) := by decide +kernel
theorem dX6_writerBehind_75 : decode cX6_writerBehind 75 = .ok (.iconst 2, 1) := by decide +kernel
theorem dX6_writerBehind_76 : decode cX6_writerBehind 76 = .ok (.invokevirtual 40, 3) := by decide +kernel
theorem dX6_writerBehind_79 : decode cX6_writerBehind 79 = .ok (.if_icmp .ge 8, 3) := by decide +kernel
theorem dX6_writerBehind_82 : decode cX6_writerBehind 82 = .ok (.iload 4, 2) := by decide +kernel
theorem dX6_writerBehind_84 : decode cX6_writerBehind 84 = .ok (.goto 4, 3) := by decide +kernel
theorem dX6_writerBehind_87 : decode cX6_writerBehind 87 = .ok (.iload_n 3, 1) := by decide +kernel
theorem dX6_writerBehind_88 : decode cX6_writerBehind 88 = .ok (.istore_n 3, 1) := by decide +kernel
theorem dX6_writerBehind_89 : decode cX6_writerBehind 89 = .ok (.iinc 4 1, 3) := by decide +kernel
theorem dX6_writerBehind_92 : decode cX6_writerBehind 92 = .ok (.goto (-86), 3) := by decide +kernel
theorem dX6_writerBehind_95 : decode cX6_writerBehind 95 = .ok (.iload_n 3, 1) := by decide +kernel
theorem dX6_writerBehind_96 : decode cX6_writerBehind 96 = .ok (.ireturn, 1) := by decide +kernel
set_option maxRecDepth 20000 in
theorem ggX6_isCommittedAhead_X6_isIn : GoodIn wsX6_isCommittedAhead wsX6_isIn := goodIn_r _ [5, 6, 7, 8, 4, 9, 10, 11, 12, 13, 14, 15, 16, 17, 18, 19, 20, 21, 22, 23, 24, 25, 26] (by decide +kernel) (by decide +kernel)
set_option maxRecDepth 20000 in
theorem gX6_isCommittedAhead_X6_isIn : GoodIn wsX6_isCommittedAhead (wsV RX6 51 RX6 yX6_isIn wsX6_isIn) := goodIn_app (goodIn_of _ (by decide +kernel)) ggX6_isCommittedAhead_X6_isIn
set_option maxRecDepth 20000 in
theorem ggX6_isCommittedAhead_X6_its : GoodIn wsX6_isCommittedAhead wsX6_its := goodIn_r _ [9, 10, 11, 12, 13, 14, 15, 16, 17, 18, 19, 20, 21, 22, 23, 24, 25, 26] (by decide +kernel) (by decide +kernel)
set_option maxRecDepth 20000 in
theorem gX6_isCommittedAhead_X6_its : GoodIn wsX6_isCommittedAhead (wsV RX6 40 RX6 yX6_its wsX6_its) := goodIn_app (goodIn_of _ (by decide +kernel)) ggX6_isCommittedAhead_X6_its
theorem dX6_isCommittedAhead_0 : decode cX6_isCommittedAhead 0 = .ok (.aload_n 0, 1) := by decide +kernel
theorem dX6_isCommittedAhead_1 : decode cX6_isCommittedAhead 1 = .ok (.iload_n 1, 1) := by decide +kernel
theorem dX6_isCommittedAhead_2 : decode cX6_isCommittedAhead 2 = .ok (.iconst 1, 1) := by decide +kernel
theorem dX6_isCommittedAhead_3 : decode cX6_isCommittedAhead 3 = .ok (.invokevirtual 51, 3) := by decide +kernel
theorem dX6_isCommittedAhead_6 : decode cX6_isCommittedAhead 6 = .ok (.ifCond .eq 17, 3) := by decide +kernel
theorem dX6_isCommittedAhead_9 : decode cX6_isCommittedAhead 9 = .ok (.aload_n 0, 1) := by decide +kernel
theorem dX6_isCommittedAhead_10 : decode cX6_isCommittedAhead 10 = .ok (.iload_n 1, 1) := by decide +kernel
theorem dX6_isCommittedAhead_11 : decode cX6_isCommittedAhead 11 = .ok (.iconst 2, 1) := by decide +kernel
theorem dX6_isCommittedAhead_12 : decode cX6_isCommittedAhead 12 = .ok (.invokevirtual 40, 3) := by decide +kernel
theorem dX6_isCommittedAhead_15 : decode cX6_isCommittedAhead 15 = .ok (.iload_n 2, 1) := by decide +kernel
theorem dX6_isCommittedAhead_16 : decode cX6_isCommittedAhead 16 = .ok (.if_icmp .ge 7, 3) := by decide +kernel
theorem dX6_isCommittedAhead_19 : decode cX6_isCommittedAhead 19 = .ok (.iconst 1, 1) := by decide +kernel
theorem dX6_isCommittedAhead_20 : decode cX6_isCommittedAhead 20 = .ok (.goto 4, 3) := by decide +kernel
theorem dX6_isCommittedAhead_23 : decode cX6_isCommittedAhead 23 = .ok (.iconst 0, 1) := by decide +kernel
theorem dX6_isCommittedAhead_24 : decode cX6_isCommittedAhead 24 = .ok (.ireturn, 1) := by decide +kernel
set_option maxRecDepth 20000 in
theorem ggX6_overlap_X6_isIn : GoodIn wsX6_overlap wsX6_isIn := goodIn_r _ [5, 6, 7, 8, 4, 9, 10, 15, 16, 17, 18, 19, 20, 21, 22, 23, 24, 25, 26, 27, 28, 29, 30] (by decide +kernel) (by decide +kernel)
set_option maxRecDepth 20000 in
theorem gX6_overlap_X6_isIn : GoodIn wsX6_overlap (wsV RX6 51 RX6 yX6_isIn wsX6_isIn) := goodIn_app (goodIn_of _ (by decide +kernel)) ggX6_overlap_X6_isIn
set_option maxRecDepth 20000 in
theorem ggX6_overlap_X6_its : GoodIn wsX6_overlap wsX6_its := goodIn_r _ [9, 10, 15, 16, 17, 18, 19, 20, 21, 22, 23, 24, 25, 26, 27, 28, 29, 30] (by decide +kernel) (by decide +kernel)
set_option maxRecDepth 20000 in
theorem gX6_overlap_X6_its : GoodIn wsX6_overlap (wsV RX6 40 RX6 yX6_its wsX6_its) := goodIn_app (goodIn_of _ (by decide +kernel)) ggX6_overlap_X6_its
set_option maxRecDepth 20000 in
theorem ggX6_overlap_X6_isCommittedAhead : GoodIn wsX6_overlap wsX6_isCommittedAhead := goodIn_r _ [14, 1, 2, 3, 4, 5, 6, 7, 8, 9, 10, 15, 16, 17, 18, 19, 20, 21, 22, 23, 24, 25, 26, 27, 28, 29, 30] (by decide +kernel) (by decide +kernel)
set_option maxRecDepth 20000 in
theorem gX6_overlap_X6_isCommittedAhead : GoodIn wsX6_overlap (wsV RX6 58 RX6 yX6_isCommittedAhead wsX6_isCommittedAhead) := goodIn_app (goodIn_of _ (by decide +kernel)) ggX6_overlap_X6_isCommittedAhead
theorem dX6_overlap_0 : decode cX6_overlap 0 = .ok (.aload_n 0, 1) := by decide +kernel
theorem dX6_overlap_1 : decode cX6_overlap 1 = .ok (.iload_n 1, 1) := by decide +kernel
theorem dX6_overlap_2 : decode cX6_overlap 2 = .ok (.iconst 2, 1) := by decide +kernel
theorem dX6_overlap_3 : decode cX6_overlap 3 = .ok (.invokevirtual 51, 3) := by decide +kernel
theorem dX6_overlap_6 : decode cX6_overlap 6 = .ok (.ifCond .ne 12, 3) := by decide +kernel
theorem dX6_overlap_9 : decode cX6_overlap 9 = .ok (.aload_n 0, 1) := by decide +kernel
theorem dX6_overlap_10 : decode cX6_overlap 10 = .ok (.iload_n 2, 1) := by decide +kernel
theorem dX6_overlap_11 : decode cX6_overlap 11 = .ok (.iconst 2, 1) := by decide +kernel
theorem dX6_overlap_12 : decode cX6_overlap 12 = .ok (.invokevirtual 51, 3) := by decide +kernel
theorem dX6_overlap_15 : decode cX6_overlap 15 = .ok (.ifCond .eq 7, 3) := by decide +kernel
theorem dX6_overlap_18 : decode cX6_overlap 18 = .ok (.iconst 1, 1) := by decide +kernel
theorem dX6_overlap_19 : decode cX6_overlap 19 = .ok (.goto 4, 3) := by decide +kernel
theorem dX6_overlap_22 : decode cX6_overlap 22 = .ok (.iconst 0, 1) := by decide +kernel
theorem dX6_overlap_23 : decode cX6_overlap 23 = .ok (.istore_n 3, 1) := by decide +kernel
theorem dX6_overlap_24 : decode cX6_overlap 24 = .ok (.iload_n 3, 1) := by decide +kernel
theorem dX6_overlap_25 : decode cX6_overlap 25 = .ok (.ifCond .ne 35, 3) := by decide +kernel
theorem dX6_overlap_28 : decode cX6_overlap 28 = .ok (.aload_n 0, 1) := by decide +kernel
theorem dX6_overlap_29 : decode cX6_overlap 29 = .ok (.iload_n 1, 1) := by decide +kernel
theorem dX6_overlap_30 : decode cX6_overlap 30 = .ok (.aload_n 0, 1) := by decide +kernel
theorem dX6_overlap_31 : decode cX6_overlap 31 = .ok (.iload_n 2, 1) := by decide +kernel
theorem dX6_overlap_32 : decode cX6_overlap 32 = .ok (.iconst 1, 1) := by decide +kernel
theorem dX6_overlap_33 : decode cX6_overlap 33 = .ok (.invokevirtual 40, 3) := by decide +kernel
theorem dX6_overlap_36 : decode cX6_overlap 36 = .ok (.invokevirtual 58, 3) := by decide +kernel
theorem dX6_overlap_39 : decode cX6_overlap 39 = .ok (.ifCond .ne 21, 3) := by decide +kernel
theorem dX6_overlap_42 : decode cX6_overlap 42 = .ok (.aload_n 0, 1) := by decide +kernel
theorem dX6_overlap_43 : decode cX6_overlap 43 = .ok (.iload_n 2, 1) := by decide +kernel
theorem dX6_overlap_44 : decode cX6_overlap 44 = .ok (.aload_n 0, 1) := by decide +kernel
theorem dX6_overlap_45 : decode cX6_overlap 45 = .ok (.iload_n 1, 1) := by decide +kernel
theorem dX6_overlap_46 : decode cX6_overlap 46 = .ok (.iconst 1, 1) := by decide +kernel
theorem dX6_overlap_47 : decode cX6_overlap 47 = .ok (.invokevirtual 40, 3) := by decide +kernel
theorem dX6_overlap_50 : decode cX6_overlap 50 = .ok (.invokevirtual 58, 3) := by decide +kernel
theorem dX6_overlap_53 : decode cX6_overlap 53 = .ok (.ifCond .ne 7, 3) := by decide +kernel
theorem dX6_overlap_56 : decode cX6_overlap 56 = .ok (.iconst 1, 1) := by decide +kernel
theorem dX6_overlap_57 : decode cX6_overlap 57 = .ok (.goto 4, 3) := by decide +kernel
theorem dX6_overlap_60 : decode cX6_overlap 60 = .ok (.iconst 0, 1) := by decide +kernel
theorem dX6_overlap_61 : decode cX6_overlap 61 = .ok (.ireturn, 1) := by decide +kernel
set_option maxRecDepth 20000 in
theorem ggX6_isEdge_X6_its : GoodIn wsX6_isEdge wsX6_its := goodIn_r _ [5, 6, 19, 20, 21, 22, 23, 24, 25, 26, 27, 28, 29, 30, 31, 32, 33, 34] (by decide +kernel) (by decide +kernel)
set_option maxRecDepth 20000 in
theorem gX6_isEdge_X6_its : GoodIn wsX6_isEdge (wsV RX6 40 RX6 yX6_its wsX6_its) := goodIn_app (goodIn_of _ (by decide +kernel)) ggX6_isEdge_X6_its
set_option maxRecDepth 20000 in
theorem ggX6_isEdge_X6_overlap : GoodIn wsX6_isEdge wsX6_overlap := goodIn_r _ [10, 11, 12, 13, 4, 14, 1, 2, 3, 5, 6, 15, 16, 17, 18, 19, 20, 21, 22, 23, 24, 25, 26, 27, 28, 29, 30, 31, 32, 33, 34] (by decide +kernel) (by decide +kernel)
set_option maxRecDepth 20000 in
theorem gX6_isEdge_X6_overlap : GoodIn wsX6_isEdge (wsV RX6 61 RX6 yX6_overlap wsX6_overlap) := goodIn_app (goodIn_of _ (by decide +kernel)) ggX6_isEdge_X6_overlap
theorem dX6_isEdge_0 : decode cX6_isEdge 0 = .ok (.iload_n 1, 1) := by decide +kernel
theorem dX6_isEdge_1 : decode cX6_isEdge 1 = .ok (.iload_n 2, 1) := by decide +kernel
theorem dX6_isEdge_2 : decode cX6_isEdge 2 = .ok (.if_icmp .eq 32, 3) := by decide +kernel
theorem dX6_isEdge_5 : decode cX6_isEdge 5 = .ok (.aload_n 0, 1) := by decide +kernel
theorem dX6_isEdge_6 : decode cX6_isEdge 6 = .ok (.iload_n 1, 1) := by decide +kernel
theorem dX6_isEdge_7 : decode cX6_isEdge 7 = .ok (.iconst 3, 1) := by decide +kernel
theorem dX6_isEdge_8 : decode cX6_isEdge 8 = .ok (.invokevirtual 40, 3) := by decide +kernel
theorem dX6_isEdge_11 : decode cX6_isEdge 11 = .ok (.aload_n 0, 1) := by decide +kernel
theorem dX6_isEdge_12 : decode cX6_isEdge 12 = .ok (.iload_n 2, 1) := by decide +kernel
theorem dX6_isEdge_13 : decode cX6_isEdge 13 = .ok (.iconst 4, 1) := by decide +kernel
theorem dX6_isEdge_14 : decode cX6_isEdge 14 = .ok (.invokevirtual 40, 3) := by decide +kernel
theorem dX6_isEdge_17 : decode cX6_isEdge 17 = .ok (.iand, 1) := by decide +kernel
theorem dX6_isEdge_18 : decode cX6_isEdge 18 = .ok (.ifCond .eq 16, 3) := by decide +kernel
theorem dX6_isEdge_21 : decode cX6_isEdge 21 = .ok (.aload_n 0, 1) := by decide +kernel
theorem dX6_isEdge_22 : decode cX6_isEdge 22 = .ok (.iload_n 1, 1) := by decide +kernel
theorem dX6_isEdge_23 : decode cX6_isEdge 23 = .ok (.iload_n 2, 1) := by decide +kernel
theorem dX6_isEdge_24 : decode cX6_isEdge 24 = .ok (.invokevirtual 61, 3) := by decide +kernel
theorem dX6_isEdge_27 : decode cX6_isEdge 27 = .ok (.ifCond .eq 7, 3) := by decide +kernel
theorem dX6_isEdge_30 : decode cX6_isEdge 30 = .ok (.iconst 1, 1) := by decide +kernel
theorem dX6_isEdge_31 : decode cX6_isEdge 31 = .ok (.goto 4, 3) := by decide +kernel
theorem dX6_isEdge_34 : decode cX6_isEdge 34 = .ok (.iconst 0, 1) := by decide +kernel
theorem dX6_isEdge_35 : decode cX6_isEdge 35 = .ok (.ireturn, 1) := by decide +kernel
set_option maxRecDepth 20000 in
theorem ggX6_isTriple_X6_isEdge : GoodIn wsX6_isTriple wsX6_isEdge := goodIn_r _ [5, 6, 7, 8, 4, 9, 10, 11, 12, 13, 14, 15, 16, 17, 18, 19, 20, 21, 22, 23, 24, 25, 26, 27, 28, 29, 30, 31, 32, 33, 34, 35, 36, 37, 38] (by decide +kernel) (by decide +kernel)
set_option maxRecDepth 20000 in
theorem gX6_isTriple_X6_isEdge : GoodIn wsX6_isTriple (wsV RX6 64 RX6 yX6_isEdge wsX6_isEdge) := goodIn_app (goodIn_of _ (by decide +kernel)) ggX6_isTriple_X6_isEdge
theorem dX6_isTriple_0 : decode cX6_isTriple 0 = .ok (.aload_n 0, 1) := by decide +kernel
theorem dX6_isTriple_1 : decode cX6_isTriple 1 = .ok (.iload_n 1, 1) := by decide +kernel
theorem dX6_isTriple_2 : decode cX6_isTriple 2 = .ok (.iload_n 2, 1) := by decide +kernel
theorem dX6_isTriple_3 : decode cX6_isTriple 3 = .ok (.invokevirtual 64, 3) := by decide +kernel
theorem dX6_isTriple_6 : decode cX6_isTriple 6 = .ok (.ifCond .eq 16, 3) := by decide +kernel
theorem dX6_isTriple_9 : decode cX6_isTriple 9 = .ok (.aload_n 0, 1) := by decide +kernel
theorem dX6_isTriple_10 : decode cX6_isTriple 10 = .ok (.iload_n 2, 1) := by decide +kernel
theorem dX6_isTriple_11 : decode cX6_isTriple 11 = .ok (.iload_n 3, 1) := by decide +kernel
theorem dX6_isTriple_12 : decode cX6_isTriple 12 = .ok (.invokevirtual 64, 3) := by decide +kernel
theorem dX6_isTriple_15 : decode cX6_isTriple 15 = .ok (.ifCond .eq 7, 3) := by decide +kernel
theorem dX6_isTriple_18 : decode cX6_isTriple 18 = .ok (.iconst 1, 1) := by decide +kernel
theorem dX6_isTriple_19 : decode cX6_isTriple 19 = .ok (.goto 4, 3) := by decide +kernel
theorem dX6_isTriple_22 : decode cX6_isTriple 22 = .ok (.iconst 0, 1) := by decide +kernel
theorem dX6_isTriple_23 : decode cX6_isTriple 23 = .ok (.ireturn, 1) := by decide +kernel
set_option maxRecDepth 20000 in
theorem ggX6_counts_X6_its : GoodIn wsX6_counts wsX6_its := goodIn_r _ [5, 6, 7, 8, 9, 10, 11, 12, 13, 14, 15, 16, 17, 18, 19, 20, 21, 22] (by decide +kernel) (by decide +kernel)
set_option maxRecDepth 20000 in
theorem gX6_counts_X6_its : GoodIn wsX6_counts (wsV RX6 40 RX6 yX6_its wsX6_its) := goodIn_app (goodIn_of _ (by decide +kernel)) ggX6_counts_X6_its
theorem dX6_counts_0 : decode cX6_counts 0 = .ok (.iload_n 1, 1) := by decide +kernel
theorem dX6_counts_1 : decode cX6_counts 1 = .ok (.ifCond .eq 8, 3) := by decide +kernel
theorem dX6_counts_4 : decode cX6_counts 4 = .ok (.iload_n 1, 1) := by decide +kernel
theorem dX6_counts_5 : decode cX6_counts 5 = .ok (.iconst 3, 1) := by decide +kernel
theorem dX6_counts_6 : decode cX6_counts 6 = .ok (.if_icmp .ne 13, 3) := by decide +kernel
theorem dX6_counts_9 : decode cX6_counts 9 = .ok (.iload_n 1, 1) := by decide +kernel
theorem dX6_counts_10 : decode cX6_counts 10 = .ok (.ifCond .ne 7, 3) := by decide +kernel
theorem dX6_counts_13 : decode cX6_counts 13 = .ok (.iconst 1, 1) := by decide +kernel
theorem dX6_counts_14 : decode cX6_counts 14 = .ok (.goto 4, 3) := by decide +kernel
theorem dX6_counts_17 : decode cX6_counts 17 = .ok (.iconst 0, 1) := by decide +kernel
theorem dX6_counts_18 : decode cX6_counts 18 = .ok (.ireturn, 1) := by decide +kernel
theorem dX6_counts_19 : decode cX6_counts 19 = .ok (.aload_n 0, 1) := by decide +kernel
theorem dX6_counts_20 : decode cX6_counts 20 = .ok (.iload 4, 2) := by decide +kernel
theorem dX6_counts_22 : decode cX6_counts 22 = .ok (.iconst 2, 1) := by decide +kernel
theorem dX6_counts_23 : decode cX6_counts 23 = .ok (.invokevirtual 40, 3) := by decide +kernel
theorem dX6_counts_26 : decode cX6_counts 26 = .ok (.istore 5, 2) := by decide +kernel
theorem dX6_counts_28 : decode cX6_counts 28 = .ok (.iload 5, 2) := by decide +kernel
theorem dX6_counts_30 : decode cX6_counts 30 = .ok (.aload_n 0, 1) := by decide +kernel
theorem dX6_counts_31 : decode cX6_counts 31 = .ok (.iload_n 3, 1) := by decide +kernel
theorem dX6_counts_32 : decode cX6_counts 32 = .ok (.iconst 2, 1) := by decide +kernel
theorem dX6_counts_33 : decode cX6_counts 33 = .ok (.invokevirtual 40, 3) := by decide +kernel
theorem dX6_counts_36 : decode cX6_counts 36 = .ok (.if_icmp .ge 24, 3) := by decide +kernel
theorem dX6_counts_39 : decode cX6_counts 39 = .ok (.iload 4, 2) := by decide +kernel
theorem dX6_counts_41 : decode cX6_counts 41 = .ok (.iload_n 2, 1) := by decide +kernel
theorem dX6_counts_42 : decode cX6_counts 42 = .ok (.if_icmp .eq 14, 3) := by decide +kernel
theorem dX6_counts_45 : decode cX6_counts 45 = .ok (.iload 5, 2) := by decide +kernel
theorem dX6_counts_47 : decode cX6_counts 47 = .ok (.aload_n 0, 1) := by decide +kernel
theorem dX6_counts_48 : decode cX6_counts 48 = .ok (.iload_n 2, 1) := by decide +kernel
theorem dX6_counts_49 : decode cX6_counts 49 = .ok (.iconst 2, 1) := by decide +kernel
theorem dX6_counts_50 : decode cX6_counts 50 = .ok (.invokevirtual 40, 3) := by decide +kernel
theorem dX6_counts_53 : decode cX6_counts 53 = .ok (.if_icmp .ge 7, 3) := by decide +kernel
theorem dX6_counts_56 : decode cX6_counts 56 = .ok (.iconst 1, 1) := by decide +kernel
theorem dX6_counts_57 : decode cX6_counts 57 = .ok (.goto 4, 3) := by decide +kernel
theorem dX6_counts_60 : decode cX6_counts 60 = .ok (.iconst 0, 1) := by decide +kernel
theorem dX6_counts_61 : decode cX6_counts 61 = .ok (.istore 6, 2) := by decide +kernel
theorem dX6_counts_63 : decode cX6_counts 63 = .ok (.iload 6, 2) := by decide +kernel
theorem dX6_counts_65 : decode cX6_counts 65 = .ok (.ifCond .eq 32, 3) := by decide +kernel
theorem dX6_counts_68 : decode cX6_counts 68 = .ok (.iload_n 1, 1) := by decide +kernel
theorem dX6_counts_69 : decode cX6_counts 69 = .ok (.iconst 1, 1) := by decide +kernel
theorem dX6_counts_70 : decode cX6_counts 70 = .ok (.if_icmp .eq 23, 3) := by decide +kernel
theorem dX6_counts_73 : decode cX6_counts 73 = .ok (.aload_n 0, 1) := by decide +kernel
theorem dX6_counts_74 : decode cX6_counts 74 = .ok (.iload_n 2, 1) := by decide +kernel
theorem dX6_counts_75 : decode cX6_counts 75 = .ok (.iconst 4, 1) := by decide +kernel
theorem dX6_counts_76 : decode cX6_counts 76 = .ok (.invokevirtual 40, 3) := by decide +kernel
theorem dX6_counts_79 : decode cX6_counts 79 = .ok (.ifCond .ne 14, 3) := by decide +kernel
theorem dX6_counts_82 : decode cX6_counts 82 = .ok (.iload 5, 2) := by decide +kernel
theorem dX6_counts_84 : decode cX6_counts 84 = .ok (.aload_n 0, 1) := by decide +kernel
theorem dX6_counts_85 : decode cX6_counts 85 = .ok (.iload_n 2, 1) := by decide +kernel
theorem dX6_counts_86 : decode cX6_counts 86 = .ok (.iconst 1, 1) := by decide +kernel
theorem dX6_counts_87 : decode cX6_counts 87 = .ok (.invokevirtual 40, 3) := by decide +kernel
theorem dX6_counts_90 : decode cX6_counts 90 = .ok (.if_icmp .ge 7, 3) := by decide +kernel
theorem dX6_counts_93 : decode cX6_counts 93 = .ok (.iconst 1, 1) := by decide +kernel
theorem dX6_counts_94 : decode cX6_counts 94 = .ok (.goto 4, 3) := by decide +kernel
theorem dX6_counts_97 : decode cX6_counts 97 = .ok (.iconst 0, 1) := by decide +kernel
theorem dX6_counts_98 : decode cX6_counts 98 = .ok (.ireturn, 1) := by decide +kernel
set_option maxRecDepth 20000 in
theorem ggX6_findTriple_X6_isIn : GoodIn wsX6_findTriple wsX6_isIn := goodIn_r _ [9, 10, 11, 12, 8, 13, 1, 34, 35, 36, 37, 38, 39, 40, 41, 42, 43, 44, 45, 46, 47, 48, 49] (by decide +kernel) (by decide +kernel)
set_option maxRecDepth 20000 in
theorem gX6_findTriple_X6_isIn : GoodIn wsX6_findTriple (wsV RX6 51 RX6 yX6_isIn wsX6_isIn) := goodIn_app (goodIn_of _ (by decide +kernel)) ggX6_findTriple_X6_isIn
set_option maxRecDepth 20000 in
theorem ggX6_findTriple_X6_isTriple : GoodIn wsX6_findTriple wsX6_isTriple := goodIn_r _ [17, 18, 19, 20, 8, 21, 10, 11, 12, 13, 1, 22, 23, 24, 25, 5, 6, 7, 9, 26, 27, 28, 29, 34, 35, 36, 37, 38, 39, 40, 41, 42, 43, 44, 45, 46, 47, 48, 49] (by decide +kernel) (by decide +kernel)
set_option maxRecDepth 20000 in
theorem gX6_findTriple_X6_isTriple : GoodIn wsX6_findTriple (wsV RX6 67 RX6 yX6_isTriple wsX6_isTriple) := goodIn_app (goodIn_of _ (by decide +kernel)) ggX6_findTriple_X6_isTriple
set_option maxRecDepth 20000 in
theorem ggX6_findTriple_X6_counts : GoodIn wsX6_findTriple wsX6_counts := goodIn_r _ [33, 10, 11, 12, 8, 13, 1, 34, 35, 36, 37, 38, 39, 40, 41, 42, 43, 44, 45, 46, 47, 48, 49] (by decide +kernel) (by decide +kernel)
set_option maxRecDepth 20000 in
theorem gX6_findTriple_X6_counts : GoodIn wsX6_findTriple (wsV RX6 70 RX6 yX6_counts wsX6_counts) := goodIn_app (goodIn_of _ (by decide +kernel)) ggX6_findTriple_X6_counts
theorem dX6_findTriple_0 : decode cX6_findTriple 0 = .ok (.iconst 0, 1) := by decide +kernel
theorem dX6_findTriple_1 : decode cX6_findTriple 1 = .ok (.istore_n 3, 1) := by decide +kernel
theorem dX6_findTriple_2 : decode cX6_findTriple 2 = .ok (.iload_n 3, 1) := by decide +kernel
theorem dX6_findTriple_3 : decode cX6_findTriple 3 = .ok (.aload_n 0, 1) := by decide +kernel
theorem dX6_findTriple_4 : decode cX6_findTriple 4 = .ok (.getfield 7, 3) := by decide +kernel
theorem dX6_findTriple_7 : decode cX6_findTriple 7 = .ok (.iconst 2, 1) := by decide +kernel
theorem dX6_findTriple_8 : decode cX6_findTriple 8 = .ok (.iaload, 1) := by decide +kernel
theorem dX6_findTriple_9 : decode cX6_findTriple 9 = .ok (.if_icmp .ge 151, 3) := by decide +kernel
theorem dX6_findTriple_12 : decode cX6_findTriple 12 = .ok (.iconst 0, 1) := by decide +kernel
theorem dX6_findTriple_13 : decode cX6_findTriple 13 = .ok (.istore 4, 2) := by decide +kernel
theorem dX6_findTriple_15 : decode cX6_findTriple 15 = .ok (.iload 4, 2) := by decide +kernel
theorem dX6_findTriple_17 : decode cX6_findTriple 17 = .ok (.aload_n 0, 1) := by decide +kernel
theorem dX6_findTriple_18 : decode cX6_findTriple 18 = .ok (.getfield 7, 3) := by decide +kernel
theorem dX6_findTriple_21 : decode cX6_findTriple 21 = .ok (.iconst 2, 1) := by decide +kernel
theorem dX6_findTriple_22 : decode cX6_findTriple 22 = .ok (.iaload, 1) := by decide +kernel
theorem dX6_findTriple_23 : decode cX6_findTriple 23 = .ok (.if_icmp .ge 131, 3) := by decide +kernel
theorem dX6_findTriple_26 : decode cX6_findTriple 26 = .ok (.iconst 0, 1) := by decide +kernel
theorem dX6_findTriple_27 : decode cX6_findTriple 27 = .ok (.istore 5, 2) := by decide +kernel
theorem dX6_findTriple_29 : decode cX6_findTriple 29 = .ok (.iload 5, 2) := by decide +kernel
theorem dX6_findTriple_31 : decode cX6_findTriple 31 = .ok (.aload_n 0, 1) := by decide +kernel
theorem dX6_findTriple_32 : decode cX6_findTriple 32 = .ok (.getfield 7, 3) := by decide +kernel
theorem dX6_findTriple_35 : decode cX6_findTriple 35 = .ok (.iconst 2, 1) := by decide +kernel
theorem dX6_findTriple_36 : decode cX6_findTriple 36 = .ok (.iaload, 1) := by decide +kernel
theorem dX6_findTriple_37 : decode cX6_findTriple 37 = .ok (.if_icmp .ge 111, 3) := by decide +kernel
theorem dX6_findTriple_40 : decode cX6_findTriple 40 = .ok (.aload_n 0, 1) := by decide +kernel
theorem dX6_findTriple_41 : decode cX6_findTriple 41 = .ok (.iload 4, 2) := by decide +kernel
theorem dX6_findTriple_43 : decode cX6_findTriple 43 = .ok (.iconst 1, 1) := by decide +kernel
theorem dX6_findTriple_44 : decode cX6_findTriple 44 = .ok (.invokevirtual 51, 3) := by decide +kernel
theorem dX6_findTriple_47 : decode cX6_findTriple 47 = .ok (.ifCond .eq 43, 3) := by decide +kernel
theorem dX6_findTriple_50 : decode cX6_findTriple 50 = .ok (.aload_n 0, 1) := by decide +kernel
theorem dX6_findTriple_51 : decode cX6_findTriple 51 = .ok (.iload_n 3, 1) := by decide +kernel
theorem dX6_findTriple_52 : decode cX6_findTriple 52 = .ok (.iconst 1, 1) := by decide +kernel
theorem dX6_findTriple_53 : decode cX6_findTriple 53 = .ok (.invokevirtual 51, 3) := by decide +kernel
theorem dX6_findTriple_56 : decode cX6_findTriple 56 = .ok (.ifCond .eq 34, 3) := by decide +kernel
theorem dX6_findTriple_59 : decode cX6_findTriple 59 = .ok (.aload_n 0, 1) := by decide +kernel
theorem dX6_findTriple_60 : decode cX6_findTriple 60 = .ok (.iload 5, 2) := by decide +kernel
theorem dX6_findTriple_62 : decode cX6_findTriple 62 = .ok (.iconst 1, 1) := by decide +kernel
theorem dX6_findTriple_63 : decode cX6_findTriple 63 = .ok (.invokevirtual 51, 3) := by decide +kernel
theorem dX6_findTriple_66 : decode cX6_findTriple 66 = .ok (.ifCond .eq 24, 3) := by decide +kernel
theorem dX6_findTriple_69 : decode cX6_findTriple 69 = .ok (.iload 4, 2) := by decide +kernel
theorem dX6_findTriple_71 : decode cX6_findTriple 71 = .ok (.iload_n 1, 1) := by decide +kernel
theorem dX6_findTriple_72 : decode cX6_findTriple 72 = .ok (.if_icmp .eq 14, 3) := by decide +kernel
theorem dX6_findTriple_75 : decode cX6_findTriple 75 = .ok (.iload_n 3, 1) := by decide +kernel
theorem dX6_findTriple_76 : decode cX6_findTriple 76 = .ok (.iload_n 1, 1) := by decide +kernel
theorem dX6_findTriple_77 : decode cX6_findTriple 77 = .ok (.if_icmp .eq 9, 3) := by decide +kernel
theorem dX6_findTriple_80 : decode cX6_findTriple 80 = .ok (.iload 5, 2) := by decide +kernel
theorem dX6_findTriple_82 : decode cX6_findTriple 82 = .ok (.iload_n 1, 1) := by decide +kernel
theorem dX6_findTriple_83 : decode cX6_findTriple 83 = .ok (.if_icmp .ne 7, 3) := by decide +kernel
theorem dX6_findTriple_86 : decode cX6_findTriple 86 = .ok (.iconst 1, 1) := by decide +kernel
theorem dX6_findTriple_87 : decode cX6_findTriple 87 = .ok (.goto 4, 3) := by decide +kernel
theorem dX6_findTriple_90 : decode cX6_findTriple 90 = .ok (.iconst 0, 1) := by decide +kernel
theorem dX6_findTriple_91 : decode cX6_findTriple 91 = .ok (.istore 6, 2) := by decide +kernel
theorem dX6_findTriple_93 : decode cX6_findTriple 93 = .ok (.iload 6, 2) := by decide +kernel
theorem dX6_findTriple_95 : decode cX6_findTriple 95 = .ok (.ifCond .eq 47, 3) := by decide +kernel
theorem dX6_findTriple_98 : decode cX6_findTriple 98 = .ok (.aload_n 0, 1) := by decide +kernel
theorem dX6_findTriple_99 : decode cX6_findTriple 99 = .ok (.iload 4, 2) := by decide +kernel
theorem dX6_findTriple_101 : decode cX6_findTriple 101 = .ok (.iload_n 3, 1) := by decide +kernel
theorem dX6_findTriple_102 : decode cX6_findTriple 102 = .ok (.iload 5, 2) := by decide +kernel
theorem dX6_findTriple_104 : decode cX6_findTriple 104 = .ok (.invokevirtual 67, 3) := by decide +kernel
theorem dX6_findTriple_107 : decode cX6_findTriple 107 = .ok (.ifCond .eq 35, 3) := by decide +kernel
theorem dX6_findTriple_110 : decode cX6_findTriple 110 = .ok (.aload_n 0, 1) := by decide +kernel
theorem dX6_findTriple_111 : decode cX6_findTriple 111 = .ok (.iload_n 2, 1) := by decide +kernel
theorem dX6_findTriple_112 : decode cX6_findTriple 112 = .ok (.iload 4, 2) := by decide +kernel
theorem dX6_findTriple_114 : decode cX6_findTriple 114 = .ok (.iload_n 3, 1) := by decide +kernel
theorem dX6_findTriple_115 : decode cX6_findTriple 115 = .ok (.iload 5, 2) := by decide +kernel
theorem dX6_findTriple_117 : decode cX6_findTriple 117 = .ok (.invokevirtual 70, 3) := by decide +kernel
theorem dX6_findTriple_120 : decode cX6_findTriple 120 = .ok (.ifCond .eq 22, 3) := by decide +kernel
theorem dX6_findTriple_123 : decode cX6_findTriple 123 = .ok (.aload_n 0, 1) := by decide +kernel
theorem dX6_findTriple_124 : decode cX6_findTriple 124 = .ok (.iload 4, 2) := by decide +kernel
theorem dX6_findTriple_126 : decode cX6_findTriple 126 = .ok (.putfield 74, 3) := by decide +kernel
theorem dX6_findTriple_129 : decode cX6_findTriple 129 = .ok (.aload_n 0, 1) := by decide +kernel
theorem dX6_findTriple_130 : decode cX6_findTriple 130 = .ok (.iload_n 3, 1) := by decide +kernel
theorem dX6_findTriple_131 : decode cX6_findTriple 131 = .ok (.putfield 77, 3) := by decide +kernel
theorem dX6_findTriple_134 : decode cX6_findTriple 134 = .ok (.aload_n 0, 1) := by decide +kernel
theorem dX6_findTriple_135 : decode cX6_findTriple 135 = .ok (.iload 5, 2) := by decide +kernel
theorem dX6_findTriple_137 : decode cX6_findTriple 137 = .ok (.putfield 80, 3) := by decide +kernel
theorem dX6_findTriple_140 : decode cX6_findTriple 140 = .ok (.iconst 1, 1) := by decide +kernel
theorem dX6_findTriple_141 : decode cX6_findTriple 141 = .ok (.ireturn, 1) := by decide +kernel
theorem dX6_findTriple_142 : decode cX6_findTriple 142 = .ok (.iinc 5 1, 3) := by decide +kernel
theorem dX6_findTriple_145 : decode cX6_findTriple 145 = .ok (.goto (-116), 3) := by decide +kernel
theorem dX6_findTriple_148 : decode cX6_findTriple 148 = .ok (.iinc 4 1, 3) := by decide +kernel
theorem dX6_findTriple_151 : decode cX6_findTriple 151 = .ok (.goto (-136), 3) := by decide +kernel
theorem dX6_findTriple_154 : decode cX6_findTriple 154 = .ok (.iinc 3 1, 3) := by decide +kernel
theorem dX6_findTriple_157 : decode cX6_findTriple 157 = .ok (.goto (-155), 3) := by decide +kernel
theorem dX6_findTriple_160 : decode cX6_findTriple 160 = .ok (.iconst 0, 1) := by decide +kernel
theorem dX6_findTriple_161 : decode cX6_findTriple 161 = .ok (.ireturn, 1) := by decide +kernel
set_option maxRecDepth 20000 in
theorem ggX6_reasonFor_X6_wrote : GoodIn wsX6_reasonFor wsX6_wrote := goodIn_r _ [6, 7, 8, 9, 5, 10, 1, 50, 51, 52, 53, 54, 55, 56, 57, 58, 59, 60, 61, 62, 63, 64, 65] (by decide +kernel) (by decide +kernel)
set_option maxRecDepth 20000 in
theorem gX6_reasonFor_X6_wrote : GoodIn wsX6_reasonFor (wsV RX6 55 RX6 yX6_wrote wsX6_wrote) := goodIn_app (goodIn_of _ (by decide +kernel)) ggX6_reasonFor_X6_wrote
set_option maxRecDepth 20000 in
theorem ggX6_reasonFor_X6_its : GoodIn wsX6_reasonFor wsX6_its := goodIn_r _ [10, 1, 50, 51, 52, 53, 54, 55, 56, 57, 58, 59, 60, 61, 62, 63, 64, 65] (by decide +kernel) (by decide +kernel)
set_option maxRecDepth 20000 in
theorem gX6_reasonFor_X6_its : GoodIn wsX6_reasonFor (wsV RX6 40 RX6 yX6_its wsX6_its) := goodIn_app (goodIn_of _ (by decide +kernel)) ggX6_reasonFor_X6_its
set_option maxRecDepth 20000 in
theorem ggX6_reasonFor_X6_writerBehind : GoodIn wsX6_reasonFor wsX6_writerBehind := goodIn_r _ [14, 1, 15, 16, 17, 5, 18, 7, 8, 9, 10, 2, 3, 4, 6, 50, 51, 52, 53, 54, 55, 56, 57, 58, 59, 60, 61, 62, 63, 64, 65] (by decide +kernel) (by decide +kernel)
set_option maxRecDepth 20000 in
theorem gX6_reasonFor_X6_writerBehind : GoodIn wsX6_reasonFor (wsV RX6 83 RX6 yX6_writerBehind wsX6_writerBehind) := goodIn_app (goodIn_of _ (by decide +kernel)) ggX6_reasonFor_X6_writerBehind
set_option maxRecDepth 20000 in
theorem ggX6_reasonFor_X6_lay : GoodIn wsX6_reasonFor wsX6_lay := goodIn_r _ [22, 1, 50, 51, 52, 53, 54, 55, 56, 57, 58, 59, 60, 61, 62, 63, 64, 65] (by decide +kernel) (by decide +kernel)
set_option maxRecDepth 20000 in
theorem gX6_reasonFor_X6_lay : GoodIn wsX6_reasonFor (wsV RX6 86 RX6 yX6_lay wsX6_lay) := goodIn_app (goodIn_of _ (by decide +kernel)) ggX6_reasonFor_X6_lay
set_option maxRecDepth 20000 in
theorem ggX6_reasonFor_X6_findTriple : GoodIn wsX6_reasonFor wsX6_findTriple := goodIn_r _ [26, 1, 27, 28, 29, 15, 16, 17, 5, 18, 7, 8, 9, 10, 30, 31, 32, 33, 34, 35, 36, 37, 38, 39, 40, 41, 42, 43, 44, 45, 46, 47, 48, 49, 50, 51, 52, 53, 54, 55, 56, 57, 58, 59, 60, 61, 62, 63, 64, 65] (by decide +kernel) (by decide +kernel)
set_option maxRecDepth 20000 in
theorem gX6_reasonFor_X6_findTriple : GoodIn wsX6_reasonFor (wsV RX6 90 RX6 yX6_findTriple wsX6_findTriple) := goodIn_app (goodIn_of _ (by decide +kernel)) ggX6_reasonFor_X6_findTriple
theorem dX6_reasonFor_0 : decode cX6_reasonFor 0 = .ok (.iconst 0, 1) := by decide +kernel
theorem dX6_reasonFor_1 : decode cX6_reasonFor 1 = .ok (.istore_n 3, 1) := by decide +kernel
theorem dX6_reasonFor_2 : decode cX6_reasonFor 2 = .ok (.iload_n 3, 1) := by decide +kernel
theorem dX6_reasonFor_3 : decode cX6_reasonFor 3 = .ok (.bipush 16, 2) := by decide +kernel
theorem dX6_reasonFor_5 : decode cX6_reasonFor 5 = .ok (.if_icmp .ge 36, 3) := by decide +kernel
theorem dX6_reasonFor_8 : decode cX6_reasonFor 8 = .ok (.aload_n 0, 1) := by decide +kernel
theorem dX6_reasonFor_9 : decode cX6_reasonFor 9 = .ok (.iload_n 1, 1) := by decide +kernel
theorem dX6_reasonFor_10 : decode cX6_reasonFor 10 = .ok (.iload_n 3, 1) := by decide +kernel
theorem dX6_reasonFor_11 : decode cX6_reasonFor 11 = .ok (.invokevirtual 55, 3) := by decide +kernel
theorem dX6_reasonFor_14 : decode cX6_reasonFor 14 = .ok (.ifCond .eq 21, 3) := by decide +kernel
theorem dX6_reasonFor_17 : decode cX6_reasonFor 17 = .ok (.aload_n 0, 1) := by decide +kernel
theorem dX6_reasonFor_18 : decode cX6_reasonFor 18 = .ok (.iload_n 3, 1) := by decide +kernel
theorem dX6_reasonFor_19 : decode cX6_reasonFor 19 = .ok (.aload_n 0, 1) := by decide +kernel
theorem dX6_reasonFor_20 : decode cX6_reasonFor 20 = .ok (.iload_n 1, 1) := by decide +kernel
theorem dX6_reasonFor_21 : decode cX6_reasonFor 21 = .ok (.iconst 1, 1) := by decide +kernel
theorem dX6_reasonFor_22 : decode cX6_reasonFor 22 = .ok (.invokevirtual 40, 3) := by decide +kernel
theorem dX6_reasonFor_25 : decode cX6_reasonFor 25 = .ok (.invokevirtual 83, 3) := by decide +kernel
theorem dX6_reasonFor_28 : decode cX6_reasonFor 28 = .ok (.bipush (-6), 2) := by decide +kernel
theorem dX6_reasonFor_30 : decode cX6_reasonFor 30 = .ok (.if_icmp .eq 5, 3) := by decide +kernel
theorem dX6_reasonFor_33 : decode cX6_reasonFor 33 = .ok (.iconst 1, 1) := by decide +kernel
theorem dX6_reasonFor_34 : decode cX6_reasonFor 34 = .ok (.ireturn, 1) := by decide +kernel
theorem dX6_reasonFor_35 : decode cX6_reasonFor 35 = .ok (.iinc 3 1, 3) := by decide +kernel
theorem dX6_reasonFor_38 : decode cX6_reasonFor 38 = .ok (.goto (-36), 3) := by decide +kernel
theorem dX6_reasonFor_41 : decode cX6_reasonFor 41 = .ok (.aload_n 0, 1) := by decide +kernel
theorem dX6_reasonFor_42 : decode cX6_reasonFor 42 = .ok (.iload_n 1, 1) := by decide +kernel
theorem dX6_reasonFor_43 : decode cX6_reasonFor 43 = .ok (.iconst 0, 1) := by decide +kernel
theorem dX6_reasonFor_44 : decode cX6_reasonFor 44 = .ok (.iconst 1, 1) := by decide +kernel
theorem dX6_reasonFor_45 : decode cX6_reasonFor 45 = .ok (.invokevirtual 86, 3) := by decide +kernel
theorem dX6_reasonFor_48 : decode cX6_reasonFor 48 = .ok (.aload_n 0, 1) := by decide +kernel
theorem dX6_reasonFor_49 : decode cX6_reasonFor 49 = .ok (.iload_n 1, 1) := by decide +kernel
theorem dX6_reasonFor_50 : decode cX6_reasonFor 50 = .ok (.iconst 2, 1) := by decide +kernel
theorem dX6_reasonFor_51 : decode cX6_reasonFor 51 = .ok (.aload_n 0, 1) := by decide +kernel
theorem dX6_reasonFor_52 : decode cX6_reasonFor 52 = .ok (.getfield 7, 3) := by decide +kernel
theorem dX6_reasonFor_55 : decode cX6_reasonFor 55 = .ok (.iconst 1, 1) := by decide +kernel
theorem dX6_reasonFor_56 : decode cX6_reasonFor 56 = .ok (.iaload, 1) := by decide +kernel
theorem dX6_reasonFor_57 : decode cX6_reasonFor 57 = .ok (.iconst 1, 1) := by decide +kernel
theorem dX6_reasonFor_58 : decode cX6_reasonFor 58 = .ok (.iadd, 1) := by decide +kernel
theorem dX6_reasonFor_59 : decode cX6_reasonFor 59 = .ok (.invokevirtual 86, 3) := by decide +kernel
theorem dX6_reasonFor_62 : decode cX6_reasonFor 62 = .ok (.aload_n 0, 1) := by decide +kernel
theorem dX6_reasonFor_63 : decode cX6_reasonFor 63 = .ok (.iload_n 1, 1) := by decide +kernel
theorem dX6_reasonFor_64 : decode cX6_reasonFor 64 = .ok (.iload_n 2, 1) := by decide +kernel
theorem dX6_reasonFor_65 : decode cX6_reasonFor 65 = .ok (.invokevirtual 90, 3) := by decide +kernel
theorem dX6_reasonFor_68 : decode cX6_reasonFor 68 = .ok (.istore_n 3, 1) := by decide +kernel
theorem dX6_reasonFor_69 : decode cX6_reasonFor 69 = .ok (.aload_n 0, 1) := by decide +kernel
theorem dX6_reasonFor_70 : decode cX6_reasonFor 70 = .ok (.iload_n 1, 1) := by decide +kernel
theorem dX6_reasonFor_71 : decode cX6_reasonFor 71 = .ok (.iconst 0, 1) := by decide +kernel
theorem dX6_reasonFor_72 : decode cX6_reasonFor 72 = .ok (.iconst 0, 1) := by decide +kernel
theorem dX6_reasonFor_73 : decode cX6_reasonFor 73 = .ok (.invokevirtual 86, 3) := by decide +kernel
theorem dX6_reasonFor_76 : decode cX6_reasonFor 76 = .ok (.aload_n 0, 1) := by decide +kernel
theorem dX6_reasonFor_77 : decode cX6_reasonFor 77 = .ok (.iload_n 1, 1) := by decide +kernel
theorem dX6_reasonFor_78 : decode cX6_reasonFor 78 = .ok (.iconst 2, 1) := by decide +kernel
theorem dX6_reasonFor_79 : decode cX6_reasonFor 79 = .ok (.bipush (-6), 2) := by decide +kernel
theorem dX6_reasonFor_81 : decode cX6_reasonFor 81 = .ok (.invokevirtual 86, 3) := by decide +kernel
theorem dX6_reasonFor_84 : decode cX6_reasonFor 84 = .ok (.iload_n 3, 1) := by decide +kernel
theorem dX6_reasonFor_85 : decode cX6_reasonFor 85 = .ok (.ifCond .eq 7, 3) := by decide +kernel
theorem dX6_reasonFor_88 : decode cX6_reasonFor 88 = .ok (.iconst 2, 1) := by decide +kernel
theorem dX6_reasonFor_89 : decode cX6_reasonFor 89 = .ok (.goto 4, 3) := by decide +kernel
theorem dX6_reasonFor_92 : decode cX6_reasonFor 92 = .ok (.iconst 0, 1) := by decide +kernel
theorem dX6_reasonFor_93 : decode cX6_reasonFor 93 = .ok (.ireturn, 1) := by decide +kernel
set_option maxRecDepth 20000 in
theorem ggX6_rule_X6_in : GoodIn wsX6_rule wsX6_in := goodIn_r _ [5] (by decide +kernel) (by decide +kernel)
set_option maxRecDepth 20000 in
theorem gX6_rule_X6_in : GoodIn wsX6_rule (va_wsS RX6 36 yX6_in wsX6_in) := goodIn_app (goodIn_of _ (by decide +kernel)) ggX6_rule_X6_in
set_option maxRecDepth 20000 in
theorem ggX6_rule_X6_record : GoodIn wsX6_rule wsX6_record := goodIn_r _ [9, 10, 11, 1, 12, 13, 14, 15, 16, 17, 18, 19, 20, 21, 22, 23, 24, 25, 26, 27] (by decide +kernel) (by decide +kernel)
set_option maxRecDepth 20000 in
theorem gX6_rule_X6_record : GoodIn wsX6_rule (wsV RX6 48 RX6 yX6_record wsX6_record) := goodIn_app (goodIn_of _ (by decide +kernel)) ggX6_rule_X6_record
theorem dX6_rule_0 : decode cX6_rule 0 = .ok (.iload_n 1, 1) := by decide +kernel
theorem dX6_rule_1 : decode cX6_rule 1 = .ok (.iconst 0, 1) := by decide +kernel
theorem dX6_rule_2 : decode cX6_rule 2 = .ok (.iconst 3, 1) := by decide +kernel
theorem dX6_rule_3 : decode cX6_rule 3 = .ok (.invokestatic 36, 3) := by decide +kernel
theorem dX6_rule_6 : decode cX6_rule 6 = .ok (.ifCond .ne 6, 3) := by decide +kernel
theorem dX6_rule_9 : decode cX6_rule 9 = .ok (.bipush (-2), 2) := by decide +kernel
theorem dX6_rule_11 : decode cX6_rule 11 = .ok (.ireturn, 1) := by decide +kernel
theorem dX6_rule_12 : decode cX6_rule 12 = .ok (.aload_n 0, 1) := by decide +kernel
theorem dX6_rule_13 : decode cX6_rule 13 = .ok (.invokevirtual 48, 3) := by decide +kernel
theorem dX6_rule_16 : decode cX6_rule 16 = .ok (.aload_n 0, 1) := by decide +kernel
theorem dX6_rule_17 : decode cX6_rule 17 = .ok (.getfield 7, 3) := by decide +kernel
theorem dX6_rule_20 : decode cX6_rule 20 = .ok (.iconst 0, 1) := by decide +kernel
theorem dX6_rule_21 : decode cX6_rule 21 = .ok (.iaload, 1) := by decide +kernel
theorem dX6_rule_22 : decode cX6_rule 22 = .ok (.istore_n 2, 1) := by decide +kernel
theorem dX6_rule_23 : decode cX6_rule 23 = .ok (.aload_n 0, 1) := by decide +kernel
theorem dX6_rule_24 : decode cX6_rule 24 = .ok (.getfield 7, 3) := by decide +kernel
theorem dX6_rule_27 : decode cX6_rule 27 = .ok (.iconst 0, 1) := by decide +kernel
theorem dX6_rule_28 : decode cX6_rule 28 = .ok (.iload_n 1, 1) := by decide +kernel
theorem dX6_rule_29 : decode cX6_rule 29 = .ok (.iastore, 1) := by decide +kernel
theorem dX6_rule_30 : decode cX6_rule 30 = .ok (.iload_n 2, 1) := by decide +kernel
theorem dX6_rule_31 : decode cX6_rule 31 = .ok (.ireturn, 1) := by decide +kernel
set_option maxRecDepth 20000 in
theorem ggX6_setOf_X6_isIn : GoodIn wsX6_setOf wsX6_isIn := goodIn_r _ [6, 7, 8, 9, 5, 10, 1, 11, 12, 13, 14, 15, 16, 17, 18, 19, 20, 21, 22, 23, 24, 25, 26] (by decide +kernel) (by decide +kernel)
set_option maxRecDepth 20000 in
theorem gX6_setOf_X6_isIn : GoodIn wsX6_setOf (wsV RX6 51 RX6 yX6_isIn wsX6_isIn) := goodIn_app (goodIn_of _ (by decide +kernel)) ggX6_setOf_X6_isIn
theorem dX6_setOf_0 : decode cX6_setOf 0 = .ok (.iconst 0, 1) := by decide +kernel
theorem dX6_setOf_1 : decode cX6_setOf 1 = .ok (.istore_n 2, 1) := by decide +kernel
theorem dX6_setOf_2 : decode cX6_setOf 2 = .ok (.iconst 0, 1) := by decide +kernel
theorem dX6_setOf_3 : decode cX6_setOf 3 = .ok (.istore_n 3, 1) := by decide +kernel
theorem dX6_setOf_4 : decode cX6_setOf 4 = .ok (.iload_n 3, 1) := by decide +kernel
theorem dX6_setOf_5 : decode cX6_setOf 5 = .ok (.aload_n 0, 1) := by decide +kernel
theorem dX6_setOf_6 : decode cX6_setOf 6 = .ok (.getfield 7, 3) := by decide +kernel
theorem dX6_setOf_9 : decode cX6_setOf 9 = .ok (.iconst 2, 1) := by decide +kernel
theorem dX6_setOf_10 : decode cX6_setOf 10 = .ok (.iaload, 1) := by decide +kernel
theorem dX6_setOf_11 : decode cX6_setOf 11 = .ok (.if_icmp .ge 28, 3) := by decide +kernel
theorem dX6_setOf_14 : decode cX6_setOf 14 = .ok (.iload_n 2, 1) := by decide +kernel
theorem dX6_setOf_15 : decode cX6_setOf 15 = .ok (.aload_n 0, 1) := by decide +kernel
theorem dX6_setOf_16 : decode cX6_setOf 16 = .ok (.iload_n 3, 1) := by decide +kernel
theorem dX6_setOf_17 : decode cX6_setOf 17 = .ok (.iload_n 1, 1) := by decide +kernel
theorem dX6_setOf_18 : decode cX6_setOf 18 = .ok (.invokevirtual 51, 3) := by decide +kernel
theorem dX6_setOf_21 : decode cX6_setOf 21 = .ok (.ifCond .eq 9, 3) := by decide +kernel
theorem dX6_setOf_24 : decode cX6_setOf 24 = .ok (.iconst 1, 1) := by decide +kernel
theorem dX6_setOf_25 : decode cX6_setOf 25 = .ok (.iload_n 3, 1) := by decide +kernel
theorem dX6_setOf_26 : decode cX6_setOf 26 = .ok (.ishl, 1) := by decide +kernel
theorem dX6_setOf_27 : decode cX6_setOf 27 = .ok (.goto 4, 3) := by decide +kernel
theorem dX6_setOf_30 : decode cX6_setOf 30 = .ok (.iconst 0, 1) := by decide +kernel
theorem dX6_setOf_31 : decode cX6_setOf 31 = .ok (.ior, 1) := by decide +kernel
theorem dX6_setOf_32 : decode cX6_setOf 32 = .ok (.istore_n 2, 1) := by decide +kernel
theorem dX6_setOf_33 : decode cX6_setOf 33 = .ok (.iinc 3 1, 3) := by decide +kernel
theorem dX6_setOf_36 : decode cX6_setOf 36 = .ok (.goto (-32), 3) := by decide +kernel
theorem dX6_setOf_39 : decode cX6_setOf 39 = .ok (.iload_n 2, 1) := by decide +kernel
theorem dX6_setOf_40 : decode cX6_setOf 40 = .ok (.ireturn, 1) := by decide +kernel
theorem dX6_bits_0 : decode cX6_bits 0 = .ok (.iconst 0, 1) := by decide +kernel
theorem dX6_bits_1 : decode cX6_bits 1 = .ok (.istore_n 1, 1) := by decide +kernel
theorem dX6_bits_2 : decode cX6_bits 2 = .ok (.iload_n 0, 1) := by decide +kernel
theorem dX6_bits_3 : decode cX6_bits 3 = .ok (.istore_n 2, 1) := by decide +kernel
theorem dX6_bits_4 : decode cX6_bits 4 = .ok (.iload_n 2, 1) := by decide +kernel
theorem dX6_bits_5 : decode cX6_bits 5 = .ok (.ifCond .eq 15, 3) := by decide +kernel
theorem dX6_bits_8 : decode cX6_bits 8 = .ok (.iinc 1 1, 3) := by decide +kernel
theorem dX6_bits_11 : decode cX6_bits 11 = .ok (.iload_n 2, 1) := by decide +kernel
theorem dX6_bits_12 : decode cX6_bits 12 = .ok (.iload_n 2, 1) := by decide +kernel
theorem dX6_bits_13 : decode cX6_bits 13 = .ok (.iconst 1, 1) := by decide +kernel
theorem dX6_bits_14 : decode cX6_bits 14 = .ok (.isub, 1) := by decide +kernel
theorem dX6_bits_15 : decode cX6_bits 15 = .ok (.iand, 1) := by decide +kernel
theorem dX6_bits_16 : decode cX6_bits 16 = .ok (.istore_n 2, 1) := by decide +kernel
theorem dX6_bits_17 : decode cX6_bits 17 = .ok (.goto (-13), 3) := by decide +kernel
theorem dX6_bits_20 : decode cX6_bits 20 = .ok (.iload_n 1, 1) := by decide +kernel
theorem dX6_bits_21 : decode cX6_bits 21 = .ok (.ireturn, 1) := by decide +kernel
set_option maxRecDepth 20000 in
theorem ggX6_beginOne_X6_setOf : GoodIn wsX6_beginOne wsX6_setOf := goodIn_r _ [6, 1, 7, 8, 9, 5, 10, 11, 12, 13, 14, 19, 20, 21, 22, 23, 24, 25, 26, 27, 28, 29, 30, 31, 32, 33, 34] (by decide +kernel) (by decide +kernel)
set_option maxRecDepth 20000 in
theorem gX6_beginOne_X6_setOf : GoodIn wsX6_beginOne (wsV RX6 93 RX6 yX6_setOf wsX6_setOf) := goodIn_app (goodIn_of _ (by decide +kernel)) ggX6_beginOne_X6_setOf
set_option maxRecDepth 20000 in
theorem ggX6_beginOne_X6_lay : GoodIn wsX6_beginOne wsX6_lay := goodIn_r _ [18, 1, 19, 20, 21, 22, 23, 24, 25, 26, 27, 28, 29, 30, 31, 32, 33, 34] (by decide +kernel) (by decide +kernel)
set_option maxRecDepth 20000 in
theorem gX6_beginOne_X6_lay : GoodIn wsX6_beginOne (wsV RX6 86 RX6 yX6_lay wsX6_lay) := goodIn_app (goodIn_of _ (by decide +kernel)) ggX6_beginOne_X6_lay
theorem dX6_beginOne_0 : decode cX6_beginOne 0 = .ok (.aload_n 0, 1) := by decide +kernel
theorem dX6_beginOne_1 : decode cX6_beginOne 1 = .ok (.getfield 7, 3) := by decide +kernel
theorem dX6_beginOne_4 : decode cX6_beginOne 4 = .ok (.iconst 2, 1) := by decide +kernel
theorem dX6_beginOne_5 : decode cX6_beginOne 5 = .ok (.iaload, 1) := by decide +kernel
theorem dX6_beginOne_6 : decode cX6_beginOne 6 = .ok (.istore_n 1, 1) := by decide +kernel
theorem dX6_beginOne_7 : decode cX6_beginOne 7 = .ok (.aload_n 0, 1) := by decide +kernel
theorem dX6_beginOne_8 : decode cX6_beginOne 8 = .ok (.iconst 0, 1) := by decide +kernel
theorem dX6_beginOne_9 : decode cX6_beginOne 9 = .ok (.invokevirtual 93, 3) := by decide +kernel
theorem dX6_beginOne_12 : decode cX6_beginOne 12 = .ok (.istore_n 2, 1) := by decide +kernel
theorem dX6_beginOne_13 : decode cX6_beginOne 13 = .ok (.aload_n 0, 1) := by decide +kernel
theorem dX6_beginOne_14 : decode cX6_beginOne 14 = .ok (.getfield 7, 3) := by decide +kernel
theorem dX6_beginOne_17 : decode cX6_beginOne 17 = .ok (.iconst 1, 1) := by decide +kernel
theorem dX6_beginOne_18 : decode cX6_beginOne 18 = .ok (.dup2, 1) := by decide +kernel
theorem dX6_beginOne_19 : decode cX6_beginOne 19 = .ok (.iaload, 1) := by decide +kernel
theorem dX6_beginOne_20 : decode cX6_beginOne 20 = .ok (.iconst 1, 1) := by decide +kernel
theorem dX6_beginOne_21 : decode cX6_beginOne 21 = .ok (.iadd, 1) := by decide +kernel
theorem dX6_beginOne_22 : decode cX6_beginOne 22 = .ok (.iastore, 1) := by decide +kernel
theorem dX6_beginOne_23 : decode cX6_beginOne 23 = .ok (.aload_n 0, 1) := by decide +kernel
theorem dX6_beginOne_24 : decode cX6_beginOne 24 = .ok (.getfield 7, 3) := by decide +kernel
theorem dX6_beginOne_27 : decode cX6_beginOne 27 = .ok (.iconst 2, 1) := by decide +kernel
theorem dX6_beginOne_28 : decode cX6_beginOne 28 = .ok (.dup2, 1) := by decide +kernel
theorem dX6_beginOne_29 : decode cX6_beginOne 29 = .ok (.iaload, 1) := by decide +kernel
theorem dX6_beginOne_30 : decode cX6_beginOne 30 = .ok (.iconst 1, 1) := by decide +kernel
theorem dX6_beginOne_31 : decode cX6_beginOne 31 = .ok (.iadd, 1) := by decide +kernel
theorem dX6_beginOne_32 : decode cX6_beginOne 32 = .ok (.iastore, 1) := by decide +kernel
theorem dX6_beginOne_33 : decode cX6_beginOne 33 = .ok (.iconst 0, 1) := by decide +kernel
theorem dX6_beginOne_34 : decode cX6_beginOne 34 = .ok (.istore_n 3, 1) := by decide +kernel
theorem dX6_beginOne_35 : decode cX6_beginOne 35 = .ok (.iload_n 3, 1) := by decide +kernel
theorem dX6_beginOne_36 : decode cX6_beginOne 36 = .ok (.bipush 23, 2) := by decide +kernel
theorem dX6_beginOne_38 : decode cX6_beginOne 38 = .ok (.if_icmp .ge 16, 3) := by decide +kernel
theorem dX6_beginOne_41 : decode cX6_beginOne 41 = .ok (.aload_n 0, 1) := by decide +kernel
theorem dX6_beginOne_42 : decode cX6_beginOne 42 = .ok (.iload_n 1, 1) := by decide +kernel
theorem dX6_beginOne_43 : decode cX6_beginOne 43 = .ok (.iload_n 3, 1) := by decide +kernel
theorem dX6_beginOne_44 : decode cX6_beginOne 44 = .ok (.iconst 0, 1) := by decide +kernel
theorem dX6_beginOne_45 : decode cX6_beginOne 45 = .ok (.invokevirtual 86, 3) := by decide +kernel
theorem dX6_beginOne_48 : decode cX6_beginOne 48 = .ok (.iinc 3 1, 3) := by decide +kernel
theorem dX6_beginOne_51 : decode cX6_beginOne 51 = .ok (.goto (-16), 3) := by decide +kernel
theorem dX6_beginOne_54 : decode cX6_beginOne 54 = .ok (.aload_n 0, 1) := by decide +kernel
theorem dX6_beginOne_55 : decode cX6_beginOne 55 = .ok (.iload_n 1, 1) := by decide +kernel
theorem dX6_beginOne_56 : decode cX6_beginOne 56 = .ok (.iconst 1, 1) := by decide +kernel
theorem dX6_beginOne_57 : decode cX6_beginOne 57 = .ok (.aload_n 0, 1) := by decide +kernel
theorem dX6_beginOne_58 : decode cX6_beginOne 58 = .ok (.getfield 7, 3) := by decide +kernel
theorem dX6_beginOne_61 : decode cX6_beginOne 61 = .ok (.iconst 1, 1) := by decide +kernel
theorem dX6_beginOne_62 : decode cX6_beginOne 62 = .ok (.iaload, 1) := by decide +kernel
theorem dX6_beginOne_63 : decode cX6_beginOne 63 = .ok (.invokevirtual 86, 3) := by decide +kernel
theorem dX6_beginOne_66 : decode cX6_beginOne 66 = .ok (.aload_n 0, 1) := by decide +kernel
theorem dX6_beginOne_67 : decode cX6_beginOne 67 = .ok (.iload_n 1, 1) := by decide +kernel
theorem dX6_beginOne_68 : decode cX6_beginOne 68 = .ok (.iconst 2, 1) := by decide +kernel
theorem dX6_beginOne_69 : decode cX6_beginOne 69 = .ok (.bipush (-6), 2) := by decide +kernel
theorem dX6_beginOne_71 : decode cX6_beginOne 71 = .ok (.invokevirtual 86, 3) := by decide +kernel
theorem dX6_beginOne_74 : decode cX6_beginOne 74 = .ok (.aload_n 0, 1) := by decide +kernel
theorem dX6_beginOne_75 : decode cX6_beginOne 75 = .ok (.iload_n 1, 1) := by decide +kernel
theorem dX6_beginOne_76 : decode cX6_beginOne 76 = .ok (.iconst 5, 1) := by decide +kernel
theorem dX6_beginOne_77 : decode cX6_beginOne 77 = .ok (.bipush (-6), 2) := by decide +kernel
theorem dX6_beginOne_79 : decode cX6_beginOne 79 = .ok (.invokevirtual 86, 3) := by decide +kernel
theorem dX6_beginOne_82 : decode cX6_beginOne 82 = .ok (.aload_n 0, 1) := by decide +kernel
theorem dX6_beginOne_83 : decode cX6_beginOne 83 = .ok (.iload_n 1, 1) := by decide +kernel
theorem dX6_beginOne_84 : decode cX6_beginOne 84 = .ok (.bipush 6, 2) := by decide +kernel
theorem dX6_beginOne_86 : decode cX6_beginOne 86 = .ok (.iload_n 2, 1) := by decide +kernel
theorem dX6_beginOne_87 : decode cX6_beginOne 87 = .ok (.invokevirtual 86, 3) := by decide +kernel
theorem dX6_beginOne_90 : decode cX6_beginOne 90 = .ok (.iload_n 1, 1) := by decide +kernel
theorem dX6_beginOne_91 : decode cX6_beginOne 91 = .ok (.ireturn, 1) := by decide +kernel
set_option maxRecDepth 20000 in
theorem ggX6_begin_X6_record : GoodIn wsX6_begin wsX6_record := goodIn_r _ [6, 7, 8, 1, 29, 30, 31, 32, 33, 34, 35, 36, 37, 38, 39, 40, 41, 42, 43, 44] (by decide +kernel) (by decide +kernel)
set_option maxRecDepth 20000 in
theorem gX6_begin_X6_record : GoodIn wsX6_begin (wsV RX6 48 RX6 yX6_record wsX6_record) := goodIn_app (goodIn_of _ (by decide +kernel)) ggX6_begin_X6_record
set_option maxRecDepth 20000 in
theorem ggX6_begin_X6_beginOne : GoodIn wsX6_begin wsX6_beginOne := goodIn_r _ [12, 1, 13, 14, 15, 5, 16, 17, 18, 19, 20, 21, 22, 23, 24, 25, 26, 27, 28, 29, 30, 31, 32, 33, 34, 35, 36, 37, 38, 39, 40, 41, 42, 43, 44] (by decide +kernel) (by decide +kernel)
set_option maxRecDepth 20000 in
theorem gX6_begin_X6_beginOne : GoodIn wsX6_begin (wsV RX6 97 RX6 yX6_beginOne wsX6_beginOne) := goodIn_app (goodIn_of _ (by decide +kernel)) ggX6_begin_X6_beginOne
theorem dX6_begin_0 : decode cX6_begin 0 = .ok (.aload_n 0, 1) := by decide +kernel
theorem dX6_begin_1 : decode cX6_begin 1 = .ok (.getfield 7, 3) := by decide +kernel
theorem dX6_begin_4 : decode cX6_begin 4 = .ok (.iconst 2, 1) := by decide +kernel
theorem dX6_begin_5 : decode cX6_begin 5 = .ok (.iaload, 1) := by decide +kernel
theorem dX6_begin_6 : decode cX6_begin 6 = .ok (.bipush 12, 2) := by decide +kernel
theorem dX6_begin_8 : decode cX6_begin 8 = .ok (.if_icmp .ne 6, 3) := by decide +kernel
theorem dX6_begin_11 : decode cX6_begin 11 = .ok (.bipush (-4), 2) := by decide +kernel
theorem dX6_begin_13 : decode cX6_begin 13 = .ok (.ireturn, 1) := by decide +kernel
theorem dX6_begin_14 : decode cX6_begin 14 = .ok (.aload_n 0, 1) := by decide +kernel
theorem dX6_begin_15 : decode cX6_begin 15 = .ok (.invokevirtual 48, 3) := by decide +kernel
theorem dX6_begin_18 : decode cX6_begin 18 = .ok (.aload_n 0, 1) := by decide +kernel
theorem dX6_begin_19 : decode cX6_begin 19 = .ok (.invokevirtual 97, 3) := by decide +kernel
theorem dX6_begin_22 : decode cX6_begin 22 = .ok (.ireturn, 1) := by decide +kernel
set_option maxRecDepth 20000 in
theorem ggX6_whyNotRead_X6_isTransaction : GoodIn wsX6_whyNotRead wsX6_isTransaction := goodIn_r _ [5, 6, 21, 22, 23, 24, 25, 26, 27, 28, 29, 30, 31, 32, 33, 34, 35, 36] (by decide +kernel) (by decide +kernel)
set_option maxRecDepth 20000 in
theorem gX6_whyNotRead_X6_isTransaction : GoodIn wsX6_whyNotRead (wsV RX6 101 RX6 yX6_isTransaction wsX6_isTransaction) := goodIn_app (goodIn_of _ (by decide +kernel)) ggX6_whyNotRead_X6_isTransaction
set_option maxRecDepth 20000 in
theorem ggX6_whyNotRead_X6_isKey : GoodIn wsX6_whyNotRead wsX6_isKey := goodIn_r _ [9, 10, 11, 4, 12] (by decide +kernel) (by decide +kernel)
set_option maxRecDepth 20000 in
theorem gX6_whyNotRead_X6_isKey : GoodIn wsX6_whyNotRead (va_wsS RX6 105 yX6_isKey wsX6_isKey) := goodIn_app (goodIn_of _ (by decide +kernel)) ggX6_whyNotRead_X6_isKey
set_option maxRecDepth 20000 in
theorem ggX6_whyNotRead_X6_isIn : GoodIn wsX6_whyNotRead wsX6_isIn := goodIn_r _ [16, 17, 18, 19, 4, 20, 6, 21, 22, 23, 24, 25, 26, 27, 28, 29, 30, 31, 32, 33, 34, 35, 36] (by decide +kernel) (by decide +kernel)
set_option maxRecDepth 20000 in
theorem gX6_whyNotRead_X6_isIn : GoodIn wsX6_whyNotRead (wsV RX6 51 RX6 yX6_isIn wsX6_isIn) := goodIn_app (goodIn_of _ (by decide +kernel)) ggX6_whyNotRead_X6_isIn
theorem dX6_whyNotRead_0 : decode cX6_whyNotRead 0 = .ok (.aload_n 0, 1) := by decide +kernel
theorem dX6_whyNotRead_1 : decode cX6_whyNotRead 1 = .ok (.iload_n 1, 1) := by decide +kernel
theorem dX6_whyNotRead_2 : decode cX6_whyNotRead 2 = .ok (.invokevirtual 101, 3) := by decide +kernel
theorem dX6_whyNotRead_5 : decode cX6_whyNotRead 5 = .ok (.ifCond .eq 10, 3) := by decide +kernel
theorem dX6_whyNotRead_8 : decode cX6_whyNotRead 8 = .ok (.iload_n 2, 1) := by decide +kernel
theorem dX6_whyNotRead_9 : decode cX6_whyNotRead 9 = .ok (.invokestatic 105, 3) := by decide +kernel
theorem dX6_whyNotRead_12 : decode cX6_whyNotRead 12 = .ok (.ifCond .ne 7, 3) := by decide +kernel
theorem dX6_whyNotRead_15 : decode cX6_whyNotRead 15 = .ok (.iconst (-1), 1) := by decide +kernel
theorem dX6_whyNotRead_16 : decode cX6_whyNotRead 16 = .ok (.goto 18, 3) := by decide +kernel
theorem dX6_whyNotRead_19 : decode cX6_whyNotRead 19 = .ok (.aload_n 0, 1) := by decide +kernel
theorem dX6_whyNotRead_20 : decode cX6_whyNotRead 20 = .ok (.iload_n 1, 1) := by decide +kernel
theorem dX6_whyNotRead_21 : decode cX6_whyNotRead 21 = .ok (.iconst 0, 1) := by decide +kernel
theorem dX6_whyNotRead_22 : decode cX6_whyNotRead 22 = .ok (.invokevirtual 51, 3) := by decide +kernel
theorem dX6_whyNotRead_25 : decode cX6_whyNotRead 25 = .ok (.ifCond .eq 7, 3) := by decide +kernel
theorem dX6_whyNotRead_28 : decode cX6_whyNotRead 28 = .ok (.iconst 0, 1) := by decide +kernel
theorem dX6_whyNotRead_29 : decode cX6_whyNotRead 29 = .ok (.goto 5, 3) := by decide +kernel
theorem dX6_whyNotRead_32 : decode cX6_whyNotRead 32 = .ok (.bipush (-5), 2) := by decide +kernel
theorem dX6_whyNotRead_34 : decode cX6_whyNotRead 34 = .ok (.ireturn, 1) := by decide +kernel
set_option maxRecDepth 20000 in
theorem ggX6_writerSeen_X6_wrote : GoodIn wsX6_writerSeen wsX6_wrote := goodIn_r _ [5, 6, 7, 8, 4, 9, 10, 19, 20, 21, 22, 23, 24, 25, 26, 27, 28, 29, 30, 31, 32, 33, 34] (by decide +kernel) (by decide +kernel)
set_option maxRecDepth 20000 in
theorem gX6_writerSeen_X6_wrote : GoodIn wsX6_writerSeen (wsV RX6 55 RX6 yX6_wrote wsX6_wrote) := goodIn_app (goodIn_of _ (by decide +kernel)) ggX6_writerSeen_X6_wrote
set_option maxRecDepth 20000 in
theorem ggX6_writerSeen_X6_its : GoodIn wsX6_writerSeen wsX6_its := goodIn_r _ [9, 10, 19, 20, 21, 22, 23, 24, 25, 26, 27, 28, 29, 30, 31, 32, 33, 34] (by decide +kernel) (by decide +kernel)
set_option maxRecDepth 20000 in
theorem gX6_writerSeen_X6_its : GoodIn wsX6_writerSeen (wsV RX6 40 RX6 yX6_its wsX6_its) := goodIn_app (goodIn_of _ (by decide +kernel)) ggX6_writerSeen_X6_its
set_option maxRecDepth 20000 in
theorem ggX6_writerSeen_X6_writerAhead : GoodIn wsX6_writerSeen wsX6_writerAhead := goodIn_r _ [14, 10, 15, 16, 17, 4, 18, 6, 7, 8, 9, 1, 2, 3, 5, 19, 20, 21, 22, 23, 24, 25, 26, 27, 28, 29, 30, 31, 32, 33, 34] (by decide +kernel) (by decide +kernel)
set_option maxRecDepth 20000 in
theorem gX6_writerSeen_X6_writerAhead : GoodIn wsX6_writerSeen (wsV RX6 108 RX6 yX6_writerAhead wsX6_writerAhead) := goodIn_app (goodIn_of _ (by decide +kernel)) ggX6_writerSeen_X6_writerAhead
theorem dX6_writerSeen_0 : decode cX6_writerSeen 0 = .ok (.aload_n 0, 1) := by decide +kernel
theorem dX6_writerSeen_1 : decode cX6_writerSeen 1 = .ok (.iload_n 1, 1) := by decide +kernel
theorem dX6_writerSeen_2 : decode cX6_writerSeen 2 = .ok (.iload_n 2, 1) := by decide +kernel
theorem dX6_writerSeen_3 : decode cX6_writerSeen 3 = .ok (.invokevirtual 55, 3) := by decide +kernel
theorem dX6_writerSeen_6 : decode cX6_writerSeen 6 = .ok (.ifCond .eq 7, 3) := by decide +kernel
theorem dX6_writerSeen_9 : decode cX6_writerSeen 9 = .ok (.iload_n 1, 1) := by decide +kernel
theorem dX6_writerSeen_10 : decode cX6_writerSeen 10 = .ok (.goto 14, 3) := by decide +kernel
theorem dX6_writerSeen_13 : decode cX6_writerSeen 13 = .ok (.aload_n 0, 1) := by decide +kernel
theorem dX6_writerSeen_14 : decode cX6_writerSeen 14 = .ok (.iload_n 2, 1) := by decide +kernel
theorem dX6_writerSeen_15 : decode cX6_writerSeen 15 = .ok (.aload_n 0, 1) := by decide +kernel
theorem dX6_writerSeen_16 : decode cX6_writerSeen 16 = .ok (.iload_n 1, 1) := by decide +kernel
theorem dX6_writerSeen_17 : decode cX6_writerSeen 17 = .ok (.iconst 1, 1) := by decide +kernel
theorem dX6_writerSeen_18 : decode cX6_writerSeen 18 = .ok (.invokevirtual 40, 3) := by decide +kernel
theorem dX6_writerSeen_21 : decode cX6_writerSeen 21 = .ok (.invokevirtual 108, 3) := by decide +kernel
theorem dX6_writerSeen_24 : decode cX6_writerSeen 24 = .ok (.ireturn, 1) := by decide +kernel
set_option maxRecDepth 20000 in
theorem ggX6_readOne_X6_writerSeen : GoodIn wsX6_readOne wsX6_writerSeen := goodIn_r _ [5, 6, 7, 8, 4, 9, 10, 11, 12, 13, 14, 15, 16, 17, 18, 19, 20, 21, 22, 27, 28, 29, 30, 31, 32, 33, 34, 35, 36, 37, 38, 39, 40, 41, 42] (by decide +kernel) (by decide +kernel)
set_option maxRecDepth 20000 in
theorem gX6_readOne_X6_writerSeen : GoodIn wsX6_readOne (wsV RX6 111 RX6 yX6_writerSeen wsX6_writerSeen) := goodIn_app (goodIn_of _ (by decide +kernel)) ggX6_readOne_X6_writerSeen
set_option maxRecDepth 20000 in
theorem ggX6_readOne_X6_wrote : GoodIn wsX6_readOne wsX6_wrote := goodIn_r _ [9, 10, 11, 12, 4, 13, 14, 27, 28, 29, 30, 31, 32, 33, 34, 35, 36, 37, 38, 39, 40, 41, 42] (by decide +kernel) (by decide +kernel)
set_option maxRecDepth 20000 in
theorem gX6_readOne_X6_wrote : GoodIn wsX6_readOne (wsV RX6 55 RX6 yX6_wrote wsX6_wrote) := goodIn_app (goodIn_of _ (by decide +kernel)) ggX6_readOne_X6_wrote
set_option maxRecDepth 20000 in
theorem ggX6_readOne_X6_its : GoodIn wsX6_readOne wsX6_its := goodIn_r _ [13, 14, 27, 28, 29, 30, 31, 32, 33, 34, 35, 36, 37, 38, 39, 40, 41, 42] (by decide +kernel) (by decide +kernel)
set_option maxRecDepth 20000 in
theorem gX6_readOne_X6_its : GoodIn wsX6_readOne (wsV RX6 40 RX6 yX6_its wsX6_its) := goodIn_app (goodIn_of _ (by decide +kernel)) ggX6_readOne_X6_its
set_option maxRecDepth 20000 in
theorem ggX6_readOne_X6_lay : GoodIn wsX6_readOne wsX6_lay := goodIn_r _ [26, 14, 27, 28, 29, 30, 31, 32, 33, 34, 35, 36, 37, 38, 39, 40, 41, 42] (by decide +kernel) (by decide +kernel)
set_option maxRecDepth 20000 in
theorem gX6_readOne_X6_lay : GoodIn wsX6_readOne (wsV RX6 86 RX6 yX6_lay wsX6_lay) := goodIn_app (goodIn_of _ (by decide +kernel)) ggX6_readOne_X6_lay
theorem dX6_readOne_0 : decode cX6_readOne 0 = .ok (.aload_n 0, 1) := by decide +kernel
theorem dX6_readOne_1 : decode cX6_readOne 1 = .ok (.iload_n 1, 1) := by decide +kernel
theorem dX6_readOne_2 : decode cX6_readOne 2 = .ok (.iload_n 2, 1) := by decide +kernel
theorem dX6_readOne_3 : decode cX6_readOne 3 = .ok (.invokevirtual 111, 3) := by decide +kernel
theorem dX6_readOne_6 : decode cX6_readOne 6 = .ok (.istore_n 3, 1) := by decide +kernel
theorem dX6_readOne_7 : decode cX6_readOne 7 = .ok (.aload_n 0, 1) := by decide +kernel
theorem dX6_readOne_8 : decode cX6_readOne 8 = .ok (.iload_n 1, 1) := by decide +kernel
theorem dX6_readOne_9 : decode cX6_readOne 9 = .ok (.iload_n 2, 1) := by decide +kernel
theorem dX6_readOne_10 : decode cX6_readOne 10 = .ok (.invokevirtual 55, 3) := by decide +kernel
theorem dX6_readOne_13 : decode cX6_readOne 13 = .ok (.ifCond .ne 19, 3) := by decide +kernel
theorem dX6_readOne_16 : decode cX6_readOne 16 = .ok (.aload_n 0, 1) := by decide +kernel
theorem dX6_readOne_17 : decode cX6_readOne 17 = .ok (.iload_n 1, 1) := by decide +kernel
theorem dX6_readOne_18 : decode cX6_readOne 18 = .ok (.iconst 3, 1) := by decide +kernel
theorem dX6_readOne_19 : decode cX6_readOne 19 = .ok (.aload_n 0, 1) := by decide +kernel
theorem dX6_readOne_20 : decode cX6_readOne 20 = .ok (.iload_n 1, 1) := by decide +kernel
theorem dX6_readOne_21 : decode cX6_readOne 21 = .ok (.iconst 3, 1) := by decide +kernel
theorem dX6_readOne_22 : decode cX6_readOne 22 = .ok (.invokevirtual 40, 3) := by decide +kernel
theorem dX6_readOne_25 : decode cX6_readOne 25 = .ok (.iconst 1, 1) := by decide +kernel
theorem dX6_readOne_26 : decode cX6_readOne 26 = .ok (.iload_n 2, 1) := by decide +kernel
theorem dX6_readOne_27 : decode cX6_readOne 27 = .ok (.ishl, 1) := by decide +kernel
theorem dX6_readOne_28 : decode cX6_readOne 28 = .ok (.ior, 1) := by decide +kernel
theorem dX6_readOne_29 : decode cX6_readOne 29 = .ok (.invokevirtual 86, 3) := by decide +kernel
theorem dX6_readOne_32 : decode cX6_readOne 32 = .ok (.iload_n 3, 1) := by decide +kernel
theorem dX6_readOne_33 : decode cX6_readOne 33 = .ok (.bipush (-6), 2) := by decide +kernel
theorem dX6_readOne_35 : decode cX6_readOne 35 = .ok (.if_icmp .ne 7, 3) := by decide +kernel
theorem dX6_readOne_38 : decode cX6_readOne 38 = .ok (.iconst 0, 1) := by decide +kernel
theorem dX6_readOne_39 : decode cX6_readOne 39 = .ok (.goto 12, 3) := by decide +kernel
theorem dX6_readOne_42 : decode cX6_readOne 42 = .ok (.aload_n 0, 1) := by decide +kernel
theorem dX6_readOne_43 : decode cX6_readOne 43 = .ok (.iload_n 3, 1) := by decide +kernel
theorem dX6_readOne_44 : decode cX6_readOne 44 = .ok (.bipush 7, 2) := by decide +kernel
theorem dX6_readOne_46 : decode cX6_readOne 46 = .ok (.iload_n 2, 1) := by decide +kernel
theorem dX6_readOne_47 : decode cX6_readOne 47 = .ok (.iadd, 1) := by decide +kernel
theorem dX6_readOne_48 : decode cX6_readOne 48 = .ok (.invokevirtual 40, 3) := by decide +kernel
theorem dX6_readOne_51 : decode cX6_readOne 51 = .ok (.ireturn, 1) := by decide +kernel
set_option maxRecDepth 20000 in
theorem ggX6_read_X6_whyNotRead : GoodIn wsX6_read wsX6_whyNotRead := goodIn_r _ [5, 6, 7, 8, 4, 9, 10, 11, 12, 13, 14, 15, 16, 17, 18, 19, 20, 21, 22, 23, 24, 51, 52, 53, 54, 55, 56, 57, 58, 59, 60, 61, 62, 63, 64, 65, 66] (by decide +kernel) (by decide +kernel)
set_option maxRecDepth 20000 in
theorem gX6_read_X6_whyNotRead : GoodIn wsX6_read (wsV RX6 114 RX6 yX6_whyNotRead wsX6_whyNotRead) := goodIn_app (goodIn_of _ (by decide +kernel)) ggX6_read_X6_whyNotRead
set_option maxRecDepth 20000 in
theorem ggX6_read_X6_record : GoodIn wsX6_read wsX6_record := goodIn_r _ [28, 29, 30, 10, 51, 52, 53, 54, 55, 56, 57, 58, 59, 60, 61, 62, 63, 64, 65, 66] (by decide +kernel) (by decide +kernel)
set_option maxRecDepth 20000 in
theorem gX6_read_X6_record : GoodIn wsX6_read (wsV RX6 48 RX6 yX6_record wsX6_record) := goodIn_app (goodIn_of _ (by decide +kernel)) ggX6_read_X6_record
set_option maxRecDepth 20000 in
theorem ggX6_read_X6_readOne : GoodIn wsX6_read wsX6_readOne := goodIn_r _ [34, 35, 36, 37, 4, 38, 39, 40, 41, 42, 21, 22, 23, 24, 10, 43, 44, 45, 46, 17, 18, 19, 20, 47, 48, 49, 50, 51, 52, 53, 54, 55, 56, 57, 58, 59, 60, 61, 62, 63, 64, 65, 66] (by decide +kernel) (by decide +kernel)
set_option maxRecDepth 20000 in
theorem gX6_read_X6_readOne : GoodIn wsX6_read (wsV RX6 117 RX6 yX6_readOne wsX6_readOne) := goodIn_app (goodIn_of _ (by decide +kernel)) ggX6_read_X6_readOne
theorem dX6_read_0 : decode cX6_read 0 = .ok (.aload_n 0, 1) := by decide +kernel
theorem dX6_read_1 : decode cX6_read 1 = .ok (.iload_n 1, 1) := by decide +kernel
theorem dX6_read_2 : decode cX6_read 2 = .ok (.iload_n 2, 1) := by decide +kernel
theorem dX6_read_3 : decode cX6_read 3 = .ok (.invokevirtual 114, 3) := by decide +kernel
theorem dX6_read_6 : decode cX6_read 6 = .ok (.istore_n 3, 1) := by decide +kernel
theorem dX6_read_7 : decode cX6_read 7 = .ok (.iload_n 3, 1) := by decide +kernel
theorem dX6_read_8 : decode cX6_read 8 = .ok (.ifCond .ge 5, 3) := by decide +kernel
theorem dX6_read_11 : decode cX6_read 11 = .ok (.iload_n 3, 1) := by decide +kernel
theorem dX6_read_12 : decode cX6_read 12 = .ok (.ireturn, 1) := by decide +kernel
theorem dX6_read_13 : decode cX6_read 13 = .ok (.aload_n 0, 1) := by decide +kernel
theorem dX6_read_14 : decode cX6_read 14 = .ok (.invokevirtual 48, 3) := by decide +kernel
theorem dX6_read_17 : decode cX6_read 17 = .ok (.aload_n 0, 1) := by decide +kernel
theorem dX6_read_18 : decode cX6_read 18 = .ok (.iload_n 1, 1) := by decide +kernel
theorem dX6_read_19 : decode cX6_read 19 = .ok (.iload_n 2, 1) := by decide +kernel
theorem dX6_read_20 : decode cX6_read 20 = .ok (.invokevirtual 117, 3) := by decide +kernel
theorem dX6_read_23 : decode cX6_read 23 = .ok (.ireturn, 1) := by decide +kernel
set_option maxRecDepth 20000 in
theorem ggX6_whyNotWrite_X6_isTransaction : GoodIn wsX6_whyNotWrite wsX6_isTransaction := goodIn_r _ [5, 6, 21, 22, 23, 24, 25, 26, 27, 28, 29, 30, 31, 32, 33, 34, 35, 36] (by decide +kernel) (by decide +kernel)
set_option maxRecDepth 20000 in
theorem gX6_whyNotWrite_X6_isTransaction : GoodIn wsX6_whyNotWrite (wsV RX6 101 RX6 yX6_isTransaction wsX6_isTransaction) := goodIn_app (goodIn_of _ (by decide +kernel)) ggX6_whyNotWrite_X6_isTransaction
set_option maxRecDepth 20000 in
theorem ggX6_whyNotWrite_X6_isKey : GoodIn wsX6_whyNotWrite wsX6_isKey := goodIn_r _ [9, 10, 11, 4, 12] (by decide +kernel) (by decide +kernel)
set_option maxRecDepth 20000 in
theorem gX6_whyNotWrite_X6_isKey : GoodIn wsX6_whyNotWrite (va_wsS RX6 105 yX6_isKey wsX6_isKey) := goodIn_app (goodIn_of _ (by decide +kernel)) ggX6_whyNotWrite_X6_isKey
set_option maxRecDepth 20000 in
theorem ggX6_whyNotWrite_X6_in : GoodIn wsX6_whyNotWrite wsX6_in := goodIn_r _ [12] (by decide +kernel) (by decide +kernel)
set_option maxRecDepth 20000 in
theorem gX6_whyNotWrite_X6_in : GoodIn wsX6_whyNotWrite (va_wsS RX6 36 yX6_in wsX6_in) := goodIn_app (goodIn_of _ (by decide +kernel)) ggX6_whyNotWrite_X6_in
set_option maxRecDepth 20000 in
theorem ggX6_whyNotWrite_X6_isIn : GoodIn wsX6_whyNotWrite wsX6_isIn := goodIn_r _ [16, 17, 18, 19, 4, 20, 6, 21, 22, 23, 24, 25, 26, 27, 28, 29, 30, 31, 32, 33, 34, 35, 36] (by decide +kernel) (by decide +kernel)
set_option maxRecDepth 20000 in
theorem gX6_whyNotWrite_X6_isIn : GoodIn wsX6_whyNotWrite (wsV RX6 51 RX6 yX6_isIn wsX6_isIn) := goodIn_app (goodIn_of _ (by decide +kernel)) ggX6_whyNotWrite_X6_isIn
theorem dX6_whyNotWrite_0 : decode cX6_whyNotWrite 0 = .ok (.aload_n 0, 1) := by decide +kernel
theorem dX6_whyNotWrite_1 : decode cX6_whyNotWrite 1 = .ok (.iload_n 1, 1) := by decide +kernel
theorem dX6_whyNotWrite_2 : decode cX6_whyNotWrite 2 = .ok (.invokevirtual 101, 3) := by decide +kernel
theorem dX6_whyNotWrite_5 : decode cX6_whyNotWrite 5 = .ok (.ifCond .eq 10, 3) := by decide +kernel
theorem dX6_whyNotWrite_8 : decode cX6_whyNotWrite 8 = .ok (.iload_n 2, 1) := by decide +kernel
theorem dX6_whyNotWrite_9 : decode cX6_whyNotWrite 9 = .ok (.invokestatic 105, 3) := by decide +kernel
theorem dX6_whyNotWrite_12 : decode cX6_whyNotWrite 12 = .ok (.ifCond .ne 5, 3) := by decide +kernel
theorem dX6_whyNotWrite_15 : decode cX6_whyNotWrite 15 = .ok (.iconst (-1), 1) := by decide +kernel
theorem dX6_whyNotWrite_16 : decode cX6_whyNotWrite 16 = .ok (.ireturn, 1) := by decide +kernel
theorem dX6_whyNotWrite_17 : decode cX6_whyNotWrite 17 = .ok (.iload_n 3, 1) := by decide +kernel
theorem dX6_whyNotWrite_18 : decode cX6_whyNotWrite 18 = .ok (.iconst 0, 1) := by decide +kernel
theorem dX6_whyNotWrite_19 : decode cX6_whyNotWrite 19 = .ok (.sipush 999, 3) := by decide +kernel
theorem dX6_whyNotWrite_22 : decode cX6_whyNotWrite 22 = .ok (.invokestatic 36, 3) := by decide +kernel
theorem dX6_whyNotWrite_25 : decode cX6_whyNotWrite 25 = .ok (.ifCond .ne 8, 3) := by decide +kernel
theorem dX6_whyNotWrite_28 : decode cX6_whyNotWrite 28 = .ok (.bipush (-2), 2) := by decide +kernel
theorem dX6_whyNotWrite_30 : decode cX6_whyNotWrite 30 = .ok (.goto 18, 3) := by decide +kernel
theorem dX6_whyNotWrite_33 : decode cX6_whyNotWrite 33 = .ok (.aload_n 0, 1) := by decide +kernel
theorem dX6_whyNotWrite_34 : decode cX6_whyNotWrite 34 = .ok (.iload_n 1, 1) := by decide +kernel
theorem dX6_whyNotWrite_35 : decode cX6_whyNotWrite 35 = .ok (.iconst 0, 1) := by decide +kernel
theorem dX6_whyNotWrite_36 : decode cX6_whyNotWrite 36 = .ok (.invokevirtual 51, 3) := by decide +kernel
theorem dX6_whyNotWrite_39 : decode cX6_whyNotWrite 39 = .ok (.ifCond .eq 7, 3) := by decide +kernel
theorem dX6_whyNotWrite_42 : decode cX6_whyNotWrite 42 = .ok (.iconst 0, 1) := by decide +kernel
theorem dX6_whyNotWrite_43 : decode cX6_whyNotWrite 43 = .ok (.goto 5, 3) := by decide +kernel
theorem dX6_whyNotWrite_46 : decode cX6_whyNotWrite 46 = .ok (.bipush (-5), 2) := by decide +kernel
theorem dX6_whyNotWrite_48 : decode cX6_whyNotWrite 48 = .ok (.ireturn, 1) := by decide +kernel
set_option maxRecDepth 20000 in
theorem ggX6_writeOne_X6_its : GoodIn wsX6_writeOne wsX6_its := goodIn_r _ [5, 6, 11, 12, 13, 14, 15, 16, 17, 18, 19, 20, 21, 22, 23, 24, 25, 26] (by decide +kernel) (by decide +kernel)
set_option maxRecDepth 20000 in
theorem gX6_writeOne_X6_its : GoodIn wsX6_writeOne (wsV RX6 40 RX6 yX6_its wsX6_its) := goodIn_app (goodIn_of _ (by decide +kernel)) ggX6_writeOne_X6_its
set_option maxRecDepth 20000 in
theorem ggX6_writeOne_X6_lay : GoodIn wsX6_writeOne wsX6_lay := goodIn_r _ [10, 6, 11, 12, 13, 14, 15, 16, 17, 18, 19, 20, 21, 22, 23, 24, 25, 26] (by decide +kernel) (by decide +kernel)
set_option maxRecDepth 20000 in
theorem gX6_writeOne_X6_lay : GoodIn wsX6_writeOne (wsV RX6 86 RX6 yX6_lay wsX6_lay) := goodIn_app (goodIn_of _ (by decide +kernel)) ggX6_writeOne_X6_lay
theorem dX6_writeOne_0 : decode cX6_writeOne 0 = .ok (.aload_n 0, 1) := by decide +kernel
theorem dX6_writeOne_1 : decode cX6_writeOne 1 = .ok (.iload_n 1, 1) := by decide +kernel
theorem dX6_writeOne_2 : decode cX6_writeOne 2 = .ok (.iconst 4, 1) := by decide +kernel
theorem dX6_writeOne_3 : decode cX6_writeOne 3 = .ok (.aload_n 0, 1) := by decide +kernel
theorem dX6_writeOne_4 : decode cX6_writeOne 4 = .ok (.iload_n 1, 1) := by decide +kernel
theorem dX6_writeOne_5 : decode cX6_writeOne 5 = .ok (.iconst 4, 1) := by decide +kernel
theorem dX6_writeOne_6 : decode cX6_writeOne 6 = .ok (.invokevirtual 40, 3) := by decide +kernel
theorem dX6_writeOne_9 : decode cX6_writeOne 9 = .ok (.iconst 1, 1) := by decide +kernel
theorem dX6_writeOne_10 : decode cX6_writeOne 10 = .ok (.iload_n 2, 1) := by decide +kernel
theorem dX6_writeOne_11 : decode cX6_writeOne 11 = .ok (.ishl, 1) := by decide +kernel
theorem dX6_writeOne_12 : decode cX6_writeOne 12 = .ok (.ior, 1) := by decide +kernel
theorem dX6_writeOne_13 : decode cX6_writeOne 13 = .ok (.invokevirtual 86, 3) := by decide +kernel
theorem dX6_writeOne_16 : decode cX6_writeOne 16 = .ok (.aload_n 0, 1) := by decide +kernel
theorem dX6_writeOne_17 : decode cX6_writeOne 17 = .ok (.iload_n 1, 1) := by decide +kernel
theorem dX6_writeOne_18 : decode cX6_writeOne 18 = .ok (.bipush 7, 2) := by decide +kernel
theorem dX6_writeOne_20 : decode cX6_writeOne 20 = .ok (.iload_n 2, 1) := by decide +kernel
theorem dX6_writeOne_21 : decode cX6_writeOne 21 = .ok (.iadd, 1) := by decide +kernel
theorem dX6_writeOne_22 : decode cX6_writeOne 22 = .ok (.iload_n 3, 1) := by decide +kernel
theorem dX6_writeOne_23 : decode cX6_writeOne 23 = .ok (.invokevirtual 86, 3) := by decide +kernel
theorem dX6_writeOne_26 : decode cX6_writeOne 26 = .ok (.aload_n 0, 1) := by decide +kernel
theorem dX6_writeOne_27 : decode cX6_writeOne 27 = .ok (.iload_n 1, 1) := by decide +kernel
theorem dX6_writeOne_28 : decode cX6_writeOne 28 = .ok (.iconst 4, 1) := by decide +kernel
theorem dX6_writeOne_29 : decode cX6_writeOne 29 = .ok (.invokevirtual 40, 3) := by decide +kernel
theorem dX6_writeOne_32 : decode cX6_writeOne 32 = .ok (.ireturn, 1) := by decide +kernel
set_option maxRecDepth 20000 in
theorem ggX6_write_X6_whyNotWrite : GoodIn wsX6_write wsX6_whyNotWrite := goodIn_r _ [5, 6, 7, 8, 4, 9, 10, 11, 12, 13, 14, 15, 16, 17, 18, 19, 20, 21, 22, 23, 24, 39, 40, 41, 42, 43, 44, 45, 46, 47, 48, 49, 50, 51, 52, 53, 54] (by decide +kernel) (by decide +kernel)
set_option maxRecDepth 20000 in
theorem gX6_write_X6_whyNotWrite : GoodIn wsX6_write (wsV RX6 120 RX6 yX6_whyNotWrite wsX6_whyNotWrite) := goodIn_app (goodIn_of _ (by decide +kernel)) ggX6_write_X6_whyNotWrite
set_option maxRecDepth 20000 in
theorem ggX6_write_X6_record : GoodIn wsX6_write wsX6_record := goodIn_r _ [28, 29, 30, 10, 39, 40, 41, 42, 43, 44, 45, 46, 47, 48, 49, 50, 51, 52, 53, 54] (by decide +kernel) (by decide +kernel)
set_option maxRecDepth 20000 in
theorem gX6_write_X6_record : GoodIn wsX6_write (wsV RX6 48 RX6 yX6_record wsX6_record) := goodIn_app (goodIn_of _ (by decide +kernel)) ggX6_write_X6_record
set_option maxRecDepth 20000 in
theorem ggX6_write_X6_writeOne : GoodIn wsX6_write wsX6_writeOne := goodIn_r _ [34, 21, 22, 23, 4, 24, 10, 35, 36, 37, 38, 39, 40, 41, 42, 43, 44, 45, 46, 47, 48, 49, 50, 51, 52, 53, 54] (by decide +kernel) (by decide +kernel)
set_option maxRecDepth 20000 in
theorem gX6_write_X6_writeOne : GoodIn wsX6_write (wsV RX6 124 RX6 yX6_writeOne wsX6_writeOne) := goodIn_app (goodIn_of _ (by decide +kernel)) ggX6_write_X6_writeOne
theorem dX6_write_0 : decode cX6_write 0 = .ok (.aload_n 0, 1) := by decide +kernel
theorem dX6_write_1 : decode cX6_write 1 = .ok (.iload_n 1, 1) := by decide +kernel
theorem dX6_write_2 : decode cX6_write 2 = .ok (.iload_n 2, 1) := by decide +kernel
theorem dX6_write_3 : decode cX6_write 3 = .ok (.iload_n 3, 1) := by decide +kernel
theorem dX6_write_4 : decode cX6_write 4 = .ok (.invokevirtual 120, 3) := by decide +kernel
theorem dX6_write_7 : decode cX6_write 7 = .ok (.istore 4, 2) := by decide +kernel
theorem dX6_write_9 : decode cX6_write 9 = .ok (.iload 4, 2) := by decide +kernel
theorem dX6_write_11 : decode cX6_write 11 = .ok (.ifCond .ge 6, 3) := by decide +kernel
theorem dX6_write_14 : decode cX6_write 14 = .ok (.iload 4, 2) := by decide +kernel
theorem dX6_write_16 : decode cX6_write 16 = .ok (.ireturn, 1) := by decide +kernel
theorem dX6_write_17 : decode cX6_write 17 = .ok (.aload_n 0, 1) := by decide +kernel
theorem dX6_write_18 : decode cX6_write 18 = .ok (.invokevirtual 48, 3) := by decide +kernel
theorem dX6_write_21 : decode cX6_write 21 = .ok (.aload_n 0, 1) := by decide +kernel
theorem dX6_write_22 : decode cX6_write 22 = .ok (.iload_n 1, 1) := by decide +kernel
theorem dX6_write_23 : decode cX6_write 23 = .ok (.iload_n 2, 1) := by decide +kernel
theorem dX6_write_24 : decode cX6_write 24 = .ok (.iload_n 3, 1) := by decide +kernel
theorem dX6_write_25 : decode cX6_write 25 = .ok (.invokevirtual 124, 3) := by decide +kernel
theorem dX6_write_28 : decode cX6_write 28 = .ok (.ireturn, 1) := by decide +kernel
set_option maxRecDepth 20000 in
theorem ggX6_whyNotEnd_X6_isTransaction : GoodIn wsX6_whyNotEnd wsX6_isTransaction := goodIn_r _ [5, 6, 15, 16, 17, 18, 19, 20, 21, 22, 23, 24, 25, 26, 27, 28, 29, 30] (by decide +kernel) (by decide +kernel)
set_option maxRecDepth 20000 in
theorem gX6_whyNotEnd_X6_isTransaction : GoodIn wsX6_whyNotEnd (wsV RX6 101 RX6 yX6_isTransaction wsX6_isTransaction) := goodIn_app (goodIn_of _ (by decide +kernel)) ggX6_whyNotEnd_X6_isTransaction
set_option maxRecDepth 20000 in
theorem ggX6_whyNotEnd_X6_isIn : GoodIn wsX6_whyNotEnd wsX6_isIn := goodIn_r _ [10, 11, 12, 13, 4, 14, 6, 15, 16, 17, 18, 19, 20, 21, 22, 23, 24, 25, 26, 27, 28, 29, 30] (by decide +kernel) (by decide +kernel)
set_option maxRecDepth 20000 in
theorem gX6_whyNotEnd_X6_isIn : GoodIn wsX6_whyNotEnd (wsV RX6 51 RX6 yX6_isIn wsX6_isIn) := goodIn_app (goodIn_of _ (by decide +kernel)) ggX6_whyNotEnd_X6_isIn
theorem dX6_whyNotEnd_0 : decode cX6_whyNotEnd 0 = .ok (.aload_n 0, 1) := by decide +kernel
theorem dX6_whyNotEnd_1 : decode cX6_whyNotEnd 1 = .ok (.iload_n 1, 1) := by decide +kernel
theorem dX6_whyNotEnd_2 : decode cX6_whyNotEnd 2 = .ok (.invokevirtual 101, 3) := by decide +kernel
theorem dX6_whyNotEnd_5 : decode cX6_whyNotEnd 5 = .ok (.ifCond .ne 7, 3) := by decide +kernel
theorem dX6_whyNotEnd_8 : decode cX6_whyNotEnd 8 = .ok (.iconst (-1), 1) := by decide +kernel
theorem dX6_whyNotEnd_9 : decode cX6_whyNotEnd 9 = .ok (.goto 18, 3) := by decide +kernel
theorem dX6_whyNotEnd_12 : decode cX6_whyNotEnd 12 = .ok (.aload_n 0, 1) := by decide +kernel
theorem dX6_whyNotEnd_13 : decode cX6_whyNotEnd 13 = .ok (.iload_n 1, 1) := by decide +kernel
theorem dX6_whyNotEnd_14 : decode cX6_whyNotEnd 14 = .ok (.iconst 0, 1) := by decide +kernel
theorem dX6_whyNotEnd_15 : decode cX6_whyNotEnd 15 = .ok (.invokevirtual 51, 3) := by decide +kernel
theorem dX6_whyNotEnd_18 : decode cX6_whyNotEnd 18 = .ok (.ifCond .eq 7, 3) := by decide +kernel
theorem dX6_whyNotEnd_21 : decode cX6_whyNotEnd 21 = .ok (.iconst 0, 1) := by decide +kernel
theorem dX6_whyNotEnd_22 : decode cX6_whyNotEnd 22 = .ok (.goto 5, 3) := by decide +kernel
theorem dX6_whyNotEnd_25 : decode cX6_whyNotEnd 25 = .ok (.bipush (-5), 2) := by decide +kernel
theorem dX6_whyNotEnd_27 : decode cX6_whyNotEnd 27 = .ok (.ireturn, 1) := by decide +kernel
set_option maxRecDepth 20000 in
theorem ggX6_abortOne_X6_lay : GoodIn wsX6_abortOne wsX6_lay := goodIn_r _ [5, 6, 7, 8, 9, 10, 11, 12, 13, 14, 15, 16, 17, 18, 19, 20, 21, 22] (by decide +kernel) (by decide +kernel)
set_option maxRecDepth 20000 in
theorem gX6_abortOne_X6_lay : GoodIn wsX6_abortOne (wsV RX6 86 RX6 yX6_lay wsX6_lay) := goodIn_app (goodIn_of _ (by decide +kernel)) ggX6_abortOne_X6_lay
theorem dX6_abortOne_0 : decode cX6_abortOne 0 = .ok (.aload_n 0, 1) := by decide +kernel
theorem dX6_abortOne_1 : decode cX6_abortOne 1 = .ok (.iload_n 1, 1) := by decide +kernel
theorem dX6_abortOne_2 : decode cX6_abortOne 2 = .ok (.iconst 0, 1) := by decide +kernel
theorem dX6_abortOne_3 : decode cX6_abortOne 3 = .ok (.iconst 2, 1) := by decide +kernel
theorem dX6_abortOne_4 : decode cX6_abortOne 4 = .ok (.invokevirtual 86, 3) := by decide +kernel
theorem dX6_abortOne_7 : decode cX6_abortOne 7 = .ok (.aload_n 0, 1) := by decide +kernel
theorem dX6_abortOne_8 : decode cX6_abortOne 8 = .ok (.iload_n 1, 1) := by decide +kernel
theorem dX6_abortOne_9 : decode cX6_abortOne 9 = .ok (.iconst 5, 1) := by decide +kernel
theorem dX6_abortOne_10 : decode cX6_abortOne 10 = .ok (.iload_n 2, 1) := by decide +kernel
theorem dX6_abortOne_11 : decode cX6_abortOne 11 = .ok (.invokevirtual 86, 3) := by decide +kernel
theorem dX6_abortOne_14 : decode cX6_abortOne 14 = .ok (.return_, 1) := by decide +kernel
set_option maxRecDepth 20000 in
theorem ggX6_commitOne_X6_reasonFor : GoodIn wsX6_commitOne wsX6_reasonFor := goodIn_r _ [6, 1, 7, 8, 9, 5, 10, 11, 12, 13, 14, 15, 16, 17, 18, 19, 20, 21, 22, 23, 24, 25, 26, 27, 28, 29, 30, 31, 32, 33, 34, 35, 36, 37, 38, 39, 40, 41, 42, 43, 44, 45, 46, 47, 48, 49, 50, 51, 52, 53, 58, 59, 60, 61, 62, 63, 64, 65, 66, 67, 68, 69, 70, 71, 72, 73] (by decide +kernel) (by decide +kernel)
set_option maxRecDepth 20000 in
theorem gX6_commitOne_X6_reasonFor : GoodIn wsX6_commitOne (wsV RX6 127 RX6 yX6_reasonFor wsX6_reasonFor) := goodIn_app (goodIn_of _ (by decide +kernel)) ggX6_commitOne_X6_reasonFor
set_option maxRecDepth 20000 in
theorem ggX6_commitOne_X6_abortOne : GoodIn wsX6_commitOne wsX6_abortOne := goodIn_r _ [57, 23, 24, 25, 5, 26, 1, 58, 59, 60, 61, 62, 63, 64, 65, 66, 67, 68, 69, 70, 71, 72, 73] (by decide +kernel) (by decide +kernel)
set_option maxRecDepth 20000 in
theorem gX6_commitOne_X6_abortOne : GoodIn wsX6_commitOne (wsV RX6 130 RX6 yX6_abortOne wsX6_abortOne) := goodIn_app (goodIn_of _ (by decide +kernel)) ggX6_commitOne_X6_abortOne
set_option maxRecDepth 20000 in
theorem ggX6_commitOne_X6_lay : GoodIn wsX6_commitOne wsX6_lay := goodIn_r _ [26, 1, 58, 59, 60, 61, 62, 63, 64, 65, 66, 67, 68, 69, 70, 71, 72, 73] (by decide +kernel) (by decide +kernel)
set_option maxRecDepth 20000 in
theorem gX6_commitOne_X6_lay : GoodIn wsX6_commitOne (wsV RX6 86 RX6 yX6_lay wsX6_lay) := goodIn_app (goodIn_of _ (by decide +kernel)) ggX6_commitOne_X6_lay
theorem dX6_commitOne_0 : decode cX6_commitOne 0 = .ok (.aload_n 0, 1) := by decide +kernel
theorem dX6_commitOne_1 : decode cX6_commitOne 1 = .ok (.iload_n 1, 1) := by decide +kernel
theorem dX6_commitOne_2 : decode cX6_commitOne 2 = .ok (.aload_n 0, 1) := by decide +kernel
theorem dX6_commitOne_3 : decode cX6_commitOne 3 = .ok (.getfield 7, 3) := by decide +kernel
theorem dX6_commitOne_6 : decode cX6_commitOne 6 = .ok (.iconst 0, 1) := by decide +kernel
theorem dX6_commitOne_7 : decode cX6_commitOne 7 = .ok (.iaload, 1) := by decide +kernel
theorem dX6_commitOne_8 : decode cX6_commitOne 8 = .ok (.invokevirtual 127, 3) := by decide +kernel
theorem dX6_commitOne_11 : decode cX6_commitOne 11 = .ok (.istore_n 2, 1) := by decide +kernel
theorem dX6_commitOne_12 : decode cX6_commitOne 12 = .ok (.iload_n 2, 1) := by decide +kernel
theorem dX6_commitOne_13 : decode cX6_commitOne 13 = .ok (.ifCond .le 12, 3) := by decide +kernel
theorem dX6_commitOne_16 : decode cX6_commitOne 16 = .ok (.aload_n 0, 1) := by decide +kernel
theorem dX6_commitOne_17 : decode cX6_commitOne 17 = .ok (.iload_n 1, 1) := by decide +kernel
theorem dX6_commitOne_18 : decode cX6_commitOne 18 = .ok (.iload_n 2, 1) := by decide +kernel
theorem dX6_commitOne_19 : decode cX6_commitOne 19 = .ok (.invokevirtual 130, 3) := by decide +kernel
theorem dX6_commitOne_22 : decode cX6_commitOne 22 = .ok (.goto 32, 3) := by decide +kernel
theorem dX6_commitOne_25 : decode cX6_commitOne 25 = .ok (.aload_n 0, 1) := by decide +kernel
theorem dX6_commitOne_26 : decode cX6_commitOne 26 = .ok (.getfield 7, 3) := by decide +kernel
theorem dX6_commitOne_29 : decode cX6_commitOne 29 = .ok (.iconst 1, 1) := by decide +kernel
theorem dX6_commitOne_30 : decode cX6_commitOne 30 = .ok (.dup2, 1) := by decide +kernel
theorem dX6_commitOne_31 : decode cX6_commitOne 31 = .ok (.iaload, 1) := by decide +kernel
theorem dX6_commitOne_32 : decode cX6_commitOne 32 = .ok (.iconst 1, 1) := by decide +kernel
theorem dX6_commitOne_33 : decode cX6_commitOne 33 = .ok (.iadd, 1) := by decide +kernel
theorem dX6_commitOne_34 : decode cX6_commitOne 34 = .ok (.iastore, 1) := by decide +kernel
theorem dX6_commitOne_35 : decode cX6_commitOne 35 = .ok (.aload_n 0, 1) := by decide +kernel
theorem dX6_commitOne_36 : decode cX6_commitOne 36 = .ok (.iload_n 1, 1) := by decide +kernel
theorem dX6_commitOne_37 : decode cX6_commitOne 37 = .ok (.iconst 0, 1) := by decide +kernel
theorem dX6_commitOne_38 : decode cX6_commitOne 38 = .ok (.iconst 1, 1) := by decide +kernel
theorem dX6_commitOne_39 : decode cX6_commitOne 39 = .ok (.invokevirtual 86, 3) := by decide +kernel
theorem dX6_commitOne_42 : decode cX6_commitOne 42 = .ok (.aload_n 0, 1) := by decide +kernel
theorem dX6_commitOne_43 : decode cX6_commitOne 43 = .ok (.iload_n 1, 1) := by decide +kernel
theorem dX6_commitOne_44 : decode cX6_commitOne 44 = .ok (.iconst 2, 1) := by decide +kernel
theorem dX6_commitOne_45 : decode cX6_commitOne 45 = .ok (.aload_n 0, 1) := by decide +kernel
theorem dX6_commitOne_46 : decode cX6_commitOne 46 = .ok (.getfield 7, 3) := by decide +kernel
theorem dX6_commitOne_49 : decode cX6_commitOne 49 = .ok (.iconst 1, 1) := by decide +kernel
theorem dX6_commitOne_50 : decode cX6_commitOne 50 = .ok (.iaload, 1) := by decide +kernel
theorem dX6_commitOne_51 : decode cX6_commitOne 51 = .ok (.invokevirtual 86, 3) := by decide +kernel
theorem dX6_commitOne_54 : decode cX6_commitOne 54 = .ok (.iload_n 2, 1) := by decide +kernel
theorem dX6_commitOne_55 : decode cX6_commitOne 55 = .ok (.ireturn, 1) := by decide +kernel
set_option maxRecDepth 20000 in
theorem ggX6_commit_X6_whyNotEnd : GoodIn wsX6_commit wsX6_whyNotEnd := goodIn_r _ [5, 6, 7, 8, 4, 9, 10, 11, 12, 13, 14, 15, 16, 17, 18, 76, 77, 78, 79, 80, 81, 82, 83, 84, 85, 86, 87, 88, 89, 90, 91] (by decide +kernel) (by decide +kernel)
set_option maxRecDepth 20000 in
theorem gX6_commit_X6_whyNotEnd : GoodIn wsX6_commit (wsV RX6 134 RX6 yX6_whyNotEnd wsX6_whyNotEnd) := goodIn_app (goodIn_of _ (by decide +kernel)) ggX6_commit_X6_whyNotEnd
set_option maxRecDepth 20000 in
theorem ggX6_commit_X6_record : GoodIn wsX6_commit wsX6_record := goodIn_r _ [22, 23, 24, 10, 76, 77, 78, 79, 80, 81, 82, 83, 84, 85, 86, 87, 88, 89, 90, 91] (by decide +kernel) (by decide +kernel)
set_option maxRecDepth 20000 in
theorem gX6_commit_X6_record : GoodIn wsX6_commit (wsV RX6 48 RX6 yX6_record wsX6_record) := goodIn_app (goodIn_of _ (by decide +kernel)) ggX6_commit_X6_record
set_option maxRecDepth 20000 in
theorem ggX6_commit_X6_commitOne : GoodIn wsX6_commit wsX6_commitOne := goodIn_r _ [28, 10, 29, 30, 31, 4, 32, 33, 34, 35, 36, 15, 16, 17, 18, 37, 38, 39, 40, 11, 12, 13, 14, 41, 42, 43, 44, 45, 46, 47, 48, 49, 50, 51, 52, 53, 54, 55, 56, 57, 58, 59, 60, 61, 62, 63, 64, 65, 66, 67, 68, 69, 70, 71, 72, 73, 74, 75, 76, 77, 78, 79, 80, 81, 82, 83, 84, 85, 86, 87, 88, 89, 90, 91] (by decide +kernel) (by decide +kernel)
set_option maxRecDepth 20000 in
theorem gX6_commit_X6_commitOne : GoodIn wsX6_commit (wsV RX6 137 RX6 yX6_commitOne wsX6_commitOne) := goodIn_app (goodIn_of _ (by decide +kernel)) ggX6_commit_X6_commitOne
theorem dX6_commit_0 : decode cX6_commit 0 = .ok (.aload_n 0, 1) := by decide +kernel
theorem dX6_commit_1 : decode cX6_commit 1 = .ok (.iload_n 1, 1) := by decide +kernel
theorem dX6_commit_2 : decode cX6_commit 2 = .ok (.invokevirtual 134, 3) := by decide +kernel
theorem dX6_commit_5 : decode cX6_commit 5 = .ok (.istore_n 2, 1) := by decide +kernel
theorem dX6_commit_6 : decode cX6_commit 6 = .ok (.iload_n 2, 1) := by decide +kernel
end
section
theorem dX6_commit_7 : decode cX6_commit 7 = .ok (.ifCond .ge 5, 3) := by decide +kernel
theorem dX6_commit_10 : decode cX6_commit 10 = .ok (.iload_n 2, 1) := by decide +kernel
theorem dX6_commit_11 : decode cX6_commit 11 = .ok (.ireturn, 1) := by decide +kernel
theorem dX6_commit_12 : decode cX6_commit 12 = .ok (.aload_n 0, 1) := by decide +kernel
theorem dX6_commit_13 : decode cX6_commit 13 = .ok (.invokevirtual 48, 3) := by decide +kernel
theorem dX6_commit_16 : decode cX6_commit 16 = .ok (.aload_n 0, 1) := by decide +kernel
theorem dX6_commit_17 : decode cX6_commit 17 = .ok (.iload_n 1, 1) := by decide +kernel
theorem dX6_commit_18 : decode cX6_commit 18 = .ok (.invokevirtual 137, 3) := by decide +kernel
theorem dX6_commit_21 : decode cX6_commit 21 = .ok (.ireturn, 1) := by decide +kernel
set_option maxRecDepth 20000 in
theorem ggX6_abort_X6_whyNotEnd : GoodIn wsX6_abort wsX6_whyNotEnd := goodIn_r _ [5, 6, 7, 8, 4, 9, 10, 11, 12, 13, 14, 15, 16, 17, 18, 40, 41, 42, 43, 44, 45, 46, 47, 48, 49, 50, 51, 52, 53, 54, 55] (by decide +kernel) (by decide +kernel)
set_option maxRecDepth 20000 in
theorem gX6_abort_X6_whyNotEnd : GoodIn wsX6_abort (wsV RX6 134 RX6 yX6_whyNotEnd wsX6_whyNotEnd) := goodIn_app (goodIn_of _ (by decide +kernel)) ggX6_abort_X6_whyNotEnd
set_option maxRecDepth 20000 in
theorem ggX6_abort_X6_record : GoodIn wsX6_abort wsX6_record := goodIn_r _ [22, 23, 24, 10, 40, 41, 42, 43, 44, 45, 46, 47, 48, 49, 50, 51, 52, 53, 54, 55] (by decide +kernel) (by decide +kernel)
set_option maxRecDepth 20000 in
theorem gX6_abort_X6_record : GoodIn wsX6_abort (wsV RX6 48 RX6 yX6_record wsX6_record) := goodIn_app (goodIn_of _ (by decide +kernel)) ggX6_abort_X6_record
set_option maxRecDepth 20000 in
theorem ggX6_abort_X6_abortOne : GoodIn wsX6_abort wsX6_abortOne := goodIn_r _ [28, 29, 30, 31, 4, 32, 10, 40, 41, 42, 43, 44, 45, 46, 47, 48, 49, 50, 51, 52, 53, 54, 55] (by decide +kernel) (by decide +kernel)
set_option maxRecDepth 20000 in
theorem gX6_abort_X6_abortOne : GoodIn wsX6_abort (wsV RX6 130 RX6 yX6_abortOne wsX6_abortOne) := goodIn_app (goodIn_of _ (by decide +kernel)) ggX6_abort_X6_abortOne
set_option maxRecDepth 20000 in
theorem ggX6_abort_X6_setOf : GoodIn wsX6_abort wsX6_setOf := goodIn_r _ [36, 10, 11, 12, 13, 4, 14, 15, 16, 17, 18, 40, 41, 42, 43, 44, 45, 46, 47, 48, 49, 50, 51, 52, 53, 54, 55] (by decide +kernel) (by decide +kernel)
set_option maxRecDepth 20000 in
theorem gX6_abort_X6_setOf : GoodIn wsX6_abort (wsV RX6 93 RX6 yX6_setOf wsX6_setOf) := goodIn_app (goodIn_of _ (by decide +kernel)) ggX6_abort_X6_setOf
set_option maxRecDepth 20000 in
theorem ggX6_abort_X6_bits : GoodIn wsX6_abort wsX6_bits := goodIn_r _ [39] (by decide +kernel) (by decide +kernel)
set_option maxRecDepth 20000 in
theorem gX6_abort_X6_bits : GoodIn wsX6_abort (va_wsS RX6 140 yX6_bits wsX6_bits) := goodIn_app (goodIn_of _ (by decide +kernel)) ggX6_abort_X6_bits
theorem dX6_abort_0 : decode cX6_abort 0 = .ok (.aload_n 0, 1) := by decide +kernel
theorem dX6_abort_1 : decode cX6_abort 1 = .ok (.iload_n 1, 1) := by decide +kernel
theorem dX6_abort_2 : decode cX6_abort 2 = .ok (.invokevirtual 134, 3) := by decide +kernel
theorem dX6_abort_5 : decode cX6_abort 5 = .ok (.istore_n 2, 1) := by decide +kernel
theorem dX6_abort_6 : decode cX6_abort 6 = .ok (.iload_n 2, 1) := by decide +kernel
theorem dX6_abort_7 : decode cX6_abort 7 = .ok (.ifCond .ge 5, 3) := by decide +kernel
theorem dX6_abort_10 : decode cX6_abort 10 = .ok (.iload_n 2, 1) := by decide +kernel
theorem dX6_abort_11 : decode cX6_abort 11 = .ok (.ireturn, 1) := by decide +kernel
theorem dX6_abort_12 : decode cX6_abort 12 = .ok (.aload_n 0, 1) := by decide +kernel
theorem dX6_abort_13 : decode cX6_abort 13 = .ok (.invokevirtual 48, 3) := by decide +kernel
theorem dX6_abort_16 : decode cX6_abort 16 = .ok (.aload_n 0, 1) := by decide +kernel
theorem dX6_abort_17 : decode cX6_abort 17 = .ok (.iload_n 1, 1) := by decide +kernel
theorem dX6_abort_18 : decode cX6_abort 18 = .ok (.iconst 0, 1) := by decide +kernel
theorem dX6_abort_19 : decode cX6_abort 19 = .ok (.invokevirtual 130, 3) := by decide +kernel
theorem dX6_abort_22 : decode cX6_abort 22 = .ok (.aload_n 0, 1) := by decide +kernel
theorem dX6_abort_23 : decode cX6_abort 23 = .ok (.iconst 0, 1) := by decide +kernel
theorem dX6_abort_24 : decode cX6_abort 24 = .ok (.invokevirtual 93, 3) := by decide +kernel
theorem dX6_abort_27 : decode cX6_abort 27 = .ok (.invokestatic 140, 3) := by decide +kernel
theorem dX6_abort_30 : decode cX6_abort 30 = .ok (.ireturn, 1) := by decide +kernel
set_option maxRecDepth 20000 in
theorem ggX6_value_X6_isKey : GoodIn wsX6_value wsX6_isKey := goodIn_r _ [5, 6, 7, 4, 8] (by decide +kernel) (by decide +kernel)
set_option maxRecDepth 20000 in
theorem gX6_value_X6_isKey : GoodIn wsX6_value (va_wsS RX6 105 yX6_isKey wsX6_isKey) := goodIn_app (goodIn_of _ (by decide +kernel)) ggX6_value_X6_isKey
set_option maxRecDepth 20000 in
theorem ggX6_value_X6_writerAhead : GoodIn wsX6_value wsX6_writerAhead := goodIn_r _ [12, 1, 13, 14, 15, 4, 16, 17, 18, 19, 20, 21, 22, 23, 24, 25, 26, 27, 28, 29, 30, 31, 32, 33, 34, 35, 36, 37, 38, 39, 40] (by decide +kernel) (by decide +kernel)
set_option maxRecDepth 20000 in
theorem gX6_value_X6_writerAhead : GoodIn wsX6_value (wsV RX6 108 RX6 yX6_writerAhead wsX6_writerAhead) := goodIn_app (goodIn_of _ (by decide +kernel)) ggX6_value_X6_writerAhead
set_option maxRecDepth 20000 in
theorem ggX6_value_X6_its : GoodIn wsX6_value wsX6_its := goodIn_r _ [20, 1, 25, 26, 27, 28, 29, 30, 31, 32, 33, 34, 35, 36, 37, 38, 39, 40] (by decide +kernel) (by decide +kernel)
set_option maxRecDepth 20000 in
theorem gX6_value_X6_its : GoodIn wsX6_value (wsV RX6 40 RX6 yX6_its wsX6_its) := goodIn_app (goodIn_of _ (by decide +kernel)) ggX6_value_X6_its
theorem dX6_value_0 : decode cX6_value 0 = .ok (.iload_n 1, 1) := by decide +kernel
theorem dX6_value_1 : decode cX6_value 1 = .ok (.invokestatic 105, 3) := by decide +kernel
theorem dX6_value_4 : decode cX6_value 4 = .ok (.ifCond .ne 5, 3) := by decide +kernel
theorem dX6_value_7 : decode cX6_value 7 = .ok (.iconst (-1), 1) := by decide +kernel
theorem dX6_value_8 : decode cX6_value 8 = .ok (.ireturn, 1) := by decide +kernel
theorem dX6_value_9 : decode cX6_value 9 = .ok (.aload_n 0, 1) := by decide +kernel
theorem dX6_value_10 : decode cX6_value 10 = .ok (.iload_n 1, 1) := by decide +kernel
theorem dX6_value_11 : decode cX6_value 11 = .ok (.aload_n 0, 1) := by decide +kernel
theorem dX6_value_12 : decode cX6_value 12 = .ok (.getfield 7, 3) := by decide +kernel
theorem dX6_value_15 : decode cX6_value 15 = .ok (.iconst 1, 1) := by decide +kernel
theorem dX6_value_16 : decode cX6_value 16 = .ok (.iaload, 1) := by decide +kernel
theorem dX6_value_17 : decode cX6_value 17 = .ok (.iconst 1, 1) := by decide +kernel
theorem dX6_value_18 : decode cX6_value 18 = .ok (.iadd, 1) := by decide +kernel
theorem dX6_value_19 : decode cX6_value 19 = .ok (.invokevirtual 108, 3) := by decide +kernel
theorem dX6_value_22 : decode cX6_value 22 = .ok (.istore_n 2, 1) := by decide +kernel
theorem dX6_value_23 : decode cX6_value 23 = .ok (.iload_n 2, 1) := by decide +kernel
theorem dX6_value_24 : decode cX6_value 24 = .ok (.bipush (-6), 2) := by decide +kernel
theorem dX6_value_26 : decode cX6_value 26 = .ok (.if_icmp .ne 7, 3) := by decide +kernel
theorem dX6_value_29 : decode cX6_value 29 = .ok (.iconst 0, 1) := by decide +kernel
theorem dX6_value_30 : decode cX6_value 30 = .ok (.goto 12, 3) := by decide +kernel
theorem dX6_value_33 : decode cX6_value 33 = .ok (.aload_n 0, 1) := by decide +kernel
theorem dX6_value_34 : decode cX6_value 34 = .ok (.iload_n 2, 1) := by decide +kernel
theorem dX6_value_35 : decode cX6_value 35 = .ok (.bipush 7, 2) := by decide +kernel
theorem dX6_value_37 : decode cX6_value 37 = .ok (.iload_n 1, 1) := by decide +kernel
theorem dX6_value_38 : decode cX6_value 38 = .ok (.iadd, 1) := by decide +kernel
theorem dX6_value_39 : decode cX6_value 39 = .ok (.invokevirtual 40, 3) := by decide +kernel
theorem dX6_value_42 : decode cX6_value 42 = .ok (.ireturn, 1) := by decide +kernel
set_option maxRecDepth 20000 in
theorem ggX6_edgesFrom_X6_isEdge : GoodIn wsX6_edgesFrom wsX6_isEdge := goodIn_r _ [6, 7, 8, 9, 5, 10, 1, 11, 12, 13, 14, 15, 16, 17, 18, 19, 20, 21, 22, 23, 24, 25, 26, 27, 28, 29, 30, 31, 32, 33, 34, 35, 36, 37, 38] (by decide +kernel) (by decide +kernel)
set_option maxRecDepth 20000 in
theorem gX6_edgesFrom_X6_isEdge : GoodIn wsX6_edgesFrom (wsV RX6 64 RX6 yX6_isEdge wsX6_isEdge) := goodIn_app (goodIn_of _ (by decide +kernel)) ggX6_edgesFrom_X6_isEdge
theorem dX6_edgesFrom_0 : decode cX6_edgesFrom 0 = .ok (.iconst 0, 1) := by decide +kernel
theorem dX6_edgesFrom_1 : decode cX6_edgesFrom 1 = .ok (.istore_n 2, 1) := by decide +kernel
theorem dX6_edgesFrom_2 : decode cX6_edgesFrom 2 = .ok (.iconst 0, 1) := by decide +kernel
theorem dX6_edgesFrom_3 : decode cX6_edgesFrom 3 = .ok (.istore_n 3, 1) := by decide +kernel
theorem dX6_edgesFrom_4 : decode cX6_edgesFrom 4 = .ok (.iload_n 3, 1) := by decide +kernel
theorem dX6_edgesFrom_5 : decode cX6_edgesFrom 5 = .ok (.aload_n 0, 1) := by decide +kernel
theorem dX6_edgesFrom_6 : decode cX6_edgesFrom 6 = .ok (.getfield 7, 3) := by decide +kernel
theorem dX6_edgesFrom_9 : decode cX6_edgesFrom 9 = .ok (.iconst 2, 1) := by decide +kernel
theorem dX6_edgesFrom_10 : decode cX6_edgesFrom 10 = .ok (.iaload, 1) := by decide +kernel
theorem dX6_edgesFrom_11 : decode cX6_edgesFrom 11 = .ok (.if_icmp .ge 28, 3) := by decide +kernel
theorem dX6_edgesFrom_14 : decode cX6_edgesFrom 14 = .ok (.iload_n 2, 1) := by decide +kernel
theorem dX6_edgesFrom_15 : decode cX6_edgesFrom 15 = .ok (.aload_n 0, 1) := by decide +kernel
theorem dX6_edgesFrom_16 : decode cX6_edgesFrom 16 = .ok (.iload_n 1, 1) := by decide +kernel
theorem dX6_edgesFrom_17 : decode cX6_edgesFrom 17 = .ok (.iload_n 3, 1) := by decide +kernel
theorem dX6_edgesFrom_18 : decode cX6_edgesFrom 18 = .ok (.invokevirtual 64, 3) := by decide +kernel
theorem dX6_edgesFrom_21 : decode cX6_edgesFrom 21 = .ok (.ifCond .eq 9, 3) := by decide +kernel
theorem dX6_edgesFrom_24 : decode cX6_edgesFrom 24 = .ok (.iconst 1, 1) := by decide +kernel
theorem dX6_edgesFrom_25 : decode cX6_edgesFrom 25 = .ok (.iload_n 3, 1) := by decide +kernel
theorem dX6_edgesFrom_26 : decode cX6_edgesFrom 26 = .ok (.ishl, 1) := by decide +kernel
theorem dX6_edgesFrom_27 : decode cX6_edgesFrom 27 = .ok (.goto 4, 3) := by decide +kernel
theorem dX6_edgesFrom_30 : decode cX6_edgesFrom 30 = .ok (.iconst 0, 1) := by decide +kernel
theorem dX6_edgesFrom_31 : decode cX6_edgesFrom 31 = .ok (.ior, 1) := by decide +kernel
theorem dX6_edgesFrom_32 : decode cX6_edgesFrom 32 = .ok (.istore_n 2, 1) := by decide +kernel
theorem dX6_edgesFrom_33 : decode cX6_edgesFrom 33 = .ok (.iinc 3 1, 3) := by decide +kernel
theorem dX6_edgesFrom_36 : decode cX6_edgesFrom 36 = .ok (.goto (-32), 3) := by decide +kernel
theorem dX6_edgesFrom_39 : decode cX6_edgesFrom 39 = .ok (.iload_n 2, 1) := by decide +kernel
theorem dX6_edgesFrom_40 : decode cX6_edgesFrom 40 = .ok (.ireturn, 1) := by decide +kernel
set_option maxRecDepth 20000 in
theorem ggX6_edgesTo_X6_isEdge : GoodIn wsX6_edgesTo wsX6_isEdge := goodIn_r _ [6, 7, 8, 9, 5, 10, 1, 11, 12, 13, 14, 15, 16, 17, 18, 19, 20, 21, 22, 23, 24, 25, 26, 27, 28, 29, 30, 31, 32, 33, 34, 35, 36, 37, 38] (by decide +kernel) (by decide +kernel)
set_option maxRecDepth 20000 in
theorem gX6_edgesTo_X6_isEdge : GoodIn wsX6_edgesTo (wsV RX6 64 RX6 yX6_isEdge wsX6_isEdge) := goodIn_app (goodIn_of _ (by decide +kernel)) ggX6_edgesTo_X6_isEdge
theorem dX6_edgesTo_0 : decode cX6_edgesTo 0 = .ok (.iconst 0, 1) := by decide +kernel
theorem dX6_edgesTo_1 : decode cX6_edgesTo 1 = .ok (.istore_n 2, 1) := by decide +kernel
theorem dX6_edgesTo_2 : decode cX6_edgesTo 2 = .ok (.iconst 0, 1) := by decide +kernel
theorem dX6_edgesTo_3 : decode cX6_edgesTo 3 = .ok (.istore_n 3, 1) := by decide +kernel
theorem dX6_edgesTo_4 : decode cX6_edgesTo 4 = .ok (.iload_n 3, 1) := by decide +kernel
theorem dX6_edgesTo_5 : decode cX6_edgesTo 5 = .ok (.aload_n 0, 1) := by decide +kernel
theorem dX6_edgesTo_6 : decode cX6_edgesTo 6 = .ok (.getfield 7, 3) := by decide +kernel
theorem dX6_edgesTo_9 : decode cX6_edgesTo 9 = .ok (.iconst 2, 1) := by decide +kernel
theorem dX6_edgesTo_10 : decode cX6_edgesTo 10 = .ok (.iaload, 1) := by decide +kernel
theorem dX6_edgesTo_11 : decode cX6_edgesTo 11 = .ok (.if_icmp .ge 28, 3) := by decide +kernel
theorem dX6_edgesTo_14 : decode cX6_edgesTo 14 = .ok (.iload_n 2, 1) := by decide +kernel
theorem dX6_edgesTo_15 : decode cX6_edgesTo 15 = .ok (.aload_n 0, 1) := by decide +kernel
theorem dX6_edgesTo_16 : decode cX6_edgesTo 16 = .ok (.iload_n 3, 1) := by decide +kernel
theorem dX6_edgesTo_17 : decode cX6_edgesTo 17 = .ok (.iload_n 1, 1) := by decide +kernel
theorem dX6_edgesTo_18 : decode cX6_edgesTo 18 = .ok (.invokevirtual 64, 3) := by decide +kernel
theorem dX6_edgesTo_21 : decode cX6_edgesTo 21 = .ok (.ifCond .eq 9, 3) := by decide +kernel
theorem dX6_edgesTo_24 : decode cX6_edgesTo 24 = .ok (.iconst 1, 1) := by decide +kernel
theorem dX6_edgesTo_25 : decode cX6_edgesTo 25 = .ok (.iload_n 3, 1) := by decide +kernel
theorem dX6_edgesTo_26 : decode cX6_edgesTo 26 = .ok (.ishl, 1) := by decide +kernel
theorem dX6_edgesTo_27 : decode cX6_edgesTo 27 = .ok (.goto 4, 3) := by decide +kernel
theorem dX6_edgesTo_30 : decode cX6_edgesTo 30 = .ok (.iconst 0, 1) := by decide +kernel
theorem dX6_edgesTo_31 : decode cX6_edgesTo 31 = .ok (.ior, 1) := by decide +kernel
theorem dX6_edgesTo_32 : decode cX6_edgesTo 32 = .ok (.istore_n 2, 1) := by decide +kernel
theorem dX6_edgesTo_33 : decode cX6_edgesTo 33 = .ok (.iinc 3 1, 3) := by decide +kernel
theorem dX6_edgesTo_36 : decode cX6_edgesTo 36 = .ok (.goto (-32), 3) := by decide +kernel
theorem dX6_edgesTo_39 : decode cX6_edgesTo 39 = .ok (.iload_n 2, 1) := by decide +kernel
theorem dX6_edgesTo_40 : decode cX6_edgesTo 40 = .ok (.ireturn, 1) := by decide +kernel
set_option maxRecDepth 20000 in
theorem ggX6_endangers_X6_isIn : GoodIn wsX6_endangers wsX6_isIn := goodIn_r _ [6, 7, 8, 9, 5, 10, 1, 23, 24, 25, 26, 27, 28, 29, 30, 31, 32, 33, 34, 35, 36, 37, 38] (by decide +kernel) (by decide +kernel)
set_option maxRecDepth 20000 in
theorem gX6_endangers_X6_isIn : GoodIn wsX6_endangers (wsV RX6 51 RX6 yX6_isIn wsX6_isIn) := goodIn_app (goodIn_of _ (by decide +kernel)) ggX6_endangers_X6_isIn
set_option maxRecDepth 20000 in
theorem ggX6_endangers_X6_isEdge : GoodIn wsX6_endangers wsX6_isEdge := goodIn_r _ [14, 7, 8, 9, 5, 10, 1, 15, 16, 17, 18, 2, 3, 4, 6, 19, 20, 21, 22, 23, 24, 25, 26, 27, 28, 29, 30, 31, 32, 33, 34, 35, 36, 37, 38] (by decide +kernel) (by decide +kernel)
set_option maxRecDepth 20000 in
theorem gX6_endangers_X6_isEdge : GoodIn wsX6_endangers (wsV RX6 64 RX6 yX6_isEdge wsX6_isEdge) := goodIn_app (goodIn_of _ (by decide +kernel)) ggX6_endangers_X6_isEdge
set_option maxRecDepth 20000 in
theorem ggX6_endangers_X6_isCommittedAhead : GoodIn wsX6_endangers wsX6_isCommittedAhead := goodIn_r _ [22, 2, 3, 4, 5, 6, 7, 8, 9, 10, 1, 23, 24, 25, 26, 27, 28, 29, 30, 31, 32, 33, 34, 35, 36, 37, 38] (by decide +kernel) (by decide +kernel)
set_option maxRecDepth 20000 in
theorem gX6_endangers_X6_isCommittedAhead : GoodIn wsX6_endangers (wsV RX6 58 RX6 yX6_isCommittedAhead wsX6_isCommittedAhead) := goodIn_app (goodIn_of _ (by decide +kernel)) ggX6_endangers_X6_isCommittedAhead
theorem dX6_endangers_0 : decode cX6_endangers 0 = .ok (.iconst 0, 1) := by decide +kernel
theorem dX6_endangers_1 : decode cX6_endangers 1 = .ok (.istore_n 3, 1) := by decide +kernel
theorem dX6_endangers_2 : decode cX6_endangers 2 = .ok (.iconst 0, 1) := by decide +kernel
theorem dX6_endangers_3 : decode cX6_endangers 3 = .ok (.istore 4, 2) := by decide +kernel
theorem dX6_endangers_5 : decode cX6_endangers 5 = .ok (.iload 4, 2) := by decide +kernel
theorem dX6_endangers_7 : decode cX6_endangers 7 = .ok (.aload_n 0, 1) := by decide +kernel
theorem dX6_endangers_8 : decode cX6_endangers 8 = .ok (.getfield 7, 3) := by decide +kernel
theorem dX6_endangers_11 : decode cX6_endangers 11 = .ok (.iconst 2, 1) := by decide +kernel
theorem dX6_endangers_12 : decode cX6_endangers 12 = .ok (.iaload, 1) := by decide +kernel
theorem dX6_endangers_13 : decode cX6_endangers 13 = .ok (.if_icmp .ge 48, 3) := by decide +kernel
theorem dX6_endangers_16 : decode cX6_endangers 16 = .ok (.iload_n 3, 1) := by decide +kernel
theorem dX6_endangers_17 : decode cX6_endangers 17 = .ok (.ifCond .ne 32, 3) := by decide +kernel
theorem dX6_endangers_20 : decode cX6_endangers 20 = .ok (.aload_n 0, 1) := by decide +kernel
theorem dX6_endangers_21 : decode cX6_endangers 21 = .ok (.iload_n 1, 1) := by decide +kernel
theorem dX6_endangers_22 : decode cX6_endangers 22 = .ok (.iconst 1, 1) := by decide +kernel
theorem dX6_endangers_23 : decode cX6_endangers 23 = .ok (.invokevirtual 51, 3) := by decide +kernel
theorem dX6_endangers_26 : decode cX6_endangers 26 = .ok (.ifCond .eq 27, 3) := by decide +kernel
theorem dX6_endangers_29 : decode cX6_endangers 29 = .ok (.aload_n 0, 1) := by decide +kernel
theorem dX6_endangers_30 : decode cX6_endangers 30 = .ok (.iload_n 1, 1) := by decide +kernel
theorem dX6_endangers_31 : decode cX6_endangers 31 = .ok (.iload 4, 2) := by decide +kernel
theorem dX6_endangers_33 : decode cX6_endangers 33 = .ok (.invokevirtual 64, 3) := by decide +kernel
theorem dX6_endangers_36 : decode cX6_endangers 36 = .ok (.ifCond .eq 17, 3) := by decide +kernel
theorem dX6_endangers_39 : decode cX6_endangers 39 = .ok (.aload_n 0, 1) := by decide +kernel
theorem dX6_endangers_40 : decode cX6_endangers 40 = .ok (.iload 4, 2) := by decide +kernel
theorem dX6_endangers_42 : decode cX6_endangers 42 = .ok (.iload_n 2, 1) := by decide +kernel
theorem dX6_endangers_43 : decode cX6_endangers 43 = .ok (.invokevirtual 58, 3) := by decide +kernel
theorem dX6_endangers_46 : decode cX6_endangers 46 = .ok (.ifCond .eq 7, 3) := by decide +kernel
theorem dX6_endangers_49 : decode cX6_endangers 49 = .ok (.iconst 1, 1) := by decide +kernel
theorem dX6_endangers_50 : decode cX6_endangers 50 = .ok (.goto 4, 3) := by decide +kernel
theorem dX6_endangers_53 : decode cX6_endangers 53 = .ok (.iconst 0, 1) := by decide +kernel
theorem dX6_endangers_54 : decode cX6_endangers 54 = .ok (.istore_n 3, 1) := by decide +kernel
theorem dX6_endangers_55 : decode cX6_endangers 55 = .ok (.iinc 4 1, 3) := by decide +kernel
theorem dX6_endangers_58 : decode cX6_endangers 58 = .ok (.goto (-53), 3) := by decide +kernel
theorem dX6_endangers_61 : decode cX6_endangers 61 = .ok (.iload_n 3, 1) := by decide +kernel
theorem dX6_endangers_62 : decode cX6_endangers 62 = .ok (.ireturn, 1) := by decide +kernel
set_option maxRecDepth 20000 in
theorem ggX6_safety_X6_isIn : GoodIn wsX6_safety wsX6_isIn := goodIn_r _ [6, 7, 8, 9, 5, 10, 1, 27, 28, 29, 30, 31, 32, 33, 34, 35, 36, 37, 38, 39, 40, 41, 42] (by decide +kernel) (by decide +kernel)
set_option maxRecDepth 20000 in
theorem gX6_safety_X6_isIn : GoodIn wsX6_safety (wsV RX6 51 RX6 yX6_isIn wsX6_isIn) := goodIn_app (goodIn_of _ (by decide +kernel)) ggX6_safety_X6_isIn
set_option maxRecDepth 20000 in
theorem ggX6_safety_X6_its : GoodIn wsX6_safety wsX6_its := goodIn_r _ [10, 1, 27, 28, 29, 30, 31, 32, 33, 34, 35, 36, 37, 38, 39, 40, 41, 42] (by decide +kernel) (by decide +kernel)
set_option maxRecDepth 20000 in
theorem gX6_safety_X6_its : GoodIn wsX6_safety (wsV RX6 40 RX6 yX6_its wsX6_its) := goodIn_app (goodIn_of _ (by decide +kernel)) ggX6_safety_X6_its
set_option maxRecDepth 20000 in
theorem ggX6_safety_X6_endangers : GoodIn wsX6_safety wsX6_endangers := goodIn_r _ [14, 1, 2, 3, 4, 5, 6, 7, 8, 9, 10, 15, 16, 17, 18, 19, 20, 21, 22, 23, 24, 25, 26, 27, 28, 29, 30, 31, 32, 33, 34, 35, 36, 37, 38, 39, 40, 41, 42] (by decide +kernel) (by decide +kernel)
set_option maxRecDepth 20000 in
theorem gX6_safety_X6_endangers : GoodIn wsX6_safety (wsV RX6 143 RX6 yX6_endangers wsX6_endangers) := goodIn_app (goodIn_of _ (by decide +kernel)) ggX6_safety_X6_endangers
theorem dX6_safety_0 : decode cX6_safety 0 = .ok (.aload_n 0, 1) := by decide +kernel
theorem dX6_safety_1 : decode cX6_safety 1 = .ok (.iload_n 1, 1) := by decide +kernel
theorem dX6_safety_2 : decode cX6_safety 2 = .ok (.iconst 2, 1) := by decide +kernel
theorem dX6_safety_3 : decode cX6_safety 3 = .ok (.invokevirtual 51, 3) := by decide +kernel
theorem dX6_safety_6 : decode cX6_safety 6 = .ok (.ifCond .ne 12, 3) := by decide +kernel
theorem dX6_safety_9 : decode cX6_safety 9 = .ok (.aload_n 0, 1) := by decide +kernel
theorem dX6_safety_10 : decode cX6_safety 10 = .ok (.iload_n 1, 1) := by decide +kernel
theorem dX6_safety_11 : decode cX6_safety 11 = .ok (.iconst 4, 1) := by decide +kernel
theorem dX6_safety_12 : decode cX6_safety 12 = .ok (.invokevirtual 40, 3) := by decide +kernel
theorem dX6_safety_15 : decode cX6_safety 15 = .ok (.ifCond .eq 6, 3) := by decide +kernel
theorem dX6_safety_18 : decode cX6_safety 18 = .ok (.bipush (-6), 2) := by decide +kernel
theorem dX6_safety_20 : decode cX6_safety 20 = .ok (.ireturn, 1) := by decide +kernel
theorem dX6_safety_21 : decode cX6_safety 21 = .ok (.iconst 1, 1) := by decide +kernel
theorem dX6_safety_22 : decode cX6_safety 22 = .ok (.istore_n 2, 1) := by decide +kernel
theorem dX6_safety_23 : decode cX6_safety 23 = .ok (.iconst 0, 1) := by decide +kernel
theorem dX6_safety_24 : decode cX6_safety 24 = .ok (.istore_n 3, 1) := by decide +kernel
theorem dX6_safety_25 : decode cX6_safety 25 = .ok (.iload_n 3, 1) := by decide +kernel
theorem dX6_safety_26 : decode cX6_safety 26 = .ok (.aload_n 0, 1) := by decide +kernel
theorem dX6_safety_27 : decode cX6_safety 27 = .ok (.getfield 7, 3) := by decide +kernel
theorem dX6_safety_30 : decode cX6_safety 30 = .ok (.iconst 2, 1) := by decide +kernel
theorem dX6_safety_31 : decode cX6_safety 31 = .ok (.iaload, 1) := by decide +kernel
theorem dX6_safety_32 : decode cX6_safety 32 = .ok (.if_icmp .ge 59, 3) := by decide +kernel
theorem dX6_safety_35 : decode cX6_safety 35 = .ok (.aload_n 0, 1) := by decide +kernel
theorem dX6_safety_36 : decode cX6_safety 36 = .ok (.iload_n 1, 1) := by decide +kernel
theorem dX6_safety_37 : decode cX6_safety 37 = .ok (.bipush 6, 2) := by decide +kernel
theorem dX6_safety_39 : decode cX6_safety 39 = .ok (.invokevirtual 40, 3) := by decide +kernel
theorem dX6_safety_42 : decode cX6_safety 42 = .ok (.iload_n 3, 1) := by decide +kernel
theorem dX6_safety_43 : decode cX6_safety 43 = .ok (.ishr, 1) := by decide +kernel
theorem dX6_safety_44 : decode cX6_safety 44 = .ok (.iconst 1, 1) := by decide +kernel
theorem dX6_safety_45 : decode cX6_safety 45 = .ok (.iand, 1) := by decide +kernel
theorem dX6_safety_46 : decode cX6_safety 46 = .ok (.iconst 1, 1) := by decide +kernel
theorem dX6_safety_47 : decode cX6_safety 47 = .ok (.if_icmp .ne 38, 3) := by decide +kernel
theorem dX6_safety_50 : decode cX6_safety 50 = .ok (.aload_n 0, 1) := by decide +kernel
theorem dX6_safety_51 : decode cX6_safety 51 = .ok (.iload_n 3, 1) := by decide +kernel
theorem dX6_safety_52 : decode cX6_safety 52 = .ok (.aload_n 0, 1) := by decide +kernel
theorem dX6_safety_53 : decode cX6_safety 53 = .ok (.iload_n 1, 1) := by decide +kernel
theorem dX6_safety_54 : decode cX6_safety 54 = .ok (.iconst 1, 1) := by decide +kernel
theorem dX6_safety_55 : decode cX6_safety 55 = .ok (.invokevirtual 40, 3) := by decide +kernel
theorem dX6_safety_58 : decode cX6_safety 58 = .ok (.invokevirtual 143, 3) := by decide +kernel
theorem dX6_safety_61 : decode cX6_safety 61 = .ok (.ifCond .eq 5, 3) := by decide +kernel
theorem dX6_safety_64 : decode cX6_safety 64 = .ok (.iconst 0, 1) := by decide +kernel
theorem dX6_safety_65 : decode cX6_safety 65 = .ok (.ireturn, 1) := by decide +kernel
theorem dX6_safety_66 : decode cX6_safety 66 = .ok (.iload_n 2, 1) := by decide +kernel
theorem dX6_safety_67 : decode cX6_safety 67 = .ok (.ifCond .eq 16, 3) := by decide +kernel
theorem dX6_safety_70 : decode cX6_safety 70 = .ok (.aload_n 0, 1) := by decide +kernel
theorem dX6_safety_71 : decode cX6_safety 71 = .ok (.iload_n 3, 1) := by decide +kernel
theorem dX6_safety_72 : decode cX6_safety 72 = .ok (.iconst 0, 1) := by decide +kernel
theorem dX6_safety_73 : decode cX6_safety 73 = .ok (.invokevirtual 51, 3) := by decide +kernel
theorem dX6_safety_76 : decode cX6_safety 76 = .ok (.ifCond .ne 7, 3) := by decide +kernel
theorem dX6_safety_79 : decode cX6_safety 79 = .ok (.iconst 1, 1) := by decide +kernel
theorem dX6_safety_80 : decode cX6_safety 80 = .ok (.goto 4, 3) := by decide +kernel
theorem dX6_safety_83 : decode cX6_safety 83 = .ok (.iconst 0, 1) := by decide +kernel
theorem dX6_safety_84 : decode cX6_safety 84 = .ok (.istore_n 2, 1) := by decide +kernel
theorem dX6_safety_85 : decode cX6_safety 85 = .ok (.iinc 3 1, 3) := by decide +kernel
theorem dX6_safety_88 : decode cX6_safety 88 = .ok (.goto (-63), 3) := by decide +kernel
theorem dX6_safety_91 : decode cX6_safety 91 = .ok (.iload_n 2, 1) := by decide +kernel
theorem dX6_safety_92 : decode cX6_safety 92 = .ok (.ifCond .eq 7, 3) := by decide +kernel
theorem dX6_safety_95 : decode cX6_safety 95 = .ok (.iconst 1, 1) := by decide +kernel
theorem dX6_safety_96 : decode cX6_safety 96 = .ok (.goto 4, 3) := by decide +kernel
theorem dX6_safety_99 : decode cX6_safety 99 = .ok (.iconst 2, 1) := by decide +kernel
theorem dX6_safety_100 : decode cX6_safety 100 = .ok (.ireturn, 1) := by decide +kernel
set_option maxRecDepth 20000 in
theorem ggX6_of_X6_isTransaction : GoodIn wsX6_of wsX6_isTransaction := goodIn_r _ [5, 6, 43, 44, 45, 46, 47, 48, 49, 50, 51, 52, 53, 54, 55, 56, 57, 58] (by decide +kernel) (by decide +kernel)
set_option maxRecDepth 20000 in
theorem gX6_of_X6_isTransaction : GoodIn wsX6_of (wsV RX6 101 RX6 yX6_isTransaction wsX6_isTransaction) := goodIn_app (goodIn_of _ (by decide +kernel)) ggX6_of_X6_isTransaction
set_option maxRecDepth 20000 in
theorem ggX6_of_X6_its : GoodIn wsX6_of wsX6_its := goodIn_r _ [10, 6, 43, 44, 45, 46, 47, 48, 49, 50, 51, 52, 53, 54, 55, 56, 57, 58] (by decide +kernel) (by decide +kernel)
set_option maxRecDepth 20000 in
theorem gX6_of_X6_its : GoodIn wsX6_of (wsV RX6 40 RX6 yX6_its wsX6_its) := goodIn_app (goodIn_of _ (by decide +kernel)) ggX6_of_X6_its
set_option maxRecDepth 20000 in
theorem ggX6_of_X6_edgesFrom : GoodIn wsX6_of wsX6_edgesFrom := goodIn_r _ [14, 6, 15, 16, 17, 4, 18, 7, 8, 9, 10, 19, 20, 21, 22, 23, 24, 25, 26, 27, 28, 29, 30, 43, 44, 45, 46, 47, 48, 49, 50, 51, 52, 53, 54, 55, 56, 57, 58] (by decide +kernel) (by decide +kernel)
set_option maxRecDepth 20000 in
theorem gX6_of_X6_edgesFrom : GoodIn wsX6_of (wsV RX6 146 RX6 yX6_edgesFrom wsX6_edgesFrom) := goodIn_app (goodIn_of _ (by decide +kernel)) ggX6_of_X6_edgesFrom
set_option maxRecDepth 20000 in
theorem ggX6_of_X6_edgesTo : GoodIn wsX6_of wsX6_edgesTo := goodIn_r _ [34, 6, 15, 16, 17, 4, 18, 7, 8, 9, 10, 19, 20, 21, 22, 23, 24, 25, 26, 27, 28, 29, 30, 43, 44, 45, 46, 47, 48, 49, 50, 51, 52, 53, 54, 55, 56, 57, 58] (by decide +kernel) (by decide +kernel)
set_option maxRecDepth 20000 in
theorem gX6_of_X6_edgesTo : GoodIn wsX6_of (wsV RX6 149 RX6 yX6_edgesTo wsX6_edgesTo) := goodIn_app (goodIn_of _ (by decide +kernel)) ggX6_of_X6_edgesTo
set_option maxRecDepth 20000 in
theorem ggX6_of_X6_safety : GoodIn wsX6_of wsX6_safety := goodIn_r _ [38, 6, 23, 24, 25, 4, 26, 7, 8, 9, 10, 39, 40, 41, 42, 15, 16, 17, 18, 19, 20, 21, 22, 27, 28, 29, 30, 43, 44, 45, 46, 47, 48, 49, 50, 51, 52, 53, 54, 55, 56, 57, 58] (by decide +kernel) (by decide +kernel)
set_option maxRecDepth 20000 in
theorem gX6_of_X6_safety : GoodIn wsX6_of (wsV RX6 152 RX6 yX6_safety wsX6_safety) := goodIn_app (goodIn_of _ (by decide +kernel)) ggX6_of_X6_safety
theorem dX6_of_0 : decode cX6_of 0 = .ok (.aload_n 0, 1) := by decide +kernel
theorem dX6_of_1 : decode cX6_of 1 = .ok (.iload_n 1, 1) := by decide +kernel
theorem dX6_of_2 : decode cX6_of 2 = .ok (.invokevirtual 101, 3) := by decide +kernel
theorem dX6_of_5 : decode cX6_of 5 = .ok (.ifCond .ne 5, 3) := by decide +kernel
theorem dX6_of_8 : decode cX6_of 8 = .ok (.iconst (-1), 1) := by decide +kernel
theorem dX6_of_9 : decode cX6_of 9 = .ok (.ireturn, 1) := by decide +kernel
theorem dX6_of_10 : decode cX6_of 10 = .ok (.iload_n 2, 1) := by decide +kernel
theorem dX6_of_11 : decode cX6_of 11 = .ok (.tableswitch 81 0 8 #[49, 49, 49, 49, 49, 56, 62, 68, 75], 49) := by decide +kernel
theorem dX6_of_60 : decode cX6_of 60 = .ok (.aload_n 0, 1) := by decide +kernel
theorem dX6_of_61 : decode cX6_of 61 = .ok (.iload_n 1, 1) := by decide +kernel
theorem dX6_of_62 : decode cX6_of 62 = .ok (.iload_n 2, 1) := by decide +kernel
theorem dX6_of_63 : decode cX6_of 63 = .ok (.invokevirtual 40, 3) := by decide +kernel
theorem dX6_of_66 : decode cX6_of 66 = .ok (.ireturn, 1) := by decide +kernel
theorem dX6_of_67 : decode cX6_of 67 = .ok (.aload_n 0, 1) := by decide +kernel
theorem dX6_of_68 : decode cX6_of 68 = .ok (.iload_n 1, 1) := by decide +kernel
theorem dX6_of_69 : decode cX6_of 69 = .ok (.invokevirtual 146, 3) := by decide +kernel
theorem dX6_of_72 : decode cX6_of 72 = .ok (.ireturn, 1) := by decide +kernel
theorem dX6_of_73 : decode cX6_of 73 = .ok (.aload_n 0, 1) := by decide +kernel
theorem dX6_of_74 : decode cX6_of 74 = .ok (.iload_n 1, 1) := by decide +kernel
theorem dX6_of_75 : decode cX6_of 75 = .ok (.invokevirtual 149, 3) := by decide +kernel
theorem dX6_of_78 : decode cX6_of 78 = .ok (.ireturn, 1) := by decide +kernel
theorem dX6_of_79 : decode cX6_of 79 = .ok (.aload_n 0, 1) := by decide +kernel
theorem dX6_of_80 : decode cX6_of 80 = .ok (.iload_n 1, 1) := by decide +kernel
theorem dX6_of_81 : decode cX6_of 81 = .ok (.iconst 5, 1) := by decide +kernel
theorem dX6_of_82 : decode cX6_of 82 = .ok (.invokevirtual 40, 3) := by decide +kernel
theorem dX6_of_85 : decode cX6_of 85 = .ok (.ireturn, 1) := by decide +kernel
theorem dX6_of_86 : decode cX6_of 86 = .ok (.aload_n 0, 1) := by decide +kernel
theorem dX6_of_87 : decode cX6_of 87 = .ok (.iload_n 1, 1) := by decide +kernel
theorem dX6_of_88 : decode cX6_of 88 = .ok (.invokevirtual 152, 3) := by decide +kernel
theorem dX6_of_91 : decode cX6_of 91 = .ok (.ireturn, 1) := by decide +kernel
theorem dX6_of_92 : decode cX6_of 92 = .ok (.bipush (-2), 2) := by decide +kernel
theorem dX6_of_94 : decode cX6_of 94 = .ok (.ireturn, 1) := by decide +kernel
set_option maxRecDepth 20000 in
theorem ggX6_edge_X6_isTransaction : GoodIn wsX6_edge wsX6_isTransaction := goodIn_r _ [5, 6, 27, 28, 29, 30, 31, 32, 33, 34, 35, 36, 37, 38, 39, 40, 41, 42] (by decide +kernel) (by decide +kernel)
set_option maxRecDepth 20000 in
theorem gX6_edge_X6_isTransaction : GoodIn wsX6_edge (wsV RX6 101 RX6 yX6_isTransaction wsX6_isTransaction) := goodIn_app (goodIn_of _ (by decide +kernel)) ggX6_edge_X6_isTransaction
set_option maxRecDepth 20000 in
theorem ggX6_edge_X6_isEdge : GoodIn wsX6_edge wsX6_isEdge := goodIn_r _ [10, 11, 12, 13, 4, 14, 6, 15, 16, 17, 18, 19, 20, 21, 22, 23, 24, 25, 26, 27, 28, 29, 30, 31, 32, 33, 34, 35, 36, 37, 38, 39, 40, 41, 42] (by decide +kernel) (by decide +kernel)
set_option maxRecDepth 20000 in
theorem gX6_edge_X6_isEdge : GoodIn wsX6_edge (wsV RX6 64 RX6 yX6_isEdge wsX6_isEdge) := goodIn_app (goodIn_of _ (by decide +kernel)) ggX6_edge_X6_isEdge
theorem dX6_edge_0 : decode cX6_edge 0 = .ok (.aload_n 0, 1) := by decide +kernel
theorem dX6_edge_1 : decode cX6_edge 1 = .ok (.iload_n 1, 1) := by decide +kernel
theorem dX6_edge_2 : decode cX6_edge 2 = .ok (.invokevirtual 101, 3) := by decide +kernel
theorem dX6_edge_5 : decode cX6_edge 5 = .ok (.ifCond .eq 11, 3) := by decide +kernel
theorem dX6_edge_8 : decode cX6_edge 8 = .ok (.aload_n 0, 1) := by decide +kernel
theorem dX6_edge_9 : decode cX6_edge 9 = .ok (.iload_n 2, 1) := by decide +kernel
theorem dX6_edge_10 : decode cX6_edge 10 = .ok (.invokevirtual 101, 3) := by decide +kernel
theorem dX6_edge_13 : decode cX6_edge 13 = .ok (.ifCond .ne 5, 3) := by decide +kernel
theorem dX6_edge_16 : decode cX6_edge 16 = .ok (.iconst (-1), 1) := by decide +kernel
theorem dX6_edge_17 : decode cX6_edge 17 = .ok (.ireturn, 1) := by decide +kernel
theorem dX6_edge_18 : decode cX6_edge 18 = .ok (.aload_n 0, 1) := by decide +kernel
theorem dX6_edge_19 : decode cX6_edge 19 = .ok (.iload_n 1, 1) := by decide +kernel
theorem dX6_edge_20 : decode cX6_edge 20 = .ok (.iload_n 2, 1) := by decide +kernel
theorem dX6_edge_21 : decode cX6_edge 21 = .ok (.invokevirtual 64, 3) := by decide +kernel
theorem dX6_edge_24 : decode cX6_edge 24 = .ok (.ifCond .eq 7, 3) := by decide +kernel
theorem dX6_edge_27 : decode cX6_edge 27 = .ok (.iconst 1, 1) := by decide +kernel
theorem dX6_edge_28 : decode cX6_edge 28 = .ok (.goto 4, 3) := by decide +kernel
theorem dX6_edge_31 : decode cX6_edge 31 = .ok (.iconst 0, 1) := by decide +kernel
theorem dX6_edge_32 : decode cX6_edge 32 = .ok (.ireturn, 1) := by decide +kernel
set_option maxRecDepth 20000 in
theorem ggX6_over_X6_isTransaction : GoodIn wsX6_over wsX6_isTransaction := goodIn_r _ [5, 6, 30, 31, 32, 33, 34, 35, 36, 37, 38, 39, 40, 41, 42, 43, 44, 45] (by decide +kernel) (by decide +kernel)
set_option maxRecDepth 20000 in
theorem gX6_over_X6_isTransaction : GoodIn wsX6_over (wsV RX6 101 RX6 yX6_isTransaction wsX6_isTransaction) := goodIn_app (goodIn_of _ (by decide +kernel)) ggX6_over_X6_isTransaction
set_option maxRecDepth 20000 in
theorem ggX6_over_X6_isEdge : GoodIn wsX6_over wsX6_isEdge := goodIn_r _ [10, 11, 12, 13, 4, 14, 6, 15, 16, 17, 18, 19, 20, 21, 22, 23, 24, 25, 26, 30, 31, 32, 33, 34, 35, 36, 37, 38, 39, 40, 41, 42, 43, 44, 45] (by decide +kernel) (by decide +kernel)
set_option maxRecDepth 20000 in
theorem gX6_over_X6_isEdge : GoodIn wsX6_over (wsV RX6 64 RX6 yX6_isEdge wsX6_isEdge) := goodIn_app (goodIn_of _ (by decide +kernel)) ggX6_over_X6_isEdge
set_option maxRecDepth 20000 in
theorem ggX6_over_X6_its : GoodIn wsX6_over wsX6_its := goodIn_r _ [14, 6, 30, 31, 32, 33, 34, 35, 36, 37, 38, 39, 40, 41, 42, 43, 44, 45] (by decide +kernel) (by decide +kernel)
set_option maxRecDepth 20000 in
theorem gX6_over_X6_its : GoodIn wsX6_over (wsV RX6 40 RX6 yX6_its wsX6_its) := goodIn_app (goodIn_of _ (by decide +kernel)) ggX6_over_X6_its
set_option maxRecDepth 20000 in
theorem ggX6_over_X6_bits : GoodIn wsX6_over wsX6_bits := goodIn_r _ [29] (by decide +kernel) (by decide +kernel)
set_option maxRecDepth 20000 in
theorem gX6_over_X6_bits : GoodIn wsX6_over (va_wsS RX6 140 yX6_bits wsX6_bits) := goodIn_app (goodIn_of _ (by decide +kernel)) ggX6_over_X6_bits
theorem dX6_over_0 : decode cX6_over 0 = .ok (.aload_n 0, 1) := by decide +kernel
theorem dX6_over_1 : decode cX6_over 1 = .ok (.iload_n 1, 1) := by decide +kernel
theorem dX6_over_2 : decode cX6_over 2 = .ok (.invokevirtual 101, 3) := by decide +kernel
theorem dX6_over_5 : decode cX6_over 5 = .ok (.ifCond .eq 11, 3) := by decide +kernel
theorem dX6_over_8 : decode cX6_over 8 = .ok (.aload_n 0, 1) := by decide +kernel
theorem dX6_over_9 : decode cX6_over 9 = .ok (.iload_n 2, 1) := by decide +kernel
theorem dX6_over_10 : decode cX6_over 10 = .ok (.invokevirtual 101, 3) := by decide +kernel
theorem dX6_over_13 : decode cX6_over 13 = .ok (.ifCond .ne 5, 3) := by decide +kernel
theorem dX6_over_16 : decode cX6_over 16 = .ok (.iconst (-1), 1) := by decide +kernel
theorem dX6_over_17 : decode cX6_over 17 = .ok (.ireturn, 1) := by decide +kernel
theorem dX6_over_18 : decode cX6_over 18 = .ok (.aload_n 0, 1) := by decide +kernel
theorem dX6_over_19 : decode cX6_over 19 = .ok (.iload_n 1, 1) := by decide +kernel
theorem dX6_over_20 : decode cX6_over 20 = .ok (.iload_n 2, 1) := by decide +kernel
theorem dX6_over_21 : decode cX6_over 21 = .ok (.invokevirtual 64, 3) := by decide +kernel
theorem dX6_over_24 : decode cX6_over 24 = .ok (.ifCond .ne 6, 3) := by decide +kernel
theorem dX6_over_27 : decode cX6_over 27 = .ok (.bipush (-6), 2) := by decide +kernel
theorem dX6_over_29 : decode cX6_over 29 = .ok (.ireturn, 1) := by decide +kernel
theorem dX6_over_30 : decode cX6_over 30 = .ok (.aload_n 0, 1) := by decide +kernel
theorem dX6_over_31 : decode cX6_over 31 = .ok (.iload_n 1, 1) := by decide +kernel
theorem dX6_over_32 : decode cX6_over 32 = .ok (.iconst 3, 1) := by decide +kernel
theorem dX6_over_33 : decode cX6_over 33 = .ok (.invokevirtual 40, 3) := by decide +kernel
theorem dX6_over_36 : decode cX6_over 36 = .ok (.aload_n 0, 1) := by decide +kernel
theorem dX6_over_37 : decode cX6_over 37 = .ok (.iload_n 2, 1) := by decide +kernel
theorem dX6_over_38 : decode cX6_over 38 = .ok (.iconst 4, 1) := by decide +kernel
theorem dX6_over_39 : decode cX6_over 39 = .ok (.invokevirtual 40, 3) := by decide +kernel
theorem dX6_over_42 : decode cX6_over 42 = .ok (.iand, 1) := by decide +kernel
theorem dX6_over_43 : decode cX6_over 43 = .ok (.istore_n 3, 1) := by decide +kernel
theorem dX6_over_44 : decode cX6_over 44 = .ok (.iload_n 3, 1) := by decide +kernel
theorem dX6_over_45 : decode cX6_over 45 = .ok (.iload_n 3, 1) := by decide +kernel
theorem dX6_over_46 : decode cX6_over 46 = .ok (.ineg, 1) := by decide +kernel
theorem dX6_over_47 : decode cX6_over 47 = .ok (.iand, 1) := by decide +kernel
theorem dX6_over_48 : decode cX6_over 48 = .ok (.iconst 1, 1) := by decide +kernel
theorem dX6_over_49 : decode cX6_over 49 = .ok (.isub, 1) := by decide +kernel
theorem dX6_over_50 : decode cX6_over 50 = .ok (.invokestatic 140, 3) := by decide +kernel
theorem dX6_over_53 : decode cX6_over 53 = .ok (.ireturn, 1) := by decide +kernel
set_option maxRecDepth 20000 in
theorem ggX6_edges_X6_edgesFrom : GoodIn wsX6_edges wsX6_edgesFrom := goodIn_r _ [6, 1, 7, 8, 9, 5, 10, 11, 12, 13, 14, 15, 16, 17, 18, 19, 20, 21, 22, 23, 24, 25, 26, 30, 31, 32, 33, 34, 35, 36, 37, 38, 39, 40, 41, 42, 43, 44, 45] (by decide +kernel) (by decide +kernel)
set_option maxRecDepth 20000 in
theorem gX6_edges_X6_edgesFrom : GoodIn wsX6_edges (wsV RX6 146 RX6 yX6_edgesFrom wsX6_edgesFrom) := goodIn_app (goodIn_of _ (by decide +kernel)) ggX6_edges_X6_edgesFrom
set_option maxRecDepth 20000 in
theorem ggX6_edges_X6_bits : GoodIn wsX6_edges wsX6_bits := goodIn_r _ [29] (by decide +kernel) (by decide +kernel)
set_option maxRecDepth 20000 in
theorem gX6_edges_X6_bits : GoodIn wsX6_edges (va_wsS RX6 140 yX6_bits wsX6_bits) := goodIn_app (goodIn_of _ (by decide +kernel)) ggX6_edges_X6_bits
theorem dX6_edges_0 : decode cX6_edges 0 = .ok (.iconst 0, 1) := by decide +kernel
theorem dX6_edges_1 : decode cX6_edges 1 = .ok (.istore_n 1, 1) := by decide +kernel
theorem dX6_edges_2 : decode cX6_edges 2 = .ok (.iconst 0, 1) := by decide +kernel
theorem dX6_edges_3 : decode cX6_edges 3 = .ok (.istore_n 2, 1) := by decide +kernel
theorem dX6_edges_4 : decode cX6_edges 4 = .ok (.iload_n 2, 1) := by decide +kernel
theorem dX6_edges_5 : decode cX6_edges 5 = .ok (.aload_n 0, 1) := by decide +kernel
theorem dX6_edges_6 : decode cX6_edges 6 = .ok (.getfield 7, 3) := by decide +kernel
theorem dX6_edges_9 : decode cX6_edges 9 = .ok (.iconst 2, 1) := by decide +kernel
theorem dX6_edges_10 : decode cX6_edges 10 = .ok (.iaload, 1) := by decide +kernel
theorem dX6_edges_11 : decode cX6_edges 11 = .ok (.if_icmp .ge 20, 3) := by decide +kernel
theorem dX6_edges_14 : decode cX6_edges 14 = .ok (.iload_n 1, 1) := by decide +kernel
theorem dX6_edges_15 : decode cX6_edges 15 = .ok (.aload_n 0, 1) := by decide +kernel
theorem dX6_edges_16 : decode cX6_edges 16 = .ok (.iload_n 2, 1) := by decide +kernel
theorem dX6_edges_17 : decode cX6_edges 17 = .ok (.invokevirtual 146, 3) := by decide +kernel
theorem dX6_edges_20 : decode cX6_edges 20 = .ok (.invokestatic 140, 3) := by decide +kernel
theorem dX6_edges_23 : decode cX6_edges 23 = .ok (.iadd, 1) := by decide +kernel
theorem dX6_edges_24 : decode cX6_edges 24 = .ok (.istore_n 1, 1) := by decide +kernel
theorem dX6_edges_25 : decode cX6_edges 25 = .ok (.iinc 2 1, 3) := by decide +kernel
theorem dX6_edges_28 : decode cX6_edges 28 = .ok (.goto (-24), 3) := by decide +kernel
theorem dX6_edges_31 : decode cX6_edges 31 = .ok (.iload_n 1, 1) := by decide +kernel
theorem dX6_edges_32 : decode cX6_edges 32 = .ok (.ireturn, 1) := by decide +kernel
set_option maxRecDepth 20000 in
theorem ggX6_pivots_X6_edgesFrom : GoodIn wsX6_pivots wsX6_edgesFrom := goodIn_r _ [6, 1, 7, 8, 9, 5, 10, 11, 12, 13, 14, 15, 16, 17, 18, 19, 20, 21, 22, 23, 24, 25, 26, 31, 32, 33, 34, 35, 36, 37, 38, 39, 40, 41, 42, 43, 44, 45, 46] (by decide +kernel) (by decide +kernel)
set_option maxRecDepth 20000 in
theorem gX6_pivots_X6_edgesFrom : GoodIn wsX6_pivots (wsV RX6 146 RX6 yX6_edgesFrom wsX6_edgesFrom) := goodIn_app (goodIn_of _ (by decide +kernel)) ggX6_pivots_X6_edgesFrom
set_option maxRecDepth 20000 in
theorem ggX6_pivots_X6_edgesTo : GoodIn wsX6_pivots wsX6_edgesTo := goodIn_r _ [30, 1, 7, 8, 9, 5, 10, 11, 12, 13, 14, 15, 16, 17, 18, 19, 20, 21, 22, 23, 24, 25, 26, 31, 32, 33, 34, 35, 36, 37, 38, 39, 40, 41, 42, 43, 44, 45, 46] (by decide +kernel) (by decide +kernel)
set_option maxRecDepth 20000 in
theorem gX6_pivots_X6_edgesTo : GoodIn wsX6_pivots (wsV RX6 149 RX6 yX6_edgesTo wsX6_edgesTo) := goodIn_app (goodIn_of _ (by decide +kernel)) ggX6_pivots_X6_edgesTo
theorem dX6_pivots_0 : decode cX6_pivots 0 = .ok (.iconst 0, 1) := by decide +kernel
theorem dX6_pivots_1 : decode cX6_pivots 1 = .ok (.istore_n 1, 1) := by decide +kernel
theorem dX6_pivots_2 : decode cX6_pivots 2 = .ok (.iconst 0, 1) := by decide +kernel
theorem dX6_pivots_3 : decode cX6_pivots 3 = .ok (.istore_n 2, 1) := by decide +kernel
theorem dX6_pivots_4 : decode cX6_pivots 4 = .ok (.iload_n 2, 1) := by decide +kernel
theorem dX6_pivots_5 : decode cX6_pivots 5 = .ok (.aload_n 0, 1) := by decide +kernel
theorem dX6_pivots_6 : decode cX6_pivots 6 = .ok (.getfield 7, 3) := by decide +kernel
theorem dX6_pivots_9 : decode cX6_pivots 9 = .ok (.iconst 2, 1) := by decide +kernel
theorem dX6_pivots_10 : decode cX6_pivots 10 = .ok (.iaload, 1) := by decide +kernel
theorem dX6_pivots_11 : decode cX6_pivots 11 = .ok (.if_icmp .ge 35, 3) := by decide +kernel
theorem dX6_pivots_14 : decode cX6_pivots 14 = .ok (.iload_n 1, 1) := by decide +kernel
theorem dX6_pivots_15 : decode cX6_pivots 15 = .ok (.aload_n 0, 1) := by decide +kernel
theorem dX6_pivots_16 : decode cX6_pivots 16 = .ok (.iload_n 2, 1) := by decide +kernel
theorem dX6_pivots_17 : decode cX6_pivots 17 = .ok (.invokevirtual 146, 3) := by decide +kernel
theorem dX6_pivots_20 : decode cX6_pivots 20 = .ok (.ifCond .eq 17, 3) := by decide +kernel
theorem dX6_pivots_23 : decode cX6_pivots 23 = .ok (.aload_n 0, 1) := by decide +kernel
theorem dX6_pivots_24 : decode cX6_pivots 24 = .ok (.iload_n 2, 1) := by decide +kernel
theorem dX6_pivots_25 : decode cX6_pivots 25 = .ok (.invokevirtual 149, 3) := by decide +kernel
theorem dX6_pivots_28 : decode cX6_pivots 28 = .ok (.ifCond .eq 9, 3) := by decide +kernel
theorem dX6_pivots_31 : decode cX6_pivots 31 = .ok (.iconst 1, 1) := by decide +kernel
theorem dX6_pivots_32 : decode cX6_pivots 32 = .ok (.iload_n 2, 1) := by decide +kernel
theorem dX6_pivots_33 : decode cX6_pivots 33 = .ok (.ishl, 1) := by decide +kernel
theorem dX6_pivots_34 : decode cX6_pivots 34 = .ok (.goto 4, 3) := by decide +kernel
theorem dX6_pivots_37 : decode cX6_pivots 37 = .ok (.iconst 0, 1) := by decide +kernel
theorem dX6_pivots_38 : decode cX6_pivots 38 = .ok (.ior, 1) := by decide +kernel
theorem dX6_pivots_39 : decode cX6_pivots 39 = .ok (.istore_n 1, 1) := by decide +kernel
theorem dX6_pivots_40 : decode cX6_pivots 40 = .ok (.iinc 2 1, 3) := by decide +kernel
theorem dX6_pivots_43 : decode cX6_pivots 43 = .ok (.goto (-39), 3) := by decide +kernel
theorem dX6_pivots_46 : decode cX6_pivots 46 = .ok (.iload_n 1, 1) := by decide +kernel
theorem dX6_pivots_47 : decode cX6_pivots 47 = .ok (.ireturn, 1) := by decide +kernel
set_option maxRecDepth 20000 in
theorem ggX6_triples_X6_edgesFrom : GoodIn wsX6_triples wsX6_edgesFrom := goodIn_r _ [6, 1, 7, 8, 9, 5, 10, 11, 12, 13, 14, 15, 16, 17, 18, 19, 20, 21, 22, 23, 24, 25, 26, 34, 35, 36, 37, 38, 39, 40, 41, 42, 43, 44, 45, 46, 47, 48, 49] (by decide +kernel) (by decide +kernel)
set_option maxRecDepth 20000 in
theorem gX6_triples_X6_edgesFrom : GoodIn wsX6_triples (wsV RX6 146 RX6 yX6_edgesFrom wsX6_edgesFrom) := goodIn_app (goodIn_of _ (by decide +kernel)) ggX6_triples_X6_edgesFrom
set_option maxRecDepth 20000 in
theorem ggX6_triples_X6_bits : GoodIn wsX6_triples wsX6_bits := goodIn_r _ [29] (by decide +kernel) (by decide +kernel)
set_option maxRecDepth 20000 in
theorem gX6_triples_X6_bits : GoodIn wsX6_triples (va_wsS RX6 140 yX6_bits wsX6_bits) := goodIn_app (goodIn_of _ (by decide +kernel)) ggX6_triples_X6_bits
set_option maxRecDepth 20000 in
theorem ggX6_triples_X6_edgesTo : GoodIn wsX6_triples wsX6_edgesTo := goodIn_r _ [33, 1, 7, 8, 9, 5, 10, 11, 12, 13, 14, 15, 16, 17, 18, 19, 20, 21, 22, 23, 24, 25, 26, 34, 35, 36, 37, 38, 39, 40, 41, 42, 43, 44, 45, 46, 47, 48, 49] (by decide +kernel) (by decide +kernel)
set_option maxRecDepth 20000 in
theorem gX6_triples_X6_edgesTo : GoodIn wsX6_triples (wsV RX6 149 RX6 yX6_edgesTo wsX6_edgesTo) := goodIn_app (goodIn_of _ (by decide +kernel)) ggX6_triples_X6_edgesTo
theorem dX6_triples_0 : decode cX6_triples 0 = .ok (.iconst 0, 1) := by decide +kernel
theorem dX6_triples_1 : decode cX6_triples 1 = .ok (.istore_n 1, 1) := by decide +kernel
theorem dX6_triples_2 : decode cX6_triples 2 = .ok (.iconst 0, 1) := by decide +kernel
theorem dX6_triples_3 : decode cX6_triples 3 = .ok (.istore_n 2, 1) := by decide +kernel
theorem dX6_triples_4 : decode cX6_triples 4 = .ok (.iload_n 2, 1) := by decide +kernel
theorem dX6_triples_5 : decode cX6_triples 5 = .ok (.aload_n 0, 1) := by decide +kernel
theorem dX6_triples_6 : decode cX6_triples 6 = .ok (.getfield 7, 3) := by decide +kernel
theorem dX6_triples_9 : decode cX6_triples 9 = .ok (.iconst 2, 1) := by decide +kernel
theorem dX6_triples_10 : decode cX6_triples 10 = .ok (.iaload, 1) := by decide +kernel
theorem dX6_triples_11 : decode cX6_triples 11 = .ok (.if_icmp .ge 29, 3) := by decide +kernel
theorem dX6_triples_14 : decode cX6_triples 14 = .ok (.iload_n 1, 1) := by decide +kernel
theorem dX6_triples_15 : decode cX6_triples 15 = .ok (.aload_n 0, 1) := by decide +kernel
theorem dX6_triples_16 : decode cX6_triples 16 = .ok (.iload_n 2, 1) := by decide +kernel
theorem dX6_triples_17 : decode cX6_triples 17 = .ok (.invokevirtual 146, 3) := by decide +kernel
theorem dX6_triples_20 : decode cX6_triples 20 = .ok (.invokestatic 140, 3) := by decide +kernel
theorem dX6_triples_23 : decode cX6_triples 23 = .ok (.aload_n 0, 1) := by decide +kernel
theorem dX6_triples_24 : decode cX6_triples 24 = .ok (.iload_n 2, 1) := by decide +kernel
theorem dX6_triples_25 : decode cX6_triples 25 = .ok (.invokevirtual 149, 3) := by decide +kernel
theorem dX6_triples_28 : decode cX6_triples 28 = .ok (.invokestatic 140, 3) := by decide +kernel
theorem dX6_triples_31 : decode cX6_triples 31 = .ok (.imul, 1) := by decide +kernel
theorem dX6_triples_32 : decode cX6_triples 32 = .ok (.iadd, 1) := by decide +kernel
theorem dX6_triples_33 : decode cX6_triples 33 = .ok (.istore_n 1, 1) := by decide +kernel
theorem dX6_triples_34 : decode cX6_triples 34 = .ok (.iinc 2 1, 3) := by decide +kernel
theorem dX6_triples_37 : decode cX6_triples 37 = .ok (.goto (-33), 3) := by decide +kernel
theorem dX6_triples_40 : decode cX6_triples 40 = .ok (.iload_n 1, 1) := by decide +kernel
theorem dX6_triples_41 : decode cX6_triples 41 = .ok (.ireturn, 1) := by decide +kernel
set_option maxRecDepth 20000 in
theorem ggX6_count_X6_setOf : GoodIn wsX6_count wsX6_setOf := goodIn_r _ [8, 1, 9, 10, 11, 7, 12, 13, 14, 15, 16, 82, 83, 84, 85, 86, 87, 88, 89, 90, 91, 92, 93, 94, 95, 96, 97] (by decide +kernel) (by decide +kernel)
set_option maxRecDepth 20000 in
theorem gX6_count_X6_setOf : GoodIn wsX6_count (wsV RX6 93 RX6 yX6_setOf wsX6_setOf) := goodIn_app (goodIn_of _ (by decide +kernel)) ggX6_count_X6_setOf
set_option maxRecDepth 20000 in
theorem ggX6_count_X6_edges : GoodIn wsX6_count wsX6_edges := goodIn_r _ [20, 1, 21, 22, 23, 7, 24, 25, 26, 27, 28, 13, 14, 15, 16, 29, 30, 31, 32, 9, 10, 11, 12, 33, 34, 35, 36, 37, 38, 39, 82, 83, 84, 85, 86, 87, 88, 89, 90, 91, 92, 93, 94, 95, 96, 97] (by decide +kernel) (by decide +kernel)
set_option maxRecDepth 20000 in
theorem gX6_count_X6_edges : GoodIn wsX6_count (wsV RX6 155 RX6 yX6_edges wsX6_edges) := goodIn_app (goodIn_of _ (by decide +kernel)) ggX6_count_X6_edges
set_option maxRecDepth 20000 in
theorem ggX6_count_X6_pivots : GoodIn wsX6_count wsX6_pivots := goodIn_r _ [43, 1, 21, 22, 23, 7, 24, 25, 26, 27, 28, 13, 14, 15, 16, 29, 30, 31, 32, 9, 10, 11, 12, 33, 34, 35, 36, 44, 45, 46, 47, 82, 83, 84, 85, 86, 87, 88, 89, 90, 91, 92, 93, 94, 95, 96, 97] (by decide +kernel) (by decide +kernel)
set_option maxRecDepth 20000 in
theorem gX6_count_X6_pivots : GoodIn wsX6_count (wsV RX6 158 RX6 yX6_pivots wsX6_pivots) := goodIn_app (goodIn_of _ (by decide +kernel)) ggX6_count_X6_pivots
set_option maxRecDepth 20000 in
theorem ggX6_count_X6_triples : GoodIn wsX6_count wsX6_triples := goodIn_r _ [51, 1, 21, 22, 23, 7, 24, 25, 26, 27, 28, 13, 14, 15, 16, 29, 30, 31, 32, 9, 10, 11, 12, 33, 34, 35, 36, 37, 38, 39, 44, 45, 46, 47, 82, 83, 84, 85, 86, 87, 88, 89, 90, 91, 92, 93, 94, 95, 96, 97] (by decide +kernel) (by decide +kernel)
set_option maxRecDepth 20000 in
theorem gX6_count_X6_triples : GoodIn wsX6_count (wsV RX6 161 RX6 yX6_triples wsX6_triples) := goodIn_app (goodIn_of _ (by decide +kernel)) ggX6_count_X6_triples
set_option maxRecDepth 20000 in
theorem ggX6_count_X6_isSerial : GoodIn wsX6_count wsX6_isSerial := goodIn_r _ [55, 56, 57, 58, 7, 59, 1, 60, 61, 62, 63, 64, 65, 9, 10, 11, 12, 13, 14, 15, 16, 66, 67, 68, 69, 70, 71, 72, 73, 74, 75, 76, 77, 78, 79, 80, 81, 4, 5, 6, 8, 37, 38, 39, 82, 83, 84, 85, 86, 87, 88, 89, 90, 91, 92, 93, 94, 95, 96, 97] (by decide +kernel) (by decide +kernel)
set_option maxRecDepth 20000 in
theorem gX6_count_X6_isSerial : GoodIn wsX6_count (wsV RX6 164 RX6 yX6_isSerial wsX6_isSerial) := goodIn_app (goodIn_of _ (by decide +kernel)) ggX6_count_X6_isSerial
theorem dX6_count_0 : decode cX6_count 0 = .ok (.iload_n 1, 1) := by decide +kernel
theorem dX6_count_1 : decode cX6_count 1 = .ok (.tableswitch 130 0 11 #[63, 70, 70, 70, 78, 85, 92, 97, 102, 107, 120, 125], 63) := by decide +kernel
theorem dX6_count_64 : decode cX6_count 64 = .ok (.aload_n 0, 1) := by decide +kernel
theorem dX6_count_65 : decode cX6_count 65 = .ok (.getfield 7, 3) := by decide +kernel
theorem dX6_count_68 : decode cX6_count 68 = .ok (.iconst 2, 1) := by decide +kernel
theorem dX6_count_69 : decode cX6_count 69 = .ok (.iaload, 1) := by decide +kernel
theorem dX6_count_70 : decode cX6_count 70 = .ok (.ireturn, 1) := by decide +kernel
theorem dX6_count_71 : decode cX6_count 71 = .ok (.aload_n 0, 1) := by decide +kernel
theorem dX6_count_72 : decode cX6_count 72 = .ok (.iload_n 1, 1) := by decide +kernel
theorem dX6_count_73 : decode cX6_count 73 = .ok (.iconst 1, 1) := by decide +kernel
theorem dX6_count_74 : decode cX6_count 74 = .ok (.isub, 1) := by decide +kernel
theorem dX6_count_75 : decode cX6_count 75 = .ok (.invokevirtual 93, 3) := by decide +kernel
theorem dX6_count_78 : decode cX6_count 78 = .ok (.ireturn, 1) := by decide +kernel
theorem dX6_count_79 : decode cX6_count 79 = .ok (.aload_n 0, 1) := by decide +kernel
theorem dX6_count_80 : decode cX6_count 80 = .ok (.getfield 7, 3) := by decide +kernel
theorem dX6_count_83 : decode cX6_count 83 = .ok (.iconst 1, 1) := by decide +kernel
theorem dX6_count_84 : decode cX6_count 84 = .ok (.iaload, 1) := by decide +kernel
theorem dX6_count_85 : decode cX6_count 85 = .ok (.ireturn, 1) := by decide +kernel
theorem dX6_count_86 : decode cX6_count 86 = .ok (.aload_n 0, 1) := by decide +kernel
theorem dX6_count_87 : decode cX6_count 87 = .ok (.getfield 7, 3) := by decide +kernel
theorem dX6_count_90 : decode cX6_count 90 = .ok (.iconst 0, 1) := by decide +kernel
theorem dX6_count_91 : decode cX6_count 91 = .ok (.iaload, 1) := by decide +kernel
theorem dX6_count_92 : decode cX6_count 92 = .ok (.ireturn, 1) := by decide +kernel
theorem dX6_count_93 : decode cX6_count 93 = .ok (.aload_n 0, 1) := by decide +kernel
theorem dX6_count_94 : decode cX6_count 94 = .ok (.invokevirtual 155, 3) := by decide +kernel
theorem dX6_count_97 : decode cX6_count 97 = .ok (.ireturn, 1) := by decide +kernel
theorem dX6_count_98 : decode cX6_count 98 = .ok (.aload_n 0, 1) := by decide +kernel
theorem dX6_count_99 : decode cX6_count 99 = .ok (.invokevirtual 158, 3) := by decide +kernel
theorem dX6_count_102 : decode cX6_count 102 = .ok (.ireturn, 1) := by decide +kernel
theorem dX6_count_103 : decode cX6_count 103 = .ok (.aload_n 0, 1) := by decide +kernel
theorem dX6_count_104 : decode cX6_count 104 = .ok (.invokevirtual 161, 3) := by decide +kernel
theorem dX6_count_107 : decode cX6_count 107 = .ok (.ireturn, 1) := by decide +kernel
theorem dX6_count_108 : decode cX6_count 108 = .ok (.aload_n 0, 1) := by decide +kernel
theorem dX6_count_109 : decode cX6_count 109 = .ok (.invokevirtual 164, 3) := by decide +kernel
theorem dX6_count_112 : decode cX6_count 112 = .ok (.ifCond .eq 7, 3) := by decide +kernel
theorem dX6_count_115 : decode cX6_count 115 = .ok (.iconst 1, 1) := by decide +kernel
theorem dX6_count_116 : decode cX6_count 116 = .ok (.goto 4, 3) := by decide +kernel
theorem dX6_count_119 : decode cX6_count 119 = .ok (.iconst 0, 1) := by decide +kernel
theorem dX6_count_120 : decode cX6_count 120 = .ok (.ireturn, 1) := by decide +kernel
theorem dX6_count_121 : decode cX6_count 121 = .ok (.aload_n 0, 1) := by decide +kernel
theorem dX6_count_122 : decode cX6_count 122 = .ok (.getfield 168, 3) := by decide +kernel
theorem dX6_count_125 : decode cX6_count 125 = .ok (.ireturn, 1) := by decide +kernel
theorem dX6_count_126 : decode cX6_count 126 = .ok (.aload_n 0, 1) := by decide +kernel
theorem dX6_count_127 : decode cX6_count 127 = .ok (.getfield 44, 3) := by decide +kernel
theorem dX6_count_130 : decode cX6_count 130 = .ok (.ireturn, 1) := by decide +kernel
theorem dX6_count_131 : decode cX6_count 131 = .ok (.bipush (-2), 2) := by decide +kernel
theorem dX6_count_133 : decode cX6_count 133 = .ok (.ireturn, 1) := by decide +kernel
theorem dX6_depend_0 : decode cX6_depend 0 = .ok (.iload_n 1, 1) := by decide +kernel
theorem dX6_depend_1 : decode cX6_depend 1 = .ok (.bipush (-6), 2) := by decide +kernel
theorem dX6_depend_3 : decode cX6_depend 3 = .ok (.if_icmp .eq 26, 3) := by decide +kernel
theorem dX6_depend_6 : decode cX6_depend 6 = .ok (.iload_n 2, 1) := by decide +kernel
theorem dX6_depend_7 : decode cX6_depend 7 = .ok (.bipush (-6), 2) := by decide +kernel
theorem dX6_depend_9 : decode cX6_depend 9 = .ok (.if_icmp .eq 20, 3) := by decide +kernel
theorem dX6_depend_12 : decode cX6_depend 12 = .ok (.iload_n 1, 1) := by decide +kernel
theorem dX6_depend_13 : decode cX6_depend 13 = .ok (.iload_n 2, 1) := by decide +kernel
theorem dX6_depend_14 : decode cX6_depend 14 = .ok (.if_icmp .eq 15, 3) := by decide +kernel
theorem dX6_depend_17 : decode cX6_depend 17 = .ok (.aload_n 0, 1) := by decide +kernel
theorem dX6_depend_18 : decode cX6_depend 18 = .ok (.getfield 27, 3) := by decide +kernel
theorem dX6_depend_21 : decode cX6_depend 21 = .ok (.iload_n 2, 1) := by decide +kernel
theorem dX6_depend_22 : decode cX6_depend 22 = .ok (.dup2, 1) := by decide +kernel
theorem dX6_depend_23 : decode cX6_depend 23 = .ok (.iaload, 1) := by decide +kernel
theorem dX6_depend_24 : decode cX6_depend 24 = .ok (.iconst 1, 1) := by decide +kernel
theorem dX6_depend_25 : decode cX6_depend 25 = .ok (.iload_n 1, 1) := by decide +kernel
theorem dX6_depend_26 : decode cX6_depend 26 = .ok (.ishl, 1) := by decide +kernel
theorem dX6_depend_27 : decode cX6_depend 27 = .ok (.ior, 1) := by decide +kernel
theorem dX6_depend_28 : decode cX6_depend 28 = .ok (.iastore, 1) := by decide +kernel
theorem dX6_depend_29 : decode cX6_depend 29 = .ok (.return_, 1) := by decide +kernel
set_option maxRecDepth 20000 in
theorem ggX6_layAhead_X6_isIn : GoodIn wsX6_layAhead wsX6_isIn := goodIn_r _ [7, 8, 9, 10, 6, 11, 2, 28, 29, 30, 31, 32, 33, 34, 35, 36, 37, 38, 39, 40, 41, 42, 43] (by decide +kernel) (by decide +kernel)
set_option maxRecDepth 20000 in
theorem gX6_layAhead_X6_isIn : GoodIn wsX6_layAhead (wsV RX6 51 RX6 yX6_isIn wsX6_isIn) := goodIn_app (goodIn_of _ (by decide +kernel)) ggX6_layAhead_X6_isIn
set_option maxRecDepth 20000 in
theorem ggX6_layAhead_X6_wrote : GoodIn wsX6_layAhead wsX6_wrote := goodIn_r _ [15, 8, 9, 10, 6, 11, 2, 28, 29, 30, 31, 32, 33, 34, 35, 36, 37, 38, 39, 40, 41, 42, 43] (by decide +kernel) (by decide +kernel)
set_option maxRecDepth 20000 in
theorem gX6_layAhead_X6_wrote : GoodIn wsX6_layAhead (wsV RX6 55 RX6 yX6_wrote wsX6_wrote) := goodIn_app (goodIn_of _ (by decide +kernel)) ggX6_layAhead_X6_wrote
set_option maxRecDepth 20000 in
theorem ggX6_layAhead_X6_its : GoodIn wsX6_layAhead wsX6_its := goodIn_r _ [11, 2, 28, 29, 30, 31, 32, 33, 34, 35, 36, 37, 38, 39, 40, 41, 42, 43] (by decide +kernel) (by decide +kernel)
set_option maxRecDepth 20000 in
theorem gX6_layAhead_X6_its : GoodIn wsX6_layAhead (wsV RX6 40 RX6 yX6_its wsX6_its) := goodIn_app (goodIn_of _ (by decide +kernel)) ggX6_layAhead_X6_its
set_option maxRecDepth 20000 in
theorem ggX6_layAhead_X6_writerBehind : GoodIn wsX6_layAhead wsX6_writerBehind := goodIn_r _ [19, 2, 3, 4, 5, 6, 7, 8, 9, 10, 11, 12, 13, 14, 15, 28, 29, 30, 31, 32, 33, 34, 35, 36, 37, 38, 39, 40, 41, 42, 43] (by decide +kernel) (by decide +kernel)
set_option maxRecDepth 20000 in
theorem gX6_layAhead_X6_writerBehind : GoodIn wsX6_layAhead (wsV RX6 83 RX6 yX6_writerBehind wsX6_writerBehind) := goodIn_app (goodIn_of _ (by decide +kernel)) ggX6_layAhead_X6_writerBehind
set_option maxRecDepth 20000 in
theorem ggX6_layAhead_X6_depend : GoodIn wsX6_layAhead wsX6_depend := goodIn_r _ [23, 1, 28, 29, 30, 31, 32, 33, 34, 35, 36, 37, 38, 39, 40, 41, 42, 43] (by decide +kernel) (by decide +kernel)
set_option maxRecDepth 20000 in
theorem gX6_layAhead_X6_depend : GoodIn wsX6_layAhead (wsV RX6 171 RX6 yX6_depend wsX6_depend) := goodIn_app (goodIn_of _ (by decide +kernel)) ggX6_layAhead_X6_depend
set_option maxRecDepth 20000 in
theorem ggX6_layAhead_X6_writerAhead : GoodIn wsX6_layAhead wsX6_writerAhead := goodIn_r _ [27, 2, 3, 4, 5, 6, 7, 8, 9, 10, 11, 12, 13, 14, 15, 28, 29, 30, 31, 32, 33, 34, 35, 36, 37, 38, 39, 40, 41, 42, 43] (by decide +kernel) (by decide +kernel)
set_option maxRecDepth 20000 in
theorem gX6_layAhead_X6_writerAhead : GoodIn wsX6_layAhead (wsV RX6 108 RX6 yX6_writerAhead wsX6_writerAhead) := goodIn_app (goodIn_of _ (by decide +kernel)) ggX6_layAhead_X6_writerAhead
theorem dX6_layAhead_0 : decode cX6_layAhead 0 = .ok (.iconst 0, 1) := by decide +kernel
theorem dX6_layAhead_1 : decode cX6_layAhead 1 = .ok (.istore_n 1, 1) := by decide +kernel
theorem dX6_layAhead_2 : decode cX6_layAhead 2 = .ok (.iload_n 1, 1) := by decide +kernel
theorem dX6_layAhead_3 : decode cX6_layAhead 3 = .ok (.bipush 12, 2) := by decide +kernel
theorem dX6_layAhead_5 : decode cX6_layAhead 5 = .ok (.if_icmp .ge 16, 3) := by decide +kernel
theorem dX6_layAhead_8 : decode cX6_layAhead 8 = .ok (.aload_n 0, 1) := by decide +kernel
theorem dX6_layAhead_9 : decode cX6_layAhead 9 = .ok (.getfield 27, 3) := by decide +kernel
theorem dX6_layAhead_12 : decode cX6_layAhead 12 = .ok (.iload_n 1, 1) := by decide +kernel
theorem dX6_layAhead_13 : decode cX6_layAhead 13 = .ok (.iconst 0, 1) := by decide +kernel
theorem dX6_layAhead_14 : decode cX6_layAhead 14 = .ok (.iastore, 1) := by decide +kernel
theorem dX6_layAhead_15 : decode cX6_layAhead 15 = .ok (.iinc 1 1, 3) := by decide +kernel
theorem dX6_layAhead_18 : decode cX6_layAhead 18 = .ok (.goto (-16), 3) := by decide +kernel
theorem dX6_layAhead_21 : decode cX6_layAhead 21 = .ok (.iconst 0, 1) := by decide +kernel
theorem dX6_layAhead_22 : decode cX6_layAhead 22 = .ok (.istore_n 1, 1) := by decide +kernel
theorem dX6_layAhead_23 : decode cX6_layAhead 23 = .ok (.iload_n 1, 1) := by decide +kernel
theorem dX6_layAhead_24 : decode cX6_layAhead 24 = .ok (.aload_n 0, 1) := by decide +kernel
theorem dX6_layAhead_25 : decode cX6_layAhead 25 = .ok (.getfield 7, 3) := by decide +kernel
theorem dX6_layAhead_28 : decode cX6_layAhead 28 = .ok (.iconst 2, 1) := by decide +kernel
theorem dX6_layAhead_29 : decode cX6_layAhead 29 = .ok (.iaload, 1) := by decide +kernel
theorem dX6_layAhead_30 : decode cX6_layAhead 30 = .ok (.if_icmp .ge 115, 3) := by decide +kernel
theorem dX6_layAhead_33 : decode cX6_layAhead 33 = .ok (.iconst 0, 1) := by decide +kernel
theorem dX6_layAhead_34 : decode cX6_layAhead 34 = .ok (.istore_n 2, 1) := by decide +kernel
theorem dX6_layAhead_35 : decode cX6_layAhead 35 = .ok (.iload_n 2, 1) := by decide +kernel
theorem dX6_layAhead_36 : decode cX6_layAhead 36 = .ok (.bipush 16, 2) := by decide +kernel
theorem dX6_layAhead_38 : decode cX6_layAhead 38 = .ok (.if_icmp .ge 101, 3) := by decide +kernel
theorem dX6_layAhead_41 : decode cX6_layAhead 41 = .ok (.aload_n 0, 1) := by decide +kernel
theorem dX6_layAhead_42 : decode cX6_layAhead 42 = .ok (.iload_n 1, 1) := by decide +kernel
theorem dX6_layAhead_43 : decode cX6_layAhead 43 = .ok (.iconst 1, 1) := by decide +kernel
theorem dX6_layAhead_44 : decode cX6_layAhead 44 = .ok (.invokevirtual 51, 3) := by decide +kernel
theorem dX6_layAhead_47 : decode cX6_layAhead 47 = .ok (.ifCond .eq 92, 3) := by decide +kernel
theorem dX6_layAhead_50 : decode cX6_layAhead 50 = .ok (.aload_n 0, 1) := by decide +kernel
theorem dX6_layAhead_51 : decode cX6_layAhead 51 = .ok (.iload_n 1, 1) := by decide +kernel
theorem dX6_layAhead_52 : decode cX6_layAhead 52 = .ok (.iload_n 2, 1) := by decide +kernel
theorem dX6_layAhead_53 : decode cX6_layAhead 53 = .ok (.invokevirtual 55, 3) := by decide +kernel
theorem dX6_layAhead_56 : decode cX6_layAhead 56 = .ok (.ifCond .eq 19, 3) := by decide +kernel
theorem dX6_layAhead_59 : decode cX6_layAhead 59 = .ok (.aload_n 0, 1) := by decide +kernel
theorem dX6_layAhead_60 : decode cX6_layAhead 60 = .ok (.iload_n 1, 1) := by decide +kernel
theorem dX6_layAhead_61 : decode cX6_layAhead 61 = .ok (.aload_n 0, 1) := by decide +kernel
theorem dX6_layAhead_62 : decode cX6_layAhead 62 = .ok (.iload_n 2, 1) := by decide +kernel
theorem dX6_layAhead_63 : decode cX6_layAhead 63 = .ok (.aload_n 0, 1) := by decide +kernel
theorem dX6_layAhead_64 : decode cX6_layAhead 64 = .ok (.iload_n 1, 1) := by decide +kernel
theorem dX6_layAhead_65 : decode cX6_layAhead 65 = .ok (.iconst 2, 1) := by decide +kernel
theorem dX6_layAhead_66 : decode cX6_layAhead 66 = .ok (.invokevirtual 40, 3) := by decide +kernel
theorem dX6_layAhead_69 : decode cX6_layAhead 69 = .ok (.invokevirtual 83, 3) := by decide +kernel
theorem dX6_layAhead_72 : decode cX6_layAhead 72 = .ok (.invokevirtual 171, 3) := by decide +kernel
theorem dX6_layAhead_75 : decode cX6_layAhead 75 = .ok (.aload_n 0, 1) := by decide +kernel
theorem dX6_layAhead_76 : decode cX6_layAhead 76 = .ok (.iload_n 1, 1) := by decide +kernel
theorem dX6_layAhead_77 : decode cX6_layAhead 77 = .ok (.iconst 3, 1) := by decide +kernel
theorem dX6_layAhead_78 : decode cX6_layAhead 78 = .ok (.invokevirtual 40, 3) := by decide +kernel
theorem dX6_layAhead_81 : decode cX6_layAhead 81 = .ok (.iload_n 2, 1) := by decide +kernel
theorem dX6_layAhead_82 : decode cX6_layAhead 82 = .ok (.ishr, 1) := by decide +kernel
theorem dX6_layAhead_83 : decode cX6_layAhead 83 = .ok (.iconst 1, 1) := by decide +kernel
theorem dX6_layAhead_84 : decode cX6_layAhead 84 = .ok (.iand, 1) := by decide +kernel
theorem dX6_layAhead_85 : decode cX6_layAhead 85 = .ok (.iconst 1, 1) := by decide +kernel
theorem dX6_layAhead_86 : decode cX6_layAhead 86 = .ok (.if_icmp .ne 47, 3) := by decide +kernel
theorem dX6_layAhead_89 : decode cX6_layAhead 89 = .ok (.aload_n 0, 1) := by decide +kernel
theorem dX6_layAhead_90 : decode cX6_layAhead 90 = .ok (.iload_n 2, 1) := by decide +kernel
theorem dX6_layAhead_91 : decode cX6_layAhead 91 = .ok (.aload_n 0, 1) := by decide +kernel
theorem dX6_layAhead_92 : decode cX6_layAhead 92 = .ok (.iload_n 1, 1) := by decide +kernel
theorem dX6_layAhead_93 : decode cX6_layAhead 93 = .ok (.iconst 1, 1) := by decide +kernel
theorem dX6_layAhead_94 : decode cX6_layAhead 94 = .ok (.invokevirtual 40, 3) := by decide +kernel
theorem dX6_layAhead_97 : decode cX6_layAhead 97 = .ok (.invokevirtual 108, 3) := by decide +kernel
theorem dX6_layAhead_100 : decode cX6_layAhead 100 = .ok (.istore_n 3, 1) := by decide +kernel
theorem dX6_layAhead_101 : decode cX6_layAhead 101 = .ok (.aload_n 0, 1) := by decide +kernel
theorem dX6_layAhead_102 : decode cX6_layAhead 102 = .ok (.iload_n 3, 1) := by decide +kernel
theorem dX6_layAhead_103 : decode cX6_layAhead 103 = .ok (.iload_n 1, 1) := by decide +kernel
theorem dX6_layAhead_104 : decode cX6_layAhead 104 = .ok (.invokevirtual 171, 3) := by decide +kernel
theorem dX6_layAhead_107 : decode cX6_layAhead 107 = .ok (.aload_n 0, 1) := by decide +kernel
theorem dX6_layAhead_108 : decode cX6_layAhead 108 = .ok (.iload_n 1, 1) := by decide +kernel
theorem dX6_layAhead_109 : decode cX6_layAhead 109 = .ok (.aload_n 0, 1) := by decide +kernel
theorem dX6_layAhead_110 : decode cX6_layAhead 110 = .ok (.iload_n 2, 1) := by decide +kernel
theorem dX6_layAhead_111 : decode cX6_layAhead 111 = .ok (.iload_n 3, 1) := by decide +kernel
theorem dX6_layAhead_112 : decode cX6_layAhead 112 = .ok (.bipush (-6), 2) := by decide +kernel
theorem dX6_layAhead_114 : decode cX6_layAhead 114 = .ok (.if_icmp .ne 7, 3) := by decide +kernel
theorem dX6_layAhead_117 : decode cX6_layAhead 117 = .ok (.iconst 0, 1) := by decide +kernel
theorem dX6_layAhead_118 : decode cX6_layAhead 118 = .ok (.goto 9, 3) := by decide +kernel
theorem dX6_layAhead_121 : decode cX6_layAhead 121 = .ok (.aload_n 0, 1) := by decide +kernel
theorem dX6_layAhead_122 : decode cX6_layAhead 122 = .ok (.iload_n 3, 1) := by decide +kernel
theorem dX6_layAhead_123 : decode cX6_layAhead 123 = .ok (.iconst 2, 1) := by decide +kernel
theorem dX6_layAhead_124 : decode cX6_layAhead 124 = .ok (.invokevirtual 40, 3) := by decide +kernel
theorem dX6_layAhead_127 : decode cX6_layAhead 127 = .ok (.invokevirtual 83, 3) := by decide +kernel
theorem dX6_layAhead_130 : decode cX6_layAhead 130 = .ok (.invokevirtual 171, 3) := by decide +kernel
theorem dX6_layAhead_133 : decode cX6_layAhead 133 = .ok (.iinc 2 1, 3) := by decide +kernel
theorem dX6_layAhead_136 : decode cX6_layAhead 136 = .ok (.goto (-101), 3) := by decide +kernel
theorem dX6_layAhead_139 : decode cX6_layAhead 139 = .ok (.iinc 1 1, 3) := by decide +kernel
theorem dX6_layAhead_142 : decode cX6_layAhead 142 = .ok (.goto (-119), 3) := by decide +kernel
theorem dX6_layAhead_145 : decode cX6_layAhead 145 = .ok (.return_, 1) := by decide +kernel
set_option maxRecDepth 20000 in
theorem ggX6_layOrder_X6_layAhead : GoodIn wsX6_layOrder wsX6_layAhead := goodIn_r _ [8, 2, 1, 9, 10, 11, 7, 12, 13, 14, 15, 16, 17, 18, 19, 20, 21, 22, 23, 24, 25, 26, 27, 28, 29, 30, 31, 32, 37, 38, 39, 40, 41, 42, 43, 44, 45, 46, 47, 48, 49, 50, 51, 52] (by decide +kernel) (by decide +kernel)
set_option maxRecDepth 20000 in
theorem gX6_layOrder_X6_layAhead : GoodIn wsX6_layOrder (wsV RX6 174 RX6 yX6_layAhead wsX6_layAhead) := goodIn_app (goodIn_of _ (by decide +kernel)) ggX6_layOrder_X6_layAhead
set_option maxRecDepth 20000 in
theorem ggX6_layOrder_X6_setOf : GoodIn wsX6_layOrder wsX6_setOf := goodIn_r _ [36, 1, 9, 10, 11, 7, 12, 13, 14, 15, 16, 37, 38, 39, 40, 41, 42, 43, 44, 45, 46, 47, 48, 49, 50, 51, 52] (by decide +kernel) (by decide +kernel)
set_option maxRecDepth 20000 in
theorem gX6_layOrder_X6_setOf : GoodIn wsX6_layOrder (wsV RX6 93 RX6 yX6_setOf wsX6_setOf) := goodIn_app (goodIn_of _ (by decide +kernel)) ggX6_layOrder_X6_setOf
theorem dX6_layOrder_0 : decode cX6_layOrder 0 = .ok (.aload_n 0, 1) := by decide +kernel
theorem dX6_layOrder_1 : decode cX6_layOrder 1 = .ok (.invokevirtual 174, 3) := by decide +kernel
theorem dX6_layOrder_4 : decode cX6_layOrder 4 = .ok (.aload_n 0, 1) := by decide +kernel
theorem dX6_layOrder_5 : decode cX6_layOrder 5 = .ok (.iconst 1, 1) := by decide +kernel
theorem dX6_layOrder_6 : decode cX6_layOrder 6 = .ok (.invokevirtual 93, 3) := by decide +kernel
theorem dX6_layOrder_9 : decode cX6_layOrder 9 = .ok (.istore_n 1, 1) := by decide +kernel
theorem dX6_layOrder_10 : decode cX6_layOrder 10 = .ok (.iconst 0, 1) := by decide +kernel
theorem dX6_layOrder_11 : decode cX6_layOrder 11 = .ok (.istore_n 2, 1) := by decide +kernel
theorem dX6_layOrder_12 : decode cX6_layOrder 12 = .ok (.iconst 1, 1) := by decide +kernel
theorem dX6_layOrder_13 : decode cX6_layOrder 13 = .ok (.istore_n 3, 1) := by decide +kernel
theorem dX6_layOrder_14 : decode cX6_layOrder 14 = .ok (.iload_n 3, 1) := by decide +kernel
theorem dX6_layOrder_15 : decode cX6_layOrder 15 = .ok (.ifCond .eq 99, 3) := by decide +kernel
theorem dX6_layOrder_18 : decode cX6_layOrder 18 = .ok (.bipush (-6), 2) := by decide +kernel
theorem dX6_layOrder_20 : decode cX6_layOrder 20 = .ok (.istore 4, 2) := by decide +kernel
theorem dX6_layOrder_22 : decode cX6_layOrder 22 = .ok (.aload_n 0, 1) := by decide +kernel
theorem dX6_layOrder_23 : decode cX6_layOrder 23 = .ok (.getfield 7, 3) := by decide +kernel
theorem dX6_layOrder_26 : decode cX6_layOrder 26 = .ok (.iconst 2, 1) := by decide +kernel
theorem dX6_layOrder_27 : decode cX6_layOrder 27 = .ok (.iaload, 1) := by decide +kernel
theorem dX6_layOrder_28 : decode cX6_layOrder 28 = .ok (.iconst 1, 1) := by decide +kernel
theorem dX6_layOrder_29 : decode cX6_layOrder 29 = .ok (.isub, 1) := by decide +kernel
theorem dX6_layOrder_30 : decode cX6_layOrder 30 = .ok (.istore 5, 2) := by decide +kernel
theorem dX6_layOrder_32 : decode cX6_layOrder 32 = .ok (.iload 5, 2) := by decide +kernel
theorem dX6_layOrder_34 : decode cX6_layOrder 34 = .ok (.ifCond .lt 40, 3) := by decide +kernel
theorem dX6_layOrder_37 : decode cX6_layOrder 37 = .ok (.iload_n 1, 1) := by decide +kernel
theorem dX6_layOrder_38 : decode cX6_layOrder 38 = .ok (.iload 5, 2) := by decide +kernel
theorem dX6_layOrder_40 : decode cX6_layOrder 40 = .ok (.ishr, 1) := by decide +kernel
theorem dX6_layOrder_41 : decode cX6_layOrder 41 = .ok (.iconst 1, 1) := by decide +kernel
theorem dX6_layOrder_42 : decode cX6_layOrder 42 = .ok (.iand, 1) := by decide +kernel
theorem dX6_layOrder_43 : decode cX6_layOrder 43 = .ok (.iconst 1, 1) := by decide +kernel
theorem dX6_layOrder_44 : decode cX6_layOrder 44 = .ok (.if_icmp .ne 20, 3) := by decide +kernel
theorem dX6_layOrder_47 : decode cX6_layOrder 47 = .ok (.aload_n 0, 1) := by decide +kernel
theorem dX6_layOrder_48 : decode cX6_layOrder 48 = .ok (.getfield 27, 3) := by decide +kernel
theorem dX6_layOrder_51 : decode cX6_layOrder 51 = .ok (.iload 5, 2) := by decide +kernel
theorem dX6_layOrder_53 : decode cX6_layOrder 53 = .ok (.iaload, 1) := by decide +kernel
theorem dX6_layOrder_54 : decode cX6_layOrder 54 = .ok (.iload_n 1, 1) := by decide +kernel
theorem dX6_layOrder_55 : decode cX6_layOrder 55 = .ok (.iand, 1) := by decide +kernel
theorem dX6_layOrder_56 : decode cX6_layOrder 56 = .ok (.ifCond .ne 8, 3) := by decide +kernel
theorem dX6_layOrder_59 : decode cX6_layOrder 59 = .ok (.iload 5, 2) := by decide +kernel
theorem dX6_layOrder_61 : decode cX6_layOrder 61 = .ok (.goto 5, 3) := by decide +kernel
theorem dX6_layOrder_64 : decode cX6_layOrder 64 = .ok (.iload 4, 2) := by decide +kernel
theorem dX6_layOrder_66 : decode cX6_layOrder 66 = .ok (.istore 4, 2) := by decide +kernel
theorem dX6_layOrder_68 : decode cX6_layOrder 68 = .ok (.iinc 5 (-1), 3) := by decide +kernel
theorem dX6_layOrder_71 : decode cX6_layOrder 71 = .ok (.goto (-39), 3) := by decide +kernel
theorem dX6_layOrder_74 : decode cX6_layOrder 74 = .ok (.iload 4, 2) := by decide +kernel
theorem dX6_layOrder_76 : decode cX6_layOrder 76 = .ok (.bipush (-6), 2) := by decide +kernel
theorem dX6_layOrder_78 : decode cX6_layOrder 78 = .ok (.if_icmp .eq 7, 3) := by decide +kernel
theorem dX6_layOrder_81 : decode cX6_layOrder 81 = .ok (.iconst 1, 1) := by decide +kernel
theorem dX6_layOrder_82 : decode cX6_layOrder 82 = .ok (.goto 4, 3) := by decide +kernel
theorem dX6_layOrder_85 : decode cX6_layOrder 85 = .ok (.iconst 0, 1) := by decide +kernel
theorem dX6_layOrder_86 : decode cX6_layOrder 86 = .ok (.istore_n 3, 1) := by decide +kernel
theorem dX6_layOrder_87 : decode cX6_layOrder 87 = .ok (.iload_n 3, 1) := by decide +kernel
theorem dX6_layOrder_88 : decode cX6_layOrder 88 = .ok (.ifCond .eq 23, 3) := by decide +kernel
theorem dX6_layOrder_91 : decode cX6_layOrder 91 = .ok (.aload_n 0, 1) := by decide +kernel
theorem dX6_layOrder_92 : decode cX6_layOrder 92 = .ok (.getfield 30, 3) := by decide +kernel
theorem dX6_layOrder_95 : decode cX6_layOrder 95 = .ok (.iload_n 2, 1) := by decide +kernel
theorem dX6_layOrder_96 : decode cX6_layOrder 96 = .ok (.iload 4, 2) := by decide +kernel
theorem dX6_layOrder_98 : decode cX6_layOrder 98 = .ok (.iastore, 1) := by decide +kernel
theorem dX6_layOrder_99 : decode cX6_layOrder 99 = .ok (.iinc 2 1, 3) := by decide +kernel
theorem dX6_layOrder_102 : decode cX6_layOrder 102 = .ok (.iload_n 1, 1) := by decide +kernel
theorem dX6_layOrder_103 : decode cX6_layOrder 103 = .ok (.iconst 1, 1) := by decide +kernel
theorem dX6_layOrder_104 : decode cX6_layOrder 104 = .ok (.iload 4, 2) := by decide +kernel
theorem dX6_layOrder_106 : decode cX6_layOrder 106 = .ok (.ishl, 1) := by decide +kernel
theorem dX6_layOrder_107 : decode cX6_layOrder 107 = .ok (.iconst (-1), 1) := by decide +kernel
theorem dX6_layOrder_108 : decode cX6_layOrder 108 = .ok (.ixor, 1) := by decide +kernel
theorem dX6_layOrder_109 : decode cX6_layOrder 109 = .ok (.iand, 1) := by decide +kernel
theorem dX6_layOrder_110 : decode cX6_layOrder 110 = .ok (.istore_n 1, 1) := by decide +kernel
theorem dX6_layOrder_111 : decode cX6_layOrder 111 = .ok (.goto (-97), 3) := by decide +kernel
theorem dX6_layOrder_114 : decode cX6_layOrder 114 = .ok (.iload_n 2, 1) := by decide +kernel
theorem dX6_layOrder_115 : decode cX6_layOrder 115 = .ok (.ireturn, 1) := by decide +kernel
set_option maxRecDepth 20000 in
theorem ggX6_isSerial_X6_layOrder : GoodIn wsX6_isSerial wsX6_layOrder := goodIn_r _ [5, 6, 7, 8, 9, 10, 11, 4, 12, 13, 14, 15, 16, 17, 18, 19, 20, 21, 22, 23, 24, 25, 26, 27, 28, 29, 30, 31, 32, 33, 34, 35, 36, 37, 38, 39, 40, 44, 45, 46, 47, 48, 49, 50, 51, 52, 53, 54, 55, 56, 57, 58, 59] (by decide +kernel) (by decide +kernel)
set_option maxRecDepth 20000 in
theorem gX6_isSerial_X6_layOrder : GoodIn wsX6_isSerial (wsV RX6 177 RX6 yX6_layOrder wsX6_layOrder) := goodIn_app (goodIn_of _ (by decide +kernel)) ggX6_isSerial_X6_layOrder
set_option maxRecDepth 20000 in
theorem ggX6_isSerial_X6_setOf : GoodIn wsX6_isSerial wsX6_setOf := goodIn_r _ [40, 6, 13, 14, 15, 4, 16, 17, 18, 19, 20, 44, 45, 46, 47, 48, 49, 50, 51, 52, 53, 54, 55, 56, 57, 58, 59] (by decide +kernel) (by decide +kernel)
set_option maxRecDepth 20000 in
theorem gX6_isSerial_X6_setOf : GoodIn wsX6_isSerial (wsV RX6 93 RX6 yX6_setOf wsX6_setOf) := goodIn_app (goodIn_of _ (by decide +kernel)) ggX6_isSerial_X6_setOf
set_option maxRecDepth 20000 in
theorem ggX6_isSerial_X6_bits : GoodIn wsX6_isSerial wsX6_bits := goodIn_r _ [43] (by decide +kernel) (by decide +kernel)
set_option maxRecDepth 20000 in
theorem gX6_isSerial_X6_bits : GoodIn wsX6_isSerial (va_wsS RX6 140 yX6_bits wsX6_bits) := goodIn_app (goodIn_of _ (by decide +kernel)) ggX6_isSerial_X6_bits
theorem dX6_isSerial_0 : decode cX6_isSerial 0 = .ok (.aload_n 0, 1) := by decide +kernel
theorem dX6_isSerial_1 : decode cX6_isSerial 1 = .ok (.invokevirtual 177, 3) := by decide +kernel
theorem dX6_isSerial_4 : decode cX6_isSerial 4 = .ok (.aload_n 0, 1) := by decide +kernel
theorem dX6_isSerial_5 : decode cX6_isSerial 5 = .ok (.iconst 1, 1) := by decide +kernel
theorem dX6_isSerial_6 : decode cX6_isSerial 6 = .ok (.invokevirtual 93, 3) := by decide +kernel
theorem dX6_isSerial_9 : decode cX6_isSerial 9 = .ok (.invokestatic 140, 3) := by decide +kernel
theorem dX6_isSerial_12 : decode cX6_isSerial 12 = .ok (.if_icmp .ne 7, 3) := by decide +kernel
theorem dX6_isSerial_15 : decode cX6_isSerial 15 = .ok (.iconst 1, 1) := by decide +kernel
theorem dX6_isSerial_16 : decode cX6_isSerial 16 = .ok (.goto 4, 3) := by decide +kernel
theorem dX6_isSerial_19 : decode cX6_isSerial 19 = .ok (.iconst 0, 1) := by decide +kernel
theorem dX6_isSerial_20 : decode cX6_isSerial 20 = .ok (.ireturn, 1) := by decide +kernel
set_option maxRecDepth 20000 in
theorem ggX6_order_X6_setOf : GoodIn wsX6_order wsX6_setOf := goodIn_r _ [6, 7, 8, 9, 10, 5, 11, 12, 13, 14, 15, 48, 49, 50, 51, 52, 53, 54, 55, 56, 57, 58, 59, 60, 61, 62, 63] (by decide +kernel) (by decide +kernel)
set_option maxRecDepth 20000 in
theorem gX6_order_X6_setOf : GoodIn wsX6_order (wsV RX6 93 RX6 yX6_setOf wsX6_setOf) := goodIn_app (goodIn_of _ (by decide +kernel)) ggX6_order_X6_setOf
set_option maxRecDepth 20000 in
theorem ggX6_order_X6_bits : GoodIn wsX6_order wsX6_bits := goodIn_r _ [18] (by decide +kernel) (by decide +kernel)
set_option maxRecDepth 20000 in
theorem gX6_order_X6_bits : GoodIn wsX6_order (va_wsS RX6 140 yX6_bits wsX6_bits) := goodIn_app (goodIn_of _ (by decide +kernel)) ggX6_order_X6_bits
set_option maxRecDepth 20000 in
theorem ggX6_order_X6_isSerial : GoodIn wsX6_order wsX6_isSerial := goodIn_r _ [22, 23, 24, 25, 5, 26, 7, 27, 1, 28, 29, 30, 31, 8, 9, 10, 11, 12, 13, 14, 15, 32, 33, 34, 35, 36, 37, 38, 39, 40, 41, 42, 43, 44, 45, 46, 47, 2, 3, 4, 6, 16, 17, 18, 48, 49, 50, 51, 52, 53, 54, 55, 56, 57, 58, 59, 60, 61, 62, 63] (by decide +kernel) (by decide +kernel)
set_option maxRecDepth 20000 in
theorem gX6_order_X6_isSerial : GoodIn wsX6_order (wsV RX6 164 RX6 yX6_isSerial wsX6_isSerial) := goodIn_app (goodIn_of _ (by decide +kernel)) ggX6_order_X6_isSerial
theorem dX6_order_0 : decode cX6_order 0 = .ok (.iload_n 1, 1) := by decide +kernel
theorem dX6_order_1 : decode cX6_order 1 = .ok (.ifCond .lt 15, 3) := by decide +kernel
theorem dX6_order_4 : decode cX6_order 4 = .ok (.iload_n 1, 1) := by decide +kernel
theorem dX6_order_5 : decode cX6_order 5 = .ok (.aload_n 0, 1) := by decide +kernel
theorem dX6_order_6 : decode cX6_order 6 = .ok (.iconst 1, 1) := by decide +kernel
theorem dX6_order_7 : decode cX6_order 7 = .ok (.invokevirtual 93, 3) := by decide +kernel
theorem dX6_order_10 : decode cX6_order 10 = .ok (.invokestatic 140, 3) := by decide +kernel
theorem dX6_order_13 : decode cX6_order 13 = .ok (.if_icmp .lt 5, 3) := by decide +kernel
theorem dX6_order_16 : decode cX6_order 16 = .ok (.iconst (-1), 1) := by decide +kernel
theorem dX6_order_17 : decode cX6_order 17 = .ok (.ireturn, 1) := by decide +kernel
theorem dX6_order_18 : decode cX6_order 18 = .ok (.aload_n 0, 1) := by decide +kernel
theorem dX6_order_19 : decode cX6_order 19 = .ok (.invokevirtual 164, 3) := by decide +kernel
theorem dX6_order_22 : decode cX6_order 22 = .ok (.ifCond .eq 12, 3) := by decide +kernel
theorem dX6_order_25 : decode cX6_order 25 = .ok (.aload_n 0, 1) := by decide +kernel
theorem dX6_order_26 : decode cX6_order 26 = .ok (.getfield 30, 3) := by decide +kernel
theorem dX6_order_29 : decode cX6_order 29 = .ok (.iload_n 1, 1) := by decide +kernel
theorem dX6_order_30 : decode cX6_order 30 = .ok (.iaload, 1) := by decide +kernel
theorem dX6_order_31 : decode cX6_order 31 = .ok (.goto 5, 3) := by decide +kernel
theorem dX6_order_34 : decode cX6_order 34 = .ok (.bipush (-5), 2) := by decide +kernel
theorem dX6_order_36 : decode cX6_order 36 = .ok (.ireturn, 1) := by decide +kernel
set_option maxRecDepth 20000 in
theorem ggX6_sees_X6_isTransaction : GoodIn wsX6_sees wsX6_isTransaction := goodIn_r _ [5, 6, 33, 34, 35, 36, 37, 38, 39, 40, 41, 42, 43, 44, 45, 46, 47, 48] (by decide +kernel) (by decide +kernel)
set_option maxRecDepth 20000 in
theorem gX6_sees_X6_isTransaction : GoodIn wsX6_sees (wsV RX6 101 RX6 yX6_isTransaction wsX6_isTransaction) := goodIn_app (goodIn_of _ (by decide +kernel)) ggX6_sees_X6_isTransaction
set_option maxRecDepth 20000 in
theorem ggX6_sees_X6_isKey : GoodIn wsX6_sees wsX6_isKey := goodIn_r _ [9, 10, 11, 4, 12] (by decide +kernel) (by decide +kernel)
set_option maxRecDepth 20000 in
theorem gX6_sees_X6_isKey : GoodIn wsX6_sees (va_wsS RX6 105 yX6_isKey wsX6_isKey) := goodIn_app (goodIn_of _ (by decide +kernel)) ggX6_sees_X6_isKey
set_option maxRecDepth 20000 in
theorem ggX6_sees_X6_writerSeen : GoodIn wsX6_sees wsX6_writerSeen := goodIn_r _ [16, 17, 18, 19, 4, 20, 21, 22, 23, 24, 6, 25, 26, 27, 28, 29, 30, 31, 32, 33, 34, 35, 36, 37, 38, 39, 40, 41, 42, 43, 44, 45, 46, 47, 48] (by decide +kernel) (by decide +kernel)
set_option maxRecDepth 20000 in
theorem gX6_sees_X6_writerSeen : GoodIn wsX6_sees (wsV RX6 111 RX6 yX6_writerSeen wsX6_writerSeen) := goodIn_app (goodIn_of _ (by decide +kernel)) ggX6_sees_X6_writerSeen
theorem dX6_sees_0 : decode cX6_sees 0 = .ok (.aload_n 0, 1) := by decide +kernel
theorem dX6_sees_1 : decode cX6_sees 1 = .ok (.iload_n 1, 1) := by decide +kernel
theorem dX6_sees_2 : decode cX6_sees 2 = .ok (.invokevirtual 101, 3) := by decide +kernel
theorem dX6_sees_5 : decode cX6_sees 5 = .ok (.ifCond .eq 10, 3) := by decide +kernel
theorem dX6_sees_8 : decode cX6_sees 8 = .ok (.iload_n 2, 1) := by decide +kernel
theorem dX6_sees_9 : decode cX6_sees 9 = .ok (.invokestatic 105, 3) := by decide +kernel
theorem dX6_sees_12 : decode cX6_sees 12 = .ok (.ifCond .ne 5, 3) := by decide +kernel
theorem dX6_sees_15 : decode cX6_sees 15 = .ok (.iconst (-1), 1) := by decide +kernel
theorem dX6_sees_16 : decode cX6_sees 16 = .ok (.ireturn, 1) := by decide +kernel
theorem dX6_sees_17 : decode cX6_sees 17 = .ok (.aload_n 0, 1) := by decide +kernel
theorem dX6_sees_18 : decode cX6_sees 18 = .ok (.iload_n 1, 1) := by decide +kernel
theorem dX6_sees_19 : decode cX6_sees 19 = .ok (.iload_n 2, 1) := by decide +kernel
theorem dX6_sees_20 : decode cX6_sees 20 = .ok (.invokevirtual 111, 3) := by decide +kernel
theorem dX6_sees_23 : decode cX6_sees 23 = .ok (.ireturn, 1) := by decide +kernel
set_option maxRecDepth 20000 in
theorem ggX6_would_X6_whyNotEnd : GoodIn wsX6_would wsX6_whyNotEnd := goodIn_r _ [6, 7, 8, 9, 5, 10, 1, 11, 12, 13, 14, 15, 16, 17, 18, 62, 63, 64, 65, 66, 67, 68, 69, 70, 71, 72, 73, 74, 75, 76, 77] (by decide +kernel) (by decide +kernel)
set_option maxRecDepth 20000 in
theorem gX6_would_X6_whyNotEnd : GoodIn wsX6_would (wsV RX6 134 RX6 yX6_whyNotEnd wsX6_whyNotEnd) := goodIn_app (goodIn_of _ (by decide +kernel)) ggX6_would_X6_whyNotEnd
set_option maxRecDepth 20000 in
theorem ggX6_would_X6_reasonFor : GoodIn wsX6_would wsX6_reasonFor := goodIn_r _ [22, 1, 23, 24, 25, 5, 26, 15, 16, 17, 18, 27, 28, 29, 30, 11, 12, 13, 14, 31, 32, 33, 34, 35, 36, 37, 38, 39, 40, 41, 42, 43, 44, 45, 46, 47, 48, 49, 50, 51, 52, 53, 54, 55, 56, 57, 58, 59, 60, 61, 62, 63, 64, 65, 66, 67, 68, 69, 70, 71, 72, 73, 74, 75, 76, 77] (by decide +kernel) (by decide +kernel)
set_option maxRecDepth 20000 in
theorem gX6_would_X6_reasonFor : GoodIn wsX6_would (wsV RX6 127 RX6 yX6_reasonFor wsX6_reasonFor) := goodIn_app (goodIn_of _ (by decide +kernel)) ggX6_would_X6_reasonFor
theorem dX6_would_0 : decode cX6_would 0 = .ok (.aload_n 0, 1) := by decide +kernel
theorem dX6_would_1 : decode cX6_would 1 = .ok (.iload_n 1, 1) := by decide +kernel
theorem dX6_would_2 : decode cX6_would 2 = .ok (.invokevirtual 134, 3) := by decide +kernel
theorem dX6_would_5 : decode cX6_would 5 = .ok (.istore_n 2, 1) := by decide +kernel
theorem dX6_would_6 : decode cX6_would 6 = .ok (.iload_n 2, 1) := by decide +kernel
theorem dX6_would_7 : decode cX6_would 7 = .ok (.ifCond .ge 7, 3) := by decide +kernel
theorem dX6_would_10 : decode cX6_would 10 = .ok (.iload_n 2, 1) := by decide +kernel
theorem dX6_would_11 : decode cX6_would 11 = .ok (.goto 14, 3) := by decide +kernel
theorem dX6_would_14 : decode cX6_would 14 = .ok (.aload_n 0, 1) := by decide +kernel
theorem dX6_would_15 : decode cX6_would 15 = .ok (.iload_n 1, 1) := by decide +kernel
theorem dX6_would_16 : decode cX6_would 16 = .ok (.aload_n 0, 1) := by decide +kernel
theorem dX6_would_17 : decode cX6_would 17 = .ok (.getfield 7, 3) := by decide +kernel
theorem dX6_would_20 : decode cX6_would 20 = .ok (.iconst 0, 1) := by decide +kernel
theorem dX6_would_21 : decode cX6_would 21 = .ok (.iaload, 1) := by decide +kernel
theorem dX6_would_22 : decode cX6_would 22 = .ok (.invokevirtual 127, 3) := by decide +kernel
theorem dX6_would_25 : decode cX6_would 25 = .ok (.ireturn, 1) := by decide +kernel
set_option maxRecDepth 20000 in
theorem ggX6_triple_X6_isTransaction : GoodIn wsX6_triple wsX6_isTransaction := goodIn_r _ [9, 1, 61, 62, 63, 64, 65, 66, 67, 68, 69, 70, 71, 72, 73, 74, 75, 76] (by decide +kernel) (by decide +kernel)
set_option maxRecDepth 20000 in
theorem gX6_triple_X6_isTransaction : GoodIn wsX6_triple (wsV RX6 101 RX6 yX6_isTransaction wsX6_isTransaction) := goodIn_app (goodIn_of _ (by decide +kernel)) ggX6_triple_X6_isTransaction
set_option maxRecDepth 20000 in
theorem ggX6_triple_X6_in : GoodIn wsX6_triple wsX6_in := goodIn_r _ [12] (by decide +kernel) (by decide +kernel)
set_option maxRecDepth 20000 in
theorem gX6_triple_X6_in : GoodIn wsX6_triple (va_wsS RX6 36 yX6_in wsX6_in) := goodIn_app (goodIn_of _ (by decide +kernel)) ggX6_triple_X6_in
set_option maxRecDepth 20000 in
theorem ggX6_triple_X6_isIn : GoodIn wsX6_triple wsX6_isIn := goodIn_r _ [16, 17, 18, 19, 8, 20, 1, 61, 62, 63, 64, 65, 66, 67, 68, 69, 70, 71, 72, 73, 74, 75, 76] (by decide +kernel) (by decide +kernel)
set_option maxRecDepth 20000 in
theorem gX6_triple_X6_isIn : GoodIn wsX6_triple (wsV RX6 51 RX6 yX6_isIn wsX6_isIn) := goodIn_app (goodIn_of _ (by decide +kernel)) ggX6_triple_X6_isIn
set_option maxRecDepth 20000 in
theorem ggX6_triple_X6_reasonFor : GoodIn wsX6_triple wsX6_reasonFor := goodIn_r _ [24, 1, 25, 26, 27, 8, 28, 17, 18, 19, 20, 29, 30, 31, 32, 13, 14, 15, 16, 33, 34, 35, 36, 37, 38, 39, 40, 2, 3, 4, 41, 42, 43, 44, 45, 46, 47, 48, 49, 50, 51, 52, 53, 54, 55, 56, 57, 58, 59, 60, 61, 62, 63, 64, 65, 66, 67, 68, 69, 70, 71, 72, 73, 74, 75, 76] (by decide +kernel) (by decide +kernel)
set_option maxRecDepth 20000 in
theorem gX6_triple_X6_reasonFor : GoodIn wsX6_triple (wsV RX6 127 RX6 yX6_reasonFor wsX6_reasonFor) := goodIn_app (goodIn_of _ (by decide +kernel)) ggX6_triple_X6_reasonFor
theorem dX6_triple_0 : decode cX6_triple 0 = .ok (.aload_n 0, 1) := by decide +kernel
theorem dX6_triple_1 : decode cX6_triple 1 = .ok (.iload_n 1, 1) := by decide +kernel
theorem dX6_triple_2 : decode cX6_triple 2 = .ok (.invokevirtual 101, 3) := by decide +kernel
theorem dX6_triple_5 : decode cX6_triple 5 = .ok (.ifCond .ne 5, 3) := by decide +kernel
theorem dX6_triple_8 : decode cX6_triple 8 = .ok (.iconst (-1), 1) := by decide +kernel
theorem dX6_triple_9 : decode cX6_triple 9 = .ok (.ireturn, 1) := by decide +kernel
theorem dX6_triple_10 : decode cX6_triple 10 = .ok (.iload_n 2, 1) := by decide +kernel
theorem dX6_triple_11 : decode cX6_triple 11 = .ok (.iconst 0, 1) := by decide +kernel
theorem dX6_triple_12 : decode cX6_triple 12 = .ok (.iconst 2, 1) := by decide +kernel
theorem dX6_triple_13 : decode cX6_triple 13 = .ok (.invokestatic 36, 3) := by decide +kernel
theorem dX6_triple_16 : decode cX6_triple 16 = .ok (.ifCond .ne 6, 3) := by decide +kernel
theorem dX6_triple_19 : decode cX6_triple 19 = .ok (.bipush (-2), 2) := by decide +kernel
theorem dX6_triple_21 : decode cX6_triple 21 = .ok (.ireturn, 1) := by decide +kernel
theorem dX6_triple_22 : decode cX6_triple 22 = .ok (.aload_n 0, 1) := by decide +kernel
theorem dX6_triple_23 : decode cX6_triple 23 = .ok (.iload_n 1, 1) := by decide +kernel
theorem dX6_triple_24 : decode cX6_triple 24 = .ok (.iconst 0, 1) := by decide +kernel
theorem dX6_triple_25 : decode cX6_triple 25 = .ok (.invokevirtual 51, 3) := by decide +kernel
theorem dX6_triple_28 : decode cX6_triple 28 = .ok (.ifCond .ne 6, 3) := by decide +kernel
theorem dX6_triple_31 : decode cX6_triple 31 = .ok (.bipush (-5), 2) := by decide +kernel
theorem dX6_triple_33 : decode cX6_triple 33 = .ok (.ireturn, 1) := by decide +kernel
theorem dX6_triple_34 : decode cX6_triple 34 = .ok (.aload_n 0, 1) := by decide +kernel
theorem dX6_triple_35 : decode cX6_triple 35 = .ok (.iload_n 1, 1) := by decide +kernel
theorem dX6_triple_36 : decode cX6_triple 36 = .ok (.aload_n 0, 1) := by decide +kernel
theorem dX6_triple_37 : decode cX6_triple 37 = .ok (.getfield 7, 3) := by decide +kernel
theorem dX6_triple_40 : decode cX6_triple 40 = .ok (.iconst 0, 1) := by decide +kernel
theorem dX6_triple_41 : decode cX6_triple 41 = .ok (.iaload, 1) := by decide +kernel
theorem dX6_triple_42 : decode cX6_triple 42 = .ok (.invokevirtual 127, 3) := by decide +kernel
theorem dX6_triple_45 : decode cX6_triple 45 = .ok (.iconst 2, 1) := by decide +kernel
theorem dX6_triple_46 : decode cX6_triple 46 = .ok (.if_icmp .eq 6, 3) := by decide +kernel
theorem dX6_triple_49 : decode cX6_triple 49 = .ok (.bipush (-6), 2) := by decide +kernel
theorem dX6_triple_51 : decode cX6_triple 51 = .ok (.ireturn, 1) := by decide +kernel
theorem dX6_triple_52 : decode cX6_triple 52 = .ok (.iload_n 2, 1) := by decide +kernel
theorem dX6_triple_53 : decode cX6_triple 53 = .ok (.ifCond .ne 10, 3) := by decide +kernel
theorem dX6_triple_56 : decode cX6_triple 56 = .ok (.aload_n 0, 1) := by decide +kernel
theorem dX6_triple_57 : decode cX6_triple 57 = .ok (.getfield 74, 3) := by decide +kernel
theorem dX6_triple_60 : decode cX6_triple 60 = .ok (.goto 19, 3) := by decide +kernel
theorem dX6_triple_63 : decode cX6_triple 63 = .ok (.iload_n 2, 1) := by decide +kernel
theorem dX6_triple_64 : decode cX6_triple 64 = .ok (.iconst 1, 1) := by decide +kernel
theorem dX6_triple_65 : decode cX6_triple 65 = .ok (.if_icmp .ne 10, 3) := by decide +kernel
theorem dX6_triple_68 : decode cX6_triple 68 = .ok (.aload_n 0, 1) := by decide +kernel
theorem dX6_triple_69 : decode cX6_triple 69 = .ok (.getfield 77, 3) := by decide +kernel
theorem dX6_triple_72 : decode cX6_triple 72 = .ok (.goto 7, 3) := by decide +kernel
theorem dX6_triple_75 : decode cX6_triple 75 = .ok (.aload_n 0, 1) := by decide +kernel
theorem dX6_triple_76 : decode cX6_triple 76 = .ok (.getfield 80, 3) := by decide +kernel
theorem dX6_triple_79 : decode cX6_triple 79 = .ok (.ireturn, 1) := by decide +kernel
set_option maxRecDepth 20000 in
theorem ggX6_doomed_X6_in : GoodIn wsX6_doomed wsX6_in := goodIn_r _ [5] (by decide +kernel) (by decide +kernel)
set_option maxRecDepth 20000 in
theorem gX6_doomed_X6_in : GoodIn wsX6_doomed (va_wsS RX6 36 yX6_in wsX6_in) := goodIn_app (goodIn_of _ (by decide +kernel)) ggX6_doomed_X6_in
set_option maxRecDepth 20000 in
theorem ggX6_doomed_X6_isIn : GoodIn wsX6_doomed wsX6_isIn := goodIn_r _ [9, 10, 11, 12, 4, 13, 1, 57, 58, 59, 60, 61, 62, 63, 64, 65, 66, 67, 68, 69, 70, 71, 72] (by decide +kernel) (by decide +kernel)
set_option maxRecDepth 20000 in
theorem gX6_doomed_X6_isIn : GoodIn wsX6_doomed (wsV RX6 51 RX6 yX6_isIn wsX6_isIn) := goodIn_app (goodIn_of _ (by decide +kernel)) ggX6_doomed_X6_isIn
set_option maxRecDepth 20000 in
theorem ggX6_doomed_X6_reasonFor : GoodIn wsX6_doomed wsX6_reasonFor := goodIn_r _ [17, 1, 18, 19, 20, 4, 21, 10, 11, 12, 13, 22, 23, 24, 25, 6, 7, 8, 9, 26, 27, 28, 29, 30, 31, 32, 33, 34, 35, 36, 37, 38, 39, 40, 41, 42, 43, 44, 45, 46, 47, 48, 49, 50, 51, 52, 53, 54, 55, 56, 57, 58, 59, 60, 61, 62, 63, 64, 65, 66, 67, 68, 69, 70, 71, 72] (by decide +kernel) (by decide +kernel)
set_option maxRecDepth 20000 in
theorem gX6_doomed_X6_reasonFor : GoodIn wsX6_doomed (wsV RX6 127 RX6 yX6_reasonFor wsX6_reasonFor) := goodIn_app (goodIn_of _ (by decide +kernel)) ggX6_doomed_X6_reasonFor
theorem dX6_doomed_0 : decode cX6_doomed 0 = .ok (.iload_n 1, 1) := by decide +kernel
theorem dX6_doomed_1 : decode cX6_doomed 1 = .ok (.iconst 0, 1) := by decide +kernel
theorem dX6_doomed_2 : decode cX6_doomed 2 = .ok (.iconst 3, 1) := by decide +kernel
theorem dX6_doomed_3 : decode cX6_doomed 3 = .ok (.invokestatic 36, 3) := by decide +kernel
theorem dX6_doomed_6 : decode cX6_doomed 6 = .ok (.ifCond .ne 6, 3) := by decide +kernel
theorem dX6_doomed_9 : decode cX6_doomed 9 = .ok (.bipush (-2), 2) := by decide +kernel
theorem dX6_doomed_11 : decode cX6_doomed 11 = .ok (.ireturn, 1) := by decide +kernel
theorem dX6_doomed_12 : decode cX6_doomed 12 = .ok (.iconst 0, 1) := by decide +kernel
theorem dX6_doomed_13 : decode cX6_doomed 13 = .ok (.istore_n 2, 1) := by decide +kernel
theorem dX6_doomed_14 : decode cX6_doomed 14 = .ok (.iconst 0, 1) := by decide +kernel
theorem dX6_doomed_15 : decode cX6_doomed 15 = .ok (.istore_n 3, 1) := by decide +kernel
theorem dX6_doomed_16 : decode cX6_doomed 16 = .ok (.iload_n 3, 1) := by decide +kernel
theorem dX6_doomed_17 : decode cX6_doomed 17 = .ok (.aload_n 0, 1) := by decide +kernel
theorem dX6_doomed_18 : decode cX6_doomed 18 = .ok (.getfield 7, 3) := by decide +kernel
theorem dX6_doomed_21 : decode cX6_doomed 21 = .ok (.iconst 2, 1) := by decide +kernel
theorem dX6_doomed_22 : decode cX6_doomed 22 = .ok (.iaload, 1) := by decide +kernel
theorem dX6_doomed_23 : decode cX6_doomed 23 = .ok (.if_icmp .ge 49, 3) := by decide +kernel
theorem dX6_doomed_26 : decode cX6_doomed 26 = .ok (.aload_n 0, 1) := by decide +kernel
theorem dX6_doomed_27 : decode cX6_doomed 27 = .ok (.iload_n 3, 1) := by decide +kernel
theorem dX6_doomed_28 : decode cX6_doomed 28 = .ok (.iconst 0, 1) := by decide +kernel
theorem dX6_doomed_29 : decode cX6_doomed 29 = .ok (.invokevirtual 51, 3) := by decide +kernel
theorem dX6_doomed_32 : decode cX6_doomed 32 = .ok (.ifCond .eq 16, 3) := by decide +kernel
theorem dX6_doomed_35 : decode cX6_doomed 35 = .ok (.aload_n 0, 1) := by decide +kernel
theorem dX6_doomed_36 : decode cX6_doomed 36 = .ok (.iload_n 3, 1) := by decide +kernel
theorem dX6_doomed_37 : decode cX6_doomed 37 = .ok (.iload_n 1, 1) := by decide +kernel
theorem dX6_doomed_38 : decode cX6_doomed 38 = .ok (.invokevirtual 127, 3) := by decide +kernel
theorem dX6_doomed_41 : decode cX6_doomed 41 = .ok (.ifCond .le 7, 3) := by decide +kernel
theorem dX6_doomed_44 : decode cX6_doomed 44 = .ok (.iconst 1, 1) := by decide +kernel
theorem dX6_doomed_45 : decode cX6_doomed 45 = .ok (.goto 4, 3) := by decide +kernel
theorem dX6_doomed_48 : decode cX6_doomed 48 = .ok (.iconst 0, 1) := by decide +kernel
theorem dX6_doomed_49 : decode cX6_doomed 49 = .ok (.istore 4, 2) := by decide +kernel
theorem dX6_doomed_51 : decode cX6_doomed 51 = .ok (.iload_n 2, 1) := by decide +kernel
theorem dX6_doomed_52 : decode cX6_doomed 52 = .ok (.iload 4, 2) := by decide +kernel
theorem dX6_doomed_54 : decode cX6_doomed 54 = .ok (.ifCond .eq 9, 3) := by decide +kernel
theorem dX6_doomed_57 : decode cX6_doomed 57 = .ok (.iconst 1, 1) := by decide +kernel
theorem dX6_doomed_58 : decode cX6_doomed 58 = .ok (.iload_n 3, 1) := by decide +kernel
theorem dX6_doomed_59 : decode cX6_doomed 59 = .ok (.ishl, 1) := by decide +kernel
theorem dX6_doomed_60 : decode cX6_doomed 60 = .ok (.goto 4, 3) := by decide +kernel
theorem dX6_doomed_63 : decode cX6_doomed 63 = .ok (.iconst 0, 1) := by decide +kernel
theorem dX6_doomed_64 : decode cX6_doomed 64 = .ok (.ior, 1) := by decide +kernel
theorem dX6_doomed_65 : decode cX6_doomed 65 = .ok (.istore_n 2, 1) := by decide +kernel
theorem dX6_doomed_66 : decode cX6_doomed 66 = .ok (.iinc 3 1, 3) := by decide +kernel
theorem dX6_doomed_69 : decode cX6_doomed 69 = .ok (.goto (-53), 3) := by decide +kernel
theorem dX6_doomed_72 : decode cX6_doomed 72 = .ok (.iload_n 2, 1) := by decide +kernel
theorem dX6_doomed_73 : decode cX6_doomed 73 = .ok (.ireturn, 1) := by decide +kernel
set_option maxRecDepth 20000 in
theorem ggX6_put_X6_in : GoodIn wsX6_put wsX6_in := goodIn_r _ [7] (by decide +kernel) (by decide +kernel)
set_option maxRecDepth 20000 in
theorem gX6_put_X6_in : GoodIn wsX6_put (va_wsS RX6 36 yX6_in wsX6_in) := goodIn_app (goodIn_of _ (by decide +kernel)) ggX6_put_X6_in
theorem dX6_put_0 : decode cX6_put 0 = .ok (.iconst 0, 1) := by decide +kernel
theorem dX6_put_1 : decode cX6_put 1 = .ok (.istore_n 3, 1) := by decide +kernel
theorem dX6_put_2 : decode cX6_put 2 = .ok (.lload_n 1, 1) := by decide +kernel
theorem dX6_put_3 : decode cX6_put 3 = .ok (.lstore 4, 2) := by decide +kernel
theorem dX6_put_5 : decode cX6_put 5 = .ok (.iconst 1, 1) := by decide +kernel
theorem dX6_put_6 : decode cX6_put 6 = .ok (.istore 6, 2) := by decide +kernel
theorem dX6_put_8 : decode cX6_put 8 = .ok (.lload 4, 2) := by decide +kernel
theorem dX6_put_10 : decode cX6_put 10 = .ok (.lconst 0, 1) := by decide +kernel
theorem dX6_put_11 : decode cX6_put 11 = .ok (.lcmp, 1) := by decide +kernel
theorem dX6_put_12 : decode cX6_put 12 = .ok (.ifCond .eq 37, 3) := by decide +kernel
theorem dX6_put_15 : decode cX6_put 15 = .ok (.iload 6, 2) := by decide +kernel
theorem dX6_put_17 : decode cX6_put 17 = .ok (.ifCond .eq 32, 3) := by decide +kernel
theorem dX6_put_20 : decode cX6_put 20 = .ok (.lload 4, 2) := by decide +kernel
theorem dX6_put_22 : decode cX6_put 22 = .ok (.ldc2_w 180, 3) := by decide +kernel
theorem dX6_put_25 : decode cX6_put 25 = .ok (.land, 1) := by decide +kernel
theorem dX6_put_26 : decode cX6_put 26 = .ok (.l2i, 1) := by decide +kernel
theorem dX6_put_27 : decode cX6_put 27 = .ok (.bipush 33, 2) := by decide +kernel
theorem dX6_put_29 : decode cX6_put 29 = .ok (.bipush 126, 2) := by decide +kernel
theorem dX6_put_31 : decode cX6_put 31 = .ok (.invokestatic 36, 3) := by decide +kernel
theorem dX6_put_34 : decode cX6_put 34 = .ok (.istore 6, 2) := by decide +kernel
theorem dX6_put_36 : decode cX6_put 36 = .ok (.lload 4, 2) := by decide +kernel
theorem dX6_put_38 : decode cX6_put 38 = .ok (.bipush 8, 2) := by decide +kernel
theorem dX6_put_40 : decode cX6_put 40 = .ok (.lushr, 1) := by decide +kernel
theorem dX6_put_41 : decode cX6_put 41 = .ok (.lstore 4, 2) := by decide +kernel
theorem dX6_put_43 : decode cX6_put 43 = .ok (.iinc 3 1, 3) := by decide +kernel
theorem dX6_put_46 : decode cX6_put 46 = .ok (.goto (-38), 3) := by decide +kernel
theorem dX6_put_49 : decode cX6_put 49 = .ok (.iload_n 3, 1) := by decide +kernel
theorem dX6_put_50 : decode cX6_put 50 = .ok (.ifCond .eq 8, 3) := by decide +kernel
theorem dX6_put_53 : decode cX6_put 53 = .ok (.iload 6, 2) := by decide +kernel
theorem dX6_put_55 : decode cX6_put 55 = .ok (.ifCond .ne 6, 3) := by decide +kernel
theorem dX6_put_58 : decode cX6_put 58 = .ok (.bipush (-2), 2) := by decide +kernel
theorem dX6_put_60 : decode cX6_put 60 = .ok (.ireturn, 1) := by decide +kernel
theorem dX6_put_61 : decode cX6_put 61 = .ok (.aload_n 0, 1) := by decide +kernel
theorem dX6_put_62 : decode cX6_put 62 = .ok (.getfield 168, 3) := by decide +kernel
theorem dX6_put_65 : decode cX6_put 65 = .ok (.iload_n 3, 1) := by decide +kernel
theorem dX6_put_66 : decode cX6_put 66 = .ok (.iadd, 1) := by decide +kernel
theorem dX6_put_67 : decode cX6_put 67 = .ok (.bipush 80, 2) := by decide +kernel
theorem dX6_put_69 : decode cX6_put 69 = .ok (.if_icmp .le 6, 3) := by decide +kernel
theorem dX6_put_72 : decode cX6_put 72 = .ok (.bipush (-4), 2) := by decide +kernel
theorem dX6_put_74 : decode cX6_put 74 = .ok (.ireturn, 1) := by decide +kernel
theorem dX6_put_75 : decode cX6_put 75 = .ok (.iload_n 3, 1) := by decide +kernel
theorem dX6_put_76 : decode cX6_put 76 = .ok (.iconst 1, 1) := by decide +kernel
theorem dX6_put_77 : decode cX6_put 77 = .ok (.isub, 1) := by decide +kernel
theorem dX6_put_78 : decode cX6_put 78 = .ok (.istore 7, 2) := by decide +kernel
theorem dX6_put_80 : decode cX6_put 80 = .ok (.iload 7, 2) := by decide +kernel
theorem dX6_put_82 : decode cX6_put 82 = .ok (.ifCond .lt 41, 3) := by decide +kernel
theorem dX6_put_85 : decode cX6_put 85 = .ok (.aload_n 0, 1) := by decide +kernel
theorem dX6_put_86 : decode cX6_put 86 = .ok (.getfield 23, 3) := by decide +kernel
theorem dX6_put_89 : decode cX6_put 89 = .ok (.aload_n 0, 1) := by decide +kernel
theorem dX6_put_90 : decode cX6_put 90 = .ok (.getfield 168, 3) := by decide +kernel
theorem dX6_put_93 : decode cX6_put 93 = .ok (.lload_n 1, 1) := by decide +kernel
theorem dX6_put_94 : decode cX6_put 94 = .ok (.bipush 8, 2) := by decide +kernel
theorem dX6_put_96 : decode cX6_put 96 = .ok (.iload 7, 2) := by decide +kernel
theorem dX6_put_98 : decode cX6_put 98 = .ok (.imul, 1) := by decide +kernel
theorem dX6_put_99 : decode cX6_put 99 = .ok (.lushr, 1) := by decide +kernel
theorem dX6_put_100 : decode cX6_put 100 = .ok (.ldc2_w 180, 3) := by decide +kernel
theorem dX6_put_103 : decode cX6_put 103 = .ok (.land, 1) := by decide +kernel
theorem dX6_put_104 : decode cX6_put 104 = .ok (.l2i, 1) := by decide +kernel
theorem dX6_put_105 : decode cX6_put 105 = .ok (.i2c, 1) := by decide +kernel
theorem dX6_put_106 : decode cX6_put 106 = .ok (.castore, 1) := by decide +kernel
theorem dX6_put_107 : decode cX6_put 107 = .ok (.aload_n 0, 1) := by decide +kernel
theorem dX6_put_108 : decode cX6_put 108 = .ok (.dup, 1) := by decide +kernel
theorem dX6_put_109 : decode cX6_put 109 = .ok (.getfield 168, 3) := by decide +kernel
theorem dX6_put_112 : decode cX6_put 112 = .ok (.iconst 1, 1) := by decide +kernel
theorem dX6_put_113 : decode cX6_put 113 = .ok (.iadd, 1) := by decide +kernel
theorem dX6_put_114 : decode cX6_put 114 = .ok (.putfield 168, 3) := by decide +kernel
theorem dX6_put_117 : decode cX6_put 117 = .ok (.iinc 7 (-1), 3) := by decide +kernel
theorem dX6_put_120 : decode cX6_put 120 = .ok (.goto (-40), 3) := by decide +kernel
theorem dX6_put_123 : decode cX6_put 123 = .ok (.aload_n 0, 1) := by decide +kernel
theorem dX6_put_124 : decode cX6_put 124 = .ok (.getfield 168, 3) := by decide +kernel
theorem dX6_put_127 : decode cX6_put 127 = .ok (.ireturn, 1) := by decide +kernel
theorem dX6_wipe_0 : decode cX6_wipe 0 = .ok (.aload_n 0, 1) := by decide +kernel
theorem dX6_wipe_1 : decode cX6_wipe 1 = .ok (.getfield 168, 3) := by decide +kernel
theorem dX6_wipe_4 : decode cX6_wipe 4 = .ok (.istore_n 1, 1) := by decide +kernel
theorem dX6_wipe_5 : decode cX6_wipe 5 = .ok (.aload_n 0, 1) := by decide +kernel
theorem dX6_wipe_6 : decode cX6_wipe 6 = .ok (.iconst 0, 1) := by decide +kernel
theorem dX6_wipe_7 : decode cX6_wipe 7 = .ok (.putfield 168, 3) := by decide +kernel
theorem dX6_wipe_10 : decode cX6_wipe 10 = .ok (.iload_n 1, 1) := by decide +kernel
theorem dX6_wipe_11 : decode cX6_wipe 11 = .ok (.ireturn, 1) := by decide +kernel
theorem dX6_letter_0 : decode cX6_letter 0 = .ok (.aload_n 0, 1) := by decide +kernel
theorem dX6_letter_1 : decode cX6_letter 1 = .ok (.getfield 182, 3) := by decide +kernel
theorem dX6_letter_4 : decode cX6_letter 4 = .ok (.aload_n 0, 1) := by decide +kernel
theorem dX6_letter_5 : decode cX6_letter 5 = .ok (.getfield 168, 3) := by decide +kernel
theorem dX6_letter_8 : decode cX6_letter 8 = .ok (.if_icmp .ge 15, 3) := by decide +kernel
theorem dX6_letter_11 : decode cX6_letter 11 = .ok (.aload_n 0, 1) := by decide +kernel
theorem dX6_letter_12 : decode cX6_letter 12 = .ok (.getfield 23, 3) := by decide +kernel
theorem dX6_letter_15 : decode cX6_letter 15 = .ok (.aload_n 0, 1) := by decide +kernel
theorem dX6_letter_16 : decode cX6_letter 16 = .ok (.getfield 182, 3) := by decide +kernel
theorem dX6_letter_19 : decode cX6_letter 19 = .ok (.caload, 1) := by decide +kernel
theorem dX6_letter_20 : decode cX6_letter 20 = .ok (.goto 5, 3) := by decide +kernel
theorem dX6_letter_23 : decode cX6_letter 23 = .ok (.bipush (-6), 2) := by decide +kernel
theorem dX6_letter_25 : decode cX6_letter 25 = .ok (.ireturn, 1) := by decide +kernel
theorem dX6_wants_0 : decode cX6_wants 0 = .ok (.aload_n 0, 1) := by decide +kernel
theorem dX6_wants_1 : decode cX6_wants 1 = .ok (.getfield 185, 3) := by decide +kernel
theorem dX6_wants_4 : decode cX6_wants 4 = .ok (.bipush (-6), 2) := by decide +kernel
theorem dX6_wants_6 : decode cX6_wants 6 = .ok (.if_icmp .ne 30, 3) := by decide +kernel
theorem dX6_wants_9 : decode cX6_wants 9 = .ok (.aload_n 0, 1) := by decide +kernel
theorem dX6_wants_10 : decode cX6_wants 10 = .ok (.iload_n 1, 1) := by decide +kernel
theorem dX6_wants_11 : decode cX6_wants 11 = .ok (.ifCond .eq 8, 3) := by decide +kernel
theorem dX6_wants_14 : decode cX6_wants 14 = .ok (.bipush (-6), 2) := by decide +kernel
theorem dX6_wants_16 : decode cX6_wants 16 = .ok (.goto 7, 3) := by decide +kernel
theorem dX6_wants_19 : decode cX6_wants 19 = .ok (.aload_n 0, 1) := by decide +kernel
theorem dX6_wants_20 : decode cX6_wants 20 = .ok (.getfield 182, 3) := by decide +kernel
theorem dX6_wants_23 : decode cX6_wants 23 = .ok (.putfield 185, 3) := by decide +kernel
theorem dX6_wants_26 : decode cX6_wants 26 = .ok (.aload_n 0, 1) := by decide +kernel
theorem dX6_wants_27 : decode cX6_wants 27 = .ok (.dup, 1) := by decide +kernel
theorem dX6_wants_28 : decode cX6_wants 28 = .ok (.getfield 182, 3) := by decide +kernel
theorem dX6_wants_31 : decode cX6_wants 31 = .ok (.iconst 1, 1) := by decide +kernel
theorem dX6_wants_32 : decode cX6_wants 32 = .ok (.iadd, 1) := by decide +kernel
theorem dX6_wants_33 : decode cX6_wants 33 = .ok (.putfield 182, 3) := by decide +kernel
theorem dX6_wants_36 : decode cX6_wants 36 = .ok (.return_, 1) := by decide +kernel
set_option maxRecDepth 20000 in
theorem ggX6_number_X6_letter : GoodIn wsX6_number wsX6_letter := goodIn_r _ [7, 2, 8, 9, 17, 18, 19, 20, 21, 22, 23, 24, 25, 26, 27, 28, 29, 30, 31, 32] (by decide +kernel) (by decide +kernel)
set_option maxRecDepth 20000 in
theorem gX6_number_X6_letter : GoodIn wsX6_number (wsV RX6 188 RX6 yX6_letter wsX6_letter) := goodIn_app (goodIn_of _ (by decide +kernel)) ggX6_number_X6_letter
set_option maxRecDepth 20000 in
theorem ggX6_number_X6_in : GoodIn wsX6_number wsX6_in := goodIn_r _ [12] (by decide +kernel) (by decide +kernel)
set_option maxRecDepth 20000 in
theorem gX6_number_X6_in : GoodIn wsX6_number (va_wsS RX6 36 yX6_in wsX6_in) := goodIn_app (goodIn_of _ (by decide +kernel)) ggX6_number_X6_in
set_option maxRecDepth 20000 in
theorem ggX6_number_X6_wants : GoodIn wsX6_number wsX6_wants := goodIn_r _ [16, 1, 2, 17, 18, 19, 20, 21, 22, 23, 24, 25, 26, 27, 28, 29, 30, 31, 32] (by decide +kernel) (by decide +kernel)
set_option maxRecDepth 20000 in
theorem gX6_number_X6_wants : GoodIn wsX6_number (wsV RX6 191 RX6 yX6_wants wsX6_wants) := goodIn_app (goodIn_of _ (by decide +kernel)) ggX6_number_X6_wants
theorem dX6_number_0 : decode cX6_number 0 = .ok (.aload_n 0, 1) := by decide +kernel
theorem dX6_number_1 : decode cX6_number 1 = .ok (.invokevirtual 188, 3) := by decide +kernel
theorem dX6_number_4 : decode cX6_number 4 = .ok (.bipush 48, 2) := by decide +kernel
theorem dX6_number_6 : decode cX6_number 6 = .ok (.isub, 1) := by decide +kernel
theorem dX6_number_7 : decode cX6_number 7 = .ok (.istore_n 1, 1) := by decide +kernel
theorem dX6_number_8 : decode cX6_number 8 = .ok (.aload_n 0, 1) := by decide +kernel
theorem dX6_number_9 : decode cX6_number 9 = .ok (.iload_n 1, 1) := by decide +kernel
theorem dX6_number_10 : decode cX6_number 10 = .ok (.iconst 0, 1) := by decide +kernel
theorem dX6_number_11 : decode cX6_number 11 = .ok (.bipush 9, 2) := by decide +kernel
theorem dX6_number_13 : decode cX6_number 13 = .ok (.invokestatic 36, 3) := by decide +kernel
theorem dX6_number_16 : decode cX6_number 16 = .ok (.invokevirtual 191, 3) := by decide +kernel
theorem dX6_number_19 : decode cX6_number 19 = .ok (.aload_n 0, 1) := by decide +kernel
theorem dX6_number_20 : decode cX6_number 20 = .ok (.invokevirtual 188, 3) := by decide +kernel
theorem dX6_number_23 : decode cX6_number 23 = .ok (.bipush 48, 2) := by decide +kernel
theorem dX6_number_25 : decode cX6_number 25 = .ok (.isub, 1) := by decide +kernel
theorem dX6_number_26 : decode cX6_number 26 = .ok (.istore_n 2, 1) := by decide +kernel
theorem dX6_number_27 : decode cX6_number 27 = .ok (.aload_n 0, 1) := by decide +kernel
theorem dX6_number_28 : decode cX6_number 28 = .ok (.getfield 185, 3) := by decide +kernel
theorem dX6_number_31 : decode cX6_number 31 = .ok (.bipush (-6), 2) := by decide +kernel
theorem dX6_number_33 : decode cX6_number 33 = .ok (.if_icmp .ne 57, 3) := by decide +kernel
theorem dX6_number_36 : decode cX6_number 36 = .ok (.iload_n 1, 1) := by decide +kernel
theorem dX6_number_37 : decode cX6_number 37 = .ok (.ifCond .le 53, 3) := by decide +kernel
theorem dX6_number_40 : decode cX6_number 40 = .ok (.iload_n 2, 1) := by decide +kernel
theorem dX6_number_41 : decode cX6_number 41 = .ok (.iconst 0, 1) := by decide +kernel
theorem dX6_number_42 : decode cX6_number 42 = .ok (.bipush 9, 2) := by decide +kernel
theorem dX6_number_44 : decode cX6_number 44 = .ok (.invokestatic 36, 3) := by decide +kernel
theorem dX6_number_47 : decode cX6_number 47 = .ok (.ifCond .eq 43, 3) := by decide +kernel
theorem dX6_number_50 : decode cX6_number 50 = .ok (.bipush 10, 2) := by decide +kernel
theorem dX6_number_52 : decode cX6_number 52 = .ok (.iload_n 1, 1) := by decide +kernel
theorem dX6_number_53 : decode cX6_number 53 = .ok (.imul, 1) := by decide +kernel
theorem dX6_number_54 : decode cX6_number 54 = .ok (.iload_n 2, 1) := by decide +kernel
theorem dX6_number_55 : decode cX6_number 55 = .ok (.iadd, 1) := by decide +kernel
theorem dX6_number_56 : decode cX6_number 56 = .ok (.sipush 999, 3) := by decide +kernel
theorem dX6_number_59 : decode cX6_number 59 = .ok (.if_icmp .gt 31, 3) := by decide +kernel
theorem dX6_number_62 : decode cX6_number 62 = .ok (.bipush 10, 2) := by decide +kernel
theorem dX6_number_64 : decode cX6_number 64 = .ok (.iload_n 1, 1) := by decide +kernel
theorem dX6_number_65 : decode cX6_number 65 = .ok (.imul, 1) := by decide +kernel
theorem dX6_number_66 : decode cX6_number 66 = .ok (.iload_n 2, 1) := by decide +kernel
theorem dX6_number_67 : decode cX6_number 67 = .ok (.iadd, 1) := by decide +kernel
theorem dX6_number_68 : decode cX6_number 68 = .ok (.istore_n 1, 1) := by decide +kernel
theorem dX6_number_69 : decode cX6_number 69 = .ok (.aload_n 0, 1) := by decide +kernel
theorem dX6_number_70 : decode cX6_number 70 = .ok (.dup, 1) := by decide +kernel
theorem dX6_number_71 : decode cX6_number 71 = .ok (.getfield 182, 3) := by decide +kernel
theorem dX6_number_74 : decode cX6_number 74 = .ok (.iconst 1, 1) := by decide +kernel
theorem dX6_number_75 : decode cX6_number 75 = .ok (.iadd, 1) := by decide +kernel
theorem dX6_number_76 : decode cX6_number 76 = .ok (.putfield 182, 3) := by decide +kernel
theorem dX6_number_79 : decode cX6_number 79 = .ok (.aload_n 0, 1) := by decide +kernel
theorem dX6_number_80 : decode cX6_number 80 = .ok (.invokevirtual 188, 3) := by decide +kernel
theorem dX6_number_83 : decode cX6_number 83 = .ok (.bipush 48, 2) := by decide +kernel
theorem dX6_number_85 : decode cX6_number 85 = .ok (.isub, 1) := by decide +kernel
theorem dX6_number_86 : decode cX6_number 86 = .ok (.istore_n 2, 1) := by decide +kernel
theorem dX6_number_87 : decode cX6_number 87 = .ok (.goto (-60), 3) := by decide +kernel
theorem dX6_number_90 : decode cX6_number 90 = .ok (.iload_n 1, 1) := by decide +kernel
theorem dX6_number_91 : decode cX6_number 91 = .ok (.ireturn, 1) := by decide +kernel
set_option maxRecDepth 20000 in
theorem ggX6_readOrder_X6_letter : GoodIn wsX6_readOrder wsX6_letter := goodIn_r _ [7, 8, 9, 10, 23, 24, 25, 26, 27, 28, 29, 30, 31, 32, 33, 34, 35, 36, 37, 38] (by decide +kernel) (by decide +kernel)
set_option maxRecDepth 20000 in
theorem gX6_readOrder_X6_letter : GoodIn wsX6_readOrder (wsV RX6 188 RX6 yX6_letter wsX6_letter) := goodIn_app (goodIn_of _ (by decide +kernel)) ggX6_readOrder_X6_letter
set_option maxRecDepth 20000 in
theorem ggX6_readOrder_X6_wants : GoodIn wsX6_readOrder wsX6_wants := goodIn_r _ [14, 15, 8, 23, 24, 25, 26, 27, 28, 29, 30, 31, 32, 33, 34, 35, 36, 37, 38] (by decide +kernel) (by decide +kernel)
set_option maxRecDepth 20000 in
theorem gX6_readOrder_X6_wants : GoodIn wsX6_readOrder (wsV RX6 191 RX6 yX6_wants wsX6_wants) := goodIn_app (goodIn_of _ (by decide +kernel)) ggX6_readOrder_X6_wants
set_option maxRecDepth 20000 in
theorem ggX6_readOrder_X6_number : GoodIn wsX6_readOrder wsX6_number := goodIn_r _ [19, 15, 8, 3, 4, 5, 6, 7, 9, 10, 20, 21, 22, 11, 12, 13, 14, 23, 24, 25, 26, 27, 28, 29, 30, 31, 32, 33, 34, 35, 36, 37, 38] (by decide +kernel) (by decide +kernel)
set_option maxRecDepth 20000 in
theorem gX6_readOrder_X6_number : GoodIn wsX6_readOrder (wsV RX6 198 RX6 yX6_number wsX6_number) := goodIn_app (goodIn_of _ (by decide +kernel)) ggX6_readOrder_X6_number
theorem dX6_readOrder_0 : decode cX6_readOrder 0 = .ok (.iconst 4, 1) := by decide +kernel
theorem dX6_readOrder_1 : decode cX6_readOrder 1 = .ok (.aload_n 0, 1) := by decide +kernel
theorem dX6_readOrder_2 : decode cX6_readOrder 2 = .ok (.getfield 195, 3) := by decide +kernel
theorem dX6_readOrder_5 : decode cX6_readOrder 5 = .ok (.imul, 1) := by decide +kernel
theorem dX6_readOrder_6 : decode cX6_readOrder 6 = .ok (.istore_n 1, 1) := by decide +kernel
theorem dX6_readOrder_7 : decode cX6_readOrder 7 = .ok (.aload_n 0, 1) := by decide +kernel
theorem dX6_readOrder_8 : decode cX6_readOrder 8 = .ok (.invokevirtual 188, 3) := by decide +kernel
theorem dX6_readOrder_11 : decode cX6_readOrder 11 = .ok (.istore_n 2, 1) := by decide +kernel
theorem dX6_readOrder_12 : decode cX6_readOrder 12 = .ok (.iload_n 2, 1) := by decide +kernel
theorem dX6_readOrder_13 : decode cX6_readOrder 13 = .ok (.bipush 119, 2) := by decide +kernel
theorem dX6_readOrder_15 : decode cX6_readOrder 15 = .ok (.if_icmp .ne 7, 3) := by decide +kernel
theorem dX6_readOrder_18 : decode cX6_readOrder 18 = .ok (.iconst 1, 1) := by decide +kernel
theorem dX6_readOrder_19 : decode cX6_readOrder 19 = .ok (.goto 4, 3) := by decide +kernel
theorem dX6_readOrder_22 : decode cX6_readOrder 22 = .ok (.iconst 0, 1) := by decide +kernel
theorem dX6_readOrder_23 : decode cX6_readOrder 23 = .ok (.istore_n 3, 1) := by decide +kernel
theorem dX6_readOrder_24 : decode cX6_readOrder 24 = .ok (.iload_n 2, 1) := by decide +kernel
theorem dX6_readOrder_25 : decode cX6_readOrder 25 = .ok (.bipush 114, 2) := by decide +kernel
theorem dX6_readOrder_27 : decode cX6_readOrder 27 = .ok (.if_icmp .eq 7, 3) := by decide +kernel
theorem dX6_readOrder_30 : decode cX6_readOrder 30 = .ok (.iload_n 3, 1) := by decide +kernel
theorem dX6_readOrder_31 : decode cX6_readOrder 31 = .ok (.ifCond .eq 7, 3) := by decide +kernel
theorem dX6_readOrder_34 : decode cX6_readOrder 34 = .ok (.iconst 1, 1) := by decide +kernel
theorem dX6_readOrder_35 : decode cX6_readOrder 35 = .ok (.goto 4, 3) := by decide +kernel
theorem dX6_readOrder_38 : decode cX6_readOrder 38 = .ok (.iconst 0, 1) := by decide +kernel
theorem dX6_readOrder_39 : decode cX6_readOrder 39 = .ok (.istore 4, 2) := by decide +kernel
theorem dX6_readOrder_41 : decode cX6_readOrder 41 = .ok (.iload 4, 2) := by decide +kernel
theorem dX6_readOrder_43 : decode cX6_readOrder 43 = .ok (.ifCond .ne 15, 3) := by decide +kernel
theorem dX6_readOrder_46 : decode cX6_readOrder 46 = .ok (.iload_n 2, 1) := by decide +kernel
theorem dX6_readOrder_47 : decode cX6_readOrder 47 = .ok (.bipush 99, 2) := by decide +kernel
theorem dX6_readOrder_49 : decode cX6_readOrder 49 = .ok (.if_icmp .eq 9, 3) := by decide +kernel
theorem dX6_readOrder_52 : decode cX6_readOrder 52 = .ok (.iload_n 2, 1) := by decide +kernel
theorem dX6_readOrder_53 : decode cX6_readOrder 53 = .ok (.bipush 120, 2) := by decide +kernel
theorem dX6_readOrder_55 : decode cX6_readOrder 55 = .ok (.if_icmp .ne 7, 3) := by decide +kernel
theorem dX6_readOrder_58 : decode cX6_readOrder 58 = .ok (.iconst 1, 1) := by decide +kernel
theorem dX6_readOrder_59 : decode cX6_readOrder 59 = .ok (.goto 4, 3) := by decide +kernel
theorem dX6_readOrder_62 : decode cX6_readOrder 62 = .ok (.iconst 0, 1) := by decide +kernel
theorem dX6_readOrder_63 : decode cX6_readOrder 63 = .ok (.istore 5, 2) := by decide +kernel
theorem dX6_readOrder_65 : decode cX6_readOrder 65 = .ok (.aload_n 0, 1) := by decide +kernel
theorem dX6_readOrder_66 : decode cX6_readOrder 66 = .ok (.iload 5, 2) := by decide +kernel
theorem dX6_readOrder_68 : decode cX6_readOrder 68 = .ok (.ifCond .ne 9, 3) := by decide +kernel
theorem dX6_readOrder_71 : decode cX6_readOrder 71 = .ok (.iload_n 2, 1) := by decide +kernel
theorem dX6_readOrder_72 : decode cX6_readOrder 72 = .ok (.bipush 98, 2) := by decide +kernel
theorem dX6_readOrder_74 : decode cX6_readOrder 74 = .ok (.if_icmp .ne 7, 3) := by decide +kernel
theorem dX6_readOrder_77 : decode cX6_readOrder 77 = .ok (.iconst 1, 1) := by decide +kernel
theorem dX6_readOrder_78 : decode cX6_readOrder 78 = .ok (.goto 4, 3) := by decide +kernel
theorem dX6_readOrder_81 : decode cX6_readOrder 81 = .ok (.iconst 0, 1) := by decide +kernel
theorem dX6_readOrder_82 : decode cX6_readOrder 82 = .ok (.invokevirtual 191, 3) := by decide +kernel
theorem dX6_readOrder_85 : decode cX6_readOrder 85 = .ok (.aload_n 0, 1) := by decide +kernel
theorem dX6_readOrder_86 : decode cX6_readOrder 86 = .ok (.getfield 33, 3) := by decide +kernel
theorem dX6_readOrder_89 : decode cX6_readOrder 89 = .ok (.iload_n 1, 1) := by decide +kernel
theorem dX6_readOrder_90 : decode cX6_readOrder 90 = .ok (.iload_n 2, 1) := by decide +kernel
theorem dX6_readOrder_91 : decode cX6_readOrder 91 = .ok (.iastore, 1) := by decide +kernel
theorem dX6_readOrder_92 : decode cX6_readOrder 92 = .ok (.aload_n 0, 1) := by decide +kernel
theorem dX6_readOrder_93 : decode cX6_readOrder 93 = .ok (.getfield 33, 3) := by decide +kernel
theorem dX6_readOrder_96 : decode cX6_readOrder 96 = .ok (.iload_n 1, 1) := by decide +kernel
theorem dX6_readOrder_97 : decode cX6_readOrder 97 = .ok (.iconst 1, 1) := by decide +kernel
theorem dX6_readOrder_98 : decode cX6_readOrder 98 = .ok (.iadd, 1) := by decide +kernel
theorem dX6_readOrder_99 : decode cX6_readOrder 99 = .ok (.iload 5, 2) := by decide +kernel
theorem dX6_readOrder_101 : decode cX6_readOrder 101 = .ok (.ifCond .eq 10, 3) := by decide +kernel
theorem dX6_readOrder_104 : decode cX6_readOrder 104 = .ok (.aload_n 0, 1) := by decide +kernel
theorem dX6_readOrder_105 : decode cX6_readOrder 105 = .ok (.invokevirtual 198, 3) := by decide +kernel
theorem dX6_readOrder_108 : decode cX6_readOrder 108 = .ok (.goto 4, 3) := by decide +kernel
theorem dX6_readOrder_111 : decode cX6_readOrder 111 = .ok (.iconst 0, 1) := by decide +kernel
theorem dX6_readOrder_112 : decode cX6_readOrder 112 = .ok (.iastore, 1) := by decide +kernel
theorem dX6_readOrder_113 : decode cX6_readOrder 113 = .ok (.iload 4, 2) := by decide +kernel
theorem dX6_readOrder_115 : decode cX6_readOrder 115 = .ok (.ifCond .eq 33, 3) := by decide +kernel
theorem dX6_readOrder_118 : decode cX6_readOrder 118 = .ok (.aload_n 0, 1) := by decide +kernel
theorem dX6_readOrder_119 : decode cX6_readOrder 119 = .ok (.aload_n 0, 1) := by decide +kernel
theorem dX6_readOrder_120 : decode cX6_readOrder 120 = .ok (.invokevirtual 188, 3) := by decide +kernel
theorem dX6_readOrder_123 : decode cX6_readOrder 123 = .ok (.bipush 46, 2) := by decide +kernel
theorem dX6_readOrder_125 : decode cX6_readOrder 125 = .ok (.if_icmp .ne 7, 3) := by decide +kernel
theorem dX6_readOrder_128 : decode cX6_readOrder 128 = .ok (.iconst 1, 1) := by decide +kernel
theorem dX6_readOrder_129 : decode cX6_readOrder 129 = .ok (.goto 4, 3) := by decide +kernel
theorem dX6_readOrder_132 : decode cX6_readOrder 132 = .ok (.iconst 0, 1) := by decide +kernel
theorem dX6_readOrder_133 : decode cX6_readOrder 133 = .ok (.invokevirtual 191, 3) := by decide +kernel
theorem dX6_readOrder_136 : decode cX6_readOrder 136 = .ok (.aload_n 0, 1) := by decide +kernel
theorem dX6_readOrder_137 : decode cX6_readOrder 137 = .ok (.getfield 33, 3) := by decide +kernel
theorem dX6_readOrder_140 : decode cX6_readOrder 140 = .ok (.iload_n 1, 1) := by decide +kernel
theorem dX6_readOrder_141 : decode cX6_readOrder 141 = .ok (.iconst 2, 1) := by decide +kernel
theorem dX6_readOrder_142 : decode cX6_readOrder 142 = .ok (.iadd, 1) := by decide +kernel
theorem dX6_readOrder_143 : decode cX6_readOrder 143 = .ok (.aload_n 0, 1) := by decide +kernel
theorem dX6_readOrder_144 : decode cX6_readOrder 144 = .ok (.invokevirtual 198, 3) := by decide +kernel
theorem dX6_readOrder_147 : decode cX6_readOrder 147 = .ok (.iastore, 1) := by decide +kernel
theorem dX6_readOrder_148 : decode cX6_readOrder 148 = .ok (.iload_n 3, 1) := by decide +kernel
theorem dX6_readOrder_149 : decode cX6_readOrder 149 = .ok (.ifCond .eq 33, 3) := by decide +kernel
theorem dX6_readOrder_152 : decode cX6_readOrder 152 = .ok (.aload_n 0, 1) := by decide +kernel
theorem dX6_readOrder_153 : decode cX6_readOrder 153 = .ok (.aload_n 0, 1) := by decide +kernel
theorem dX6_readOrder_154 : decode cX6_readOrder 154 = .ok (.invokevirtual 188, 3) := by decide +kernel
theorem dX6_readOrder_157 : decode cX6_readOrder 157 = .ok (.bipush 61, 2) := by decide +kernel
theorem dX6_readOrder_159 : decode cX6_readOrder 159 = .ok (.if_icmp .ne 7, 3) := by decide +kernel
theorem dX6_readOrder_162 : decode cX6_readOrder 162 = .ok (.iconst 1, 1) := by decide +kernel
theorem dX6_readOrder_163 : decode cX6_readOrder 163 = .ok (.goto 4, 3) := by decide +kernel
theorem dX6_readOrder_166 : decode cX6_readOrder 166 = .ok (.iconst 0, 1) := by decide +kernel
theorem dX6_readOrder_167 : decode cX6_readOrder 167 = .ok (.invokevirtual 191, 3) := by decide +kernel
theorem dX6_readOrder_170 : decode cX6_readOrder 170 = .ok (.aload_n 0, 1) := by decide +kernel
theorem dX6_readOrder_171 : decode cX6_readOrder 171 = .ok (.getfield 33, 3) := by decide +kernel
theorem dX6_readOrder_174 : decode cX6_readOrder 174 = .ok (.iload_n 1, 1) := by decide +kernel
theorem dX6_readOrder_175 : decode cX6_readOrder 175 = .ok (.iconst 3, 1) := by decide +kernel
theorem dX6_readOrder_176 : decode cX6_readOrder 176 = .ok (.iadd, 1) := by decide +kernel
theorem dX6_readOrder_177 : decode cX6_readOrder 177 = .ok (.aload_n 0, 1) := by decide +kernel
theorem dX6_readOrder_178 : decode cX6_readOrder 178 = .ok (.invokevirtual 198, 3) := by decide +kernel
theorem dX6_readOrder_181 : decode cX6_readOrder 181 = .ok (.iastore, 1) := by decide +kernel
theorem dX6_readOrder_182 : decode cX6_readOrder 182 = .ok (.aload_n 0, 1) := by decide +kernel
theorem dX6_readOrder_183 : decode cX6_readOrder 183 = .ok (.dup, 1) := by decide +kernel
theorem dX6_readOrder_184 : decode cX6_readOrder 184 = .ok (.getfield 195, 3) := by decide +kernel
theorem dX6_readOrder_187 : decode cX6_readOrder 187 = .ok (.iconst 1, 1) := by decide +kernel
theorem dX6_readOrder_188 : decode cX6_readOrder 188 = .ok (.iadd, 1) := by decide +kernel
theorem dX6_readOrder_189 : decode cX6_readOrder 189 = .ok (.putfield 195, 3) := by decide +kernel
theorem dX6_readOrder_192 : decode cX6_readOrder 192 = .ok (.return_, 1) := by decide +kernel
set_option maxRecDepth 20000 in
theorem ggX6_readPad_X6_readOrder : GoodIn wsX6_readPad wsX6_readOrder := goodIn_r _ [9, 1, 10, 11, 12, 13, 8, 14, 2, 4, 15, 16, 17, 18, 19, 3, 20, 21, 22, 23, 24, 25, 26, 27, 28, 29, 30, 31, 32, 33, 34, 35, 36, 37, 38, 39, 40, 41, 42] (by decide +kernel) (by decide +kernel)
set_option maxRecDepth 20000 in
theorem gX6_readPad_X6_readOrder : GoodIn wsX6_readPad (wsV RX6 201 RX6 yX6_readOrder wsX6_readOrder) := goodIn_app (goodIn_of _ (by decide +kernel)) ggX6_readPad_X6_readOrder
set_option maxRecDepth 20000 in
theorem ggX6_readPad_X6_letter : GoodIn wsX6_readPad wsX6_letter := goodIn_r _ [14, 2, 4, 15, 27, 28, 29, 30, 31, 32, 33, 34, 35, 36, 37, 38, 39, 40, 41, 42] (by decide +kernel) (by decide +kernel)
set_option maxRecDepth 20000 in
theorem gX6_readPad_X6_letter : GoodIn wsX6_readPad (wsV RX6 188 RX6 yX6_letter wsX6_letter) := goodIn_app (goodIn_of _ (by decide +kernel)) ggX6_readPad_X6_letter
set_option maxRecDepth 20000 in
theorem ggX6_readPad_X6_wants : GoodIn wsX6_readPad wsX6_wants := goodIn_r _ [19, 3, 2, 27, 28, 29, 30, 31, 32, 33, 34, 35, 36, 37, 38, 39, 40, 41, 42] (by decide +kernel) (by decide +kernel)
set_option maxRecDepth 20000 in
theorem gX6_readPad_X6_wants : GoodIn wsX6_readPad (wsV RX6 191 RX6 yX6_wants wsX6_wants) := goodIn_app (goodIn_of _ (by decide +kernel)) ggX6_readPad_X6_wants
theorem dX6_readPad_0 : decode cX6_readPad 0 = .ok (.aload_n 0, 1) := by decide +kernel
theorem dX6_readPad_1 : decode cX6_readPad 1 = .ok (.iconst 0, 1) := by decide +kernel
theorem dX6_readPad_2 : decode cX6_readPad 2 = .ok (.putfield 195, 3) := by decide +kernel
theorem dX6_readPad_5 : decode cX6_readPad 5 = .ok (.aload_n 0, 1) := by decide +kernel
theorem dX6_readPad_6 : decode cX6_readPad 6 = .ok (.iconst 0, 1) := by decide +kernel
theorem dX6_readPad_7 : decode cX6_readPad 7 = .ok (.putfield 182, 3) := by decide +kernel
theorem dX6_readPad_10 : decode cX6_readPad 10 = .ok (.aload_n 0, 1) := by decide +kernel
theorem dX6_readPad_11 : decode cX6_readPad 11 = .ok (.bipush (-6), 2) := by decide +kernel
theorem dX6_readPad_13 : decode cX6_readPad 13 = .ok (.putfield 185, 3) := by decide +kernel
theorem dX6_readPad_16 : decode cX6_readPad 16 = .ok (.iconst 1, 1) := by decide +kernel
theorem dX6_readPad_17 : decode cX6_readPad 17 = .ok (.istore_n 1, 1) := by decide +kernel
theorem dX6_readPad_18 : decode cX6_readPad 18 = .ok (.iload_n 1, 1) := by decide +kernel
theorem dX6_readPad_19 : decode cX6_readPad 19 = .ok (.ifCond .eq 73, 3) := by decide +kernel
theorem dX6_readPad_22 : decode cX6_readPad 22 = .ok (.aload_n 0, 1) := by decide +kernel
theorem dX6_readPad_23 : decode cX6_readPad 23 = .ok (.invokevirtual 201, 3) := by decide +kernel
theorem dX6_readPad_26 : decode cX6_readPad 26 = .ok (.aload_n 0, 1) := by decide +kernel
theorem dX6_readPad_27 : decode cX6_readPad 27 = .ok (.getfield 185, 3) := by decide +kernel
theorem dX6_readPad_30 : decode cX6_readPad 30 = .ok (.bipush (-6), 2) := by decide +kernel
theorem dX6_readPad_32 : decode cX6_readPad 32 = .ok (.if_icmp .ne 18, 3) := by decide +kernel
theorem dX6_readPad_35 : decode cX6_readPad 35 = .ok (.aload_n 0, 1) := by decide +kernel
theorem dX6_readPad_36 : decode cX6_readPad 36 = .ok (.getfield 182, 3) := by decide +kernel
theorem dX6_readPad_39 : decode cX6_readPad 39 = .ok (.aload_n 0, 1) := by decide +kernel
theorem dX6_readPad_40 : decode cX6_readPad 40 = .ok (.getfield 168, 3) := by decide +kernel
theorem dX6_readPad_43 : decode cX6_readPad 43 = .ok (.if_icmp .ge 7, 3) := by decide +kernel
theorem dX6_readPad_46 : decode cX6_readPad 46 = .ok (.iconst 1, 1) := by decide +kernel
theorem dX6_readPad_47 : decode cX6_readPad 47 = .ok (.goto 4, 3) := by decide +kernel
theorem dX6_readPad_50 : decode cX6_readPad 50 = .ok (.iconst 0, 1) := by decide +kernel
theorem dX6_readPad_51 : decode cX6_readPad 51 = .ok (.istore_n 1, 1) := by decide +kernel
theorem dX6_readPad_52 : decode cX6_readPad 52 = .ok (.iload_n 1, 1) := by decide +kernel
theorem dX6_readPad_53 : decode cX6_readPad 53 = .ok (.ifCond .eq (-35), 3) := by decide +kernel
theorem dX6_readPad_56 : decode cX6_readPad 56 = .ok (.aload_n 0, 1) := by decide +kernel
theorem dX6_readPad_57 : decode cX6_readPad 57 = .ok (.aload_n 0, 1) := by decide +kernel
theorem dX6_readPad_58 : decode cX6_readPad 58 = .ok (.invokevirtual 188, 3) := by decide +kernel
theorem dX6_readPad_61 : decode cX6_readPad 61 = .ok (.bipush 59, 2) := by decide +kernel
theorem dX6_readPad_63 : decode cX6_readPad 63 = .ok (.if_icmp .ne 7, 3) := by decide +kernel
theorem dX6_readPad_66 : decode cX6_readPad 66 = .ok (.iconst 1, 1) := by decide +kernel
theorem dX6_readPad_67 : decode cX6_readPad 67 = .ok (.goto 4, 3) := by decide +kernel
theorem dX6_readPad_70 : decode cX6_readPad 70 = .ok (.iconst 0, 1) := by decide +kernel
theorem dX6_readPad_71 : decode cX6_readPad 71 = .ok (.invokevirtual 191, 3) := by decide +kernel
theorem dX6_readPad_74 : decode cX6_readPad 74 = .ok (.aload_n 0, 1) := by decide +kernel
theorem dX6_readPad_75 : decode cX6_readPad 75 = .ok (.getfield 185, 3) := by decide +kernel
theorem dX6_readPad_78 : decode cX6_readPad 78 = .ok (.bipush (-6), 2) := by decide +kernel
theorem dX6_readPad_80 : decode cX6_readPad 80 = .ok (.if_icmp .ne 7, 3) := by decide +kernel
theorem dX6_readPad_83 : decode cX6_readPad 83 = .ok (.iconst 1, 1) := by decide +kernel
theorem dX6_readPad_84 : decode cX6_readPad 84 = .ok (.goto 4, 3) := by decide +kernel
theorem dX6_readPad_87 : decode cX6_readPad 87 = .ok (.iconst 0, 1) := by decide +kernel
theorem dX6_readPad_88 : decode cX6_readPad 88 = .ok (.istore_n 1, 1) := by decide +kernel
theorem dX6_readPad_89 : decode cX6_readPad 89 = .ok (.goto (-71), 3) := by decide +kernel
theorem dX6_readPad_92 : decode cX6_readPad 92 = .ok (.aload_n 0, 1) := by decide +kernel
theorem dX6_readPad_93 : decode cX6_readPad 93 = .ok (.getfield 185, 3) := by decide +kernel
theorem dX6_readPad_96 : decode cX6_readPad 96 = .ok (.ireturn, 1) := by decide +kernel
set_option maxRecDepth 20000 in
theorem ggX6_fault_X6_readPad : GoodIn wsX6_fault wsX6_readPad := goodIn_r _ [5, 6, 7, 8, 9, 10, 11, 12, 4, 13, 14, 15, 16, 17, 18, 19, 20, 21, 22, 23, 24, 25, 26, 27, 28, 29, 30, 31, 32, 33, 34, 35, 36, 37, 38, 39, 40, 41, 42, 43, 44, 45, 46] (by decide +kernel) (by decide +kernel)
set_option maxRecDepth 20000 in
theorem gX6_fault_X6_readPad : GoodIn wsX6_fault (wsV RX6 204 RX6 yX6_readPad wsX6_readPad) := goodIn_app (goodIn_of _ (by decide +kernel)) ggX6_fault_X6_readPad
theorem dX6_fault_0 : decode cX6_fault 0 = .ok (.aload_n 0, 1) := by decide +kernel
theorem dX6_fault_1 : decode cX6_fault 1 = .ok (.invokevirtual 204, 3) := by decide +kernel
theorem dX6_fault_4 : decode cX6_fault 4 = .ok (.ireturn, 1) := by decide +kernel
set_option maxRecDepth 20000 in
theorem ggX6_does_X6_beginOne : GoodIn wsX6_does wsX6_beginOne := goodIn_r _ [7, 2, 8, 9, 10, 6, 11, 12, 13, 14, 15, 16, 17, 18, 19, 20, 21, 22, 23, 109, 110, 111, 112, 113, 114, 115, 116, 117, 118, 119, 120, 121, 122, 123, 124] (by decide +kernel) (by decide +kernel)
set_option maxRecDepth 20000 in
theorem gX6_does_X6_beginOne : GoodIn wsX6_does (wsV RX6 97 RX6 yX6_beginOne wsX6_beginOne) := goodIn_app (goodIn_of _ (by decide +kernel)) ggX6_does_X6_beginOne
set_option maxRecDepth 20000 in
theorem ggX6_does_X6_whyNotRead : GoodIn wsX6_does wsX6_whyNotRead := goodIn_r _ [27, 28, 29, 30, 6, 31, 2, 32, 33, 34, 35, 36, 37, 12, 13, 14, 15, 16, 17, 18, 19, 109, 110, 111, 112, 113, 114, 115, 116, 117, 118, 119, 120, 121, 122, 123, 124] (by decide +kernel) (by decide +kernel)
set_option maxRecDepth 20000 in
theorem gX6_does_X6_whyNotRead : GoodIn wsX6_does (wsV RX6 114 RX6 yX6_whyNotRead wsX6_whyNotRead) := goodIn_app (goodIn_of _ (by decide +kernel)) ggX6_does_X6_whyNotRead
set_option maxRecDepth 20000 in
theorem ggX6_does_X6_readOne : GoodIn wsX6_does wsX6_readOne := goodIn_r _ [41, 42, 43, 44, 6, 45, 46, 47, 48, 49, 16, 17, 18, 19, 2, 50, 51, 52, 53, 12, 13, 14, 15, 20, 21, 22, 23, 109, 110, 111, 112, 113, 114, 115, 116, 117, 118, 119, 120, 121, 122, 123, 124] (by decide +kernel) (by decide +kernel)
set_option maxRecDepth 20000 in
theorem gX6_does_X6_readOne : GoodIn wsX6_does (wsV RX6 117 RX6 yX6_readOne wsX6_readOne) := goodIn_app (goodIn_of _ (by decide +kernel)) ggX6_does_X6_readOne
set_option maxRecDepth 20000 in
theorem ggX6_does_X6_whyNotWrite : GoodIn wsX6_does wsX6_whyNotWrite := goodIn_r _ [57, 28, 29, 30, 6, 31, 2, 32, 33, 34, 35, 36, 37, 12, 13, 14, 15, 16, 17, 18, 19, 109, 110, 111, 112, 113, 114, 115, 116, 117, 118, 119, 120, 121, 122, 123, 124] (by decide +kernel) (by decide +kernel)
set_option maxRecDepth 20000 in
theorem gX6_does_X6_whyNotWrite : GoodIn wsX6_does (wsV RX6 120 RX6 yX6_whyNotWrite wsX6_whyNotWrite) := goodIn_app (goodIn_of _ (by decide +kernel)) ggX6_does_X6_whyNotWrite
set_option maxRecDepth 20000 in
theorem ggX6_does_X6_writeOne : GoodIn wsX6_does wsX6_writeOne := goodIn_r _ [61, 16, 17, 18, 6, 19, 2, 20, 21, 22, 23, 109, 110, 111, 112, 113, 114, 115, 116, 117, 118, 119, 120, 121, 122, 123, 124] (by decide +kernel) (by decide +kernel)
set_option maxRecDepth 20000 in
theorem gX6_does_X6_writeOne : GoodIn wsX6_does (wsV RX6 124 RX6 yX6_writeOne wsX6_writeOne) := goodIn_app (goodIn_of _ (by decide +kernel)) ggX6_does_X6_writeOne
set_option maxRecDepth 20000 in
theorem ggX6_does_X6_whyNotEnd : GoodIn wsX6_does wsX6_whyNotEnd := goodIn_r _ [65, 28, 29, 30, 6, 31, 2, 12, 13, 14, 15, 16, 17, 18, 19, 109, 110, 111, 112, 113, 114, 115, 116, 117, 118, 119, 120, 121, 122, 123, 124] (by decide +kernel) (by decide +kernel)
set_option maxRecDepth 20000 in
theorem gX6_does_X6_whyNotEnd : GoodIn wsX6_does (wsV RX6 134 RX6 yX6_whyNotEnd wsX6_whyNotEnd) := goodIn_app (goodIn_of _ (by decide +kernel)) ggX6_does_X6_whyNotEnd
set_option maxRecDepth 20000 in
theorem ggX6_does_X6_commitOne : GoodIn wsX6_does wsX6_commitOne := goodIn_r _ [69, 2, 70, 71, 72, 6, 73, 46, 47, 48, 49, 16, 17, 18, 19, 74, 75, 76, 77, 12, 13, 14, 15, 20, 21, 22, 23, 78, 79, 80, 81, 82, 83, 84, 85, 86, 87, 88, 89, 90, 91, 92, 93, 94, 95, 96, 97, 98, 99, 100, 101, 102, 103, 104, 105, 106, 107, 108, 109, 110, 111, 112, 113, 114, 115, 116, 117, 118, 119, 120, 121, 122, 123, 124] (by decide +kernel) (by decide +kernel)
set_option maxRecDepth 20000 in
theorem gX6_does_X6_commitOne : GoodIn wsX6_does (wsV RX6 137 RX6 yX6_commitOne wsX6_commitOne) := goodIn_app (goodIn_of _ (by decide +kernel)) ggX6_does_X6_commitOne
set_option maxRecDepth 20000 in
theorem ggX6_does_X6_abortOne : GoodIn wsX6_does wsX6_abortOne := goodIn_r _ [108, 20, 21, 22, 6, 23, 2, 109, 110, 111, 112, 113, 114, 115, 116, 117, 118, 119, 120, 121, 122, 123, 124] (by decide +kernel) (by decide +kernel)
set_option maxRecDepth 20000 in
theorem gX6_does_X6_abortOne : GoodIn wsX6_does (wsV RX6 130 RX6 yX6_abortOne wsX6_abortOne) := goodIn_app (goodIn_of _ (by decide +kernel)) ggX6_does_X6_abortOne
theorem dX6_does_0 : decode cX6_does 0 = .ok (.aload_n 0, 1) := by decide +kernel
theorem dX6_does_1 : decode cX6_does 1 = .ok (.getfield 33, 3) := by decide +kernel
theorem dX6_does_4 : decode cX6_does 4 = .ok (.iconst 4, 1) := by decide +kernel
theorem dX6_does_5 : decode cX6_does 5 = .ok (.iload_n 1, 1) := by decide +kernel
theorem dX6_does_6 : decode cX6_does 6 = .ok (.imul, 1) := by decide +kernel
theorem dX6_does_7 : decode cX6_does 7 = .ok (.iconst 1, 1) := by decide +kernel
theorem dX6_does_8 : decode cX6_does 8 = .ok (.iadd, 1) := by decide +kernel
theorem dX6_does_9 : decode cX6_does 9 = .ok (.iaload, 1) := by decide +kernel
theorem dX6_does_10 : decode cX6_does 10 = .ok (.istore_n 2, 1) := by decide +kernel
theorem dX6_does_11 : decode cX6_does 11 = .ok (.aload_n 0, 1) := by decide +kernel
theorem dX6_does_12 : decode cX6_does 12 = .ok (.getfield 33, 3) := by decide +kernel
theorem dX6_does_15 : decode cX6_does 15 = .ok (.iconst 4, 1) := by decide +kernel
theorem dX6_does_16 : decode cX6_does 16 = .ok (.iload_n 1, 1) := by decide +kernel
theorem dX6_does_17 : decode cX6_does 17 = .ok (.imul, 1) := by decide +kernel
theorem dX6_does_18 : decode cX6_does 18 = .ok (.iconst 2, 1) := by decide +kernel
theorem dX6_does_19 : decode cX6_does 19 = .ok (.iadd, 1) := by decide +kernel
theorem dX6_does_20 : decode cX6_does 20 = .ok (.iaload, 1) := by decide +kernel
theorem dX6_does_21 : decode cX6_does 21 = .ok (.istore_n 3, 1) := by decide +kernel
theorem dX6_does_22 : decode cX6_does 22 = .ok (.aload_n 0, 1) := by decide +kernel
theorem dX6_does_23 : decode cX6_does 23 = .ok (.getfield 33, 3) := by decide +kernel
theorem dX6_does_26 : decode cX6_does 26 = .ok (.iconst 4, 1) := by decide +kernel
theorem dX6_does_27 : decode cX6_does 27 = .ok (.iload_n 1, 1) := by decide +kernel
theorem dX6_does_28 : decode cX6_does 28 = .ok (.imul, 1) := by decide +kernel
theorem dX6_does_29 : decode cX6_does 29 = .ok (.iconst 3, 1) := by decide +kernel
theorem dX6_does_30 : decode cX6_does 30 = .ok (.iadd, 1) := by decide +kernel
theorem dX6_does_31 : decode cX6_does 31 = .ok (.iaload, 1) := by decide +kernel
theorem dX6_does_32 : decode cX6_does 32 = .ok (.istore 4, 2) := by decide +kernel
theorem dX6_does_34 : decode cX6_does 34 = .ok (.aload_n 0, 1) := by decide +kernel
theorem dX6_does_35 : decode cX6_does 35 = .ok (.getfield 33, 3) := by decide +kernel
theorem dX6_does_38 : decode cX6_does 38 = .ok (.iconst 4, 1) := by decide +kernel
theorem dX6_does_39 : decode cX6_does 39 = .ok (.iload_n 1, 1) := by decide +kernel
theorem dX6_does_40 : decode cX6_does 40 = .ok (.imul, 1) := by decide +kernel
theorem dX6_does_41 : decode cX6_does 41 = .ok (.iaload, 1) := by decide +kernel
theorem dX6_does_42 : decode cX6_does 42 = .ok (.lookupswitch 140 #[(98, 42), (99, 117), (114, 63), (119, 88)], 42) := by decide +kernel
theorem dX6_does_84 : decode cX6_does 84 = .ok (.aload_n 0, 1) := by decide +kernel
theorem dX6_does_85 : decode cX6_does 85 = .ok (.getfield 7, 3) := by decide +kernel
theorem dX6_does_88 : decode cX6_does 88 = .ok (.iconst 2, 1) := by decide +kernel
theorem dX6_does_89 : decode cX6_does 89 = .ok (.iaload, 1) := by decide +kernel
theorem dX6_does_90 : decode cX6_does 90 = .ok (.bipush 12, 2) := by decide +kernel
theorem dX6_does_92 : decode cX6_does 92 = .ok (.if_icmp .ne 8, 3) := by decide +kernel
theorem dX6_does_95 : decode cX6_does 95 = .ok (.bipush (-4), 2) := by decide +kernel
theorem dX6_does_97 : decode cX6_does 97 = .ok (.goto 7, 3) := by decide +kernel
theorem dX6_does_100 : decode cX6_does 100 = .ok (.aload_n 0, 1) := by decide +kernel
theorem dX6_does_101 : decode cX6_does 101 = .ok (.invokevirtual 97, 3) := by decide +kernel
theorem dX6_does_104 : decode cX6_does 104 = .ok (.ireturn, 1) := by decide +kernel
theorem dX6_does_105 : decode cX6_does 105 = .ok (.aload_n 0, 1) := by decide +kernel
theorem dX6_does_106 : decode cX6_does 106 = .ok (.iload_n 2, 1) := by decide +kernel
theorem dX6_does_107 : decode cX6_does 107 = .ok (.iload_n 3, 1) := by decide +kernel
theorem dX6_does_108 : decode cX6_does 108 = .ok (.invokevirtual 114, 3) := by decide +kernel
theorem dX6_does_111 : decode cX6_does 111 = .ok (.istore 5, 2) := by decide +kernel
theorem dX6_does_113 : decode cX6_does 113 = .ok (.iload 5, 2) := by decide +kernel
theorem dX6_does_115 : decode cX6_does 115 = .ok (.ifCond .ge 8, 3) := by decide +kernel
theorem dX6_does_118 : decode cX6_does 118 = .ok (.iload 5, 2) := by decide +kernel
theorem dX6_does_120 : decode cX6_does 120 = .ok (.goto 9, 3) := by decide +kernel
theorem dX6_does_123 : decode cX6_does 123 = .ok (.aload_n 0, 1) := by decide +kernel
theorem dX6_does_124 : decode cX6_does 124 = .ok (.iload_n 2, 1) := by decide +kernel
theorem dX6_does_125 : decode cX6_does 125 = .ok (.iload_n 3, 1) := by decide +kernel
theorem dX6_does_126 : decode cX6_does 126 = .ok (.invokevirtual 117, 3) := by decide +kernel
theorem dX6_does_129 : decode cX6_does 129 = .ok (.ireturn, 1) := by decide +kernel
theorem dX6_does_130 : decode cX6_does 130 = .ok (.aload_n 0, 1) := by decide +kernel
theorem dX6_does_131 : decode cX6_does 131 = .ok (.iload_n 2, 1) := by decide +kernel
theorem dX6_does_132 : decode cX6_does 132 = .ok (.iload_n 3, 1) := by decide +kernel
theorem dX6_does_133 : decode cX6_does 133 = .ok (.iload 4, 2) := by decide +kernel
theorem dX6_does_135 : decode cX6_does 135 = .ok (.invokevirtual 120, 3) := by decide +kernel
theorem dX6_does_138 : decode cX6_does 138 = .ok (.istore 5, 2) := by decide +kernel
theorem dX6_does_140 : decode cX6_does 140 = .ok (.iload 5, 2) := by decide +kernel
theorem dX6_does_142 : decode cX6_does 142 = .ok (.ifCond .ge 8, 3) := by decide +kernel
theorem dX6_does_145 : decode cX6_does 145 = .ok (.iload 5, 2) := by decide +kernel
theorem dX6_does_147 : decode cX6_does 147 = .ok (.goto 11, 3) := by decide +kernel
theorem dX6_does_150 : decode cX6_does 150 = .ok (.aload_n 0, 1) := by decide +kernel
theorem dX6_does_151 : decode cX6_does 151 = .ok (.iload_n 2, 1) := by decide +kernel
theorem dX6_does_152 : decode cX6_does 152 = .ok (.iload_n 3, 1) := by decide +kernel
theorem dX6_does_153 : decode cX6_does 153 = .ok (.iload 4, 2) := by decide +kernel
theorem dX6_does_155 : decode cX6_does 155 = .ok (.invokevirtual 124, 3) := by decide +kernel
theorem dX6_does_158 : decode cX6_does 158 = .ok (.ireturn, 1) := by decide +kernel
theorem dX6_does_159 : decode cX6_does 159 = .ok (.aload_n 0, 1) := by decide +kernel
theorem dX6_does_160 : decode cX6_does 160 = .ok (.iload_n 2, 1) := by decide +kernel
theorem dX6_does_161 : decode cX6_does 161 = .ok (.invokevirtual 134, 3) := by decide +kernel
theorem dX6_does_164 : decode cX6_does 164 = .ok (.istore 5, 2) := by decide +kernel
theorem dX6_does_166 : decode cX6_does 166 = .ok (.iload 5, 2) := by decide +kernel
theorem dX6_does_168 : decode cX6_does 168 = .ok (.ifCond .ge 8, 3) := by decide +kernel
theorem dX6_does_171 : decode cX6_does 171 = .ok (.iload 5, 2) := by decide +kernel
theorem dX6_does_173 : decode cX6_does 173 = .ok (.goto 8, 3) := by decide +kernel
theorem dX6_does_176 : decode cX6_does 176 = .ok (.aload_n 0, 1) := by decide +kernel
theorem dX6_does_177 : decode cX6_does 177 = .ok (.iload_n 2, 1) := by decide +kernel
theorem dX6_does_178 : decode cX6_does 178 = .ok (.invokevirtual 137, 3) := by decide +kernel
theorem dX6_does_181 : decode cX6_does 181 = .ok (.ireturn, 1) := by decide +kernel
theorem dX6_does_182 : decode cX6_does 182 = .ok (.aload_n 0, 1) := by decide +kernel
theorem dX6_does_183 : decode cX6_does 183 = .ok (.iload_n 2, 1) := by decide +kernel
theorem dX6_does_184 : decode cX6_does 184 = .ok (.invokevirtual 134, 3) := by decide +kernel
theorem dX6_does_187 : decode cX6_does 187 = .ok (.istore 5, 2) := by decide +kernel
theorem dX6_does_189 : decode cX6_does 189 = .ok (.iload 5, 2) := by decide +kernel
theorem dX6_does_191 : decode cX6_does 191 = .ok (.ifCond .ne 9, 3) := by decide +kernel
theorem dX6_does_194 : decode cX6_does 194 = .ok (.aload_n 0, 1) := by decide +kernel
theorem dX6_does_195 : decode cX6_does 195 = .ok (.iload_n 2, 1) := by decide +kernel
theorem dX6_does_196 : decode cX6_does 196 = .ok (.iconst 0, 1) := by decide +kernel
theorem dX6_does_197 : decode cX6_does 197 = .ok (.invokevirtual 130, 3) := by decide +kernel
theorem dX6_does_200 : decode cX6_does 200 = .ok (.iload 5, 2) := by decide +kernel
theorem dX6_does_202 : decode cX6_does 202 = .ok (.ireturn, 1) := by decide +kernel
set_option maxRecDepth 20000 in
theorem ggX6_carryOut_X6_readPad : GoodIn wsX6_carryOut wsX6_readPad := goodIn_r _ [7, 1, 8, 9, 2, 10, 11, 12, 6, 13, 14, 15, 16, 17, 18, 19, 20, 21, 22, 23, 24, 25, 26, 27, 28, 29, 30, 144, 145, 146, 147, 148, 149, 150, 151, 152, 153, 154, 155, 156, 157, 158, 159] (by decide +kernel) (by decide +kernel)
set_option maxRecDepth 20000 in
theorem gX6_carryOut_X6_readPad : GoodIn wsX6_carryOut (wsV RX6 204 RX6 yX6_readPad wsX6_readPad) := goodIn_app (goodIn_of _ (by decide +kernel)) ggX6_carryOut_X6_readPad
set_option maxRecDepth 20000 in
theorem ggX6_carryOut_X6_record : GoodIn wsX6_carryOut wsX6_record := goodIn_r _ [34, 35, 36, 37, 144, 145, 146, 147, 148, 149, 150, 151, 152, 153, 154, 155, 156, 157, 158, 159] (by decide +kernel) (by decide +kernel)
set_option maxRecDepth 20000 in
theorem gX6_carryOut_X6_record : GoodIn wsX6_carryOut (wsV RX6 48 RX6 yX6_record wsX6_record) := goodIn_app (goodIn_of _ (by decide +kernel)) ggX6_carryOut_X6_record
set_option maxRecDepth 20000 in
theorem ggX6_carryOut_X6_does : GoodIn wsX6_carryOut wsX6_does := goodIn_r _ [41, 14, 37, 42, 43, 44, 6, 45, 46, 47, 48, 49, 50, 51, 52, 53, 54, 55, 56, 57, 58, 59, 60, 61, 62, 63, 64, 65, 66, 67, 68, 69, 70, 71, 72, 28, 29, 30, 73, 74, 75, 76, 77, 78, 79, 80, 81, 82, 83, 84, 85, 86, 87, 88, 89, 90, 91, 92, 93, 94, 95, 96, 97, 98, 99, 100, 101, 102, 103, 104, 105, 106, 107, 108, 109, 110, 111, 112, 113, 114, 115, 116, 117, 118, 119, 120, 121, 122, 123, 124, 125, 126, 127, 128, 129, 130, 131, 132, 133, 134, 135, 136, 137, 138, 139, 140, 141, 142, 143, 144, 145, 146, 147, 148, 149, 150, 151, 152, 153, 154, 155, 156, 157, 158, 159] (by decide +kernel) (by decide +kernel)
set_option maxRecDepth 20000 in
theorem gX6_carryOut_X6_does : GoodIn wsX6_carryOut (wsV RX6 207 RX6 yX6_does wsX6_does) := goodIn_app (goodIn_of _ (by decide +kernel)) ggX6_carryOut_X6_does
theorem dX6_carryOut_0 : decode cX6_carryOut 0 = .ok (.aload_n 0, 1) := by decide +kernel
theorem dX6_carryOut_1 : decode cX6_carryOut 1 = .ok (.invokevirtual 204, 3) := by decide +kernel
theorem dX6_carryOut_4 : decode cX6_carryOut 4 = .ok (.bipush (-6), 2) := by decide +kernel
theorem dX6_carryOut_6 : decode cX6_carryOut 6 = .ok (.if_icmp .eq 6, 3) := by decide +kernel
theorem dX6_carryOut_9 : decode cX6_carryOut 9 = .ok (.bipush (-3), 2) := by decide +kernel
theorem dX6_carryOut_11 : decode cX6_carryOut 11 = .ok (.ireturn, 1) := by decide +kernel
theorem dX6_carryOut_12 : decode cX6_carryOut 12 = .ok (.aload_n 0, 1) := by decide +kernel
theorem dX6_carryOut_13 : decode cX6_carryOut 13 = .ok (.invokevirtual 48, 3) := by decide +kernel
theorem dX6_carryOut_16 : decode cX6_carryOut 16 = .ok (.iconst 0, 1) := by decide +kernel
theorem dX6_carryOut_17 : decode cX6_carryOut 17 = .ok (.istore_n 1, 1) := by decide +kernel
theorem dX6_carryOut_18 : decode cX6_carryOut 18 = .ok (.iload_n 1, 1) := by decide +kernel
theorem dX6_carryOut_19 : decode cX6_carryOut 19 = .ok (.aload_n 0, 1) := by decide +kernel
theorem dX6_carryOut_20 : decode cX6_carryOut 20 = .ok (.getfield 195, 3) := by decide +kernel
theorem dX6_carryOut_23 : decode cX6_carryOut 23 = .ok (.if_icmp .ge 17, 3) := by decide +kernel
theorem dX6_carryOut_26 : decode cX6_carryOut 26 = .ok (.aload_n 0, 1) := by decide +kernel
theorem dX6_carryOut_27 : decode cX6_carryOut 27 = .ok (.iload_n 1, 1) := by decide +kernel
theorem dX6_carryOut_28 : decode cX6_carryOut 28 = .ok (.invokevirtual 207, 3) := by decide +kernel
theorem dX6_carryOut_31 : decode cX6_carryOut 31 = .ok (.ifCond .lt 9, 3) := by decide +kernel
theorem dX6_carryOut_34 : decode cX6_carryOut 34 = .ok (.iinc 1 1, 3) := by decide +kernel
theorem dX6_carryOut_37 : decode cX6_carryOut 37 = .ok (.goto (-19), 3) := by decide +kernel
theorem dX6_carryOut_40 : decode cX6_carryOut 40 = .ok (.aload_n 0, 1) := by decide +kernel
theorem dX6_carryOut_41 : decode cX6_carryOut 41 = .ok (.iconst 0, 1) := by decide +kernel
theorem dX6_carryOut_42 : decode cX6_carryOut 42 = .ok (.putfield 168, 3) := by decide +kernel
theorem dX6_carryOut_45 : decode cX6_carryOut 45 = .ok (.iload_n 1, 1) := by decide +kernel
theorem dX6_carryOut_46 : decode cX6_carryOut 46 = .ok (.ireturn, 1) := by decide +kernel
end
section
/-! my own base: worlds of the class and of the reference, contracts' starts and ends, calls -/
abbrev kE : Type := va_G × (Nat → ClassId)
def kTy (E : kE) : List (ClassId × FieldType) := [(E.2 0, .int), (E.2 1, .boolean), (E.2 2, .char), (E.2 3, .object "SkewEdges$Ledger")]
def kNest : List Cond := [.methodLinkNest RX0 42 yX5_contains RX5, .methodLinkNest RX2 49 yX5_isRule RX5, .methodLinkNest RX2 56 yX5_isKey RX5, .methodLinkNest RX2 59 yX5_contains RX5, .methodLinkNest RX4 36 yX5_contains RX5]
def kK (E : kE) (U : State) : Prop := va_K E.1 vwCl (kTy E) U ∧ ∀ w ∈ kNest, va_Nw w U
theorem kNest_warm {s U : State} (hW : s.WarmedH U.vm) (h : ∀ w ∈ kNest, va_Nw w s) : ∀ w ∈ kNest, va_Nw w U := by
  intro w hw
  have h2 := h w hw
  simp only [kNest, List.mem_cons, List.mem_nil_iff, or_false] at hw
  rcases hw with rfl | rfl | rfl | rfl | rfl <;> exact va_Nw.warmM hW h2
theorem kK.warm {E : kE} {s U : State} (hW : s.WarmedH U.vm) (h : kK E s) : kK E U := ⟨va_K.moved hW.alike h.1, kNest_warm hW h.2⟩
theorem kNest_same {u U : State} (hv : u.vm = U.vm) (h : ∀ w ∈ kNest, va_Nw w u) : ∀ w ∈ kNest, va_Nw w U := by
  intro w hw
  have h2 := h w hw
  simp only [kNest, List.mem_cons, List.mem_nil_iff, or_false] at hw
  rcases hw with rfl | rfl | rfl | rfl | rfl <;> exact va_Nw.same rfl hv h2
theorem kK.nest {E : kE} {s : State} (h : kK E s) (i : Nat) {w : Cond} (hi : kNest[i]? = some w) : va_Nw w s := h.2 w (List.mem_of_getElem? hi)
/-- a method's start: its arguments, the tables, its world -/
def kPre (E : kE) (av : List Value) (w : va_W) : Array Value → State → Prop := va_Pc av (fun U => kK E U ∧ va_P E.1 vwCl w U.heap)
theorem kPre_blind {E : kE} {av : List Value} {w : va_W} : FrameBlind (kPre E av w) := fun a U g mk q => by
  obtain ⟨q0, q1, q2⟩ := q
  exact ⟨q0, ⟨va_K.moved (u := U) (U := U.calling g mk a) (Vm.Alike.refl U.vm) q1.1, kNest_same (u := U) (U := U.calling g mk a) rfl q1.2⟩, q2⟩
theorem kPreS {E : kE} {As : List Value} {w : va_W} {s : State} {H : Heap} (hK : kK E s) (hP : va_P E.1 vwCl w H) : PreS s H (kPre E As w) As := ⟨kPre_blind, fun U hU hW => ⟨rfl, hK.warm hW, by rw [hU]; exact hP⟩⟩
theorem kPreV {E : kE} {As : List Value} {w ws : va_W} {s : State} {H : Heap} {b q0 ci : Nat} {r : vw_C} {fs : List Value} (hK : kK E s) (hP : va_P E.1 vwCl ws H) (hw : va_P E.1 vwCl w H) (he : ws[q0]? = some (b, .inr (ci, fs))) (hc : vwCl[ci]? = some r) : PreV s H r.1 b (kPre E (.ref b :: As) w) As := ⟨kPre_blind, va_recv hK.1 hP hc he, fun U hU hW => ⟨rfl, hK.warm hW, by rw [hU]; exact hw⟩⟩
/-- a method's end: it only reads, or: its world is w, nothing outside A has changed -/
def kRi (r : Int32) : Array Value → State → Outcome → State → Prop := fun _ st oc t => oc = .returned (some (.int r)) ∧ t.heap = st.heap
def kRv : Array Value → State → Outcome → State → Prop := fun _ st oc t => oc = .returned none ∧ t.heap = st.heap
def kWi (E : kE) (r : Int32) (w : va_W) (A : Nat → Prop) : Array Value → State → Outcome → State → Prop := fun _ st oc t => oc = .returned (some (.int r)) ∧ va_P E.1 vwCl w t.heap ∧ va_F A st t
def kWv (E : kE) (w : va_W) (A : Nat → Prop) : Array Value → State → Outcome → State → Prop := fun _ st oc t => oc = .returned none ∧ va_P E.1 vwCl w t.heap ∧ va_F A st t
section KB
variable {p : Program} {l : Launch} {e : Env} {R : Room} {s : State} {m : MethodId} {args : Array Value} {below : List Frame} {meth : Method} {c : Code} {H : Heap} {locs : List Loc} {cells slots : Nat} {Q : State → Prop}
variable {pc : Nat} {ls : Array Slot} {rest st0 : List Value} {a : Array Value} {A : Nat → Prop} {H0 : Heap} {E : kE} {w : va_W} {r : Int32}
theorem kCallRi (hr : va_Run p l e R s m args below meth c H locs cells slots 0 0 (F0 m pc ls st0) rest (kRi r a) (fun _ => False))
    (kk : W p l e R s m args below meth c H locs cells slots Q (F0 m (pc + 3) ls (.int r :: rest))) : W p l e R s m args below meth c H locs cells slots Q (F0 m pc ls st0) := by
  intro T hT X
  obtain ⟨v, st₀, t, T', L, h0, X', hL, e1, e2, ⟨hv, hh⟩, st⟩ := hr T hT X
  cases hv
  obtain ⟨t2, a1, b1⟩ := kk T' (by rw [e1, hh, h0]) (Stand.forget X' (fun q h => (hL q h).elim))
  exact ⟨t2, st t2 a1, b1⟩
theorem kCallRv (hr : va_Run p l e R s m args below meth c H locs cells slots 0 0 (F0 m pc ls st0) rest (kRv a) (fun _ => False))
    (kk : W p l e R s m args below meth c H locs cells slots Q (F0 m (pc + 3) ls rest)) : W p l e R s m args below meth c H locs cells slots Q (F0 m pc ls st0) := by
  intro T hT X
  obtain ⟨v, st₀, t, T', L, h0, X', hL, e1, e2, ⟨hv, hh⟩, st⟩ := hr T hT X
  cases hv
  obtain ⟨t2, a1, b1⟩ := kk T' (by rw [e1, hh, h0]) (Stand.forget X' (fun q h => (hL q h).elim))
  exact ⟨t2, st t2 a1, b1⟩
theorem kCallWi {A1 : Nat → Prop} (hr : va_Run p l e R s m args below meth c H locs cells slots 0 0 (F0 m pc ls st0) rest (kWi E r w A1 a) A1) (hS : va_S A H0 H locs) (hA : ∀ q, A1 q → A q)
    (kk : ∀ (H1 : Heap) (locs1 : List Loc), va_P E.1 vwCl w H1 → H.size ≤ H1.size → (∀ q : Nat, q < H.size → ¬ A1 q → H1[q]? = H[q]?) → va_S A H0 H1 locs1 → W p l e R s m args below meth c H1 locs1 cells slots Q (F0 m (pc + 3) ls (.int r :: rest))) : W p l e R s m args below meth c H locs cells slots Q (F0 m pc ls st0) := by
  intro T hT X
  obtain ⟨v, st₀, t, T', L, h0, X', hL, e1, e2, ⟨hv, hp, hz, hk⟩, st⟩ := hr T hT X
  cases hv
  rw [h0] at hz hk
  obtain ⟨t2, a1, b1⟩ := kk T'.heap (locs ++ L) (by rw [e1]; exact hp) (by rw [e1]; exact hz) (fun q h1 h2 => by rw [e1]; exact hk q h1 h2)
    ⟨Nat.le_trans hS.1 (by rw [e1]; exact hz), fun q h1 h2 => by rw [e1, hk q (Nat.lt_of_lt_of_le h1 hS.1) (fun z => h2 (hA q z))]; exact hS.2.1 q h1 h2, fun q hq => by
      rcases List.mem_append.mp hq with h | h
      · exact hS.2.2 q h
      · exact hA _ (hL q h)⟩ T' rfl X'
  exact ⟨t2, st t2 a1, b1⟩
theorem kCallWv {A1 : Nat → Prop} (hr : va_Run p l e R s m args below meth c H locs cells slots 0 0 (F0 m pc ls st0) rest (kWv E w A1 a) A1) (hS : va_S A H0 H locs) (hA : ∀ q, A1 q → A q)
    (kk : ∀ (H1 : Heap) (locs1 : List Loc), va_P E.1 vwCl w H1 → H.size ≤ H1.size → (∀ q : Nat, q < H.size → ¬ A1 q → H1[q]? = H[q]?) → va_S A H0 H1 locs1 → W p l e R s m args below meth c H1 locs1 cells slots Q (F0 m (pc + 3) ls rest)) : W p l e R s m args below meth c H locs cells slots Q (F0 m pc ls st0) := by
  intro T hT X
  obtain ⟨v, st₀, t, T', L, h0, X', hL, e1, e2, ⟨hv, hp, hz, hk⟩, st⟩ := hr T hT X
  cases hv
  rw [h0] at hz hk
  obtain ⟨t2, a1, b1⟩ := kk T'.heap (locs ++ L) (by rw [e1]; exact hp) (by rw [e1]; exact hz) (fun q h1 h2 => by rw [e1]; exact hk q h1 h2)
    ⟨Nat.le_trans hS.1 (by rw [e1]; exact hz), fun q h1 h2 => by rw [e1, hk q (Nat.lt_of_lt_of_le h1 hS.1) (fun z => h2 (hA q z))]; exact hS.2.1 q h1 h2, fun q hq => by
      rcases List.mem_append.mp hq with h | h
      · exact hS.2.2 q h
      · exact hA _ (hL q h)⟩ T' rfl X'
  exact ⟨t2, st t2 a1, b1⟩
end KB
/-! states as rows of numbers: row 0 the numbers of the object itself, row k its k-th array -/
abbrev kG : Type := Nat → Nat → Int32
def rset (u : kG) (r : Nat) (f : Nat → Int32) : kG := fun k => if k = r then f else u k
def wLed (E : kE) (a : Nat → Nat) (v : kG) : va_W := [(a 0, .inr (1, [.int (v 0 0), .int (v 0 1), .int (v 0 2), .ref (a 1), .ref (a 2), .ref (a 3), .ref (a 4), .ref (a 5), .ref (a 6), .ref (a 7)])), (a 1, .inl (E.2 0, 12, .inl (v 1))), (a 2, .inl (E.2 0, 12, .inl (v 2))), (a 3, .inl (E.2 0, 12, .inl (v 3))), (a 4, .inl (E.2 0, 12, .inl (v 4))), (a 5, .inl (E.2 0, 12, .inl (v 5))), (a 6, .inl (E.2 0, 12, .inl (v 6))), (a 7, .inl (E.2 0, 192, .inl (v 7)))]
def wPad (E : kE) (a : Nat → Nat) (v : kG) : va_W := [(a 0, .inr (2, [.int (v 0 0), .int (v 0 1), .int (v 0 2), .int (v 0 3), .int (v 0 4), .int (v 0 5), .int (v 0 6), .ref (a 1)])), (a 1, .inl (E.2 2, 80, .inl (v 1)))]
def wSeq (E : kE) (a : Nat → Nat) (v : kG) : va_W := [(a 0, .inr (3, [.ref (a 1), .ref (a 2)])), (a 1, .inl (E.2 0, 12, .inl (v 1))), (a 2, .inl (E.2 0, 12, .inl (v 2)))]
def wMod (E : kE) (a : Nat → Nat) (v : kG) : va_W := [(a 0, .inr (5, [.ref (a 1), .ref (a 2), .ref (a 3), .ref (a 4), .int (v 0 0), .ref (a 5), .int (v 0 1), .int (v 0 2), .int (v 0 3), .int (v 0 4), .ref (a 6), .ref (a 7), .ref (a 8), .int (v 0 5), .int (v 0 6), .int (v 0 7)])), (a 1, .inl (E.2 0, 279, .inl (v 1))), (a 2, .inl (E.2 0, 1674, .inl (v 2))), (a 3, .inl (E.2 0, 558, .inl (v 3))), (a 4, .inl (E.2 1, 2, .inl (v 4))), (a 5, .inl (E.2 2, 80, .inl (v 5))), (a 6, .inl (E.2 0, 12, .inl (v 6))), (a 7, .inl (E.2 0, 12, .inl (v 7))), (a 8, .inl (E.2 0, 164, .inl (v 8)))]
/-- the addresses a 0 .. a (n - 1) -/
def kA (a : Nat → Nat) (n : Nat) : Nat → Prop := fun q => ∃ i, i < n ∧ q = a i
def kInj (a : Nat → Nat) (n : Nat) : Prop := ∀ i j, i < n → j < n → a i = a j → i = j
/-- a world whose k-th cell lies at a k -/
theorem kD_of {a : Nat → Nat} {n : Nat} (h : kInj a n) {ws : va_W} (hn : ws.map Prod.fst = (List.range n).map a) : va_D (kA a n) ws := by
  have key : ∀ (k : Nat) (q : Nat × va_E), ws[k]? = some q → k < n ∧ q.1 = a k := by
    intro k q hk
    have h1 : (ws.map Prod.fst)[k]? = some q.1 := by rw [List.getElem?_map, hk]; rfl
    rw [hn, List.getElem?_map] at h1
    rcases Nat.lt_or_ge k n with hl | hl
    · rw [List.getElem?_range hl] at h1
      exact ⟨hl, (Option.some.inj h1).symm⟩
    · rw [List.getElem?_eq_none (by simpa using hl)] at h1
      cases h1
  refine ⟨fun i j p q hi hj e => ?_, fun k q hk => ?_⟩
  · obtain ⟨a1, a2⟩ := key i p hi
    obtain ⟨b1, b2⟩ := key j q hj
    exact h i j a1 b1 (by rw [← a2, ← b2, e])
  · obtain ⟨a1, a2⟩ := key k q hk
    exact ⟨k, a1, a2⟩
theorem dLed {E : kE} {a : Nat → Nat} (h : kInj a 8) (v : kG) : va_D (kA a 8) (wLed E a v) := kD_of h rfl
theorem dPad {E : kE} {a : Nat → Nat} (h : kInj a 2) (v : kG) : va_D (kA a 2) (wPad E a v) := kD_of h rfl
theorem dMod {E : kE} {a : Nat → Nat} (h : kInj a 9) (v : kG) : va_D (kA a 9) (wMod E a v) := kD_of h rfl
/-- two groups side by side -/
def kAp (a : Nat → Nat) (n : Nat) (b : Nat → Nat) (k : Nat) : Prop := ∀ i j, i < n → j < k → a i ≠ b j
theorem kD_app {a b : Nat → Nat} {n k : Nat} {w1 w2 : va_W} (h1 : va_D (kA a n) w1) (h2 : va_D (kA b k) w2) (hx : kAp a n b k) : va_D (fun q => kA a n q ∨ kA b k q) (w1 ++ w2) := by
  refine (h1.weaken (B := fun q => kA a n q ∨ kA b k q) (fun _ _ _ h => Or.inl h)).app (h2.weaken (fun _ _ _ h => Or.inr h)) (fun i j p q hi hj e => ?_)
  obtain ⟨x, hx1, hx2⟩ := h1.2 i p hi
  obtain ⟨y, hy1, hy2⟩ := h2.2 j q hj
  exact hx x y hx1 hy1 (by rw [← hx2, ← hy2, e])
theorem kP_l {D : va_G} {cl : List vw_C} {w1 w2 : va_W} {H : Heap} (h : va_P D cl (w1 ++ w2) H) : va_P D cl w1 H := fun k q hk => h k q (by rw [List.getElem?_append_left (List.getElem?_eq_some_iff.mp hk).1]; exact hk)
theorem kP_r {D : va_G} {cl : List vw_C} {w1 w2 : va_W} {H : Heap} (h : va_P D cl (w1 ++ w2) H) : va_P D cl w2 H := fun k q hk => h (w1.length + k) q (by rw [List.getElem?_append_right (by omega), Nat.add_sub_cancel_left]; exact hk)
theorem kP_kept {D : va_G} {cl : List vw_C} {w : va_W} {A A1 : Nat → Prop} {H H1 : Heap} (h : va_P D cl w H) (hD : va_D A w) (hx : ∀ q, A q → ¬ A1 q) (hk : ∀ q : Nat, q < H.size → ¬ A1 q → H1[q]? = H[q]?) : va_P D cl w H1 := h.kept (fun k q hq => hk q.1 (h k q hq).lt (hx _ (hD.2 k q hq)))
/-! numbers -/
theorem ki_lt {a b : Int32} : a < b ↔ a.toInt < b.toInt := Int32.lt_iff_toInt_lt
theorem ki_le {a b : Int32} : a ≤ b ↔ a.toInt ≤ b.toInt := Int32.le_iff_toInt_le
/-- numbers of transactions, keys, what may stand in a cell -/
def tOK (t : Int32) : Prop := ∃ i : Nat, i < 12 ∧ t = nI i
def yOK (k : Int32) : Prop := ∃ i : Nat, i < 16 ∧ k = nI i
def nOK (x : Int32) : Prop := ∃ n : Nat, n ≤ 12 ∧ x = nI n
theorem tOK.in12 {t : Int32} (h : tOK t) : vp_in t 12 := by
  obtain ⟨i, hi, rfl⟩ := h
  exact vp_in_nI hi (by omega)
theorem tOK.nI {i : Nat} (h : i < 12) : tOK (nI i) := ⟨i, h, rfl⟩
theorem yOK.nI {i : Nat} (h : i < 16) : yOK (nI i) := ⟨i, h, rfl⟩
/-- below the number of them, in a loop -/
theorem nOK.lt {x : Int32} {i : Nat} (h : nOK x) (hi : i ≤ 12) (c : ¬ x ≤ nI i) : i < 12 := by
  obtain ⟨n, hn, rfl⟩ := h
  rcases Nat.lt_or_ge i n with q | q
  · omega
  · exact absurd (nI_le q (by omega)) c
theorem nOK.t {x t : Int32} (h : nOK x) (h0 : ¬ t < 0) (c : ¬ x ≤ t) : tOK t := by
  obtain ⟨n, hn, rfl⟩ := h
  obtain ⟨j, hj, rfl⟩ := nI_of h0
  rcases Nat.lt_or_ge j n with q | q
  · exact ⟨j, by omega, rfl⟩
  · exact absurd (nI_le q (by omega)) c
end
